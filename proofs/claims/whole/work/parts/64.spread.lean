set_option maxHeartbeats 4000000 in
set_option maxRecDepth 100000 in
theorem k_X6_xAt_e (l : Launch) (D : va_G) (sz : Nat) (h0 v1 v2 : Nat) (zs : Int32) (ga : Nat → Int32) (x : Int32) (cI : ClassId) (hzs : 0 ≤ zs.toInt ∧ zs.toInt ≤ 4096) : Met l yX6_xAt (wB yX6_xAt cX6_xAt 2 (some .int)) ({ frames := 0, cells := 0, slots := 0, locals := 0 }) (cP D [(h0, .inr (6, [.ref v1, .ref v2, .int zs])), (v1, .inl (cI, 4096, .inl ga))] [(cI, .int)] sz [.ref h0, .int x]) (va_Qi (fun (r : Int32) (_ : Unit) => r = if 0 ≤ x.toInt ∧ x.toInt < zs.toInt then pX (ga x.toNatClampNeg) else -1) (fun (_ : Unit) (t : State) => cB D (va_A [(h0, .inr (6, [.ref v1, .ref v2, .int zs])), (v1, .inl (cI, 4096, .inl ga))] sz) [(h0, .inr (6, [.ref v1, .ref v2, .int zs])), (v1, .inl (cI, 4096, .inl ga))] [(cI, .int)] t) (va_A [(h0, .inr (6, [.ref v1, .ref v2, .int zs])), (v1, .inl (cI, 4096, .inl ga))] sz)) 0 0 (va_A [(h0, .inr (6, [.ref v1, .ref v2, .int zs])), (v1, .inl (cI, 4096, .inl ga))] sz) := by
  refine Met.ofW (cc := cX6_xAt) (maxL := 2) (ret := (some .int)) (by decide) rfl ?_
  intro p e s m args below meth c s₁ B hml hv
  obtain ⟨rfl, hsz, hP, hK, hD0, hN⟩ := hv
  have hx := B.exec
  have hb := B.bytes
  have hr := B.returns
  have hts0 := atoms_spec (ws := (wB yX6_xAt cX6_xAt 2 (some .int))) B.pre
  have hts : ∀ w ∈ bigW, w.before _ s = true := fun w h => hts0 w (List.mem_cons_of_mem _ h)
  have hown : s.vm.findClass RX6 = some m.cls := findClass_of_methodNamed B.named
  have hlocks := B.notSynchronized
  subst hsz
  have hD := hD0.self (sz := s.heap.size)
  generalize hAe : va_A [(h0, .inr (6, [.ref v1, .ref v2, .int zs])), (v1, .inl (cI, 4096, .inl ga))] s.heap.size = A at hD ⊢
  have hA : ∀ q : Nat, s.heap.size ≤ q → A q := fun q h => by rw [← hAe]; exact Or.inr h
  have hS : va_S A s.heap s.heap [] := va_S.rf
  have hP : va_P D vwCl [(h0, .inr (6, [.ref v1, .ref v2, .int zs])), (v1, .inl (cI, 4096, .inl ga))] s.heap := hP
  have hl := lv_entry ([.ref h0, .int x]) (n := 2) (Nat.le_of_ble_eq_true rfl)
  rw [lg_entry_eq]
  generalize (lg_sl ([.ref h0, .int x]) ++ List.replicate (2 - (lg_sl ([.ref h0, .int x])).length) Slot.unset).toArray = ls at hl ⊢
  have hl : lv_has ls 2 [(0, .ref h0), (1, .int x)] := hl
  clear hts0 hD0 hAe
  refine my_abs (fun R Q hR hQ => ?_)
  refine lv_iload_n hx hb dX6_xAt_0 rfl (lv_at hl 1 rfl) ?_
  refine lv_if_lt (tgt := 24) hx hb dX6_xAt_1 (by decide) (fun c_1 => ?_) (fun c_1 => ?_)
  · skip
    have f_2 : x.toInt < 0 := f_lt rfl (by decide) c_1
    refine lv_iconst (v := (-1)) hx hb dX6_xAt_24 (by decide) ?_
    have hP9 := hP.sub (ws' := [(h0, .inr (6, [.ref v1, .ref v2, .int zs])), (v1, .inl (cI, 4096, .inl ga))]) [0, 1] rfl
    have hD9 := hD.sub (ws' := [(h0, .inr (6, [.ref v1, .ref v2, .int zs])), (v1, .inl (cI, 4096, .inl ga))]) [0, 1] (by decide) rfl
    have hK9 := hK.sub (tys' := [(cI, .int)]) [0] rfl
    refine hQ _ _ _ _ _ ?_
    exact W.iret (v := (-1)) hx hb hr (fun t ht hW => ⟨⟨(-1), (), rfl, (if_neg (by omega)).symm, ⟨by rw [ht]; exact hP9, va_K.moved hW.alike hK9, hD9⟩⟩, hS.F ht⟩) hS.2.2 dX6_xAt_25
  · skip
    have f_2 : ¬ (x.toInt < 0) := fn_lt rfl (by decide) c_1
    refine lv_iload_n hx hb dX6_xAt_4 rfl (lv_at hl 1 rfl) ?_
    refine lv_aload_n hx hb dX6_xAt_5 rfl (lv_at hl 0 rfl) ?_
    refine va_get (D := D) (ci := 6) (v := .int zs) (C := RX6) (T := TX6) (N := 3) hx hb hts hi_X6 hown hK hP 0 rfl rfl 2 (by decide) (hts _ bw_175) (fun _ h9 => h9) rfl dX6_xAt_6 ?_
    refine lv_icmp_ge (tgt := 24) hx hb dX6_xAt_9 (by decide) (fun c_3 => ?_) (fun c_3 => ?_)
    · skip
      have f_4 : zs.toInt ≤ x.toInt := f_le rfl rfl c_3
      refine lv_iconst (v := (-1)) hx hb dX6_xAt_24 (by decide) ?_
      have hP9 := hP.sub (ws' := [(h0, .inr (6, [.ref v1, .ref v2, .int zs])), (v1, .inl (cI, 4096, .inl ga))]) [0, 1] rfl
      have hD9 := hD.sub (ws' := [(h0, .inr (6, [.ref v1, .ref v2, .int zs])), (v1, .inl (cI, 4096, .inl ga))]) [0, 1] (by decide) rfl
      have hK9 := hK.sub (tys' := [(cI, .int)]) [0] rfl
      refine hQ _ _ _ _ _ ?_
      exact W.iret (v := (-1)) hx hb hr (fun t ht hW => ⟨⟨(-1), (), rfl, (if_neg (by omega)).symm, ⟨by rw [ht]; exact hP9, va_K.moved hW.alike hK9, hD9⟩⟩, hS.F ht⟩) hS.2.2 dX6_xAt_25
    · skip
      have f_4 : ¬ (zs.toInt ≤ x.toInt) := fn_le rfl rfl c_3
      refine lv_aload_n hx hb dX6_xAt_12 rfl (lv_at hl 0 rfl) ?_
      refine va_get (D := D) (ci := 6) (v := .ref v1) (C := RX6) (T := TX6) (N := 3) hx hb hts hi_X6 hown hK hP 0 rfl rfl 0 (by decide) (hts _ bw_173) (fun _ h9 => h9) rfl dX6_xAt_13 ?_
      refine lv_iload_n hx hb dX6_xAt_16 rfl (lv_at hl 1 rfl) ?_
      refine va_iald hx hb hK hP 1 0 rfl rfl (vp_in_iff.mpr ⟨by omega, by omega⟩) dX6_xAt_17 ?_
      refine lv_bipush (v := 64) hx hb dX6_xAt_18 (by decide) ?_
      refine lv_irem hx hb dX6_xAt_20 (by decide) ?_
      refine lv_topi (fun y_5 ey_5 => ?_)
      refine lv_goto (tgt := 25) hx hb dX6_xAt_21 (by decide) ?_
      have hP9 := hP.sub (ws' := [(h0, .inr (6, [.ref v1, .ref v2, .int zs])), (v1, .inl (cI, 4096, .inl ga))]) [0, 1] rfl
      have hD9 := hD.sub (ws' := [(h0, .inr (6, [.ref v1, .ref v2, .int zs])), (v1, .inl (cI, 4096, .inl ga))]) [0, 1] (by decide) rfl
      have hK9 := hK.sub (tys' := [(cI, .int)]) [0] rfl
      refine hQ _ _ _ _ _ ?_
      exact W.iret (v := y_5) hx hb hr (fun t ht hW => ⟨⟨y_5, (), rfl, (by subst_vars; exact (if_pos (by omega)).symm), ⟨by rw [ht]; exact hP9, va_K.moved hW.alike hK9, hD9⟩⟩, hS.F ht⟩) hS.2.2 dX6_xAt_25

set_option maxHeartbeats 4000000 in
set_option maxRecDepth 100000 in
theorem k_X6_yAt_e (l : Launch) (D : va_G) (sz : Nat) (h0 v1 v2 : Nat) (zs : Int32) (ga : Nat → Int32) (x : Int32) (cI : ClassId) (hzs : 0 ≤ zs.toInt ∧ zs.toInt ≤ 4096) : Met l yX6_yAt (wB yX6_yAt cX6_yAt 2 (some .int)) ({ frames := 0, cells := 0, slots := 0, locals := 0 }) (cP D [(h0, .inr (6, [.ref v1, .ref v2, .int zs])), (v1, .inl (cI, 4096, .inl ga))] [(cI, .int)] sz [.ref h0, .int x]) (va_Qi (fun (r : Int32) (_ : Unit) => r = if 0 ≤ x.toInt ∧ x.toInt < zs.toInt then pY (ga x.toNatClampNeg) else -1) (fun (_ : Unit) (t : State) => cB D (va_A [(h0, .inr (6, [.ref v1, .ref v2, .int zs])), (v1, .inl (cI, 4096, .inl ga))] sz) [(h0, .inr (6, [.ref v1, .ref v2, .int zs])), (v1, .inl (cI, 4096, .inl ga))] [(cI, .int)] t) (va_A [(h0, .inr (6, [.ref v1, .ref v2, .int zs])), (v1, .inl (cI, 4096, .inl ga))] sz)) 0 0 (va_A [(h0, .inr (6, [.ref v1, .ref v2, .int zs])), (v1, .inl (cI, 4096, .inl ga))] sz) := by
  refine Met.ofW (cc := cX6_yAt) (maxL := 2) (ret := (some .int)) (by decide) rfl ?_
  intro p e s m args below meth c s₁ B hml hv
  obtain ⟨rfl, hsz, hP, hK, hD0, hN⟩ := hv
  have hx := B.exec
  have hb := B.bytes
  have hr := B.returns
  have hts0 := atoms_spec (ws := (wB yX6_yAt cX6_yAt 2 (some .int))) B.pre
  have hts : ∀ w ∈ bigW, w.before _ s = true := fun w h => hts0 w (List.mem_cons_of_mem _ h)
  have hown : s.vm.findClass RX6 = some m.cls := findClass_of_methodNamed B.named
  have hlocks := B.notSynchronized
  subst hsz
  have hD := hD0.self (sz := s.heap.size)
  generalize hAe : va_A [(h0, .inr (6, [.ref v1, .ref v2, .int zs])), (v1, .inl (cI, 4096, .inl ga))] s.heap.size = A at hD ⊢
  have hA : ∀ q : Nat, s.heap.size ≤ q → A q := fun q h => by rw [← hAe]; exact Or.inr h
  have hS : va_S A s.heap s.heap [] := va_S.rf
  have hP : va_P D vwCl [(h0, .inr (6, [.ref v1, .ref v2, .int zs])), (v1, .inl (cI, 4096, .inl ga))] s.heap := hP
  have hl := lv_entry ([.ref h0, .int x]) (n := 2) (Nat.le_of_ble_eq_true rfl)
  rw [lg_entry_eq]
  generalize (lg_sl ([.ref h0, .int x]) ++ List.replicate (2 - (lg_sl ([.ref h0, .int x])).length) Slot.unset).toArray = ls at hl ⊢
  have hl : lv_has ls 2 [(0, .ref h0), (1, .int x)] := hl
  clear hts0 hD0 hAe
  refine my_abs (fun R Q hR hQ => ?_)
  refine lv_iload_n hx hb dX6_yAt_0 rfl (lv_at hl 1 rfl) ?_
  refine lv_if_lt (tgt := 24) hx hb dX6_yAt_1 (by decide) (fun c_1 => ?_) (fun c_1 => ?_)
  · skip
    have f_2 : x.toInt < 0 := f_lt rfl (by decide) c_1
    refine lv_iconst (v := (-1)) hx hb dX6_yAt_24 (by decide) ?_
    have hP9 := hP.sub (ws' := [(h0, .inr (6, [.ref v1, .ref v2, .int zs])), (v1, .inl (cI, 4096, .inl ga))]) [0, 1] rfl
    have hD9 := hD.sub (ws' := [(h0, .inr (6, [.ref v1, .ref v2, .int zs])), (v1, .inl (cI, 4096, .inl ga))]) [0, 1] (by decide) rfl
    have hK9 := hK.sub (tys' := [(cI, .int)]) [0] rfl
    refine hQ _ _ _ _ _ ?_
    exact W.iret (v := (-1)) hx hb hr (fun t ht hW => ⟨⟨(-1), (), rfl, (if_neg (by omega)).symm, ⟨by rw [ht]; exact hP9, va_K.moved hW.alike hK9, hD9⟩⟩, hS.F ht⟩) hS.2.2 dX6_yAt_25
  · skip
    have f_2 : ¬ (x.toInt < 0) := fn_lt rfl (by decide) c_1
    refine lv_iload_n hx hb dX6_yAt_4 rfl (lv_at hl 1 rfl) ?_
    refine lv_aload_n hx hb dX6_yAt_5 rfl (lv_at hl 0 rfl) ?_
    refine va_get (D := D) (ci := 6) (v := .int zs) (C := RX6) (T := TX6) (N := 3) hx hb hts hi_X6 hown hK hP 0 rfl rfl 2 (by decide) (hts _ bw_175) (fun _ h9 => h9) rfl dX6_yAt_6 ?_
    refine lv_icmp_ge (tgt := 24) hx hb dX6_yAt_9 (by decide) (fun c_3 => ?_) (fun c_3 => ?_)
    · skip
      have f_4 : zs.toInt ≤ x.toInt := f_le rfl rfl c_3
      refine lv_iconst (v := (-1)) hx hb dX6_yAt_24 (by decide) ?_
      have hP9 := hP.sub (ws' := [(h0, .inr (6, [.ref v1, .ref v2, .int zs])), (v1, .inl (cI, 4096, .inl ga))]) [0, 1] rfl
      have hD9 := hD.sub (ws' := [(h0, .inr (6, [.ref v1, .ref v2, .int zs])), (v1, .inl (cI, 4096, .inl ga))]) [0, 1] (by decide) rfl
      have hK9 := hK.sub (tys' := [(cI, .int)]) [0] rfl
      refine hQ _ _ _ _ _ ?_
      exact W.iret (v := (-1)) hx hb hr (fun t ht hW => ⟨⟨(-1), (), rfl, (if_neg (by omega)).symm, ⟨by rw [ht]; exact hP9, va_K.moved hW.alike hK9, hD9⟩⟩, hS.F ht⟩) hS.2.2 dX6_yAt_25
    · skip
      have f_4 : ¬ (zs.toInt ≤ x.toInt) := fn_le rfl rfl c_3
      refine lv_aload_n hx hb dX6_yAt_12 rfl (lv_at hl 0 rfl) ?_
      refine va_get (D := D) (ci := 6) (v := .ref v1) (C := RX6) (T := TX6) (N := 3) hx hb hts hi_X6 hown hK hP 0 rfl rfl 0 (by decide) (hts _ bw_173) (fun _ h9 => h9) rfl dX6_yAt_13 ?_
      refine lv_iload_n hx hb dX6_yAt_16 rfl (lv_at hl 1 rfl) ?_
      refine va_iald hx hb hK hP 1 0 rfl rfl (vp_in_iff.mpr ⟨by omega, by omega⟩) dX6_yAt_17 ?_
      refine lv_bipush (v := 64) hx hb dX6_yAt_18 (by decide) ?_
      refine lv_idiv hx hb dX6_yAt_20 (by decide) ?_
      refine lv_topi (fun y_5 ey_5 => ?_)
      refine lv_goto (tgt := 25) hx hb dX6_yAt_21 (by decide) ?_
      have hP9 := hP.sub (ws' := [(h0, .inr (6, [.ref v1, .ref v2, .int zs])), (v1, .inl (cI, 4096, .inl ga))]) [0, 1] rfl
      have hD9 := hD.sub (ws' := [(h0, .inr (6, [.ref v1, .ref v2, .int zs])), (v1, .inl (cI, 4096, .inl ga))]) [0, 1] (by decide) rfl
      have hK9 := hK.sub (tys' := [(cI, .int)]) [0] rfl
      refine hQ _ _ _ _ _ ?_
      exact W.iret (v := y_5) hx hb hr (fun t ht hW => ⟨⟨y_5, (), rfl, (by subst_vars; exact (if_pos (by omega)).symm), ⟨by rw [ht]; exact hP9, va_K.moved hW.alike hK9, hD9⟩⟩, hS.F ht⟩) hS.2.2 dX6_yAt_25

set_option maxHeartbeats 4000000 in
set_option maxRecDepth 100000 in
theorem k_X6_reach_e (l : Launch) (D : va_G) (sz : Nat) (h0 v1 v2 t0 d0 lb : Nat) (zs : Int32) (ga : Nat → Int32) (gb : Nat → Int32) (w h : Int32) (g : Nat → Int32) (bx0 by0 bx1 by1 : Int32) (x y vl : Int32) (S9 : Nat) (cI : ClassId) (hzs : zs = nI S9) (hS9 : S9 ≤ 4096) (hzt : zs.toInt = (S9 : Int)) (hw : w.toInt ≤ 64) (hh : h.toInt ≤ 64) : Met l yX6_reach (wB yX6_reach cX6_reach 7 none) ({ frames := 2, cells := 0, slots := 0, locals := 44 }) (cP D [(h0, .inr (6, [.ref v1, .ref v2, .int zs])), (v1, .inl (cI, 4096, .inl ga)), (v2, .inl (cI, 4096, .inl gb)), (t0, .inr (5, [.ref d0, .int w, .int h])), (d0, .inl (cI, 4096, .inl g)), (lb, .inr (0, [.int bx0, .int by0, .int bx1, .int by1]))] [(cI, .int)] sz [.ref h0, .ref t0, .ref lb, .int x, .int y, .int vl]) (va_Qv (fun (_ : Unit) => True) (fun (_ : Unit) (t : State) => cB D (va_A [(h0, .inr (6, [.ref v1, .ref v2, .int zs])), (v1, .inl (cI, 4096, .inl ga)), (v2, .inl (cI, 4096, .inl gb)), (t0, .inr (5, [.ref d0, .int w, .int h])), (d0, .inl (cI, 4096, .inl g)), (lb, .inr (0, [.int bx0, .int by0, .int bx1, .int by1]))] sz) [(h0, .inr (6, [.ref v1, .ref v2, .int (nI (rcS (opnC w h bx0 by0 bx1 by1) g vl x y (gb, ga, S9)).2.2)])), (v1, .inl (cI, 4096, .inl ((rcS (opnC w h bx0 by0 bx1 by1) g vl x y (gb, ga, S9)).2.1))), (v2, .inl (cI, 4096, .inl ((rcS (opnC w h bx0 by0 bx1 by1) g vl x y (gb, ga, S9)).1))), (t0, .inr (5, [.ref d0, .int w, .int h])), (d0, .inl (cI, 4096, .inl g)), (lb, .inr (0, [.int bx0, .int by0, .int bx1, .int by1]))] [(cI, .int)] t) (va_A [(h0, .inr (6, [.ref v1, .ref v2, .int zs])), (v1, .inl (cI, 4096, .inl ga)), (v2, .inl (cI, 4096, .inl gb)), (t0, .inr (5, [.ref d0, .int w, .int h])), (d0, .inl (cI, 4096, .inl g)), (lb, .inr (0, [.int bx0, .int by0, .int bx1, .int by1]))] sz)) 0 0 (va_A [(h0, .inr (6, [.ref v1, .ref v2, .int zs])), (v1, .inl (cI, 4096, .inl ga)), (v2, .inl (cI, 4096, .inl gb)), (t0, .inr (5, [.ref d0, .int w, .int h])), (d0, .inl (cI, 4096, .inl g)), (lb, .inr (0, [.int bx0, .int by0, .int bx1, .int by1]))] sz) := by
  refine Met.ofW (cc := cX6_reach) (maxL := 7) (ret := none) (by decide) rfl ?_
  intro p e s m args below meth c s₁ B hml hv
  obtain ⟨rfl, hsz, hP, hK, hD0, hN⟩ := hv
  have hx := B.exec
  have hb := B.bytes
  have hr := B.returns
  have hts0 := atoms_spec (ws := (wB yX6_reach cX6_reach 7 none)) B.pre
  have hts : ∀ w ∈ bigW, w.before _ s = true := fun w h => hts0 w (List.mem_cons_of_mem _ h)
  have hown : s.vm.findClass RX6 = some m.cls := findClass_of_methodNamed B.named
  have hlocks := B.notSynchronized
  subst hsz
  have hD := hD0.self (sz := s.heap.size)
  generalize hAe : va_A [(h0, .inr (6, [.ref v1, .ref v2, .int zs])), (v1, .inl (cI, 4096, .inl ga)), (v2, .inl (cI, 4096, .inl gb)), (t0, .inr (5, [.ref d0, .int w, .int h])), (d0, .inl (cI, 4096, .inl g)), (lb, .inr (0, [.int bx0, .int by0, .int bx1, .int by1]))] s.heap.size = A at hD ⊢
  have hA : ∀ q : Nat, s.heap.size ≤ q → A q := fun q h => by rw [← hAe]; exact Or.inr h
  have hS : va_S A s.heap s.heap [] := va_S.rf
  have hP : va_P D vwCl [(h0, .inr (6, [.ref v1, .ref v2, .int zs])), (v1, .inl (cI, 4096, .inl ga)), (v2, .inl (cI, 4096, .inl gb)), (t0, .inr (5, [.ref d0, .int w, .int h])), (d0, .inl (cI, 4096, .inl g)), (lb, .inr (0, [.int bx0, .int by0, .int bx1, .int by1]))] s.heap := hP
  have hl := lv_entry ([.ref h0, .ref t0, .ref lb, .int x, .int y, .int vl]) (n := 7) (Nat.le_of_ble_eq_true rfl)
  rw [lg_entry_eq]
  generalize (lg_sl ([.ref h0, .ref t0, .ref lb, .int x, .int y, .int vl]) ++ List.replicate (7 - (lg_sl ([.ref h0, .ref t0, .ref lb, .int x, .int y, .int vl])).length) Slot.unset).toArray = ls at hl ⊢
  have hl : lv_has ls 7 [(0, .ref h0), (1, .ref t0), (2, .ref lb), (3, .int x), (4, .int y), (5, .int vl)] := hl
  clear hts0 hD0 hAe
  refine my_abs (fun R Q hR hQ => ?_)
  refine lv_aload_n hx hb dX6_reach_0 rfl (lv_at hl 1 rfl) ?_
  refine lv_iload_n hx hb dX6_reach_1 rfl (lv_at hl 3 rfl) ?_
  refine lv_iload hx hb dX6_reach_2 (lv_at hl 4 rfl) ?_
  have hPc := hP.sub (ws' := [(t0, .inr (5, [.ref d0, .int w, .int h]))]) [3] rfl
  have hDc := hD.sub (ws' := [(t0, .inr (5, [.ref d0, .int w, .int h]))]) [3] (by decide) rfl
  have hKc := hK.sub (tys' := []) [] rfl
  have hFc := va_free (wc := [(t0, .inr (5, [.ref d0, .int w, .int h]))]) hD hS hA [3] rfl
  refine va_calli (va_runV (As := [.int x, .int y]) (rest := []) ⟨hx, hb, hml, hown, hts⟩ (k_X5_has l D s.heap.size t0 d0 w h x y) (cwV 2 hts (gV bw_193 bw_150 bw_151 bw_130 bw_149) rfl rfl rfl (by decide +kernel) ⟨(by rw [hR]; exact Nat.le_of_ble_eq_true rfl), (by rw [hR]; exact Nat.le_of_ble_eq_true rfl)⟩) ⟨cP_blind, va_recv hKc hPc (ci := 5) (q0 := 0) rfl rfl, cP_at hPc hKc hDc hN⟩ rfl rfl hl.1 rfl (lv_room (Nat.le_of_ble_eq_true rfl)) dX6_reach_4 ⟨(by rw [hR]; exact Nat.le_of_ble_eq_true rfl), (by rw [hR]; exact Nat.le_of_ble_eq_true rfl)⟩) hS (fun q _ h => hFc q h) hFc (fun r_1 u9 t9 H1 locs ht hvm hr_1 hB hz1 hk1 hS => ?_)
  try dsimp only at hr_1
  obtain ⟨hP1, hK1, hD1⟩ := hB
  rw [ht] at hP1
  obtain ⟨hP, hD⟩ := va_join (wr := [(h0, .inr (6, [.ref v1, .ref v2, .int zs])), (v1, .inl (cI, 4096, .inl ga)), (v2, .inl (cI, 4096, .inl gb)), (d0, .inl (cI, 4096, .inl g)), (lb, .inr (0, [.int bx0, .int by0, .int bx1, .int by1]))]) (w1 := [(t0, .inr (5, [.ref d0, .int w, .int h]))]) hP hD [3] [0, 1, 2, 4, 5] rfl rfl (by decide) (by decide) hk1 hFc hP1 hD1
  clear hz1 hk1 hFc hKc hDc hPc
  generalize H1 = H at hP hS ⊢
  have hP : va_P D vwCl [(h0, .inr (6, [.ref v1, .ref v2, .int zs])), (v1, .inl (cI, 4096, .inl ga)), (v2, .inl (cI, 4096, .inl gb)), (d0, .inl (cI, 4096, .inl g)), (lb, .inr (0, [.int bx0, .int by0, .int bx1, .int by1])), (t0, .inr (5, [.ref d0, .int w, .int h]))] H := hP
  have hD : va_D A [(h0, .inr (6, [.ref v1, .ref v2, .int zs])), (v1, .inl (cI, 4096, .inl ga)), (v2, .inl (cI, 4096, .inl gb)), (d0, .inl (cI, 4096, .inl g)), (lb, .inr (0, [.int bx0, .int by0, .int bx1, .int by1])), (t0, .inr (5, [.ref d0, .int w, .int h]))] := hD
  refine lv_if_eq (tgt := 32) hx hb dX6_reach_7 (by decide) (fun c_2 => ?_) (fun c_2 => ?_)
  · skip
    have f_3 := bz0 hr_1 c_2
    have hRC : (rcS (opnC w h bx0 by0 bx1 by1) g vl x y (gb, ga, S9)) = (gb, ga, S9) := if_neg (fun q => by have := q.1.1; omega)
    have hP : va_P D vwCl [(h0, .inr (6, [.ref v1, .ref v2, .int (nI (rcS (opnC w h bx0 by0 bx1 by1) g vl x y (gb, ga, S9)).2.2)])), (v1, .inl (cI, 4096, .inl ((rcS (opnC w h bx0 by0 bx1 by1) g vl x y (gb, ga, S9)).2.1))), (v2, .inl (cI, 4096, .inl ((rcS (opnC w h bx0 by0 bx1 by1) g vl x y (gb, ga, S9)).1))), (d0, .inl (cI, 4096, .inl g)), (lb, .inr (0, [.int bx0, .int by0, .int bx1, .int by1])), (t0, .inr (5, [.ref d0, .int w, .int h]))] H := by rw [hRC]; dsimp only; rw [← hzs]; exact hP
    have hD : va_D A [(h0, .inr (6, [.ref v1, .ref v2, .int (nI (rcS (opnC w h bx0 by0 bx1 by1) g vl x y (gb, ga, S9)).2.2)])), (v1, .inl (cI, 4096, .inl ((rcS (opnC w h bx0 by0 bx1 by1) g vl x y (gb, ga, S9)).2.1))), (v2, .inl (cI, 4096, .inl ((rcS (opnC w h bx0 by0 bx1 by1) g vl x y (gb, ga, S9)).1))), (d0, .inl (cI, 4096, .inl g)), (lb, .inr (0, [.int bx0, .int by0, .int bx1, .int by1])), (t0, .inr (5, [.ref d0, .int w, .int h]))] := by rw [hRC]; dsimp only; rw [← hzs]; exact hD
    have hP9 := hP.sub (ws' := [(h0, .inr (6, [.ref v1, .ref v2, .int (nI (rcS (opnC w h bx0 by0 bx1 by1) g vl x y (gb, ga, S9)).2.2)])), (v1, .inl (cI, 4096, .inl ((rcS (opnC w h bx0 by0 bx1 by1) g vl x y (gb, ga, S9)).2.1))), (v2, .inl (cI, 4096, .inl ((rcS (opnC w h bx0 by0 bx1 by1) g vl x y (gb, ga, S9)).1))), (t0, .inr (5, [.ref d0, .int w, .int h])), (d0, .inl (cI, 4096, .inl g)), (lb, .inr (0, [.int bx0, .int by0, .int bx1, .int by1]))]) [0, 1, 2, 5, 3, 4] rfl
    have hD9 := hD.sub (ws' := [(h0, .inr (6, [.ref v1, .ref v2, .int (nI (rcS (opnC w h bx0 by0 bx1 by1) g vl x y (gb, ga, S9)).2.2)])), (v1, .inl (cI, 4096, .inl ((rcS (opnC w h bx0 by0 bx1 by1) g vl x y (gb, ga, S9)).2.1))), (v2, .inl (cI, 4096, .inl ((rcS (opnC w h bx0 by0 bx1 by1) g vl x y (gb, ga, S9)).1))), (t0, .inr (5, [.ref d0, .int w, .int h])), (d0, .inl (cI, 4096, .inl g)), (lb, .inr (0, [.int bx0, .int by0, .int bx1, .int by1]))]) [0, 1, 2, 5, 3, 4] (by decide) rfl
    have hK9 := hK.sub (tys' := [(cI, .int)]) [0] rfl
    refine hQ _ _ _ _ _ ?_
    exact W.vret hx hb hr (fun t ht hW => ⟨⟨(), rfl, trivial, ⟨by rw [ht]; exact hP9, va_K.moved hW.alike hK9, hD9⟩⟩, hS.F ht⟩) hS.2.2 dX6_reach_32
  · skip
    have f_3 := bz1 hr_1 c_2
    refine lv_aload_n hx hb dX6_reach_10 rfl (lv_at hl 2 rfl) ?_
    refine lv_iload_n hx hb dX6_reach_11 rfl (lv_at hl 3 rfl) ?_
    refine lv_iload hx hb dX6_reach_12 (lv_at hl 4 rfl) ?_
    have hPc := hP.sub (ws' := [(lb, .inr (0, [.int bx0, .int by0, .int bx1, .int by1]))]) [4] rfl
    have hDc := hD.sub (ws' := [(lb, .inr (0, [.int bx0, .int by0, .int bx1, .int by1]))]) [4] (by decide) rfl
    have hKc := hK.sub (tys' := []) [] rfl
    have hFc := va_free (wc := [(lb, .inr (0, [.int bx0, .int by0, .int bx1, .int by1]))]) hD hS hA [4] rfl
    refine va_calli (va_runV (As := [.int x, .int y]) (rest := []) ⟨hx, hb, hml, hown, hts⟩ (k_X0_holds l D H.size lb bx0 by0 bx1 by1 x y) (cwV 2 hts (gV bw_194 bw_17 bw_18 bw_4 bw_16) rfl rfl rfl (by decide +kernel) ⟨(by rw [hR]; exact Nat.le_of_ble_eq_true rfl), (by rw [hR]; exact Nat.le_of_ble_eq_true rfl)⟩) ⟨cP_blind, va_recv hKc hPc (ci := 0) (q0 := 0) rfl rfl, cP_at hPc hKc hDc hN⟩ rfl rfl hl.1 rfl (lv_room (Nat.le_of_ble_eq_true rfl)) dX6_reach_14 ⟨(by rw [hR]; exact Nat.le_of_ble_eq_true rfl), (by rw [hR]; exact Nat.le_of_ble_eq_true rfl)⟩) hS (fun q _ h => hFc q h) hFc (fun r_4 u9 t9 H1 locs ht hvm hr_4 hB hz1 hk1 hS => ?_)
    try dsimp only at hr_4
    obtain ⟨hP1, hK1, hD1⟩ := hB
    rw [ht] at hP1
    obtain ⟨hP, hD⟩ := va_join (wr := [(h0, .inr (6, [.ref v1, .ref v2, .int zs])), (v1, .inl (cI, 4096, .inl ga)), (v2, .inl (cI, 4096, .inl gb)), (d0, .inl (cI, 4096, .inl g)), (t0, .inr (5, [.ref d0, .int w, .int h]))]) (w1 := [(lb, .inr (0, [.int bx0, .int by0, .int bx1, .int by1]))]) hP hD [4] [0, 1, 2, 3, 5] rfl rfl (by decide) (by decide) hk1 hFc hP1 hD1
    clear hz1 hk1 hFc hKc hDc hPc
    generalize H1 = H at hP hS ⊢
    have hP : va_P D vwCl [(h0, .inr (6, [.ref v1, .ref v2, .int zs])), (v1, .inl (cI, 4096, .inl ga)), (v2, .inl (cI, 4096, .inl gb)), (d0, .inl (cI, 4096, .inl g)), (t0, .inr (5, [.ref d0, .int w, .int h])), (lb, .inr (0, [.int bx0, .int by0, .int bx1, .int by1]))] H := hP
    have hD : va_D A [(h0, .inr (6, [.ref v1, .ref v2, .int zs])), (v1, .inl (cI, 4096, .inl ga)), (v2, .inl (cI, 4096, .inl gb)), (d0, .inl (cI, 4096, .inl g)), (t0, .inr (5, [.ref d0, .int w, .int h])), (lb, .inr (0, [.int bx0, .int by0, .int bx1, .int by1]))] := hD
    refine lv_if_eq (tgt := 32) hx hb dX6_reach_17 (by decide) (fun c_5 => ?_) (fun c_5 => ?_)
    · skip
      have f_6 := bz0 hr_4 c_5
      have hRC : (rcS (opnC w h bx0 by0 bx1 by1) g vl x y (gb, ga, S9)) = (gb, ga, S9) := if_neg (fun q => by have := q.1.1; omega)
      have hP : va_P D vwCl [(h0, .inr (6, [.ref v1, .ref v2, .int (nI (rcS (opnC w h bx0 by0 bx1 by1) g vl x y (gb, ga, S9)).2.2)])), (v1, .inl (cI, 4096, .inl ((rcS (opnC w h bx0 by0 bx1 by1) g vl x y (gb, ga, S9)).2.1))), (v2, .inl (cI, 4096, .inl ((rcS (opnC w h bx0 by0 bx1 by1) g vl x y (gb, ga, S9)).1))), (d0, .inl (cI, 4096, .inl g)), (t0, .inr (5, [.ref d0, .int w, .int h])), (lb, .inr (0, [.int bx0, .int by0, .int bx1, .int by1]))] H := by rw [hRC]; dsimp only; rw [← hzs]; exact hP
      have hD : va_D A [(h0, .inr (6, [.ref v1, .ref v2, .int (nI (rcS (opnC w h bx0 by0 bx1 by1) g vl x y (gb, ga, S9)).2.2)])), (v1, .inl (cI, 4096, .inl ((rcS (opnC w h bx0 by0 bx1 by1) g vl x y (gb, ga, S9)).2.1))), (v2, .inl (cI, 4096, .inl ((rcS (opnC w h bx0 by0 bx1 by1) g vl x y (gb, ga, S9)).1))), (d0, .inl (cI, 4096, .inl g)), (t0, .inr (5, [.ref d0, .int w, .int h])), (lb, .inr (0, [.int bx0, .int by0, .int bx1, .int by1]))] := by rw [hRC]; dsimp only; rw [← hzs]; exact hD
      have hP9 := hP.sub (ws' := [(h0, .inr (6, [.ref v1, .ref v2, .int (nI (rcS (opnC w h bx0 by0 bx1 by1) g vl x y (gb, ga, S9)).2.2)])), (v1, .inl (cI, 4096, .inl ((rcS (opnC w h bx0 by0 bx1 by1) g vl x y (gb, ga, S9)).2.1))), (v2, .inl (cI, 4096, .inl ((rcS (opnC w h bx0 by0 bx1 by1) g vl x y (gb, ga, S9)).1))), (t0, .inr (5, [.ref d0, .int w, .int h])), (d0, .inl (cI, 4096, .inl g)), (lb, .inr (0, [.int bx0, .int by0, .int bx1, .int by1]))]) [0, 1, 2, 4, 3, 5] rfl
      have hD9 := hD.sub (ws' := [(h0, .inr (6, [.ref v1, .ref v2, .int (nI (rcS (opnC w h bx0 by0 bx1 by1) g vl x y (gb, ga, S9)).2.2)])), (v1, .inl (cI, 4096, .inl ((rcS (opnC w h bx0 by0 bx1 by1) g vl x y (gb, ga, S9)).2.1))), (v2, .inl (cI, 4096, .inl ((rcS (opnC w h bx0 by0 bx1 by1) g vl x y (gb, ga, S9)).1))), (t0, .inr (5, [.ref d0, .int w, .int h])), (d0, .inl (cI, 4096, .inl g)), (lb, .inr (0, [.int bx0, .int by0, .int bx1, .int by1]))]) [0, 1, 2, 4, 3, 5] (by decide) rfl
      have hK9 := hK.sub (tys' := [(cI, .int)]) [0] rfl
      refine hQ _ _ _ _ _ ?_
      exact W.vret hx hb hr (fun t ht hW => ⟨⟨(), rfl, trivial, ⟨by rw [ht]; exact hP9, va_K.moved hW.alike hK9, hD9⟩⟩, hS.F ht⟩) hS.2.2 dX6_reach_32
    · skip
      have f_6 := bz1 hr_4 c_5
      refine lv_aload_n hx hb dX6_reach_20 rfl (lv_at hl 1 rfl) ?_
      refine lv_iload_n hx hb dX6_reach_21 rfl (lv_at hl 3 rfl) ?_
      refine lv_iload hx hb dX6_reach_22 (lv_at hl 4 rfl) ?_
      have hPc := hP.sub (ws' := [(t0, .inr (5, [.ref d0, .int w, .int h])), (d0, .inl (cI, 4096, .inl g))]) [4, 3] rfl
      have hDc := hD.sub (ws' := [(t0, .inr (5, [.ref d0, .int w, .int h])), (d0, .inl (cI, 4096, .inl g))]) [4, 3] (by decide) rfl
      have hKc := hK.sub (tys' := [(cI, .int)]) [0] rfl
      have hFc := va_free (wc := [(t0, .inr (5, [.ref d0, .int w, .int h])), (d0, .inl (cI, 4096, .inl g))]) hD hS hA [4, 3] rfl
      refine va_calli (va_runV (As := [.int x, .int y]) (rest := []) ⟨hx, hb, hml, hown, hts⟩ (k_X5_at l D H.size t0 d0 w h g x y cI (by first | assumption | omega | decide) (by first | assumption | omega | decide)) (cwV 2 hts (gV bw_180 bw_153 bw_154 bw_130 bw_152) rfl rfl rfl (by decide +kernel) ⟨(by rw [hR]; exact Nat.le_of_ble_eq_true rfl), (by rw [hR]; exact Nat.le_of_ble_eq_true rfl)⟩) ⟨cP_blind, va_recv hKc hPc (ci := 5) (q0 := 0) rfl rfl, cP_at hPc hKc hDc hN⟩ rfl rfl hl.1 rfl (lv_room (Nat.le_of_ble_eq_true rfl)) dX6_reach_24 ⟨(by rw [hR]; exact Nat.le_of_ble_eq_true rfl), (by rw [hR]; exact Nat.le_of_ble_eq_true rfl)⟩) hS (fun q _ h => hFc q h) hFc (fun r_7 u9 t9 H1 locs ht hvm hr_7 hB hz1 hk1 hS => ?_)
      try dsimp only at hr_7
      obtain ⟨hP1, hK1, hD1⟩ := hB
      rw [ht] at hP1
      obtain ⟨hP, hD⟩ := va_join (wr := [(h0, .inr (6, [.ref v1, .ref v2, .int zs])), (v1, .inl (cI, 4096, .inl ga)), (v2, .inl (cI, 4096, .inl gb)), (lb, .inr (0, [.int bx0, .int by0, .int bx1, .int by1]))]) (w1 := [(t0, .inr (5, [.ref d0, .int w, .int h])), (d0, .inl (cI, 4096, .inl g))]) hP hD [4, 3] [0, 1, 2, 5] rfl rfl (by decide) (by decide) hk1 hFc hP1 hD1
      clear hz1 hk1 hFc hKc hDc hPc
      generalize H1 = H at hP hS ⊢
      have hP : va_P D vwCl [(h0, .inr (6, [.ref v1, .ref v2, .int zs])), (v1, .inl (cI, 4096, .inl ga)), (v2, .inl (cI, 4096, .inl gb)), (lb, .inr (0, [.int bx0, .int by0, .int bx1, .int by1])), (t0, .inr (5, [.ref d0, .int w, .int h])), (d0, .inl (cI, 4096, .inl g))] H := hP
      have hD : va_D A [(h0, .inr (6, [.ref v1, .ref v2, .int zs])), (v1, .inl (cI, 4096, .inl ga)), (v2, .inl (cI, 4096, .inl gb)), (lb, .inr (0, [.int bx0, .int by0, .int bx1, .int by1])), (t0, .inr (5, [.ref d0, .int w, .int h])), (d0, .inl (cI, 4096, .inl g))] := hD
      have hva : r_7 = g (ixP x y) := by rw [hr_7, if_pos (by omega)]
      refine lv_iload hx hb dX6_reach_27 (lv_at hl 5 rfl) ?_
      refine lv_icmp_eq (tgt := 33) hx hb dX6_reach_29 (by decide) (fun c_8 => ?_) (fun c_8 => ?_)
      · skip
        have f_9 : r_7.toInt = vl.toInt := f_eq rfl rfl c_8
        refine lv_iload hx hb dX6_reach_33 (lv_at hl 4 rfl) ?_
        refine lv_bipush (v := 64) hx hb dX6_reach_35 (by decide) ?_
        refine lv_imul hx hb dX6_reach_37 ?_
        refine lv_topi (fun y_10 ey_10 => ?_)
        refine lv_iload_n hx hb dX6_reach_38 rfl (lv_at hl 3 rfl) ?_
        refine lv_iadd hx hb dX6_reach_39 ?_
        refine lv_topi (fun y_11 ey_11 => ?_)
        refine lv_istore (lv' := [(6, .int y_11), (0, .ref h0), (1, .ref t0), (2, .ref lb), (3, .int x), (4, .int y), (5, .int vl)]) hx hb dX6_reach_40 hl (by decide) rfl (fun ls hl => ?_)
        refine lv_aload_n hx hb dX6_reach_42 rfl (lv_at hl 1 rfl) ?_
        refine va_get (D := D) (ci := 6) (v := .ref v2) (C := RX6) (T := TX6) (N := 3) hx hb hts hi_X6 hown hK hP 0 rfl rfl 1 (by decide) (hts _ bw_174) (fun _ h9 => h9) rfl dX6_reach_43 ?_
        refine lv_iload hx hb dX6_reach_46 (lv_at hl 0 rfl) ?_
        have hix0 : y_11.toNatClampNeg = ixP x y := by rw [ey_11, ey_10]; exact ix_cl (by omega) (by omega) (by omega) (by omega)
        refine va_iald hx hb hK hP 2 0 rfl rfl (by rw [ey_11, ey_10]; exact ix_in (by omega) (by omega) (by omega) (by omega)) dX6_reach_48 ?_
        refine lv_if_ne (tgt := 91) hx hb dX6_reach_49 (by decide) (fun c_12 => ?_) (fun c_12 => ?_)
        · skip
          have f_13 : ¬ ((gb y_11.toNatClampNeg).toInt = 0) := fn_eq rfl (by decide) c_12
          have hRC : (rcS (opnC w h bx0 by0 bx1 by1) g vl x y (gb, ga, S9)) = (gb, ga, S9) := if_neg (fun q => c_12 (by rw [hix0]; exact q.2.1))
          have hP : va_P D vwCl [(h0, .inr (6, [.ref v1, .ref v2, .int (nI (rcS (opnC w h bx0 by0 bx1 by1) g vl x y (gb, ga, S9)).2.2)])), (v1, .inl (cI, 4096, .inl ((rcS (opnC w h bx0 by0 bx1 by1) g vl x y (gb, ga, S9)).2.1))), (v2, .inl (cI, 4096, .inl ((rcS (opnC w h bx0 by0 bx1 by1) g vl x y (gb, ga, S9)).1))), (lb, .inr (0, [.int bx0, .int by0, .int bx1, .int by1])), (t0, .inr (5, [.ref d0, .int w, .int h])), (d0, .inl (cI, 4096, .inl g))] H := by rw [hRC]; dsimp only; rw [← hzs]; exact hP
          have hD : va_D A [(h0, .inr (6, [.ref v1, .ref v2, .int (nI (rcS (opnC w h bx0 by0 bx1 by1) g vl x y (gb, ga, S9)).2.2)])), (v1, .inl (cI, 4096, .inl ((rcS (opnC w h bx0 by0 bx1 by1) g vl x y (gb, ga, S9)).2.1))), (v2, .inl (cI, 4096, .inl ((rcS (opnC w h bx0 by0 bx1 by1) g vl x y (gb, ga, S9)).1))), (lb, .inr (0, [.int bx0, .int by0, .int bx1, .int by1])), (t0, .inr (5, [.ref d0, .int w, .int h])), (d0, .inl (cI, 4096, .inl g))] := by rw [hRC]; dsimp only; rw [← hzs]; exact hD
          have hP9 := hP.sub (ws' := [(h0, .inr (6, [.ref v1, .ref v2, .int (nI (rcS (opnC w h bx0 by0 bx1 by1) g vl x y (gb, ga, S9)).2.2)])), (v1, .inl (cI, 4096, .inl ((rcS (opnC w h bx0 by0 bx1 by1) g vl x y (gb, ga, S9)).2.1))), (v2, .inl (cI, 4096, .inl ((rcS (opnC w h bx0 by0 bx1 by1) g vl x y (gb, ga, S9)).1))), (t0, .inr (5, [.ref d0, .int w, .int h])), (d0, .inl (cI, 4096, .inl g)), (lb, .inr (0, [.int bx0, .int by0, .int bx1, .int by1]))]) [0, 1, 2, 4, 5, 3] rfl
          have hD9 := hD.sub (ws' := [(h0, .inr (6, [.ref v1, .ref v2, .int (nI (rcS (opnC w h bx0 by0 bx1 by1) g vl x y (gb, ga, S9)).2.2)])), (v1, .inl (cI, 4096, .inl ((rcS (opnC w h bx0 by0 bx1 by1) g vl x y (gb, ga, S9)).2.1))), (v2, .inl (cI, 4096, .inl ((rcS (opnC w h bx0 by0 bx1 by1) g vl x y (gb, ga, S9)).1))), (t0, .inr (5, [.ref d0, .int w, .int h])), (d0, .inl (cI, 4096, .inl g)), (lb, .inr (0, [.int bx0, .int by0, .int bx1, .int by1]))]) [0, 1, 2, 4, 5, 3] (by decide) rfl
          have hK9 := hK.sub (tys' := [(cI, .int)]) [0] rfl
          refine hQ _ _ _ _ _ ?_
          exact W.vret hx hb hr (fun t ht hW => ⟨⟨(), rfl, trivial, ⟨by rw [ht]; exact hP9, va_K.moved hW.alike hK9, hD9⟩⟩, hS.F ht⟩) hS.2.2 dX6_reach_91
        · skip
          have f_13 : (gb y_11.toNatClampNeg).toInt = 0 := f_eq rfl (by decide) c_12
          refine lv_aload_n hx hb dX6_reach_52 rfl (lv_at hl 1 rfl) ?_
          refine va_get (D := D) (ci := 6) (v := .int zs) (C := RX6) (T := TX6) (N := 3) hx hb hts hi_X6 hown hK hP 0 rfl rfl 2 (by decide) (hts _ bw_175) (fun _ h9 => h9) rfl dX6_reach_53 ?_
          refine lv_sipush (v := 4096) hx hb dX6_reach_56 (by decide) ?_
          refine lv_icmp_ge (tgt := 91) hx hb dX6_reach_59 (by decide) (fun c_14 => ?_) (fun c_14 => ?_)
          · skip
            have f_15 : 4096 ≤ zs.toInt := f_le (by decide) rfl c_14
            have hRC : (rcS (opnC w h bx0 by0 bx1 by1) g vl x y (gb, ga, S9)) = (gb, ga, S9) := if_neg (fun q => by have := q.2.2; dsimp only at this; omega)
            have hP : va_P D vwCl [(h0, .inr (6, [.ref v1, .ref v2, .int (nI (rcS (opnC w h bx0 by0 bx1 by1) g vl x y (gb, ga, S9)).2.2)])), (v1, .inl (cI, 4096, .inl ((rcS (opnC w h bx0 by0 bx1 by1) g vl x y (gb, ga, S9)).2.1))), (v2, .inl (cI, 4096, .inl ((rcS (opnC w h bx0 by0 bx1 by1) g vl x y (gb, ga, S9)).1))), (lb, .inr (0, [.int bx0, .int by0, .int bx1, .int by1])), (t0, .inr (5, [.ref d0, .int w, .int h])), (d0, .inl (cI, 4096, .inl g))] H := by rw [hRC]; dsimp only; rw [← hzs]; exact hP
            have hD : va_D A [(h0, .inr (6, [.ref v1, .ref v2, .int (nI (rcS (opnC w h bx0 by0 bx1 by1) g vl x y (gb, ga, S9)).2.2)])), (v1, .inl (cI, 4096, .inl ((rcS (opnC w h bx0 by0 bx1 by1) g vl x y (gb, ga, S9)).2.1))), (v2, .inl (cI, 4096, .inl ((rcS (opnC w h bx0 by0 bx1 by1) g vl x y (gb, ga, S9)).1))), (lb, .inr (0, [.int bx0, .int by0, .int bx1, .int by1])), (t0, .inr (5, [.ref d0, .int w, .int h])), (d0, .inl (cI, 4096, .inl g))] := by rw [hRC]; dsimp only; rw [← hzs]; exact hD
            have hP9 := hP.sub (ws' := [(h0, .inr (6, [.ref v1, .ref v2, .int (nI (rcS (opnC w h bx0 by0 bx1 by1) g vl x y (gb, ga, S9)).2.2)])), (v1, .inl (cI, 4096, .inl ((rcS (opnC w h bx0 by0 bx1 by1) g vl x y (gb, ga, S9)).2.1))), (v2, .inl (cI, 4096, .inl ((rcS (opnC w h bx0 by0 bx1 by1) g vl x y (gb, ga, S9)).1))), (t0, .inr (5, [.ref d0, .int w, .int h])), (d0, .inl (cI, 4096, .inl g)), (lb, .inr (0, [.int bx0, .int by0, .int bx1, .int by1]))]) [0, 1, 2, 4, 5, 3] rfl
            have hD9 := hD.sub (ws' := [(h0, .inr (6, [.ref v1, .ref v2, .int (nI (rcS (opnC w h bx0 by0 bx1 by1) g vl x y (gb, ga, S9)).2.2)])), (v1, .inl (cI, 4096, .inl ((rcS (opnC w h bx0 by0 bx1 by1) g vl x y (gb, ga, S9)).2.1))), (v2, .inl (cI, 4096, .inl ((rcS (opnC w h bx0 by0 bx1 by1) g vl x y (gb, ga, S9)).1))), (t0, .inr (5, [.ref d0, .int w, .int h])), (d0, .inl (cI, 4096, .inl g)), (lb, .inr (0, [.int bx0, .int by0, .int bx1, .int by1]))]) [0, 1, 2, 4, 5, 3] (by decide) rfl
            have hK9 := hK.sub (tys' := [(cI, .int)]) [0] rfl
            refine hQ _ _ _ _ _ ?_
            exact W.vret hx hb hr (fun t ht hW => ⟨⟨(), rfl, trivial, ⟨by rw [ht]; exact hP9, va_K.moved hW.alike hK9, hD9⟩⟩, hS.F ht⟩) hS.2.2 dX6_reach_91
          · skip
            have f_15 : ¬ (4096 ≤ zs.toInt) := fn_le (by decide) rfl c_14
            refine lv_aload_n hx hb dX6_reach_62 rfl (lv_at hl 1 rfl) ?_
            refine va_get (D := D) (ci := 6) (v := .ref v2) (C := RX6) (T := TX6) (N := 3) hx hb hts hi_X6 hown hK hP 0 rfl rfl 1 (by decide) (hts _ bw_174) (fun _ h9 => h9) rfl dX6_reach_63 ?_
            refine lv_iload hx hb dX6_reach_66 (lv_at hl 0 rfl) ?_
            refine lv_iconst (v := 1) hx hb dX6_reach_68 (by decide) ?_
            refine va_iast hx hb hK hP hD hS 2 0 rfl rfl (by rw [ey_11, ey_10]; exact ix_in (by omega) (by omega) (by omega) (by omega)) dX6_reach_69 (fun H locs hP hD hS => ?_)
            have hP : va_P D vwCl [(h0, .inr (6, [.ref v1, .ref v2, .int zs])), (v1, .inl (cI, 4096, .inl ga)), (v2, .inl (cI, 4096, .inl (upd gb y_11.toNatClampNeg 1))), (lb, .inr (0, [.int bx0, .int by0, .int bx1, .int by1])), (t0, .inr (5, [.ref d0, .int w, .int h])), (d0, .inl (cI, 4096, .inl g))] H := hP
            have hD : va_D A [(h0, .inr (6, [.ref v1, .ref v2, .int zs])), (v1, .inl (cI, 4096, .inl ga)), (v2, .inl (cI, 4096, .inl (upd gb y_11.toNatClampNeg 1))), (lb, .inr (0, [.int bx0, .int by0, .int bx1, .int by1])), (t0, .inr (5, [.ref d0, .int w, .int h])), (d0, .inl (cI, 4096, .inl g))] := hD
            generalize eg_16 : upd gb y_11.toNatClampNeg 1 = g_16 at hP hD
            have hP : va_P D vwCl [(h0, .inr (6, [.ref v1, .ref v2, .int zs])), (v1, .inl (cI, 4096, .inl ga)), (v2, .inl (cI, 4096, .inl g_16)), (lb, .inr (0, [.int bx0, .int by0, .int bx1, .int by1])), (t0, .inr (5, [.ref d0, .int w, .int h])), (d0, .inl (cI, 4096, .inl g))] H := hP
            have hD : va_D A [(h0, .inr (6, [.ref v1, .ref v2, .int zs])), (v1, .inl (cI, 4096, .inl ga)), (v2, .inl (cI, 4096, .inl g_16)), (lb, .inr (0, [.int bx0, .int by0, .int bx1, .int by1])), (t0, .inr (5, [.ref d0, .int w, .int h])), (d0, .inl (cI, 4096, .inl g))] := hD
            refine lv_aload_n hx hb dX6_reach_70 rfl (lv_at hl 1 rfl) ?_
            refine va_get (D := D) (ci := 6) (v := .ref v1) (C := RX6) (T := TX6) (N := 3) hx hb hts hi_X6 hown hK hP 0 rfl rfl 0 (by decide) (hts _ bw_173) (fun _ h9 => h9) rfl dX6_reach_71 ?_
            refine lv_aload_n hx hb dX6_reach_74 rfl (lv_at hl 1 rfl) ?_
            refine va_get (D := D) (ci := 6) (v := .int zs) (C := RX6) (T := TX6) (N := 3) hx hb hts hi_X6 hown hK hP 0 rfl rfl 2 (by decide) (hts _ bw_175) (fun _ h9 => h9) rfl dX6_reach_75 ?_
            refine lv_iload hx hb dX6_reach_78 (lv_at hl 0 rfl) ?_
            refine va_iast hx hb hK hP hD hS 1 0 rfl rfl (vp_in_iff.mpr ⟨by omega, by omega⟩) dX6_reach_80 (fun H locs hP hD hS => ?_)
            have hP : va_P D vwCl [(h0, .inr (6, [.ref v1, .ref v2, .int zs])), (v1, .inl (cI, 4096, .inl (upd ga zs.toNatClampNeg y_11))), (v2, .inl (cI, 4096, .inl g_16)), (lb, .inr (0, [.int bx0, .int by0, .int bx1, .int by1])), (t0, .inr (5, [.ref d0, .int w, .int h])), (d0, .inl (cI, 4096, .inl g))] H := hP
            have hD : va_D A [(h0, .inr (6, [.ref v1, .ref v2, .int zs])), (v1, .inl (cI, 4096, .inl (upd ga zs.toNatClampNeg y_11))), (v2, .inl (cI, 4096, .inl g_16)), (lb, .inr (0, [.int bx0, .int by0, .int bx1, .int by1])), (t0, .inr (5, [.ref d0, .int w, .int h])), (d0, .inl (cI, 4096, .inl g))] := hD
            generalize eg_17 : upd ga zs.toNatClampNeg y_11 = g_17 at hP hD
            have hP : va_P D vwCl [(h0, .inr (6, [.ref v1, .ref v2, .int zs])), (v1, .inl (cI, 4096, .inl g_17)), (v2, .inl (cI, 4096, .inl g_16)), (lb, .inr (0, [.int bx0, .int by0, .int bx1, .int by1])), (t0, .inr (5, [.ref d0, .int w, .int h])), (d0, .inl (cI, 4096, .inl g))] H := hP
            have hD : va_D A [(h0, .inr (6, [.ref v1, .ref v2, .int zs])), (v1, .inl (cI, 4096, .inl g_17)), (v2, .inl (cI, 4096, .inl g_16)), (lb, .inr (0, [.int bx0, .int by0, .int bx1, .int by1])), (t0, .inr (5, [.ref d0, .int w, .int h])), (d0, .inl (cI, 4096, .inl g))] := hD
            refine lv_aload_n hx hb dX6_reach_81 rfl (lv_at hl 1 rfl) ?_
            refine lv_dup hx hb dX6_reach_82 rfl ?_
            refine va_get (D := D) (ci := 6) (v := .int zs) (C := RX6) (T := TX6) (N := 3) hx hb hts hi_X6 hown hK hP 0 rfl rfl 2 (by decide) (hts _ bw_175) (fun _ h9 => h9) rfl dX6_reach_83 ?_
            refine lv_iconst (v := 1) hx hb dX6_reach_86 (by decide) ?_
            refine lv_iadd hx hb dX6_reach_87 ?_
            refine lv_topi (fun y_18 ey_18 => ?_)
            refine va_put (D := D) (ci := 6) (v := .int y_18) (ty := .int) (C := RX6) (T := TX6) (N := 3) hx hb hts hi_X6 tyX6 tyX6_ok nmX6 hown hK hP hD hS 0 rfl rfl 2 (by decide) (hts _ bw_175) (fun _ h9 => h9) rfl (by decide +kernel) rfl rfl (Nat.le_of_ble_eq_true rfl) dX6_reach_88 (fun H locs hP hD hS => ?_)
            have hP : va_P D vwCl [(h0, .inr (6, [.ref v1, .ref v2, .int y_18])), (v1, .inl (cI, 4096, .inl g_17)), (v2, .inl (cI, 4096, .inl g_16)), (lb, .inr (0, [.int bx0, .int by0, .int bx1, .int by1])), (t0, .inr (5, [.ref d0, .int w, .int h])), (d0, .inl (cI, 4096, .inl g))] H := hP
            have hD : va_D A [(h0, .inr (6, [.ref v1, .ref v2, .int y_18])), (v1, .inl (cI, 4096, .inl g_17)), (v2, .inl (cI, 4096, .inl g_16)), (lb, .inr (0, [.int bx0, .int by0, .int bx1, .int by1])), (t0, .inr (5, [.ref d0, .int w, .int h])), (d0, .inl (cI, 4096, .inl g))] := hD
            have hix : y_11.toNatClampNeg = ixP x y := by rw [ey_11, ey_10]; exact ix_cl (by omega) (by omega) (by omega) (by omega)
            have hRC : (rcS (opnC w h bx0 by0 bx1 by1) g vl x y (gb, ga, S9)) = (upd gb (ixP x y) 1, upd ga S9 (nI (ixP x y)), S9 + 1) := if_pos ⟨⟨by omega, hva.symm.trans c_8⟩, by rw [← hix]; exact c_12, by show S9 < 4096; omega⟩
            have hcl : zs.toNatClampNeg = S9 := by rw [hzs]; exact nI_clamp (by omega)
            have hpl : y_11 = nI (ixP x y) := by rw [ey_11, ey_10]; exact ix_nI (by omega) (by omega) (by omega) (by omega)
            have hn1 : nI (S9 + 1) = y_18 := by rw [ey_18, hzs]; exact (nI_1 S9).symm
            have hg1 : upd ga S9 (nI (ixP x y)) = g_17 := by rw [← eg_17, hcl, hpl]
            have hg2 : upd gb (ixP x y) 1 = g_16 := by rw [← eg_16, hix]
            have hP : va_P D vwCl [(h0, .inr (6, [.ref v1, .ref v2, .int (nI (rcS (opnC w h bx0 by0 bx1 by1) g vl x y (gb, ga, S9)).2.2)])), (v1, .inl (cI, 4096, .inl ((rcS (opnC w h bx0 by0 bx1 by1) g vl x y (gb, ga, S9)).2.1))), (v2, .inl (cI, 4096, .inl ((rcS (opnC w h bx0 by0 bx1 by1) g vl x y (gb, ga, S9)).1))), (lb, .inr (0, [.int bx0, .int by0, .int bx1, .int by1])), (t0, .inr (5, [.ref d0, .int w, .int h])), (d0, .inl (cI, 4096, .inl g))] H := by rw [hRC]; dsimp only; rw [hn1, hg1, hg2]; exact hP
            have hD : va_D A [(h0, .inr (6, [.ref v1, .ref v2, .int (nI (rcS (opnC w h bx0 by0 bx1 by1) g vl x y (gb, ga, S9)).2.2)])), (v1, .inl (cI, 4096, .inl ((rcS (opnC w h bx0 by0 bx1 by1) g vl x y (gb, ga, S9)).2.1))), (v2, .inl (cI, 4096, .inl ((rcS (opnC w h bx0 by0 bx1 by1) g vl x y (gb, ga, S9)).1))), (lb, .inr (0, [.int bx0, .int by0, .int bx1, .int by1])), (t0, .inr (5, [.ref d0, .int w, .int h])), (d0, .inl (cI, 4096, .inl g))] := by rw [hRC]; dsimp only; rw [hn1, hg1, hg2]; exact hD
            have hP9 := hP.sub (ws' := [(h0, .inr (6, [.ref v1, .ref v2, .int (nI (rcS (opnC w h bx0 by0 bx1 by1) g vl x y (gb, ga, S9)).2.2)])), (v1, .inl (cI, 4096, .inl ((rcS (opnC w h bx0 by0 bx1 by1) g vl x y (gb, ga, S9)).2.1))), (v2, .inl (cI, 4096, .inl ((rcS (opnC w h bx0 by0 bx1 by1) g vl x y (gb, ga, S9)).1))), (t0, .inr (5, [.ref d0, .int w, .int h])), (d0, .inl (cI, 4096, .inl g)), (lb, .inr (0, [.int bx0, .int by0, .int bx1, .int by1]))]) [0, 1, 2, 4, 5, 3] rfl
            have hD9 := hD.sub (ws' := [(h0, .inr (6, [.ref v1, .ref v2, .int (nI (rcS (opnC w h bx0 by0 bx1 by1) g vl x y (gb, ga, S9)).2.2)])), (v1, .inl (cI, 4096, .inl ((rcS (opnC w h bx0 by0 bx1 by1) g vl x y (gb, ga, S9)).2.1))), (v2, .inl (cI, 4096, .inl ((rcS (opnC w h bx0 by0 bx1 by1) g vl x y (gb, ga, S9)).1))), (t0, .inr (5, [.ref d0, .int w, .int h])), (d0, .inl (cI, 4096, .inl g)), (lb, .inr (0, [.int bx0, .int by0, .int bx1, .int by1]))]) [0, 1, 2, 4, 5, 3] (by decide) rfl
            have hK9 := hK.sub (tys' := [(cI, .int)]) [0] rfl
            refine hQ _ _ _ _ _ ?_
            exact W.vret hx hb hr (fun t ht hW => ⟨⟨(), rfl, trivial, ⟨by rw [ht]; exact hP9, va_K.moved hW.alike hK9, hD9⟩⟩, hS.F ht⟩) hS.2.2 dX6_reach_91
      · skip
        have f_9 : ¬ (r_7.toInt = vl.toInt) := fn_eq rfl rfl c_8
        have hRC : (rcS (opnC w h bx0 by0 bx1 by1) g vl x y (gb, ga, S9)) = (gb, ga, S9) := if_neg (fun q => c_8 (hva.trans q.1.2))
        have hP : va_P D vwCl [(h0, .inr (6, [.ref v1, .ref v2, .int (nI (rcS (opnC w h bx0 by0 bx1 by1) g vl x y (gb, ga, S9)).2.2)])), (v1, .inl (cI, 4096, .inl ((rcS (opnC w h bx0 by0 bx1 by1) g vl x y (gb, ga, S9)).2.1))), (v2, .inl (cI, 4096, .inl ((rcS (opnC w h bx0 by0 bx1 by1) g vl x y (gb, ga, S9)).1))), (lb, .inr (0, [.int bx0, .int by0, .int bx1, .int by1])), (t0, .inr (5, [.ref d0, .int w, .int h])), (d0, .inl (cI, 4096, .inl g))] H := by rw [hRC]; dsimp only; rw [← hzs]; exact hP
        have hD : va_D A [(h0, .inr (6, [.ref v1, .ref v2, .int (nI (rcS (opnC w h bx0 by0 bx1 by1) g vl x y (gb, ga, S9)).2.2)])), (v1, .inl (cI, 4096, .inl ((rcS (opnC w h bx0 by0 bx1 by1) g vl x y (gb, ga, S9)).2.1))), (v2, .inl (cI, 4096, .inl ((rcS (opnC w h bx0 by0 bx1 by1) g vl x y (gb, ga, S9)).1))), (lb, .inr (0, [.int bx0, .int by0, .int bx1, .int by1])), (t0, .inr (5, [.ref d0, .int w, .int h])), (d0, .inl (cI, 4096, .inl g))] := by rw [hRC]; dsimp only; rw [← hzs]; exact hD
        have hP9 := hP.sub (ws' := [(h0, .inr (6, [.ref v1, .ref v2, .int (nI (rcS (opnC w h bx0 by0 bx1 by1) g vl x y (gb, ga, S9)).2.2)])), (v1, .inl (cI, 4096, .inl ((rcS (opnC w h bx0 by0 bx1 by1) g vl x y (gb, ga, S9)).2.1))), (v2, .inl (cI, 4096, .inl ((rcS (opnC w h bx0 by0 bx1 by1) g vl x y (gb, ga, S9)).1))), (t0, .inr (5, [.ref d0, .int w, .int h])), (d0, .inl (cI, 4096, .inl g)), (lb, .inr (0, [.int bx0, .int by0, .int bx1, .int by1]))]) [0, 1, 2, 4, 5, 3] rfl
        have hD9 := hD.sub (ws' := [(h0, .inr (6, [.ref v1, .ref v2, .int (nI (rcS (opnC w h bx0 by0 bx1 by1) g vl x y (gb, ga, S9)).2.2)])), (v1, .inl (cI, 4096, .inl ((rcS (opnC w h bx0 by0 bx1 by1) g vl x y (gb, ga, S9)).2.1))), (v2, .inl (cI, 4096, .inl ((rcS (opnC w h bx0 by0 bx1 by1) g vl x y (gb, ga, S9)).1))), (t0, .inr (5, [.ref d0, .int w, .int h])), (d0, .inl (cI, 4096, .inl g)), (lb, .inr (0, [.int bx0, .int by0, .int bx1, .int by1]))]) [0, 1, 2, 4, 5, 3] (by decide) rfl
        have hK9 := hK.sub (tys' := [(cI, .int)]) [0] rfl
        refine hQ _ _ _ _ _ ?_
        exact W.vret hx hb hr (fun t ht hW => ⟨⟨(), rfl, trivial, ⟨by rw [ht]; exact hP9, va_K.moved hW.alike hK9, hD9⟩⟩, hS.F ht⟩) hS.2.2 dX6_reach_32

set_option maxHeartbeats 4000000 in
set_option maxRecDepth 100000 in
theorem k_X6_gather_e (l : Launch) (D : va_G) (sz : Nat) (h0 v1 v2 t0 d0 lb : Nat) (zs : Int32) (ga : Nat → Int32) (gb : Nat → Int32) (w h : Int32) (g : Nat → Int32) (bx0 by0 bx1 by1 : Int32) (x y co : Int32) (cI : ClassId) (hw : w.toInt ≤ 64) (hh : h.toInt ≤ 64) (hon : 0 ≤ x.toInt ∧ x.toInt < w.toInt ∧ 0 ≤ y.toInt ∧ y.toInt < h.toInt) : Met l yX6_gather (wB yX6_gather cX6_gather 11 none) ({ frames := 3, cells := 0, slots := 0, locals := 70 }) (cP D [(h0, .inr (6, [.ref v1, .ref v2, .int zs])), (v1, .inl (cI, 4096, .inl ga)), (v2, .inl (cI, 4096, .inl gb)), (t0, .inr (5, [.ref d0, .int w, .int h])), (d0, .inl (cI, 4096, .inl g)), (lb, .inr (0, [.int bx0, .int by0, .int bx1, .int by1]))] [(cI, .int)] sz [.ref h0, .ref t0, .ref lb, .int x, .int y, .int co]) (va_Qv (fun (_ : Unit) => True) (fun (_ : Unit) (t : State) => ∃ (g2 g3 : Nat → Int32), (∀ t : Nat, t < (spS (opnC w h bx0 by0 bx1 by1) g x y co).2.2 → g2 t = (spS (opnC w h bx0 by0 bx1 by1) g x y co).2.1 t) ∧ (∀ j : Nat, j < 4096 → g3 j = (spS (opnC w h bx0 by0 bx1 by1) g x y co).1 j) ∧ ((spS (opnC w h bx0 by0 bx1 by1) g x y co).2.2 ≤ 4096) ∧ cB D (va_A [(h0, .inr (6, [.ref v1, .ref v2, .int zs])), (v1, .inl (cI, 4096, .inl ga)), (v2, .inl (cI, 4096, .inl gb)), (t0, .inr (5, [.ref d0, .int w, .int h])), (d0, .inl (cI, 4096, .inl g)), (lb, .inr (0, [.int bx0, .int by0, .int bx1, .int by1]))] sz) [(h0, .inr (6, [.ref v1, .ref v2, .int (nI (spS (opnC w h bx0 by0 bx1 by1) g x y co).2.2)])), (v1, .inl (cI, 4096, .inl g2)), (v2, .inl (cI, 4096, .inl g3)), (t0, .inr (5, [.ref d0, .int w, .int h])), (d0, .inl (cI, 4096, .inl g)), (lb, .inr (0, [.int bx0, .int by0, .int bx1, .int by1]))] [(cI, .int)] t) (va_A [(h0, .inr (6, [.ref v1, .ref v2, .int zs])), (v1, .inl (cI, 4096, .inl ga)), (v2, .inl (cI, 4096, .inl gb)), (t0, .inr (5, [.ref d0, .int w, .int h])), (d0, .inl (cI, 4096, .inl g)), (lb, .inr (0, [.int bx0, .int by0, .int bx1, .int by1]))] sz)) 0 0 (va_A [(h0, .inr (6, [.ref v1, .ref v2, .int zs])), (v1, .inl (cI, 4096, .inl ga)), (v2, .inl (cI, 4096, .inl gb)), (t0, .inr (5, [.ref d0, .int w, .int h])), (d0, .inl (cI, 4096, .inl g)), (lb, .inr (0, [.int bx0, .int by0, .int bx1, .int by1]))] sz) := by
  refine Met.ofW (cc := cX6_gather) (maxL := 11) (ret := none) (by decide) rfl ?_
  intro p e s m args below meth c s₁ B hml hv
  obtain ⟨rfl, hsz, hP, hK, hD0, hN⟩ := hv
  have hx := B.exec
  have hb := B.bytes
  have hr := B.returns
  have hts0 := atoms_spec (ws := (wB yX6_gather cX6_gather 11 none)) B.pre
  have hts : ∀ w ∈ bigW, w.before _ s = true := fun w h => hts0 w (List.mem_cons_of_mem _ h)
  have hown : s.vm.findClass RX6 = some m.cls := findClass_of_methodNamed B.named
  have hlocks := B.notSynchronized
  subst hsz
  have hD := hD0.self (sz := s.heap.size)
  generalize hAe : va_A [(h0, .inr (6, [.ref v1, .ref v2, .int zs])), (v1, .inl (cI, 4096, .inl ga)), (v2, .inl (cI, 4096, .inl gb)), (t0, .inr (5, [.ref d0, .int w, .int h])), (d0, .inl (cI, 4096, .inl g)), (lb, .inr (0, [.int bx0, .int by0, .int bx1, .int by1]))] s.heap.size = A at hD ⊢
  have hA : ∀ q : Nat, s.heap.size ≤ q → A q := fun q h => by rw [← hAe]; exact Or.inr h
  have hS : va_S A s.heap s.heap [] := va_S.rf
  have hP : va_P D vwCl [(h0, .inr (6, [.ref v1, .ref v2, .int zs])), (v1, .inl (cI, 4096, .inl ga)), (v2, .inl (cI, 4096, .inl gb)), (t0, .inr (5, [.ref d0, .int w, .int h])), (d0, .inl (cI, 4096, .inl g)), (lb, .inr (0, [.int bx0, .int by0, .int bx1, .int by1]))] s.heap := hP
  have hl := lv_entry ([.ref h0, .ref t0, .ref lb, .int x, .int y, .int co]) (n := 11) (Nat.le_of_ble_eq_true rfl)
  rw [lg_entry_eq]
  generalize (lg_sl ([.ref h0, .ref t0, .ref lb, .int x, .int y, .int co]) ++ List.replicate (11 - (lg_sl ([.ref h0, .ref t0, .ref lb, .int x, .int y, .int co])).length) Slot.unset).toArray = ls at hl ⊢
  have hl : lv_has ls 11 [(0, .ref h0), (1, .ref t0), (2, .ref lb), (3, .int x), (4, .int y), (5, .int co)] := hl
  clear hts0 hD0 hAe
  refine my_abs (fun R Q hR hQ => ?_)
  refine lv_aload_n hx hb dX6_gather_0 rfl (lv_at hl 0 rfl) ?_
  refine va_get (D := D) (ci := 6) (v := .ref v2) (C := RX6) (T := TX6) (N := 3) hx hb hts hi_X6 hown hK hP 0 rfl rfl 1 (by decide) (hts _ bw_174) (fun _ h9 => h9) rfl dX6_gather_1 ?_
  refine lv_iconst (v := 0) hx hb dX6_gather_4 (by decide) ?_
  have hPc := hP.sub (ws' := [(v2, .inl (cI, 4096, .inl gb))]) [2] rfl
  have hDc := hD.sub (ws' := [(v2, .inl (cI, 4096, .inl gb))]) [2] (by decide) rfl
  have hKc := hK.sub (tys' := [(cI, .int)]) [0] rfl
  have hFc := va_free (wc := [(v2, .inl (cI, 4096, .inl gb))]) hD hS hA [2] rfl
  refine va_callv (va_runS (As := [.ref v2, .int 0]) (rest := []) ⟨hx, hb, hml, hown, hts⟩ (k_J7_fill_53178_4096 l D s.heap.size v2 gb 0 cI) (va_cwS 2 hts (gS bw_179 bw_95 bw_96 bw_97) rfl rfl rfl (by decide +kernel) ⟨(by rw [hR]; exact Nat.le_of_ble_eq_true rfl), (by rw [hR]; exact Nat.le_of_ble_eq_true rfl)⟩) ⟨cP_blind, cP_at hPc hKc hDc hN⟩ rfl rfl hl.1 rfl (lv_room (Nat.le_of_ble_eq_true rfl)) dX6_gather_5 ⟨(by rw [hR]; exact Nat.le_of_ble_eq_true rfl), (by rw [hR]; exact Nat.le_of_ble_eq_true rfl)⟩) hS (fun q _ h => hFc q h) hFc (fun u9 t9 H1 locs ht hvm hr_1 hB hz1 hk1 hS => ?_)
  try dsimp only at hr_1
  obtain ⟨g_2, b_3, hP1, hK1, hD1⟩ := hB
  rw [ht] at hP1
  obtain ⟨hP, hD⟩ := va_join (wr := [(h0, .inr (6, [.ref v1, .ref v2, .int zs])), (v1, .inl (cI, 4096, .inl ga)), (t0, .inr (5, [.ref d0, .int w, .int h])), (d0, .inl (cI, 4096, .inl g)), (lb, .inr (0, [.int bx0, .int by0, .int bx1, .int by1]))]) (w1 := [(v2, .inl (cI, 4096, .inl g_2))]) hP hD [2] [0, 1, 3, 4, 5] rfl rfl (by decide) (by decide) hk1 hFc hP1 hD1
  clear hz1 hk1 hFc hKc hDc hPc
  generalize H1 = H at hP hS ⊢
  have hP : va_P D vwCl [(h0, .inr (6, [.ref v1, .ref v2, .int zs])), (v1, .inl (cI, 4096, .inl ga)), (t0, .inr (5, [.ref d0, .int w, .int h])), (d0, .inl (cI, 4096, .inl g)), (lb, .inr (0, [.int bx0, .int by0, .int bx1, .int by1])), (v2, .inl (cI, 4096, .inl g_2))] H := hP
  have hD : va_D A [(h0, .inr (6, [.ref v1, .ref v2, .int zs])), (v1, .inl (cI, 4096, .inl ga)), (t0, .inr (5, [.ref d0, .int w, .int h])), (d0, .inl (cI, 4096, .inl g)), (lb, .inr (0, [.int bx0, .int by0, .int bx1, .int by1])), (v2, .inl (cI, 4096, .inl g_2))] := hD
  have hg0 := b_3
  obtain ⟨g0, eg0⟩ : ∃ q, q = g_2 := ⟨_, rfl⟩
  rw [← eg0] at hP hD hg0
  have hP : va_P D vwCl [(h0, .inr (6, [.ref v1, .ref v2, .int zs])), (v1, .inl (cI, 4096, .inl ga)), (t0, .inr (5, [.ref d0, .int w, .int h])), (d0, .inl (cI, 4096, .inl g)), (lb, .inr (0, [.int bx0, .int by0, .int bx1, .int by1])), (v2, .inl (cI, 4096, .inl g0))] H := hP
  have hD : va_D A [(h0, .inr (6, [.ref v1, .ref v2, .int zs])), (v1, .inl (cI, 4096, .inl ga)), (t0, .inr (5, [.ref d0, .int w, .int h])), (d0, .inl (cI, 4096, .inl g)), (lb, .inr (0, [.int bx0, .int by0, .int bx1, .int by1])), (v2, .inl (cI, 4096, .inl g0))] := hD
  refine lv_aload_n hx hb dX6_gather_8 rfl (lv_at hl 0 rfl) ?_
  refine lv_iconst (v := 0) hx hb dX6_gather_9 (by decide) ?_
  refine va_put (D := D) (ci := 6) (v := .int 0) (ty := .int) (C := RX6) (T := TX6) (N := 3) hx hb hts hi_X6 tyX6 tyX6_ok nmX6 hown hK hP hD hS 0 rfl rfl 2 (by decide) (hts _ bw_175) (fun _ h9 => h9) rfl (by decide +kernel) rfl rfl (Nat.le_of_ble_eq_true rfl) dX6_gather_10 (fun H locs hP hD hS => ?_)
  have hP : va_P D vwCl [(h0, .inr (6, [.ref v1, .ref v2, .int 0])), (v1, .inl (cI, 4096, .inl ga)), (t0, .inr (5, [.ref d0, .int w, .int h])), (d0, .inl (cI, 4096, .inl g)), (lb, .inr (0, [.int bx0, .int by0, .int bx1, .int by1])), (v2, .inl (cI, 4096, .inl g0))] H := hP
  have hD : va_D A [(h0, .inr (6, [.ref v1, .ref v2, .int 0])), (v1, .inl (cI, 4096, .inl ga)), (t0, .inr (5, [.ref d0, .int w, .int h])), (d0, .inl (cI, 4096, .inl g)), (lb, .inr (0, [.int bx0, .int by0, .int bx1, .int by1])), (v2, .inl (cI, 4096, .inl g0))] := hD
  refine lv_aload_n hx hb dX6_gather_13 rfl (lv_at hl 1 rfl) ?_
  refine lv_iload_n hx hb dX6_gather_14 rfl (lv_at hl 3 rfl) ?_
  refine lv_iload hx hb dX6_gather_15 (lv_at hl 4 rfl) ?_
  have hPc := hP.sub (ws' := [(t0, .inr (5, [.ref d0, .int w, .int h])), (d0, .inl (cI, 4096, .inl g))]) [2, 3] rfl
  have hDc := hD.sub (ws' := [(t0, .inr (5, [.ref d0, .int w, .int h])), (d0, .inl (cI, 4096, .inl g))]) [2, 3] (by decide) rfl
  have hKc := hK.sub (tys' := [(cI, .int)]) [0] rfl
  have hFc := va_free (wc := [(t0, .inr (5, [.ref d0, .int w, .int h])), (d0, .inl (cI, 4096, .inl g))]) hD hS hA [2, 3] rfl
  refine va_calli (va_runV (As := [.int x, .int y]) (rest := []) ⟨hx, hb, hml, hown, hts⟩ (k_X5_at l D H.size t0 d0 w h g x y cI (by first | assumption | omega | decide) (by first | assumption | omega | decide)) (cwV 2 hts (gV bw_180 bw_153 bw_154 bw_130 bw_152) rfl rfl rfl (by decide +kernel) ⟨(by rw [hR]; exact Nat.le_of_ble_eq_true rfl), (by rw [hR]; exact Nat.le_of_ble_eq_true rfl)⟩) ⟨cP_blind, va_recv hKc hPc (ci := 5) (q0 := 0) rfl rfl, cP_at hPc hKc hDc hN⟩ rfl rfl hl.1 rfl (lv_room (Nat.le_of_ble_eq_true rfl)) dX6_gather_17 ⟨(by rw [hR]; exact Nat.le_of_ble_eq_true rfl), (by rw [hR]; exact Nat.le_of_ble_eq_true rfl)⟩) hS (fun q _ h => hFc q h) hFc (fun r_4 u9 t9 H1 locs ht hvm hr_4 hB hz1 hk1 hS => ?_)
  try dsimp only at hr_4
  obtain ⟨hP1, hK1, hD1⟩ := hB
  rw [ht] at hP1
  obtain ⟨hP, hD⟩ := va_join (wr := [(h0, .inr (6, [.ref v1, .ref v2, .int 0])), (v1, .inl (cI, 4096, .inl ga)), (lb, .inr (0, [.int bx0, .int by0, .int bx1, .int by1])), (v2, .inl (cI, 4096, .inl g0))]) (w1 := [(t0, .inr (5, [.ref d0, .int w, .int h])), (d0, .inl (cI, 4096, .inl g))]) hP hD [2, 3] [0, 1, 4, 5] rfl rfl (by decide) (by decide) hk1 hFc hP1 hD1
  clear hz1 hk1 hFc hKc hDc hPc
  generalize H1 = H at hP hS ⊢
  have hP : va_P D vwCl [(h0, .inr (6, [.ref v1, .ref v2, .int 0])), (v1, .inl (cI, 4096, .inl ga)), (lb, .inr (0, [.int bx0, .int by0, .int bx1, .int by1])), (v2, .inl (cI, 4096, .inl g0)), (t0, .inr (5, [.ref d0, .int w, .int h])), (d0, .inl (cI, 4096, .inl g))] H := hP
  have hD : va_D A [(h0, .inr (6, [.ref v1, .ref v2, .int 0])), (v1, .inl (cI, 4096, .inl ga)), (lb, .inr (0, [.int bx0, .int by0, .int bx1, .int by1])), (v2, .inl (cI, 4096, .inl g0)), (t0, .inr (5, [.ref d0, .int w, .int h])), (d0, .inl (cI, 4096, .inl g))] := hD
  have hvr : r_4 = g (ixP x y) := by rw [hr_4, if_pos hon]
  refine lv_istore (lv' := [(6, .int r_4), (0, .ref h0), (1, .ref t0), (2, .ref lb), (3, .int x), (4, .int y), (5, .int co)]) hx hb dX6_gather_20 hl (by decide) rfl (fun ls hl => ?_)
  refine lv_aload_n hx hb dX6_gather_22 rfl (lv_at hl 1 rfl) ?_
  refine lv_aload_n hx hb dX6_gather_23 rfl (lv_at hl 2 rfl) ?_
  refine lv_aload_n hx hb dX6_gather_24 rfl (lv_at hl 3 rfl) ?_
  refine lv_iload_n hx hb dX6_gather_25 rfl (lv_at hl 4 rfl) ?_
  refine lv_iload hx hb dX6_gather_26 (lv_at hl 5 rfl) ?_
  refine lv_iload hx hb dX6_gather_28 (lv_at hl 0 rfl) ?_
  have hPc := hP.sub (ws' := [(h0, .inr (6, [.ref v1, .ref v2, .int 0])), (v1, .inl (cI, 4096, .inl ga)), (v2, .inl (cI, 4096, .inl g0)), (t0, .inr (5, [.ref d0, .int w, .int h])), (d0, .inl (cI, 4096, .inl g)), (lb, .inr (0, [.int bx0, .int by0, .int bx1, .int by1]))]) [0, 1, 3, 4, 5, 2] rfl
  have hDc := hD.sub (ws' := [(h0, .inr (6, [.ref v1, .ref v2, .int 0])), (v1, .inl (cI, 4096, .inl ga)), (v2, .inl (cI, 4096, .inl g0)), (t0, .inr (5, [.ref d0, .int w, .int h])), (d0, .inl (cI, 4096, .inl g)), (lb, .inr (0, [.int bx0, .int by0, .int bx1, .int by1]))]) [0, 1, 3, 4, 5, 2] (by decide) rfl
  have hKc := hK.sub (tys' := [(cI, .int)]) [0] rfl
  have hFc := va_free (wc := [(h0, .inr (6, [.ref v1, .ref v2, .int 0])), (v1, .inl (cI, 4096, .inl ga)), (v2, .inl (cI, 4096, .inl g0)), (t0, .inr (5, [.ref d0, .int w, .int h])), (d0, .inl (cI, 4096, .inl g)), (lb, .inr (0, [.int bx0, .int by0, .int bx1, .int by1]))]) hD hS hA [0, 1, 3, 4, 5, 2] rfl
  refine va_callv (va_runV (As := [.ref t0, .ref lb, .int x, .int y, .int r_4]) (rest := []) ⟨hx, hb, hml, hown, hts⟩ (k_X6_reach_e l D H.size h0 v1 v2 t0 d0 lb 0 ga g0 w h g bx0 by0 bx1 by1 x y r_4 0 cI nI_0.symm (by omega) (by decide) (by first | assumption | omega | decide) (by first | assumption | omega | decide)) (cwV 5 hts (gV bw_181 bw_191 bw_192 bw_168 bw_190) rfl rfl rfl (by decide +kernel) ⟨(by rw [hR]; exact Nat.le_of_ble_eq_true rfl), (by rw [hR]; exact Nat.le_of_ble_eq_true rfl)⟩) ⟨cP_blind, va_recv hKc hPc (ci := 6) (q0 := 0) rfl rfl, cP_at hPc hKc hDc hN⟩ rfl rfl hl.1 rfl (lv_room (Nat.le_of_ble_eq_true rfl)) dX6_gather_30 ⟨(by rw [hR]; exact Nat.le_of_ble_eq_true rfl), (by rw [hR]; exact Nat.le_of_ble_eq_true rfl)⟩) hS (fun q _ h => hFc q h) hFc (fun u9 t9 H1 locs ht hvm hr_5 hB hz1 hk1 hS => ?_)
  try dsimp only at hr_5
  obtain ⟨hP1, hK1, hD1⟩ := hB
  rw [ht] at hP1
  obtain ⟨hP, hD⟩ := va_join (wr := []) (w1 := [(h0, .inr (6, [.ref v1, .ref v2, .int (nI (rcS (opnC w h bx0 by0 bx1 by1) g r_4 x y (g0, ga, 0)).2.2)])), (v1, .inl (cI, 4096, .inl ((rcS (opnC w h bx0 by0 bx1 by1) g r_4 x y (g0, ga, 0)).2.1))), (v2, .inl (cI, 4096, .inl ((rcS (opnC w h bx0 by0 bx1 by1) g r_4 x y (g0, ga, 0)).1))), (t0, .inr (5, [.ref d0, .int w, .int h])), (d0, .inl (cI, 4096, .inl g)), (lb, .inr (0, [.int bx0, .int by0, .int bx1, .int by1]))]) hP hD [0, 1, 3, 4, 5, 2] [] rfl rfl (by decide) (by decide) hk1 hFc hP1 hD1
  clear hz1 hk1 hFc hKc hDc hPc
  generalize H1 = H at hP hS ⊢
  have hP : va_P D vwCl [(h0, .inr (6, [.ref v1, .ref v2, .int (nI (rcS (opnC w h bx0 by0 bx1 by1) g r_4 x y (g0, ga, 0)).2.2)])), (v1, .inl (cI, 4096, .inl ((rcS (opnC w h bx0 by0 bx1 by1) g r_4 x y (g0, ga, 0)).2.1))), (v2, .inl (cI, 4096, .inl ((rcS (opnC w h bx0 by0 bx1 by1) g r_4 x y (g0, ga, 0)).1))), (t0, .inr (5, [.ref d0, .int w, .int h])), (d0, .inl (cI, 4096, .inl g)), (lb, .inr (0, [.int bx0, .int by0, .int bx1, .int by1]))] H := hP
  have hD : va_D A [(h0, .inr (6, [.ref v1, .ref v2, .int (nI (rcS (opnC w h bx0 by0 bx1 by1) g r_4 x y (g0, ga, 0)).2.2)])), (v1, .inl (cI, 4096, .inl ((rcS (opnC w h bx0 by0 bx1 by1) g r_4 x y (g0, ga, 0)).2.1))), (v2, .inl (cI, 4096, .inl ((rcS (opnC w h bx0 by0 bx1 by1) g r_4 x y (g0, ga, 0)).1))), (t0, .inr (5, [.ref d0, .int w, .int h])), (d0, .inl (cI, 4096, .inl g)), (lb, .inr (0, [.int bx0, .int by0, .int bx1, .int by1]))] := hD
  obtain ⟨st1, est1⟩ : ∃ q : S3, q = (rcS (opnC w h bx0 by0 bx1 by1) g r_4 x y (g0, ga, 0)) := ⟨_, rfl⟩
  rw [← est1] at hP hD
  have hP : va_P D vwCl [(h0, .inr (6, [.ref v1, .ref v2, .int (nI st1.2.2)])), (v1, .inl (cI, 4096, .inl st1.2.1)), (v2, .inl (cI, 4096, .inl st1.1)), (t0, .inr (5, [.ref d0, .int w, .int h])), (d0, .inl (cI, 4096, .inl g)), (lb, .inr (0, [.int bx0, .int by0, .int bx1, .int by1]))] H := hP
  have hD : va_D A [(h0, .inr (6, [.ref v1, .ref v2, .int (nI st1.2.2)])), (v1, .inl (cI, 4096, .inl st1.2.1)), (v2, .inl (cI, 4096, .inl st1.1)), (t0, .inr (5, [.ref d0, .int w, .int h])), (d0, .inl (cI, 4096, .inl g)), (lb, .inr (0, [.int bx0, .int by0, .int bx1, .int by1]))] := hD
  rw [hvr] at est1
  have hst1 : st1.2.2 ≤ 4096 := by rw [est1]; exact (rcS_keep (Nat.zero_le _)).2.1
  refine lv_iconst (v := 0) hx hb dX6_gather_33 (by decide) ?_
  refine lv_istore (lv' := [(7, .int 0), (6, .int r_4), (0, .ref h0), (1, .ref t0), (2, .ref lb), (3, .int x), (4, .int y), (5, .int co)]) hx hb dX6_gather_34 hl (by decide) rfl (fun ls hl => ?_)
  have loop_6 : ∀ (n : Nat) (j : Nat) (x7 : Int32) (gx : Nat → Int32) (gy : Nat → Int32) (z2 : Int32) (H : Heap) (locs : List Loc) (ls : Array Slot), (j ≤ 4096) → (4096 + 1 ≤ j + n) → (x7 = nI j) → (z2 = nI (rcO (opnC w h bx0 by0 bx1 by1) g (g (ixP x y)) co st1 j).2.2) → (gx = (rcO (opnC w h bx0 by0 bx1 by1) g (g (ixP x y)) co st1 j).2.1) → (gy = (rcO (opnC w h bx0 by0 bx1 by1) g (g (ixP x y)) co st1 j).1) → ((rcO (opnC w h bx0 by0 bx1 by1) g (g (ixP x y)) co st1 j).2.2 ≤ 4096) → (∀ i' : Nat, i' < j → i' < (rcO (opnC w h bx0 by0 bx1 by1) g (g (ixP x y)) co st1 i').2.2) → va_P D vwCl [(h0, .inr (6, [.ref v1, .ref v2, .int z2])), (v1, .inl (cI, 4096, .inl gx)), (v2, .inl (cI, 4096, .inl gy)), (t0, .inr (5, [.ref d0, .int w, .int h])), (d0, .inl (cI, 4096, .inl g)), (lb, .inr (0, [.int bx0, .int by0, .int bx1, .int by1]))] H → va_D A [(h0, .inr (6, [.ref v1, .ref v2, .int z2])), (v1, .inl (cI, 4096, .inl gx)), (v2, .inl (cI, 4096, .inl gy)), (t0, .inr (5, [.ref d0, .int w, .int h])), (d0, .inl (cI, 4096, .inl g)), (lb, .inr (0, [.int bx0, .int by0, .int bx1, .int by1]))] → va_S A s.heap H locs → lv_has ls 11 [(7, .int x7), (6, .int r_4), (0, .ref h0), (1, .ref t0), (2, .ref lb), (3, .int x), (4, .int y), (5, .int co)] → W p l e R s m ([.ref h0, .ref t0, .ref lb, .int x, .int y, .int co] : List Value).toArray below meth c H locs 0 0 Q (F0 m 36 ls []) := by
    intro n
    induction n with
    | zero =>
      intro j x7 gx gy z2 H locs ls hi_j hm_j ex_j e1 e2 e3 hsz hall hP hD hS hl
      exact absurd (show False by omega) not_false
    | succ n ih_7 =>
      intro j x7 gx gy z2 H locs ls hi_j hm_j ex_j e1 e2 e3 hsz hall hP hD hS hl
      have hx_j : x7.toInt = (j : Int) := by rw [ex_j]; exact nI_toInt (by omega)
      have hc_j : x7.toNatClampNeg = j := by rw [ex_j]; exact nI_clamp (by omega)
      have hz2 : z2.toInt = (((rcO (opnC w h bx0 by0 bx1 by1) g (g (ixP x y)) co st1 j).2.2 : Nat) : Int) := by rw [e1]; exact nI_toInt (by omega)
      refine lv_iload hx hb dX6_gather_36 (lv_at hl 0 rfl) ?_
      refine lv_aload_n hx hb dX6_gather_38 rfl (lv_at hl 2 rfl) ?_
      refine va_get (D := D) (ci := 6) (v := .int z2) (C := RX6) (T := TX6) (N := 3) hx hb hts hi_X6 hown hK hP 0 rfl rfl 2 (by decide) (hts _ bw_175) (fun _ h9 => h9) rfl dX6_gather_39 ?_
      refine lv_icmp_ge (tgt := 132) hx hb dX6_gather_42 (by decide) (fun c_8 => ?_) (fun c_8 => ?_)
      · skip
        have f_9 : z2.toInt ≤ (j : Int) := f_le rfl hx_j c_8
        have hEQ : eqS (rcO (opnC w h bx0 by0 bx1 by1) g (g (ixP x y)) co st1 j) (spS (opnC w h bx0 by0 bx1 by1) g x y co) := (sp_end (C := (opnC w h bx0 by0 bx1 by1)) (C' := (opnC w h bx0 by0 bx1 by1)) (g := g) (g' := g) (fun _ _ => Iff.rfl) (fun _ _ q => opnC_lt (by omega) (by omega) q) (fun _ _ => rfl) (a := st1) (b := rcS (opnC w h bx0 by0 bx1 by1) g (g (ixP x y)) x y z3) (by rw [est1]; exact rcS_eq (fun _ _ => Iff.rfl) (fun _ _ q => opnC_lt (by omega) (by omega) q) (fun _ _ => rfl) ⟨fun j hj => hg0 j hj, rfl, fun t ht => absurd ht (by show ¬ t < 0; omega)⟩) hst1 hall (by omega))
        have hP : va_P D vwCl [(h0, .inr (6, [.ref v1, .ref v2, .int (nI (spS (opnC w h bx0 by0 bx1 by1) g x y co).2.2)])), (v1, .inl (cI, 4096, .inl gx)), (v2, .inl (cI, 4096, .inl gy)), (t0, .inr (5, [.ref d0, .int w, .int h])), (d0, .inl (cI, 4096, .inl g)), (lb, .inr (0, [.int bx0, .int by0, .int bx1, .int by1]))] H := by rw [← hEQ.2.1, ← e1]; exact hP
        have hD : va_D A [(h0, .inr (6, [.ref v1, .ref v2, .int (nI (spS (opnC w h bx0 by0 bx1 by1) g x y co).2.2)])), (v1, .inl (cI, 4096, .inl gx)), (v2, .inl (cI, 4096, .inl gy)), (t0, .inr (5, [.ref d0, .int w, .int h])), (d0, .inl (cI, 4096, .inl g)), (lb, .inr (0, [.int bx0, .int by0, .int bx1, .int by1]))] := by rw [← hEQ.2.1, ← e1]; exact hD
        have hP9 := hP.sub (ws' := [(h0, .inr (6, [.ref v1, .ref v2, .int (nI (spS (opnC w h bx0 by0 bx1 by1) g x y co).2.2)])), (v1, .inl (cI, 4096, .inl gx)), (v2, .inl (cI, 4096, .inl gy)), (t0, .inr (5, [.ref d0, .int w, .int h])), (d0, .inl (cI, 4096, .inl g)), (lb, .inr (0, [.int bx0, .int by0, .int bx1, .int by1]))]) [0, 1, 2, 3, 4, 5] rfl
        have hD9 := hD.sub (ws' := [(h0, .inr (6, [.ref v1, .ref v2, .int (nI (spS (opnC w h bx0 by0 bx1 by1) g x y co).2.2)])), (v1, .inl (cI, 4096, .inl gx)), (v2, .inl (cI, 4096, .inl gy)), (t0, .inr (5, [.ref d0, .int w, .int h])), (d0, .inl (cI, 4096, .inl g)), (lb, .inr (0, [.int bx0, .int by0, .int bx1, .int by1]))]) [0, 1, 2, 3, 4, 5] (by decide) rfl
        have hK9 := hK.sub (tys' := [(cI, .int)]) [0] rfl
        refine hQ _ _ _ _ _ ?_
        exact W.vret hx hb hr (fun t ht hW => ⟨⟨(), rfl, trivial, ⟨gx, gy, (fun t ht => by rw [e2]; exact hEQ.2.2 t (by rw [hEQ.2.1]; exact ht)), (fun j hj => by rw [e3]; exact hEQ.1 j hj), (by rw [← hEQ.2.1]; exact hsz), by rw [ht]; exact hP9, va_K.moved hW.alike hK9, hD9⟩⟩, hS.F ht⟩) hS.2.2 dX6_gather_132
      · skip
        have f_9 : ¬ (z2.toInt ≤ (j : Int)) := fn_le rfl hx_j c_8
        refine lv_iload hx hb dX6_gather_45 (lv_at hl 0 rfl) ?_
        refine lv_sipush (v := 4096) hx hb dX6_gather_47 (by decide) ?_
        refine lv_icmp_ge (tgt := 132) hx hb dX6_gather_50 (by decide) (fun c_10 => ?_) (fun c_10 => ?_)
        · skip
          have f_11 : 4096 ≤ (j : Int) := f_le (by decide) hx_j c_10
          exact False.elim (by omega)
        · skip
          have f_11 : ¬ (4096 ≤ (j : Int)) := fn_le (by decide) hx_j c_10
          refine lv_iconst (v := 0) hx hb dX6_gather_53 (by decide) ?_
          refine lv_istore (lv' := [(8, .int 0), (7, .int x7), (6, .int r_4), (0, .ref h0), (1, .ref t0), (2, .ref lb), (3, .int x), (4, .int y), (5, .int co)]) hx hb dX6_gather_54 hl (by decide) rfl (fun ls hl => ?_)
          have loop_12 : ∀ (n : Nat) (i : Nat) (x8 : Int32) (gm : Nat → Int32) (gn : Nat → Int32) (z3 : Int32) (H : Heap) (locs : List Loc) (ls : Array Slot), (i ≤ 9) → (9 + 1 ≤ i + n) → (x8 = nI i) → (z3 = nI (rcI (opnC w h bx0 by0 bx1 by1) g (g (ixP x y)) co (pX ((rcO (opnC w h bx0 by0 bx1 by1) g (g (ixP x y)) co st1 j).2.1 j)) (pY ((rcO (opnC w h bx0 by0 bx1 by1) g (g (ixP x y)) co st1 j).2.1 j)) (rcO (opnC w h bx0 by0 bx1 by1) g (g (ixP x y)) co st1 j) i).2.2) → (gm = (rcI (opnC w h bx0 by0 bx1 by1) g (g (ixP x y)) co (pX ((rcO (opnC w h bx0 by0 bx1 by1) g (g (ixP x y)) co st1 j).2.1 j)) (pY ((rcO (opnC w h bx0 by0 bx1 by1) g (g (ixP x y)) co st1 j).2.1 j)) (rcO (opnC w h bx0 by0 bx1 by1) g (g (ixP x y)) co st1 j) i).2.1) → (gn = (rcI (opnC w h bx0 by0 bx1 by1) g (g (ixP x y)) co (pX ((rcO (opnC w h bx0 by0 bx1 by1) g (g (ixP x y)) co st1 j).2.1 j)) (pY ((rcO (opnC w h bx0 by0 bx1 by1) g (g (ixP x y)) co st1 j).2.1 j)) (rcO (opnC w h bx0 by0 bx1 by1) g (g (ixP x y)) co st1 j) i).1) → va_P D vwCl [(h0, .inr (6, [.ref v1, .ref v2, .int z3])), (v1, .inl (cI, 4096, .inl gm)), (v2, .inl (cI, 4096, .inl gn)), (t0, .inr (5, [.ref d0, .int w, .int h])), (d0, .inl (cI, 4096, .inl g)), (lb, .inr (0, [.int bx0, .int by0, .int bx1, .int by1]))] H → va_D A [(h0, .inr (6, [.ref v1, .ref v2, .int z3])), (v1, .inl (cI, 4096, .inl gm)), (v2, .inl (cI, 4096, .inl gn)), (t0, .inr (5, [.ref d0, .int w, .int h])), (d0, .inl (cI, 4096, .inl g)), (lb, .inr (0, [.int bx0, .int by0, .int bx1, .int by1]))] → va_S A s.heap H locs → lv_has ls 11 [(8, .int x8), (7, .int x7), (6, .int r_4), (0, .ref h0), (1, .ref t0), (2, .ref lb), (3, .int x), (4, .int y), (5, .int co)] → W p l e R s m ([.ref h0, .ref t0, .ref lb, .int x, .int y, .int co] : List Value).toArray below meth c H locs 0 0 Q (F0 m 56 ls []) := by
            intro n
            induction n with
            | zero =>
              intro i x8 gm gn z3 H locs ls hi_i hm_i ex_i f1 f2 f3 hP hD hS hl
              exact absurd (show False by omega) not_false
            | succ n ih_13 =>
              intro i x8 gm gn z3 H locs ls hi_i hm_i ex_i f1 f2 f3 hP hD hS hl
              have hx_i : x8.toInt = (i : Int) := by rw [ex_i]; exact nI_toInt (by omega)
              have hc_i : x8.toNatClampNeg = i := by rw [ex_i]; exact nI_clamp (by omega)
              have hk := rcI_keep (C := (opnC w h bx0 by0 bx1 by1)) (g := g) (vl := (g (ixP x y))) (co := co) (px := pX ((rcO (opnC w h bx0 by0 bx1 by1) g (g (ixP x y)) co st1 j).2.1 j)) (py := pY ((rcO (opnC w h bx0 by0 bx1 by1) g (g (ixP x y)) co st1 j).2.1 j)) hsz i
              have hz3 : z3.toInt = (((rcI (opnC w h bx0 by0 bx1 by1) g (g (ixP x y)) co (pX ((rcO (opnC w h bx0 by0 bx1 by1) g (g (ixP x y)) co st1 j).2.1 j)) (pY ((rcO (opnC w h bx0 by0 bx1 by1) g (g (ixP x y)) co st1 j).2.1 j)) (rcO (opnC w h bx0 by0 bx1 by1) g (g (ixP x y)) co st1 j) i).2.2 : Nat) : Int) := by rw [f1]; exact nI_toInt (by omega)
              refine lv_iload hx hb dX6_gather_56 (lv_at hl 0 rfl) ?_
              refine lv_bipush (v := 9) hx hb dX6_gather_58 (by decide) ?_
              refine lv_icmp_ge (tgt := 126) hx hb dX6_gather_60 (by decide) (fun c_14 => ?_) (fun c_14 => ?_)
              · skip
                have f_15 : 9 ≤ (i : Int) := f_le (by decide) hx_i c_14
                obtain ⟨y_16, ey_16⟩ : ∃ y : Int32, y = x7 + 1 := ⟨_, rfl⟩
                refine lv_iinc (v := y_16) (lv' := [(7, .int y_16), (8, .int x8), (6, .int r_4), (0, .ref h0), (1, .ref t0), (2, .ref lb), (3, .int x), (4, .int y), (5, .int co)]) hx hb dX6_gather_126 hl (k := 1) rfl (by rw [ey_16]; rfl) (by decide) rfl (fun ls hl => ?_)
                refine lv_goto (tgt := 36) hx hb dX6_gather_129 (by decide) ?_
                exact ih_7 (j + 1) y_16 gm gn z3 _ _ _ (by omega) (by omega) (by rw [ey_16, ex_j]; exact nI_1 j) (by rw [(show (rcO (opnC w h bx0 by0 bx1 by1) g (g (ixP x y)) co st1 (j + 1)) = (rcI (opnC w h bx0 by0 bx1 by1) g (g (ixP x y)) co (pX ((rcO (opnC w h bx0 by0 bx1 by1) g (g (ixP x y)) co st1 j).2.1 j)) (pY ((rcO (opnC w h bx0 by0 bx1 by1) g (g (ixP x y)) co st1 j).2.1 j)) (rcO (opnC w h bx0 by0 bx1 by1) g (g (ixP x y)) co st1 j) i) by rw [show i = 9 by omega]; rfl)]; exact f1) (by rw [(show (rcO (opnC w h bx0 by0 bx1 by1) g (g (ixP x y)) co st1 (j + 1)) = (rcI (opnC w h bx0 by0 bx1 by1) g (g (ixP x y)) co (pX ((rcO (opnC w h bx0 by0 bx1 by1) g (g (ixP x y)) co st1 j).2.1 j)) (pY ((rcO (opnC w h bx0 by0 bx1 by1) g (g (ixP x y)) co st1 j).2.1 j)) (rcO (opnC w h bx0 by0 bx1 by1) g (g (ixP x y)) co st1 j) i) by rw [show i = 9 by omega]; rfl)]; exact f2) (by rw [(show (rcO (opnC w h bx0 by0 bx1 by1) g (g (ixP x y)) co st1 (j + 1)) = (rcI (opnC w h bx0 by0 bx1 by1) g (g (ixP x y)) co (pX ((rcO (opnC w h bx0 by0 bx1 by1) g (g (ixP x y)) co st1 j).2.1 j)) (pY ((rcO (opnC w h bx0 by0 bx1 by1) g (g (ixP x y)) co st1 j).2.1 j)) (rcO (opnC w h bx0 by0 bx1 by1) g (g (ixP x y)) co st1 j) i) by rw [show i = 9 by omega]; rfl)]; exact f3) (by rw [(show (rcO (opnC w h bx0 by0 bx1 by1) g (g (ixP x y)) co st1 (j + 1)) = (rcI (opnC w h bx0 by0 bx1 by1) g (g (ixP x y)) co (pX ((rcO (opnC w h bx0 by0 bx1 by1) g (g (ixP x y)) co st1 j).2.1 j)) (pY ((rcO (opnC w h bx0 by0 bx1 by1) g (g (ixP x y)) co st1 j).2.1 j)) (rcO (opnC w h bx0 by0 bx1 by1) g (g (ixP x y)) co st1 j) i) by rw [show i = 9 by omega]; rfl)]; exact hk.2.1) (fun i' h => by by_cases q : i' = j; (· rw [q]; omega); (· exact hall i' (by omega))) (hP.sub (ws' := [(h0, .inr (6, [.ref v1, .ref v2, .int z3])), (v1, .inl (cI, 4096, .inl gm)), (v2, .inl (cI, 4096, .inl gn)), (t0, .inr (5, [.ref d0, .int w, .int h])), (d0, .inl (cI, 4096, .inl g)), (lb, .inr (0, [.int bx0, .int by0, .int bx1, .int by1]))]) [0, 1, 2, 3, 4, 5] rfl) (hD.sub (ws' := [(h0, .inr (6, [.ref v1, .ref v2, .int z3])), (v1, .inl (cI, 4096, .inl gm)), (v2, .inl (cI, 4096, .inl gn)), (t0, .inr (5, [.ref d0, .int w, .int h])), (d0, .inl (cI, 4096, .inl g)), (lb, .inr (0, [.int bx0, .int by0, .int bx1, .int by1]))]) [0, 1, 2, 3, 4, 5] (by decide) rfl) hS (lv_sub hl [0, 2, 3, 4, 5, 6, 7, 8] rfl)
              · skip
                have f_15 : ¬ (9 ≤ (i : Int)) := fn_le (by decide) hx_i c_14
                refine lv_iload hx hb dX6_gather_63 (lv_at hl 0 rfl) ?_
                refine lv_iconst (v := 3) hx hb dX6_gather_65 (by decide) ?_
                refine lv_irem hx hb dX6_gather_66 (by decide) ?_
                refine lv_topi (fun y_17 ey_17 => ?_)
                refine lv_iconst (v := 1) hx hb dX6_gather_67 (by decide) ?_
                refine lv_isub hx hb dX6_gather_68 ?_
                refine lv_topi (fun y_18 ey_18 => ?_)
                have hdy_18 : y_18 = dX i := by rw [ey_18, ey_17, ex_i]; exact dX_eq i (by omega)
                refine lv_istore (lv' := [(9, .int y_18), (8, .int x8), (7, .int x7), (6, .int r_4), (0, .ref h0), (1, .ref t0), (2, .ref lb), (3, .int x), (4, .int y), (5, .int co)]) hx hb dX6_gather_69 hl (by decide) rfl (fun ls hl => ?_)
                refine lv_iload hx hb dX6_gather_71 (lv_at hl 1 rfl) ?_
                refine lv_iconst (v := 3) hx hb dX6_gather_73 (by decide) ?_
                refine lv_idiv hx hb dX6_gather_74 (by decide) ?_
                refine lv_topi (fun y_19 ey_19 => ?_)
                refine lv_iconst (v := 1) hx hb dX6_gather_75 (by decide) ?_
                refine lv_isub hx hb dX6_gather_76 ?_
                refine lv_topi (fun y_20 ey_20 => ?_)
                have hdy_20 : y_20 = dY i := by rw [ey_20, ey_19, ex_i]; exact dY_eq i (by omega)
                refine lv_istore (lv' := [(10, .int y_20), (9, .int y_18), (8, .int x8), (7, .int x7), (6, .int r_4), (0, .ref h0), (1, .ref t0), (2, .ref lb), (3, .int x), (4, .int y), (5, .int co)]) hx hb dX6_gather_77 hl (by decide) rfl (fun ls hl => ?_)
                refine lv_iload hx hb dX6_gather_79 (lv_at hl 10 rfl) ?_
                refine lv_if_ne (tgt := 94) hx hb dX6_gather_81 (by decide) (fun c_21 => ?_) (fun c_21 => ?_)
                · skip
                  have f_22 : ¬ (co.toInt = 0) := fn_eq rfl (by decide) c_21
                  refine lv_aload_n hx hb dX6_gather_94 rfl (lv_at hl 5 rfl) ?_
                  refine lv_aload_n hx hb dX6_gather_95 rfl (lv_at hl 6 rfl) ?_
                  refine lv_aload_n hx hb dX6_gather_96 rfl (lv_at hl 7 rfl) ?_
                  refine lv_aload_n hx hb dX6_gather_97 rfl (lv_at hl 5 rfl) ?_
                  refine lv_iload hx hb dX6_gather_98 (lv_at hl 3 rfl) ?_
                  have hPc := hP.sub (ws' := [(h0, .inr (6, [.ref v1, .ref v2, .int z3])), (v1, .inl (cI, 4096, .inl gm))]) [0, 1] rfl
                  have hDc := hD.sub (ws' := [(h0, .inr (6, [.ref v1, .ref v2, .int z3])), (v1, .inl (cI, 4096, .inl gm))]) [0, 1] (by decide) rfl
                  have hKc := hK.sub (tys' := [(cI, .int)]) [0] rfl
                  have hFc := va_free (wc := [(h0, .inr (6, [.ref v1, .ref v2, .int z3])), (v1, .inl (cI, 4096, .inl gm))]) hD hS hA [0, 1] rfl
                  refine va_calli (va_runV (As := [.int x7]) (rest := [.ref lb, .ref t0, .ref h0]) ⟨hx, hb, hml, hown, hts⟩ (k_X6_xAt_e l D H.size h0 v1 v2 z3 gm x7 cI (by first | assumption | omega | decide)) (cwV 1 hts (gV bw_182 bw_185 bw_186 bw_168 bw_184) rfl rfl rfl (by decide +kernel) ⟨(by rw [hR]; exact Nat.le_of_ble_eq_true rfl), (by rw [hR]; exact Nat.le_of_ble_eq_true rfl)⟩) ⟨cP_blind, va_recv hKc hPc (ci := 6) (q0 := 0) rfl rfl, cP_at hPc hKc hDc hN⟩ rfl rfl hl.1 rfl (lv_room (Nat.le_of_ble_eq_true rfl)) dX6_gather_100 ⟨(by rw [hR]; exact Nat.le_of_ble_eq_true rfl), (by rw [hR]; exact Nat.le_of_ble_eq_true rfl)⟩) hS (fun q _ h => hFc q h) hFc (fun r_23 u9 t9 H1 locs ht hvm hr_23 hB hz1 hk1 hS => ?_)
                  try dsimp only at hr_23
                  obtain ⟨hP1, hK1, hD1⟩ := hB
                  rw [ht] at hP1
                  obtain ⟨hP, hD⟩ := va_join (wr := [(v2, .inl (cI, 4096, .inl gn)), (t0, .inr (5, [.ref d0, .int w, .int h])), (d0, .inl (cI, 4096, .inl g)), (lb, .inr (0, [.int bx0, .int by0, .int bx1, .int by1]))]) (w1 := [(h0, .inr (6, [.ref v1, .ref v2, .int z3])), (v1, .inl (cI, 4096, .inl gm))]) hP hD [0, 1] [2, 3, 4, 5] rfl rfl (by decide) (by decide) hk1 hFc hP1 hD1
                  clear hz1 hk1 hFc hKc hDc hPc
                  generalize H1 = H at hP hS ⊢
                  have hP : va_P D vwCl [(v2, .inl (cI, 4096, .inl gn)), (t0, .inr (5, [.ref d0, .int w, .int h])), (d0, .inl (cI, 4096, .inl g)), (lb, .inr (0, [.int bx0, .int by0, .int bx1, .int by1])), (h0, .inr (6, [.ref v1, .ref v2, .int z3])), (v1, .inl (cI, 4096, .inl gm))] H := hP
                  have hD : va_D A [(v2, .inl (cI, 4096, .inl gn)), (t0, .inr (5, [.ref d0, .int w, .int h])), (d0, .inl (cI, 4096, .inl g)), (lb, .inr (0, [.int bx0, .int by0, .int bx1, .int by1])), (h0, .inr (6, [.ref v1, .ref v2, .int z3])), (v1, .inl (cI, 4096, .inl gm))] := hD
                  have hpr_23 : r_23 = pX ((rcO (opnC w h bx0 by0 bx1 by1) g (g (ixP x y)) co st1 j).2.1 j) := by rw [hr_23, if_pos (by omega), hc_j, f2, hk.2.2 j (by omega)]
                  refine lv_iload hx hb dX6_gather_103 (lv_at hl 1 rfl) ?_
                  refine lv_iadd hx hb dX6_gather_105 ?_
                  refine lv_topi (fun y_24 ey_24 => ?_)
                  have hay_24 : y_24 = pX ((rcO (opnC w h bx0 by0 bx1 by1) g (g (ixP x y)) co st1 j).2.1 j) + dX i := by rw [ey_24, hpr_23, hdy_18]
                  refine lv_aload_n hx hb dX6_gather_106 rfl (lv_at hl 5 rfl) ?_
                  refine lv_iload hx hb dX6_gather_107 (lv_at hl 3 rfl) ?_
                  have hPc := hP.sub (ws' := [(h0, .inr (6, [.ref v1, .ref v2, .int z3])), (v1, .inl (cI, 4096, .inl gm))]) [4, 5] rfl
                  have hDc := hD.sub (ws' := [(h0, .inr (6, [.ref v1, .ref v2, .int z3])), (v1, .inl (cI, 4096, .inl gm))]) [4, 5] (by decide) rfl
                  have hKc := hK.sub (tys' := [(cI, .int)]) [0] rfl
                  have hFc := va_free (wc := [(h0, .inr (6, [.ref v1, .ref v2, .int z3])), (v1, .inl (cI, 4096, .inl gm))]) hD hS hA [4, 5] rfl
                  refine va_calli (va_runV (As := [.int x7]) (rest := [.int y_24, .ref lb, .ref t0, .ref h0]) ⟨hx, hb, hml, hown, hts⟩ (k_X6_yAt_e l D H.size h0 v1 v2 z3 gm x7 cI (by first | assumption | omega | decide)) (cwV 1 hts (gV bw_183 bw_188 bw_189 bw_168 bw_187) rfl rfl rfl (by decide +kernel) ⟨(by rw [hR]; exact Nat.le_of_ble_eq_true rfl), (by rw [hR]; exact Nat.le_of_ble_eq_true rfl)⟩) ⟨cP_blind, va_recv hKc hPc (ci := 6) (q0 := 0) rfl rfl, cP_at hPc hKc hDc hN⟩ rfl rfl hl.1 rfl (lv_room (Nat.le_of_ble_eq_true rfl)) dX6_gather_109 ⟨(by rw [hR]; exact Nat.le_of_ble_eq_true rfl), (by rw [hR]; exact Nat.le_of_ble_eq_true rfl)⟩) hS (fun q _ h => hFc q h) hFc (fun r_25 u9 t9 H1 locs ht hvm hr_25 hB hz1 hk1 hS => ?_)
                  try dsimp only at hr_25
                  obtain ⟨hP1, hK1, hD1⟩ := hB
                  rw [ht] at hP1
                  obtain ⟨hP, hD⟩ := va_join (wr := [(v2, .inl (cI, 4096, .inl gn)), (t0, .inr (5, [.ref d0, .int w, .int h])), (d0, .inl (cI, 4096, .inl g)), (lb, .inr (0, [.int bx0, .int by0, .int bx1, .int by1]))]) (w1 := [(h0, .inr (6, [.ref v1, .ref v2, .int z3])), (v1, .inl (cI, 4096, .inl gm))]) hP hD [4, 5] [0, 1, 2, 3] rfl rfl (by decide) (by decide) hk1 hFc hP1 hD1
                  clear hz1 hk1 hFc hKc hDc hPc
                  generalize H1 = H at hP hS ⊢
                  have hP : va_P D vwCl [(v2, .inl (cI, 4096, .inl gn)), (t0, .inr (5, [.ref d0, .int w, .int h])), (d0, .inl (cI, 4096, .inl g)), (lb, .inr (0, [.int bx0, .int by0, .int bx1, .int by1])), (h0, .inr (6, [.ref v1, .ref v2, .int z3])), (v1, .inl (cI, 4096, .inl gm))] H := hP
                  have hD : va_D A [(v2, .inl (cI, 4096, .inl gn)), (t0, .inr (5, [.ref d0, .int w, .int h])), (d0, .inl (cI, 4096, .inl g)), (lb, .inr (0, [.int bx0, .int by0, .int bx1, .int by1])), (h0, .inr (6, [.ref v1, .ref v2, .int z3])), (v1, .inl (cI, 4096, .inl gm))] := hD
                  have hpr_25 : r_25 = pY ((rcO (opnC w h bx0 by0 bx1 by1) g (g (ixP x y)) co st1 j).2.1 j) := by rw [hr_25, if_pos (by omega), hc_j, f2, hk.2.2 j (by omega)]
                  refine lv_iload hx hb dX6_gather_112 (lv_at hl 0 rfl) ?_
                  refine lv_iadd hx hb dX6_gather_114 ?_
                  refine lv_topi (fun y_26 ey_26 => ?_)
                  have hay_26 : y_26 = pY ((rcO (opnC w h bx0 by0 bx1 by1) g (g (ixP x y)) co st1 j).2.1 j) + dY i := by rw [ey_26, hpr_25, hdy_20]
                  refine lv_iload hx hb dX6_gather_115 (lv_at hl 4 rfl) ?_
                  have hPc := hP.sub (ws' := [(h0, .inr (6, [.ref v1, .ref v2, .int z3])), (v1, .inl (cI, 4096, .inl gm)), (v2, .inl (cI, 4096, .inl gn)), (t0, .inr (5, [.ref d0, .int w, .int h])), (d0, .inl (cI, 4096, .inl g)), (lb, .inr (0, [.int bx0, .int by0, .int bx1, .int by1]))]) [4, 5, 0, 1, 2, 3] rfl
                  have hDc := hD.sub (ws' := [(h0, .inr (6, [.ref v1, .ref v2, .int z3])), (v1, .inl (cI, 4096, .inl gm)), (v2, .inl (cI, 4096, .inl gn)), (t0, .inr (5, [.ref d0, .int w, .int h])), (d0, .inl (cI, 4096, .inl g)), (lb, .inr (0, [.int bx0, .int by0, .int bx1, .int by1]))]) [4, 5, 0, 1, 2, 3] (by decide) rfl
                  have hKc := hK.sub (tys' := [(cI, .int)]) [0] rfl
                  have hFc := va_free (wc := [(h0, .inr (6, [.ref v1, .ref v2, .int z3])), (v1, .inl (cI, 4096, .inl gm)), (v2, .inl (cI, 4096, .inl gn)), (t0, .inr (5, [.ref d0, .int w, .int h])), (d0, .inl (cI, 4096, .inl g)), (lb, .inr (0, [.int bx0, .int by0, .int bx1, .int by1]))]) hD hS hA [4, 5, 0, 1, 2, 3] rfl
                  refine va_callv (va_runV (As := [.ref t0, .ref lb, .int y_24, .int y_26, .int r_4]) (rest := []) ⟨hx, hb, hml, hown, hts⟩ (k_X6_reach_e l D H.size h0 v1 v2 t0 d0 lb z3 gm gn w h g bx0 by0 bx1 by1 y_24 y_26 r_4 ((rcI (opnC w h bx0 by0 bx1 by1) g (g (ixP x y)) co (pX ((rcO (opnC w h bx0 by0 bx1 by1) g (g (ixP x y)) co st1 j).2.1 j)) (pY ((rcO (opnC w h bx0 by0 bx1 by1) g (g (ixP x y)) co st1 j).2.1 j)) (rcO (opnC w h bx0 by0 bx1 by1) g (g (ixP x y)) co st1 j) i).2.2) cI f1 hk.2.1 hz3 (by first | assumption | omega | decide) (by first | assumption | omega | decide)) (cwV 5 hts (gV bw_181 bw_191 bw_192 bw_168 bw_190) rfl rfl rfl (by decide +kernel) ⟨(by rw [hR]; exact Nat.le_of_ble_eq_true rfl), (by rw [hR]; exact Nat.le_of_ble_eq_true rfl)⟩) ⟨cP_blind, va_recv hKc hPc (ci := 6) (q0 := 0) rfl rfl, cP_at hPc hKc hDc hN⟩ rfl rfl hl.1 rfl (lv_room (Nat.le_of_ble_eq_true rfl)) dX6_gather_117 ⟨(by rw [hR]; exact Nat.le_of_ble_eq_true rfl), (by rw [hR]; exact Nat.le_of_ble_eq_true rfl)⟩) hS (fun q _ h => hFc q h) hFc (fun u9 t9 H1 locs ht hvm hr_27 hB hz1 hk1 hS => ?_)
                  try dsimp only at hr_27
                  obtain ⟨hP1, hK1, hD1⟩ := hB
                  rw [ht] at hP1
                  obtain ⟨hP, hD⟩ := va_join (wr := []) (w1 := [(h0, .inr (6, [.ref v1, .ref v2, .int (nI (rcS (opnC w h bx0 by0 bx1 by1) g r_4 y_24 y_26 (gn, gm, ((rcI (opnC w h bx0 by0 bx1 by1) g (g (ixP x y)) co (pX ((rcO (opnC w h bx0 by0 bx1 by1) g (g (ixP x y)) co st1 j).2.1 j)) (pY ((rcO (opnC w h bx0 by0 bx1 by1) g (g (ixP x y)) co st1 j).2.1 j)) (rcO (opnC w h bx0 by0 bx1 by1) g (g (ixP x y)) co st1 j) i).2.2))).2.2)])), (v1, .inl (cI, 4096, .inl ((rcS (opnC w h bx0 by0 bx1 by1) g r_4 y_24 y_26 (gn, gm, ((rcI (opnC w h bx0 by0 bx1 by1) g (g (ixP x y)) co (pX ((rcO (opnC w h bx0 by0 bx1 by1) g (g (ixP x y)) co st1 j).2.1 j)) (pY ((rcO (opnC w h bx0 by0 bx1 by1) g (g (ixP x y)) co st1 j).2.1 j)) (rcO (opnC w h bx0 by0 bx1 by1) g (g (ixP x y)) co st1 j) i).2.2))).2.1))), (v2, .inl (cI, 4096, .inl ((rcS (opnC w h bx0 by0 bx1 by1) g r_4 y_24 y_26 (gn, gm, ((rcI (opnC w h bx0 by0 bx1 by1) g (g (ixP x y)) co (pX ((rcO (opnC w h bx0 by0 bx1 by1) g (g (ixP x y)) co st1 j).2.1 j)) (pY ((rcO (opnC w h bx0 by0 bx1 by1) g (g (ixP x y)) co st1 j).2.1 j)) (rcO (opnC w h bx0 by0 bx1 by1) g (g (ixP x y)) co st1 j) i).2.2))).1))), (t0, .inr (5, [.ref d0, .int w, .int h])), (d0, .inl (cI, 4096, .inl g)), (lb, .inr (0, [.int bx0, .int by0, .int bx1, .int by1]))]) hP hD [4, 5, 0, 1, 2, 3] [] rfl rfl (by decide) (by decide) hk1 hFc hP1 hD1
                  clear hz1 hk1 hFc hKc hDc hPc
                  generalize H1 = H at hP hS ⊢
                  have hP : va_P D vwCl [(h0, .inr (6, [.ref v1, .ref v2, .int (nI (rcS (opnC w h bx0 by0 bx1 by1) g r_4 y_24 y_26 (gn, gm, ((rcI (opnC w h bx0 by0 bx1 by1) g (g (ixP x y)) co (pX ((rcO (opnC w h bx0 by0 bx1 by1) g (g (ixP x y)) co st1 j).2.1 j)) (pY ((rcO (opnC w h bx0 by0 bx1 by1) g (g (ixP x y)) co st1 j).2.1 j)) (rcO (opnC w h bx0 by0 bx1 by1) g (g (ixP x y)) co st1 j) i).2.2))).2.2)])), (v1, .inl (cI, 4096, .inl ((rcS (opnC w h bx0 by0 bx1 by1) g r_4 y_24 y_26 (gn, gm, ((rcI (opnC w h bx0 by0 bx1 by1) g (g (ixP x y)) co (pX ((rcO (opnC w h bx0 by0 bx1 by1) g (g (ixP x y)) co st1 j).2.1 j)) (pY ((rcO (opnC w h bx0 by0 bx1 by1) g (g (ixP x y)) co st1 j).2.1 j)) (rcO (opnC w h bx0 by0 bx1 by1) g (g (ixP x y)) co st1 j) i).2.2))).2.1))), (v2, .inl (cI, 4096, .inl ((rcS (opnC w h bx0 by0 bx1 by1) g r_4 y_24 y_26 (gn, gm, ((rcI (opnC w h bx0 by0 bx1 by1) g (g (ixP x y)) co (pX ((rcO (opnC w h bx0 by0 bx1 by1) g (g (ixP x y)) co st1 j).2.1 j)) (pY ((rcO (opnC w h bx0 by0 bx1 by1) g (g (ixP x y)) co st1 j).2.1 j)) (rcO (opnC w h bx0 by0 bx1 by1) g (g (ixP x y)) co st1 j) i).2.2))).1))), (t0, .inr (5, [.ref d0, .int w, .int h])), (d0, .inl (cI, 4096, .inl g)), (lb, .inr (0, [.int bx0, .int by0, .int bx1, .int by1]))] H := hP
                  have hD : va_D A [(h0, .inr (6, [.ref v1, .ref v2, .int (nI (rcS (opnC w h bx0 by0 bx1 by1) g r_4 y_24 y_26 (gn, gm, ((rcI (opnC w h bx0 by0 bx1 by1) g (g (ixP x y)) co (pX ((rcO (opnC w h bx0 by0 bx1 by1) g (g (ixP x y)) co st1 j).2.1 j)) (pY ((rcO (opnC w h bx0 by0 bx1 by1) g (g (ixP x y)) co st1 j).2.1 j)) (rcO (opnC w h bx0 by0 bx1 by1) g (g (ixP x y)) co st1 j) i).2.2))).2.2)])), (v1, .inl (cI, 4096, .inl ((rcS (opnC w h bx0 by0 bx1 by1) g r_4 y_24 y_26 (gn, gm, ((rcI (opnC w h bx0 by0 bx1 by1) g (g (ixP x y)) co (pX ((rcO (opnC w h bx0 by0 bx1 by1) g (g (ixP x y)) co st1 j).2.1 j)) (pY ((rcO (opnC w h bx0 by0 bx1 by1) g (g (ixP x y)) co st1 j).2.1 j)) (rcO (opnC w h bx0 by0 bx1 by1) g (g (ixP x y)) co st1 j) i).2.2))).2.1))), (v2, .inl (cI, 4096, .inl ((rcS (opnC w h bx0 by0 bx1 by1) g r_4 y_24 y_26 (gn, gm, ((rcI (opnC w h bx0 by0 bx1 by1) g (g (ixP x y)) co (pX ((rcO (opnC w h bx0 by0 bx1 by1) g (g (ixP x y)) co st1 j).2.1 j)) (pY ((rcO (opnC w h bx0 by0 bx1 by1) g (g (ixP x y)) co st1 j).2.1 j)) (rcO (opnC w h bx0 by0 bx1 by1) g (g (ixP x y)) co st1 j) i).2.2))).1))), (t0, .inr (5, [.ref d0, .int w, .int h])), (d0, .inl (cI, 4096, .inl g)), (lb, .inr (0, [.int bx0, .int by0, .int bx1, .int by1]))] := hD
                  obtain ⟨y_28, ey_28⟩ : ∃ y : Int32, y = x8 + 1 := ⟨_, rfl⟩
                  refine lv_iinc (v := y_28) (lv' := [(8, .int y_28), (10, .int y_20), (9, .int y_18), (7, .int x7), (6, .int r_4), (0, .ref h0), (1, .ref t0), (2, .ref lb), (3, .int x), (4, .int y), (5, .int co)]) hx hb dX6_gather_120 hl (k := 2) rfl (by rw [ey_28]; rfl) (by decide) rfl (fun ls hl => ?_)
                  refine lv_goto (tgt := 56) hx hb dX6_gather_123 (by decide) ?_
                  exact ih_13 (i + 1) y_28 ((rcS (opnC w h bx0 by0 bx1 by1) g r_4 y_24 y_26 (gn, gm, ((rcI (opnC w h bx0 by0 bx1 by1) g (g (ixP x y)) co (pX ((rcO (opnC w h bx0 by0 bx1 by1) g (g (ixP x y)) co st1 j).2.1 j)) (pY ((rcO (opnC w h bx0 by0 bx1 by1) g (g (ixP x y)) co st1 j).2.1 j)) (rcO (opnC w h bx0 by0 bx1 by1) g (g (ixP x y)) co st1 j) i).2.2))).2.1) ((rcS (opnC w h bx0 by0 bx1 by1) g r_4 y_24 y_26 (gn, gm, ((rcI (opnC w h bx0 by0 bx1 by1) g (g (ixP x y)) co (pX ((rcO (opnC w h bx0 by0 bx1 by1) g (g (ixP x y)) co st1 j).2.1 j)) (pY ((rcO (opnC w h bx0 by0 bx1 by1) g (g (ixP x y)) co st1 j).2.1 j)) (rcO (opnC w h bx0 by0 bx1 by1) g (g (ixP x y)) co st1 j) i).2.2))).1) (nI (rcS (opnC w h bx0 by0 bx1 by1) g r_4 y_24 y_26 (gn, gm, ((rcI (opnC w h bx0 by0 bx1 by1) g (g (ixP x y)) co (pX ((rcO (opnC w h bx0 by0 bx1 by1) g (g (ixP x y)) co st1 j).2.1 j)) (pY ((rcO (opnC w h bx0 by0 bx1 by1) g (g (ixP x y)) co st1 j).2.1 j)) (rcO (opnC w h bx0 by0 bx1 by1) g (g (ixP x y)) co st1 j) i).2.2))).2.2) _ _ _ (by omega) (by omega) (by rw [ey_28, ex_i]; exact nI_1 i) (congrArg (fun q : S3 => nI q.2.2) (show rcS (opnC w h bx0 by0 bx1 by1) g r_4 y_24 y_26 (gn, gm, (rcI (opnC w h bx0 by0 bx1 by1) g (g (ixP x y)) co (pX ((rcO (opnC w h bx0 by0 bx1 by1) g (g (ixP x y)) co st1 j).2.1 j)) (pY ((rcO (opnC w h bx0 by0 bx1 by1) g (g (ixP x y)) co st1 j).2.1 j)) (rcO (opnC w h bx0 by0 bx1 by1) g (g (ixP x y)) co st1 j) i).2.2) = (rcI (opnC w h bx0 by0 bx1 by1) g (g (ixP x y)) co (pX ((rcO (opnC w h bx0 by0 bx1 by1) g (g (ixP x y)) co st1 j).2.1 j)) (pY ((rcO (opnC w h bx0 by0 bx1 by1) g (g (ixP x y)) co st1 j).2.1 j)) (rcO (opnC w h bx0 by0 bx1 by1) g (g (ixP x y)) co st1 j) (i + 1)) from (by rw [show (gn, gm, (rcI (opnC w h bx0 by0 bx1 by1) g (g (ixP x y)) co (pX ((rcO (opnC w h bx0 by0 bx1 by1) g (g (ixP x y)) co st1 j).2.1 j)) (pY ((rcO (opnC w h bx0 by0 bx1 by1) g (g (ixP x y)) co st1 j).2.1 j)) (rcO (opnC w h bx0 by0 bx1 by1) g (g (ixP x y)) co st1 j) i).2.2) = (rcI (opnC w h bx0 by0 bx1 by1) g (g (ixP x y)) co (pX ((rcO (opnC w h bx0 by0 bx1 by1) g (g (ixP x y)) co st1 j).2.1 j)) (pY ((rcO (opnC w h bx0 by0 bx1 by1) g (g (ixP x y)) co st1 j).2.1 j)) (rcO (opnC w h bx0 by0 bx1 by1) g (g (ixP x y)) co st1 j) i) by rw [f2, f3], hvr, hay_24, hay_26]; exact (if_pos (Or.inl c_21)).symm))) (congrArg (fun q : S3 => q.2.1) (show rcS (opnC w h bx0 by0 bx1 by1) g r_4 y_24 y_26 (gn, gm, (rcI (opnC w h bx0 by0 bx1 by1) g (g (ixP x y)) co (pX ((rcO (opnC w h bx0 by0 bx1 by1) g (g (ixP x y)) co st1 j).2.1 j)) (pY ((rcO (opnC w h bx0 by0 bx1 by1) g (g (ixP x y)) co st1 j).2.1 j)) (rcO (opnC w h bx0 by0 bx1 by1) g (g (ixP x y)) co st1 j) i).2.2) = (rcI (opnC w h bx0 by0 bx1 by1) g (g (ixP x y)) co (pX ((rcO (opnC w h bx0 by0 bx1 by1) g (g (ixP x y)) co st1 j).2.1 j)) (pY ((rcO (opnC w h bx0 by0 bx1 by1) g (g (ixP x y)) co st1 j).2.1 j)) (rcO (opnC w h bx0 by0 bx1 by1) g (g (ixP x y)) co st1 j) (i + 1)) from (by rw [show (gn, gm, (rcI (opnC w h bx0 by0 bx1 by1) g (g (ixP x y)) co (pX ((rcO (opnC w h bx0 by0 bx1 by1) g (g (ixP x y)) co st1 j).2.1 j)) (pY ((rcO (opnC w h bx0 by0 bx1 by1) g (g (ixP x y)) co st1 j).2.1 j)) (rcO (opnC w h bx0 by0 bx1 by1) g (g (ixP x y)) co st1 j) i).2.2) = (rcI (opnC w h bx0 by0 bx1 by1) g (g (ixP x y)) co (pX ((rcO (opnC w h bx0 by0 bx1 by1) g (g (ixP x y)) co st1 j).2.1 j)) (pY ((rcO (opnC w h bx0 by0 bx1 by1) g (g (ixP x y)) co st1 j).2.1 j)) (rcO (opnC w h bx0 by0 bx1 by1) g (g (ixP x y)) co st1 j) i) by rw [f2, f3], hvr, hay_24, hay_26]; exact (if_pos (Or.inl c_21)).symm))) (congrArg (fun q : S3 => q.1) (show rcS (opnC w h bx0 by0 bx1 by1) g r_4 y_24 y_26 (gn, gm, (rcI (opnC w h bx0 by0 bx1 by1) g (g (ixP x y)) co (pX ((rcO (opnC w h bx0 by0 bx1 by1) g (g (ixP x y)) co st1 j).2.1 j)) (pY ((rcO (opnC w h bx0 by0 bx1 by1) g (g (ixP x y)) co st1 j).2.1 j)) (rcO (opnC w h bx0 by0 bx1 by1) g (g (ixP x y)) co st1 j) i).2.2) = (rcI (opnC w h bx0 by0 bx1 by1) g (g (ixP x y)) co (pX ((rcO (opnC w h bx0 by0 bx1 by1) g (g (ixP x y)) co st1 j).2.1 j)) (pY ((rcO (opnC w h bx0 by0 bx1 by1) g (g (ixP x y)) co st1 j).2.1 j)) (rcO (opnC w h bx0 by0 bx1 by1) g (g (ixP x y)) co st1 j) (i + 1)) from (by rw [show (gn, gm, (rcI (opnC w h bx0 by0 bx1 by1) g (g (ixP x y)) co (pX ((rcO (opnC w h bx0 by0 bx1 by1) g (g (ixP x y)) co st1 j).2.1 j)) (pY ((rcO (opnC w h bx0 by0 bx1 by1) g (g (ixP x y)) co st1 j).2.1 j)) (rcO (opnC w h bx0 by0 bx1 by1) g (g (ixP x y)) co st1 j) i).2.2) = (rcI (opnC w h bx0 by0 bx1 by1) g (g (ixP x y)) co (pX ((rcO (opnC w h bx0 by0 bx1 by1) g (g (ixP x y)) co st1 j).2.1 j)) (pY ((rcO (opnC w h bx0 by0 bx1 by1) g (g (ixP x y)) co st1 j).2.1 j)) (rcO (opnC w h bx0 by0 bx1 by1) g (g (ixP x y)) co st1 j) i) by rw [f2, f3], hvr, hay_24, hay_26]; exact (if_pos (Or.inl c_21)).symm))) (hP.sub (ws' := [(h0, .inr (6, [.ref v1, .ref v2, .int (nI (rcS (opnC w h bx0 by0 bx1 by1) g r_4 y_24 y_26 (gn, gm, ((rcI (opnC w h bx0 by0 bx1 by1) g (g (ixP x y)) co (pX ((rcO (opnC w h bx0 by0 bx1 by1) g (g (ixP x y)) co st1 j).2.1 j)) (pY ((rcO (opnC w h bx0 by0 bx1 by1) g (g (ixP x y)) co st1 j).2.1 j)) (rcO (opnC w h bx0 by0 bx1 by1) g (g (ixP x y)) co st1 j) i).2.2))).2.2)])), (v1, .inl (cI, 4096, .inl ((rcS (opnC w h bx0 by0 bx1 by1) g r_4 y_24 y_26 (gn, gm, ((rcI (opnC w h bx0 by0 bx1 by1) g (g (ixP x y)) co (pX ((rcO (opnC w h bx0 by0 bx1 by1) g (g (ixP x y)) co st1 j).2.1 j)) (pY ((rcO (opnC w h bx0 by0 bx1 by1) g (g (ixP x y)) co st1 j).2.1 j)) (rcO (opnC w h bx0 by0 bx1 by1) g (g (ixP x y)) co st1 j) i).2.2))).2.1))), (v2, .inl (cI, 4096, .inl ((rcS (opnC w h bx0 by0 bx1 by1) g r_4 y_24 y_26 (gn, gm, ((rcI (opnC w h bx0 by0 bx1 by1) g (g (ixP x y)) co (pX ((rcO (opnC w h bx0 by0 bx1 by1) g (g (ixP x y)) co st1 j).2.1 j)) (pY ((rcO (opnC w h bx0 by0 bx1 by1) g (g (ixP x y)) co st1 j).2.1 j)) (rcO (opnC w h bx0 by0 bx1 by1) g (g (ixP x y)) co st1 j) i).2.2))).1))), (t0, .inr (5, [.ref d0, .int w, .int h])), (d0, .inl (cI, 4096, .inl g)), (lb, .inr (0, [.int bx0, .int by0, .int bx1, .int by1]))]) [0, 1, 2, 3, 4, 5] rfl) (hD.sub (ws' := [(h0, .inr (6, [.ref v1, .ref v2, .int (nI (rcS (opnC w h bx0 by0 bx1 by1) g r_4 y_24 y_26 (gn, gm, ((rcI (opnC w h bx0 by0 bx1 by1) g (g (ixP x y)) co (pX ((rcO (opnC w h bx0 by0 bx1 by1) g (g (ixP x y)) co st1 j).2.1 j)) (pY ((rcO (opnC w h bx0 by0 bx1 by1) g (g (ixP x y)) co st1 j).2.1 j)) (rcO (opnC w h bx0 by0 bx1 by1) g (g (ixP x y)) co st1 j) i).2.2))).2.2)])), (v1, .inl (cI, 4096, .inl ((rcS (opnC w h bx0 by0 bx1 by1) g r_4 y_24 y_26 (gn, gm, ((rcI (opnC w h bx0 by0 bx1 by1) g (g (ixP x y)) co (pX ((rcO (opnC w h bx0 by0 bx1 by1) g (g (ixP x y)) co st1 j).2.1 j)) (pY ((rcO (opnC w h bx0 by0 bx1 by1) g (g (ixP x y)) co st1 j).2.1 j)) (rcO (opnC w h bx0 by0 bx1 by1) g (g (ixP x y)) co st1 j) i).2.2))).2.1))), (v2, .inl (cI, 4096, .inl ((rcS (opnC w h bx0 by0 bx1 by1) g r_4 y_24 y_26 (gn, gm, ((rcI (opnC w h bx0 by0 bx1 by1) g (g (ixP x y)) co (pX ((rcO (opnC w h bx0 by0 bx1 by1) g (g (ixP x y)) co st1 j).2.1 j)) (pY ((rcO (opnC w h bx0 by0 bx1 by1) g (g (ixP x y)) co st1 j).2.1 j)) (rcO (opnC w h bx0 by0 bx1 by1) g (g (ixP x y)) co st1 j) i).2.2))).1))), (t0, .inr (5, [.ref d0, .int w, .int h])), (d0, .inl (cI, 4096, .inl g)), (lb, .inr (0, [.int bx0, .int by0, .int bx1, .int by1]))]) [0, 1, 2, 3, 4, 5] (by decide) rfl) hS (lv_sub hl [0, 3, 4, 5, 6, 7, 8, 9, 10] rfl)
                · skip
                  have f_22 : co.toInt = 0 := f_eq rfl (by decide) c_21
                  refine lv_iload hx hb dX6_gather_84 (lv_at hl 1 rfl) ?_
                  refine lv_if_eq (tgt := 94) hx hb dX6_gather_86 (by decide) (fun c_29 => ?_) (fun c_29 => ?_)
                  · skip
                    have f_30 : y_18.toInt = 0 := f_eq rfl (by decide) c_29
                    refine lv_aload_n hx hb dX6_gather_94 rfl (lv_at hl 5 rfl) ?_
                    refine lv_aload_n hx hb dX6_gather_95 rfl (lv_at hl 6 rfl) ?_
                    refine lv_aload_n hx hb dX6_gather_96 rfl (lv_at hl 7 rfl) ?_
                    refine lv_aload_n hx hb dX6_gather_97 rfl (lv_at hl 5 rfl) ?_
                    refine lv_iload hx hb dX6_gather_98 (lv_at hl 3 rfl) ?_
                    have hPc := hP.sub (ws' := [(h0, .inr (6, [.ref v1, .ref v2, .int z3])), (v1, .inl (cI, 4096, .inl gm))]) [0, 1] rfl
                    have hDc := hD.sub (ws' := [(h0, .inr (6, [.ref v1, .ref v2, .int z3])), (v1, .inl (cI, 4096, .inl gm))]) [0, 1] (by decide) rfl
                    have hKc := hK.sub (tys' := [(cI, .int)]) [0] rfl
                    have hFc := va_free (wc := [(h0, .inr (6, [.ref v1, .ref v2, .int z3])), (v1, .inl (cI, 4096, .inl gm))]) hD hS hA [0, 1] rfl
                    refine va_calli (va_runV (As := [.int x7]) (rest := [.ref lb, .ref t0, .ref h0]) ⟨hx, hb, hml, hown, hts⟩ (k_X6_xAt_e l D H.size h0 v1 v2 z3 gm x7 cI (by first | assumption | omega | decide)) (cwV 1 hts (gV bw_182 bw_185 bw_186 bw_168 bw_184) rfl rfl rfl (by decide +kernel) ⟨(by rw [hR]; exact Nat.le_of_ble_eq_true rfl), (by rw [hR]; exact Nat.le_of_ble_eq_true rfl)⟩) ⟨cP_blind, va_recv hKc hPc (ci := 6) (q0 := 0) rfl rfl, cP_at hPc hKc hDc hN⟩ rfl rfl hl.1 rfl (lv_room (Nat.le_of_ble_eq_true rfl)) dX6_gather_100 ⟨(by rw [hR]; exact Nat.le_of_ble_eq_true rfl), (by rw [hR]; exact Nat.le_of_ble_eq_true rfl)⟩) hS (fun q _ h => hFc q h) hFc (fun r_31 u9 t9 H1 locs ht hvm hr_31 hB hz1 hk1 hS => ?_)
                    try dsimp only at hr_31
                    obtain ⟨hP1, hK1, hD1⟩ := hB
                    rw [ht] at hP1
                    obtain ⟨hP, hD⟩ := va_join (wr := [(v2, .inl (cI, 4096, .inl gn)), (t0, .inr (5, [.ref d0, .int w, .int h])), (d0, .inl (cI, 4096, .inl g)), (lb, .inr (0, [.int bx0, .int by0, .int bx1, .int by1]))]) (w1 := [(h0, .inr (6, [.ref v1, .ref v2, .int z3])), (v1, .inl (cI, 4096, .inl gm))]) hP hD [0, 1] [2, 3, 4, 5] rfl rfl (by decide) (by decide) hk1 hFc hP1 hD1
                    clear hz1 hk1 hFc hKc hDc hPc
                    generalize H1 = H at hP hS ⊢
                    have hP : va_P D vwCl [(v2, .inl (cI, 4096, .inl gn)), (t0, .inr (5, [.ref d0, .int w, .int h])), (d0, .inl (cI, 4096, .inl g)), (lb, .inr (0, [.int bx0, .int by0, .int bx1, .int by1])), (h0, .inr (6, [.ref v1, .ref v2, .int z3])), (v1, .inl (cI, 4096, .inl gm))] H := hP
                    have hD : va_D A [(v2, .inl (cI, 4096, .inl gn)), (t0, .inr (5, [.ref d0, .int w, .int h])), (d0, .inl (cI, 4096, .inl g)), (lb, .inr (0, [.int bx0, .int by0, .int bx1, .int by1])), (h0, .inr (6, [.ref v1, .ref v2, .int z3])), (v1, .inl (cI, 4096, .inl gm))] := hD
                    have hpr_31 : r_31 = pX ((rcO (opnC w h bx0 by0 bx1 by1) g (g (ixP x y)) co st1 j).2.1 j) := by rw [hr_31, if_pos (by omega), hc_j, f2, hk.2.2 j (by omega)]
                    refine lv_iload hx hb dX6_gather_103 (lv_at hl 1 rfl) ?_
                    refine lv_iadd hx hb dX6_gather_105 ?_
                    refine lv_topi (fun y_32 ey_32 => ?_)
                    have hay_32 : y_32 = pX ((rcO (opnC w h bx0 by0 bx1 by1) g (g (ixP x y)) co st1 j).2.1 j) + dX i := by rw [ey_32, hpr_31, hdy_18]
                    refine lv_aload_n hx hb dX6_gather_106 rfl (lv_at hl 5 rfl) ?_
                    refine lv_iload hx hb dX6_gather_107 (lv_at hl 3 rfl) ?_
                    have hPc := hP.sub (ws' := [(h0, .inr (6, [.ref v1, .ref v2, .int z3])), (v1, .inl (cI, 4096, .inl gm))]) [4, 5] rfl
                    have hDc := hD.sub (ws' := [(h0, .inr (6, [.ref v1, .ref v2, .int z3])), (v1, .inl (cI, 4096, .inl gm))]) [4, 5] (by decide) rfl
                    have hKc := hK.sub (tys' := [(cI, .int)]) [0] rfl
                    have hFc := va_free (wc := [(h0, .inr (6, [.ref v1, .ref v2, .int z3])), (v1, .inl (cI, 4096, .inl gm))]) hD hS hA [4, 5] rfl
                    refine va_calli (va_runV (As := [.int x7]) (rest := [.int y_32, .ref lb, .ref t0, .ref h0]) ⟨hx, hb, hml, hown, hts⟩ (k_X6_yAt_e l D H.size h0 v1 v2 z3 gm x7 cI (by first | assumption | omega | decide)) (cwV 1 hts (gV bw_183 bw_188 bw_189 bw_168 bw_187) rfl rfl rfl (by decide +kernel) ⟨(by rw [hR]; exact Nat.le_of_ble_eq_true rfl), (by rw [hR]; exact Nat.le_of_ble_eq_true rfl)⟩) ⟨cP_blind, va_recv hKc hPc (ci := 6) (q0 := 0) rfl rfl, cP_at hPc hKc hDc hN⟩ rfl rfl hl.1 rfl (lv_room (Nat.le_of_ble_eq_true rfl)) dX6_gather_109 ⟨(by rw [hR]; exact Nat.le_of_ble_eq_true rfl), (by rw [hR]; exact Nat.le_of_ble_eq_true rfl)⟩) hS (fun q _ h => hFc q h) hFc (fun r_33 u9 t9 H1 locs ht hvm hr_33 hB hz1 hk1 hS => ?_)
                    try dsimp only at hr_33
                    obtain ⟨hP1, hK1, hD1⟩ := hB
                    rw [ht] at hP1
                    obtain ⟨hP, hD⟩ := va_join (wr := [(v2, .inl (cI, 4096, .inl gn)), (t0, .inr (5, [.ref d0, .int w, .int h])), (d0, .inl (cI, 4096, .inl g)), (lb, .inr (0, [.int bx0, .int by0, .int bx1, .int by1]))]) (w1 := [(h0, .inr (6, [.ref v1, .ref v2, .int z3])), (v1, .inl (cI, 4096, .inl gm))]) hP hD [4, 5] [0, 1, 2, 3] rfl rfl (by decide) (by decide) hk1 hFc hP1 hD1
                    clear hz1 hk1 hFc hKc hDc hPc
                    generalize H1 = H at hP hS ⊢
                    have hP : va_P D vwCl [(v2, .inl (cI, 4096, .inl gn)), (t0, .inr (5, [.ref d0, .int w, .int h])), (d0, .inl (cI, 4096, .inl g)), (lb, .inr (0, [.int bx0, .int by0, .int bx1, .int by1])), (h0, .inr (6, [.ref v1, .ref v2, .int z3])), (v1, .inl (cI, 4096, .inl gm))] H := hP
                    have hD : va_D A [(v2, .inl (cI, 4096, .inl gn)), (t0, .inr (5, [.ref d0, .int w, .int h])), (d0, .inl (cI, 4096, .inl g)), (lb, .inr (0, [.int bx0, .int by0, .int bx1, .int by1])), (h0, .inr (6, [.ref v1, .ref v2, .int z3])), (v1, .inl (cI, 4096, .inl gm))] := hD
                    have hpr_33 : r_33 = pY ((rcO (opnC w h bx0 by0 bx1 by1) g (g (ixP x y)) co st1 j).2.1 j) := by rw [hr_33, if_pos (by omega), hc_j, f2, hk.2.2 j (by omega)]
                    refine lv_iload hx hb dX6_gather_112 (lv_at hl 0 rfl) ?_
                    refine lv_iadd hx hb dX6_gather_114 ?_
                    refine lv_topi (fun y_34 ey_34 => ?_)
                    have hay_34 : y_34 = pY ((rcO (opnC w h bx0 by0 bx1 by1) g (g (ixP x y)) co st1 j).2.1 j) + dY i := by rw [ey_34, hpr_33, hdy_20]
                    refine lv_iload hx hb dX6_gather_115 (lv_at hl 4 rfl) ?_
                    have hPc := hP.sub (ws' := [(h0, .inr (6, [.ref v1, .ref v2, .int z3])), (v1, .inl (cI, 4096, .inl gm)), (v2, .inl (cI, 4096, .inl gn)), (t0, .inr (5, [.ref d0, .int w, .int h])), (d0, .inl (cI, 4096, .inl g)), (lb, .inr (0, [.int bx0, .int by0, .int bx1, .int by1]))]) [4, 5, 0, 1, 2, 3] rfl
                    have hDc := hD.sub (ws' := [(h0, .inr (6, [.ref v1, .ref v2, .int z3])), (v1, .inl (cI, 4096, .inl gm)), (v2, .inl (cI, 4096, .inl gn)), (t0, .inr (5, [.ref d0, .int w, .int h])), (d0, .inl (cI, 4096, .inl g)), (lb, .inr (0, [.int bx0, .int by0, .int bx1, .int by1]))]) [4, 5, 0, 1, 2, 3] (by decide) rfl
                    have hKc := hK.sub (tys' := [(cI, .int)]) [0] rfl
                    have hFc := va_free (wc := [(h0, .inr (6, [.ref v1, .ref v2, .int z3])), (v1, .inl (cI, 4096, .inl gm)), (v2, .inl (cI, 4096, .inl gn)), (t0, .inr (5, [.ref d0, .int w, .int h])), (d0, .inl (cI, 4096, .inl g)), (lb, .inr (0, [.int bx0, .int by0, .int bx1, .int by1]))]) hD hS hA [4, 5, 0, 1, 2, 3] rfl
                    refine va_callv (va_runV (As := [.ref t0, .ref lb, .int y_32, .int y_34, .int r_4]) (rest := []) ⟨hx, hb, hml, hown, hts⟩ (k_X6_reach_e l D H.size h0 v1 v2 t0 d0 lb z3 gm gn w h g bx0 by0 bx1 by1 y_32 y_34 r_4 ((rcI (opnC w h bx0 by0 bx1 by1) g (g (ixP x y)) co (pX ((rcO (opnC w h bx0 by0 bx1 by1) g (g (ixP x y)) co st1 j).2.1 j)) (pY ((rcO (opnC w h bx0 by0 bx1 by1) g (g (ixP x y)) co st1 j).2.1 j)) (rcO (opnC w h bx0 by0 bx1 by1) g (g (ixP x y)) co st1 j) i).2.2) cI f1 hk.2.1 hz3 (by first | assumption | omega | decide) (by first | assumption | omega | decide)) (cwV 5 hts (gV bw_181 bw_191 bw_192 bw_168 bw_190) rfl rfl rfl (by decide +kernel) ⟨(by rw [hR]; exact Nat.le_of_ble_eq_true rfl), (by rw [hR]; exact Nat.le_of_ble_eq_true rfl)⟩) ⟨cP_blind, va_recv hKc hPc (ci := 6) (q0 := 0) rfl rfl, cP_at hPc hKc hDc hN⟩ rfl rfl hl.1 rfl (lv_room (Nat.le_of_ble_eq_true rfl)) dX6_gather_117 ⟨(by rw [hR]; exact Nat.le_of_ble_eq_true rfl), (by rw [hR]; exact Nat.le_of_ble_eq_true rfl)⟩) hS (fun q _ h => hFc q h) hFc (fun u9 t9 H1 locs ht hvm hr_35 hB hz1 hk1 hS => ?_)
                    try dsimp only at hr_35
                    obtain ⟨hP1, hK1, hD1⟩ := hB
                    rw [ht] at hP1
                    obtain ⟨hP, hD⟩ := va_join (wr := []) (w1 := [(h0, .inr (6, [.ref v1, .ref v2, .int (nI (rcS (opnC w h bx0 by0 bx1 by1) g r_4 y_32 y_34 (gn, gm, ((rcI (opnC w h bx0 by0 bx1 by1) g (g (ixP x y)) co (pX ((rcO (opnC w h bx0 by0 bx1 by1) g (g (ixP x y)) co st1 j).2.1 j)) (pY ((rcO (opnC w h bx0 by0 bx1 by1) g (g (ixP x y)) co st1 j).2.1 j)) (rcO (opnC w h bx0 by0 bx1 by1) g (g (ixP x y)) co st1 j) i).2.2))).2.2)])), (v1, .inl (cI, 4096, .inl ((rcS (opnC w h bx0 by0 bx1 by1) g r_4 y_32 y_34 (gn, gm, ((rcI (opnC w h bx0 by0 bx1 by1) g (g (ixP x y)) co (pX ((rcO (opnC w h bx0 by0 bx1 by1) g (g (ixP x y)) co st1 j).2.1 j)) (pY ((rcO (opnC w h bx0 by0 bx1 by1) g (g (ixP x y)) co st1 j).2.1 j)) (rcO (opnC w h bx0 by0 bx1 by1) g (g (ixP x y)) co st1 j) i).2.2))).2.1))), (v2, .inl (cI, 4096, .inl ((rcS (opnC w h bx0 by0 bx1 by1) g r_4 y_32 y_34 (gn, gm, ((rcI (opnC w h bx0 by0 bx1 by1) g (g (ixP x y)) co (pX ((rcO (opnC w h bx0 by0 bx1 by1) g (g (ixP x y)) co st1 j).2.1 j)) (pY ((rcO (opnC w h bx0 by0 bx1 by1) g (g (ixP x y)) co st1 j).2.1 j)) (rcO (opnC w h bx0 by0 bx1 by1) g (g (ixP x y)) co st1 j) i).2.2))).1))), (t0, .inr (5, [.ref d0, .int w, .int h])), (d0, .inl (cI, 4096, .inl g)), (lb, .inr (0, [.int bx0, .int by0, .int bx1, .int by1]))]) hP hD [4, 5, 0, 1, 2, 3] [] rfl rfl (by decide) (by decide) hk1 hFc hP1 hD1
                    clear hz1 hk1 hFc hKc hDc hPc
                    generalize H1 = H at hP hS ⊢
                    have hP : va_P D vwCl [(h0, .inr (6, [.ref v1, .ref v2, .int (nI (rcS (opnC w h bx0 by0 bx1 by1) g r_4 y_32 y_34 (gn, gm, ((rcI (opnC w h bx0 by0 bx1 by1) g (g (ixP x y)) co (pX ((rcO (opnC w h bx0 by0 bx1 by1) g (g (ixP x y)) co st1 j).2.1 j)) (pY ((rcO (opnC w h bx0 by0 bx1 by1) g (g (ixP x y)) co st1 j).2.1 j)) (rcO (opnC w h bx0 by0 bx1 by1) g (g (ixP x y)) co st1 j) i).2.2))).2.2)])), (v1, .inl (cI, 4096, .inl ((rcS (opnC w h bx0 by0 bx1 by1) g r_4 y_32 y_34 (gn, gm, ((rcI (opnC w h bx0 by0 bx1 by1) g (g (ixP x y)) co (pX ((rcO (opnC w h bx0 by0 bx1 by1) g (g (ixP x y)) co st1 j).2.1 j)) (pY ((rcO (opnC w h bx0 by0 bx1 by1) g (g (ixP x y)) co st1 j).2.1 j)) (rcO (opnC w h bx0 by0 bx1 by1) g (g (ixP x y)) co st1 j) i).2.2))).2.1))), (v2, .inl (cI, 4096, .inl ((rcS (opnC w h bx0 by0 bx1 by1) g r_4 y_32 y_34 (gn, gm, ((rcI (opnC w h bx0 by0 bx1 by1) g (g (ixP x y)) co (pX ((rcO (opnC w h bx0 by0 bx1 by1) g (g (ixP x y)) co st1 j).2.1 j)) (pY ((rcO (opnC w h bx0 by0 bx1 by1) g (g (ixP x y)) co st1 j).2.1 j)) (rcO (opnC w h bx0 by0 bx1 by1) g (g (ixP x y)) co st1 j) i).2.2))).1))), (t0, .inr (5, [.ref d0, .int w, .int h])), (d0, .inl (cI, 4096, .inl g)), (lb, .inr (0, [.int bx0, .int by0, .int bx1, .int by1]))] H := hP
                    have hD : va_D A [(h0, .inr (6, [.ref v1, .ref v2, .int (nI (rcS (opnC w h bx0 by0 bx1 by1) g r_4 y_32 y_34 (gn, gm, ((rcI (opnC w h bx0 by0 bx1 by1) g (g (ixP x y)) co (pX ((rcO (opnC w h bx0 by0 bx1 by1) g (g (ixP x y)) co st1 j).2.1 j)) (pY ((rcO (opnC w h bx0 by0 bx1 by1) g (g (ixP x y)) co st1 j).2.1 j)) (rcO (opnC w h bx0 by0 bx1 by1) g (g (ixP x y)) co st1 j) i).2.2))).2.2)])), (v1, .inl (cI, 4096, .inl ((rcS (opnC w h bx0 by0 bx1 by1) g r_4 y_32 y_34 (gn, gm, ((rcI (opnC w h bx0 by0 bx1 by1) g (g (ixP x y)) co (pX ((rcO (opnC w h bx0 by0 bx1 by1) g (g (ixP x y)) co st1 j).2.1 j)) (pY ((rcO (opnC w h bx0 by0 bx1 by1) g (g (ixP x y)) co st1 j).2.1 j)) (rcO (opnC w h bx0 by0 bx1 by1) g (g (ixP x y)) co st1 j) i).2.2))).2.1))), (v2, .inl (cI, 4096, .inl ((rcS (opnC w h bx0 by0 bx1 by1) g r_4 y_32 y_34 (gn, gm, ((rcI (opnC w h bx0 by0 bx1 by1) g (g (ixP x y)) co (pX ((rcO (opnC w h bx0 by0 bx1 by1) g (g (ixP x y)) co st1 j).2.1 j)) (pY ((rcO (opnC w h bx0 by0 bx1 by1) g (g (ixP x y)) co st1 j).2.1 j)) (rcO (opnC w h bx0 by0 bx1 by1) g (g (ixP x y)) co st1 j) i).2.2))).1))), (t0, .inr (5, [.ref d0, .int w, .int h])), (d0, .inl (cI, 4096, .inl g)), (lb, .inr (0, [.int bx0, .int by0, .int bx1, .int by1]))] := hD
                    obtain ⟨y_36, ey_36⟩ : ∃ y : Int32, y = x8 + 1 := ⟨_, rfl⟩
                    refine lv_iinc (v := y_36) (lv' := [(8, .int y_36), (10, .int y_20), (9, .int y_18), (7, .int x7), (6, .int r_4), (0, .ref h0), (1, .ref t0), (2, .ref lb), (3, .int x), (4, .int y), (5, .int co)]) hx hb dX6_gather_120 hl (k := 2) rfl (by rw [ey_36]; rfl) (by decide) rfl (fun ls hl => ?_)
                    refine lv_goto (tgt := 56) hx hb dX6_gather_123 (by decide) ?_
                    exact ih_13 (i + 1) y_36 ((rcS (opnC w h bx0 by0 bx1 by1) g r_4 y_32 y_34 (gn, gm, ((rcI (opnC w h bx0 by0 bx1 by1) g (g (ixP x y)) co (pX ((rcO (opnC w h bx0 by0 bx1 by1) g (g (ixP x y)) co st1 j).2.1 j)) (pY ((rcO (opnC w h bx0 by0 bx1 by1) g (g (ixP x y)) co st1 j).2.1 j)) (rcO (opnC w h bx0 by0 bx1 by1) g (g (ixP x y)) co st1 j) i).2.2))).2.1) ((rcS (opnC w h bx0 by0 bx1 by1) g r_4 y_32 y_34 (gn, gm, ((rcI (opnC w h bx0 by0 bx1 by1) g (g (ixP x y)) co (pX ((rcO (opnC w h bx0 by0 bx1 by1) g (g (ixP x y)) co st1 j).2.1 j)) (pY ((rcO (opnC w h bx0 by0 bx1 by1) g (g (ixP x y)) co st1 j).2.1 j)) (rcO (opnC w h bx0 by0 bx1 by1) g (g (ixP x y)) co st1 j) i).2.2))).1) (nI (rcS (opnC w h bx0 by0 bx1 by1) g r_4 y_32 y_34 (gn, gm, ((rcI (opnC w h bx0 by0 bx1 by1) g (g (ixP x y)) co (pX ((rcO (opnC w h bx0 by0 bx1 by1) g (g (ixP x y)) co st1 j).2.1 j)) (pY ((rcO (opnC w h bx0 by0 bx1 by1) g (g (ixP x y)) co st1 j).2.1 j)) (rcO (opnC w h bx0 by0 bx1 by1) g (g (ixP x y)) co st1 j) i).2.2))).2.2) _ _ _ (by omega) (by omega) (by rw [ey_36, ex_i]; exact nI_1 i) (congrArg (fun q : S3 => nI q.2.2) (show rcS (opnC w h bx0 by0 bx1 by1) g r_4 y_32 y_34 (gn, gm, (rcI (opnC w h bx0 by0 bx1 by1) g (g (ixP x y)) co (pX ((rcO (opnC w h bx0 by0 bx1 by1) g (g (ixP x y)) co st1 j).2.1 j)) (pY ((rcO (opnC w h bx0 by0 bx1 by1) g (g (ixP x y)) co st1 j).2.1 j)) (rcO (opnC w h bx0 by0 bx1 by1) g (g (ixP x y)) co st1 j) i).2.2) = (rcI (opnC w h bx0 by0 bx1 by1) g (g (ixP x y)) co (pX ((rcO (opnC w h bx0 by0 bx1 by1) g (g (ixP x y)) co st1 j).2.1 j)) (pY ((rcO (opnC w h bx0 by0 bx1 by1) g (g (ixP x y)) co st1 j).2.1 j)) (rcO (opnC w h bx0 by0 bx1 by1) g (g (ixP x y)) co st1 j) (i + 1)) from (by rw [show (gn, gm, (rcI (opnC w h bx0 by0 bx1 by1) g (g (ixP x y)) co (pX ((rcO (opnC w h bx0 by0 bx1 by1) g (g (ixP x y)) co st1 j).2.1 j)) (pY ((rcO (opnC w h bx0 by0 bx1 by1) g (g (ixP x y)) co st1 j).2.1 j)) (rcO (opnC w h bx0 by0 bx1 by1) g (g (ixP x y)) co st1 j) i).2.2) = (rcI (opnC w h bx0 by0 bx1 by1) g (g (ixP x y)) co (pX ((rcO (opnC w h bx0 by0 bx1 by1) g (g (ixP x y)) co st1 j).2.1 j)) (pY ((rcO (opnC w h bx0 by0 bx1 by1) g (g (ixP x y)) co st1 j).2.1 j)) (rcO (opnC w h bx0 by0 bx1 by1) g (g (ixP x y)) co st1 j) i) by rw [f2, f3], hvr, hay_32, hay_34]; exact (if_pos (Or.inr (Or.inl (hdy_18.symm.trans c_29)))).symm))) (congrArg (fun q : S3 => q.2.1) (show rcS (opnC w h bx0 by0 bx1 by1) g r_4 y_32 y_34 (gn, gm, (rcI (opnC w h bx0 by0 bx1 by1) g (g (ixP x y)) co (pX ((rcO (opnC w h bx0 by0 bx1 by1) g (g (ixP x y)) co st1 j).2.1 j)) (pY ((rcO (opnC w h bx0 by0 bx1 by1) g (g (ixP x y)) co st1 j).2.1 j)) (rcO (opnC w h bx0 by0 bx1 by1) g (g (ixP x y)) co st1 j) i).2.2) = (rcI (opnC w h bx0 by0 bx1 by1) g (g (ixP x y)) co (pX ((rcO (opnC w h bx0 by0 bx1 by1) g (g (ixP x y)) co st1 j).2.1 j)) (pY ((rcO (opnC w h bx0 by0 bx1 by1) g (g (ixP x y)) co st1 j).2.1 j)) (rcO (opnC w h bx0 by0 bx1 by1) g (g (ixP x y)) co st1 j) (i + 1)) from (by rw [show (gn, gm, (rcI (opnC w h bx0 by0 bx1 by1) g (g (ixP x y)) co (pX ((rcO (opnC w h bx0 by0 bx1 by1) g (g (ixP x y)) co st1 j).2.1 j)) (pY ((rcO (opnC w h bx0 by0 bx1 by1) g (g (ixP x y)) co st1 j).2.1 j)) (rcO (opnC w h bx0 by0 bx1 by1) g (g (ixP x y)) co st1 j) i).2.2) = (rcI (opnC w h bx0 by0 bx1 by1) g (g (ixP x y)) co (pX ((rcO (opnC w h bx0 by0 bx1 by1) g (g (ixP x y)) co st1 j).2.1 j)) (pY ((rcO (opnC w h bx0 by0 bx1 by1) g (g (ixP x y)) co st1 j).2.1 j)) (rcO (opnC w h bx0 by0 bx1 by1) g (g (ixP x y)) co st1 j) i) by rw [f2, f3], hvr, hay_32, hay_34]; exact (if_pos (Or.inr (Or.inl (hdy_18.symm.trans c_29)))).symm))) (congrArg (fun q : S3 => q.1) (show rcS (opnC w h bx0 by0 bx1 by1) g r_4 y_32 y_34 (gn, gm, (rcI (opnC w h bx0 by0 bx1 by1) g (g (ixP x y)) co (pX ((rcO (opnC w h bx0 by0 bx1 by1) g (g (ixP x y)) co st1 j).2.1 j)) (pY ((rcO (opnC w h bx0 by0 bx1 by1) g (g (ixP x y)) co st1 j).2.1 j)) (rcO (opnC w h bx0 by0 bx1 by1) g (g (ixP x y)) co st1 j) i).2.2) = (rcI (opnC w h bx0 by0 bx1 by1) g (g (ixP x y)) co (pX ((rcO (opnC w h bx0 by0 bx1 by1) g (g (ixP x y)) co st1 j).2.1 j)) (pY ((rcO (opnC w h bx0 by0 bx1 by1) g (g (ixP x y)) co st1 j).2.1 j)) (rcO (opnC w h bx0 by0 bx1 by1) g (g (ixP x y)) co st1 j) (i + 1)) from (by rw [show (gn, gm, (rcI (opnC w h bx0 by0 bx1 by1) g (g (ixP x y)) co (pX ((rcO (opnC w h bx0 by0 bx1 by1) g (g (ixP x y)) co st1 j).2.1 j)) (pY ((rcO (opnC w h bx0 by0 bx1 by1) g (g (ixP x y)) co st1 j).2.1 j)) (rcO (opnC w h bx0 by0 bx1 by1) g (g (ixP x y)) co st1 j) i).2.2) = (rcI (opnC w h bx0 by0 bx1 by1) g (g (ixP x y)) co (pX ((rcO (opnC w h bx0 by0 bx1 by1) g (g (ixP x y)) co st1 j).2.1 j)) (pY ((rcO (opnC w h bx0 by0 bx1 by1) g (g (ixP x y)) co st1 j).2.1 j)) (rcO (opnC w h bx0 by0 bx1 by1) g (g (ixP x y)) co st1 j) i) by rw [f2, f3], hvr, hay_32, hay_34]; exact (if_pos (Or.inr (Or.inl (hdy_18.symm.trans c_29)))).symm))) (hP.sub (ws' := [(h0, .inr (6, [.ref v1, .ref v2, .int (nI (rcS (opnC w h bx0 by0 bx1 by1) g r_4 y_32 y_34 (gn, gm, ((rcI (opnC w h bx0 by0 bx1 by1) g (g (ixP x y)) co (pX ((rcO (opnC w h bx0 by0 bx1 by1) g (g (ixP x y)) co st1 j).2.1 j)) (pY ((rcO (opnC w h bx0 by0 bx1 by1) g (g (ixP x y)) co st1 j).2.1 j)) (rcO (opnC w h bx0 by0 bx1 by1) g (g (ixP x y)) co st1 j) i).2.2))).2.2)])), (v1, .inl (cI, 4096, .inl ((rcS (opnC w h bx0 by0 bx1 by1) g r_4 y_32 y_34 (gn, gm, ((rcI (opnC w h bx0 by0 bx1 by1) g (g (ixP x y)) co (pX ((rcO (opnC w h bx0 by0 bx1 by1) g (g (ixP x y)) co st1 j).2.1 j)) (pY ((rcO (opnC w h bx0 by0 bx1 by1) g (g (ixP x y)) co st1 j).2.1 j)) (rcO (opnC w h bx0 by0 bx1 by1) g (g (ixP x y)) co st1 j) i).2.2))).2.1))), (v2, .inl (cI, 4096, .inl ((rcS (opnC w h bx0 by0 bx1 by1) g r_4 y_32 y_34 (gn, gm, ((rcI (opnC w h bx0 by0 bx1 by1) g (g (ixP x y)) co (pX ((rcO (opnC w h bx0 by0 bx1 by1) g (g (ixP x y)) co st1 j).2.1 j)) (pY ((rcO (opnC w h bx0 by0 bx1 by1) g (g (ixP x y)) co st1 j).2.1 j)) (rcO (opnC w h bx0 by0 bx1 by1) g (g (ixP x y)) co st1 j) i).2.2))).1))), (t0, .inr (5, [.ref d0, .int w, .int h])), (d0, .inl (cI, 4096, .inl g)), (lb, .inr (0, [.int bx0, .int by0, .int bx1, .int by1]))]) [0, 1, 2, 3, 4, 5] rfl) (hD.sub (ws' := [(h0, .inr (6, [.ref v1, .ref v2, .int (nI (rcS (opnC w h bx0 by0 bx1 by1) g r_4 y_32 y_34 (gn, gm, ((rcI (opnC w h bx0 by0 bx1 by1) g (g (ixP x y)) co (pX ((rcO (opnC w h bx0 by0 bx1 by1) g (g (ixP x y)) co st1 j).2.1 j)) (pY ((rcO (opnC w h bx0 by0 bx1 by1) g (g (ixP x y)) co st1 j).2.1 j)) (rcO (opnC w h bx0 by0 bx1 by1) g (g (ixP x y)) co st1 j) i).2.2))).2.2)])), (v1, .inl (cI, 4096, .inl ((rcS (opnC w h bx0 by0 bx1 by1) g r_4 y_32 y_34 (gn, gm, ((rcI (opnC w h bx0 by0 bx1 by1) g (g (ixP x y)) co (pX ((rcO (opnC w h bx0 by0 bx1 by1) g (g (ixP x y)) co st1 j).2.1 j)) (pY ((rcO (opnC w h bx0 by0 bx1 by1) g (g (ixP x y)) co st1 j).2.1 j)) (rcO (opnC w h bx0 by0 bx1 by1) g (g (ixP x y)) co st1 j) i).2.2))).2.1))), (v2, .inl (cI, 4096, .inl ((rcS (opnC w h bx0 by0 bx1 by1) g r_4 y_32 y_34 (gn, gm, ((rcI (opnC w h bx0 by0 bx1 by1) g (g (ixP x y)) co (pX ((rcO (opnC w h bx0 by0 bx1 by1) g (g (ixP x y)) co st1 j).2.1 j)) (pY ((rcO (opnC w h bx0 by0 bx1 by1) g (g (ixP x y)) co st1 j).2.1 j)) (rcO (opnC w h bx0 by0 bx1 by1) g (g (ixP x y)) co st1 j) i).2.2))).1))), (t0, .inr (5, [.ref d0, .int w, .int h])), (d0, .inl (cI, 4096, .inl g)), (lb, .inr (0, [.int bx0, .int by0, .int bx1, .int by1]))]) [0, 1, 2, 3, 4, 5] (by decide) rfl) hS (lv_sub hl [0, 3, 4, 5, 6, 7, 8, 9, 10] rfl)
                  · skip
                    have f_30 : ¬ (y_18.toInt = 0) := fn_eq rfl (by decide) c_29
                    refine lv_iload hx hb dX6_gather_89 (lv_at hl 0 rfl) ?_
                    refine lv_if_ne (tgt := 120) hx hb dX6_gather_91 (by decide) (fun c_37 => ?_) (fun c_37 => ?_)
                    · skip
                      have f_38 : ¬ (y_20.toInt = 0) := fn_eq rfl (by decide) c_37
                      obtain ⟨y_39, ey_39⟩ : ∃ y : Int32, y = x8 + 1 := ⟨_, rfl⟩
                      refine lv_iinc (v := y_39) (lv' := [(8, .int y_39), (10, .int y_20), (9, .int y_18), (7, .int x7), (6, .int r_4), (0, .ref h0), (1, .ref t0), (2, .ref lb), (3, .int x), (4, .int y), (5, .int co)]) hx hb dX6_gather_120 hl (k := 2) rfl (by rw [ey_39]; rfl) (by decide) rfl (fun ls hl => ?_)
                      refine lv_goto (tgt := 56) hx hb dX6_gather_123 (by decide) ?_
                      exact ih_13 (i + 1) y_39 gm gn z3 _ _ _ (by omega) (by omega) (by rw [ey_39, ex_i]; exact nI_1 i) ((f1).trans (congrArg (fun q : S3 => nI q.2.2) (show (rcI (opnC w h bx0 by0 bx1 by1) g (g (ixP x y)) co (pX ((rcO (opnC w h bx0 by0 bx1 by1) g (g (ixP x y)) co st1 j).2.1 j)) (pY ((rcO (opnC w h bx0 by0 bx1 by1) g (g (ixP x y)) co st1 j).2.1 j)) (rcO (opnC w h bx0 by0 bx1 by1) g (g (ixP x y)) co st1 j) (i + 1)) = (rcI (opnC w h bx0 by0 bx1 by1) g (g (ixP x y)) co (pX ((rcO (opnC w h bx0 by0 bx1 by1) g (g (ixP x y)) co st1 j).2.1 j)) (pY ((rcO (opnC w h bx0 by0 bx1 by1) g (g (ixP x y)) co st1 j).2.1 j)) (rcO (opnC w h bx0 by0 bx1 by1) g (g (ixP x y)) co st1 j) i) from (if_neg (fun q => q.elim (fun q => q c_21) (fun q => q.elim (fun q => c_29 (hdy_18.trans q)) (fun q => c_37 (hdy_20.trans q))))))).symm) ((f2).trans (congrArg (fun q : S3 => q.2.1) (show (rcI (opnC w h bx0 by0 bx1 by1) g (g (ixP x y)) co (pX ((rcO (opnC w h bx0 by0 bx1 by1) g (g (ixP x y)) co st1 j).2.1 j)) (pY ((rcO (opnC w h bx0 by0 bx1 by1) g (g (ixP x y)) co st1 j).2.1 j)) (rcO (opnC w h bx0 by0 bx1 by1) g (g (ixP x y)) co st1 j) (i + 1)) = (rcI (opnC w h bx0 by0 bx1 by1) g (g (ixP x y)) co (pX ((rcO (opnC w h bx0 by0 bx1 by1) g (g (ixP x y)) co st1 j).2.1 j)) (pY ((rcO (opnC w h bx0 by0 bx1 by1) g (g (ixP x y)) co st1 j).2.1 j)) (rcO (opnC w h bx0 by0 bx1 by1) g (g (ixP x y)) co st1 j) i) from (if_neg (fun q => q.elim (fun q => q c_21) (fun q => q.elim (fun q => c_29 (hdy_18.trans q)) (fun q => c_37 (hdy_20.trans q))))))).symm) ((f3).trans (congrArg (fun q : S3 => q.1) (show (rcI (opnC w h bx0 by0 bx1 by1) g (g (ixP x y)) co (pX ((rcO (opnC w h bx0 by0 bx1 by1) g (g (ixP x y)) co st1 j).2.1 j)) (pY ((rcO (opnC w h bx0 by0 bx1 by1) g (g (ixP x y)) co st1 j).2.1 j)) (rcO (opnC w h bx0 by0 bx1 by1) g (g (ixP x y)) co st1 j) (i + 1)) = (rcI (opnC w h bx0 by0 bx1 by1) g (g (ixP x y)) co (pX ((rcO (opnC w h bx0 by0 bx1 by1) g (g (ixP x y)) co st1 j).2.1 j)) (pY ((rcO (opnC w h bx0 by0 bx1 by1) g (g (ixP x y)) co st1 j).2.1 j)) (rcO (opnC w h bx0 by0 bx1 by1) g (g (ixP x y)) co st1 j) i) from (if_neg (fun q => q.elim (fun q => q c_21) (fun q => q.elim (fun q => c_29 (hdy_18.trans q)) (fun q => c_37 (hdy_20.trans q))))))).symm) (hP.sub (ws' := [(h0, .inr (6, [.ref v1, .ref v2, .int z3])), (v1, .inl (cI, 4096, .inl gm)), (v2, .inl (cI, 4096, .inl gn)), (t0, .inr (5, [.ref d0, .int w, .int h])), (d0, .inl (cI, 4096, .inl g)), (lb, .inr (0, [.int bx0, .int by0, .int bx1, .int by1]))]) [0, 1, 2, 3, 4, 5] rfl) (hD.sub (ws' := [(h0, .inr (6, [.ref v1, .ref v2, .int z3])), (v1, .inl (cI, 4096, .inl gm)), (v2, .inl (cI, 4096, .inl gn)), (t0, .inr (5, [.ref d0, .int w, .int h])), (d0, .inl (cI, 4096, .inl g)), (lb, .inr (0, [.int bx0, .int by0, .int bx1, .int by1]))]) [0, 1, 2, 3, 4, 5] (by decide) rfl) hS (lv_sub hl [0, 3, 4, 5, 6, 7, 8, 9, 10] rfl)
                    · skip
                      have f_38 : y_20.toInt = 0 := f_eq rfl (by decide) c_37
                      refine lv_aload_n hx hb dX6_gather_94 rfl (lv_at hl 5 rfl) ?_
                      refine lv_aload_n hx hb dX6_gather_95 rfl (lv_at hl 6 rfl) ?_
                      refine lv_aload_n hx hb dX6_gather_96 rfl (lv_at hl 7 rfl) ?_
                      refine lv_aload_n hx hb dX6_gather_97 rfl (lv_at hl 5 rfl) ?_
                      refine lv_iload hx hb dX6_gather_98 (lv_at hl 3 rfl) ?_
                      have hPc := hP.sub (ws' := [(h0, .inr (6, [.ref v1, .ref v2, .int z3])), (v1, .inl (cI, 4096, .inl gm))]) [0, 1] rfl
                      have hDc := hD.sub (ws' := [(h0, .inr (6, [.ref v1, .ref v2, .int z3])), (v1, .inl (cI, 4096, .inl gm))]) [0, 1] (by decide) rfl
                      have hKc := hK.sub (tys' := [(cI, .int)]) [0] rfl
                      have hFc := va_free (wc := [(h0, .inr (6, [.ref v1, .ref v2, .int z3])), (v1, .inl (cI, 4096, .inl gm))]) hD hS hA [0, 1] rfl
                      refine va_calli (va_runV (As := [.int x7]) (rest := [.ref lb, .ref t0, .ref h0]) ⟨hx, hb, hml, hown, hts⟩ (k_X6_xAt_e l D H.size h0 v1 v2 z3 gm x7 cI (by first | assumption | omega | decide)) (cwV 1 hts (gV bw_182 bw_185 bw_186 bw_168 bw_184) rfl rfl rfl (by decide +kernel) ⟨(by rw [hR]; exact Nat.le_of_ble_eq_true rfl), (by rw [hR]; exact Nat.le_of_ble_eq_true rfl)⟩) ⟨cP_blind, va_recv hKc hPc (ci := 6) (q0 := 0) rfl rfl, cP_at hPc hKc hDc hN⟩ rfl rfl hl.1 rfl (lv_room (Nat.le_of_ble_eq_true rfl)) dX6_gather_100 ⟨(by rw [hR]; exact Nat.le_of_ble_eq_true rfl), (by rw [hR]; exact Nat.le_of_ble_eq_true rfl)⟩) hS (fun q _ h => hFc q h) hFc (fun r_40 u9 t9 H1 locs ht hvm hr_40 hB hz1 hk1 hS => ?_)
                      try dsimp only at hr_40
                      obtain ⟨hP1, hK1, hD1⟩ := hB
                      rw [ht] at hP1
                      obtain ⟨hP, hD⟩ := va_join (wr := [(v2, .inl (cI, 4096, .inl gn)), (t0, .inr (5, [.ref d0, .int w, .int h])), (d0, .inl (cI, 4096, .inl g)), (lb, .inr (0, [.int bx0, .int by0, .int bx1, .int by1]))]) (w1 := [(h0, .inr (6, [.ref v1, .ref v2, .int z3])), (v1, .inl (cI, 4096, .inl gm))]) hP hD [0, 1] [2, 3, 4, 5] rfl rfl (by decide) (by decide) hk1 hFc hP1 hD1
                      clear hz1 hk1 hFc hKc hDc hPc
                      generalize H1 = H at hP hS ⊢
                      have hP : va_P D vwCl [(v2, .inl (cI, 4096, .inl gn)), (t0, .inr (5, [.ref d0, .int w, .int h])), (d0, .inl (cI, 4096, .inl g)), (lb, .inr (0, [.int bx0, .int by0, .int bx1, .int by1])), (h0, .inr (6, [.ref v1, .ref v2, .int z3])), (v1, .inl (cI, 4096, .inl gm))] H := hP
                      have hD : va_D A [(v2, .inl (cI, 4096, .inl gn)), (t0, .inr (5, [.ref d0, .int w, .int h])), (d0, .inl (cI, 4096, .inl g)), (lb, .inr (0, [.int bx0, .int by0, .int bx1, .int by1])), (h0, .inr (6, [.ref v1, .ref v2, .int z3])), (v1, .inl (cI, 4096, .inl gm))] := hD
                      have hpr_40 : r_40 = pX ((rcO (opnC w h bx0 by0 bx1 by1) g (g (ixP x y)) co st1 j).2.1 j) := by rw [hr_40, if_pos (by omega), hc_j, f2, hk.2.2 j (by omega)]
                      refine lv_iload hx hb dX6_gather_103 (lv_at hl 1 rfl) ?_
                      refine lv_iadd hx hb dX6_gather_105 ?_
                      refine lv_topi (fun y_41 ey_41 => ?_)
                      have hay_41 : y_41 = pX ((rcO (opnC w h bx0 by0 bx1 by1) g (g (ixP x y)) co st1 j).2.1 j) + dX i := by rw [ey_41, hpr_40, hdy_18]
                      refine lv_aload_n hx hb dX6_gather_106 rfl (lv_at hl 5 rfl) ?_
                      refine lv_iload hx hb dX6_gather_107 (lv_at hl 3 rfl) ?_
                      have hPc := hP.sub (ws' := [(h0, .inr (6, [.ref v1, .ref v2, .int z3])), (v1, .inl (cI, 4096, .inl gm))]) [4, 5] rfl
                      have hDc := hD.sub (ws' := [(h0, .inr (6, [.ref v1, .ref v2, .int z3])), (v1, .inl (cI, 4096, .inl gm))]) [4, 5] (by decide) rfl
                      have hKc := hK.sub (tys' := [(cI, .int)]) [0] rfl
                      have hFc := va_free (wc := [(h0, .inr (6, [.ref v1, .ref v2, .int z3])), (v1, .inl (cI, 4096, .inl gm))]) hD hS hA [4, 5] rfl
                      refine va_calli (va_runV (As := [.int x7]) (rest := [.int y_41, .ref lb, .ref t0, .ref h0]) ⟨hx, hb, hml, hown, hts⟩ (k_X6_yAt_e l D H.size h0 v1 v2 z3 gm x7 cI (by first | assumption | omega | decide)) (cwV 1 hts (gV bw_183 bw_188 bw_189 bw_168 bw_187) rfl rfl rfl (by decide +kernel) ⟨(by rw [hR]; exact Nat.le_of_ble_eq_true rfl), (by rw [hR]; exact Nat.le_of_ble_eq_true rfl)⟩) ⟨cP_blind, va_recv hKc hPc (ci := 6) (q0 := 0) rfl rfl, cP_at hPc hKc hDc hN⟩ rfl rfl hl.1 rfl (lv_room (Nat.le_of_ble_eq_true rfl)) dX6_gather_109 ⟨(by rw [hR]; exact Nat.le_of_ble_eq_true rfl), (by rw [hR]; exact Nat.le_of_ble_eq_true rfl)⟩) hS (fun q _ h => hFc q h) hFc (fun r_42 u9 t9 H1 locs ht hvm hr_42 hB hz1 hk1 hS => ?_)
                      try dsimp only at hr_42
                      obtain ⟨hP1, hK1, hD1⟩ := hB
                      rw [ht] at hP1
                      obtain ⟨hP, hD⟩ := va_join (wr := [(v2, .inl (cI, 4096, .inl gn)), (t0, .inr (5, [.ref d0, .int w, .int h])), (d0, .inl (cI, 4096, .inl g)), (lb, .inr (0, [.int bx0, .int by0, .int bx1, .int by1]))]) (w1 := [(h0, .inr (6, [.ref v1, .ref v2, .int z3])), (v1, .inl (cI, 4096, .inl gm))]) hP hD [4, 5] [0, 1, 2, 3] rfl rfl (by decide) (by decide) hk1 hFc hP1 hD1
                      clear hz1 hk1 hFc hKc hDc hPc
                      generalize H1 = H at hP hS ⊢
                      have hP : va_P D vwCl [(v2, .inl (cI, 4096, .inl gn)), (t0, .inr (5, [.ref d0, .int w, .int h])), (d0, .inl (cI, 4096, .inl g)), (lb, .inr (0, [.int bx0, .int by0, .int bx1, .int by1])), (h0, .inr (6, [.ref v1, .ref v2, .int z3])), (v1, .inl (cI, 4096, .inl gm))] H := hP
                      have hD : va_D A [(v2, .inl (cI, 4096, .inl gn)), (t0, .inr (5, [.ref d0, .int w, .int h])), (d0, .inl (cI, 4096, .inl g)), (lb, .inr (0, [.int bx0, .int by0, .int bx1, .int by1])), (h0, .inr (6, [.ref v1, .ref v2, .int z3])), (v1, .inl (cI, 4096, .inl gm))] := hD
                      have hpr_42 : r_42 = pY ((rcO (opnC w h bx0 by0 bx1 by1) g (g (ixP x y)) co st1 j).2.1 j) := by rw [hr_42, if_pos (by omega), hc_j, f2, hk.2.2 j (by omega)]
                      refine lv_iload hx hb dX6_gather_112 (lv_at hl 0 rfl) ?_
                      refine lv_iadd hx hb dX6_gather_114 ?_
                      refine lv_topi (fun y_43 ey_43 => ?_)
                      have hay_43 : y_43 = pY ((rcO (opnC w h bx0 by0 bx1 by1) g (g (ixP x y)) co st1 j).2.1 j) + dY i := by rw [ey_43, hpr_42, hdy_20]
                      refine lv_iload hx hb dX6_gather_115 (lv_at hl 4 rfl) ?_
                      have hPc := hP.sub (ws' := [(h0, .inr (6, [.ref v1, .ref v2, .int z3])), (v1, .inl (cI, 4096, .inl gm)), (v2, .inl (cI, 4096, .inl gn)), (t0, .inr (5, [.ref d0, .int w, .int h])), (d0, .inl (cI, 4096, .inl g)), (lb, .inr (0, [.int bx0, .int by0, .int bx1, .int by1]))]) [4, 5, 0, 1, 2, 3] rfl
                      have hDc := hD.sub (ws' := [(h0, .inr (6, [.ref v1, .ref v2, .int z3])), (v1, .inl (cI, 4096, .inl gm)), (v2, .inl (cI, 4096, .inl gn)), (t0, .inr (5, [.ref d0, .int w, .int h])), (d0, .inl (cI, 4096, .inl g)), (lb, .inr (0, [.int bx0, .int by0, .int bx1, .int by1]))]) [4, 5, 0, 1, 2, 3] (by decide) rfl
                      have hKc := hK.sub (tys' := [(cI, .int)]) [0] rfl
                      have hFc := va_free (wc := [(h0, .inr (6, [.ref v1, .ref v2, .int z3])), (v1, .inl (cI, 4096, .inl gm)), (v2, .inl (cI, 4096, .inl gn)), (t0, .inr (5, [.ref d0, .int w, .int h])), (d0, .inl (cI, 4096, .inl g)), (lb, .inr (0, [.int bx0, .int by0, .int bx1, .int by1]))]) hD hS hA [4, 5, 0, 1, 2, 3] rfl
                      refine va_callv (va_runV (As := [.ref t0, .ref lb, .int y_41, .int y_43, .int r_4]) (rest := []) ⟨hx, hb, hml, hown, hts⟩ (k_X6_reach_e l D H.size h0 v1 v2 t0 d0 lb z3 gm gn w h g bx0 by0 bx1 by1 y_41 y_43 r_4 ((rcI (opnC w h bx0 by0 bx1 by1) g (g (ixP x y)) co (pX ((rcO (opnC w h bx0 by0 bx1 by1) g (g (ixP x y)) co st1 j).2.1 j)) (pY ((rcO (opnC w h bx0 by0 bx1 by1) g (g (ixP x y)) co st1 j).2.1 j)) (rcO (opnC w h bx0 by0 bx1 by1) g (g (ixP x y)) co st1 j) i).2.2) cI f1 hk.2.1 hz3 (by first | assumption | omega | decide) (by first | assumption | omega | decide)) (cwV 5 hts (gV bw_181 bw_191 bw_192 bw_168 bw_190) rfl rfl rfl (by decide +kernel) ⟨(by rw [hR]; exact Nat.le_of_ble_eq_true rfl), (by rw [hR]; exact Nat.le_of_ble_eq_true rfl)⟩) ⟨cP_blind, va_recv hKc hPc (ci := 6) (q0 := 0) rfl rfl, cP_at hPc hKc hDc hN⟩ rfl rfl hl.1 rfl (lv_room (Nat.le_of_ble_eq_true rfl)) dX6_gather_117 ⟨(by rw [hR]; exact Nat.le_of_ble_eq_true rfl), (by rw [hR]; exact Nat.le_of_ble_eq_true rfl)⟩) hS (fun q _ h => hFc q h) hFc (fun u9 t9 H1 locs ht hvm hr_44 hB hz1 hk1 hS => ?_)
                      try dsimp only at hr_44
                      obtain ⟨hP1, hK1, hD1⟩ := hB
                      rw [ht] at hP1
                      obtain ⟨hP, hD⟩ := va_join (wr := []) (w1 := [(h0, .inr (6, [.ref v1, .ref v2, .int (nI (rcS (opnC w h bx0 by0 bx1 by1) g r_4 y_41 y_43 (gn, gm, ((rcI (opnC w h bx0 by0 bx1 by1) g (g (ixP x y)) co (pX ((rcO (opnC w h bx0 by0 bx1 by1) g (g (ixP x y)) co st1 j).2.1 j)) (pY ((rcO (opnC w h bx0 by0 bx1 by1) g (g (ixP x y)) co st1 j).2.1 j)) (rcO (opnC w h bx0 by0 bx1 by1) g (g (ixP x y)) co st1 j) i).2.2))).2.2)])), (v1, .inl (cI, 4096, .inl ((rcS (opnC w h bx0 by0 bx1 by1) g r_4 y_41 y_43 (gn, gm, ((rcI (opnC w h bx0 by0 bx1 by1) g (g (ixP x y)) co (pX ((rcO (opnC w h bx0 by0 bx1 by1) g (g (ixP x y)) co st1 j).2.1 j)) (pY ((rcO (opnC w h bx0 by0 bx1 by1) g (g (ixP x y)) co st1 j).2.1 j)) (rcO (opnC w h bx0 by0 bx1 by1) g (g (ixP x y)) co st1 j) i).2.2))).2.1))), (v2, .inl (cI, 4096, .inl ((rcS (opnC w h bx0 by0 bx1 by1) g r_4 y_41 y_43 (gn, gm, ((rcI (opnC w h bx0 by0 bx1 by1) g (g (ixP x y)) co (pX ((rcO (opnC w h bx0 by0 bx1 by1) g (g (ixP x y)) co st1 j).2.1 j)) (pY ((rcO (opnC w h bx0 by0 bx1 by1) g (g (ixP x y)) co st1 j).2.1 j)) (rcO (opnC w h bx0 by0 bx1 by1) g (g (ixP x y)) co st1 j) i).2.2))).1))), (t0, .inr (5, [.ref d0, .int w, .int h])), (d0, .inl (cI, 4096, .inl g)), (lb, .inr (0, [.int bx0, .int by0, .int bx1, .int by1]))]) hP hD [4, 5, 0, 1, 2, 3] [] rfl rfl (by decide) (by decide) hk1 hFc hP1 hD1
                      clear hz1 hk1 hFc hKc hDc hPc
                      generalize H1 = H at hP hS ⊢
                      have hP : va_P D vwCl [(h0, .inr (6, [.ref v1, .ref v2, .int (nI (rcS (opnC w h bx0 by0 bx1 by1) g r_4 y_41 y_43 (gn, gm, ((rcI (opnC w h bx0 by0 bx1 by1) g (g (ixP x y)) co (pX ((rcO (opnC w h bx0 by0 bx1 by1) g (g (ixP x y)) co st1 j).2.1 j)) (pY ((rcO (opnC w h bx0 by0 bx1 by1) g (g (ixP x y)) co st1 j).2.1 j)) (rcO (opnC w h bx0 by0 bx1 by1) g (g (ixP x y)) co st1 j) i).2.2))).2.2)])), (v1, .inl (cI, 4096, .inl ((rcS (opnC w h bx0 by0 bx1 by1) g r_4 y_41 y_43 (gn, gm, ((rcI (opnC w h bx0 by0 bx1 by1) g (g (ixP x y)) co (pX ((rcO (opnC w h bx0 by0 bx1 by1) g (g (ixP x y)) co st1 j).2.1 j)) (pY ((rcO (opnC w h bx0 by0 bx1 by1) g (g (ixP x y)) co st1 j).2.1 j)) (rcO (opnC w h bx0 by0 bx1 by1) g (g (ixP x y)) co st1 j) i).2.2))).2.1))), (v2, .inl (cI, 4096, .inl ((rcS (opnC w h bx0 by0 bx1 by1) g r_4 y_41 y_43 (gn, gm, ((rcI (opnC w h bx0 by0 bx1 by1) g (g (ixP x y)) co (pX ((rcO (opnC w h bx0 by0 bx1 by1) g (g (ixP x y)) co st1 j).2.1 j)) (pY ((rcO (opnC w h bx0 by0 bx1 by1) g (g (ixP x y)) co st1 j).2.1 j)) (rcO (opnC w h bx0 by0 bx1 by1) g (g (ixP x y)) co st1 j) i).2.2))).1))), (t0, .inr (5, [.ref d0, .int w, .int h])), (d0, .inl (cI, 4096, .inl g)), (lb, .inr (0, [.int bx0, .int by0, .int bx1, .int by1]))] H := hP
                      have hD : va_D A [(h0, .inr (6, [.ref v1, .ref v2, .int (nI (rcS (opnC w h bx0 by0 bx1 by1) g r_4 y_41 y_43 (gn, gm, ((rcI (opnC w h bx0 by0 bx1 by1) g (g (ixP x y)) co (pX ((rcO (opnC w h bx0 by0 bx1 by1) g (g (ixP x y)) co st1 j).2.1 j)) (pY ((rcO (opnC w h bx0 by0 bx1 by1) g (g (ixP x y)) co st1 j).2.1 j)) (rcO (opnC w h bx0 by0 bx1 by1) g (g (ixP x y)) co st1 j) i).2.2))).2.2)])), (v1, .inl (cI, 4096, .inl ((rcS (opnC w h bx0 by0 bx1 by1) g r_4 y_41 y_43 (gn, gm, ((rcI (opnC w h bx0 by0 bx1 by1) g (g (ixP x y)) co (pX ((rcO (opnC w h bx0 by0 bx1 by1) g (g (ixP x y)) co st1 j).2.1 j)) (pY ((rcO (opnC w h bx0 by0 bx1 by1) g (g (ixP x y)) co st1 j).2.1 j)) (rcO (opnC w h bx0 by0 bx1 by1) g (g (ixP x y)) co st1 j) i).2.2))).2.1))), (v2, .inl (cI, 4096, .inl ((rcS (opnC w h bx0 by0 bx1 by1) g r_4 y_41 y_43 (gn, gm, ((rcI (opnC w h bx0 by0 bx1 by1) g (g (ixP x y)) co (pX ((rcO (opnC w h bx0 by0 bx1 by1) g (g (ixP x y)) co st1 j).2.1 j)) (pY ((rcO (opnC w h bx0 by0 bx1 by1) g (g (ixP x y)) co st1 j).2.1 j)) (rcO (opnC w h bx0 by0 bx1 by1) g (g (ixP x y)) co st1 j) i).2.2))).1))), (t0, .inr (5, [.ref d0, .int w, .int h])), (d0, .inl (cI, 4096, .inl g)), (lb, .inr (0, [.int bx0, .int by0, .int bx1, .int by1]))] := hD
                      obtain ⟨y_45, ey_45⟩ : ∃ y : Int32, y = x8 + 1 := ⟨_, rfl⟩
                      refine lv_iinc (v := y_45) (lv' := [(8, .int y_45), (10, .int y_20), (9, .int y_18), (7, .int x7), (6, .int r_4), (0, .ref h0), (1, .ref t0), (2, .ref lb), (3, .int x), (4, .int y), (5, .int co)]) hx hb dX6_gather_120 hl (k := 2) rfl (by rw [ey_45]; rfl) (by decide) rfl (fun ls hl => ?_)
                      refine lv_goto (tgt := 56) hx hb dX6_gather_123 (by decide) ?_
                      exact ih_13 (i + 1) y_45 ((rcS (opnC w h bx0 by0 bx1 by1) g r_4 y_41 y_43 (gn, gm, ((rcI (opnC w h bx0 by0 bx1 by1) g (g (ixP x y)) co (pX ((rcO (opnC w h bx0 by0 bx1 by1) g (g (ixP x y)) co st1 j).2.1 j)) (pY ((rcO (opnC w h bx0 by0 bx1 by1) g (g (ixP x y)) co st1 j).2.1 j)) (rcO (opnC w h bx0 by0 bx1 by1) g (g (ixP x y)) co st1 j) i).2.2))).2.1) ((rcS (opnC w h bx0 by0 bx1 by1) g r_4 y_41 y_43 (gn, gm, ((rcI (opnC w h bx0 by0 bx1 by1) g (g (ixP x y)) co (pX ((rcO (opnC w h bx0 by0 bx1 by1) g (g (ixP x y)) co st1 j).2.1 j)) (pY ((rcO (opnC w h bx0 by0 bx1 by1) g (g (ixP x y)) co st1 j).2.1 j)) (rcO (opnC w h bx0 by0 bx1 by1) g (g (ixP x y)) co st1 j) i).2.2))).1) (nI (rcS (opnC w h bx0 by0 bx1 by1) g r_4 y_41 y_43 (gn, gm, ((rcI (opnC w h bx0 by0 bx1 by1) g (g (ixP x y)) co (pX ((rcO (opnC w h bx0 by0 bx1 by1) g (g (ixP x y)) co st1 j).2.1 j)) (pY ((rcO (opnC w h bx0 by0 bx1 by1) g (g (ixP x y)) co st1 j).2.1 j)) (rcO (opnC w h bx0 by0 bx1 by1) g (g (ixP x y)) co st1 j) i).2.2))).2.2) _ _ _ (by omega) (by omega) (by rw [ey_45, ex_i]; exact nI_1 i) (congrArg (fun q : S3 => nI q.2.2) (show rcS (opnC w h bx0 by0 bx1 by1) g r_4 y_41 y_43 (gn, gm, (rcI (opnC w h bx0 by0 bx1 by1) g (g (ixP x y)) co (pX ((rcO (opnC w h bx0 by0 bx1 by1) g (g (ixP x y)) co st1 j).2.1 j)) (pY ((rcO (opnC w h bx0 by0 bx1 by1) g (g (ixP x y)) co st1 j).2.1 j)) (rcO (opnC w h bx0 by0 bx1 by1) g (g (ixP x y)) co st1 j) i).2.2) = (rcI (opnC w h bx0 by0 bx1 by1) g (g (ixP x y)) co (pX ((rcO (opnC w h bx0 by0 bx1 by1) g (g (ixP x y)) co st1 j).2.1 j)) (pY ((rcO (opnC w h bx0 by0 bx1 by1) g (g (ixP x y)) co st1 j).2.1 j)) (rcO (opnC w h bx0 by0 bx1 by1) g (g (ixP x y)) co st1 j) (i + 1)) from (by rw [show (gn, gm, (rcI (opnC w h bx0 by0 bx1 by1) g (g (ixP x y)) co (pX ((rcO (opnC w h bx0 by0 bx1 by1) g (g (ixP x y)) co st1 j).2.1 j)) (pY ((rcO (opnC w h bx0 by0 bx1 by1) g (g (ixP x y)) co st1 j).2.1 j)) (rcO (opnC w h bx0 by0 bx1 by1) g (g (ixP x y)) co st1 j) i).2.2) = (rcI (opnC w h bx0 by0 bx1 by1) g (g (ixP x y)) co (pX ((rcO (opnC w h bx0 by0 bx1 by1) g (g (ixP x y)) co st1 j).2.1 j)) (pY ((rcO (opnC w h bx0 by0 bx1 by1) g (g (ixP x y)) co st1 j).2.1 j)) (rcO (opnC w h bx0 by0 bx1 by1) g (g (ixP x y)) co st1 j) i) by rw [f2, f3], hvr, hay_41, hay_43]; exact (if_pos (Or.inr (Or.inr (hdy_20.symm.trans c_37)))).symm))) (congrArg (fun q : S3 => q.2.1) (show rcS (opnC w h bx0 by0 bx1 by1) g r_4 y_41 y_43 (gn, gm, (rcI (opnC w h bx0 by0 bx1 by1) g (g (ixP x y)) co (pX ((rcO (opnC w h bx0 by0 bx1 by1) g (g (ixP x y)) co st1 j).2.1 j)) (pY ((rcO (opnC w h bx0 by0 bx1 by1) g (g (ixP x y)) co st1 j).2.1 j)) (rcO (opnC w h bx0 by0 bx1 by1) g (g (ixP x y)) co st1 j) i).2.2) = (rcI (opnC w h bx0 by0 bx1 by1) g (g (ixP x y)) co (pX ((rcO (opnC w h bx0 by0 bx1 by1) g (g (ixP x y)) co st1 j).2.1 j)) (pY ((rcO (opnC w h bx0 by0 bx1 by1) g (g (ixP x y)) co st1 j).2.1 j)) (rcO (opnC w h bx0 by0 bx1 by1) g (g (ixP x y)) co st1 j) (i + 1)) from (by rw [show (gn, gm, (rcI (opnC w h bx0 by0 bx1 by1) g (g (ixP x y)) co (pX ((rcO (opnC w h bx0 by0 bx1 by1) g (g (ixP x y)) co st1 j).2.1 j)) (pY ((rcO (opnC w h bx0 by0 bx1 by1) g (g (ixP x y)) co st1 j).2.1 j)) (rcO (opnC w h bx0 by0 bx1 by1) g (g (ixP x y)) co st1 j) i).2.2) = (rcI (opnC w h bx0 by0 bx1 by1) g (g (ixP x y)) co (pX ((rcO (opnC w h bx0 by0 bx1 by1) g (g (ixP x y)) co st1 j).2.1 j)) (pY ((rcO (opnC w h bx0 by0 bx1 by1) g (g (ixP x y)) co st1 j).2.1 j)) (rcO (opnC w h bx0 by0 bx1 by1) g (g (ixP x y)) co st1 j) i) by rw [f2, f3], hvr, hay_41, hay_43]; exact (if_pos (Or.inr (Or.inr (hdy_20.symm.trans c_37)))).symm))) (congrArg (fun q : S3 => q.1) (show rcS (opnC w h bx0 by0 bx1 by1) g r_4 y_41 y_43 (gn, gm, (rcI (opnC w h bx0 by0 bx1 by1) g (g (ixP x y)) co (pX ((rcO (opnC w h bx0 by0 bx1 by1) g (g (ixP x y)) co st1 j).2.1 j)) (pY ((rcO (opnC w h bx0 by0 bx1 by1) g (g (ixP x y)) co st1 j).2.1 j)) (rcO (opnC w h bx0 by0 bx1 by1) g (g (ixP x y)) co st1 j) i).2.2) = (rcI (opnC w h bx0 by0 bx1 by1) g (g (ixP x y)) co (pX ((rcO (opnC w h bx0 by0 bx1 by1) g (g (ixP x y)) co st1 j).2.1 j)) (pY ((rcO (opnC w h bx0 by0 bx1 by1) g (g (ixP x y)) co st1 j).2.1 j)) (rcO (opnC w h bx0 by0 bx1 by1) g (g (ixP x y)) co st1 j) (i + 1)) from (by rw [show (gn, gm, (rcI (opnC w h bx0 by0 bx1 by1) g (g (ixP x y)) co (pX ((rcO (opnC w h bx0 by0 bx1 by1) g (g (ixP x y)) co st1 j).2.1 j)) (pY ((rcO (opnC w h bx0 by0 bx1 by1) g (g (ixP x y)) co st1 j).2.1 j)) (rcO (opnC w h bx0 by0 bx1 by1) g (g (ixP x y)) co st1 j) i).2.2) = (rcI (opnC w h bx0 by0 bx1 by1) g (g (ixP x y)) co (pX ((rcO (opnC w h bx0 by0 bx1 by1) g (g (ixP x y)) co st1 j).2.1 j)) (pY ((rcO (opnC w h bx0 by0 bx1 by1) g (g (ixP x y)) co st1 j).2.1 j)) (rcO (opnC w h bx0 by0 bx1 by1) g (g (ixP x y)) co st1 j) i) by rw [f2, f3], hvr, hay_41, hay_43]; exact (if_pos (Or.inr (Or.inr (hdy_20.symm.trans c_37)))).symm))) (hP.sub (ws' := [(h0, .inr (6, [.ref v1, .ref v2, .int (nI (rcS (opnC w h bx0 by0 bx1 by1) g r_4 y_41 y_43 (gn, gm, ((rcI (opnC w h bx0 by0 bx1 by1) g (g (ixP x y)) co (pX ((rcO (opnC w h bx0 by0 bx1 by1) g (g (ixP x y)) co st1 j).2.1 j)) (pY ((rcO (opnC w h bx0 by0 bx1 by1) g (g (ixP x y)) co st1 j).2.1 j)) (rcO (opnC w h bx0 by0 bx1 by1) g (g (ixP x y)) co st1 j) i).2.2))).2.2)])), (v1, .inl (cI, 4096, .inl ((rcS (opnC w h bx0 by0 bx1 by1) g r_4 y_41 y_43 (gn, gm, ((rcI (opnC w h bx0 by0 bx1 by1) g (g (ixP x y)) co (pX ((rcO (opnC w h bx0 by0 bx1 by1) g (g (ixP x y)) co st1 j).2.1 j)) (pY ((rcO (opnC w h bx0 by0 bx1 by1) g (g (ixP x y)) co st1 j).2.1 j)) (rcO (opnC w h bx0 by0 bx1 by1) g (g (ixP x y)) co st1 j) i).2.2))).2.1))), (v2, .inl (cI, 4096, .inl ((rcS (opnC w h bx0 by0 bx1 by1) g r_4 y_41 y_43 (gn, gm, ((rcI (opnC w h bx0 by0 bx1 by1) g (g (ixP x y)) co (pX ((rcO (opnC w h bx0 by0 bx1 by1) g (g (ixP x y)) co st1 j).2.1 j)) (pY ((rcO (opnC w h bx0 by0 bx1 by1) g (g (ixP x y)) co st1 j).2.1 j)) (rcO (opnC w h bx0 by0 bx1 by1) g (g (ixP x y)) co st1 j) i).2.2))).1))), (t0, .inr (5, [.ref d0, .int w, .int h])), (d0, .inl (cI, 4096, .inl g)), (lb, .inr (0, [.int bx0, .int by0, .int bx1, .int by1]))]) [0, 1, 2, 3, 4, 5] rfl) (hD.sub (ws' := [(h0, .inr (6, [.ref v1, .ref v2, .int (nI (rcS (opnC w h bx0 by0 bx1 by1) g r_4 y_41 y_43 (gn, gm, ((rcI (opnC w h bx0 by0 bx1 by1) g (g (ixP x y)) co (pX ((rcO (opnC w h bx0 by0 bx1 by1) g (g (ixP x y)) co st1 j).2.1 j)) (pY ((rcO (opnC w h bx0 by0 bx1 by1) g (g (ixP x y)) co st1 j).2.1 j)) (rcO (opnC w h bx0 by0 bx1 by1) g (g (ixP x y)) co st1 j) i).2.2))).2.2)])), (v1, .inl (cI, 4096, .inl ((rcS (opnC w h bx0 by0 bx1 by1) g r_4 y_41 y_43 (gn, gm, ((rcI (opnC w h bx0 by0 bx1 by1) g (g (ixP x y)) co (pX ((rcO (opnC w h bx0 by0 bx1 by1) g (g (ixP x y)) co st1 j).2.1 j)) (pY ((rcO (opnC w h bx0 by0 bx1 by1) g (g (ixP x y)) co st1 j).2.1 j)) (rcO (opnC w h bx0 by0 bx1 by1) g (g (ixP x y)) co st1 j) i).2.2))).2.1))), (v2, .inl (cI, 4096, .inl ((rcS (opnC w h bx0 by0 bx1 by1) g r_4 y_41 y_43 (gn, gm, ((rcI (opnC w h bx0 by0 bx1 by1) g (g (ixP x y)) co (pX ((rcO (opnC w h bx0 by0 bx1 by1) g (g (ixP x y)) co st1 j).2.1 j)) (pY ((rcO (opnC w h bx0 by0 bx1 by1) g (g (ixP x y)) co st1 j).2.1 j)) (rcO (opnC w h bx0 by0 bx1 by1) g (g (ixP x y)) co st1 j) i).2.2))).1))), (t0, .inr (5, [.ref d0, .int w, .int h])), (d0, .inl (cI, 4096, .inl g)), (lb, .inr (0, [.int bx0, .int by0, .int bx1, .int by1]))]) [0, 1, 2, 3, 4, 5] (by decide) rfl) hS (lv_sub hl [0, 3, 4, 5, 6, 7, 8, 9, 10] rfl)
          exact loop_12 (9 + 1) 0 0 gx gy z2 _ _ _ (by omega) (by omega) nI_0.symm e1 e2 e3 hP hD hS (lv_sub hl [0, 1, 2, 3, 4, 5, 6, 7, 8] rfl)
  exact loop_6 (4096 + 1) 0 0 st1.2.1 st1.1 (nI st1.2.2) _ _ _ (by omega) (by omega) nI_0.symm rfl rfl rfl hst1 (fun _ h => absurd h (by omega)) hP hD hS (lv_sub hl [0, 1, 2, 3, 4, 5, 6, 7] rfl)

set_option maxHeartbeats 4000000 in
set_option maxRecDepth 100000 in
theorem k_X8_gathered_1e (l : Launch) (D : va_G) (sz : Nat) (h0 s1 s2 s3 s4 s5 s6 : Nat) (ds : Int32) (bt : Option Nat) (sq v1 v2 : Nat) (zs : Int32) (ga : Nat → Int32) (gb : Nat → Int32) (t0 d0 lb : Nat) (w h : Int32) (g : Nat → Int32) (bx0 by0 bx1 by1 : Int32) (x y co : Int32) (cI : ClassId) (hw : w.toInt ≤ 64) (hh : h.toInt ≤ 64) (hon : 0 ≤ x.toInt ∧ x.toInt < w.toInt ∧ 0 ≤ y.toInt ∧ y.toInt < h.toInt) : Met l yX8_gathered (wB yX8_gathered cX8_gathered 6 (some (.object "DotBench$Spread"))) ({ frames := 4, cells := 0, slots := 0, locals := 100 }) (cP D [(h0, .inr (8, [.ref s1, .ref s2, .ref s3, .ref s4, .ref s5, .ref s6, .int ds, .ref sq, va_rf bt])), (sq, .inr (6, [.ref v1, .ref v2, .int zs])), (v1, .inl (cI, 4096, .inl ga)), (v2, .inl (cI, 4096, .inl gb)), (t0, .inr (5, [.ref d0, .int w, .int h])), (d0, .inl (cI, 4096, .inl g)), (lb, .inr (0, [.int bx0, .int by0, .int bx1, .int by1]))] [(cI, .int)] sz [.ref h0, .ref t0, .ref lb, .int x, .int y, .int co]) (va_Qq (fun (r : Option Nat) (_ : Unit) => r = some sq) (fun (_ : Unit) (t : State) => ∃ (g2 g3 : Nat → Int32), (∀ t : Nat, t < (spS (opnC w h bx0 by0 bx1 by1) g x y co).2.2 → g2 t = (spS (opnC w h bx0 by0 bx1 by1) g x y co).2.1 t) ∧ (∀ j : Nat, j < 4096 → g3 j = (spS (opnC w h bx0 by0 bx1 by1) g x y co).1 j) ∧ ((spS (opnC w h bx0 by0 bx1 by1) g x y co).2.2 ≤ 4096) ∧ cB D (va_A [(h0, .inr (8, [.ref s1, .ref s2, .ref s3, .ref s4, .ref s5, .ref s6, .int ds, .ref sq, va_rf bt])), (sq, .inr (6, [.ref v1, .ref v2, .int zs])), (v1, .inl (cI, 4096, .inl ga)), (v2, .inl (cI, 4096, .inl gb)), (t0, .inr (5, [.ref d0, .int w, .int h])), (d0, .inl (cI, 4096, .inl g)), (lb, .inr (0, [.int bx0, .int by0, .int bx1, .int by1]))] sz) [(h0, .inr (8, [.ref s1, .ref s2, .ref s3, .ref s4, .ref s5, .ref s6, .int ds, .ref sq, va_rf bt])), (sq, .inr (6, [.ref v1, .ref v2, .int (nI (spS (opnC w h bx0 by0 bx1 by1) g x y co).2.2)])), (v1, .inl (cI, 4096, .inl g2)), (v2, .inl (cI, 4096, .inl g3)), (t0, .inr (5, [.ref d0, .int w, .int h])), (d0, .inl (cI, 4096, .inl g)), (lb, .inr (0, [.int bx0, .int by0, .int bx1, .int by1]))] [(cI, .int)] t) (va_A [(h0, .inr (8, [.ref s1, .ref s2, .ref s3, .ref s4, .ref s5, .ref s6, .int ds, .ref sq, va_rf bt])), (sq, .inr (6, [.ref v1, .ref v2, .int zs])), (v1, .inl (cI, 4096, .inl ga)), (v2, .inl (cI, 4096, .inl gb)), (t0, .inr (5, [.ref d0, .int w, .int h])), (d0, .inl (cI, 4096, .inl g)), (lb, .inr (0, [.int bx0, .int by0, .int bx1, .int by1]))] sz)) 0 0 (va_A [(h0, .inr (8, [.ref s1, .ref s2, .ref s3, .ref s4, .ref s5, .ref s6, .int ds, .ref sq, va_rf bt])), (sq, .inr (6, [.ref v1, .ref v2, .int zs])), (v1, .inl (cI, 4096, .inl ga)), (v2, .inl (cI, 4096, .inl gb)), (t0, .inr (5, [.ref d0, .int w, .int h])), (d0, .inl (cI, 4096, .inl g)), (lb, .inr (0, [.int bx0, .int by0, .int bx1, .int by1]))] sz) := by
  refine Met.ofW (cc := cX8_gathered) (maxL := 6) (ret := (some (.object "DotBench$Spread"))) (by decide) rfl ?_
  intro p e s m args below meth c s₁ B hml hv
  obtain ⟨rfl, hsz, hP, hK, hD0, hN⟩ := hv
  have hx := B.exec
  have hb := B.bytes
  have hr := B.returns
  have hts0 := atoms_spec (ws := (wB yX8_gathered cX8_gathered 6 (some (.object "DotBench$Spread")))) B.pre
  have hts : ∀ w ∈ bigW, w.before _ s = true := fun w h => hts0 w (List.mem_cons_of_mem _ h)
  have hown : s.vm.findClass RX8 = some m.cls := findClass_of_methodNamed B.named
  have hlocks := B.notSynchronized
  subst hsz
  have hD := hD0.self (sz := s.heap.size)
  generalize hAe : va_A [(h0, .inr (8, [.ref s1, .ref s2, .ref s3, .ref s4, .ref s5, .ref s6, .int ds, .ref sq, va_rf bt])), (sq, .inr (6, [.ref v1, .ref v2, .int zs])), (v1, .inl (cI, 4096, .inl ga)), (v2, .inl (cI, 4096, .inl gb)), (t0, .inr (5, [.ref d0, .int w, .int h])), (d0, .inl (cI, 4096, .inl g)), (lb, .inr (0, [.int bx0, .int by0, .int bx1, .int by1]))] s.heap.size = A at hD ⊢
  have hA : ∀ q : Nat, s.heap.size ≤ q → A q := fun q h => by rw [← hAe]; exact Or.inr h
  have hS : va_S A s.heap s.heap [] := va_S.rf
  have hP : va_P D vwCl [(h0, .inr (8, [.ref s1, .ref s2, .ref s3, .ref s4, .ref s5, .ref s6, .int ds, .ref sq, va_rf bt])), (sq, .inr (6, [.ref v1, .ref v2, .int zs])), (v1, .inl (cI, 4096, .inl ga)), (v2, .inl (cI, 4096, .inl gb)), (t0, .inr (5, [.ref d0, .int w, .int h])), (d0, .inl (cI, 4096, .inl g)), (lb, .inr (0, [.int bx0, .int by0, .int bx1, .int by1]))] s.heap := hP
  have hl := lv_entry ([.ref h0, .ref t0, .ref lb, .int x, .int y, .int co]) (n := 6) (Nat.le_of_ble_eq_true rfl)
  rw [lg_entry_eq]
  generalize (lg_sl ([.ref h0, .ref t0, .ref lb, .int x, .int y, .int co]) ++ List.replicate (6 - (lg_sl ([.ref h0, .ref t0, .ref lb, .int x, .int y, .int co])).length) Slot.unset).toArray = ls at hl ⊢
  have hl : lv_has ls 6 [(0, .ref h0), (1, .ref t0), (2, .ref lb), (3, .int x), (4, .int y), (5, .int co)] := hl
  clear hts0 hD0 hAe
  refine my_abs (fun R Q hR hQ => ?_)
  refine lv_aload_n hx hb dX8_gathered_0 rfl (lv_at hl 0 rfl) ?_
  refine va_get (D := D) (ci := 8) (v := .ref sq) (C := RX8) (T := TX8) (N := 9) hx hb hts hi_X8 hown hK hP 0 rfl rfl 7 (by decide) (hts _ bw_242) (fun _ h9 => h9) rfl dX8_gathered_1 ?_
  refine lv_ifnonnull (tgt := 18) hx hb dX8_gathered_4 (by decide) ?_
  refine lv_aload_n hx hb dX8_gathered_18 rfl (lv_at hl 0 rfl) ?_
  refine va_get (D := D) (ci := 8) (v := .ref sq) (C := RX8) (T := TX8) (N := 9) hx hb hts hi_X8 hown hK hP 0 rfl rfl 7 (by decide) (hts _ bw_242) (fun _ h9 => h9) rfl dX8_gathered_19 ?_
  refine lv_aload_n hx hb dX8_gathered_22 rfl (lv_at hl 1 rfl) ?_
  refine lv_aload_n hx hb dX8_gathered_23 rfl (lv_at hl 2 rfl) ?_
  refine lv_iload_n hx hb dX8_gathered_24 rfl (lv_at hl 3 rfl) ?_
  refine lv_iload hx hb dX8_gathered_25 (lv_at hl 4 rfl) ?_
  refine lv_iload hx hb dX8_gathered_27 (lv_at hl 5 rfl) ?_
  have hPc := hP.sub (ws' := [(sq, .inr (6, [.ref v1, .ref v2, .int zs])), (v1, .inl (cI, 4096, .inl ga)), (v2, .inl (cI, 4096, .inl gb)), (t0, .inr (5, [.ref d0, .int w, .int h])), (d0, .inl (cI, 4096, .inl g)), (lb, .inr (0, [.int bx0, .int by0, .int bx1, .int by1]))]) [1, 2, 3, 4, 5, 6] rfl
  have hDc := hD.sub (ws' := [(sq, .inr (6, [.ref v1, .ref v2, .int zs])), (v1, .inl (cI, 4096, .inl ga)), (v2, .inl (cI, 4096, .inl gb)), (t0, .inr (5, [.ref d0, .int w, .int h])), (d0, .inl (cI, 4096, .inl g)), (lb, .inr (0, [.int bx0, .int by0, .int bx1, .int by1]))]) [1, 2, 3, 4, 5, 6] (by decide) rfl
  have hKc := hK.sub (tys' := [(cI, .int)]) [0] rfl
  have hFc := va_free (wc := [(sq, .inr (6, [.ref v1, .ref v2, .int zs])), (v1, .inl (cI, 4096, .inl ga)), (v2, .inl (cI, 4096, .inl gb)), (t0, .inr (5, [.ref d0, .int w, .int h])), (d0, .inl (cI, 4096, .inl g)), (lb, .inr (0, [.int bx0, .int by0, .int bx1, .int by1]))]) hD hS hA [1, 2, 3, 4, 5, 6] rfl
  refine va_callv (va_runV (As := [.ref t0, .ref lb, .int x, .int y, .int co]) (rest := []) ⟨hx, hb, hml, hown, hts⟩ (k_X6_gather_e l D s.heap.size sq v1 v2 t0 d0 lb zs ga gb w h g bx0 by0 bx1 by1 x y co cI (by first | assumption | omega | decide) (by first | assumption | omega | decide) (by first | assumption | omega | decide)) (cwV 5 hts (gV bw_381 bw_177 bw_178 bw_168 bw_176) rfl rfl rfl (by decide +kernel) ⟨(by rw [hR]; exact Nat.le_of_ble_eq_true rfl), (by rw [hR]; exact Nat.le_of_ble_eq_true rfl)⟩) ⟨cP_blind, va_recv hKc hPc (ci := 6) (q0 := 0) rfl rfl, cP_at hPc hKc hDc hN⟩ rfl rfl hl.1 rfl (lv_room (Nat.le_of_ble_eq_true rfl)) dX8_gathered_29 ⟨(by rw [hR]; exact Nat.le_of_ble_eq_true rfl), (by rw [hR]; exact Nat.le_of_ble_eq_true rfl)⟩) hS (fun q _ h => hFc q h) hFc (fun u9 t9 H1 locs ht hvm hr_1 hB hz1 hk1 hS => ?_)
  try dsimp only at hr_1
  obtain ⟨g_2, g_3, b_4, b_5, b_6, hP1, hK1, hD1⟩ := hB
  rw [ht] at hP1
  obtain ⟨hP, hD⟩ := va_join (wr := [(h0, .inr (8, [.ref s1, .ref s2, .ref s3, .ref s4, .ref s5, .ref s6, .int ds, .ref sq, va_rf bt]))]) (w1 := [(sq, .inr (6, [.ref v1, .ref v2, .int (nI (spS (opnC w h bx0 by0 bx1 by1) g x y co).2.2)])), (v1, .inl (cI, 4096, .inl g_2)), (v2, .inl (cI, 4096, .inl g_3)), (t0, .inr (5, [.ref d0, .int w, .int h])), (d0, .inl (cI, 4096, .inl g)), (lb, .inr (0, [.int bx0, .int by0, .int bx1, .int by1]))]) hP hD [1, 2, 3, 4, 5, 6] [0] rfl rfl (by decide) (by decide) hk1 hFc hP1 hD1
  clear hz1 hk1 hFc hKc hDc hPc
  generalize H1 = H at hP hS ⊢
  have hP : va_P D vwCl [(h0, .inr (8, [.ref s1, .ref s2, .ref s3, .ref s4, .ref s5, .ref s6, .int ds, .ref sq, va_rf bt])), (sq, .inr (6, [.ref v1, .ref v2, .int (nI (spS (opnC w h bx0 by0 bx1 by1) g x y co).2.2)])), (v1, .inl (cI, 4096, .inl g_2)), (v2, .inl (cI, 4096, .inl g_3)), (t0, .inr (5, [.ref d0, .int w, .int h])), (d0, .inl (cI, 4096, .inl g)), (lb, .inr (0, [.int bx0, .int by0, .int bx1, .int by1]))] H := hP
  have hD : va_D A [(h0, .inr (8, [.ref s1, .ref s2, .ref s3, .ref s4, .ref s5, .ref s6, .int ds, .ref sq, va_rf bt])), (sq, .inr (6, [.ref v1, .ref v2, .int (nI (spS (opnC w h bx0 by0 bx1 by1) g x y co).2.2)])), (v1, .inl (cI, 4096, .inl g_2)), (v2, .inl (cI, 4096, .inl g_3)), (t0, .inr (5, [.ref d0, .int w, .int h])), (d0, .inl (cI, 4096, .inl g)), (lb, .inr (0, [.int bx0, .int by0, .int bx1, .int by1]))] := hD
  refine lv_aload_n hx hb dX8_gathered_32 rfl (lv_at hl 0 rfl) ?_
  refine va_get (D := D) (ci := 8) (v := .ref sq) (C := RX8) (T := TX8) (N := 9) hx hb hts hi_X8 hown hK hP 0 rfl rfl 7 (by decide) (hts _ bw_242) (fun _ h9 => h9) rfl dX8_gathered_33 ?_
  have hP9 := hP.sub (ws' := [(h0, .inr (8, [.ref s1, .ref s2, .ref s3, .ref s4, .ref s5, .ref s6, .int ds, .ref sq, va_rf bt])), (sq, .inr (6, [.ref v1, .ref v2, .int (nI (spS (opnC w h bx0 by0 bx1 by1) g x y co).2.2)])), (v1, .inl (cI, 4096, .inl g_2)), (v2, .inl (cI, 4096, .inl g_3)), (t0, .inr (5, [.ref d0, .int w, .int h])), (d0, .inl (cI, 4096, .inl g)), (lb, .inr (0, [.int bx0, .int by0, .int bx1, .int by1]))]) [0, 1, 2, 3, 4, 5, 6] rfl
  have hD9 := hD.sub (ws' := [(h0, .inr (8, [.ref s1, .ref s2, .ref s3, .ref s4, .ref s5, .ref s6, .int ds, .ref sq, va_rf bt])), (sq, .inr (6, [.ref v1, .ref v2, .int (nI (spS (opnC w h bx0 by0 bx1 by1) g x y co).2.2)])), (v1, .inl (cI, 4096, .inl g_2)), (v2, .inl (cI, 4096, .inl g_3)), (t0, .inr (5, [.ref d0, .int w, .int h])), (d0, .inl (cI, 4096, .inl g)), (lb, .inr (0, [.int bx0, .int by0, .int bx1, .int by1]))]) [0, 1, 2, 3, 4, 5, 6] (by decide) rfl
  have hK9 := hK.sub (tys' := [(cI, .int)]) [0] rfl
  refine hQ _ _ _ _ _ ?_
  exact W.aret hx hb hr (Or.inl ⟨_, rfl⟩) (Or.inr ⟨_, rfl⟩) (fun t ht hW => ⟨⟨(some sq), (), rfl, rfl, ⟨g_2, g_3, b_4, b_5, b_6, by rw [ht]; exact hP9, va_K.moved hW.alike hK9, hD9⟩⟩, hS.F ht⟩) hS.2.2 dX8_gathered_36

set_option maxHeartbeats 4000000 in
set_option maxRecDepth 100000 in
theorem k_X8_gathered_0e (l : Launch) (D : va_G) (sz : Nat) (h0 s1 s2 s3 s4 s5 s6 : Nat) (ds : Int32) (bt : Option Nat) (t0 d0 lb : Nat) (w h : Int32) (g : Nat → Int32) (bx0 by0 bx1 by1 : Int32) (x y co : Int32) (cI : ClassId) (hw : w.toInt ≤ 64) (hh : h.toInt ≤ 64) (hon : 0 ≤ x.toInt ∧ x.toInt < w.toInt ∧ 0 ≤ y.toInt ∧ y.toInt < h.toInt) : Met l yX8_gathered (wB yX8_gathered cX8_gathered 6 (some (.object "DotBench$Spread"))) ({ frames := 4, cells := 3, slots := 8195, locals := 100 }) (cP D [(h0, .inr (8, [.ref s1, .ref s2, .ref s3, .ref s4, .ref s5, .ref s6, .int ds, .null, va_rf bt])), (t0, .inr (5, [.ref d0, .int w, .int h])), (d0, .inl (cI, 4096, .inl g)), (lb, .inr (0, [.int bx0, .int by0, .int bx1, .int by1]))] [(cI, .int)] sz [.ref h0, .ref t0, .ref lb, .int x, .int y, .int co]) (va_Qq (fun (r : Option Nat) (sq : Nat) => r = some sq) (fun (sq : Nat) (t : State) => ∃ (v1 v2 : Nat), ∃ (g2 g3 : Nat → Int32), (∀ t : Nat, t < (spS (opnC w h bx0 by0 bx1 by1) g x y co).2.2 → g2 t = (spS (opnC w h bx0 by0 bx1 by1) g x y co).2.1 t) ∧ (∀ j : Nat, j < 4096 → g3 j = (spS (opnC w h bx0 by0 bx1 by1) g x y co).1 j) ∧ ((spS (opnC w h bx0 by0 bx1 by1) g x y co).2.2 ≤ 4096) ∧ cB D (va_A [(h0, .inr (8, [.ref s1, .ref s2, .ref s3, .ref s4, .ref s5, .ref s6, .int ds, .null, va_rf bt])), (t0, .inr (5, [.ref d0, .int w, .int h])), (d0, .inl (cI, 4096, .inl g)), (lb, .inr (0, [.int bx0, .int by0, .int bx1, .int by1]))] sz) [(h0, .inr (8, [.ref s1, .ref s2, .ref s3, .ref s4, .ref s5, .ref s6, .int ds, .ref sq, va_rf bt])), (sq, .inr (6, [.ref v1, .ref v2, .int (nI (spS (opnC w h bx0 by0 bx1 by1) g x y co).2.2)])), (v1, .inl (cI, 4096, .inl g2)), (v2, .inl (cI, 4096, .inl g3)), (t0, .inr (5, [.ref d0, .int w, .int h])), (d0, .inl (cI, 4096, .inl g)), (lb, .inr (0, [.int bx0, .int by0, .int bx1, .int by1]))] [(cI, .int)] t) (va_A [(h0, .inr (8, [.ref s1, .ref s2, .ref s3, .ref s4, .ref s5, .ref s6, .int ds, .null, va_rf bt])), (t0, .inr (5, [.ref d0, .int w, .int h])), (d0, .inl (cI, 4096, .inl g)), (lb, .inr (0, [.int bx0, .int by0, .int bx1, .int by1]))] sz)) 3 8195 (va_A [(h0, .inr (8, [.ref s1, .ref s2, .ref s3, .ref s4, .ref s5, .ref s6, .int ds, .null, va_rf bt])), (t0, .inr (5, [.ref d0, .int w, .int h])), (d0, .inl (cI, 4096, .inl g)), (lb, .inr (0, [.int bx0, .int by0, .int bx1, .int by1]))] sz) := by
  refine Met.ofW (cc := cX8_gathered) (maxL := 6) (ret := (some (.object "DotBench$Spread"))) (by decide) rfl ?_
  intro p e s m args below meth c s₁ B hml hv
  obtain ⟨rfl, hsz, hP, hK, hD0, hN⟩ := hv
  have hx := B.exec
  have hb := B.bytes
  have hr := B.returns
  have hts0 := atoms_spec (ws := (wB yX8_gathered cX8_gathered 6 (some (.object "DotBench$Spread")))) B.pre
  have hts : ∀ w ∈ bigW, w.before _ s = true := fun w h => hts0 w (List.mem_cons_of_mem _ h)
  have hown : s.vm.findClass RX8 = some m.cls := findClass_of_methodNamed B.named
  have hlocks := B.notSynchronized
  subst hsz
  have hD := hD0.self (sz := s.heap.size)
  generalize hAe : va_A [(h0, .inr (8, [.ref s1, .ref s2, .ref s3, .ref s4, .ref s5, .ref s6, .int ds, .null, va_rf bt])), (t0, .inr (5, [.ref d0, .int w, .int h])), (d0, .inl (cI, 4096, .inl g)), (lb, .inr (0, [.int bx0, .int by0, .int bx1, .int by1]))] s.heap.size = A at hD ⊢
  have hA : ∀ q : Nat, s.heap.size ≤ q → A q := fun q h => by rw [← hAe]; exact Or.inr h
  have hS : va_S A s.heap s.heap [] := va_S.rf
  have hP : va_P D vwCl [(h0, .inr (8, [.ref s1, .ref s2, .ref s3, .ref s4, .ref s5, .ref s6, .int ds, .null, va_rf bt])), (t0, .inr (5, [.ref d0, .int w, .int h])), (d0, .inl (cI, 4096, .inl g)), (lb, .inr (0, [.int bx0, .int by0, .int bx1, .int by1]))] s.heap := hP
  have hl := lv_entry ([.ref h0, .ref t0, .ref lb, .int x, .int y, .int co]) (n := 6) (Nat.le_of_ble_eq_true rfl)
  rw [lg_entry_eq]
  generalize (lg_sl ([.ref h0, .ref t0, .ref lb, .int x, .int y, .int co]) ++ List.replicate (6 - (lg_sl ([.ref h0, .ref t0, .ref lb, .int x, .int y, .int co])).length) Slot.unset).toArray = ls at hl ⊢
  have hl : lv_has ls 6 [(0, .ref h0), (1, .ref t0), (2, .ref lb), (3, .int x), (4, .int y), (5, .int co)] := hl
  clear hts0 hD0 hAe
  refine my_abs (fun R Q hR hQ => ?_)
  refine lv_aload_n hx hb dX8_gathered_0 rfl (lv_at hl 0 rfl) ?_
  refine va_get (D := D) (ci := 8) (v := .null) (C := RX8) (T := TX8) (N := 9) hx hb hts hi_X8 hown hK hP 0 rfl rfl 7 (by decide) (hts _ bw_242) (fun _ h9 => h9) rfl dX8_gathered_1 ?_
  refine lv_ifnonnullN hx hb dX8_gathered_4 ?_
  refine lv_aload_n hx hb dX8_gathered_7 rfl (lv_at hl 0 rfl) ?_
  refine va_new (ci := 6) (fs := [.null, .null, .int 0]) (C := RX6) (T := TX6) (N := 3) hx hb hts hi_X6 tyX6 tyX6_ok hown (hts _ bw_380) (hts _ bw_169) (hts _ bw_168) hK hP hD hS hA rfl z_X6 (by rw [hR]; exact Nat.le_of_ble_eq_true rfl) (by rw [hR]; exact Nat.le_of_ble_eq_true rfl) dX8_gathered_8 (fun q_1 H hP hD hS => ?_)
  have hP : va_P D vwCl [(h0, .inr (8, [.ref s1, .ref s2, .ref s3, .ref s4, .ref s5, .ref s6, .int ds, .null, va_rf bt])), (t0, .inr (5, [.ref d0, .int w, .int h])), (d0, .inl (cI, 4096, .inl g)), (lb, .inr (0, [.int bx0, .int by0, .int bx1, .int by1])), (q_1, .inr (6, [.null, .null, .int 0]))] H := hP
  have hD : va_D A [(h0, .inr (8, [.ref s1, .ref s2, .ref s3, .ref s4, .ref s5, .ref s6, .int ds, .null, va_rf bt])), (t0, .inr (5, [.ref d0, .int w, .int h])), (d0, .inl (cI, 4096, .inl g)), (lb, .inr (0, [.int bx0, .int by0, .int bx1, .int by1])), (q_1, .inr (6, [.null, .null, .int 0]))] := hD
  refine W.widen (k := 1) (n := 3) (by omega) (by omega) ?_
  refine lv_dup hx hb dX8_gathered_11 rfl ?_
  have hPc := hP.sub (ws' := [(q_1, .inr (6, [.null, .null, .int 0]))]) [4] rfl
  have hDc := hD.sub (ws' := [(q_1, .inr (6, [.null, .null, .int 0]))]) [4] (by decide) rfl
  have hKc := hK.sub (tys' := [(cI, .int)]) [0] rfl
  have hFc := va_free (wc := [(q_1, .inr (6, [.null, .null, .int 0]))]) hD hS hA [4] rfl
  refine va_callv (va_runIN (host := RX8) (As := []) (rest := [.ref q_1, .ref h0]) ⟨hx, hb, hml, hown, hts⟩ (k_X6_init l D H.size q_1 cI) ⟨va_cnB 0 hts (gI bw_170) rfl rfl rfl (hN.2.1 (RX8, 225, yX6_init, RX8) (by decide +kernel)) (hts _ bw_168) (by decide +kernel) ⟨(by rw [hR]; exact Nat.le_of_ble_eq_true rfl), (by rw [hR]; exact Nat.le_of_ble_eq_true rfl)⟩, rfl, (hts _ bw_171)⟩ ⟨cP_blind, cP_at hPc hKc hDc hN⟩ rfl rfl hl.1 rfl (lv_room (Nat.le_of_ble_eq_true rfl)) dX8_gathered_12 ⟨(by rw [hR]; exact Nat.le_of_ble_eq_true rfl), (by rw [hR]; exact Nat.le_of_ble_eq_true rfl)⟩) hS (fun q _ h => hFc q h) hFc (fun u9 t9 H1 locs ht hvm hr_2 hB hz1 hk1 hS => ?_)
  try dsimp only at hr_2
  obtain ⟨q_3, q_4, hP1, hK1, hD1⟩ := hB
  rw [ht] at hP1
  obtain ⟨hP, hD⟩ := va_join (wr := [(h0, .inr (8, [.ref s1, .ref s2, .ref s3, .ref s4, .ref s5, .ref s6, .int ds, .null, va_rf bt])), (t0, .inr (5, [.ref d0, .int w, .int h])), (d0, .inl (cI, 4096, .inl g)), (lb, .inr (0, [.int bx0, .int by0, .int bx1, .int by1]))]) (w1 := [(q_1, .inr (6, [.ref q_3, .ref q_4, .int 0])), (q_3, .inl (cI, 4096, .inl (fun _ => 0))), (q_4, .inl (cI, 4096, .inl (fun _ => 0)))]) hP hD [4] [0, 1, 2, 3] rfl rfl (by decide) (by decide) hk1 hFc hP1 hD1
  clear hz1 hk1 hFc hKc hDc hPc
  generalize H1 = H at hP hS ⊢
  have hP : va_P D vwCl [(h0, .inr (8, [.ref s1, .ref s2, .ref s3, .ref s4, .ref s5, .ref s6, .int ds, .null, va_rf bt])), (t0, .inr (5, [.ref d0, .int w, .int h])), (d0, .inl (cI, 4096, .inl g)), (lb, .inr (0, [.int bx0, .int by0, .int bx1, .int by1])), (q_1, .inr (6, [.ref q_3, .ref q_4, .int 0])), (q_3, .inl (cI, 4096, .inl (fun _ => 0))), (q_4, .inl (cI, 4096, .inl (fun _ => 0)))] H := hP
  have hD : va_D A [(h0, .inr (8, [.ref s1, .ref s2, .ref s3, .ref s4, .ref s5, .ref s6, .int ds, .null, va_rf bt])), (t0, .inr (5, [.ref d0, .int w, .int h])), (d0, .inl (cI, 4096, .inl g)), (lb, .inr (0, [.int bx0, .int by0, .int bx1, .int by1])), (q_1, .inr (6, [.ref q_3, .ref q_4, .int 0])), (q_3, .inl (cI, 4096, .inl (fun _ => 0))), (q_4, .inl (cI, 4096, .inl (fun _ => 0)))] := hD
  refine W.widen (k := 3) (n := 8195) (by omega) (by omega) ?_
  refine va_put (D := D) (ci := 8) (v := .ref q_1) (ty := (.object "DotBench$Spread")) (C := RX8) (T := TX8) (N := 9) hx hb hts hi_X8 tyX8 tyX8_ok nmX8 hown hK hP hD hS 0 rfl rfl 7 (by decide) (hts _ bw_242) (fun _ h9 => h9) rfl (by decide +kernel) rfl rfl (Nat.le_of_ble_eq_true rfl) dX8_gathered_15 (fun H locs hP hD hS => ?_)
  have hP : va_P D vwCl [(h0, .inr (8, [.ref s1, .ref s2, .ref s3, .ref s4, .ref s5, .ref s6, .int ds, .ref q_1, va_rf bt])), (t0, .inr (5, [.ref d0, .int w, .int h])), (d0, .inl (cI, 4096, .inl g)), (lb, .inr (0, [.int bx0, .int by0, .int bx1, .int by1])), (q_1, .inr (6, [.ref q_3, .ref q_4, .int 0])), (q_3, .inl (cI, 4096, .inl (fun _ => 0))), (q_4, .inl (cI, 4096, .inl (fun _ => 0)))] H := hP
  have hD : va_D A [(h0, .inr (8, [.ref s1, .ref s2, .ref s3, .ref s4, .ref s5, .ref s6, .int ds, .ref q_1, va_rf bt])), (t0, .inr (5, [.ref d0, .int w, .int h])), (d0, .inl (cI, 4096, .inl g)), (lb, .inr (0, [.int bx0, .int by0, .int bx1, .int by1])), (q_1, .inr (6, [.ref q_3, .ref q_4, .int 0])), (q_3, .inl (cI, 4096, .inl (fun _ => 0))), (q_4, .inl (cI, 4096, .inl (fun _ => 0)))] := hD
  refine lv_aload_n hx hb dX8_gathered_18 rfl (lv_at hl 0 rfl) ?_
  refine va_get (D := D) (ci := 8) (v := .ref q_1) (C := RX8) (T := TX8) (N := 9) hx hb hts hi_X8 hown hK hP 0 rfl rfl 7 (by decide) (hts _ bw_242) (fun _ h9 => h9) rfl dX8_gathered_19 ?_
  refine lv_aload_n hx hb dX8_gathered_22 rfl (lv_at hl 1 rfl) ?_
  refine lv_aload_n hx hb dX8_gathered_23 rfl (lv_at hl 2 rfl) ?_
  refine lv_iload_n hx hb dX8_gathered_24 rfl (lv_at hl 3 rfl) ?_
  refine lv_iload hx hb dX8_gathered_25 (lv_at hl 4 rfl) ?_
  refine lv_iload hx hb dX8_gathered_27 (lv_at hl 5 rfl) ?_
  have hPc := hP.sub (ws' := [(q_1, .inr (6, [.ref q_3, .ref q_4, .int 0])), (q_3, .inl (cI, 4096, .inl (fun _ => 0))), (q_4, .inl (cI, 4096, .inl (fun _ => 0))), (t0, .inr (5, [.ref d0, .int w, .int h])), (d0, .inl (cI, 4096, .inl g)), (lb, .inr (0, [.int bx0, .int by0, .int bx1, .int by1]))]) [4, 5, 6, 1, 2, 3] rfl
  have hDc := hD.sub (ws' := [(q_1, .inr (6, [.ref q_3, .ref q_4, .int 0])), (q_3, .inl (cI, 4096, .inl (fun _ => 0))), (q_4, .inl (cI, 4096, .inl (fun _ => 0))), (t0, .inr (5, [.ref d0, .int w, .int h])), (d0, .inl (cI, 4096, .inl g)), (lb, .inr (0, [.int bx0, .int by0, .int bx1, .int by1]))]) [4, 5, 6, 1, 2, 3] (by decide) rfl
  have hKc := hK.sub (tys' := [(cI, .int)]) [0] rfl
  have hFc := va_free (wc := [(q_1, .inr (6, [.ref q_3, .ref q_4, .int 0])), (q_3, .inl (cI, 4096, .inl (fun _ => 0))), (q_4, .inl (cI, 4096, .inl (fun _ => 0))), (t0, .inr (5, [.ref d0, .int w, .int h])), (d0, .inl (cI, 4096, .inl g)), (lb, .inr (0, [.int bx0, .int by0, .int bx1, .int by1]))]) hD hS hA [4, 5, 6, 1, 2, 3] rfl
  refine va_callv (va_runV (As := [.ref t0, .ref lb, .int x, .int y, .int co]) (rest := []) ⟨hx, hb, hml, hown, hts⟩ (k_X6_gather_e l D H.size q_1 q_3 q_4 t0 d0 lb 0 (fun _ => 0) (fun _ => 0) w h g bx0 by0 bx1 by1 x y co cI (by first | assumption | omega | decide) (by first | assumption | omega | decide) (by first | assumption | omega | decide)) (cwV 5 hts (gV bw_381 bw_177 bw_178 bw_168 bw_176) rfl rfl rfl (by decide +kernel) ⟨(by rw [hR]; exact Nat.le_of_ble_eq_true rfl), (by rw [hR]; exact Nat.le_of_ble_eq_true rfl)⟩) ⟨cP_blind, va_recv hKc hPc (ci := 6) (q0 := 0) rfl rfl, cP_at hPc hKc hDc hN⟩ rfl rfl hl.1 rfl (lv_room (Nat.le_of_ble_eq_true rfl)) dX8_gathered_29 ⟨(by rw [hR]; exact Nat.le_of_ble_eq_true rfl), (by rw [hR]; exact Nat.le_of_ble_eq_true rfl)⟩) hS (fun q _ h => hFc q h) hFc (fun u9 t9 H1 locs ht hvm hr_5 hB hz1 hk1 hS => ?_)
  try dsimp only at hr_5
  obtain ⟨g_6, g_7, b_8, b_9, b_10, hP1, hK1, hD1⟩ := hB
  rw [ht] at hP1
  obtain ⟨hP, hD⟩ := va_join (wr := [(h0, .inr (8, [.ref s1, .ref s2, .ref s3, .ref s4, .ref s5, .ref s6, .int ds, .ref q_1, va_rf bt]))]) (w1 := [(q_1, .inr (6, [.ref q_3, .ref q_4, .int (nI (spS (opnC w h bx0 by0 bx1 by1) g x y co).2.2)])), (q_3, .inl (cI, 4096, .inl g_6)), (q_4, .inl (cI, 4096, .inl g_7)), (t0, .inr (5, [.ref d0, .int w, .int h])), (d0, .inl (cI, 4096, .inl g)), (lb, .inr (0, [.int bx0, .int by0, .int bx1, .int by1]))]) hP hD [4, 5, 6, 1, 2, 3] [0] rfl rfl (by decide) (by decide) hk1 hFc hP1 hD1
  clear hz1 hk1 hFc hKc hDc hPc
  generalize H1 = H at hP hS ⊢
  have hP : va_P D vwCl [(h0, .inr (8, [.ref s1, .ref s2, .ref s3, .ref s4, .ref s5, .ref s6, .int ds, .ref q_1, va_rf bt])), (q_1, .inr (6, [.ref q_3, .ref q_4, .int (nI (spS (opnC w h bx0 by0 bx1 by1) g x y co).2.2)])), (q_3, .inl (cI, 4096, .inl g_6)), (q_4, .inl (cI, 4096, .inl g_7)), (t0, .inr (5, [.ref d0, .int w, .int h])), (d0, .inl (cI, 4096, .inl g)), (lb, .inr (0, [.int bx0, .int by0, .int bx1, .int by1]))] H := hP
  have hD : va_D A [(h0, .inr (8, [.ref s1, .ref s2, .ref s3, .ref s4, .ref s5, .ref s6, .int ds, .ref q_1, va_rf bt])), (q_1, .inr (6, [.ref q_3, .ref q_4, .int (nI (spS (opnC w h bx0 by0 bx1 by1) g x y co).2.2)])), (q_3, .inl (cI, 4096, .inl g_6)), (q_4, .inl (cI, 4096, .inl g_7)), (t0, .inr (5, [.ref d0, .int w, .int h])), (d0, .inl (cI, 4096, .inl g)), (lb, .inr (0, [.int bx0, .int by0, .int bx1, .int by1]))] := hD
  refine lv_aload_n hx hb dX8_gathered_32 rfl (lv_at hl 0 rfl) ?_
  refine va_get (D := D) (ci := 8) (v := .ref q_1) (C := RX8) (T := TX8) (N := 9) hx hb hts hi_X8 hown hK hP 0 rfl rfl 7 (by decide) (hts _ bw_242) (fun _ h9 => h9) rfl dX8_gathered_33 ?_
  have hP9 := hP.sub (ws' := [(h0, .inr (8, [.ref s1, .ref s2, .ref s3, .ref s4, .ref s5, .ref s6, .int ds, .ref q_1, va_rf bt])), (q_1, .inr (6, [.ref q_3, .ref q_4, .int (nI (spS (opnC w h bx0 by0 bx1 by1) g x y co).2.2)])), (q_3, .inl (cI, 4096, .inl g_6)), (q_4, .inl (cI, 4096, .inl g_7)), (t0, .inr (5, [.ref d0, .int w, .int h])), (d0, .inl (cI, 4096, .inl g)), (lb, .inr (0, [.int bx0, .int by0, .int bx1, .int by1]))]) [0, 1, 2, 3, 4, 5, 6] rfl
  have hD9 := hD.sub (ws' := [(h0, .inr (8, [.ref s1, .ref s2, .ref s3, .ref s4, .ref s5, .ref s6, .int ds, .ref q_1, va_rf bt])), (q_1, .inr (6, [.ref q_3, .ref q_4, .int (nI (spS (opnC w h bx0 by0 bx1 by1) g x y co).2.2)])), (q_3, .inl (cI, 4096, .inl g_6)), (q_4, .inl (cI, 4096, .inl g_7)), (t0, .inr (5, [.ref d0, .int w, .int h])), (d0, .inl (cI, 4096, .inl g)), (lb, .inr (0, [.int bx0, .int by0, .int bx1, .int by1]))]) [0, 1, 2, 3, 4, 5, 6] (by decide) rfl
  have hK9 := hK.sub (tys' := [(cI, .int)]) [0] rfl
  refine hQ _ _ _ _ _ ?_
  exact W.aret hx hb hr (Or.inl ⟨_, rfl⟩) (Or.inr ⟨_, rfl⟩) (fun t ht hW => ⟨⟨(some q_1), q_1, rfl, rfl, ⟨q_3, q_4, g_6, g_7, b_8, b_9, b_10, by rw [ht]; exact hP9, va_K.moved hW.alike hK9, hD9⟩⟩, hS.F ht⟩) hS.2.2 dX8_gathered_36

set_option maxHeartbeats 4000000 in
set_option maxRecDepth 100000 in
theorem k_X8_flood_y1e (l : Launch) (D : va_G) (sz : Nat) (h0 s1 s2 s3 s4 s5 s6 : Nat) (ds : Int32) (bt : Option Nat) (f : Nat → Option Nat) (bx : Nat) (ik wy op : Int32) (bx0 by0 bx1 by1 : Int32) (t0 d0 : Nat) (w h : Int32) (g : Nat → Int32) (sq v1 v2 : Nat) (zs : Int32) (ga : Nat → Int32) (gb : Nat → Int32) (k x y co : Int32) (cO : ClassId) (cI : ClassId) (hk : 0 ≤ k.toInt ∧ k.toInt ≤ 3) (hf : f k.toNatClampNeg = some t0) (hw : w.toInt ≤ 64) (hh : h.toInt ≤ 64) (hon : 0 ≤ x.toInt ∧ x.toInt < w.toInt ∧ 0 ≤ y.toInt ∧ y.toInt < h.toInt) (hwy : 0 ≤ wy.toInt ∧ wy.toInt ≤ 12) : Met l yX8_flood (wB yX8_flood cX8_flood 9 (some .int)) ({ frames := 5, cells := 0, slots := 0, locals := 125 }) (cP D [(h0, .inr (8, [.ref s1, .ref s2, .ref s3, .ref s4, .ref s5, .ref s6, .int ds, .ref sq, va_rf bt])), (s1, .inl (cO, 4, .inr (.inr (.inr (.inr f))))), (s2, .inr (1, [.ref bx, .int ik, .int wy, .int op])), (bx, .inr (0, [.int bx0, .int by0, .int bx1, .int by1])), (t0, .inr (5, [.ref d0, .int w, .int h])), (d0, .inl (cI, 4096, .inl g)), (sq, .inr (6, [.ref v1, .ref v2, .int zs])), (v1, .inl (cI, 4096, .inl ga)), (v2, .inl (cI, 4096, .inl gb))] [(cO, .object "DotBench$Sheet"), (cI, .int)] sz [.ref h0, .int k, .int x, .int y, .int co]) (va_Qi (fun (r : Int32) (_ : Unit) => r = (plL (spS (opnC w h bx0 by0 bx1 by1) g x y co).2.1 ik op (spS (opnC w h bx0 by0 bx1 by1) g x y co).2.2).foldl (layT w h bx0 by0 bx1 by1) 0) (fun (_ : Unit) (t : State) => ∃ (g2 g3 : Nat → Int32), cB D (va_A [(h0, .inr (8, [.ref s1, .ref s2, .ref s3, .ref s4, .ref s5, .ref s6, .int ds, .ref sq, va_rf bt])), (s1, .inl (cO, 4, .inr (.inr (.inr (.inr f))))), (s2, .inr (1, [.ref bx, .int ik, .int wy, .int op])), (bx, .inr (0, [.int bx0, .int by0, .int bx1, .int by1])), (t0, .inr (5, [.ref d0, .int w, .int h])), (d0, .inl (cI, 4096, .inl g)), (sq, .inr (6, [.ref v1, .ref v2, .int zs])), (v1, .inl (cI, 4096, .inl ga)), (v2, .inl (cI, 4096, .inl gb))] sz) [(h0, .inr (8, [.ref s1, .ref s2, .ref s3, .ref s4, .ref s5, .ref s6, .int ds, .ref sq, va_rf bt])), (s1, .inl (cO, 4, .inr (.inr (.inr (.inr f))))), (s2, .inr (1, [.ref bx, .int ik, .int wy, .int op])), (bx, .inr (0, [.int bx0, .int by0, .int bx1, .int by1])), (t0, .inr (5, [.ref d0, .int w, .int h])), (d0, .inl (cI, 4096, .inl ((plL (spS (opnC w h bx0 by0 bx1 by1) g x y co).2.1 ik op (spS (opnC w h bx0 by0 bx1 by1) g x y co).2.2).foldl (layG w h bx0 by0 bx1 by1 wy) g))), (sq, .inr (6, [.ref v1, .ref v2, .int (nI (spS (opnC w h bx0 by0 bx1 by1) g x y co).2.2)])), (v1, .inl (cI, 4096, .inl g2)), (v2, .inl (cI, 4096, .inl g3))] [(cO, .object "DotBench$Sheet"), (cI, .int)] t) (va_A [(h0, .inr (8, [.ref s1, .ref s2, .ref s3, .ref s4, .ref s5, .ref s6, .int ds, .ref sq, va_rf bt])), (s1, .inl (cO, 4, .inr (.inr (.inr (.inr f))))), (s2, .inr (1, [.ref bx, .int ik, .int wy, .int op])), (bx, .inr (0, [.int bx0, .int by0, .int bx1, .int by1])), (t0, .inr (5, [.ref d0, .int w, .int h])), (d0, .inl (cI, 4096, .inl g)), (sq, .inr (6, [.ref v1, .ref v2, .int zs])), (v1, .inl (cI, 4096, .inl ga)), (v2, .inl (cI, 4096, .inl gb))] sz)) 0 0 (va_A [(h0, .inr (8, [.ref s1, .ref s2, .ref s3, .ref s4, .ref s5, .ref s6, .int ds, .ref sq, va_rf bt])), (s1, .inl (cO, 4, .inr (.inr (.inr (.inr f))))), (s2, .inr (1, [.ref bx, .int ik, .int wy, .int op])), (bx, .inr (0, [.int bx0, .int by0, .int bx1, .int by1])), (t0, .inr (5, [.ref d0, .int w, .int h])), (d0, .inl (cI, 4096, .inl g)), (sq, .inr (6, [.ref v1, .ref v2, .int zs])), (v1, .inl (cI, 4096, .inl ga)), (v2, .inl (cI, 4096, .inl gb))] sz) := by
  refine Met.ofW (cc := cX8_flood) (maxL := 9) (ret := (some .int)) (by decide) rfl ?_
  intro p e s m args below meth c s₁ B hml hv
  obtain ⟨rfl, hsz, hP, hK, hD0, hN⟩ := hv
  have hx := B.exec
  have hb := B.bytes
  have hr := B.returns
  have hts0 := atoms_spec (ws := (wB yX8_flood cX8_flood 9 (some .int))) B.pre
  have hts : ∀ w ∈ bigW, w.before _ s = true := fun w h => hts0 w (List.mem_cons_of_mem _ h)
  have hown : s.vm.findClass RX8 = some m.cls := findClass_of_methodNamed B.named
  have hlocks := B.notSynchronized
  subst hsz
  have hD := hD0.self (sz := s.heap.size)
  generalize hAe : va_A [(h0, .inr (8, [.ref s1, .ref s2, .ref s3, .ref s4, .ref s5, .ref s6, .int ds, .ref sq, va_rf bt])), (s1, .inl (cO, 4, .inr (.inr (.inr (.inr f))))), (s2, .inr (1, [.ref bx, .int ik, .int wy, .int op])), (bx, .inr (0, [.int bx0, .int by0, .int bx1, .int by1])), (t0, .inr (5, [.ref d0, .int w, .int h])), (d0, .inl (cI, 4096, .inl g)), (sq, .inr (6, [.ref v1, .ref v2, .int zs])), (v1, .inl (cI, 4096, .inl ga)), (v2, .inl (cI, 4096, .inl gb))] s.heap.size = A at hD ⊢
  have hA : ∀ q : Nat, s.heap.size ≤ q → A q := fun q h => by rw [← hAe]; exact Or.inr h
  have hS : va_S A s.heap s.heap [] := va_S.rf
  have hP : va_P D vwCl [(h0, .inr (8, [.ref s1, .ref s2, .ref s3, .ref s4, .ref s5, .ref s6, .int ds, .ref sq, va_rf bt])), (s1, .inl (cO, 4, .inr (.inr (.inr (.inr f))))), (s2, .inr (1, [.ref bx, .int ik, .int wy, .int op])), (bx, .inr (0, [.int bx0, .int by0, .int bx1, .int by1])), (t0, .inr (5, [.ref d0, .int w, .int h])), (d0, .inl (cI, 4096, .inl g)), (sq, .inr (6, [.ref v1, .ref v2, .int zs])), (v1, .inl (cI, 4096, .inl ga)), (v2, .inl (cI, 4096, .inl gb))] s.heap := hP
  have hl := lv_entry ([.ref h0, .int k, .int x, .int y, .int co]) (n := 9) (Nat.le_of_ble_eq_true rfl)
  rw [lg_entry_eq]
  generalize (lg_sl ([.ref h0, .int k, .int x, .int y, .int co]) ++ List.replicate (9 - (lg_sl ([.ref h0, .int k, .int x, .int y, .int co])).length) Slot.unset).toArray = ls at hl ⊢
  have hl : lv_has ls 9 [(0, .ref h0), (1, .int k), (2, .int x), (3, .int y), (4, .int co)] := hl
  clear hts0 hD0 hAe
  refine my_abs (fun R Q hR hQ => ?_)
  refine lv_aload_n hx hb dX8_flood_0 rfl (lv_at hl 0 rfl) ?_
  refine lv_iload_n hx hb dX8_flood_1 rfl (lv_at hl 1 rfl) ?_
  have hPc := hP.sub (ws' := [(h0, .inr (8, [.ref s1, .ref s2, .ref s3, .ref s4, .ref s5, .ref s6, .int ds, .ref sq, va_rf bt])), (s1, .inl (cO, 4, .inr (.inr (.inr (.inr f)))))]) [0, 1] rfl
  have hDc := hD.sub (ws' := [(h0, .inr (8, [.ref s1, .ref s2, .ref s3, .ref s4, .ref s5, .ref s6, .int ds, .ref sq, va_rf bt])), (s1, .inl (cO, 4, .inr (.inr (.inr (.inr f)))))]) [0, 1] (by decide) rfl
  have hKc := hK.sub (tys' := [(cO, .object "DotBench$Sheet")]) [0] rfl
  have hFc := va_free (wc := [(h0, .inr (8, [.ref s1, .ref s2, .ref s3, .ref s4, .ref s5, .ref s6, .int ds, .ref sq, va_rf bt])), (s1, .inl (cO, 4, .inr (.inr (.inr (.inr f)))))]) hD hS hA [0, 1] rfl
  refine va_callq (va_runV (As := [.int k]) (rest := []) ⟨hx, hb, hml, hown, hts⟩ (k_X8_sheetAt_y l D s.heap.size h0 s1 s2 s3 s4 s5 s6 ds (some sq) bt f k t0 cO (by first | assumption | omega | decide) (by first | assumption | omega | decide)) (cwV 1 hts (gV bw_267 bw_346 bw_347 bw_223 bw_345) rfl rfl rfl (by decide +kernel) ⟨(by rw [hR]; exact Nat.le_of_ble_eq_true rfl), (by rw [hR]; exact Nat.le_of_ble_eq_true rfl)⟩) ⟨cP_blind, va_recv hKc hPc (ci := 8) (q0 := 0) rfl rfl, cP_at hPc hKc hDc hN⟩ rfl rfl hl.1 rfl (lv_room (Nat.le_of_ble_eq_true rfl)) dX8_flood_2 ⟨(by rw [hR]; exact Nat.le_of_ble_eq_true rfl), (by rw [hR]; exact Nat.le_of_ble_eq_true rfl)⟩) hS (fun q _ h => hFc q h) hFc (fun r_1 u9 t9 H1 locs ht hvm hr_1 hB hz1 hk1 hS => ?_)
  try dsimp only at hr_1
  obtain ⟨hP1, hK1, hD1⟩ := hB
  rw [ht] at hP1
  obtain ⟨hP, hD⟩ := va_join (wr := [(s2, .inr (1, [.ref bx, .int ik, .int wy, .int op])), (bx, .inr (0, [.int bx0, .int by0, .int bx1, .int by1])), (t0, .inr (5, [.ref d0, .int w, .int h])), (d0, .inl (cI, 4096, .inl g)), (sq, .inr (6, [.ref v1, .ref v2, .int zs])), (v1, .inl (cI, 4096, .inl ga)), (v2, .inl (cI, 4096, .inl gb))]) (w1 := [(h0, .inr (8, [.ref s1, .ref s2, .ref s3, .ref s4, .ref s5, .ref s6, .int ds, .ref sq, va_rf bt])), (s1, .inl (cO, 4, .inr (.inr (.inr (.inr f)))))]) hP hD [0, 1] [2, 3, 4, 5, 6, 7, 8] rfl rfl (by decide) (by decide) hk1 hFc hP1 hD1
  clear hz1 hk1 hFc hKc hDc hPc
  generalize H1 = H at hP hS ⊢
  have hP : va_P D vwCl [(s2, .inr (1, [.ref bx, .int ik, .int wy, .int op])), (bx, .inr (0, [.int bx0, .int by0, .int bx1, .int by1])), (t0, .inr (5, [.ref d0, .int w, .int h])), (d0, .inl (cI, 4096, .inl g)), (sq, .inr (6, [.ref v1, .ref v2, .int zs])), (v1, .inl (cI, 4096, .inl ga)), (v2, .inl (cI, 4096, .inl gb)), (h0, .inr (8, [.ref s1, .ref s2, .ref s3, .ref s4, .ref s5, .ref s6, .int ds, .ref sq, va_rf bt])), (s1, .inl (cO, 4, .inr (.inr (.inr (.inr f)))))] H := hP
  have hD : va_D A [(s2, .inr (1, [.ref bx, .int ik, .int wy, .int op])), (bx, .inr (0, [.int bx0, .int by0, .int bx1, .int by1])), (t0, .inr (5, [.ref d0, .int w, .int h])), (d0, .inl (cI, 4096, .inl g)), (sq, .inr (6, [.ref v1, .ref v2, .int zs])), (v1, .inl (cI, 4096, .inl ga)), (v2, .inl (cI, 4096, .inl gb)), (h0, .inr (8, [.ref s1, .ref s2, .ref s3, .ref s4, .ref s5, .ref s6, .int ds, .ref sq, va_rf bt])), (s1, .inl (cO, 4, .inr (.inr (.inr (.inr f)))))] := hD
  subst hr_1
  refine my_topv (v := .ref t0) rfl ?_
  refine lv_astore (lv' := [(5, .ref t0), (0, .ref h0), (1, .int k), (2, .int x), (3, .int y), (4, .int co)]) hx hb dX8_flood_5 hl (by decide) rfl (fun ls hl => ?_)
  refine lv_aload hx hb dX8_flood_7 (lv_at hl 0 rfl) ?_
  refine lv_ifnull hx hb dX8_flood_9 ?_
  refine lv_aload hx hb dX8_flood_12 (lv_at hl 0 rfl) ?_
  refine lv_iload_n hx hb dX8_flood_14 rfl (lv_at hl 3 rfl) ?_
  refine lv_iload_n hx hb dX8_flood_15 rfl (lv_at hl 4 rfl) ?_
  have hPc := hP.sub (ws' := [(t0, .inr (5, [.ref d0, .int w, .int h]))]) [2] rfl
  have hDc := hD.sub (ws' := [(t0, .inr (5, [.ref d0, .int w, .int h]))]) [2] (by decide) rfl
  have hKc := hK.sub (tys' := []) [] rfl
  have hFc := va_free (wc := [(t0, .inr (5, [.ref d0, .int w, .int h]))]) hD hS hA [2] rfl
  refine va_calli (va_runV (As := [.int x, .int y]) (rest := []) ⟨hx, hb, hml, hown, hts⟩ (k_X5_has l D H.size t0 d0 w h x y) (cwV 2 hts (gV bw_309 bw_150 bw_151 bw_130 bw_149) rfl rfl rfl (by decide +kernel) ⟨(by rw [hR]; exact Nat.le_of_ble_eq_true rfl), (by rw [hR]; exact Nat.le_of_ble_eq_true rfl)⟩) ⟨cP_blind, va_recv hKc hPc (ci := 5) (q0 := 0) rfl rfl, cP_at hPc hKc hDc hN⟩ rfl rfl hl.1 rfl (lv_room (Nat.le_of_ble_eq_true rfl)) dX8_flood_16 ⟨(by rw [hR]; exact Nat.le_of_ble_eq_true rfl), (by rw [hR]; exact Nat.le_of_ble_eq_true rfl)⟩) hS (fun q _ h => hFc q h) hFc (fun r_2 u9 t9 H1 locs ht hvm hr_2 hB hz1 hk1 hS => ?_)
  try dsimp only at hr_2
  obtain ⟨hP1, hK1, hD1⟩ := hB
  rw [ht] at hP1
  obtain ⟨hP, hD⟩ := va_join (wr := [(s2, .inr (1, [.ref bx, .int ik, .int wy, .int op])), (bx, .inr (0, [.int bx0, .int by0, .int bx1, .int by1])), (d0, .inl (cI, 4096, .inl g)), (sq, .inr (6, [.ref v1, .ref v2, .int zs])), (v1, .inl (cI, 4096, .inl ga)), (v2, .inl (cI, 4096, .inl gb)), (h0, .inr (8, [.ref s1, .ref s2, .ref s3, .ref s4, .ref s5, .ref s6, .int ds, .ref sq, va_rf bt])), (s1, .inl (cO, 4, .inr (.inr (.inr (.inr f)))))]) (w1 := [(t0, .inr (5, [.ref d0, .int w, .int h]))]) hP hD [2] [0, 1, 3, 4, 5, 6, 7, 8] rfl rfl (by decide) (by decide) hk1 hFc hP1 hD1
  clear hz1 hk1 hFc hKc hDc hPc
  generalize H1 = H at hP hS ⊢
  have hP : va_P D vwCl [(s2, .inr (1, [.ref bx, .int ik, .int wy, .int op])), (bx, .inr (0, [.int bx0, .int by0, .int bx1, .int by1])), (d0, .inl (cI, 4096, .inl g)), (sq, .inr (6, [.ref v1, .ref v2, .int zs])), (v1, .inl (cI, 4096, .inl ga)), (v2, .inl (cI, 4096, .inl gb)), (h0, .inr (8, [.ref s1, .ref s2, .ref s3, .ref s4, .ref s5, .ref s6, .int ds, .ref sq, va_rf bt])), (s1, .inl (cO, 4, .inr (.inr (.inr (.inr f))))), (t0, .inr (5, [.ref d0, .int w, .int h]))] H := hP
  have hD : va_D A [(s2, .inr (1, [.ref bx, .int ik, .int wy, .int op])), (bx, .inr (0, [.int bx0, .int by0, .int bx1, .int by1])), (d0, .inl (cI, 4096, .inl g)), (sq, .inr (6, [.ref v1, .ref v2, .int zs])), (v1, .inl (cI, 4096, .inl ga)), (v2, .inl (cI, 4096, .inl gb)), (h0, .inr (8, [.ref s1, .ref s2, .ref s3, .ref s4, .ref s5, .ref s6, .int ds, .ref sq, va_rf bt])), (s1, .inl (cO, 4, .inr (.inr (.inr (.inr f))))), (t0, .inr (5, [.ref d0, .int w, .int h]))] := hD
  refine lv_if_ne (tgt := 24) hx hb dX8_flood_19 (by decide) (fun c_3 => ?_) (fun c_3 => ?_)
  · skip
    have f_4 := bz1 hr_2 c_3
    refine lv_aload_n hx hb dX8_flood_24 rfl (lv_at hl 1 rfl) ?_
    refine lv_aload hx hb dX8_flood_25 (lv_at hl 0 rfl) ?_
    refine lv_aload_n hx hb dX8_flood_27 rfl (lv_at hl 1 rfl) ?_
    refine va_get (D := D) (ci := 8) (v := .ref s2) (C := RX8) (T := TX8) (N := 9) hx hb hts hi_X8 hown hK hP 6 rfl rfl 1 (by decide) (hts _ bw_231) (fun _ h9 => h9) rfl dX8_flood_28 ?_
    refine va_getN (host := RX8) (D := D) (ci := 1) (v := .ref bx) (C := RX1) (T := TX1) (N := 4) hx hb hts hi_X1 hown hK hP 0 rfl rfl 0 (by decide) ((hN.1 (RX8, 89, "DotBench$Brush", "clip", "LDotBench$Box;", RX8) (by decide +kernel)).use rfl) (fun _ h9 => h9) rfl dX8_flood_31 ?_
    refine lv_iload_n hx hb dX8_flood_34 rfl (lv_at hl 3 rfl) ?_
    refine lv_iload_n hx hb dX8_flood_35 rfl (lv_at hl 4 rfl) ?_
    refine lv_iload hx hb dX8_flood_36 (lv_at hl 5 rfl) ?_
    have hPc := hP.sub (ws' := [(h0, .inr (8, [.ref s1, .ref s2, .ref s3, .ref s4, .ref s5, .ref s6, .int ds, .ref sq, va_rf bt])), (sq, .inr (6, [.ref v1, .ref v2, .int zs])), (v1, .inl (cI, 4096, .inl ga)), (v2, .inl (cI, 4096, .inl gb)), (t0, .inr (5, [.ref d0, .int w, .int h])), (d0, .inl (cI, 4096, .inl g)), (bx, .inr (0, [.int bx0, .int by0, .int bx1, .int by1]))]) [6, 3, 4, 5, 8, 2, 1] rfl
    have hDc := hD.sub (ws' := [(h0, .inr (8, [.ref s1, .ref s2, .ref s3, .ref s4, .ref s5, .ref s6, .int ds, .ref sq, va_rf bt])), (sq, .inr (6, [.ref v1, .ref v2, .int zs])), (v1, .inl (cI, 4096, .inl ga)), (v2, .inl (cI, 4096, .inl gb)), (t0, .inr (5, [.ref d0, .int w, .int h])), (d0, .inl (cI, 4096, .inl g)), (bx, .inr (0, [.int bx0, .int by0, .int bx1, .int by1]))]) [6, 3, 4, 5, 8, 2, 1] (by decide) rfl
    have hKc := hK.sub (tys' := [(cI, .int)]) [1] rfl
    have hFc := va_free (wc := [(h0, .inr (8, [.ref s1, .ref s2, .ref s3, .ref s4, .ref s5, .ref s6, .int ds, .ref sq, va_rf bt])), (sq, .inr (6, [.ref v1, .ref v2, .int zs])), (v1, .inl (cI, 4096, .inl ga)), (v2, .inl (cI, 4096, .inl gb)), (t0, .inr (5, [.ref d0, .int w, .int h])), (d0, .inl (cI, 4096, .inl g)), (bx, .inr (0, [.int bx0, .int by0, .int bx1, .int by1]))]) hD hS hA [6, 3, 4, 5, 8, 2, 1] rfl
    refine va_callq (va_runV (As := [.ref t0, .ref bx, .int x, .int y, .int co]) (rest := []) ⟨hx, hb, hml, hown, hts⟩ (k_X8_gathered_1e l D H.size h0 s1 s2 s3 s4 s5 s6 ds bt sq v1 v2 zs ga gb t0 d0 bx w h g bx0 by0 bx1 by1 x y co cI (by first | assumption | omega | decide) (by first | assumption | omega | decide) (by first | assumption | omega | decide)) (cwV 5 hts (gV bw_310 bw_378 bw_379 bw_223 bw_377) rfl rfl rfl (by decide +kernel) ⟨(by rw [hR]; exact Nat.le_of_ble_eq_true rfl), (by rw [hR]; exact Nat.le_of_ble_eq_true rfl)⟩) ⟨cP_blind, va_recv hKc hPc (ci := 8) (q0 := 0) rfl rfl, cP_at hPc hKc hDc hN⟩ rfl rfl hl.1 rfl (lv_room (Nat.le_of_ble_eq_true rfl)) dX8_flood_38 ⟨(by rw [hR]; exact Nat.le_of_ble_eq_true rfl), (by rw [hR]; exact Nat.le_of_ble_eq_true rfl)⟩) hS (fun q _ h => hFc q h) hFc (fun r_5 u9 t9 H1 locs ht hvm hr_5 hB hz1 hk1 hS => ?_)
    try dsimp only at hr_5
    obtain ⟨g_6, g_7, b_8, b_9, b_10, hP1, hK1, hD1⟩ := hB
    rw [ht] at hP1
    obtain ⟨hP, hD⟩ := va_join (wr := [(s2, .inr (1, [.ref bx, .int ik, .int wy, .int op])), (s1, .inl (cO, 4, .inr (.inr (.inr (.inr f)))))]) (w1 := [(h0, .inr (8, [.ref s1, .ref s2, .ref s3, .ref s4, .ref s5, .ref s6, .int ds, .ref sq, va_rf bt])), (sq, .inr (6, [.ref v1, .ref v2, .int (nI (spS (opnC w h bx0 by0 bx1 by1) g x y co).2.2)])), (v1, .inl (cI, 4096, .inl g_6)), (v2, .inl (cI, 4096, .inl g_7)), (t0, .inr (5, [.ref d0, .int w, .int h])), (d0, .inl (cI, 4096, .inl g)), (bx, .inr (0, [.int bx0, .int by0, .int bx1, .int by1]))]) hP hD [6, 3, 4, 5, 8, 2, 1] [0, 7] rfl rfl (by decide) (by decide) hk1 hFc hP1 hD1
    clear hz1 hk1 hFc hKc hDc hPc
    generalize H1 = H at hP hS ⊢
    have hP : va_P D vwCl [(s2, .inr (1, [.ref bx, .int ik, .int wy, .int op])), (s1, .inl (cO, 4, .inr (.inr (.inr (.inr f))))), (h0, .inr (8, [.ref s1, .ref s2, .ref s3, .ref s4, .ref s5, .ref s6, .int ds, .ref sq, va_rf bt])), (sq, .inr (6, [.ref v1, .ref v2, .int (nI (spS (opnC w h bx0 by0 bx1 by1) g x y co).2.2)])), (v1, .inl (cI, 4096, .inl g_6)), (v2, .inl (cI, 4096, .inl g_7)), (t0, .inr (5, [.ref d0, .int w, .int h])), (d0, .inl (cI, 4096, .inl g)), (bx, .inr (0, [.int bx0, .int by0, .int bx1, .int by1]))] H := hP
    have hD : va_D A [(s2, .inr (1, [.ref bx, .int ik, .int wy, .int op])), (s1, .inl (cO, 4, .inr (.inr (.inr (.inr f))))), (h0, .inr (8, [.ref s1, .ref s2, .ref s3, .ref s4, .ref s5, .ref s6, .int ds, .ref sq, va_rf bt])), (sq, .inr (6, [.ref v1, .ref v2, .int (nI (spS (opnC w h bx0 by0 bx1 by1) g x y co).2.2)])), (v1, .inl (cI, 4096, .inl g_6)), (v2, .inl (cI, 4096, .inl g_7)), (t0, .inr (5, [.ref d0, .int w, .int h])), (d0, .inl (cI, 4096, .inl g)), (bx, .inr (0, [.int bx0, .int by0, .int bx1, .int by1]))] := hD
    obtain ⟨S9, eS9⟩ : ∃ q, q = (spS (opnC w h bx0 by0 bx1 by1) g x y co).2.2 := ⟨_, rfl⟩
    have hS9 : S9 ≤ 4096 := by rw [eS9]; exact b_10
    have hS9t : (nI (spS (opnC w h bx0 by0 bx1 by1) g x y co).2.2).toInt = (S9 : Int) := by rw [← eS9]; exact nI_toInt (by omega)
    subst hr_5
    refine my_topv (v := .ref sq) rfl ?_
    refine lv_astore (lv' := [(6, .ref sq), (5, .ref t0), (0, .ref h0), (1, .int k), (2, .int x), (3, .int y), (4, .int co)]) hx hb dX8_flood_41 hl (by decide) rfl (fun ls hl => ?_)
    refine lv_iconst (v := 0) hx hb dX8_flood_43 (by decide) ?_
    refine lv_istore (lv' := [(7, .int 0), (6, .ref sq), (5, .ref t0), (0, .ref h0), (1, .int k), (2, .int x), (3, .int y), (4, .int co)]) hx hb dX8_flood_44 hl (by decide) rfl (fun ls hl => ?_)
    refine lv_iconst (v := 0) hx hb dX8_flood_46 (by decide) ?_
    refine lv_istore (lv' := [(8, .int 0), (7, .int 0), (6, .ref sq), (5, .ref t0), (0, .ref h0), (1, .int k), (2, .int x), (3, .int y), (4, .int co)]) hx hb dX8_flood_47 hl (by decide) rfl (fun ls hl => ?_)
    have loop_11 : ∀ (n : Nat) (j : Nat) (x8 : Int32) (x7 : Int32) (gd : Nat → Int32) (H : Heap) (locs : List Loc) (ls : Array Slot), (j ≤ 4096) → (4096 + 1 ≤ j + n) → (x8 = nI j) → (j ≤ S9) → (gd = (plL (spS (opnC w h bx0 by0 bx1 by1) g x y co).2.1 ik op j).foldl (layG w h bx0 by0 bx1 by1 wy) g) → (x7 = (plL (spS (opnC w h bx0 by0 bx1 by1) g x y co).2.1 ik op j).foldl (layT w h bx0 by0 bx1 by1) 0) → va_P D vwCl [(s2, .inr (1, [.ref bx, .int ik, .int wy, .int op])), (s1, .inl (cO, 4, .inr (.inr (.inr (.inr f))))), (h0, .inr (8, [.ref s1, .ref s2, .ref s3, .ref s4, .ref s5, .ref s6, .int ds, .ref sq, va_rf bt])), (sq, .inr (6, [.ref v1, .ref v2, .int (nI (spS (opnC w h bx0 by0 bx1 by1) g x y co).2.2)])), (v1, .inl (cI, 4096, .inl g_6)), (v2, .inl (cI, 4096, .inl g_7)), (t0, .inr (5, [.ref d0, .int w, .int h])), (d0, .inl (cI, 4096, .inl gd)), (bx, .inr (0, [.int bx0, .int by0, .int bx1, .int by1]))] H → va_D A [(s2, .inr (1, [.ref bx, .int ik, .int wy, .int op])), (s1, .inl (cO, 4, .inr (.inr (.inr (.inr f))))), (h0, .inr (8, [.ref s1, .ref s2, .ref s3, .ref s4, .ref s5, .ref s6, .int ds, .ref sq, va_rf bt])), (sq, .inr (6, [.ref v1, .ref v2, .int (nI (spS (opnC w h bx0 by0 bx1 by1) g x y co).2.2)])), (v1, .inl (cI, 4096, .inl g_6)), (v2, .inl (cI, 4096, .inl g_7)), (t0, .inr (5, [.ref d0, .int w, .int h])), (d0, .inl (cI, 4096, .inl gd)), (bx, .inr (0, [.int bx0, .int by0, .int bx1, .int by1]))] → va_S A s.heap H locs → lv_has ls 9 [(8, .int x8), (7, .int x7), (6, .ref sq), (5, .ref t0), (0, .ref h0), (1, .int k), (2, .int x), (3, .int y), (4, .int co)] → W p l e R s m ([.ref h0, .int k, .int x, .int y, .int co] : List Value).toArray below meth c H locs 0 0 Q (F0 m 49 ls []) := by
      intro n
      induction n with
      | zero =>
        intro j x8 x7 gd H locs ls hi_j hm_j ex_j hjS hgo eto hP hD hS hl
        exact absurd (show False by omega) not_false
      | succ n ih_12 =>
        intro j x8 x7 gd H locs ls hi_j hm_j ex_j hjS hgo eto hP hD hS hl
        have hx_j : x8.toInt = (j : Int) := by rw [ex_j]; exact nI_toInt (by omega)
        have hc_j : x8.toNatClampNeg = j := by rw [ex_j]; exact nI_clamp (by omega)
        refine lv_iload hx hb dX8_flood_49 (lv_at hl 0 rfl) ?_
        refine lv_aload hx hb dX8_flood_51 (lv_at hl 2 rfl) ?_
        refine va_getN (host := RX8) (D := D) (ci := 6) (v := .int (nI (spS (opnC w h bx0 by0 bx1 by1) g x y co).2.2)) (C := RX6) (T := TX6) (N := 3) hx hb hts hi_X6 hown hK hP 3 rfl rfl 2 (by decide) ((hN.1 (RX8, 180, "DotBench$Spread", "size", "I", RX8) (by decide +kernel)).use rfl) (fun _ h9 => h9) rfl dX8_flood_53 ?_
        refine lv_icmp_ge (tgt := 107) hx hb dX8_flood_56 (by decide) (fun c_13 => ?_) (fun c_13 => ?_)
        · skip
          have f_14 : (S9 : Int) ≤ (j : Int) := f_le hS9t hx_j c_13
          refine lv_iload hx hb dX8_flood_107 (lv_at hl 1 rfl) ?_
          have hP : va_P D vwCl [(s2, .inr (1, [.ref bx, .int ik, .int wy, .int op])), (s1, .inl (cO, 4, .inr (.inr (.inr (.inr f))))), (h0, .inr (8, [.ref s1, .ref s2, .ref s3, .ref s4, .ref s5, .ref s6, .int ds, .ref sq, va_rf bt])), (sq, .inr (6, [.ref v1, .ref v2, .int (nI (spS (opnC w h bx0 by0 bx1 by1) g x y co).2.2)])), (v1, .inl (cI, 4096, .inl g_6)), (v2, .inl (cI, 4096, .inl g_7)), (t0, .inr (5, [.ref d0, .int w, .int h])), (d0, .inl (cI, 4096, .inl ((plL (spS (opnC w h bx0 by0 bx1 by1) g x y co).2.1 ik op (spS (opnC w h bx0 by0 bx1 by1) g x y co).2.2).foldl (layG w h bx0 by0 bx1 by1 wy) g))), (bx, .inr (0, [.int bx0, .int by0, .int bx1, .int by1]))] H := by rw [show (plL (spS (opnC w h bx0 by0 bx1 by1) g x y co).2.1 ik op (spS (opnC w h bx0 by0 bx1 by1) g x y co).2.2) = plL (spS (opnC w h bx0 by0 bx1 by1) g x y co).2.1 ik op j by rw [← eS9, ← show j = S9 by omega], ← hgo]; exact hP
          have hD : va_D A [(s2, .inr (1, [.ref bx, .int ik, .int wy, .int op])), (s1, .inl (cO, 4, .inr (.inr (.inr (.inr f))))), (h0, .inr (8, [.ref s1, .ref s2, .ref s3, .ref s4, .ref s5, .ref s6, .int ds, .ref sq, va_rf bt])), (sq, .inr (6, [.ref v1, .ref v2, .int (nI (spS (opnC w h bx0 by0 bx1 by1) g x y co).2.2)])), (v1, .inl (cI, 4096, .inl g_6)), (v2, .inl (cI, 4096, .inl g_7)), (t0, .inr (5, [.ref d0, .int w, .int h])), (d0, .inl (cI, 4096, .inl ((plL (spS (opnC w h bx0 by0 bx1 by1) g x y co).2.1 ik op (spS (opnC w h bx0 by0 bx1 by1) g x y co).2.2).foldl (layG w h bx0 by0 bx1 by1 wy) g))), (bx, .inr (0, [.int bx0, .int by0, .int bx1, .int by1]))] := by rw [show (plL (spS (opnC w h bx0 by0 bx1 by1) g x y co).2.1 ik op (spS (opnC w h bx0 by0 bx1 by1) g x y co).2.2) = plL (spS (opnC w h bx0 by0 bx1 by1) g x y co).2.1 ik op j by rw [← eS9, ← show j = S9 by omega], ← hgo]; exact hD
          have hP9 := hP.sub (ws' := [(h0, .inr (8, [.ref s1, .ref s2, .ref s3, .ref s4, .ref s5, .ref s6, .int ds, .ref sq, va_rf bt])), (s1, .inl (cO, 4, .inr (.inr (.inr (.inr f))))), (s2, .inr (1, [.ref bx, .int ik, .int wy, .int op])), (bx, .inr (0, [.int bx0, .int by0, .int bx1, .int by1])), (t0, .inr (5, [.ref d0, .int w, .int h])), (d0, .inl (cI, 4096, .inl ((plL (spS (opnC w h bx0 by0 bx1 by1) g x y co).2.1 ik op (spS (opnC w h bx0 by0 bx1 by1) g x y co).2.2).foldl (layG w h bx0 by0 bx1 by1 wy) g))), (sq, .inr (6, [.ref v1, .ref v2, .int (nI (spS (opnC w h bx0 by0 bx1 by1) g x y co).2.2)])), (v1, .inl (cI, 4096, .inl g_6)), (v2, .inl (cI, 4096, .inl g_7))]) [2, 1, 0, 8, 6, 7, 3, 4, 5] rfl
          have hD9 := hD.sub (ws' := [(h0, .inr (8, [.ref s1, .ref s2, .ref s3, .ref s4, .ref s5, .ref s6, .int ds, .ref sq, va_rf bt])), (s1, .inl (cO, 4, .inr (.inr (.inr (.inr f))))), (s2, .inr (1, [.ref bx, .int ik, .int wy, .int op])), (bx, .inr (0, [.int bx0, .int by0, .int bx1, .int by1])), (t0, .inr (5, [.ref d0, .int w, .int h])), (d0, .inl (cI, 4096, .inl ((plL (spS (opnC w h bx0 by0 bx1 by1) g x y co).2.1 ik op (spS (opnC w h bx0 by0 bx1 by1) g x y co).2.2).foldl (layG w h bx0 by0 bx1 by1 wy) g))), (sq, .inr (6, [.ref v1, .ref v2, .int (nI (spS (opnC w h bx0 by0 bx1 by1) g x y co).2.2)])), (v1, .inl (cI, 4096, .inl g_6)), (v2, .inl (cI, 4096, .inl g_7))]) [2, 1, 0, 8, 6, 7, 3, 4, 5] (by decide) rfl
          have hK9 := hK.sub (tys' := [(cO, .object "DotBench$Sheet"), (cI, .int)]) [0, 1] rfl
          refine hQ _ _ _ _ _ ?_
          exact W.iret (v := x7) hx hb hr (fun t ht hW => ⟨⟨x7, (), rfl, (by rw [← eS9, ← show j = S9 by omega]; exact eto), ⟨g_6, g_7, by rw [ht]; exact hP9, va_K.moved hW.alike hK9, hD9⟩⟩, hS.F ht⟩) hS.2.2 dX8_flood_109
        · skip
          have f_14 : ¬ ((S9 : Int) ≤ (j : Int)) := fn_le hS9t hx_j c_13
          refine lv_iload hx hb dX8_flood_59 (lv_at hl 1 rfl) ?_
          refine lv_aload_n hx hb dX8_flood_61 rfl (lv_at hl 4 rfl) ?_
          refine va_get (D := D) (ci := 8) (v := .ref s2) (C := RX8) (T := TX8) (N := 9) hx hb hts hi_X8 hown hK hP 2 rfl rfl 1 (by decide) (hts _ bw_231) (fun _ h9 => h9) rfl dX8_flood_62 ?_
          refine lv_aload hx hb dX8_flood_65 (lv_at hl 3 rfl) ?_
          refine lv_aload hx hb dX8_flood_67 (lv_at hl 2 rfl) ?_
          refine lv_iload hx hb dX8_flood_69 (lv_at hl 0 rfl) ?_
          have hPc := hP.sub (ws' := [(sq, .inr (6, [.ref v1, .ref v2, .int (nI (spS (opnC w h bx0 by0 bx1 by1) g x y co).2.2)])), (v1, .inl (cI, 4096, .inl g_6))]) [3, 4] rfl
          have hDc := hD.sub (ws' := [(sq, .inr (6, [.ref v1, .ref v2, .int (nI (spS (opnC w h bx0 by0 bx1 by1) g x y co).2.2)])), (v1, .inl (cI, 4096, .inl g_6))]) [3, 4] (by decide) rfl
          have hKc := hK.sub (tys' := [(cI, .int)]) [1] rfl
          have hFc := va_free (wc := [(sq, .inr (6, [.ref v1, .ref v2, .int (nI (spS (opnC w h bx0 by0 bx1 by1) g x y co).2.2)])), (v1, .inl (cI, 4096, .inl g_6))]) hD hS hA [3, 4] rfl
          refine va_calli (va_runV (As := [.int x8]) (rest := [.ref t0, .ref s2, .int x7]) ⟨hx, hb, hml, hown, hts⟩ (k_X6_xAt_e l D H.size sq v1 v2 (nI (spS (opnC w h bx0 by0 bx1 by1) g x y co).2.2) g_6 x8 cI (by first | assumption | omega | decide)) (cwV 1 hts (gV bw_311 bw_185 bw_186 bw_168 bw_184) rfl rfl rfl (by decide +kernel) ⟨(by rw [hR]; exact Nat.le_of_ble_eq_true rfl), (by rw [hR]; exact Nat.le_of_ble_eq_true rfl)⟩) ⟨cP_blind, va_recv hKc hPc (ci := 6) (q0 := 0) rfl rfl, cP_at hPc hKc hDc hN⟩ rfl rfl hl.1 rfl (lv_room (Nat.le_of_ble_eq_true rfl)) dX8_flood_71 ⟨(by rw [hR]; exact Nat.le_of_ble_eq_true rfl), (by rw [hR]; exact Nat.le_of_ble_eq_true rfl)⟩) hS (fun q _ h => hFc q h) hFc (fun r_15 u9 t9 H1 locs ht hvm hr_15 hB hz1 hk1 hS => ?_)
          try dsimp only at hr_15
          obtain ⟨hP1, hK1, hD1⟩ := hB
          rw [ht] at hP1
          obtain ⟨hP, hD⟩ := va_join (wr := [(s2, .inr (1, [.ref bx, .int ik, .int wy, .int op])), (s1, .inl (cO, 4, .inr (.inr (.inr (.inr f))))), (h0, .inr (8, [.ref s1, .ref s2, .ref s3, .ref s4, .ref s5, .ref s6, .int ds, .ref sq, va_rf bt])), (v2, .inl (cI, 4096, .inl g_7)), (t0, .inr (5, [.ref d0, .int w, .int h])), (d0, .inl (cI, 4096, .inl gd)), (bx, .inr (0, [.int bx0, .int by0, .int bx1, .int by1]))]) (w1 := [(sq, .inr (6, [.ref v1, .ref v2, .int (nI (spS (opnC w h bx0 by0 bx1 by1) g x y co).2.2)])), (v1, .inl (cI, 4096, .inl g_6))]) hP hD [3, 4] [0, 1, 2, 5, 6, 7, 8] rfl rfl (by decide) (by decide) hk1 hFc hP1 hD1
          clear hz1 hk1 hFc hKc hDc hPc
          generalize H1 = H at hP hS ⊢
          have hP : va_P D vwCl [(s2, .inr (1, [.ref bx, .int ik, .int wy, .int op])), (s1, .inl (cO, 4, .inr (.inr (.inr (.inr f))))), (h0, .inr (8, [.ref s1, .ref s2, .ref s3, .ref s4, .ref s5, .ref s6, .int ds, .ref sq, va_rf bt])), (v2, .inl (cI, 4096, .inl g_7)), (t0, .inr (5, [.ref d0, .int w, .int h])), (d0, .inl (cI, 4096, .inl gd)), (bx, .inr (0, [.int bx0, .int by0, .int bx1, .int by1])), (sq, .inr (6, [.ref v1, .ref v2, .int (nI (spS (opnC w h bx0 by0 bx1 by1) g x y co).2.2)])), (v1, .inl (cI, 4096, .inl g_6))] H := hP
          have hD : va_D A [(s2, .inr (1, [.ref bx, .int ik, .int wy, .int op])), (s1, .inl (cO, 4, .inr (.inr (.inr (.inr f))))), (h0, .inr (8, [.ref s1, .ref s2, .ref s3, .ref s4, .ref s5, .ref s6, .int ds, .ref sq, va_rf bt])), (v2, .inl (cI, 4096, .inl g_7)), (t0, .inr (5, [.ref d0, .int w, .int h])), (d0, .inl (cI, 4096, .inl gd)), (bx, .inr (0, [.int bx0, .int by0, .int bx1, .int by1])), (sq, .inr (6, [.ref v1, .ref v2, .int (nI (spS (opnC w h bx0 by0 bx1 by1) g x y co).2.2)])), (v1, .inl (cI, 4096, .inl g_6))] := hD
          have hpr_15 : r_15 = pX ((spS (opnC w h bx0 by0 bx1 by1) g x y co).2.1 j) := by rw [hr_15, if_pos (by omega), hc_j, b_8 j (by omega)]
          refine lv_aload hx hb dX8_flood_74 (lv_at hl 2 rfl) ?_
          refine lv_iload hx hb dX8_flood_76 (lv_at hl 0 rfl) ?_
          have hPc := hP.sub (ws' := [(sq, .inr (6, [.ref v1, .ref v2, .int (nI (spS (opnC w h bx0 by0 bx1 by1) g x y co).2.2)])), (v1, .inl (cI, 4096, .inl g_6))]) [7, 8] rfl
          have hDc := hD.sub (ws' := [(sq, .inr (6, [.ref v1, .ref v2, .int (nI (spS (opnC w h bx0 by0 bx1 by1) g x y co).2.2)])), (v1, .inl (cI, 4096, .inl g_6))]) [7, 8] (by decide) rfl
          have hKc := hK.sub (tys' := [(cI, .int)]) [1] rfl
          have hFc := va_free (wc := [(sq, .inr (6, [.ref v1, .ref v2, .int (nI (spS (opnC w h bx0 by0 bx1 by1) g x y co).2.2)])), (v1, .inl (cI, 4096, .inl g_6))]) hD hS hA [7, 8] rfl
          refine va_calli (va_runV (As := [.int x8]) (rest := [.int r_15, .ref t0, .ref s2, .int x7]) ⟨hx, hb, hml, hown, hts⟩ (k_X6_yAt_e l D H.size sq v1 v2 (nI (spS (opnC w h bx0 by0 bx1 by1) g x y co).2.2) g_6 x8 cI (by first | assumption | omega | decide)) (cwV 1 hts (gV bw_312 bw_188 bw_189 bw_168 bw_187) rfl rfl rfl (by decide +kernel) ⟨(by rw [hR]; exact Nat.le_of_ble_eq_true rfl), (by rw [hR]; exact Nat.le_of_ble_eq_true rfl)⟩) ⟨cP_blind, va_recv hKc hPc (ci := 6) (q0 := 0) rfl rfl, cP_at hPc hKc hDc hN⟩ rfl rfl hl.1 rfl (lv_room (Nat.le_of_ble_eq_true rfl)) dX8_flood_78 ⟨(by rw [hR]; exact Nat.le_of_ble_eq_true rfl), (by rw [hR]; exact Nat.le_of_ble_eq_true rfl)⟩) hS (fun q _ h => hFc q h) hFc (fun r_16 u9 t9 H1 locs ht hvm hr_16 hB hz1 hk1 hS => ?_)
          try dsimp only at hr_16
          obtain ⟨hP1, hK1, hD1⟩ := hB
          rw [ht] at hP1
          obtain ⟨hP, hD⟩ := va_join (wr := [(s2, .inr (1, [.ref bx, .int ik, .int wy, .int op])), (s1, .inl (cO, 4, .inr (.inr (.inr (.inr f))))), (h0, .inr (8, [.ref s1, .ref s2, .ref s3, .ref s4, .ref s5, .ref s6, .int ds, .ref sq, va_rf bt])), (v2, .inl (cI, 4096, .inl g_7)), (t0, .inr (5, [.ref d0, .int w, .int h])), (d0, .inl (cI, 4096, .inl gd)), (bx, .inr (0, [.int bx0, .int by0, .int bx1, .int by1]))]) (w1 := [(sq, .inr (6, [.ref v1, .ref v2, .int (nI (spS (opnC w h bx0 by0 bx1 by1) g x y co).2.2)])), (v1, .inl (cI, 4096, .inl g_6))]) hP hD [7, 8] [0, 1, 2, 3, 4, 5, 6] rfl rfl (by decide) (by decide) hk1 hFc hP1 hD1
          clear hz1 hk1 hFc hKc hDc hPc
          generalize H1 = H at hP hS ⊢
          have hP : va_P D vwCl [(s2, .inr (1, [.ref bx, .int ik, .int wy, .int op])), (s1, .inl (cO, 4, .inr (.inr (.inr (.inr f))))), (h0, .inr (8, [.ref s1, .ref s2, .ref s3, .ref s4, .ref s5, .ref s6, .int ds, .ref sq, va_rf bt])), (v2, .inl (cI, 4096, .inl g_7)), (t0, .inr (5, [.ref d0, .int w, .int h])), (d0, .inl (cI, 4096, .inl gd)), (bx, .inr (0, [.int bx0, .int by0, .int bx1, .int by1])), (sq, .inr (6, [.ref v1, .ref v2, .int (nI (spS (opnC w h bx0 by0 bx1 by1) g x y co).2.2)])), (v1, .inl (cI, 4096, .inl g_6))] H := hP
          have hD : va_D A [(s2, .inr (1, [.ref bx, .int ik, .int wy, .int op])), (s1, .inl (cO, 4, .inr (.inr (.inr (.inr f))))), (h0, .inr (8, [.ref s1, .ref s2, .ref s3, .ref s4, .ref s5, .ref s6, .int ds, .ref sq, va_rf bt])), (v2, .inl (cI, 4096, .inl g_7)), (t0, .inr (5, [.ref d0, .int w, .int h])), (d0, .inl (cI, 4096, .inl gd)), (bx, .inr (0, [.int bx0, .int by0, .int bx1, .int by1])), (sq, .inr (6, [.ref v1, .ref v2, .int (nI (spS (opnC w h bx0 by0 bx1 by1) g x y co).2.2)])), (v1, .inl (cI, 4096, .inl g_6))] := hD
          have hpr_16 : r_16 = pY ((spS (opnC w h bx0 by0 bx1 by1) g x y co).2.1 j) := by rw [hr_16, if_pos (by omega), hc_j, b_8 j (by omega)]
          refine lv_aload_n hx hb dX8_flood_81 rfl (lv_at hl 4 rfl) ?_
          refine va_get (D := D) (ci := 8) (v := .ref s2) (C := RX8) (T := TX8) (N := 9) hx hb hts hi_X8 hown hK hP 2 rfl rfl 1 (by decide) (hts _ bw_231) (fun _ h9 => h9) rfl dX8_flood_82 ?_
          refine va_getN (host := RX8) (D := D) (ci := 1) (v := .int ik) (C := RX1) (T := TX1) (N := 4) hx hb hts hi_X1 hown hK hP 0 rfl rfl 1 (by decide) ((hN.1 (RX8, 76, "DotBench$Brush", "ink", "I", RX8) (by decide +kernel)).use rfl) (fun _ h9 => h9) rfl dX8_flood_85 ?_
          refine lv_aload_n hx hb dX8_flood_88 rfl (lv_at hl 4 rfl) ?_
          refine va_get (D := D) (ci := 8) (v := .ref s2) (C := RX8) (T := TX8) (N := 9) hx hb hts hi_X8 hown hK hP 2 rfl rfl 1 (by decide) (hts _ bw_231) (fun _ h9 => h9) rfl dX8_flood_89 ?_
          refine va_getN (host := RX8) (D := D) (ci := 1) (v := .int op) (C := RX1) (T := TX1) (N := 4) hx hb hts hi_X1 hown hK hP 0 rfl rfl 3 (by decide) ((hN.1 (RX8, 86, "DotBench$Brush", "opacity", "I", RX8) (by decide +kernel)).use rfl) (fun _ h9 => h9) rfl dX8_flood_92 ?_
          have hPc := hP.sub (ws' := [(s2, .inr (1, [.ref bx, .int ik, .int wy, .int op])), (bx, .inr (0, [.int bx0, .int by0, .int bx1, .int by1])), (t0, .inr (5, [.ref d0, .int w, .int h])), (d0, .inl (cI, 4096, .inl gd))]) [0, 6, 4, 5] rfl
          have hDc := hD.sub (ws' := [(s2, .inr (1, [.ref bx, .int ik, .int wy, .int op])), (bx, .inr (0, [.int bx0, .int by0, .int bx1, .int by1])), (t0, .inr (5, [.ref d0, .int w, .int h])), (d0, .inl (cI, 4096, .inl gd))]) [0, 6, 4, 5] (by decide) rfl
          have hKc := hK.sub (tys' := [(cI, .int)]) [1] rfl
          have hFc := va_free (wc := [(s2, .inr (1, [.ref bx, .int ik, .int wy, .int op])), (bx, .inr (0, [.int bx0, .int by0, .int bx1, .int by1])), (t0, .inr (5, [.ref d0, .int w, .int h])), (d0, .inl (cI, 4096, .inl gd))]) hD hS hA [0, 6, 4, 5] rfl
          refine va_calli (va_runV (As := [.ref t0, .int r_15, .int r_16, .int ik, .int op]) (rest := [.int x7]) ⟨hx, hb, hml, hown, hts⟩ (k_X1_lay l D H.size s2 bx ik wy op t0 d0 bx0 by0 bx1 by1 w h gd r_15 r_16 ik op cI (by first | assumption | omega | decide) (by first | assumption | omega | decide) (by first | assumption | omega | decide)) (cwV 5 hts (gV bw_276 bw_33 bw_34 bw_19 bw_32) rfl rfl rfl (by decide +kernel) ⟨(by rw [hR]; exact Nat.le_of_ble_eq_true rfl), (by rw [hR]; exact Nat.le_of_ble_eq_true rfl)⟩) ⟨cP_blind, va_recv hKc hPc (ci := 1) (q0 := 0) rfl rfl, cP_at hPc hKc hDc hN⟩ rfl rfl hl.1 rfl (lv_room (Nat.le_of_ble_eq_true rfl)) dX8_flood_95 ⟨(by rw [hR]; exact Nat.le_of_ble_eq_true rfl), (by rw [hR]; exact Nat.le_of_ble_eq_true rfl)⟩) hS (fun q _ h => hFc q h) hFc (fun r_17 u9 t9 H1 locs ht hvm hr_17 hB hz1 hk1 hS => ?_)
          try dsimp only at hr_17
          obtain ⟨hP1, hK1, hD1⟩ := hB
          rw [ht] at hP1
          obtain ⟨hP, hD⟩ := va_join (wr := [(s1, .inl (cO, 4, .inr (.inr (.inr (.inr f))))), (h0, .inr (8, [.ref s1, .ref s2, .ref s3, .ref s4, .ref s5, .ref s6, .int ds, .ref sq, va_rf bt])), (v2, .inl (cI, 4096, .inl g_7)), (sq, .inr (6, [.ref v1, .ref v2, .int (nI (spS (opnC w h bx0 by0 bx1 by1) g x y co).2.2)])), (v1, .inl (cI, 4096, .inl g_6))]) (w1 := [(s2, .inr (1, [.ref bx, .int ik, .int wy, .int op])), (bx, .inr (0, [.int bx0, .int by0, .int bx1, .int by1])), (t0, .inr (5, [.ref d0, .int w, .int h])), (d0, .inl (cI, 4096, .inl (if 0 ≤ r_15.toInt ∧ r_15.toInt < w.toInt ∧ 0 ≤ r_16.toInt ∧ r_16.toInt < h.toInt ∧ bx0.toInt ≤ r_15.toInt ∧ r_15.toInt ≤ bx1.toInt ∧ by0.toInt ≤ r_16.toInt ∧ r_16.toInt ≤ by1.toInt then upd gd (ixP r_15 r_16) (laidP wy ik (gd (ixP r_15 r_16)) op) else gd)))]) hP hD [0, 6, 4, 5] [1, 2, 3, 7, 8] rfl rfl (by decide) (by decide) hk1 hFc hP1 hD1
          clear hz1 hk1 hFc hKc hDc hPc
          generalize H1 = H at hP hS ⊢
          have hP : va_P D vwCl [(s1, .inl (cO, 4, .inr (.inr (.inr (.inr f))))), (h0, .inr (8, [.ref s1, .ref s2, .ref s3, .ref s4, .ref s5, .ref s6, .int ds, .ref sq, va_rf bt])), (v2, .inl (cI, 4096, .inl g_7)), (sq, .inr (6, [.ref v1, .ref v2, .int (nI (spS (opnC w h bx0 by0 bx1 by1) g x y co).2.2)])), (v1, .inl (cI, 4096, .inl g_6)), (s2, .inr (1, [.ref bx, .int ik, .int wy, .int op])), (bx, .inr (0, [.int bx0, .int by0, .int bx1, .int by1])), (t0, .inr (5, [.ref d0, .int w, .int h])), (d0, .inl (cI, 4096, .inl (if 0 ≤ r_15.toInt ∧ r_15.toInt < w.toInt ∧ 0 ≤ r_16.toInt ∧ r_16.toInt < h.toInt ∧ bx0.toInt ≤ r_15.toInt ∧ r_15.toInt ≤ bx1.toInt ∧ by0.toInt ≤ r_16.toInt ∧ r_16.toInt ≤ by1.toInt then upd gd (ixP r_15 r_16) (laidP wy ik (gd (ixP r_15 r_16)) op) else gd)))] H := hP
          have hD : va_D A [(s1, .inl (cO, 4, .inr (.inr (.inr (.inr f))))), (h0, .inr (8, [.ref s1, .ref s2, .ref s3, .ref s4, .ref s5, .ref s6, .int ds, .ref sq, va_rf bt])), (v2, .inl (cI, 4096, .inl g_7)), (sq, .inr (6, [.ref v1, .ref v2, .int (nI (spS (opnC w h bx0 by0 bx1 by1) g x y co).2.2)])), (v1, .inl (cI, 4096, .inl g_6)), (s2, .inr (1, [.ref bx, .int ik, .int wy, .int op])), (bx, .inr (0, [.int bx0, .int by0, .int bx1, .int by1])), (t0, .inr (5, [.ref d0, .int w, .int h])), (d0, .inl (cI, 4096, .inl (if 0 ≤ r_15.toInt ∧ r_15.toInt < w.toInt ∧ 0 ≤ r_16.toInt ∧ r_16.toInt < h.toInt ∧ bx0.toInt ≤ r_15.toInt ∧ r_15.toInt ≤ bx1.toInt ∧ by0.toInt ≤ r_16.toInt ∧ r_16.toInt ≤ by1.toInt then upd gd (ixP r_15 r_16) (laidP wy ik (gd (ixP r_15 r_16)) op) else gd)))] := hD
          refine lv_iadd hx hb dX8_flood_98 ?_
          refine lv_topi (fun y_18 ey_18 => ?_)
          refine lv_istore (lv' := [(7, .int y_18), (8, .int x8), (6, .ref sq), (5, .ref t0), (0, .ref h0), (1, .int k), (2, .int x), (3, .int y), (4, .int co)]) hx hb dX8_flood_99 hl (by decide) rfl (fun ls hl => ?_)
          obtain ⟨y_19, ey_19⟩ : ∃ y : Int32, y = x8 + 1 := ⟨_, rfl⟩
          refine lv_iinc (v := y_19) (lv' := [(8, .int y_19), (7, .int y_18), (6, .ref sq), (5, .ref t0), (0, .ref h0), (1, .int k), (2, .int x), (3, .int y), (4, .int co)]) hx hb dX8_flood_101 hl (k := 1) rfl (by rw [ey_19]; rfl) (by decide) rfl (fun ls hl => ?_)
          refine lv_goto (tgt := 49) hx hb dX8_flood_104 (by decide) ?_
          exact ih_12 (j + 1) y_19 y_18 (if 0 ≤ r_15.toInt ∧ r_15.toInt < w.toInt ∧ 0 ≤ r_16.toInt ∧ r_16.toInt < h.toInt ∧ bx0.toInt ≤ r_15.toInt ∧ r_15.toInt ≤ bx1.toInt ∧ by0.toInt ≤ r_16.toInt ∧ r_16.toInt ≤ by1.toInt then upd gd (ixP r_15 r_16) (laidP wy ik (gd (ixP r_15 r_16)) op) else gd) _ _ _ (by omega) (by omega) (by rw [ey_19, ex_j]; exact nI_1 j) (by omega) (by rw [show plL (spS (opnC w h bx0 by0 bx1 by1) g x y co).2.1 ik op (j + 1) = plL (spS (opnC w h bx0 by0 bx1 by1) g x y co).2.1 ik op j ++ [(r_15, r_16, ik, op)] by rw [hpr_15, hpr_16]; rfl, List.foldl_append, ← hgo]; rfl) (by rw [show plL (spS (opnC w h bx0 by0 bx1 by1) g x y co).2.1 ik op (j + 1) = plL (spS (opnC w h bx0 by0 bx1 by1) g x y co).2.1 ik op j ++ [(r_15, r_16, ik, op)] by rw [hpr_15, hpr_16]; rfl, List.foldl_append, ← eto, ey_18, hr_17]; rfl) (hP.sub (ws' := [(s2, .inr (1, [.ref bx, .int ik, .int wy, .int op])), (s1, .inl (cO, 4, .inr (.inr (.inr (.inr f))))), (h0, .inr (8, [.ref s1, .ref s2, .ref s3, .ref s4, .ref s5, .ref s6, .int ds, .ref sq, va_rf bt])), (sq, .inr (6, [.ref v1, .ref v2, .int (nI (spS (opnC w h bx0 by0 bx1 by1) g x y co).2.2)])), (v1, .inl (cI, 4096, .inl g_6)), (v2, .inl (cI, 4096, .inl g_7)), (t0, .inr (5, [.ref d0, .int w, .int h])), (d0, .inl (cI, 4096, .inl (if 0 ≤ r_15.toInt ∧ r_15.toInt < w.toInt ∧ 0 ≤ r_16.toInt ∧ r_16.toInt < h.toInt ∧ bx0.toInt ≤ r_15.toInt ∧ r_15.toInt ≤ bx1.toInt ∧ by0.toInt ≤ r_16.toInt ∧ r_16.toInt ≤ by1.toInt then upd gd (ixP r_15 r_16) (laidP wy ik (gd (ixP r_15 r_16)) op) else gd))), (bx, .inr (0, [.int bx0, .int by0, .int bx1, .int by1]))]) [5, 0, 1, 3, 4, 2, 7, 8, 6] rfl) (hD.sub (ws' := [(s2, .inr (1, [.ref bx, .int ik, .int wy, .int op])), (s1, .inl (cO, 4, .inr (.inr (.inr (.inr f))))), (h0, .inr (8, [.ref s1, .ref s2, .ref s3, .ref s4, .ref s5, .ref s6, .int ds, .ref sq, va_rf bt])), (sq, .inr (6, [.ref v1, .ref v2, .int (nI (spS (opnC w h bx0 by0 bx1 by1) g x y co).2.2)])), (v1, .inl (cI, 4096, .inl g_6)), (v2, .inl (cI, 4096, .inl g_7)), (t0, .inr (5, [.ref d0, .int w, .int h])), (d0, .inl (cI, 4096, .inl (if 0 ≤ r_15.toInt ∧ r_15.toInt < w.toInt ∧ 0 ≤ r_16.toInt ∧ r_16.toInt < h.toInt ∧ bx0.toInt ≤ r_15.toInt ∧ r_15.toInt ≤ bx1.toInt ∧ by0.toInt ≤ r_16.toInt ∧ r_16.toInt ≤ by1.toInt then upd gd (ixP r_15 r_16) (laidP wy ik (gd (ixP r_15 r_16)) op) else gd))), (bx, .inr (0, [.int bx0, .int by0, .int bx1, .int by1]))]) [5, 0, 1, 3, 4, 2, 7, 8, 6] (by decide) rfl) hS (lv_sub hl [0, 1, 2, 3, 4, 5, 6, 7, 8] rfl)
    exact loop_11 (4096 + 1) 0 0 0 g _ _ _ (by omega) (by omega) nI_0.symm (by omega) rfl rfl hP hD hS (lv_sub hl [0, 1, 2, 3, 4, 5, 6, 7, 8] rfl)
  · skip
    have f_4 := bz0 hr_2 c_3
    exact False.elim (by omega)

set_option maxHeartbeats 4000000 in
set_option maxRecDepth 100000 in
theorem k_X8_region_y1e (l : Launch) (D : va_G) (sz : Nat) (h0 s1 s2 s3 s4 s5 s6 : Nat) (ds : Int32) (bt : Option Nat) (f : Nat → Option Nat) (bx0 by0 bx1 by1 : Int32) (t0 d0 : Nat) (w h : Int32) (g : Nat → Int32) (sq v1 v2 : Nat) (zs : Int32) (ga : Nat → Int32) (gb : Nat → Int32) (k x y co : Int32) (cO : ClassId) (cI : ClassId) (hk : 0 ≤ k.toInt ∧ k.toInt ≤ 3) (hf : f k.toNatClampNeg = some t0) (hw : w.toInt ≤ 64) (hh : h.toInt ≤ 64) (hon : 0 ≤ x.toInt ∧ x.toInt < w.toInt ∧ 0 ≤ y.toInt ∧ y.toInt < h.toInt) : Met l yX8_region (wB yX8_region cX8_region 6 (some .int)) ({ frames := 5, cells := 0, slots := 0, locals := 125 }) (cP D [(h0, .inr (8, [.ref s1, .ref s2, .ref s3, .ref s4, .ref s5, .ref s6, .int ds, .ref sq, va_rf bt])), (s1, .inl (cO, 4, .inr (.inr (.inr (.inr f))))), (s3, .inr (0, [.int bx0, .int by0, .int bx1, .int by1])), (t0, .inr (5, [.ref d0, .int w, .int h])), (d0, .inl (cI, 4096, .inl g)), (sq, .inr (6, [.ref v1, .ref v2, .int zs])), (v1, .inl (cI, 4096, .inl ga)), (v2, .inl (cI, 4096, .inl gb))] [(cO, .object "DotBench$Sheet"), (cI, .int)] sz [.ref h0, .int k, .int x, .int y, .int co]) (va_Qi (fun (r : Int32) (_ : Unit) => r = nI (spS (opnC w h bx0 by0 bx1 by1) g x y co).2.2) (fun (_ : Unit) (t : State) => ∃ (g2 g3 : Nat → Int32), cB D (va_A [(h0, .inr (8, [.ref s1, .ref s2, .ref s3, .ref s4, .ref s5, .ref s6, .int ds, .ref sq, va_rf bt])), (s1, .inl (cO, 4, .inr (.inr (.inr (.inr f))))), (s3, .inr (0, [.int bx0, .int by0, .int bx1, .int by1])), (t0, .inr (5, [.ref d0, .int w, .int h])), (d0, .inl (cI, 4096, .inl g)), (sq, .inr (6, [.ref v1, .ref v2, .int zs])), (v1, .inl (cI, 4096, .inl ga)), (v2, .inl (cI, 4096, .inl gb))] sz) [(h0, .inr (8, [.ref s1, .ref s2, .ref s3, .ref s4, .ref s5, .ref s6, .int ds, .ref sq, va_rf bt])), (s1, .inl (cO, 4, .inr (.inr (.inr (.inr f))))), (s3, .inr (0, [.int bx0, .int by0, .int bx1, .int by1])), (t0, .inr (5, [.ref d0, .int w, .int h])), (d0, .inl (cI, 4096, .inl g)), (sq, .inr (6, [.ref v1, .ref v2, .int (nI (spS (opnC w h bx0 by0 bx1 by1) g x y co).2.2)])), (v1, .inl (cI, 4096, .inl g2)), (v2, .inl (cI, 4096, .inl g3))] [(cO, .object "DotBench$Sheet"), (cI, .int)] t) (va_A [(h0, .inr (8, [.ref s1, .ref s2, .ref s3, .ref s4, .ref s5, .ref s6, .int ds, .ref sq, va_rf bt])), (s1, .inl (cO, 4, .inr (.inr (.inr (.inr f))))), (s3, .inr (0, [.int bx0, .int by0, .int bx1, .int by1])), (t0, .inr (5, [.ref d0, .int w, .int h])), (d0, .inl (cI, 4096, .inl g)), (sq, .inr (6, [.ref v1, .ref v2, .int zs])), (v1, .inl (cI, 4096, .inl ga)), (v2, .inl (cI, 4096, .inl gb))] sz)) 0 0 (va_A [(h0, .inr (8, [.ref s1, .ref s2, .ref s3, .ref s4, .ref s5, .ref s6, .int ds, .ref sq, va_rf bt])), (s1, .inl (cO, 4, .inr (.inr (.inr (.inr f))))), (s3, .inr (0, [.int bx0, .int by0, .int bx1, .int by1])), (t0, .inr (5, [.ref d0, .int w, .int h])), (d0, .inl (cI, 4096, .inl g)), (sq, .inr (6, [.ref v1, .ref v2, .int zs])), (v1, .inl (cI, 4096, .inl ga)), (v2, .inl (cI, 4096, .inl gb))] sz) := by
  refine Met.ofW (cc := cX8_region) (maxL := 6) (ret := (some .int)) (by decide) rfl ?_
  intro p e s m args below meth c s₁ B hml hv
  obtain ⟨rfl, hsz, hP, hK, hD0, hN⟩ := hv
  have hx := B.exec
  have hb := B.bytes
  have hr := B.returns
  have hts0 := atoms_spec (ws := (wB yX8_region cX8_region 6 (some .int))) B.pre
  have hts : ∀ w ∈ bigW, w.before _ s = true := fun w h => hts0 w (List.mem_cons_of_mem _ h)
  have hown : s.vm.findClass RX8 = some m.cls := findClass_of_methodNamed B.named
  have hlocks := B.notSynchronized
  subst hsz
  have hD := hD0.self (sz := s.heap.size)
  generalize hAe : va_A [(h0, .inr (8, [.ref s1, .ref s2, .ref s3, .ref s4, .ref s5, .ref s6, .int ds, .ref sq, va_rf bt])), (s1, .inl (cO, 4, .inr (.inr (.inr (.inr f))))), (s3, .inr (0, [.int bx0, .int by0, .int bx1, .int by1])), (t0, .inr (5, [.ref d0, .int w, .int h])), (d0, .inl (cI, 4096, .inl g)), (sq, .inr (6, [.ref v1, .ref v2, .int zs])), (v1, .inl (cI, 4096, .inl ga)), (v2, .inl (cI, 4096, .inl gb))] s.heap.size = A at hD ⊢
  have hA : ∀ q : Nat, s.heap.size ≤ q → A q := fun q h => by rw [← hAe]; exact Or.inr h
  have hS : va_S A s.heap s.heap [] := va_S.rf
  have hP : va_P D vwCl [(h0, .inr (8, [.ref s1, .ref s2, .ref s3, .ref s4, .ref s5, .ref s6, .int ds, .ref sq, va_rf bt])), (s1, .inl (cO, 4, .inr (.inr (.inr (.inr f))))), (s3, .inr (0, [.int bx0, .int by0, .int bx1, .int by1])), (t0, .inr (5, [.ref d0, .int w, .int h])), (d0, .inl (cI, 4096, .inl g)), (sq, .inr (6, [.ref v1, .ref v2, .int zs])), (v1, .inl (cI, 4096, .inl ga)), (v2, .inl (cI, 4096, .inl gb))] s.heap := hP
  have hl := lv_entry ([.ref h0, .int k, .int x, .int y, .int co]) (n := 6) (Nat.le_of_ble_eq_true rfl)
  rw [lg_entry_eq]
  generalize (lg_sl ([.ref h0, .int k, .int x, .int y, .int co]) ++ List.replicate (6 - (lg_sl ([.ref h0, .int k, .int x, .int y, .int co])).length) Slot.unset).toArray = ls at hl ⊢
  have hl : lv_has ls 6 [(0, .ref h0), (1, .int k), (2, .int x), (3, .int y), (4, .int co)] := hl
  clear hts0 hD0 hAe
  refine my_abs (fun R Q hR hQ => ?_)
  refine lv_aload_n hx hb dX8_region_0 rfl (lv_at hl 0 rfl) ?_
  refine lv_iload_n hx hb dX8_region_1 rfl (lv_at hl 1 rfl) ?_
  have hPc := hP.sub (ws' := [(h0, .inr (8, [.ref s1, .ref s2, .ref s3, .ref s4, .ref s5, .ref s6, .int ds, .ref sq, va_rf bt])), (s1, .inl (cO, 4, .inr (.inr (.inr (.inr f)))))]) [0, 1] rfl
  have hDc := hD.sub (ws' := [(h0, .inr (8, [.ref s1, .ref s2, .ref s3, .ref s4, .ref s5, .ref s6, .int ds, .ref sq, va_rf bt])), (s1, .inl (cO, 4, .inr (.inr (.inr (.inr f)))))]) [0, 1] (by decide) rfl
  have hKc := hK.sub (tys' := [(cO, .object "DotBench$Sheet")]) [0] rfl
  have hFc := va_free (wc := [(h0, .inr (8, [.ref s1, .ref s2, .ref s3, .ref s4, .ref s5, .ref s6, .int ds, .ref sq, va_rf bt])), (s1, .inl (cO, 4, .inr (.inr (.inr (.inr f)))))]) hD hS hA [0, 1] rfl
  refine va_callq (va_runV (As := [.int k]) (rest := []) ⟨hx, hb, hml, hown, hts⟩ (k_X8_sheetAt_y l D s.heap.size h0 s1 s2 s3 s4 s5 s6 ds (some sq) bt f k t0 cO (by first | assumption | omega | decide) (by first | assumption | omega | decide)) (cwV 1 hts (gV bw_267 bw_346 bw_347 bw_223 bw_345) rfl rfl rfl (by decide +kernel) ⟨(by rw [hR]; exact Nat.le_of_ble_eq_true rfl), (by rw [hR]; exact Nat.le_of_ble_eq_true rfl)⟩) ⟨cP_blind, va_recv hKc hPc (ci := 8) (q0 := 0) rfl rfl, cP_at hPc hKc hDc hN⟩ rfl rfl hl.1 rfl (lv_room (Nat.le_of_ble_eq_true rfl)) dX8_region_2 ⟨(by rw [hR]; exact Nat.le_of_ble_eq_true rfl), (by rw [hR]; exact Nat.le_of_ble_eq_true rfl)⟩) hS (fun q _ h => hFc q h) hFc (fun r_1 u9 t9 H1 locs ht hvm hr_1 hB hz1 hk1 hS => ?_)
  try dsimp only at hr_1
  obtain ⟨hP1, hK1, hD1⟩ := hB
  rw [ht] at hP1
  obtain ⟨hP, hD⟩ := va_join (wr := [(s3, .inr (0, [.int bx0, .int by0, .int bx1, .int by1])), (t0, .inr (5, [.ref d0, .int w, .int h])), (d0, .inl (cI, 4096, .inl g)), (sq, .inr (6, [.ref v1, .ref v2, .int zs])), (v1, .inl (cI, 4096, .inl ga)), (v2, .inl (cI, 4096, .inl gb))]) (w1 := [(h0, .inr (8, [.ref s1, .ref s2, .ref s3, .ref s4, .ref s5, .ref s6, .int ds, .ref sq, va_rf bt])), (s1, .inl (cO, 4, .inr (.inr (.inr (.inr f)))))]) hP hD [0, 1] [2, 3, 4, 5, 6, 7] rfl rfl (by decide) (by decide) hk1 hFc hP1 hD1
  clear hz1 hk1 hFc hKc hDc hPc
  generalize H1 = H at hP hS ⊢
  have hP : va_P D vwCl [(s3, .inr (0, [.int bx0, .int by0, .int bx1, .int by1])), (t0, .inr (5, [.ref d0, .int w, .int h])), (d0, .inl (cI, 4096, .inl g)), (sq, .inr (6, [.ref v1, .ref v2, .int zs])), (v1, .inl (cI, 4096, .inl ga)), (v2, .inl (cI, 4096, .inl gb)), (h0, .inr (8, [.ref s1, .ref s2, .ref s3, .ref s4, .ref s5, .ref s6, .int ds, .ref sq, va_rf bt])), (s1, .inl (cO, 4, .inr (.inr (.inr (.inr f)))))] H := hP
  have hD : va_D A [(s3, .inr (0, [.int bx0, .int by0, .int bx1, .int by1])), (t0, .inr (5, [.ref d0, .int w, .int h])), (d0, .inl (cI, 4096, .inl g)), (sq, .inr (6, [.ref v1, .ref v2, .int zs])), (v1, .inl (cI, 4096, .inl ga)), (v2, .inl (cI, 4096, .inl gb)), (h0, .inr (8, [.ref s1, .ref s2, .ref s3, .ref s4, .ref s5, .ref s6, .int ds, .ref sq, va_rf bt])), (s1, .inl (cO, 4, .inr (.inr (.inr (.inr f)))))] := hD
  subst hr_1
  refine my_topv (v := .ref t0) rfl ?_
  refine lv_astore (lv' := [(5, .ref t0), (0, .ref h0), (1, .int k), (2, .int x), (3, .int y), (4, .int co)]) hx hb dX8_region_5 hl (by decide) rfl (fun ls hl => ?_)
  refine lv_aload hx hb dX8_region_7 (lv_at hl 0 rfl) ?_
  refine lv_ifnull hx hb dX8_region_9 ?_
  refine lv_aload hx hb dX8_region_12 (lv_at hl 0 rfl) ?_
  refine lv_iload_n hx hb dX8_region_14 rfl (lv_at hl 3 rfl) ?_
  refine lv_iload_n hx hb dX8_region_15 rfl (lv_at hl 4 rfl) ?_
  have hPc := hP.sub (ws' := [(t0, .inr (5, [.ref d0, .int w, .int h]))]) [1] rfl
  have hDc := hD.sub (ws' := [(t0, .inr (5, [.ref d0, .int w, .int h]))]) [1] (by decide) rfl
  have hKc := hK.sub (tys' := []) [] rfl
  have hFc := va_free (wc := [(t0, .inr (5, [.ref d0, .int w, .int h]))]) hD hS hA [1] rfl
  refine va_calli (va_runV (As := [.int x, .int y]) (rest := []) ⟨hx, hb, hml, hown, hts⟩ (k_X5_has l D H.size t0 d0 w h x y) (cwV 2 hts (gV bw_309 bw_150 bw_151 bw_130 bw_149) rfl rfl rfl (by decide +kernel) ⟨(by rw [hR]; exact Nat.le_of_ble_eq_true rfl), (by rw [hR]; exact Nat.le_of_ble_eq_true rfl)⟩) ⟨cP_blind, va_recv hKc hPc (ci := 5) (q0 := 0) rfl rfl, cP_at hPc hKc hDc hN⟩ rfl rfl hl.1 rfl (lv_room (Nat.le_of_ble_eq_true rfl)) dX8_region_16 ⟨(by rw [hR]; exact Nat.le_of_ble_eq_true rfl), (by rw [hR]; exact Nat.le_of_ble_eq_true rfl)⟩) hS (fun q _ h => hFc q h) hFc (fun r_2 u9 t9 H1 locs ht hvm hr_2 hB hz1 hk1 hS => ?_)
  try dsimp only at hr_2
  obtain ⟨hP1, hK1, hD1⟩ := hB
  rw [ht] at hP1
  obtain ⟨hP, hD⟩ := va_join (wr := [(s3, .inr (0, [.int bx0, .int by0, .int bx1, .int by1])), (d0, .inl (cI, 4096, .inl g)), (sq, .inr (6, [.ref v1, .ref v2, .int zs])), (v1, .inl (cI, 4096, .inl ga)), (v2, .inl (cI, 4096, .inl gb)), (h0, .inr (8, [.ref s1, .ref s2, .ref s3, .ref s4, .ref s5, .ref s6, .int ds, .ref sq, va_rf bt])), (s1, .inl (cO, 4, .inr (.inr (.inr (.inr f)))))]) (w1 := [(t0, .inr (5, [.ref d0, .int w, .int h]))]) hP hD [1] [0, 2, 3, 4, 5, 6, 7] rfl rfl (by decide) (by decide) hk1 hFc hP1 hD1
  clear hz1 hk1 hFc hKc hDc hPc
  generalize H1 = H at hP hS ⊢
  have hP : va_P D vwCl [(s3, .inr (0, [.int bx0, .int by0, .int bx1, .int by1])), (d0, .inl (cI, 4096, .inl g)), (sq, .inr (6, [.ref v1, .ref v2, .int zs])), (v1, .inl (cI, 4096, .inl ga)), (v2, .inl (cI, 4096, .inl gb)), (h0, .inr (8, [.ref s1, .ref s2, .ref s3, .ref s4, .ref s5, .ref s6, .int ds, .ref sq, va_rf bt])), (s1, .inl (cO, 4, .inr (.inr (.inr (.inr f))))), (t0, .inr (5, [.ref d0, .int w, .int h]))] H := hP
  have hD : va_D A [(s3, .inr (0, [.int bx0, .int by0, .int bx1, .int by1])), (d0, .inl (cI, 4096, .inl g)), (sq, .inr (6, [.ref v1, .ref v2, .int zs])), (v1, .inl (cI, 4096, .inl ga)), (v2, .inl (cI, 4096, .inl gb)), (h0, .inr (8, [.ref s1, .ref s2, .ref s3, .ref s4, .ref s5, .ref s6, .int ds, .ref sq, va_rf bt])), (s1, .inl (cO, 4, .inr (.inr (.inr (.inr f))))), (t0, .inr (5, [.ref d0, .int w, .int h]))] := hD
  refine lv_if_ne (tgt := 24) hx hb dX8_region_19 (by decide) (fun c_3 => ?_) (fun c_3 => ?_)
  · skip
    have f_4 := bz1 hr_2 c_3
    refine lv_aload_n hx hb dX8_region_24 rfl (lv_at hl 1 rfl) ?_
    refine lv_aload hx hb dX8_region_25 (lv_at hl 0 rfl) ?_
    refine lv_aload_n hx hb dX8_region_27 rfl (lv_at hl 1 rfl) ?_
    refine va_get (D := D) (ci := 8) (v := .ref s3) (C := RX8) (T := TX8) (N := 9) hx hb hts hi_X8 hown hK hP 5 rfl rfl 2 (by decide) (hts _ bw_233) (fun _ h9 => h9) rfl dX8_region_28 ?_
    refine lv_iload_n hx hb dX8_region_31 rfl (lv_at hl 3 rfl) ?_
    refine lv_iload_n hx hb dX8_region_32 rfl (lv_at hl 4 rfl) ?_
    refine lv_iload hx hb dX8_region_33 (lv_at hl 5 rfl) ?_
    have hPc := hP.sub (ws' := [(h0, .inr (8, [.ref s1, .ref s2, .ref s3, .ref s4, .ref s5, .ref s6, .int ds, .ref sq, va_rf bt])), (sq, .inr (6, [.ref v1, .ref v2, .int zs])), (v1, .inl (cI, 4096, .inl ga)), (v2, .inl (cI, 4096, .inl gb)), (t0, .inr (5, [.ref d0, .int w, .int h])), (d0, .inl (cI, 4096, .inl g)), (s3, .inr (0, [.int bx0, .int by0, .int bx1, .int by1]))]) [5, 2, 3, 4, 7, 1, 0] rfl
    have hDc := hD.sub (ws' := [(h0, .inr (8, [.ref s1, .ref s2, .ref s3, .ref s4, .ref s5, .ref s6, .int ds, .ref sq, va_rf bt])), (sq, .inr (6, [.ref v1, .ref v2, .int zs])), (v1, .inl (cI, 4096, .inl ga)), (v2, .inl (cI, 4096, .inl gb)), (t0, .inr (5, [.ref d0, .int w, .int h])), (d0, .inl (cI, 4096, .inl g)), (s3, .inr (0, [.int bx0, .int by0, .int bx1, .int by1]))]) [5, 2, 3, 4, 7, 1, 0] (by decide) rfl
    have hKc := hK.sub (tys' := [(cI, .int)]) [1] rfl
    have hFc := va_free (wc := [(h0, .inr (8, [.ref s1, .ref s2, .ref s3, .ref s4, .ref s5, .ref s6, .int ds, .ref sq, va_rf bt])), (sq, .inr (6, [.ref v1, .ref v2, .int zs])), (v1, .inl (cI, 4096, .inl ga)), (v2, .inl (cI, 4096, .inl gb)), (t0, .inr (5, [.ref d0, .int w, .int h])), (d0, .inl (cI, 4096, .inl g)), (s3, .inr (0, [.int bx0, .int by0, .int bx1, .int by1]))]) hD hS hA [5, 2, 3, 4, 7, 1, 0] rfl
    refine va_callq (va_runV (As := [.ref t0, .ref s3, .int x, .int y, .int co]) (rest := []) ⟨hx, hb, hml, hown, hts⟩ (k_X8_gathered_1e l D H.size h0 s1 s2 s3 s4 s5 s6 ds bt sq v1 v2 zs ga gb t0 d0 s3 w h g bx0 by0 bx1 by1 x y co cI (by first | assumption | omega | decide) (by first | assumption | omega | decide) (by first | assumption | omega | decide)) (cwV 5 hts (gV bw_310 bw_378 bw_379 bw_223 bw_377) rfl rfl rfl (by decide +kernel) ⟨(by rw [hR]; exact Nat.le_of_ble_eq_true rfl), (by rw [hR]; exact Nat.le_of_ble_eq_true rfl)⟩) ⟨cP_blind, va_recv hKc hPc (ci := 8) (q0 := 0) rfl rfl, cP_at hPc hKc hDc hN⟩ rfl rfl hl.1 rfl (lv_room (Nat.le_of_ble_eq_true rfl)) dX8_region_35 ⟨(by rw [hR]; exact Nat.le_of_ble_eq_true rfl), (by rw [hR]; exact Nat.le_of_ble_eq_true rfl)⟩) hS (fun q _ h => hFc q h) hFc (fun r_5 u9 t9 H1 locs ht hvm hr_5 hB hz1 hk1 hS => ?_)
    try dsimp only at hr_5
    obtain ⟨g_6, g_7, b_8, b_9, b_10, hP1, hK1, hD1⟩ := hB
    rw [ht] at hP1
    obtain ⟨hP, hD⟩ := va_join (wr := [(s1, .inl (cO, 4, .inr (.inr (.inr (.inr f)))))]) (w1 := [(h0, .inr (8, [.ref s1, .ref s2, .ref s3, .ref s4, .ref s5, .ref s6, .int ds, .ref sq, va_rf bt])), (sq, .inr (6, [.ref v1, .ref v2, .int (nI (spS (opnC w h bx0 by0 bx1 by1) g x y co).2.2)])), (v1, .inl (cI, 4096, .inl g_6)), (v2, .inl (cI, 4096, .inl g_7)), (t0, .inr (5, [.ref d0, .int w, .int h])), (d0, .inl (cI, 4096, .inl g)), (s3, .inr (0, [.int bx0, .int by0, .int bx1, .int by1]))]) hP hD [5, 2, 3, 4, 7, 1, 0] [6] rfl rfl (by decide) (by decide) hk1 hFc hP1 hD1
    clear hz1 hk1 hFc hKc hDc hPc
    generalize H1 = H at hP hS ⊢
    have hP : va_P D vwCl [(s1, .inl (cO, 4, .inr (.inr (.inr (.inr f))))), (h0, .inr (8, [.ref s1, .ref s2, .ref s3, .ref s4, .ref s5, .ref s6, .int ds, .ref sq, va_rf bt])), (sq, .inr (6, [.ref v1, .ref v2, .int (nI (spS (opnC w h bx0 by0 bx1 by1) g x y co).2.2)])), (v1, .inl (cI, 4096, .inl g_6)), (v2, .inl (cI, 4096, .inl g_7)), (t0, .inr (5, [.ref d0, .int w, .int h])), (d0, .inl (cI, 4096, .inl g)), (s3, .inr (0, [.int bx0, .int by0, .int bx1, .int by1]))] H := hP
    have hD : va_D A [(s1, .inl (cO, 4, .inr (.inr (.inr (.inr f))))), (h0, .inr (8, [.ref s1, .ref s2, .ref s3, .ref s4, .ref s5, .ref s6, .int ds, .ref sq, va_rf bt])), (sq, .inr (6, [.ref v1, .ref v2, .int (nI (spS (opnC w h bx0 by0 bx1 by1) g x y co).2.2)])), (v1, .inl (cI, 4096, .inl g_6)), (v2, .inl (cI, 4096, .inl g_7)), (t0, .inr (5, [.ref d0, .int w, .int h])), (d0, .inl (cI, 4096, .inl g)), (s3, .inr (0, [.int bx0, .int by0, .int bx1, .int by1]))] := hD
    subst hr_5
    refine my_topv (v := .ref sq) rfl ?_
    refine va_getN (host := RX8) (D := D) (ci := 6) (v := .int (nI (spS (opnC w h bx0 by0 bx1 by1) g x y co).2.2)) (C := RX6) (T := TX6) (N := 3) hx hb hts hi_X6 hown hK hP 2 rfl rfl 2 (by decide) ((hN.1 (RX8, 180, "DotBench$Spread", "size", "I", RX8) (by decide +kernel)).use rfl) (fun _ h9 => h9) rfl dX8_region_38 ?_
    have hP9 := hP.sub (ws' := [(h0, .inr (8, [.ref s1, .ref s2, .ref s3, .ref s4, .ref s5, .ref s6, .int ds, .ref sq, va_rf bt])), (s1, .inl (cO, 4, .inr (.inr (.inr (.inr f))))), (s3, .inr (0, [.int bx0, .int by0, .int bx1, .int by1])), (t0, .inr (5, [.ref d0, .int w, .int h])), (d0, .inl (cI, 4096, .inl g)), (sq, .inr (6, [.ref v1, .ref v2, .int (nI (spS (opnC w h bx0 by0 bx1 by1) g x y co).2.2)])), (v1, .inl (cI, 4096, .inl g_6)), (v2, .inl (cI, 4096, .inl g_7))]) [1, 0, 7, 5, 6, 2, 3, 4] rfl
    have hD9 := hD.sub (ws' := [(h0, .inr (8, [.ref s1, .ref s2, .ref s3, .ref s4, .ref s5, .ref s6, .int ds, .ref sq, va_rf bt])), (s1, .inl (cO, 4, .inr (.inr (.inr (.inr f))))), (s3, .inr (0, [.int bx0, .int by0, .int bx1, .int by1])), (t0, .inr (5, [.ref d0, .int w, .int h])), (d0, .inl (cI, 4096, .inl g)), (sq, .inr (6, [.ref v1, .ref v2, .int (nI (spS (opnC w h bx0 by0 bx1 by1) g x y co).2.2)])), (v1, .inl (cI, 4096, .inl g_6)), (v2, .inl (cI, 4096, .inl g_7))]) [1, 0, 7, 5, 6, 2, 3, 4] (by decide) rfl
    have hK9 := hK.sub (tys' := [(cO, .object "DotBench$Sheet"), (cI, .int)]) [0, 1] rfl
    refine hQ _ _ _ _ _ ?_
    exact W.iret (v := nI (spS (opnC w h bx0 by0 bx1 by1) g x y co).2.2) hx hb hr (fun t ht hW => ⟨⟨nI (spS (opnC w h bx0 by0 bx1 by1) g x y co).2.2, (), rfl, rfl, ⟨g_6, g_7, by rw [ht]; exact hP9, va_K.moved hW.alike hK9, hD9⟩⟩, hS.F ht⟩) hS.2.2 dX8_region_41
  · skip
    have f_4 := bz0 hr_2 c_3
    exact False.elim (by omega)

set_option maxHeartbeats 4000000 in
set_option maxRecDepth 100000 in
theorem k_X8_flood_y0e (l : Launch) (D : va_G) (sz : Nat) (h0 s1 s2 s3 s4 s5 s6 : Nat) (ds : Int32) (bt : Option Nat) (f : Nat → Option Nat) (bx : Nat) (ik wy op : Int32) (bx0 by0 bx1 by1 : Int32) (t0 d0 : Nat) (w h : Int32) (g : Nat → Int32) (k x y co : Int32) (cO : ClassId) (cI : ClassId) (hk : 0 ≤ k.toInt ∧ k.toInt ≤ 3) (hf : f k.toNatClampNeg = some t0) (hw : w.toInt ≤ 64) (hh : h.toInt ≤ 64) (hon : 0 ≤ x.toInt ∧ x.toInt < w.toInt ∧ 0 ≤ y.toInt ∧ y.toInt < h.toInt) (hwy : 0 ≤ wy.toInt ∧ wy.toInt ≤ 12) : Met l yX8_flood (wB yX8_flood cX8_flood 9 (some .int)) ({ frames := 5, cells := 3, slots := 8195, locals := 125 }) (cP D [(h0, .inr (8, [.ref s1, .ref s2, .ref s3, .ref s4, .ref s5, .ref s6, .int ds, .null, va_rf bt])), (s1, .inl (cO, 4, .inr (.inr (.inr (.inr f))))), (s2, .inr (1, [.ref bx, .int ik, .int wy, .int op])), (bx, .inr (0, [.int bx0, .int by0, .int bx1, .int by1])), (t0, .inr (5, [.ref d0, .int w, .int h])), (d0, .inl (cI, 4096, .inl g))] [(cO, .object "DotBench$Sheet"), (cI, .int)] sz [.ref h0, .int k, .int x, .int y, .int co]) (va_Qi (fun (r : Int32) (_ : Unit) => r = (plL (spS (opnC w h bx0 by0 bx1 by1) g x y co).2.1 ik op (spS (opnC w h bx0 by0 bx1 by1) g x y co).2.2).foldl (layT w h bx0 by0 bx1 by1) 0) (fun (_ : Unit) (t : State) => ∃ (sq v1 v2 : Nat), ∃ (g2 g3 : Nat → Int32), cB D (va_A [(h0, .inr (8, [.ref s1, .ref s2, .ref s3, .ref s4, .ref s5, .ref s6, .int ds, .null, va_rf bt])), (s1, .inl (cO, 4, .inr (.inr (.inr (.inr f))))), (s2, .inr (1, [.ref bx, .int ik, .int wy, .int op])), (bx, .inr (0, [.int bx0, .int by0, .int bx1, .int by1])), (t0, .inr (5, [.ref d0, .int w, .int h])), (d0, .inl (cI, 4096, .inl g))] sz) [(h0, .inr (8, [.ref s1, .ref s2, .ref s3, .ref s4, .ref s5, .ref s6, .int ds, .ref sq, va_rf bt])), (s1, .inl (cO, 4, .inr (.inr (.inr (.inr f))))), (s2, .inr (1, [.ref bx, .int ik, .int wy, .int op])), (bx, .inr (0, [.int bx0, .int by0, .int bx1, .int by1])), (t0, .inr (5, [.ref d0, .int w, .int h])), (d0, .inl (cI, 4096, .inl ((plL (spS (opnC w h bx0 by0 bx1 by1) g x y co).2.1 ik op (spS (opnC w h bx0 by0 bx1 by1) g x y co).2.2).foldl (layG w h bx0 by0 bx1 by1 wy) g))), (sq, .inr (6, [.ref v1, .ref v2, .int (nI (spS (opnC w h bx0 by0 bx1 by1) g x y co).2.2)])), (v1, .inl (cI, 4096, .inl g2)), (v2, .inl (cI, 4096, .inl g3))] [(cO, .object "DotBench$Sheet"), (cI, .int)] t) (va_A [(h0, .inr (8, [.ref s1, .ref s2, .ref s3, .ref s4, .ref s5, .ref s6, .int ds, .null, va_rf bt])), (s1, .inl (cO, 4, .inr (.inr (.inr (.inr f))))), (s2, .inr (1, [.ref bx, .int ik, .int wy, .int op])), (bx, .inr (0, [.int bx0, .int by0, .int bx1, .int by1])), (t0, .inr (5, [.ref d0, .int w, .int h])), (d0, .inl (cI, 4096, .inl g))] sz)) 3 8195 (va_A [(h0, .inr (8, [.ref s1, .ref s2, .ref s3, .ref s4, .ref s5, .ref s6, .int ds, .null, va_rf bt])), (s1, .inl (cO, 4, .inr (.inr (.inr (.inr f))))), (s2, .inr (1, [.ref bx, .int ik, .int wy, .int op])), (bx, .inr (0, [.int bx0, .int by0, .int bx1, .int by1])), (t0, .inr (5, [.ref d0, .int w, .int h])), (d0, .inl (cI, 4096, .inl g))] sz) := by
  refine Met.ofW (cc := cX8_flood) (maxL := 9) (ret := (some .int)) (by decide) rfl ?_
  intro p e s m args below meth c s₁ B hml hv
  obtain ⟨rfl, hsz, hP, hK, hD0, hN⟩ := hv
  have hx := B.exec
  have hb := B.bytes
  have hr := B.returns
  have hts0 := atoms_spec (ws := (wB yX8_flood cX8_flood 9 (some .int))) B.pre
  have hts : ∀ w ∈ bigW, w.before _ s = true := fun w h => hts0 w (List.mem_cons_of_mem _ h)
  have hown : s.vm.findClass RX8 = some m.cls := findClass_of_methodNamed B.named
  have hlocks := B.notSynchronized
  subst hsz
  have hD := hD0.self (sz := s.heap.size)
  generalize hAe : va_A [(h0, .inr (8, [.ref s1, .ref s2, .ref s3, .ref s4, .ref s5, .ref s6, .int ds, .null, va_rf bt])), (s1, .inl (cO, 4, .inr (.inr (.inr (.inr f))))), (s2, .inr (1, [.ref bx, .int ik, .int wy, .int op])), (bx, .inr (0, [.int bx0, .int by0, .int bx1, .int by1])), (t0, .inr (5, [.ref d0, .int w, .int h])), (d0, .inl (cI, 4096, .inl g))] s.heap.size = A at hD ⊢
  have hA : ∀ q : Nat, s.heap.size ≤ q → A q := fun q h => by rw [← hAe]; exact Or.inr h
  have hS : va_S A s.heap s.heap [] := va_S.rf
  have hP : va_P D vwCl [(h0, .inr (8, [.ref s1, .ref s2, .ref s3, .ref s4, .ref s5, .ref s6, .int ds, .null, va_rf bt])), (s1, .inl (cO, 4, .inr (.inr (.inr (.inr f))))), (s2, .inr (1, [.ref bx, .int ik, .int wy, .int op])), (bx, .inr (0, [.int bx0, .int by0, .int bx1, .int by1])), (t0, .inr (5, [.ref d0, .int w, .int h])), (d0, .inl (cI, 4096, .inl g))] s.heap := hP
  have hl := lv_entry ([.ref h0, .int k, .int x, .int y, .int co]) (n := 9) (Nat.le_of_ble_eq_true rfl)
  rw [lg_entry_eq]
  generalize (lg_sl ([.ref h0, .int k, .int x, .int y, .int co]) ++ List.replicate (9 - (lg_sl ([.ref h0, .int k, .int x, .int y, .int co])).length) Slot.unset).toArray = ls at hl ⊢
  have hl : lv_has ls 9 [(0, .ref h0), (1, .int k), (2, .int x), (3, .int y), (4, .int co)] := hl
  clear hts0 hD0 hAe
  refine my_abs (fun R Q hR hQ => ?_)
  refine lv_aload_n hx hb dX8_flood_0 rfl (lv_at hl 0 rfl) ?_
  refine lv_iload_n hx hb dX8_flood_1 rfl (lv_at hl 1 rfl) ?_
  have hPc := hP.sub (ws' := [(h0, .inr (8, [.ref s1, .ref s2, .ref s3, .ref s4, .ref s5, .ref s6, .int ds, .null, va_rf bt])), (s1, .inl (cO, 4, .inr (.inr (.inr (.inr f)))))]) [0, 1] rfl
  have hDc := hD.sub (ws' := [(h0, .inr (8, [.ref s1, .ref s2, .ref s3, .ref s4, .ref s5, .ref s6, .int ds, .null, va_rf bt])), (s1, .inl (cO, 4, .inr (.inr (.inr (.inr f)))))]) [0, 1] (by decide) rfl
  have hKc := hK.sub (tys' := [(cO, .object "DotBench$Sheet")]) [0] rfl
  have hFc := va_free (wc := [(h0, .inr (8, [.ref s1, .ref s2, .ref s3, .ref s4, .ref s5, .ref s6, .int ds, .null, va_rf bt])), (s1, .inl (cO, 4, .inr (.inr (.inr (.inr f)))))]) hD hS hA [0, 1] rfl
  refine va_callq (va_runV (As := [.int k]) (rest := []) ⟨hx, hb, hml, hown, hts⟩ (k_X8_sheetAt_y l D s.heap.size h0 s1 s2 s3 s4 s5 s6 ds none bt f k t0 cO (by first | assumption | omega | decide) (by first | assumption | omega | decide)) (cwV 1 hts (gV bw_267 bw_346 bw_347 bw_223 bw_345) rfl rfl rfl (by decide +kernel) ⟨(by rw [hR]; exact Nat.le_of_ble_eq_true rfl), (by rw [hR]; exact Nat.le_of_ble_eq_true rfl)⟩) ⟨cP_blind, va_recv hKc hPc (ci := 8) (q0 := 0) rfl rfl, cP_at hPc hKc hDc hN⟩ rfl rfl hl.1 rfl (lv_room (Nat.le_of_ble_eq_true rfl)) dX8_flood_2 ⟨(by rw [hR]; exact Nat.le_of_ble_eq_true rfl), (by rw [hR]; exact Nat.le_of_ble_eq_true rfl)⟩) hS (fun q _ h => hFc q h) hFc (fun r_1 u9 t9 H1 locs ht hvm hr_1 hB hz1 hk1 hS => ?_)
  try dsimp only at hr_1
  obtain ⟨hP1, hK1, hD1⟩ := hB
  rw [ht] at hP1
  obtain ⟨hP, hD⟩ := va_join (wr := [(s2, .inr (1, [.ref bx, .int ik, .int wy, .int op])), (bx, .inr (0, [.int bx0, .int by0, .int bx1, .int by1])), (t0, .inr (5, [.ref d0, .int w, .int h])), (d0, .inl (cI, 4096, .inl g))]) (w1 := [(h0, .inr (8, [.ref s1, .ref s2, .ref s3, .ref s4, .ref s5, .ref s6, .int ds, .null, va_rf bt])), (s1, .inl (cO, 4, .inr (.inr (.inr (.inr f)))))]) hP hD [0, 1] [2, 3, 4, 5] rfl rfl (by decide) (by decide) hk1 hFc hP1 hD1
  clear hz1 hk1 hFc hKc hDc hPc
  generalize H1 = H at hP hS ⊢
  have hP : va_P D vwCl [(s2, .inr (1, [.ref bx, .int ik, .int wy, .int op])), (bx, .inr (0, [.int bx0, .int by0, .int bx1, .int by1])), (t0, .inr (5, [.ref d0, .int w, .int h])), (d0, .inl (cI, 4096, .inl g)), (h0, .inr (8, [.ref s1, .ref s2, .ref s3, .ref s4, .ref s5, .ref s6, .int ds, .null, va_rf bt])), (s1, .inl (cO, 4, .inr (.inr (.inr (.inr f)))))] H := hP
  have hD : va_D A [(s2, .inr (1, [.ref bx, .int ik, .int wy, .int op])), (bx, .inr (0, [.int bx0, .int by0, .int bx1, .int by1])), (t0, .inr (5, [.ref d0, .int w, .int h])), (d0, .inl (cI, 4096, .inl g)), (h0, .inr (8, [.ref s1, .ref s2, .ref s3, .ref s4, .ref s5, .ref s6, .int ds, .null, va_rf bt])), (s1, .inl (cO, 4, .inr (.inr (.inr (.inr f)))))] := hD
  subst hr_1
  refine my_topv (v := .ref t0) rfl ?_
  refine lv_astore (lv' := [(5, .ref t0), (0, .ref h0), (1, .int k), (2, .int x), (3, .int y), (4, .int co)]) hx hb dX8_flood_5 hl (by decide) rfl (fun ls hl => ?_)
  refine lv_aload hx hb dX8_flood_7 (lv_at hl 0 rfl) ?_
  refine lv_ifnull hx hb dX8_flood_9 ?_
  refine lv_aload hx hb dX8_flood_12 (lv_at hl 0 rfl) ?_
  refine lv_iload_n hx hb dX8_flood_14 rfl (lv_at hl 3 rfl) ?_
  refine lv_iload_n hx hb dX8_flood_15 rfl (lv_at hl 4 rfl) ?_
  have hPc := hP.sub (ws' := [(t0, .inr (5, [.ref d0, .int w, .int h]))]) [2] rfl
  have hDc := hD.sub (ws' := [(t0, .inr (5, [.ref d0, .int w, .int h]))]) [2] (by decide) rfl
  have hKc := hK.sub (tys' := []) [] rfl
  have hFc := va_free (wc := [(t0, .inr (5, [.ref d0, .int w, .int h]))]) hD hS hA [2] rfl
  refine va_calli (va_runV (As := [.int x, .int y]) (rest := []) ⟨hx, hb, hml, hown, hts⟩ (k_X5_has l D H.size t0 d0 w h x y) (cwV 2 hts (gV bw_309 bw_150 bw_151 bw_130 bw_149) rfl rfl rfl (by decide +kernel) ⟨(by rw [hR]; exact Nat.le_of_ble_eq_true rfl), (by rw [hR]; exact Nat.le_of_ble_eq_true rfl)⟩) ⟨cP_blind, va_recv hKc hPc (ci := 5) (q0 := 0) rfl rfl, cP_at hPc hKc hDc hN⟩ rfl rfl hl.1 rfl (lv_room (Nat.le_of_ble_eq_true rfl)) dX8_flood_16 ⟨(by rw [hR]; exact Nat.le_of_ble_eq_true rfl), (by rw [hR]; exact Nat.le_of_ble_eq_true rfl)⟩) hS (fun q _ h => hFc q h) hFc (fun r_2 u9 t9 H1 locs ht hvm hr_2 hB hz1 hk1 hS => ?_)
  try dsimp only at hr_2
  obtain ⟨hP1, hK1, hD1⟩ := hB
  rw [ht] at hP1
  obtain ⟨hP, hD⟩ := va_join (wr := [(s2, .inr (1, [.ref bx, .int ik, .int wy, .int op])), (bx, .inr (0, [.int bx0, .int by0, .int bx1, .int by1])), (d0, .inl (cI, 4096, .inl g)), (h0, .inr (8, [.ref s1, .ref s2, .ref s3, .ref s4, .ref s5, .ref s6, .int ds, .null, va_rf bt])), (s1, .inl (cO, 4, .inr (.inr (.inr (.inr f)))))]) (w1 := [(t0, .inr (5, [.ref d0, .int w, .int h]))]) hP hD [2] [0, 1, 3, 4, 5] rfl rfl (by decide) (by decide) hk1 hFc hP1 hD1
  clear hz1 hk1 hFc hKc hDc hPc
  generalize H1 = H at hP hS ⊢
  have hP : va_P D vwCl [(s2, .inr (1, [.ref bx, .int ik, .int wy, .int op])), (bx, .inr (0, [.int bx0, .int by0, .int bx1, .int by1])), (d0, .inl (cI, 4096, .inl g)), (h0, .inr (8, [.ref s1, .ref s2, .ref s3, .ref s4, .ref s5, .ref s6, .int ds, .null, va_rf bt])), (s1, .inl (cO, 4, .inr (.inr (.inr (.inr f))))), (t0, .inr (5, [.ref d0, .int w, .int h]))] H := hP
  have hD : va_D A [(s2, .inr (1, [.ref bx, .int ik, .int wy, .int op])), (bx, .inr (0, [.int bx0, .int by0, .int bx1, .int by1])), (d0, .inl (cI, 4096, .inl g)), (h0, .inr (8, [.ref s1, .ref s2, .ref s3, .ref s4, .ref s5, .ref s6, .int ds, .null, va_rf bt])), (s1, .inl (cO, 4, .inr (.inr (.inr (.inr f))))), (t0, .inr (5, [.ref d0, .int w, .int h]))] := hD
  refine lv_if_ne (tgt := 24) hx hb dX8_flood_19 (by decide) (fun c_3 => ?_) (fun c_3 => ?_)
  · skip
    have f_4 := bz1 hr_2 c_3
    refine lv_aload_n hx hb dX8_flood_24 rfl (lv_at hl 1 rfl) ?_
    refine lv_aload hx hb dX8_flood_25 (lv_at hl 0 rfl) ?_
    refine lv_aload_n hx hb dX8_flood_27 rfl (lv_at hl 1 rfl) ?_
    refine va_get (D := D) (ci := 8) (v := .ref s2) (C := RX8) (T := TX8) (N := 9) hx hb hts hi_X8 hown hK hP 3 rfl rfl 1 (by decide) (hts _ bw_231) (fun _ h9 => h9) rfl dX8_flood_28 ?_
    refine va_getN (host := RX8) (D := D) (ci := 1) (v := .ref bx) (C := RX1) (T := TX1) (N := 4) hx hb hts hi_X1 hown hK hP 0 rfl rfl 0 (by decide) ((hN.1 (RX8, 89, "DotBench$Brush", "clip", "LDotBench$Box;", RX8) (by decide +kernel)).use rfl) (fun _ h9 => h9) rfl dX8_flood_31 ?_
    refine lv_iload_n hx hb dX8_flood_34 rfl (lv_at hl 3 rfl) ?_
    refine lv_iload_n hx hb dX8_flood_35 rfl (lv_at hl 4 rfl) ?_
    refine lv_iload hx hb dX8_flood_36 (lv_at hl 5 rfl) ?_
    have hPc := hP.sub (ws' := [(h0, .inr (8, [.ref s1, .ref s2, .ref s3, .ref s4, .ref s5, .ref s6, .int ds, .null, va_rf bt])), (t0, .inr (5, [.ref d0, .int w, .int h])), (d0, .inl (cI, 4096, .inl g)), (bx, .inr (0, [.int bx0, .int by0, .int bx1, .int by1]))]) [3, 5, 2, 1] rfl
    have hDc := hD.sub (ws' := [(h0, .inr (8, [.ref s1, .ref s2, .ref s3, .ref s4, .ref s5, .ref s6, .int ds, .null, va_rf bt])), (t0, .inr (5, [.ref d0, .int w, .int h])), (d0, .inl (cI, 4096, .inl g)), (bx, .inr (0, [.int bx0, .int by0, .int bx1, .int by1]))]) [3, 5, 2, 1] (by decide) rfl
    have hKc := hK.sub (tys' := [(cI, .int)]) [1] rfl
    have hFc := va_free (wc := [(h0, .inr (8, [.ref s1, .ref s2, .ref s3, .ref s4, .ref s5, .ref s6, .int ds, .null, va_rf bt])), (t0, .inr (5, [.ref d0, .int w, .int h])), (d0, .inl (cI, 4096, .inl g)), (bx, .inr (0, [.int bx0, .int by0, .int bx1, .int by1]))]) hD hS hA [3, 5, 2, 1] rfl
    refine va_callq (va_runV (As := [.ref t0, .ref bx, .int x, .int y, .int co]) (rest := []) ⟨hx, hb, hml, hown, hts⟩ (k_X8_gathered_0e l D H.size h0 s1 s2 s3 s4 s5 s6 ds bt t0 d0 bx w h g bx0 by0 bx1 by1 x y co cI (by first | assumption | omega | decide) (by first | assumption | omega | decide) (by first | assumption | omega | decide)) (cwV 5 hts (gV bw_310 bw_378 bw_379 bw_223 bw_377) rfl rfl rfl (by decide +kernel) ⟨(by rw [hR]; exact Nat.le_of_ble_eq_true rfl), (by rw [hR]; exact Nat.le_of_ble_eq_true rfl)⟩) ⟨cP_blind, va_recv hKc hPc (ci := 8) (q0 := 0) rfl rfl, cP_at hPc hKc hDc hN⟩ rfl rfl hl.1 rfl (lv_room (Nat.le_of_ble_eq_true rfl)) dX8_flood_38 ⟨(by rw [hR]; exact Nat.le_of_ble_eq_true rfl), (by rw [hR]; exact Nat.le_of_ble_eq_true rfl)⟩) hS (fun q _ h => hFc q h) hFc (fun r_5 q_6 t9 H1 locs ht hvm hr_5 hB hz1 hk1 hS => ?_)
    try dsimp only at hr_5
    obtain ⟨q_7, q_8, g_9, g_10, b_11, b_12, b_13, hP1, hK1, hD1⟩ := hB
    rw [ht] at hP1
    obtain ⟨hP, hD⟩ := va_join (wr := [(s2, .inr (1, [.ref bx, .int ik, .int wy, .int op])), (s1, .inl (cO, 4, .inr (.inr (.inr (.inr f)))))]) (w1 := [(h0, .inr (8, [.ref s1, .ref s2, .ref s3, .ref s4, .ref s5, .ref s6, .int ds, .ref q_6, va_rf bt])), (q_6, .inr (6, [.ref q_7, .ref q_8, .int (nI (spS (opnC w h bx0 by0 bx1 by1) g x y co).2.2)])), (q_7, .inl (cI, 4096, .inl g_9)), (q_8, .inl (cI, 4096, .inl g_10)), (t0, .inr (5, [.ref d0, .int w, .int h])), (d0, .inl (cI, 4096, .inl g)), (bx, .inr (0, [.int bx0, .int by0, .int bx1, .int by1]))]) hP hD [3, 5, 2, 1] [0, 4] rfl rfl (by decide) (by decide) hk1 hFc hP1 hD1
    clear hz1 hk1 hFc hKc hDc hPc
    generalize H1 = H at hP hS ⊢
    have hP : va_P D vwCl [(s2, .inr (1, [.ref bx, .int ik, .int wy, .int op])), (s1, .inl (cO, 4, .inr (.inr (.inr (.inr f))))), (h0, .inr (8, [.ref s1, .ref s2, .ref s3, .ref s4, .ref s5, .ref s6, .int ds, .ref q_6, va_rf bt])), (q_6, .inr (6, [.ref q_7, .ref q_8, .int (nI (spS (opnC w h bx0 by0 bx1 by1) g x y co).2.2)])), (q_7, .inl (cI, 4096, .inl g_9)), (q_8, .inl (cI, 4096, .inl g_10)), (t0, .inr (5, [.ref d0, .int w, .int h])), (d0, .inl (cI, 4096, .inl g)), (bx, .inr (0, [.int bx0, .int by0, .int bx1, .int by1]))] H := hP
    have hD : va_D A [(s2, .inr (1, [.ref bx, .int ik, .int wy, .int op])), (s1, .inl (cO, 4, .inr (.inr (.inr (.inr f))))), (h0, .inr (8, [.ref s1, .ref s2, .ref s3, .ref s4, .ref s5, .ref s6, .int ds, .ref q_6, va_rf bt])), (q_6, .inr (6, [.ref q_7, .ref q_8, .int (nI (spS (opnC w h bx0 by0 bx1 by1) g x y co).2.2)])), (q_7, .inl (cI, 4096, .inl g_9)), (q_8, .inl (cI, 4096, .inl g_10)), (t0, .inr (5, [.ref d0, .int w, .int h])), (d0, .inl (cI, 4096, .inl g)), (bx, .inr (0, [.int bx0, .int by0, .int bx1, .int by1]))] := hD
    refine W.widen (k := 3) (n := 8195) (by omega) (by omega) ?_
    obtain ⟨S9, eS9⟩ : ∃ q, q = (spS (opnC w h bx0 by0 bx1 by1) g x y co).2.2 := ⟨_, rfl⟩
    have hS9 : S9 ≤ 4096 := by rw [eS9]; exact b_13
    have hS9t : (nI (spS (opnC w h bx0 by0 bx1 by1) g x y co).2.2).toInt = (S9 : Int) := by rw [← eS9]; exact nI_toInt (by omega)
    subst hr_5
    refine my_topv (v := .ref q_6) rfl ?_
    refine lv_astore (lv' := [(6, .ref q_6), (5, .ref t0), (0, .ref h0), (1, .int k), (2, .int x), (3, .int y), (4, .int co)]) hx hb dX8_flood_41 hl (by decide) rfl (fun ls hl => ?_)
    refine lv_iconst (v := 0) hx hb dX8_flood_43 (by decide) ?_
    refine lv_istore (lv' := [(7, .int 0), (6, .ref q_6), (5, .ref t0), (0, .ref h0), (1, .int k), (2, .int x), (3, .int y), (4, .int co)]) hx hb dX8_flood_44 hl (by decide) rfl (fun ls hl => ?_)
    refine lv_iconst (v := 0) hx hb dX8_flood_46 (by decide) ?_
    refine lv_istore (lv' := [(8, .int 0), (7, .int 0), (6, .ref q_6), (5, .ref t0), (0, .ref h0), (1, .int k), (2, .int x), (3, .int y), (4, .int co)]) hx hb dX8_flood_47 hl (by decide) rfl (fun ls hl => ?_)
    have loop_14 : ∀ (n : Nat) (j : Nat) (x8 : Int32) (x7 : Int32) (gd : Nat → Int32) (H : Heap) (locs : List Loc) (ls : Array Slot), (j ≤ 4096) → (4096 + 1 ≤ j + n) → (x8 = nI j) → (j ≤ S9) → (gd = (plL (spS (opnC w h bx0 by0 bx1 by1) g x y co).2.1 ik op j).foldl (layG w h bx0 by0 bx1 by1 wy) g) → (x7 = (plL (spS (opnC w h bx0 by0 bx1 by1) g x y co).2.1 ik op j).foldl (layT w h bx0 by0 bx1 by1) 0) → va_P D vwCl [(s2, .inr (1, [.ref bx, .int ik, .int wy, .int op])), (s1, .inl (cO, 4, .inr (.inr (.inr (.inr f))))), (h0, .inr (8, [.ref s1, .ref s2, .ref s3, .ref s4, .ref s5, .ref s6, .int ds, .ref q_6, va_rf bt])), (q_6, .inr (6, [.ref q_7, .ref q_8, .int (nI (spS (opnC w h bx0 by0 bx1 by1) g x y co).2.2)])), (q_7, .inl (cI, 4096, .inl g_9)), (q_8, .inl (cI, 4096, .inl g_10)), (t0, .inr (5, [.ref d0, .int w, .int h])), (d0, .inl (cI, 4096, .inl gd)), (bx, .inr (0, [.int bx0, .int by0, .int bx1, .int by1]))] H → va_D A [(s2, .inr (1, [.ref bx, .int ik, .int wy, .int op])), (s1, .inl (cO, 4, .inr (.inr (.inr (.inr f))))), (h0, .inr (8, [.ref s1, .ref s2, .ref s3, .ref s4, .ref s5, .ref s6, .int ds, .ref q_6, va_rf bt])), (q_6, .inr (6, [.ref q_7, .ref q_8, .int (nI (spS (opnC w h bx0 by0 bx1 by1) g x y co).2.2)])), (q_7, .inl (cI, 4096, .inl g_9)), (q_8, .inl (cI, 4096, .inl g_10)), (t0, .inr (5, [.ref d0, .int w, .int h])), (d0, .inl (cI, 4096, .inl gd)), (bx, .inr (0, [.int bx0, .int by0, .int bx1, .int by1]))] → va_S A s.heap H locs → lv_has ls 9 [(8, .int x8), (7, .int x7), (6, .ref q_6), (5, .ref t0), (0, .ref h0), (1, .int k), (2, .int x), (3, .int y), (4, .int co)] → W p l e R s m ([.ref h0, .int k, .int x, .int y, .int co] : List Value).toArray below meth c H locs 3 8195 Q (F0 m 49 ls []) := by
      intro n
      induction n with
      | zero =>
        intro j x8 x7 gd H locs ls hi_j hm_j ex_j hjS hgo eto hP hD hS hl
        exact absurd (show False by omega) not_false
      | succ n ih_15 =>
        intro j x8 x7 gd H locs ls hi_j hm_j ex_j hjS hgo eto hP hD hS hl
        have hx_j : x8.toInt = (j : Int) := by rw [ex_j]; exact nI_toInt (by omega)
        have hc_j : x8.toNatClampNeg = j := by rw [ex_j]; exact nI_clamp (by omega)
        refine lv_iload hx hb dX8_flood_49 (lv_at hl 0 rfl) ?_
        refine lv_aload hx hb dX8_flood_51 (lv_at hl 2 rfl) ?_
        refine va_getN (host := RX8) (D := D) (ci := 6) (v := .int (nI (spS (opnC w h bx0 by0 bx1 by1) g x y co).2.2)) (C := RX6) (T := TX6) (N := 3) hx hb hts hi_X6 hown hK hP 3 rfl rfl 2 (by decide) ((hN.1 (RX8, 180, "DotBench$Spread", "size", "I", RX8) (by decide +kernel)).use rfl) (fun _ h9 => h9) rfl dX8_flood_53 ?_
        refine lv_icmp_ge (tgt := 107) hx hb dX8_flood_56 (by decide) (fun c_16 => ?_) (fun c_16 => ?_)
        · skip
          have f_17 : (S9 : Int) ≤ (j : Int) := f_le hS9t hx_j c_16
          refine lv_iload hx hb dX8_flood_107 (lv_at hl 1 rfl) ?_
          have hP : va_P D vwCl [(s2, .inr (1, [.ref bx, .int ik, .int wy, .int op])), (s1, .inl (cO, 4, .inr (.inr (.inr (.inr f))))), (h0, .inr (8, [.ref s1, .ref s2, .ref s3, .ref s4, .ref s5, .ref s6, .int ds, .ref q_6, va_rf bt])), (q_6, .inr (6, [.ref q_7, .ref q_8, .int (nI (spS (opnC w h bx0 by0 bx1 by1) g x y co).2.2)])), (q_7, .inl (cI, 4096, .inl g_9)), (q_8, .inl (cI, 4096, .inl g_10)), (t0, .inr (5, [.ref d0, .int w, .int h])), (d0, .inl (cI, 4096, .inl ((plL (spS (opnC w h bx0 by0 bx1 by1) g x y co).2.1 ik op (spS (opnC w h bx0 by0 bx1 by1) g x y co).2.2).foldl (layG w h bx0 by0 bx1 by1 wy) g))), (bx, .inr (0, [.int bx0, .int by0, .int bx1, .int by1]))] H := by rw [show (plL (spS (opnC w h bx0 by0 bx1 by1) g x y co).2.1 ik op (spS (opnC w h bx0 by0 bx1 by1) g x y co).2.2) = plL (spS (opnC w h bx0 by0 bx1 by1) g x y co).2.1 ik op j by rw [← eS9, ← show j = S9 by omega], ← hgo]; exact hP
          have hD : va_D A [(s2, .inr (1, [.ref bx, .int ik, .int wy, .int op])), (s1, .inl (cO, 4, .inr (.inr (.inr (.inr f))))), (h0, .inr (8, [.ref s1, .ref s2, .ref s3, .ref s4, .ref s5, .ref s6, .int ds, .ref q_6, va_rf bt])), (q_6, .inr (6, [.ref q_7, .ref q_8, .int (nI (spS (opnC w h bx0 by0 bx1 by1) g x y co).2.2)])), (q_7, .inl (cI, 4096, .inl g_9)), (q_8, .inl (cI, 4096, .inl g_10)), (t0, .inr (5, [.ref d0, .int w, .int h])), (d0, .inl (cI, 4096, .inl ((plL (spS (opnC w h bx0 by0 bx1 by1) g x y co).2.1 ik op (spS (opnC w h bx0 by0 bx1 by1) g x y co).2.2).foldl (layG w h bx0 by0 bx1 by1 wy) g))), (bx, .inr (0, [.int bx0, .int by0, .int bx1, .int by1]))] := by rw [show (plL (spS (opnC w h bx0 by0 bx1 by1) g x y co).2.1 ik op (spS (opnC w h bx0 by0 bx1 by1) g x y co).2.2) = plL (spS (opnC w h bx0 by0 bx1 by1) g x y co).2.1 ik op j by rw [← eS9, ← show j = S9 by omega], ← hgo]; exact hD
          have hP9 := hP.sub (ws' := [(h0, .inr (8, [.ref s1, .ref s2, .ref s3, .ref s4, .ref s5, .ref s6, .int ds, .ref q_6, va_rf bt])), (s1, .inl (cO, 4, .inr (.inr (.inr (.inr f))))), (s2, .inr (1, [.ref bx, .int ik, .int wy, .int op])), (bx, .inr (0, [.int bx0, .int by0, .int bx1, .int by1])), (t0, .inr (5, [.ref d0, .int w, .int h])), (d0, .inl (cI, 4096, .inl ((plL (spS (opnC w h bx0 by0 bx1 by1) g x y co).2.1 ik op (spS (opnC w h bx0 by0 bx1 by1) g x y co).2.2).foldl (layG w h bx0 by0 bx1 by1 wy) g))), (q_6, .inr (6, [.ref q_7, .ref q_8, .int (nI (spS (opnC w h bx0 by0 bx1 by1) g x y co).2.2)])), (q_7, .inl (cI, 4096, .inl g_9)), (q_8, .inl (cI, 4096, .inl g_10))]) [2, 1, 0, 8, 6, 7, 3, 4, 5] rfl
          have hD9 := hD.sub (ws' := [(h0, .inr (8, [.ref s1, .ref s2, .ref s3, .ref s4, .ref s5, .ref s6, .int ds, .ref q_6, va_rf bt])), (s1, .inl (cO, 4, .inr (.inr (.inr (.inr f))))), (s2, .inr (1, [.ref bx, .int ik, .int wy, .int op])), (bx, .inr (0, [.int bx0, .int by0, .int bx1, .int by1])), (t0, .inr (5, [.ref d0, .int w, .int h])), (d0, .inl (cI, 4096, .inl ((plL (spS (opnC w h bx0 by0 bx1 by1) g x y co).2.1 ik op (spS (opnC w h bx0 by0 bx1 by1) g x y co).2.2).foldl (layG w h bx0 by0 bx1 by1 wy) g))), (q_6, .inr (6, [.ref q_7, .ref q_8, .int (nI (spS (opnC w h bx0 by0 bx1 by1) g x y co).2.2)])), (q_7, .inl (cI, 4096, .inl g_9)), (q_8, .inl (cI, 4096, .inl g_10))]) [2, 1, 0, 8, 6, 7, 3, 4, 5] (by decide) rfl
          have hK9 := hK.sub (tys' := [(cO, .object "DotBench$Sheet"), (cI, .int)]) [0, 1] rfl
          refine hQ _ _ _ _ _ ?_
          exact W.iret (v := x7) hx hb hr (fun t ht hW => ⟨⟨x7, (), rfl, (by rw [← eS9, ← show j = S9 by omega]; exact eto), ⟨q_6, q_7, q_8, g_9, g_10, by rw [ht]; exact hP9, va_K.moved hW.alike hK9, hD9⟩⟩, hS.F ht⟩) hS.2.2 dX8_flood_109
        · skip
          have f_17 : ¬ ((S9 : Int) ≤ (j : Int)) := fn_le hS9t hx_j c_16
          refine lv_iload hx hb dX8_flood_59 (lv_at hl 1 rfl) ?_
          refine lv_aload_n hx hb dX8_flood_61 rfl (lv_at hl 4 rfl) ?_
          refine va_get (D := D) (ci := 8) (v := .ref s2) (C := RX8) (T := TX8) (N := 9) hx hb hts hi_X8 hown hK hP 2 rfl rfl 1 (by decide) (hts _ bw_231) (fun _ h9 => h9) rfl dX8_flood_62 ?_
          refine lv_aload hx hb dX8_flood_65 (lv_at hl 3 rfl) ?_
          refine lv_aload hx hb dX8_flood_67 (lv_at hl 2 rfl) ?_
          refine lv_iload hx hb dX8_flood_69 (lv_at hl 0 rfl) ?_
          have hPc := hP.sub (ws' := [(q_6, .inr (6, [.ref q_7, .ref q_8, .int (nI (spS (opnC w h bx0 by0 bx1 by1) g x y co).2.2)])), (q_7, .inl (cI, 4096, .inl g_9))]) [3, 4] rfl
          have hDc := hD.sub (ws' := [(q_6, .inr (6, [.ref q_7, .ref q_8, .int (nI (spS (opnC w h bx0 by0 bx1 by1) g x y co).2.2)])), (q_7, .inl (cI, 4096, .inl g_9))]) [3, 4] (by decide) rfl
          have hKc := hK.sub (tys' := [(cI, .int)]) [1] rfl
          have hFc := va_free (wc := [(q_6, .inr (6, [.ref q_7, .ref q_8, .int (nI (spS (opnC w h bx0 by0 bx1 by1) g x y co).2.2)])), (q_7, .inl (cI, 4096, .inl g_9))]) hD hS hA [3, 4] rfl
          refine va_calli (va_runV (As := [.int x8]) (rest := [.ref t0, .ref s2, .int x7]) ⟨hx, hb, hml, hown, hts⟩ (k_X6_xAt_e l D H.size q_6 q_7 q_8 (nI (spS (opnC w h bx0 by0 bx1 by1) g x y co).2.2) g_9 x8 cI (by first | assumption | omega | decide)) (cwV 1 hts (gV bw_311 bw_185 bw_186 bw_168 bw_184) rfl rfl rfl (by decide +kernel) ⟨(by rw [hR]; exact Nat.le_of_ble_eq_true rfl), (by rw [hR]; exact Nat.le_of_ble_eq_true rfl)⟩) ⟨cP_blind, va_recv hKc hPc (ci := 6) (q0 := 0) rfl rfl, cP_at hPc hKc hDc hN⟩ rfl rfl hl.1 rfl (lv_room (Nat.le_of_ble_eq_true rfl)) dX8_flood_71 ⟨(by rw [hR]; exact Nat.le_of_ble_eq_true rfl), (by rw [hR]; exact Nat.le_of_ble_eq_true rfl)⟩) hS (fun q _ h => hFc q h) hFc (fun r_18 u9 t9 H1 locs ht hvm hr_18 hB hz1 hk1 hS => ?_)
          try dsimp only at hr_18
          obtain ⟨hP1, hK1, hD1⟩ := hB
          rw [ht] at hP1
          obtain ⟨hP, hD⟩ := va_join (wr := [(s2, .inr (1, [.ref bx, .int ik, .int wy, .int op])), (s1, .inl (cO, 4, .inr (.inr (.inr (.inr f))))), (h0, .inr (8, [.ref s1, .ref s2, .ref s3, .ref s4, .ref s5, .ref s6, .int ds, .ref q_6, va_rf bt])), (q_8, .inl (cI, 4096, .inl g_10)), (t0, .inr (5, [.ref d0, .int w, .int h])), (d0, .inl (cI, 4096, .inl gd)), (bx, .inr (0, [.int bx0, .int by0, .int bx1, .int by1]))]) (w1 := [(q_6, .inr (6, [.ref q_7, .ref q_8, .int (nI (spS (opnC w h bx0 by0 bx1 by1) g x y co).2.2)])), (q_7, .inl (cI, 4096, .inl g_9))]) hP hD [3, 4] [0, 1, 2, 5, 6, 7, 8] rfl rfl (by decide) (by decide) hk1 hFc hP1 hD1
          clear hz1 hk1 hFc hKc hDc hPc
          generalize H1 = H at hP hS ⊢
          have hP : va_P D vwCl [(s2, .inr (1, [.ref bx, .int ik, .int wy, .int op])), (s1, .inl (cO, 4, .inr (.inr (.inr (.inr f))))), (h0, .inr (8, [.ref s1, .ref s2, .ref s3, .ref s4, .ref s5, .ref s6, .int ds, .ref q_6, va_rf bt])), (q_8, .inl (cI, 4096, .inl g_10)), (t0, .inr (5, [.ref d0, .int w, .int h])), (d0, .inl (cI, 4096, .inl gd)), (bx, .inr (0, [.int bx0, .int by0, .int bx1, .int by1])), (q_6, .inr (6, [.ref q_7, .ref q_8, .int (nI (spS (opnC w h bx0 by0 bx1 by1) g x y co).2.2)])), (q_7, .inl (cI, 4096, .inl g_9))] H := hP
          have hD : va_D A [(s2, .inr (1, [.ref bx, .int ik, .int wy, .int op])), (s1, .inl (cO, 4, .inr (.inr (.inr (.inr f))))), (h0, .inr (8, [.ref s1, .ref s2, .ref s3, .ref s4, .ref s5, .ref s6, .int ds, .ref q_6, va_rf bt])), (q_8, .inl (cI, 4096, .inl g_10)), (t0, .inr (5, [.ref d0, .int w, .int h])), (d0, .inl (cI, 4096, .inl gd)), (bx, .inr (0, [.int bx0, .int by0, .int bx1, .int by1])), (q_6, .inr (6, [.ref q_7, .ref q_8, .int (nI (spS (opnC w h bx0 by0 bx1 by1) g x y co).2.2)])), (q_7, .inl (cI, 4096, .inl g_9))] := hD
          have hpr_18 : r_18 = pX ((spS (opnC w h bx0 by0 bx1 by1) g x y co).2.1 j) := by rw [hr_18, if_pos (by omega), hc_j, b_11 j (by omega)]
          refine lv_aload hx hb dX8_flood_74 (lv_at hl 2 rfl) ?_
          refine lv_iload hx hb dX8_flood_76 (lv_at hl 0 rfl) ?_
          have hPc := hP.sub (ws' := [(q_6, .inr (6, [.ref q_7, .ref q_8, .int (nI (spS (opnC w h bx0 by0 bx1 by1) g x y co).2.2)])), (q_7, .inl (cI, 4096, .inl g_9))]) [7, 8] rfl
          have hDc := hD.sub (ws' := [(q_6, .inr (6, [.ref q_7, .ref q_8, .int (nI (spS (opnC w h bx0 by0 bx1 by1) g x y co).2.2)])), (q_7, .inl (cI, 4096, .inl g_9))]) [7, 8] (by decide) rfl
          have hKc := hK.sub (tys' := [(cI, .int)]) [1] rfl
          have hFc := va_free (wc := [(q_6, .inr (6, [.ref q_7, .ref q_8, .int (nI (spS (opnC w h bx0 by0 bx1 by1) g x y co).2.2)])), (q_7, .inl (cI, 4096, .inl g_9))]) hD hS hA [7, 8] rfl
          refine va_calli (va_runV (As := [.int x8]) (rest := [.int r_18, .ref t0, .ref s2, .int x7]) ⟨hx, hb, hml, hown, hts⟩ (k_X6_yAt_e l D H.size q_6 q_7 q_8 (nI (spS (opnC w h bx0 by0 bx1 by1) g x y co).2.2) g_9 x8 cI (by first | assumption | omega | decide)) (cwV 1 hts (gV bw_312 bw_188 bw_189 bw_168 bw_187) rfl rfl rfl (by decide +kernel) ⟨(by rw [hR]; exact Nat.le_of_ble_eq_true rfl), (by rw [hR]; exact Nat.le_of_ble_eq_true rfl)⟩) ⟨cP_blind, va_recv hKc hPc (ci := 6) (q0 := 0) rfl rfl, cP_at hPc hKc hDc hN⟩ rfl rfl hl.1 rfl (lv_room (Nat.le_of_ble_eq_true rfl)) dX8_flood_78 ⟨(by rw [hR]; exact Nat.le_of_ble_eq_true rfl), (by rw [hR]; exact Nat.le_of_ble_eq_true rfl)⟩) hS (fun q _ h => hFc q h) hFc (fun r_19 u9 t9 H1 locs ht hvm hr_19 hB hz1 hk1 hS => ?_)
          try dsimp only at hr_19
          obtain ⟨hP1, hK1, hD1⟩ := hB
          rw [ht] at hP1
          obtain ⟨hP, hD⟩ := va_join (wr := [(s2, .inr (1, [.ref bx, .int ik, .int wy, .int op])), (s1, .inl (cO, 4, .inr (.inr (.inr (.inr f))))), (h0, .inr (8, [.ref s1, .ref s2, .ref s3, .ref s4, .ref s5, .ref s6, .int ds, .ref q_6, va_rf bt])), (q_8, .inl (cI, 4096, .inl g_10)), (t0, .inr (5, [.ref d0, .int w, .int h])), (d0, .inl (cI, 4096, .inl gd)), (bx, .inr (0, [.int bx0, .int by0, .int bx1, .int by1]))]) (w1 := [(q_6, .inr (6, [.ref q_7, .ref q_8, .int (nI (spS (opnC w h bx0 by0 bx1 by1) g x y co).2.2)])), (q_7, .inl (cI, 4096, .inl g_9))]) hP hD [7, 8] [0, 1, 2, 3, 4, 5, 6] rfl rfl (by decide) (by decide) hk1 hFc hP1 hD1
          clear hz1 hk1 hFc hKc hDc hPc
          generalize H1 = H at hP hS ⊢
          have hP : va_P D vwCl [(s2, .inr (1, [.ref bx, .int ik, .int wy, .int op])), (s1, .inl (cO, 4, .inr (.inr (.inr (.inr f))))), (h0, .inr (8, [.ref s1, .ref s2, .ref s3, .ref s4, .ref s5, .ref s6, .int ds, .ref q_6, va_rf bt])), (q_8, .inl (cI, 4096, .inl g_10)), (t0, .inr (5, [.ref d0, .int w, .int h])), (d0, .inl (cI, 4096, .inl gd)), (bx, .inr (0, [.int bx0, .int by0, .int bx1, .int by1])), (q_6, .inr (6, [.ref q_7, .ref q_8, .int (nI (spS (opnC w h bx0 by0 bx1 by1) g x y co).2.2)])), (q_7, .inl (cI, 4096, .inl g_9))] H := hP
          have hD : va_D A [(s2, .inr (1, [.ref bx, .int ik, .int wy, .int op])), (s1, .inl (cO, 4, .inr (.inr (.inr (.inr f))))), (h0, .inr (8, [.ref s1, .ref s2, .ref s3, .ref s4, .ref s5, .ref s6, .int ds, .ref q_6, va_rf bt])), (q_8, .inl (cI, 4096, .inl g_10)), (t0, .inr (5, [.ref d0, .int w, .int h])), (d0, .inl (cI, 4096, .inl gd)), (bx, .inr (0, [.int bx0, .int by0, .int bx1, .int by1])), (q_6, .inr (6, [.ref q_7, .ref q_8, .int (nI (spS (opnC w h bx0 by0 bx1 by1) g x y co).2.2)])), (q_7, .inl (cI, 4096, .inl g_9))] := hD
          have hpr_19 : r_19 = pY ((spS (opnC w h bx0 by0 bx1 by1) g x y co).2.1 j) := by rw [hr_19, if_pos (by omega), hc_j, b_11 j (by omega)]
          refine lv_aload_n hx hb dX8_flood_81 rfl (lv_at hl 4 rfl) ?_
          refine va_get (D := D) (ci := 8) (v := .ref s2) (C := RX8) (T := TX8) (N := 9) hx hb hts hi_X8 hown hK hP 2 rfl rfl 1 (by decide) (hts _ bw_231) (fun _ h9 => h9) rfl dX8_flood_82 ?_
          refine va_getN (host := RX8) (D := D) (ci := 1) (v := .int ik) (C := RX1) (T := TX1) (N := 4) hx hb hts hi_X1 hown hK hP 0 rfl rfl 1 (by decide) ((hN.1 (RX8, 76, "DotBench$Brush", "ink", "I", RX8) (by decide +kernel)).use rfl) (fun _ h9 => h9) rfl dX8_flood_85 ?_
          refine lv_aload_n hx hb dX8_flood_88 rfl (lv_at hl 4 rfl) ?_
          refine va_get (D := D) (ci := 8) (v := .ref s2) (C := RX8) (T := TX8) (N := 9) hx hb hts hi_X8 hown hK hP 2 rfl rfl 1 (by decide) (hts _ bw_231) (fun _ h9 => h9) rfl dX8_flood_89 ?_
          refine va_getN (host := RX8) (D := D) (ci := 1) (v := .int op) (C := RX1) (T := TX1) (N := 4) hx hb hts hi_X1 hown hK hP 0 rfl rfl 3 (by decide) ((hN.1 (RX8, 86, "DotBench$Brush", "opacity", "I", RX8) (by decide +kernel)).use rfl) (fun _ h9 => h9) rfl dX8_flood_92 ?_
          have hPc := hP.sub (ws' := [(s2, .inr (1, [.ref bx, .int ik, .int wy, .int op])), (bx, .inr (0, [.int bx0, .int by0, .int bx1, .int by1])), (t0, .inr (5, [.ref d0, .int w, .int h])), (d0, .inl (cI, 4096, .inl gd))]) [0, 6, 4, 5] rfl
          have hDc := hD.sub (ws' := [(s2, .inr (1, [.ref bx, .int ik, .int wy, .int op])), (bx, .inr (0, [.int bx0, .int by0, .int bx1, .int by1])), (t0, .inr (5, [.ref d0, .int w, .int h])), (d0, .inl (cI, 4096, .inl gd))]) [0, 6, 4, 5] (by decide) rfl
          have hKc := hK.sub (tys' := [(cI, .int)]) [1] rfl
          have hFc := va_free (wc := [(s2, .inr (1, [.ref bx, .int ik, .int wy, .int op])), (bx, .inr (0, [.int bx0, .int by0, .int bx1, .int by1])), (t0, .inr (5, [.ref d0, .int w, .int h])), (d0, .inl (cI, 4096, .inl gd))]) hD hS hA [0, 6, 4, 5] rfl
          refine va_calli (va_runV (As := [.ref t0, .int r_18, .int r_19, .int ik, .int op]) (rest := [.int x7]) ⟨hx, hb, hml, hown, hts⟩ (k_X1_lay l D H.size s2 bx ik wy op t0 d0 bx0 by0 bx1 by1 w h gd r_18 r_19 ik op cI (by first | assumption | omega | decide) (by first | assumption | omega | decide) (by first | assumption | omega | decide)) (cwV 5 hts (gV bw_276 bw_33 bw_34 bw_19 bw_32) rfl rfl rfl (by decide +kernel) ⟨(by rw [hR]; exact Nat.le_of_ble_eq_true rfl), (by rw [hR]; exact Nat.le_of_ble_eq_true rfl)⟩) ⟨cP_blind, va_recv hKc hPc (ci := 1) (q0 := 0) rfl rfl, cP_at hPc hKc hDc hN⟩ rfl rfl hl.1 rfl (lv_room (Nat.le_of_ble_eq_true rfl)) dX8_flood_95 ⟨(by rw [hR]; exact Nat.le_of_ble_eq_true rfl), (by rw [hR]; exact Nat.le_of_ble_eq_true rfl)⟩) hS (fun q _ h => hFc q h) hFc (fun r_20 u9 t9 H1 locs ht hvm hr_20 hB hz1 hk1 hS => ?_)
          try dsimp only at hr_20
          obtain ⟨hP1, hK1, hD1⟩ := hB
          rw [ht] at hP1
          obtain ⟨hP, hD⟩ := va_join (wr := [(s1, .inl (cO, 4, .inr (.inr (.inr (.inr f))))), (h0, .inr (8, [.ref s1, .ref s2, .ref s3, .ref s4, .ref s5, .ref s6, .int ds, .ref q_6, va_rf bt])), (q_8, .inl (cI, 4096, .inl g_10)), (q_6, .inr (6, [.ref q_7, .ref q_8, .int (nI (spS (opnC w h bx0 by0 bx1 by1) g x y co).2.2)])), (q_7, .inl (cI, 4096, .inl g_9))]) (w1 := [(s2, .inr (1, [.ref bx, .int ik, .int wy, .int op])), (bx, .inr (0, [.int bx0, .int by0, .int bx1, .int by1])), (t0, .inr (5, [.ref d0, .int w, .int h])), (d0, .inl (cI, 4096, .inl (if 0 ≤ r_18.toInt ∧ r_18.toInt < w.toInt ∧ 0 ≤ r_19.toInt ∧ r_19.toInt < h.toInt ∧ bx0.toInt ≤ r_18.toInt ∧ r_18.toInt ≤ bx1.toInt ∧ by0.toInt ≤ r_19.toInt ∧ r_19.toInt ≤ by1.toInt then upd gd (ixP r_18 r_19) (laidP wy ik (gd (ixP r_18 r_19)) op) else gd)))]) hP hD [0, 6, 4, 5] [1, 2, 3, 7, 8] rfl rfl (by decide) (by decide) hk1 hFc hP1 hD1
          clear hz1 hk1 hFc hKc hDc hPc
          generalize H1 = H at hP hS ⊢
          have hP : va_P D vwCl [(s1, .inl (cO, 4, .inr (.inr (.inr (.inr f))))), (h0, .inr (8, [.ref s1, .ref s2, .ref s3, .ref s4, .ref s5, .ref s6, .int ds, .ref q_6, va_rf bt])), (q_8, .inl (cI, 4096, .inl g_10)), (q_6, .inr (6, [.ref q_7, .ref q_8, .int (nI (spS (opnC w h bx0 by0 bx1 by1) g x y co).2.2)])), (q_7, .inl (cI, 4096, .inl g_9)), (s2, .inr (1, [.ref bx, .int ik, .int wy, .int op])), (bx, .inr (0, [.int bx0, .int by0, .int bx1, .int by1])), (t0, .inr (5, [.ref d0, .int w, .int h])), (d0, .inl (cI, 4096, .inl (if 0 ≤ r_18.toInt ∧ r_18.toInt < w.toInt ∧ 0 ≤ r_19.toInt ∧ r_19.toInt < h.toInt ∧ bx0.toInt ≤ r_18.toInt ∧ r_18.toInt ≤ bx1.toInt ∧ by0.toInt ≤ r_19.toInt ∧ r_19.toInt ≤ by1.toInt then upd gd (ixP r_18 r_19) (laidP wy ik (gd (ixP r_18 r_19)) op) else gd)))] H := hP
          have hD : va_D A [(s1, .inl (cO, 4, .inr (.inr (.inr (.inr f))))), (h0, .inr (8, [.ref s1, .ref s2, .ref s3, .ref s4, .ref s5, .ref s6, .int ds, .ref q_6, va_rf bt])), (q_8, .inl (cI, 4096, .inl g_10)), (q_6, .inr (6, [.ref q_7, .ref q_8, .int (nI (spS (opnC w h bx0 by0 bx1 by1) g x y co).2.2)])), (q_7, .inl (cI, 4096, .inl g_9)), (s2, .inr (1, [.ref bx, .int ik, .int wy, .int op])), (bx, .inr (0, [.int bx0, .int by0, .int bx1, .int by1])), (t0, .inr (5, [.ref d0, .int w, .int h])), (d0, .inl (cI, 4096, .inl (if 0 ≤ r_18.toInt ∧ r_18.toInt < w.toInt ∧ 0 ≤ r_19.toInt ∧ r_19.toInt < h.toInt ∧ bx0.toInt ≤ r_18.toInt ∧ r_18.toInt ≤ bx1.toInt ∧ by0.toInt ≤ r_19.toInt ∧ r_19.toInt ≤ by1.toInt then upd gd (ixP r_18 r_19) (laidP wy ik (gd (ixP r_18 r_19)) op) else gd)))] := hD
          refine lv_iadd hx hb dX8_flood_98 ?_
          refine lv_topi (fun y_21 ey_21 => ?_)
          refine lv_istore (lv' := [(7, .int y_21), (8, .int x8), (6, .ref q_6), (5, .ref t0), (0, .ref h0), (1, .int k), (2, .int x), (3, .int y), (4, .int co)]) hx hb dX8_flood_99 hl (by decide) rfl (fun ls hl => ?_)
          obtain ⟨y_22, ey_22⟩ : ∃ y : Int32, y = x8 + 1 := ⟨_, rfl⟩
          refine lv_iinc (v := y_22) (lv' := [(8, .int y_22), (7, .int y_21), (6, .ref q_6), (5, .ref t0), (0, .ref h0), (1, .int k), (2, .int x), (3, .int y), (4, .int co)]) hx hb dX8_flood_101 hl (k := 1) rfl (by rw [ey_22]; rfl) (by decide) rfl (fun ls hl => ?_)
          refine lv_goto (tgt := 49) hx hb dX8_flood_104 (by decide) ?_
          exact ih_15 (j + 1) y_22 y_21 (if 0 ≤ r_18.toInt ∧ r_18.toInt < w.toInt ∧ 0 ≤ r_19.toInt ∧ r_19.toInt < h.toInt ∧ bx0.toInt ≤ r_18.toInt ∧ r_18.toInt ≤ bx1.toInt ∧ by0.toInt ≤ r_19.toInt ∧ r_19.toInt ≤ by1.toInt then upd gd (ixP r_18 r_19) (laidP wy ik (gd (ixP r_18 r_19)) op) else gd) _ _ _ (by omega) (by omega) (by rw [ey_22, ex_j]; exact nI_1 j) (by omega) (by rw [show plL (spS (opnC w h bx0 by0 bx1 by1) g x y co).2.1 ik op (j + 1) = plL (spS (opnC w h bx0 by0 bx1 by1) g x y co).2.1 ik op j ++ [(r_18, r_19, ik, op)] by rw [hpr_18, hpr_19]; rfl, List.foldl_append, ← hgo]; rfl) (by rw [show plL (spS (opnC w h bx0 by0 bx1 by1) g x y co).2.1 ik op (j + 1) = plL (spS (opnC w h bx0 by0 bx1 by1) g x y co).2.1 ik op j ++ [(r_18, r_19, ik, op)] by rw [hpr_18, hpr_19]; rfl, List.foldl_append, ← eto, ey_21, hr_20]; rfl) (hP.sub (ws' := [(s2, .inr (1, [.ref bx, .int ik, .int wy, .int op])), (s1, .inl (cO, 4, .inr (.inr (.inr (.inr f))))), (h0, .inr (8, [.ref s1, .ref s2, .ref s3, .ref s4, .ref s5, .ref s6, .int ds, .ref q_6, va_rf bt])), (q_6, .inr (6, [.ref q_7, .ref q_8, .int (nI (spS (opnC w h bx0 by0 bx1 by1) g x y co).2.2)])), (q_7, .inl (cI, 4096, .inl g_9)), (q_8, .inl (cI, 4096, .inl g_10)), (t0, .inr (5, [.ref d0, .int w, .int h])), (d0, .inl (cI, 4096, .inl (if 0 ≤ r_18.toInt ∧ r_18.toInt < w.toInt ∧ 0 ≤ r_19.toInt ∧ r_19.toInt < h.toInt ∧ bx0.toInt ≤ r_18.toInt ∧ r_18.toInt ≤ bx1.toInt ∧ by0.toInt ≤ r_19.toInt ∧ r_19.toInt ≤ by1.toInt then upd gd (ixP r_18 r_19) (laidP wy ik (gd (ixP r_18 r_19)) op) else gd))), (bx, .inr (0, [.int bx0, .int by0, .int bx1, .int by1]))]) [5, 0, 1, 3, 4, 2, 7, 8, 6] rfl) (hD.sub (ws' := [(s2, .inr (1, [.ref bx, .int ik, .int wy, .int op])), (s1, .inl (cO, 4, .inr (.inr (.inr (.inr f))))), (h0, .inr (8, [.ref s1, .ref s2, .ref s3, .ref s4, .ref s5, .ref s6, .int ds, .ref q_6, va_rf bt])), (q_6, .inr (6, [.ref q_7, .ref q_8, .int (nI (spS (opnC w h bx0 by0 bx1 by1) g x y co).2.2)])), (q_7, .inl (cI, 4096, .inl g_9)), (q_8, .inl (cI, 4096, .inl g_10)), (t0, .inr (5, [.ref d0, .int w, .int h])), (d0, .inl (cI, 4096, .inl (if 0 ≤ r_18.toInt ∧ r_18.toInt < w.toInt ∧ 0 ≤ r_19.toInt ∧ r_19.toInt < h.toInt ∧ bx0.toInt ≤ r_18.toInt ∧ r_18.toInt ≤ bx1.toInt ∧ by0.toInt ≤ r_19.toInt ∧ r_19.toInt ≤ by1.toInt then upd gd (ixP r_18 r_19) (laidP wy ik (gd (ixP r_18 r_19)) op) else gd))), (bx, .inr (0, [.int bx0, .int by0, .int bx1, .int by1]))]) [5, 0, 1, 3, 4, 2, 7, 8, 6] (by decide) rfl) hS (lv_sub hl [0, 1, 2, 3, 4, 5, 6, 7, 8] rfl)
    exact loop_14 (4096 + 1) 0 0 0 g _ _ _ (by omega) (by omega) nI_0.symm (by omega) rfl rfl hP hD hS (lv_sub hl [0, 1, 2, 3, 4, 5, 6, 7, 8] rfl)
  · skip
    have f_4 := bz0 hr_2 c_3
    exact False.elim (by omega)

set_option maxHeartbeats 4000000 in
set_option maxRecDepth 100000 in
theorem k_X8_region_y0e (l : Launch) (D : va_G) (sz : Nat) (h0 s1 s2 s3 s4 s5 s6 : Nat) (ds : Int32) (bt : Option Nat) (f : Nat → Option Nat) (bx0 by0 bx1 by1 : Int32) (t0 d0 : Nat) (w h : Int32) (g : Nat → Int32) (k x y co : Int32) (cO : ClassId) (cI : ClassId) (hk : 0 ≤ k.toInt ∧ k.toInt ≤ 3) (hf : f k.toNatClampNeg = some t0) (hw : w.toInt ≤ 64) (hh : h.toInt ≤ 64) (hon : 0 ≤ x.toInt ∧ x.toInt < w.toInt ∧ 0 ≤ y.toInt ∧ y.toInt < h.toInt) : Met l yX8_region (wB yX8_region cX8_region 6 (some .int)) ({ frames := 5, cells := 3, slots := 8195, locals := 125 }) (cP D [(h0, .inr (8, [.ref s1, .ref s2, .ref s3, .ref s4, .ref s5, .ref s6, .int ds, .null, va_rf bt])), (s1, .inl (cO, 4, .inr (.inr (.inr (.inr f))))), (s3, .inr (0, [.int bx0, .int by0, .int bx1, .int by1])), (t0, .inr (5, [.ref d0, .int w, .int h])), (d0, .inl (cI, 4096, .inl g))] [(cO, .object "DotBench$Sheet"), (cI, .int)] sz [.ref h0, .int k, .int x, .int y, .int co]) (va_Qi (fun (r : Int32) (_ : Unit) => r = nI (spS (opnC w h bx0 by0 bx1 by1) g x y co).2.2) (fun (_ : Unit) (t : State) => ∃ (sq v1 v2 : Nat), ∃ (g2 g3 : Nat → Int32), cB D (va_A [(h0, .inr (8, [.ref s1, .ref s2, .ref s3, .ref s4, .ref s5, .ref s6, .int ds, .null, va_rf bt])), (s1, .inl (cO, 4, .inr (.inr (.inr (.inr f))))), (s3, .inr (0, [.int bx0, .int by0, .int bx1, .int by1])), (t0, .inr (5, [.ref d0, .int w, .int h])), (d0, .inl (cI, 4096, .inl g))] sz) [(h0, .inr (8, [.ref s1, .ref s2, .ref s3, .ref s4, .ref s5, .ref s6, .int ds, .ref sq, va_rf bt])), (s1, .inl (cO, 4, .inr (.inr (.inr (.inr f))))), (s3, .inr (0, [.int bx0, .int by0, .int bx1, .int by1])), (t0, .inr (5, [.ref d0, .int w, .int h])), (d0, .inl (cI, 4096, .inl g)), (sq, .inr (6, [.ref v1, .ref v2, .int (nI (spS (opnC w h bx0 by0 bx1 by1) g x y co).2.2)])), (v1, .inl (cI, 4096, .inl g2)), (v2, .inl (cI, 4096, .inl g3))] [(cO, .object "DotBench$Sheet"), (cI, .int)] t) (va_A [(h0, .inr (8, [.ref s1, .ref s2, .ref s3, .ref s4, .ref s5, .ref s6, .int ds, .null, va_rf bt])), (s1, .inl (cO, 4, .inr (.inr (.inr (.inr f))))), (s3, .inr (0, [.int bx0, .int by0, .int bx1, .int by1])), (t0, .inr (5, [.ref d0, .int w, .int h])), (d0, .inl (cI, 4096, .inl g))] sz)) 3 8195 (va_A [(h0, .inr (8, [.ref s1, .ref s2, .ref s3, .ref s4, .ref s5, .ref s6, .int ds, .null, va_rf bt])), (s1, .inl (cO, 4, .inr (.inr (.inr (.inr f))))), (s3, .inr (0, [.int bx0, .int by0, .int bx1, .int by1])), (t0, .inr (5, [.ref d0, .int w, .int h])), (d0, .inl (cI, 4096, .inl g))] sz) := by
  refine Met.ofW (cc := cX8_region) (maxL := 6) (ret := (some .int)) (by decide) rfl ?_
  intro p e s m args below meth c s₁ B hml hv
  obtain ⟨rfl, hsz, hP, hK, hD0, hN⟩ := hv
  have hx := B.exec
  have hb := B.bytes
  have hr := B.returns
  have hts0 := atoms_spec (ws := (wB yX8_region cX8_region 6 (some .int))) B.pre
  have hts : ∀ w ∈ bigW, w.before _ s = true := fun w h => hts0 w (List.mem_cons_of_mem _ h)
  have hown : s.vm.findClass RX8 = some m.cls := findClass_of_methodNamed B.named
  have hlocks := B.notSynchronized
  subst hsz
  have hD := hD0.self (sz := s.heap.size)
  generalize hAe : va_A [(h0, .inr (8, [.ref s1, .ref s2, .ref s3, .ref s4, .ref s5, .ref s6, .int ds, .null, va_rf bt])), (s1, .inl (cO, 4, .inr (.inr (.inr (.inr f))))), (s3, .inr (0, [.int bx0, .int by0, .int bx1, .int by1])), (t0, .inr (5, [.ref d0, .int w, .int h])), (d0, .inl (cI, 4096, .inl g))] s.heap.size = A at hD ⊢
  have hA : ∀ q : Nat, s.heap.size ≤ q → A q := fun q h => by rw [← hAe]; exact Or.inr h
  have hS : va_S A s.heap s.heap [] := va_S.rf
  have hP : va_P D vwCl [(h0, .inr (8, [.ref s1, .ref s2, .ref s3, .ref s4, .ref s5, .ref s6, .int ds, .null, va_rf bt])), (s1, .inl (cO, 4, .inr (.inr (.inr (.inr f))))), (s3, .inr (0, [.int bx0, .int by0, .int bx1, .int by1])), (t0, .inr (5, [.ref d0, .int w, .int h])), (d0, .inl (cI, 4096, .inl g))] s.heap := hP
  have hl := lv_entry ([.ref h0, .int k, .int x, .int y, .int co]) (n := 6) (Nat.le_of_ble_eq_true rfl)
  rw [lg_entry_eq]
  generalize (lg_sl ([.ref h0, .int k, .int x, .int y, .int co]) ++ List.replicate (6 - (lg_sl ([.ref h0, .int k, .int x, .int y, .int co])).length) Slot.unset).toArray = ls at hl ⊢
  have hl : lv_has ls 6 [(0, .ref h0), (1, .int k), (2, .int x), (3, .int y), (4, .int co)] := hl
  clear hts0 hD0 hAe
  refine my_abs (fun R Q hR hQ => ?_)
  refine lv_aload_n hx hb dX8_region_0 rfl (lv_at hl 0 rfl) ?_
  refine lv_iload_n hx hb dX8_region_1 rfl (lv_at hl 1 rfl) ?_
  have hPc := hP.sub (ws' := [(h0, .inr (8, [.ref s1, .ref s2, .ref s3, .ref s4, .ref s5, .ref s6, .int ds, .null, va_rf bt])), (s1, .inl (cO, 4, .inr (.inr (.inr (.inr f)))))]) [0, 1] rfl
  have hDc := hD.sub (ws' := [(h0, .inr (8, [.ref s1, .ref s2, .ref s3, .ref s4, .ref s5, .ref s6, .int ds, .null, va_rf bt])), (s1, .inl (cO, 4, .inr (.inr (.inr (.inr f)))))]) [0, 1] (by decide) rfl
  have hKc := hK.sub (tys' := [(cO, .object "DotBench$Sheet")]) [0] rfl
  have hFc := va_free (wc := [(h0, .inr (8, [.ref s1, .ref s2, .ref s3, .ref s4, .ref s5, .ref s6, .int ds, .null, va_rf bt])), (s1, .inl (cO, 4, .inr (.inr (.inr (.inr f)))))]) hD hS hA [0, 1] rfl
  refine va_callq (va_runV (As := [.int k]) (rest := []) ⟨hx, hb, hml, hown, hts⟩ (k_X8_sheetAt_y l D s.heap.size h0 s1 s2 s3 s4 s5 s6 ds none bt f k t0 cO (by first | assumption | omega | decide) (by first | assumption | omega | decide)) (cwV 1 hts (gV bw_267 bw_346 bw_347 bw_223 bw_345) rfl rfl rfl (by decide +kernel) ⟨(by rw [hR]; exact Nat.le_of_ble_eq_true rfl), (by rw [hR]; exact Nat.le_of_ble_eq_true rfl)⟩) ⟨cP_blind, va_recv hKc hPc (ci := 8) (q0 := 0) rfl rfl, cP_at hPc hKc hDc hN⟩ rfl rfl hl.1 rfl (lv_room (Nat.le_of_ble_eq_true rfl)) dX8_region_2 ⟨(by rw [hR]; exact Nat.le_of_ble_eq_true rfl), (by rw [hR]; exact Nat.le_of_ble_eq_true rfl)⟩) hS (fun q _ h => hFc q h) hFc (fun r_1 u9 t9 H1 locs ht hvm hr_1 hB hz1 hk1 hS => ?_)
  try dsimp only at hr_1
  obtain ⟨hP1, hK1, hD1⟩ := hB
  rw [ht] at hP1
  obtain ⟨hP, hD⟩ := va_join (wr := [(s3, .inr (0, [.int bx0, .int by0, .int bx1, .int by1])), (t0, .inr (5, [.ref d0, .int w, .int h])), (d0, .inl (cI, 4096, .inl g))]) (w1 := [(h0, .inr (8, [.ref s1, .ref s2, .ref s3, .ref s4, .ref s5, .ref s6, .int ds, .null, va_rf bt])), (s1, .inl (cO, 4, .inr (.inr (.inr (.inr f)))))]) hP hD [0, 1] [2, 3, 4] rfl rfl (by decide) (by decide) hk1 hFc hP1 hD1
  clear hz1 hk1 hFc hKc hDc hPc
  generalize H1 = H at hP hS ⊢
  have hP : va_P D vwCl [(s3, .inr (0, [.int bx0, .int by0, .int bx1, .int by1])), (t0, .inr (5, [.ref d0, .int w, .int h])), (d0, .inl (cI, 4096, .inl g)), (h0, .inr (8, [.ref s1, .ref s2, .ref s3, .ref s4, .ref s5, .ref s6, .int ds, .null, va_rf bt])), (s1, .inl (cO, 4, .inr (.inr (.inr (.inr f)))))] H := hP
  have hD : va_D A [(s3, .inr (0, [.int bx0, .int by0, .int bx1, .int by1])), (t0, .inr (5, [.ref d0, .int w, .int h])), (d0, .inl (cI, 4096, .inl g)), (h0, .inr (8, [.ref s1, .ref s2, .ref s3, .ref s4, .ref s5, .ref s6, .int ds, .null, va_rf bt])), (s1, .inl (cO, 4, .inr (.inr (.inr (.inr f)))))] := hD
  subst hr_1
  refine my_topv (v := .ref t0) rfl ?_
  refine lv_astore (lv' := [(5, .ref t0), (0, .ref h0), (1, .int k), (2, .int x), (3, .int y), (4, .int co)]) hx hb dX8_region_5 hl (by decide) rfl (fun ls hl => ?_)
  refine lv_aload hx hb dX8_region_7 (lv_at hl 0 rfl) ?_
  refine lv_ifnull hx hb dX8_region_9 ?_
  refine lv_aload hx hb dX8_region_12 (lv_at hl 0 rfl) ?_
  refine lv_iload_n hx hb dX8_region_14 rfl (lv_at hl 3 rfl) ?_
  refine lv_iload_n hx hb dX8_region_15 rfl (lv_at hl 4 rfl) ?_
  have hPc := hP.sub (ws' := [(t0, .inr (5, [.ref d0, .int w, .int h]))]) [1] rfl
  have hDc := hD.sub (ws' := [(t0, .inr (5, [.ref d0, .int w, .int h]))]) [1] (by decide) rfl
  have hKc := hK.sub (tys' := []) [] rfl
  have hFc := va_free (wc := [(t0, .inr (5, [.ref d0, .int w, .int h]))]) hD hS hA [1] rfl
  refine va_calli (va_runV (As := [.int x, .int y]) (rest := []) ⟨hx, hb, hml, hown, hts⟩ (k_X5_has l D H.size t0 d0 w h x y) (cwV 2 hts (gV bw_309 bw_150 bw_151 bw_130 bw_149) rfl rfl rfl (by decide +kernel) ⟨(by rw [hR]; exact Nat.le_of_ble_eq_true rfl), (by rw [hR]; exact Nat.le_of_ble_eq_true rfl)⟩) ⟨cP_blind, va_recv hKc hPc (ci := 5) (q0 := 0) rfl rfl, cP_at hPc hKc hDc hN⟩ rfl rfl hl.1 rfl (lv_room (Nat.le_of_ble_eq_true rfl)) dX8_region_16 ⟨(by rw [hR]; exact Nat.le_of_ble_eq_true rfl), (by rw [hR]; exact Nat.le_of_ble_eq_true rfl)⟩) hS (fun q _ h => hFc q h) hFc (fun r_2 u9 t9 H1 locs ht hvm hr_2 hB hz1 hk1 hS => ?_)
  try dsimp only at hr_2
  obtain ⟨hP1, hK1, hD1⟩ := hB
  rw [ht] at hP1
  obtain ⟨hP, hD⟩ := va_join (wr := [(s3, .inr (0, [.int bx0, .int by0, .int bx1, .int by1])), (d0, .inl (cI, 4096, .inl g)), (h0, .inr (8, [.ref s1, .ref s2, .ref s3, .ref s4, .ref s5, .ref s6, .int ds, .null, va_rf bt])), (s1, .inl (cO, 4, .inr (.inr (.inr (.inr f)))))]) (w1 := [(t0, .inr (5, [.ref d0, .int w, .int h]))]) hP hD [1] [0, 2, 3, 4] rfl rfl (by decide) (by decide) hk1 hFc hP1 hD1
  clear hz1 hk1 hFc hKc hDc hPc
  generalize H1 = H at hP hS ⊢
  have hP : va_P D vwCl [(s3, .inr (0, [.int bx0, .int by0, .int bx1, .int by1])), (d0, .inl (cI, 4096, .inl g)), (h0, .inr (8, [.ref s1, .ref s2, .ref s3, .ref s4, .ref s5, .ref s6, .int ds, .null, va_rf bt])), (s1, .inl (cO, 4, .inr (.inr (.inr (.inr f))))), (t0, .inr (5, [.ref d0, .int w, .int h]))] H := hP
  have hD : va_D A [(s3, .inr (0, [.int bx0, .int by0, .int bx1, .int by1])), (d0, .inl (cI, 4096, .inl g)), (h0, .inr (8, [.ref s1, .ref s2, .ref s3, .ref s4, .ref s5, .ref s6, .int ds, .null, va_rf bt])), (s1, .inl (cO, 4, .inr (.inr (.inr (.inr f))))), (t0, .inr (5, [.ref d0, .int w, .int h]))] := hD
  refine lv_if_ne (tgt := 24) hx hb dX8_region_19 (by decide) (fun c_3 => ?_) (fun c_3 => ?_)
  · skip
    have f_4 := bz1 hr_2 c_3
    refine lv_aload_n hx hb dX8_region_24 rfl (lv_at hl 1 rfl) ?_
    refine lv_aload hx hb dX8_region_25 (lv_at hl 0 rfl) ?_
    refine lv_aload_n hx hb dX8_region_27 rfl (lv_at hl 1 rfl) ?_
    refine va_get (D := D) (ci := 8) (v := .ref s3) (C := RX8) (T := TX8) (N := 9) hx hb hts hi_X8 hown hK hP 2 rfl rfl 2 (by decide) (hts _ bw_233) (fun _ h9 => h9) rfl dX8_region_28 ?_
    refine lv_iload_n hx hb dX8_region_31 rfl (lv_at hl 3 rfl) ?_
    refine lv_iload_n hx hb dX8_region_32 rfl (lv_at hl 4 rfl) ?_
    refine lv_iload hx hb dX8_region_33 (lv_at hl 5 rfl) ?_
    have hPc := hP.sub (ws' := [(h0, .inr (8, [.ref s1, .ref s2, .ref s3, .ref s4, .ref s5, .ref s6, .int ds, .null, va_rf bt])), (t0, .inr (5, [.ref d0, .int w, .int h])), (d0, .inl (cI, 4096, .inl g)), (s3, .inr (0, [.int bx0, .int by0, .int bx1, .int by1]))]) [2, 4, 1, 0] rfl
    have hDc := hD.sub (ws' := [(h0, .inr (8, [.ref s1, .ref s2, .ref s3, .ref s4, .ref s5, .ref s6, .int ds, .null, va_rf bt])), (t0, .inr (5, [.ref d0, .int w, .int h])), (d0, .inl (cI, 4096, .inl g)), (s3, .inr (0, [.int bx0, .int by0, .int bx1, .int by1]))]) [2, 4, 1, 0] (by decide) rfl
    have hKc := hK.sub (tys' := [(cI, .int)]) [1] rfl
    have hFc := va_free (wc := [(h0, .inr (8, [.ref s1, .ref s2, .ref s3, .ref s4, .ref s5, .ref s6, .int ds, .null, va_rf bt])), (t0, .inr (5, [.ref d0, .int w, .int h])), (d0, .inl (cI, 4096, .inl g)), (s3, .inr (0, [.int bx0, .int by0, .int bx1, .int by1]))]) hD hS hA [2, 4, 1, 0] rfl
    refine va_callq (va_runV (As := [.ref t0, .ref s3, .int x, .int y, .int co]) (rest := []) ⟨hx, hb, hml, hown, hts⟩ (k_X8_gathered_0e l D H.size h0 s1 s2 s3 s4 s5 s6 ds bt t0 d0 s3 w h g bx0 by0 bx1 by1 x y co cI (by first | assumption | omega | decide) (by first | assumption | omega | decide) (by first | assumption | omega | decide)) (cwV 5 hts (gV bw_310 bw_378 bw_379 bw_223 bw_377) rfl rfl rfl (by decide +kernel) ⟨(by rw [hR]; exact Nat.le_of_ble_eq_true rfl), (by rw [hR]; exact Nat.le_of_ble_eq_true rfl)⟩) ⟨cP_blind, va_recv hKc hPc (ci := 8) (q0 := 0) rfl rfl, cP_at hPc hKc hDc hN⟩ rfl rfl hl.1 rfl (lv_room (Nat.le_of_ble_eq_true rfl)) dX8_region_35 ⟨(by rw [hR]; exact Nat.le_of_ble_eq_true rfl), (by rw [hR]; exact Nat.le_of_ble_eq_true rfl)⟩) hS (fun q _ h => hFc q h) hFc (fun r_5 q_6 t9 H1 locs ht hvm hr_5 hB hz1 hk1 hS => ?_)
    try dsimp only at hr_5
    obtain ⟨q_7, q_8, g_9, g_10, b_11, b_12, b_13, hP1, hK1, hD1⟩ := hB
    rw [ht] at hP1
    obtain ⟨hP, hD⟩ := va_join (wr := [(s1, .inl (cO, 4, .inr (.inr (.inr (.inr f)))))]) (w1 := [(h0, .inr (8, [.ref s1, .ref s2, .ref s3, .ref s4, .ref s5, .ref s6, .int ds, .ref q_6, va_rf bt])), (q_6, .inr (6, [.ref q_7, .ref q_8, .int (nI (spS (opnC w h bx0 by0 bx1 by1) g x y co).2.2)])), (q_7, .inl (cI, 4096, .inl g_9)), (q_8, .inl (cI, 4096, .inl g_10)), (t0, .inr (5, [.ref d0, .int w, .int h])), (d0, .inl (cI, 4096, .inl g)), (s3, .inr (0, [.int bx0, .int by0, .int bx1, .int by1]))]) hP hD [2, 4, 1, 0] [3] rfl rfl (by decide) (by decide) hk1 hFc hP1 hD1
    clear hz1 hk1 hFc hKc hDc hPc
    generalize H1 = H at hP hS ⊢
    have hP : va_P D vwCl [(s1, .inl (cO, 4, .inr (.inr (.inr (.inr f))))), (h0, .inr (8, [.ref s1, .ref s2, .ref s3, .ref s4, .ref s5, .ref s6, .int ds, .ref q_6, va_rf bt])), (q_6, .inr (6, [.ref q_7, .ref q_8, .int (nI (spS (opnC w h bx0 by0 bx1 by1) g x y co).2.2)])), (q_7, .inl (cI, 4096, .inl g_9)), (q_8, .inl (cI, 4096, .inl g_10)), (t0, .inr (5, [.ref d0, .int w, .int h])), (d0, .inl (cI, 4096, .inl g)), (s3, .inr (0, [.int bx0, .int by0, .int bx1, .int by1]))] H := hP
    have hD : va_D A [(s1, .inl (cO, 4, .inr (.inr (.inr (.inr f))))), (h0, .inr (8, [.ref s1, .ref s2, .ref s3, .ref s4, .ref s5, .ref s6, .int ds, .ref q_6, va_rf bt])), (q_6, .inr (6, [.ref q_7, .ref q_8, .int (nI (spS (opnC w h bx0 by0 bx1 by1) g x y co).2.2)])), (q_7, .inl (cI, 4096, .inl g_9)), (q_8, .inl (cI, 4096, .inl g_10)), (t0, .inr (5, [.ref d0, .int w, .int h])), (d0, .inl (cI, 4096, .inl g)), (s3, .inr (0, [.int bx0, .int by0, .int bx1, .int by1]))] := hD
    refine W.widen (k := 3) (n := 8195) (by omega) (by omega) ?_
    subst hr_5
    refine my_topv (v := .ref q_6) rfl ?_
    refine va_getN (host := RX8) (D := D) (ci := 6) (v := .int (nI (spS (opnC w h bx0 by0 bx1 by1) g x y co).2.2)) (C := RX6) (T := TX6) (N := 3) hx hb hts hi_X6 hown hK hP 2 rfl rfl 2 (by decide) ((hN.1 (RX8, 180, "DotBench$Spread", "size", "I", RX8) (by decide +kernel)).use rfl) (fun _ h9 => h9) rfl dX8_region_38 ?_
    have hP9 := hP.sub (ws' := [(h0, .inr (8, [.ref s1, .ref s2, .ref s3, .ref s4, .ref s5, .ref s6, .int ds, .ref q_6, va_rf bt])), (s1, .inl (cO, 4, .inr (.inr (.inr (.inr f))))), (s3, .inr (0, [.int bx0, .int by0, .int bx1, .int by1])), (t0, .inr (5, [.ref d0, .int w, .int h])), (d0, .inl (cI, 4096, .inl g)), (q_6, .inr (6, [.ref q_7, .ref q_8, .int (nI (spS (opnC w h bx0 by0 bx1 by1) g x y co).2.2)])), (q_7, .inl (cI, 4096, .inl g_9)), (q_8, .inl (cI, 4096, .inl g_10))]) [1, 0, 7, 5, 6, 2, 3, 4] rfl
    have hD9 := hD.sub (ws' := [(h0, .inr (8, [.ref s1, .ref s2, .ref s3, .ref s4, .ref s5, .ref s6, .int ds, .ref q_6, va_rf bt])), (s1, .inl (cO, 4, .inr (.inr (.inr (.inr f))))), (s3, .inr (0, [.int bx0, .int by0, .int bx1, .int by1])), (t0, .inr (5, [.ref d0, .int w, .int h])), (d0, .inl (cI, 4096, .inl g)), (q_6, .inr (6, [.ref q_7, .ref q_8, .int (nI (spS (opnC w h bx0 by0 bx1 by1) g x y co).2.2)])), (q_7, .inl (cI, 4096, .inl g_9)), (q_8, .inl (cI, 4096, .inl g_10))]) [1, 0, 7, 5, 6, 2, 3, 4] (by decide) rfl
    have hK9 := hK.sub (tys' := [(cO, .object "DotBench$Sheet"), (cI, .int)]) [0, 1] rfl
    refine hQ _ _ _ _ _ ?_
    exact W.iret (v := nI (spS (opnC w h bx0 by0 bx1 by1) g x y co).2.2) hx hb hr (fun t ht hW => ⟨⟨nI (spS (opnC w h bx0 by0 bx1 by1) g x y co).2.2, (), rfl, rfl, ⟨q_6, q_7, q_8, g_9, g_10, by rw [ht]; exact hP9, va_K.moved hW.alike hK9, hD9⟩⟩, hS.F ht⟩) hS.2.2 dX8_region_41
  · skip
    have f_4 := bz0 hr_2 c_3
    exact False.elim (by omega)

set_option maxHeartbeats 4000000 in
set_option maxRecDepth 100000 in
theorem k_X9_samples_e (l : Launch) (D : va_G) (sz : Nat) (h0 m1 m2 m3 m4 m5 m6 m7 m8 m9 m10 m11 m12 m13 : Nat) (ik wy op cl cx0 cx1 cy0 cy1 ds pn : Int32) (px : Nat → Int32) (py : Nat → Int32) (pf : Nat → Int32) (x y ru : Int32) (X9 Y9 : Nat) (cI : ClassId) (cZ : ClassId) (hpn : 0 ≤ pn.toInt ∧ pn.toInt ≤ 48) (hpx : ∀ j : Nat, j < 48 → (-8192 ≤ (px j).toInt ∧ (px j).toInt ≤ 8192) ∧ (-8192 ≤ (py j).toInt ∧ (py j).toInt ≤ 8192)) (hX9 : x = nI X9) (hY9 : y = nI Y9) : Met l yX9_samples (wB yX9_samples cX9_samples 6 (some .int)) ({ frames := 3, cells := 0, slots := 0, locals := 85 }) (cP D [(h0, .inr (9, [.ref m1, .ref m2, .ref m3, .int ik, .int wy, .int op, .int cl, .int cx0, .int cx1, .int cy0, .int cy1, .int ds, .ref m4, .ref m5, .ref m6, .ref m7, .ref m8, .ref m9, .int pn, .ref m10, .ref m11, .ref m12, .ref m13])), (m7, .inl (cI, 48, .inl px)), (m8, .inl (cI, 48, .inl py)), (m9, .inl (cZ, 48, .inl pf))] [(cI, .int), (cZ, .boolean)] sz [.ref h0, .int x, .int y, .int ru]) (va_Qi (fun (r : Int32) (_ : Unit) => r = sN px py pf pn.toNatClampNeg ru X9 Y9 16) (fun (_ : Unit) (t : State) => cB D (va_A [(h0, .inr (9, [.ref m1, .ref m2, .ref m3, .int ik, .int wy, .int op, .int cl, .int cx0, .int cx1, .int cy0, .int cy1, .int ds, .ref m4, .ref m5, .ref m6, .ref m7, .ref m8, .ref m9, .int pn, .ref m10, .ref m11, .ref m12, .ref m13])), (m7, .inl (cI, 48, .inl px)), (m8, .inl (cI, 48, .inl py)), (m9, .inl (cZ, 48, .inl pf))] sz) [(h0, .inr (9, [.ref m1, .ref m2, .ref m3, .int ik, .int wy, .int op, .int cl, .int cx0, .int cx1, .int cy0, .int cy1, .int ds, .ref m4, .ref m5, .ref m6, .ref m7, .ref m8, .ref m9, .int pn, .ref m10, .ref m11, .ref m12, .ref m13])), (m7, .inl (cI, 48, .inl px)), (m8, .inl (cI, 48, .inl py)), (m9, .inl (cZ, 48, .inl pf))] [(cI, .int), (cZ, .boolean)] t) (va_A [(h0, .inr (9, [.ref m1, .ref m2, .ref m3, .int ik, .int wy, .int op, .int cl, .int cx0, .int cx1, .int cy0, .int cy1, .int ds, .ref m4, .ref m5, .ref m6, .ref m7, .ref m8, .ref m9, .int pn, .ref m10, .ref m11, .ref m12, .ref m13])), (m7, .inl (cI, 48, .inl px)), (m8, .inl (cI, 48, .inl py)), (m9, .inl (cZ, 48, .inl pf))] sz)) 0 0 (va_A [(h0, .inr (9, [.ref m1, .ref m2, .ref m3, .int ik, .int wy, .int op, .int cl, .int cx0, .int cx1, .int cy0, .int cy1, .int ds, .ref m4, .ref m5, .ref m6, .ref m7, .ref m8, .ref m9, .int pn, .ref m10, .ref m11, .ref m12, .ref m13])), (m7, .inl (cI, 48, .inl px)), (m8, .inl (cI, 48, .inl py)), (m9, .inl (cZ, 48, .inl pf))] sz) := by
  refine Met.ofW (cc := cX9_samples) (maxL := 6) (ret := (some .int)) (by decide) rfl ?_
  intro p e s m args below meth c s₁ B hml hv
  obtain ⟨rfl, hsz, hP, hK, hD0, hN⟩ := hv
  have hx := B.exec
  have hb := B.bytes
  have hr := B.returns
  have hts0 := atoms_spec (ws := (wB yX9_samples cX9_samples 6 (some .int))) B.pre
  have hts : ∀ w ∈ bigW, w.before _ s = true := fun w h => hts0 w (List.mem_cons_of_mem _ h)
  have hown : s.vm.findClass RX9 = some m.cls := findClass_of_methodNamed B.named
  have hlocks := B.notSynchronized
  subst hsz
  have hD := hD0.self (sz := s.heap.size)
  generalize hAe : va_A [(h0, .inr (9, [.ref m1, .ref m2, .ref m3, .int ik, .int wy, .int op, .int cl, .int cx0, .int cx1, .int cy0, .int cy1, .int ds, .ref m4, .ref m5, .ref m6, .ref m7, .ref m8, .ref m9, .int pn, .ref m10, .ref m11, .ref m12, .ref m13])), (m7, .inl (cI, 48, .inl px)), (m8, .inl (cI, 48, .inl py)), (m9, .inl (cZ, 48, .inl pf))] s.heap.size = A at hD ⊢
  have hA : ∀ q : Nat, s.heap.size ≤ q → A q := fun q h => by rw [← hAe]; exact Or.inr h
  have hS : va_S A s.heap s.heap [] := va_S.rf
  have hP : va_P D vwCl [(h0, .inr (9, [.ref m1, .ref m2, .ref m3, .int ik, .int wy, .int op, .int cl, .int cx0, .int cx1, .int cy0, .int cy1, .int ds, .ref m4, .ref m5, .ref m6, .ref m7, .ref m8, .ref m9, .int pn, .ref m10, .ref m11, .ref m12, .ref m13])), (m7, .inl (cI, 48, .inl px)), (m8, .inl (cI, 48, .inl py)), (m9, .inl (cZ, 48, .inl pf))] s.heap := hP
  have hl := lv_entry ([.ref h0, .int x, .int y, .int ru]) (n := 6) (Nat.le_of_ble_eq_true rfl)
  rw [lg_entry_eq]
  generalize (lg_sl ([.ref h0, .int x, .int y, .int ru]) ++ List.replicate (6 - (lg_sl ([.ref h0, .int x, .int y, .int ru])).length) Slot.unset).toArray = ls at hl ⊢
  have hl : lv_has ls 6 [(0, .ref h0), (1, .int x), (2, .int y), (3, .int ru)] := hl
  clear hts0 hD0 hAe
  refine my_abs (fun R Q hR hQ => ?_)
  refine lv_iconst (v := 0) hx hb dX9_samples_0 (by decide) ?_
  refine lv_istore (lv' := [(4, .int 0), (0, .ref h0), (1, .int x), (2, .int y), (3, .int ru)]) hx hb dX9_samples_1 hl (by decide) rfl (fun ls hl => ?_)
  refine lv_iconst (v := 0) hx hb dX9_samples_3 (by decide) ?_
  refine lv_istore (lv' := [(5, .int 0), (4, .int 0), (0, .ref h0), (1, .int x), (2, .int y), (3, .int ru)]) hx hb dX9_samples_4 hl (by decide) rfl (fun ls hl => ?_)
  have loop_1 : ∀ (n : Nat) (i : Nat) (x5 : Int32) (x4 : Int32) (H : Heap) (locs : List Loc) (ls : Array Slot), (i ≤ 16) → (16 + 1 ≤ i + n) → (x5 = nI i) → (x4 = sN px py pf pn.toNatClampNeg ru X9 Y9 i) → va_P D vwCl [(h0, .inr (9, [.ref m1, .ref m2, .ref m3, .int ik, .int wy, .int op, .int cl, .int cx0, .int cx1, .int cy0, .int cy1, .int ds, .ref m4, .ref m5, .ref m6, .ref m7, .ref m8, .ref m9, .int pn, .ref m10, .ref m11, .ref m12, .ref m13])), (m7, .inl (cI, 48, .inl px)), (m8, .inl (cI, 48, .inl py)), (m9, .inl (cZ, 48, .inl pf))] H → va_D A [(h0, .inr (9, [.ref m1, .ref m2, .ref m3, .int ik, .int wy, .int op, .int cl, .int cx0, .int cx1, .int cy0, .int cy1, .int ds, .ref m4, .ref m5, .ref m6, .ref m7, .ref m8, .ref m9, .int pn, .ref m10, .ref m11, .ref m12, .ref m13])), (m7, .inl (cI, 48, .inl px)), (m8, .inl (cI, 48, .inl py)), (m9, .inl (cZ, 48, .inl pf))] → va_S A s.heap H locs → lv_has ls 6 [(5, .int x5), (4, .int x4), (0, .ref h0), (1, .int x), (2, .int y), (3, .int ru)] → W p l e R s m ([.ref h0, .int x, .int y, .int ru] : List Value).toArray below meth c H locs 0 0 Q (F0 m 6 ls []) := by
    intro n
    induction n with
    | zero =>
      intro i x5 x4 H locs ls hi_i hm_i ex_i et hP hD hS hl
      exact absurd (show False by omega) not_false
    | succ n ih_2 =>
      intro i x5 x4 H locs ls hi_i hm_i ex_i et hP hD hS hl
      have hx_i : x5.toInt = (i : Int) := by rw [ex_i]; exact nI_toInt (by omega)
      have hc_i : x5.toNatClampNeg = i := by rw [ex_i]; exact nI_clamp (by omega)
      refine lv_iload hx hb dX9_samples_6 (lv_at hl 0 rfl) ?_
      refine lv_bipush (v := 16) hx hb dX9_samples_8 (by decide) ?_
      refine lv_icmp_ge (tgt := 67) hx hb dX9_samples_10 (by decide) (fun c_3 => ?_) (fun c_3 => ?_)
      · skip
        have f_4 : 16 ≤ (i : Int) := f_le (by decide) hx_i c_3
        refine lv_iload hx hb dX9_samples_67 (lv_at hl 1 rfl) ?_
        have hP9 := hP.sub (ws' := [(h0, .inr (9, [.ref m1, .ref m2, .ref m3, .int ik, .int wy, .int op, .int cl, .int cx0, .int cx1, .int cy0, .int cy1, .int ds, .ref m4, .ref m5, .ref m6, .ref m7, .ref m8, .ref m9, .int pn, .ref m10, .ref m11, .ref m12, .ref m13])), (m7, .inl (cI, 48, .inl px)), (m8, .inl (cI, 48, .inl py)), (m9, .inl (cZ, 48, .inl pf))]) [0, 1, 2, 3] rfl
        have hD9 := hD.sub (ws' := [(h0, .inr (9, [.ref m1, .ref m2, .ref m3, .int ik, .int wy, .int op, .int cl, .int cx0, .int cx1, .int cy0, .int cy1, .int ds, .ref m4, .ref m5, .ref m6, .ref m7, .ref m8, .ref m9, .int pn, .ref m10, .ref m11, .ref m12, .ref m13])), (m7, .inl (cI, 48, .inl px)), (m8, .inl (cI, 48, .inl py)), (m9, .inl (cZ, 48, .inl pf))]) [0, 1, 2, 3] (by decide) rfl
        have hK9 := hK.sub (tys' := [(cI, .int), (cZ, .boolean)]) [0, 1] rfl
        refine hQ _ _ _ _ _ ?_
        exact W.iret (v := x4) hx hb hr (fun t ht hW => ⟨⟨x4, (), rfl, (by rw [et, show i = 16 by omega]), ⟨by rw [ht]; exact hP9, va_K.moved hW.alike hK9, hD9⟩⟩, hS.F ht⟩) hS.2.2 dX9_samples_69
      · skip
        have f_4 : ¬ (16 ≤ (i : Int)) := fn_le (by decide) hx_i c_3
        refine lv_iload hx hb dX9_samples_13 (lv_at hl 1 rfl) ?_
        refine lv_aload_n hx hb dX9_samples_15 rfl (lv_at hl 2 rfl) ?_
        refine lv_bipush (v := 32) hx hb dX9_samples_16 (by decide) ?_
        refine lv_iload_n hx hb dX9_samples_18 rfl (lv_at hl 3 rfl) ?_
        refine lv_imul hx hb dX9_samples_19 ?_
        refine lv_topi (fun y_5 ey_5 => ?_)
        refine lv_bipush (v := 8) hx hb dX9_samples_20 (by decide) ?_
        refine lv_iload hx hb dX9_samples_22 (lv_at hl 0 rfl) ?_
        refine lv_iconst (v := 4) hx hb dX9_samples_24 (by decide) ?_
        refine lv_irem hx hb dX9_samples_25 (by decide) ?_
        refine lv_topi (fun y_6 ey_6 => ?_)
        refine lv_imul hx hb dX9_samples_26 ?_
        refine lv_topi (fun y_7 ey_7 => ?_)
        refine lv_iadd hx hb dX9_samples_27 ?_
        refine lv_topi (fun y_8 ey_8 => ?_)
        refine lv_iconst (v := 4) hx hb dX9_samples_28 (by decide) ?_
        refine lv_iadd hx hb dX9_samples_29 ?_
        refine lv_topi (fun y_9 ey_9 => ?_)
        obtain ⟨y_10, ey_10⟩ : ∃ y : Int64, y = y_9.toInt64 := ⟨_, rfl⟩
        refine lv_i2l (v := y_10) hx hb dX9_samples_30 ey_10.symm ?_
        have hty_10 : y_10.toInt = y_9.toInt := by rw [ey_10]; exact Int32.toInt_toInt64 _
        refine lv_bipush (v := 32) hx hb dX9_samples_31 (by decide) ?_
        refine lv_iload_n hx hb dX9_samples_33 rfl (lv_at hl 4 rfl) ?_
        refine lv_imul hx hb dX9_samples_34 ?_
        refine lv_topi (fun y_11 ey_11 => ?_)
        refine lv_bipush (v := 8) hx hb dX9_samples_35 (by decide) ?_
        refine lv_iload hx hb dX9_samples_37 (lv_at hl 0 rfl) ?_
        refine lv_iconst (v := 4) hx hb dX9_samples_39 (by decide) ?_
        refine lv_idiv hx hb dX9_samples_40 (by decide) ?_
        refine lv_topi (fun y_12 ey_12 => ?_)
        refine lv_imul hx hb dX9_samples_41 ?_
        refine lv_topi (fun y_13 ey_13 => ?_)
        refine lv_iadd hx hb dX9_samples_42 ?_
        refine lv_topi (fun y_14 ey_14 => ?_)
        refine lv_iconst (v := 4) hx hb dX9_samples_43 (by decide) ?_
        refine lv_iadd hx hb dX9_samples_44 ?_
        refine lv_topi (fun y_15 ey_15 => ?_)
        obtain ⟨y_16, ey_16⟩ : ∃ y : Int64, y = y_15.toInt64 := ⟨_, rfl⟩
        refine lv_i2l (v := y_16) hx hb dX9_samples_45 ey_16.symm ?_
        have hty_16 : y_16.toInt = y_15.toInt := by rw [ey_16]; exact Int32.toInt_toInt64 _
        refine lv_iload_n hx hb dX9_samples_46 rfl (lv_at hl 5 rfl) ?_
        have hPc := hP.sub (ws' := [(h0, .inr (9, [.ref m1, .ref m2, .ref m3, .int ik, .int wy, .int op, .int cl, .int cx0, .int cx1, .int cy0, .int cy1, .int ds, .ref m4, .ref m5, .ref m6, .ref m7, .ref m8, .ref m9, .int pn, .ref m10, .ref m11, .ref m12, .ref m13])), (m7, .inl (cI, 48, .inl px)), (m8, .inl (cI, 48, .inl py)), (m9, .inl (cZ, 48, .inl pf))]) [0, 1, 2, 3] rfl
        have hDc := hD.sub (ws' := [(h0, .inr (9, [.ref m1, .ref m2, .ref m3, .int ik, .int wy, .int op, .int cl, .int cx0, .int cx1, .int cy0, .int cy1, .int ds, .ref m4, .ref m5, .ref m6, .ref m7, .ref m8, .ref m9, .int pn, .ref m10, .ref m11, .ref m12, .ref m13])), (m7, .inl (cI, 48, .inl px)), (m8, .inl (cI, 48, .inl py)), (m9, .inl (cZ, 48, .inl pf))]) [0, 1, 2, 3] (by decide) rfl
        have hKc := hK.sub (tys' := [(cI, .int), (cZ, .boolean)]) [0, 1] rfl
        have hFc := va_free (wc := [(h0, .inr (9, [.ref m1, .ref m2, .ref m3, .int ik, .int wy, .int op, .int cl, .int cx0, .int cx1, .int cy0, .int cy1, .int ds, .ref m4, .ref m5, .ref m6, .ref m7, .ref m8, .ref m9, .int pn, .ref m10, .ref m11, .ref m12, .ref m13])), (m7, .inl (cI, 48, .inl px)), (m8, .inl (cI, 48, .inl py)), (m9, .inl (cZ, 48, .inl pf))]) hD hS hA [0, 1, 2, 3] rfl
        refine va_calli (va_runV (As := [.long y_10, .long y_16, .int ru]) (rest := [.int x4]) ⟨hx, hb, hml, hown, hts⟩ (k_X9_isInside l D H.size h0 m1 m2 m3 m4 m5 m6 m7 m8 m9 m10 m11 m12 m13 ik wy op cl cx0 cx1 cy0 cy1 ds pn px py pf y_10 y_16 ru cI cZ (by first | assumption | omega | decide) (by first | assumption | omega | decide) (by rw [hty_10]; exact i32b _) (by rw [hty_16]; exact i32b _)) (cwV 3 hts (gV bw_523 bw_517 bw_518 bw_391 bw_516) rfl rfl rfl (by decide +kernel) ⟨(by rw [hR]; exact Nat.le_of_ble_eq_true rfl), (by rw [hR]; exact Nat.le_of_ble_eq_true rfl)⟩) ⟨cP_blind, va_recv hKc hPc (ci := 9) (q0 := 0) rfl rfl, cP_at hPc hKc hDc hN⟩ rfl rfl hl.1 rfl (lv_room (Nat.le_of_ble_eq_true rfl)) dX9_samples_47 ⟨(by rw [hR]; exact Nat.le_of_ble_eq_true rfl), (by rw [hR]; exact Nat.le_of_ble_eq_true rfl)⟩) hS (fun q _ h => hFc q h) hFc (fun r_17 u9 t9 H1 locs ht hvm hr_17 hB hz1 hk1 hS => ?_)
        try dsimp only at hr_17
        obtain ⟨hP1, hK1, hD1⟩ := hB
        rw [ht] at hP1
        obtain ⟨hP, hD⟩ := va_join (wr := []) (w1 := [(h0, .inr (9, [.ref m1, .ref m2, .ref m3, .int ik, .int wy, .int op, .int cl, .int cx0, .int cx1, .int cy0, .int cy1, .int ds, .ref m4, .ref m5, .ref m6, .ref m7, .ref m8, .ref m9, .int pn, .ref m10, .ref m11, .ref m12, .ref m13])), (m7, .inl (cI, 48, .inl px)), (m8, .inl (cI, 48, .inl py)), (m9, .inl (cZ, 48, .inl pf))]) hP hD [0, 1, 2, 3] [] rfl rfl (by decide) (by decide) hk1 hFc hP1 hD1
        clear hz1 hk1 hFc hKc hDc hPc
        generalize H1 = H at hP hS ⊢
        have hP : va_P D vwCl [(h0, .inr (9, [.ref m1, .ref m2, .ref m3, .int ik, .int wy, .int op, .int cl, .int cx0, .int cx1, .int cy0, .int cy1, .int ds, .ref m4, .ref m5, .ref m6, .ref m7, .ref m8, .ref m9, .int pn, .ref m10, .ref m11, .ref m12, .ref m13])), (m7, .inl (cI, 48, .inl px)), (m8, .inl (cI, 48, .inl py)), (m9, .inl (cZ, 48, .inl pf))] H := hP
        have hD : va_D A [(h0, .inr (9, [.ref m1, .ref m2, .ref m3, .int ik, .int wy, .int op, .int cl, .int cx0, .int cx1, .int cy0, .int cy1, .int ds, .ref m4, .ref m5, .ref m6, .ref m7, .ref m8, .ref m9, .int pn, .ref m10, .ref m11, .ref m12, .ref m13])), (m7, .inl (cI, 48, .inl px)), (m8, .inl (cI, 48, .inl py)), (m9, .inl (cZ, 48, .inl pf))] := hD
        have hu9 : y_9 = nI (32 * X9 + 8 * (i % 4) + 4) := by rw [ey_9, ey_8, ey_5, ey_7, ey_6, hX9, ex_i]; exact su_r X9 i (by omega)
        have hv9 : y_15 = nI (32 * Y9 + 8 * (i / 4) + 4) := by rw [ey_15, ey_14, ey_11, ey_13, ey_12, hY9, ex_i]; exact su_d Y9 i (by omega)
        rw [hty_10, hty_16, hu9, hv9] at hr_17
        refine lv_if_eq (tgt := 57) hx hb dX9_samples_50 (by decide) (fun c_18 => ?_) (fun c_18 => ?_)
        · skip
          have f_19 := bz0 hr_17 c_18
          refine lv_iconst (v := 0) hx hb dX9_samples_57 (by decide) ?_
          refine lv_iadd hx hb dX9_samples_58 ?_
          refine lv_topi (fun y_20 ey_20 => ?_)
          refine lv_istore (lv' := [(4, .int y_20), (5, .int x5), (0, .ref h0), (1, .int x), (2, .int y), (3, .int ru)]) hx hb dX9_samples_59 hl (by decide) rfl (fun ls hl => ?_)
          obtain ⟨y_21, ey_21⟩ : ∃ y : Int32, y = x5 + 1 := ⟨_, rfl⟩
          refine lv_iinc (v := y_21) (lv' := [(5, .int y_21), (4, .int y_20), (0, .ref h0), (1, .int x), (2, .int y), (3, .int ru)]) hx hb dX9_samples_61 hl (k := 1) rfl (by rw [ey_21]; rfl) (by decide) rfl (fun ls hl => ?_)
          refine lv_goto (tgt := 6) hx hb dX9_samples_64 (by decide) ?_
          exact ih_2 (i + 1) y_21 y_20 _ _ _ (by omega) (by omega) (by rw [ey_21, ex_i]; exact nI_1 i) (by rw [ey_20, et]; show _ = sN px py pf pn.toNatClampNeg ru X9 Y9 i + iz ru _; unfold iz; rw [if_neg f_19]) (hP.sub (ws' := [(h0, .inr (9, [.ref m1, .ref m2, .ref m3, .int ik, .int wy, .int op, .int cl, .int cx0, .int cx1, .int cy0, .int cy1, .int ds, .ref m4, .ref m5, .ref m6, .ref m7, .ref m8, .ref m9, .int pn, .ref m10, .ref m11, .ref m12, .ref m13])), (m7, .inl (cI, 48, .inl px)), (m8, .inl (cI, 48, .inl py)), (m9, .inl (cZ, 48, .inl pf))]) [0, 1, 2, 3] rfl) (hD.sub (ws' := [(h0, .inr (9, [.ref m1, .ref m2, .ref m3, .int ik, .int wy, .int op, .int cl, .int cx0, .int cx1, .int cy0, .int cy1, .int ds, .ref m4, .ref m5, .ref m6, .ref m7, .ref m8, .ref m9, .int pn, .ref m10, .ref m11, .ref m12, .ref m13])), (m7, .inl (cI, 48, .inl px)), (m8, .inl (cI, 48, .inl py)), (m9, .inl (cZ, 48, .inl pf))]) [0, 1, 2, 3] (by decide) rfl) hS (lv_sub hl [0, 1, 2, 3, 4, 5] rfl)
        · skip
          have f_19 := bz1 hr_17 c_18
          refine lv_iconst (v := 1) hx hb dX9_samples_53 (by decide) ?_
          refine lv_goto (tgt := 58) hx hb dX9_samples_54 (by decide) ?_
          refine lv_iadd hx hb dX9_samples_58 ?_
          refine lv_topi (fun y_22 ey_22 => ?_)
          refine lv_istore (lv' := [(4, .int y_22), (5, .int x5), (0, .ref h0), (1, .int x), (2, .int y), (3, .int ru)]) hx hb dX9_samples_59 hl (by decide) rfl (fun ls hl => ?_)
          obtain ⟨y_23, ey_23⟩ : ∃ y : Int32, y = x5 + 1 := ⟨_, rfl⟩
          refine lv_iinc (v := y_23) (lv' := [(5, .int y_23), (4, .int y_22), (0, .ref h0), (1, .int x), (2, .int y), (3, .int ru)]) hx hb dX9_samples_61 hl (k := 1) rfl (by rw [ey_23]; rfl) (by decide) rfl (fun ls hl => ?_)
          refine lv_goto (tgt := 6) hx hb dX9_samples_64 (by decide) ?_
          exact ih_2 (i + 1) y_23 y_22 _ _ _ (by omega) (by omega) (by rw [ey_23, ex_i]; exact nI_1 i) (by rw [ey_22, et]; show _ = sN px py pf pn.toNatClampNeg ru X9 Y9 i + iz ru _; unfold iz; rw [if_pos f_19]) (hP.sub (ws' := [(h0, .inr (9, [.ref m1, .ref m2, .ref m3, .int ik, .int wy, .int op, .int cl, .int cx0, .int cx1, .int cy0, .int cy1, .int ds, .ref m4, .ref m5, .ref m6, .ref m7, .ref m8, .ref m9, .int pn, .ref m10, .ref m11, .ref m12, .ref m13])), (m7, .inl (cI, 48, .inl px)), (m8, .inl (cI, 48, .inl py)), (m9, .inl (cZ, 48, .inl pf))]) [0, 1, 2, 3] rfl) (hD.sub (ws' := [(h0, .inr (9, [.ref m1, .ref m2, .ref m3, .int ik, .int wy, .int op, .int cl, .int cx0, .int cx1, .int cy0, .int cy1, .int ds, .ref m4, .ref m5, .ref m6, .ref m7, .ref m8, .ref m9, .int pn, .ref m10, .ref m11, .ref m12, .ref m13])), (m7, .inl (cI, 48, .inl px)), (m8, .inl (cI, 48, .inl py)), (m9, .inl (cZ, 48, .inl pf))]) [0, 1, 2, 3] (by decide) rfl) hS (lv_sub hl [0, 1, 2, 3, 4, 5] rfl)
  exact loop_1 (16 + 1) 0 0 0 _ _ _ (by omega) (by omega) nI_0.symm rfl hP hD hS (lv_sub hl [0, 1, 2, 3, 4, 5] rfl)

set_option maxHeartbeats 4000000 in
set_option maxRecDepth 100000 in
theorem k_X9_fill_ye (l : Launch) (D : va_G) (sz : Nat) (h0 m1 m2 m3 m4 m5 m6 m7 m8 m9 m10 m11 m12 m13 : Nat) (ik wy op cl cx0 cx1 cy0 cy1 ds pn : Int32) (gw : Nat → Int32) (gh : Nat → Int32) (gd : Nat → Int32) (gm : Nat → Int32) (ge : Nat → Int32) (gv : Nat → Int32) (px : Nat → Int32) (py : Nat → Int32) (pf : Nat → Int32) (k ru sm : Int32) (cI : ClassId) (cZ : ClassId) (hk : 0 ≤ k.toInt ∧ k.toInt ≤ 3) (hgw : 0 ≤ (gw k.toNatClampNeg).toInt ∧ (gw k.toNatClampNeg).toInt ≤ 64) (hgh : 0 ≤ (gh k.toNatClampNeg).toInt ∧ (gh k.toNatClampNeg).toInt ≤ 64) (hwy : 0 ≤ wy.toInt ∧ wy.toInt ≤ 12) (hgp : 0 < (gw k.toNatClampNeg).toInt) (hpn : 0 ≤ pn.toInt ∧ pn.toInt ≤ 48) (hpx : ∀ j : Nat, j < 48 → (-8192 ≤ (px j).toInt ∧ (px j).toInt ≤ 8192) ∧ (-8192 ≤ (py j).toInt ∧ (py j).toInt ≤ 8192)) (hru : (ru.toInt = 0 ∨ ru.toInt = 1)) : Met l yX9_fill (wB yX9_fill cX9_fill 7 (some .int)) ({ frames := 4, cells := 0, slots := 0, locals := 110 }) (cP D [(h0, .inr (9, [.ref m1, .ref m2, .ref m3, .int ik, .int wy, .int op, .int cl, .int cx0, .int cx1, .int cy0, .int cy1, .int ds, .ref m4, .ref m5, .ref m6, .ref m7, .ref m8, .ref m9, .int pn, .ref m10, .ref m11, .ref m12, .ref m13])), (m1, .inl (cI, 4, .inl gw)), (m2, .inl (cI, 4, .inl gh)), (m3, .inl (cI, 16384, .inl gd)), (m4, .inl (cZ, 4096, .inl gm)), (m5, .inl (cI, 4096, .inl ge)), (m6, .inl (cI, 4096, .inl gv)), (m7, .inl (cI, 48, .inl px)), (m8, .inl (cI, 48, .inl py)), (m9, .inl (cZ, 48, .inl pf))] [(cI, .int), (cZ, .boolean)] sz [.ref h0, .int k, .int ru, .int sm]) (va_Qi (fun (r : Int32) (_ : Unit) => r = nI (cntP ((gL (flQ (cfM px py pf pn.toNatClampNeg ru sm) sm ik op) (gw k.toNatClampNeg).toNatClampNeg (gh k.toNatClampNeg).toNatClampNeg).foldl (mkF (gw k.toNatClampNeg) (gh k.toNatClampNeg) cl cx0 cx1 cy0 cy1) (zrN gm 4096, ge, gv)).1 4096)) (fun (_ : Unit) (t : State) => cB D (va_A [(h0, .inr (9, [.ref m1, .ref m2, .ref m3, .int ik, .int wy, .int op, .int cl, .int cx0, .int cx1, .int cy0, .int cy1, .int ds, .ref m4, .ref m5, .ref m6, .ref m7, .ref m8, .ref m9, .int pn, .ref m10, .ref m11, .ref m12, .ref m13])), (m1, .inl (cI, 4, .inl gw)), (m2, .inl (cI, 4, .inl gh)), (m3, .inl (cI, 16384, .inl gd)), (m4, .inl (cZ, 4096, .inl gm)), (m5, .inl (cI, 4096, .inl ge)), (m6, .inl (cI, 4096, .inl gv)), (m7, .inl (cI, 48, .inl px)), (m8, .inl (cI, 48, .inl py)), (m9, .inl (cZ, 48, .inl pf))] sz) [(h0, .inr (9, [.ref m1, .ref m2, .ref m3, .int ik, .int wy, .int op, .int cl, .int cx0, .int cx1, .int cy0, .int cy1, .int ds, .ref m4, .ref m5, .ref m6, .ref m7, .ref m8, .ref m9, .int pn, .ref m10, .ref m11, .ref m12, .ref m13])), (m1, .inl (cI, 4, .inl gw)), (m2, .inl (cI, 4, .inl gh)), (m3, .inl (cI, 16384, .inl (lysN wy gd ((gL (flQ (cfM px py pf pn.toNatClampNeg ru sm) sm ik op) (gw k.toNatClampNeg).toNatClampNeg (gh k.toNatClampNeg).toNatClampNeg).foldl (mkF (gw k.toNatClampNeg) (gh k.toNatClampNeg) cl cx0 cx1 cy0 cy1) (zrN gm 4096, ge, gv)).1 ((gL (flQ (cfM px py pf pn.toNatClampNeg ru sm) sm ik op) (gw k.toNatClampNeg).toNatClampNeg (gh k.toNatClampNeg).toNatClampNeg).foldl (mkF (gw k.toNatClampNeg) (gh k.toNatClampNeg) cl cx0 cx1 cy0 cy1) (zrN gm 4096, ge, gv)).2.1 ((gL (flQ (cfM px py pf pn.toNatClampNeg ru sm) sm ik op) (gw k.toNatClampNeg).toNatClampNeg (gh k.toNatClampNeg).toNatClampNeg).foldl (mkF (gw k.toNatClampNeg) (gh k.toNatClampNeg) cl cx0 cx1 cy0 cy1) (zrN gm 4096, ge, gv)).2.2 k.toNatClampNeg 4096))), (m4, .inl (cZ, 4096, .inl (((gL (flQ (cfM px py pf pn.toNatClampNeg ru sm) sm ik op) (gw k.toNatClampNeg).toNatClampNeg (gh k.toNatClampNeg).toNatClampNeg).foldl (mkF (gw k.toNatClampNeg) (gh k.toNatClampNeg) cl cx0 cx1 cy0 cy1) (zrN gm 4096, ge, gv)).1))), (m5, .inl (cI, 4096, .inl (((gL (flQ (cfM px py pf pn.toNatClampNeg ru sm) sm ik op) (gw k.toNatClampNeg).toNatClampNeg (gh k.toNatClampNeg).toNatClampNeg).foldl (mkF (gw k.toNatClampNeg) (gh k.toNatClampNeg) cl cx0 cx1 cy0 cy1) (zrN gm 4096, ge, gv)).2.1))), (m6, .inl (cI, 4096, .inl (((gL (flQ (cfM px py pf pn.toNatClampNeg ru sm) sm ik op) (gw k.toNatClampNeg).toNatClampNeg (gh k.toNatClampNeg).toNatClampNeg).foldl (mkF (gw k.toNatClampNeg) (gh k.toNatClampNeg) cl cx0 cx1 cy0 cy1) (zrN gm 4096, ge, gv)).2.2))), (m7, .inl (cI, 48, .inl px)), (m8, .inl (cI, 48, .inl py)), (m9, .inl (cZ, 48, .inl pf))] [(cI, .int), (cZ, .boolean)] t) (va_A [(h0, .inr (9, [.ref m1, .ref m2, .ref m3, .int ik, .int wy, .int op, .int cl, .int cx0, .int cx1, .int cy0, .int cy1, .int ds, .ref m4, .ref m5, .ref m6, .ref m7, .ref m8, .ref m9, .int pn, .ref m10, .ref m11, .ref m12, .ref m13])), (m1, .inl (cI, 4, .inl gw)), (m2, .inl (cI, 4, .inl gh)), (m3, .inl (cI, 16384, .inl gd)), (m4, .inl (cZ, 4096, .inl gm)), (m5, .inl (cI, 4096, .inl ge)), (m6, .inl (cI, 4096, .inl gv)), (m7, .inl (cI, 48, .inl px)), (m8, .inl (cI, 48, .inl py)), (m9, .inl (cZ, 48, .inl pf))] sz)) 0 0 (va_A [(h0, .inr (9, [.ref m1, .ref m2, .ref m3, .int ik, .int wy, .int op, .int cl, .int cx0, .int cx1, .int cy0, .int cy1, .int ds, .ref m4, .ref m5, .ref m6, .ref m7, .ref m8, .ref m9, .int pn, .ref m10, .ref m11, .ref m12, .ref m13])), (m1, .inl (cI, 4, .inl gw)), (m2, .inl (cI, 4, .inl gh)), (m3, .inl (cI, 16384, .inl gd)), (m4, .inl (cZ, 4096, .inl gm)), (m5, .inl (cI, 4096, .inl ge)), (m6, .inl (cI, 4096, .inl gv)), (m7, .inl (cI, 48, .inl px)), (m8, .inl (cI, 48, .inl py)), (m9, .inl (cZ, 48, .inl pf))] sz) := by
  refine Met.ofW (cc := cX9_fill) (maxL := 7) (ret := (some .int)) (by decide) rfl ?_
  intro p e s m args below meth c s₁ B hml hv
  obtain ⟨rfl, hsz, hP, hK, hD0, hN⟩ := hv
  have hx := B.exec
  have hb := B.bytes
  have hr := B.returns
  have hts0 := atoms_spec (ws := (wB yX9_fill cX9_fill 7 (some .int))) B.pre
  have hts : ∀ w ∈ bigW, w.before _ s = true := fun w h => hts0 w (List.mem_cons_of_mem _ h)
  have hown : s.vm.findClass RX9 = some m.cls := findClass_of_methodNamed B.named
  have hlocks := B.notSynchronized
  subst hsz
  have hD := hD0.self (sz := s.heap.size)
  generalize hAe : va_A [(h0, .inr (9, [.ref m1, .ref m2, .ref m3, .int ik, .int wy, .int op, .int cl, .int cx0, .int cx1, .int cy0, .int cy1, .int ds, .ref m4, .ref m5, .ref m6, .ref m7, .ref m8, .ref m9, .int pn, .ref m10, .ref m11, .ref m12, .ref m13])), (m1, .inl (cI, 4, .inl gw)), (m2, .inl (cI, 4, .inl gh)), (m3, .inl (cI, 16384, .inl gd)), (m4, .inl (cZ, 4096, .inl gm)), (m5, .inl (cI, 4096, .inl ge)), (m6, .inl (cI, 4096, .inl gv)), (m7, .inl (cI, 48, .inl px)), (m8, .inl (cI, 48, .inl py)), (m9, .inl (cZ, 48, .inl pf))] s.heap.size = A at hD ⊢
  have hA : ∀ q : Nat, s.heap.size ≤ q → A q := fun q h => by rw [← hAe]; exact Or.inr h
  have hS : va_S A s.heap s.heap [] := va_S.rf
  have hP : va_P D vwCl [(h0, .inr (9, [.ref m1, .ref m2, .ref m3, .int ik, .int wy, .int op, .int cl, .int cx0, .int cx1, .int cy0, .int cy1, .int ds, .ref m4, .ref m5, .ref m6, .ref m7, .ref m8, .ref m9, .int pn, .ref m10, .ref m11, .ref m12, .ref m13])), (m1, .inl (cI, 4, .inl gw)), (m2, .inl (cI, 4, .inl gh)), (m3, .inl (cI, 16384, .inl gd)), (m4, .inl (cZ, 4096, .inl gm)), (m5, .inl (cI, 4096, .inl ge)), (m6, .inl (cI, 4096, .inl gv)), (m7, .inl (cI, 48, .inl px)), (m8, .inl (cI, 48, .inl py)), (m9, .inl (cZ, 48, .inl pf))] s.heap := hP
  have hl := lv_entry ([.ref h0, .int k, .int ru, .int sm]) (n := 7) (Nat.le_of_ble_eq_true rfl)
  rw [lg_entry_eq]
  generalize (lg_sl ([.ref h0, .int k, .int ru, .int sm]) ++ List.replicate (7 - (lg_sl ([.ref h0, .int k, .int ru, .int sm])).length) Slot.unset).toArray = ls at hl ⊢
  have hl : lv_has ls 7 [(0, .ref h0), (1, .int k), (2, .int ru), (3, .int sm)] := hl
  clear hts0 hD0 hAe
  refine my_abs (fun R Q hR hQ => ?_)
  obtain ⟨W9, hW9, eW9⟩ := i_of (x := gw k.toNatClampNeg) (N := 65) (by omega) (by omega) (by decide)
  have eW9n : (gw k.toNatClampNeg).toNatClampNeg = W9 := by rw [eW9]; exact nI_clamp (by omega)
  have hW9t : (gw k.toNatClampNeg).toInt = (W9 : Int) := by rw [eW9]; exact nI_toInt (by omega)
  obtain ⟨H9, hH9, eH9⟩ := i_of (x := gh k.toNatClampNeg) (N := 65) (by omega) (by omega) (by decide)
  have eH9n : (gh k.toNatClampNeg).toNatClampNeg = H9 := by rw [eH9]; exact nI_clamp (by omega)
  have hH9t : (gh k.toNatClampNeg).toInt = (H9 : Int) := by rw [eH9]; exact nI_toInt (by omega)
  refine lv_aload_n hx hb dX9_fill_0 rfl (lv_at hl 0 rfl) ?_
  refine lv_iload_n hx hb dX9_fill_1 rfl (lv_at hl 1 rfl) ?_
  have hPc := hP.sub (ws' := [(h0, .inr (9, [.ref m1, .ref m2, .ref m3, .int ik, .int wy, .int op, .int cl, .int cx0, .int cx1, .int cy0, .int cy1, .int ds, .ref m4, .ref m5, .ref m6, .ref m7, .ref m8, .ref m9, .int pn, .ref m10, .ref m11, .ref m12, .ref m13])), (m1, .inl (cI, 4, .inl gw))]) [0, 1] rfl
  have hDc := hD.sub (ws' := [(h0, .inr (9, [.ref m1, .ref m2, .ref m3, .int ik, .int wy, .int op, .int cl, .int cx0, .int cx1, .int cy0, .int cy1, .int ds, .ref m4, .ref m5, .ref m6, .ref m7, .ref m8, .ref m9, .int pn, .ref m10, .ref m11, .ref m12, .ref m13])), (m1, .inl (cI, 4, .inl gw))]) [0, 1] (by decide) rfl
  have hKc := hK.sub (tys' := [(cI, .int)]) [0] rfl
  have hFc := va_free (wc := [(h0, .inr (9, [.ref m1, .ref m2, .ref m3, .int ik, .int wy, .int op, .int cl, .int cx0, .int cx1, .int cy0, .int cy1, .int ds, .ref m4, .ref m5, .ref m6, .ref m7, .ref m8, .ref m9, .int pn, .ref m10, .ref m11, .ref m12, .ref m13])), (m1, .inl (cI, 4, .inl gw))]) hD hS hA [0, 1] rfl
  refine va_calli (va_runV (As := [.int k]) (rest := []) ⟨hx, hb, hml, hown, hts⟩ (k_X9_isSheet l D s.heap.size h0 m1 m2 m3 m4 m5 m6 m7 m8 m9 m10 m11 m12 m13 ik wy op cl cx0 cx1 cy0 cy1 ds pn gw k cI) (cwV 1 hts (gV bw_490 bw_415 bw_416 bw_391 bw_414) rfl rfl rfl (by decide +kernel) ⟨(by rw [hR]; exact Nat.le_of_ble_eq_true rfl), (by rw [hR]; exact Nat.le_of_ble_eq_true rfl)⟩) ⟨cP_blind, va_recv hKc hPc (ci := 9) (q0 := 0) rfl rfl, cP_at hPc hKc hDc hN⟩ rfl rfl hl.1 rfl (lv_room (Nat.le_of_ble_eq_true rfl)) dX9_fill_2 ⟨(by rw [hR]; exact Nat.le_of_ble_eq_true rfl), (by rw [hR]; exact Nat.le_of_ble_eq_true rfl)⟩) hS (fun q _ h => hFc q h) hFc (fun r_1 u9 t9 H1 locs ht hvm hr_1 hB hz1 hk1 hS => ?_)
  try dsimp only at hr_1
  obtain ⟨hP1, hK1, hD1⟩ := hB
  rw [ht] at hP1
  obtain ⟨hP, hD⟩ := va_join (wr := [(m2, .inl (cI, 4, .inl gh)), (m3, .inl (cI, 16384, .inl gd)), (m4, .inl (cZ, 4096, .inl gm)), (m5, .inl (cI, 4096, .inl ge)), (m6, .inl (cI, 4096, .inl gv)), (m7, .inl (cI, 48, .inl px)), (m8, .inl (cI, 48, .inl py)), (m9, .inl (cZ, 48, .inl pf))]) (w1 := [(h0, .inr (9, [.ref m1, .ref m2, .ref m3, .int ik, .int wy, .int op, .int cl, .int cx0, .int cx1, .int cy0, .int cy1, .int ds, .ref m4, .ref m5, .ref m6, .ref m7, .ref m8, .ref m9, .int pn, .ref m10, .ref m11, .ref m12, .ref m13])), (m1, .inl (cI, 4, .inl gw))]) hP hD [0, 1] [2, 3, 4, 5, 6, 7, 8, 9] rfl rfl (by decide) (by decide) hk1 hFc hP1 hD1
  clear hz1 hk1 hFc hKc hDc hPc
  generalize H1 = H at hP hS ⊢
  have hP : va_P D vwCl [(m2, .inl (cI, 4, .inl gh)), (m3, .inl (cI, 16384, .inl gd)), (m4, .inl (cZ, 4096, .inl gm)), (m5, .inl (cI, 4096, .inl ge)), (m6, .inl (cI, 4096, .inl gv)), (m7, .inl (cI, 48, .inl px)), (m8, .inl (cI, 48, .inl py)), (m9, .inl (cZ, 48, .inl pf)), (h0, .inr (9, [.ref m1, .ref m2, .ref m3, .int ik, .int wy, .int op, .int cl, .int cx0, .int cx1, .int cy0, .int cy1, .int ds, .ref m4, .ref m5, .ref m6, .ref m7, .ref m8, .ref m9, .int pn, .ref m10, .ref m11, .ref m12, .ref m13])), (m1, .inl (cI, 4, .inl gw))] H := hP
  have hD : va_D A [(m2, .inl (cI, 4, .inl gh)), (m3, .inl (cI, 16384, .inl gd)), (m4, .inl (cZ, 4096, .inl gm)), (m5, .inl (cI, 4096, .inl ge)), (m6, .inl (cI, 4096, .inl gv)), (m7, .inl (cI, 48, .inl px)), (m8, .inl (cI, 48, .inl py)), (m9, .inl (cZ, 48, .inl pf)), (h0, .inr (9, [.ref m1, .ref m2, .ref m3, .int ik, .int wy, .int op, .int cl, .int cx0, .int cx1, .int cy0, .int cy1, .int ds, .ref m4, .ref m5, .ref m6, .ref m7, .ref m8, .ref m9, .int pn, .ref m10, .ref m11, .ref m12, .ref m13])), (m1, .inl (cI, 4, .inl gw))] := hD
  refine lv_if_eq (tgt := 17) hx hb dX9_fill_5 (by decide) (fun c_2 => ?_) (fun c_2 => ?_)
  · skip
    have f_3 := bz0 hr_1 c_2
    exact False.elim (by omega)
  · skip
    have f_3 := bz1 hr_1 c_2
    refine lv_iload_n hx hb dX9_fill_8 rfl (lv_at hl 2 rfl) ?_
    refine lv_if_lt (tgt := 17) hx hb dX9_fill_9 (by decide) (fun c_4 => ?_) (fun c_4 => ?_)
    · skip
      have f_5 : ru.toInt < 0 := f_lt rfl (by decide) c_4
      exact False.elim (by omega)
    · skip
      have f_5 : ¬ (ru.toInt < 0) := fn_lt rfl (by decide) c_4
      refine lv_iload_n hx hb dX9_fill_12 rfl (lv_at hl 2 rfl) ?_
      refine lv_iconst (v := 1) hx hb dX9_fill_13 (by decide) ?_
      refine lv_icmp_le (tgt := 19) hx hb dX9_fill_14 (by decide) (fun c_6 => ?_) (fun c_6 => ?_)
      · skip
        have f_7 : ru.toInt ≤ 1 := f_le rfl (by decide) c_6
        refine lv_aload_n hx hb dX9_fill_19 rfl (lv_at hl 0 rfl) ?_
        have hPc := hP.sub (ws' := [(h0, .inr (9, [.ref m1, .ref m2, .ref m3, .int ik, .int wy, .int op, .int cl, .int cx0, .int cx1, .int cy0, .int cy1, .int ds, .ref m4, .ref m5, .ref m6, .ref m7, .ref m8, .ref m9, .int pn, .ref m10, .ref m11, .ref m12, .ref m13])), (m4, .inl (cZ, 4096, .inl gm))]) [8, 2] rfl
        have hDc := hD.sub (ws' := [(h0, .inr (9, [.ref m1, .ref m2, .ref m3, .int ik, .int wy, .int op, .int cl, .int cx0, .int cx1, .int cy0, .int cy1, .int ds, .ref m4, .ref m5, .ref m6, .ref m7, .ref m8, .ref m9, .int pn, .ref m10, .ref m11, .ref m12, .ref m13])), (m4, .inl (cZ, 4096, .inl gm))]) [8, 2] (by decide) rfl
        have hKc := hK.sub (tys' := [(cZ, .boolean)]) [1] rfl
        have hFc := va_free (wc := [(h0, .inr (9, [.ref m1, .ref m2, .ref m3, .int ik, .int wy, .int op, .int cl, .int cx0, .int cx1, .int cy0, .int cy1, .int ds, .ref m4, .ref m5, .ref m6, .ref m7, .ref m8, .ref m9, .int pn, .ref m10, .ref m11, .ref m12, .ref m13])), (m4, .inl (cZ, 4096, .inl gm))]) hD hS hA [8, 2] rfl
        refine va_callv (va_runV (As := []) (rest := []) ⟨hx, hb, hml, hown, hts⟩ (k_X9_begins l D H.size h0 m1 m2 m3 m4 m5 m6 m7 m8 m9 m10 m11 m12 m13 ik wy op cl cx0 cx1 cy0 cy1 ds pn gm cZ) (cwV 0 hts (gV bw_493 bw_455 bw_456 bw_391 bw_454) rfl rfl rfl (by decide +kernel) ⟨(by rw [hR]; exact Nat.le_of_ble_eq_true rfl), (by rw [hR]; exact Nat.le_of_ble_eq_true rfl)⟩) ⟨cP_blind, va_recv hKc hPc (ci := 9) (q0 := 0) rfl rfl, cP_at hPc hKc hDc hN⟩ rfl rfl hl.1 rfl (lv_room (Nat.le_of_ble_eq_true rfl)) dX9_fill_20 ⟨(by rw [hR]; exact Nat.le_of_ble_eq_true rfl), (by rw [hR]; exact Nat.le_of_ble_eq_true rfl)⟩) hS (fun q _ h => hFc q h) hFc (fun u9 t9 H1 locs ht hvm hr_8 hB hz1 hk1 hS => ?_)
        try dsimp only at hr_8
        obtain ⟨hP1, hK1, hD1⟩ := hB
        rw [ht] at hP1
        obtain ⟨hP, hD⟩ := va_join (wr := [(m2, .inl (cI, 4, .inl gh)), (m3, .inl (cI, 16384, .inl gd)), (m5, .inl (cI, 4096, .inl ge)), (m6, .inl (cI, 4096, .inl gv)), (m7, .inl (cI, 48, .inl px)), (m8, .inl (cI, 48, .inl py)), (m9, .inl (cZ, 48, .inl pf)), (m1, .inl (cI, 4, .inl gw))]) (w1 := [(h0, .inr (9, [.ref m1, .ref m2, .ref m3, .int ik, .int wy, .int op, .int cl, .int cx0, .int cx1, .int cy0, .int cy1, .int ds, .ref m4, .ref m5, .ref m6, .ref m7, .ref m8, .ref m9, .int pn, .ref m10, .ref m11, .ref m12, .ref m13])), (m4, .inl (cZ, 4096, .inl (zrN gm 4096)))]) hP hD [8, 2] [0, 1, 3, 4, 5, 6, 7, 9] rfl rfl (by decide) (by decide) hk1 hFc hP1 hD1
        clear hz1 hk1 hFc hKc hDc hPc
        generalize H1 = H at hP hS ⊢
        have hP : va_P D vwCl [(m2, .inl (cI, 4, .inl gh)), (m3, .inl (cI, 16384, .inl gd)), (m5, .inl (cI, 4096, .inl ge)), (m6, .inl (cI, 4096, .inl gv)), (m7, .inl (cI, 48, .inl px)), (m8, .inl (cI, 48, .inl py)), (m9, .inl (cZ, 48, .inl pf)), (m1, .inl (cI, 4, .inl gw)), (h0, .inr (9, [.ref m1, .ref m2, .ref m3, .int ik, .int wy, .int op, .int cl, .int cx0, .int cx1, .int cy0, .int cy1, .int ds, .ref m4, .ref m5, .ref m6, .ref m7, .ref m8, .ref m9, .int pn, .ref m10, .ref m11, .ref m12, .ref m13])), (m4, .inl (cZ, 4096, .inl (zrN gm 4096)))] H := hP
        have hD : va_D A [(m2, .inl (cI, 4, .inl gh)), (m3, .inl (cI, 16384, .inl gd)), (m5, .inl (cI, 4096, .inl ge)), (m6, .inl (cI, 4096, .inl gv)), (m7, .inl (cI, 48, .inl px)), (m8, .inl (cI, 48, .inl py)), (m9, .inl (cZ, 48, .inl pf)), (m1, .inl (cI, 4, .inl gw)), (h0, .inr (9, [.ref m1, .ref m2, .ref m3, .int ik, .int wy, .int op, .int cl, .int cx0, .int cx1, .int cy0, .int cy1, .int ds, .ref m4, .ref m5, .ref m6, .ref m7, .ref m8, .ref m9, .int pn, .ref m10, .ref m11, .ref m12, .ref m13])), (m4, .inl (cZ, 4096, .inl (zrN gm 4096)))] := hD
        refine lv_iconst (v := 0) hx hb dX9_fill_23 (by decide) ?_
        refine lv_istore (lv' := [(4, .int 0), (0, .ref h0), (1, .int k), (2, .int ru), (3, .int sm)]) hx hb dX9_fill_24 hl (by decide) rfl (fun ls hl => ?_)
        have loop_9 : ∀ (n : Nat) (j : Nat) (x4 : Int32) (ga : Nat → Int32) (gb : Nat → Int32) (gc : Nat → Int32) (H : Heap) (locs : List Loc) (ls : Array Slot), (j ≤ 64) → (64 + 1 ≤ j + n) → (x4 = nI j) → (j ≤ H9) → (((ga, gb, gc) : M3) = (gL (flQ (cfM px py pf pn.toNatClampNeg ru sm) sm ik op) W9 j).foldl (mkF (gw k.toNatClampNeg) (gh k.toNatClampNeg) cl cx0 cx1 cy0 cy1) (zrN gm 4096, ge, gv)) → va_P D vwCl [(m2, .inl (cI, 4, .inl gh)), (m3, .inl (cI, 16384, .inl gd)), (m5, .inl (cI, 4096, .inl gb)), (m6, .inl (cI, 4096, .inl gc)), (m7, .inl (cI, 48, .inl px)), (m8, .inl (cI, 48, .inl py)), (m9, .inl (cZ, 48, .inl pf)), (m1, .inl (cI, 4, .inl gw)), (h0, .inr (9, [.ref m1, .ref m2, .ref m3, .int ik, .int wy, .int op, .int cl, .int cx0, .int cx1, .int cy0, .int cy1, .int ds, .ref m4, .ref m5, .ref m6, .ref m7, .ref m8, .ref m9, .int pn, .ref m10, .ref m11, .ref m12, .ref m13])), (m4, .inl (cZ, 4096, .inl ga))] H → va_D A [(m2, .inl (cI, 4, .inl gh)), (m3, .inl (cI, 16384, .inl gd)), (m5, .inl (cI, 4096, .inl gb)), (m6, .inl (cI, 4096, .inl gc)), (m7, .inl (cI, 48, .inl px)), (m8, .inl (cI, 48, .inl py)), (m9, .inl (cZ, 48, .inl pf)), (m1, .inl (cI, 4, .inl gw)), (h0, .inr (9, [.ref m1, .ref m2, .ref m3, .int ik, .int wy, .int op, .int cl, .int cx0, .int cx1, .int cy0, .int cy1, .int ds, .ref m4, .ref m5, .ref m6, .ref m7, .ref m8, .ref m9, .int pn, .ref m10, .ref m11, .ref m12, .ref m13])), (m4, .inl (cZ, 4096, .inl ga))] → va_S A s.heap H locs → lv_has ls 7 [(4, .int x4), (0, .ref h0), (1, .int k), (2, .int ru), (3, .int sm)] → W p l e R s m ([.ref h0, .int k, .int ru, .int sm] : List Value).toArray below meth c H locs 0 0 Q (F0 m 26 ls []) := by
          intro n
          induction n with
          | zero =>
            intro j x4 ga gb gc H locs ls hi_j hm_j ex_j hjo hgo hP hD hS hl
            exact absurd (show False by omega) not_false
          | succ n ih_10 =>
            intro j x4 ga gb gc H locs ls hi_j hm_j ex_j hjo hgo hP hD hS hl
            have hx_j : x4.toInt = (j : Int) := by rw [ex_j]; exact nI_toInt (by omega)
            have hc_j : x4.toNatClampNeg = j := by rw [ex_j]; exact nI_clamp (by omega)
            refine lv_iload hx hb dX9_fill_26 (lv_at hl 0 rfl) ?_
            refine lv_aload_n hx hb dX9_fill_28 rfl (lv_at hl 1 rfl) ?_
            refine va_get (D := D) (ci := 9) (v := .ref m2) (C := RX9) (T := TX9) (N := 23) hx hb hts hi_X9 hown hK hP 8 rfl rfl 1 (by decide) (hts _ bw_397) (fun _ h9 => h9) rfl dX9_fill_29 ?_
            refine lv_iload_n hx hb dX9_fill_32 rfl (lv_at hl 2 rfl) ?_
            refine va_iald hx hb hK hP 0 0 rfl rfl (vp_in_iff.mpr ⟨by omega, by omega⟩) dX9_fill_33 ?_
            refine lv_icmp_ge (tgt := 154) hx hb dX9_fill_34 (by decide) (fun c_11 => ?_) (fun c_11 => ?_)
            · skip
              have f_12 : (gh k.toNatClampNeg).toInt ≤ (j : Int) := f_le rfl hx_j c_11
              refine lv_aload_n hx hb dX9_fill_154 rfl (lv_at hl 1 rfl) ?_
              refine lv_iload_n hx hb dX9_fill_155 rfl (lv_at hl 2 rfl) ?_
              have hPc := hP.sub (ws' := [(h0, .inr (9, [.ref m1, .ref m2, .ref m3, .int ik, .int wy, .int op, .int cl, .int cx0, .int cx1, .int cy0, .int cy1, .int ds, .ref m4, .ref m5, .ref m6, .ref m7, .ref m8, .ref m9, .int pn, .ref m10, .ref m11, .ref m12, .ref m13])), (m3, .inl (cI, 16384, .inl gd)), (m4, .inl (cZ, 4096, .inl ga)), (m5, .inl (cI, 4096, .inl gb)), (m6, .inl (cI, 4096, .inl gc))]) [8, 1, 9, 2, 3] rfl
              have hDc := hD.sub (ws' := [(h0, .inr (9, [.ref m1, .ref m2, .ref m3, .int ik, .int wy, .int op, .int cl, .int cx0, .int cx1, .int cy0, .int cy1, .int ds, .ref m4, .ref m5, .ref m6, .ref m7, .ref m8, .ref m9, .int pn, .ref m10, .ref m11, .ref m12, .ref m13])), (m3, .inl (cI, 16384, .inl gd)), (m4, .inl (cZ, 4096, .inl ga)), (m5, .inl (cI, 4096, .inl gb)), (m6, .inl (cI, 4096, .inl gc))]) [8, 1, 9, 2, 3] (by decide) rfl
              have hKc := hK.sub (tys' := [(cI, .int), (cZ, .boolean)]) [0, 1] rfl
              have hFc := va_free (wc := [(h0, .inr (9, [.ref m1, .ref m2, .ref m3, .int ik, .int wy, .int op, .int cl, .int cx0, .int cx1, .int cy0, .int cy1, .int ds, .ref m4, .ref m5, .ref m6, .ref m7, .ref m8, .ref m9, .int pn, .ref m10, .ref m11, .ref m12, .ref m13])), (m3, .inl (cI, 16384, .inl gd)), (m4, .inl (cZ, 4096, .inl ga)), (m5, .inl (cI, 4096, .inl gb)), (m6, .inl (cI, 4096, .inl gc))]) hD hS hA [8, 1, 9, 2, 3] rfl
              refine va_calli (va_runV (As := [.int k]) (rest := []) ⟨hx, hb, hml, hown, hts⟩ (k_X9_lays l D H.size h0 m1 m2 m3 m4 m5 m6 m7 m8 m9 m10 m11 m12 m13 ik wy op cl cx0 cx1 cy0 cy1 ds pn gd ga gb gc k cI cZ (by omega) (by first | assumption | omega | decide)) (cwV 1 hts (gV bw_496 bw_462 bw_463 bw_391 bw_461) rfl rfl rfl (by decide +kernel) ⟨(by rw [hR]; exact Nat.le_of_ble_eq_true rfl), (by rw [hR]; exact Nat.le_of_ble_eq_true rfl)⟩) ⟨cP_blind, va_recv hKc hPc (ci := 9) (q0 := 0) rfl rfl, cP_at hPc hKc hDc hN⟩ rfl rfl hl.1 rfl (lv_room (Nat.le_of_ble_eq_true rfl)) dX9_fill_156 ⟨(by rw [hR]; exact Nat.le_of_ble_eq_true rfl), (by rw [hR]; exact Nat.le_of_ble_eq_true rfl)⟩) hS (fun q _ h => hFc q h) hFc (fun r_13 u9 t9 H1 locs ht hvm hr_13 hB hz1 hk1 hS => ?_)
              try dsimp only at hr_13
              obtain ⟨hP1, hK1, hD1⟩ := hB
              rw [ht] at hP1
              obtain ⟨hP, hD⟩ := va_join (wr := [(m2, .inl (cI, 4, .inl gh)), (m7, .inl (cI, 48, .inl px)), (m8, .inl (cI, 48, .inl py)), (m9, .inl (cZ, 48, .inl pf)), (m1, .inl (cI, 4, .inl gw))]) (w1 := [(h0, .inr (9, [.ref m1, .ref m2, .ref m3, .int ik, .int wy, .int op, .int cl, .int cx0, .int cx1, .int cy0, .int cy1, .int ds, .ref m4, .ref m5, .ref m6, .ref m7, .ref m8, .ref m9, .int pn, .ref m10, .ref m11, .ref m12, .ref m13])), (m3, .inl (cI, 16384, .inl (lysN wy gd ga gb gc k.toNatClampNeg 4096))), (m4, .inl (cZ, 4096, .inl ga)), (m5, .inl (cI, 4096, .inl gb)), (m6, .inl (cI, 4096, .inl gc))]) hP hD [8, 1, 9, 2, 3] [0, 4, 5, 6, 7] rfl rfl (by decide) (by decide) hk1 hFc hP1 hD1
              clear hz1 hk1 hFc hKc hDc hPc
              generalize H1 = H at hP hS ⊢
              have hP : va_P D vwCl [(m2, .inl (cI, 4, .inl gh)), (m7, .inl (cI, 48, .inl px)), (m8, .inl (cI, 48, .inl py)), (m9, .inl (cZ, 48, .inl pf)), (m1, .inl (cI, 4, .inl gw)), (h0, .inr (9, [.ref m1, .ref m2, .ref m3, .int ik, .int wy, .int op, .int cl, .int cx0, .int cx1, .int cy0, .int cy1, .int ds, .ref m4, .ref m5, .ref m6, .ref m7, .ref m8, .ref m9, .int pn, .ref m10, .ref m11, .ref m12, .ref m13])), (m3, .inl (cI, 16384, .inl (lysN wy gd ga gb gc k.toNatClampNeg 4096))), (m4, .inl (cZ, 4096, .inl ga)), (m5, .inl (cI, 4096, .inl gb)), (m6, .inl (cI, 4096, .inl gc))] H := hP
              have hD : va_D A [(m2, .inl (cI, 4, .inl gh)), (m7, .inl (cI, 48, .inl px)), (m8, .inl (cI, 48, .inl py)), (m9, .inl (cZ, 48, .inl pf)), (m1, .inl (cI, 4, .inl gw)), (h0, .inr (9, [.ref m1, .ref m2, .ref m3, .int ik, .int wy, .int op, .int cl, .int cx0, .int cx1, .int cy0, .int cy1, .int ds, .ref m4, .ref m5, .ref m6, .ref m7, .ref m8, .ref m9, .int pn, .ref m10, .ref m11, .ref m12, .ref m13])), (m3, .inl (cI, 16384, .inl (lysN wy gd ga gb gc k.toNatClampNeg 4096))), (m4, .inl (cZ, 4096, .inl ga)), (m5, .inl (cI, 4096, .inl gb)), (m6, .inl (cI, 4096, .inl gc))] := hD
              have hgx : ((ga, gb, gc) : M3) = ((gL (flQ (cfM px py pf pn.toNatClampNeg ru sm) sm ik op) (gw k.toNatClampNeg).toNatClampNeg (gh k.toNatClampNeg).toNatClampNeg).foldl (mkF (gw k.toNatClampNeg) (gh k.toNatClampNeg) cl cx0 cx1 cy0 cy1) (zrN gm 4096, ge, gv)) := by rw [eW9n, eH9n, ← show j = H9 by omega]; exact hgo
              have hP : va_P D vwCl [(m2, .inl (cI, 4, .inl gh)), (m7, .inl (cI, 48, .inl px)), (m8, .inl (cI, 48, .inl py)), (m9, .inl (cZ, 48, .inl pf)), (m1, .inl (cI, 4, .inl gw)), (h0, .inr (9, [.ref m1, .ref m2, .ref m3, .int ik, .int wy, .int op, .int cl, .int cx0, .int cx1, .int cy0, .int cy1, .int ds, .ref m4, .ref m5, .ref m6, .ref m7, .ref m8, .ref m9, .int pn, .ref m10, .ref m11, .ref m12, .ref m13])), (m3, .inl (cI, 16384, .inl (lysN wy gd ((gL (flQ (cfM px py pf pn.toNatClampNeg ru sm) sm ik op) (gw k.toNatClampNeg).toNatClampNeg (gh k.toNatClampNeg).toNatClampNeg).foldl (mkF (gw k.toNatClampNeg) (gh k.toNatClampNeg) cl cx0 cx1 cy0 cy1) (zrN gm 4096, ge, gv)).1 ((gL (flQ (cfM px py pf pn.toNatClampNeg ru sm) sm ik op) (gw k.toNatClampNeg).toNatClampNeg (gh k.toNatClampNeg).toNatClampNeg).foldl (mkF (gw k.toNatClampNeg) (gh k.toNatClampNeg) cl cx0 cx1 cy0 cy1) (zrN gm 4096, ge, gv)).2.1 ((gL (flQ (cfM px py pf pn.toNatClampNeg ru sm) sm ik op) (gw k.toNatClampNeg).toNatClampNeg (gh k.toNatClampNeg).toNatClampNeg).foldl (mkF (gw k.toNatClampNeg) (gh k.toNatClampNeg) cl cx0 cx1 cy0 cy1) (zrN gm 4096, ge, gv)).2.2 k.toNatClampNeg 4096))), (m4, .inl (cZ, 4096, .inl (((gL (flQ (cfM px py pf pn.toNatClampNeg ru sm) sm ik op) (gw k.toNatClampNeg).toNatClampNeg (gh k.toNatClampNeg).toNatClampNeg).foldl (mkF (gw k.toNatClampNeg) (gh k.toNatClampNeg) cl cx0 cx1 cy0 cy1) (zrN gm 4096, ge, gv)).1))), (m5, .inl (cI, 4096, .inl (((gL (flQ (cfM px py pf pn.toNatClampNeg ru sm) sm ik op) (gw k.toNatClampNeg).toNatClampNeg (gh k.toNatClampNeg).toNatClampNeg).foldl (mkF (gw k.toNatClampNeg) (gh k.toNatClampNeg) cl cx0 cx1 cy0 cy1) (zrN gm 4096, ge, gv)).2.1))), (m6, .inl (cI, 4096, .inl (((gL (flQ (cfM px py pf pn.toNatClampNeg ru sm) sm ik op) (gw k.toNatClampNeg).toNatClampNeg (gh k.toNatClampNeg).toNatClampNeg).foldl (mkF (gw k.toNatClampNeg) (gh k.toNatClampNeg) cl cx0 cx1 cy0 cy1) (zrN gm 4096, ge, gv)).2.2)))] H := by simp only [← hgx]; exact hP
              have hD : va_D A [(m2, .inl (cI, 4, .inl gh)), (m7, .inl (cI, 48, .inl px)), (m8, .inl (cI, 48, .inl py)), (m9, .inl (cZ, 48, .inl pf)), (m1, .inl (cI, 4, .inl gw)), (h0, .inr (9, [.ref m1, .ref m2, .ref m3, .int ik, .int wy, .int op, .int cl, .int cx0, .int cx1, .int cy0, .int cy1, .int ds, .ref m4, .ref m5, .ref m6, .ref m7, .ref m8, .ref m9, .int pn, .ref m10, .ref m11, .ref m12, .ref m13])), (m3, .inl (cI, 16384, .inl (lysN wy gd ((gL (flQ (cfM px py pf pn.toNatClampNeg ru sm) sm ik op) (gw k.toNatClampNeg).toNatClampNeg (gh k.toNatClampNeg).toNatClampNeg).foldl (mkF (gw k.toNatClampNeg) (gh k.toNatClampNeg) cl cx0 cx1 cy0 cy1) (zrN gm 4096, ge, gv)).1 ((gL (flQ (cfM px py pf pn.toNatClampNeg ru sm) sm ik op) (gw k.toNatClampNeg).toNatClampNeg (gh k.toNatClampNeg).toNatClampNeg).foldl (mkF (gw k.toNatClampNeg) (gh k.toNatClampNeg) cl cx0 cx1 cy0 cy1) (zrN gm 4096, ge, gv)).2.1 ((gL (flQ (cfM px py pf pn.toNatClampNeg ru sm) sm ik op) (gw k.toNatClampNeg).toNatClampNeg (gh k.toNatClampNeg).toNatClampNeg).foldl (mkF (gw k.toNatClampNeg) (gh k.toNatClampNeg) cl cx0 cx1 cy0 cy1) (zrN gm 4096, ge, gv)).2.2 k.toNatClampNeg 4096))), (m4, .inl (cZ, 4096, .inl (((gL (flQ (cfM px py pf pn.toNatClampNeg ru sm) sm ik op) (gw k.toNatClampNeg).toNatClampNeg (gh k.toNatClampNeg).toNatClampNeg).foldl (mkF (gw k.toNatClampNeg) (gh k.toNatClampNeg) cl cx0 cx1 cy0 cy1) (zrN gm 4096, ge, gv)).1))), (m5, .inl (cI, 4096, .inl (((gL (flQ (cfM px py pf pn.toNatClampNeg ru sm) sm ik op) (gw k.toNatClampNeg).toNatClampNeg (gh k.toNatClampNeg).toNatClampNeg).foldl (mkF (gw k.toNatClampNeg) (gh k.toNatClampNeg) cl cx0 cx1 cy0 cy1) (zrN gm 4096, ge, gv)).2.1))), (m6, .inl (cI, 4096, .inl (((gL (flQ (cfM px py pf pn.toNatClampNeg ru sm) sm ik op) (gw k.toNatClampNeg).toNatClampNeg (gh k.toNatClampNeg).toNatClampNeg).foldl (mkF (gw k.toNatClampNeg) (gh k.toNatClampNeg) cl cx0 cx1 cy0 cy1) (zrN gm 4096, ge, gv)).2.2)))] := by simp only [← hgx]; exact hD
              have hP9 := hP.sub (ws' := [(h0, .inr (9, [.ref m1, .ref m2, .ref m3, .int ik, .int wy, .int op, .int cl, .int cx0, .int cx1, .int cy0, .int cy1, .int ds, .ref m4, .ref m5, .ref m6, .ref m7, .ref m8, .ref m9, .int pn, .ref m10, .ref m11, .ref m12, .ref m13])), (m1, .inl (cI, 4, .inl gw)), (m2, .inl (cI, 4, .inl gh)), (m3, .inl (cI, 16384, .inl (lysN wy gd ((gL (flQ (cfM px py pf pn.toNatClampNeg ru sm) sm ik op) (gw k.toNatClampNeg).toNatClampNeg (gh k.toNatClampNeg).toNatClampNeg).foldl (mkF (gw k.toNatClampNeg) (gh k.toNatClampNeg) cl cx0 cx1 cy0 cy1) (zrN gm 4096, ge, gv)).1 ((gL (flQ (cfM px py pf pn.toNatClampNeg ru sm) sm ik op) (gw k.toNatClampNeg).toNatClampNeg (gh k.toNatClampNeg).toNatClampNeg).foldl (mkF (gw k.toNatClampNeg) (gh k.toNatClampNeg) cl cx0 cx1 cy0 cy1) (zrN gm 4096, ge, gv)).2.1 ((gL (flQ (cfM px py pf pn.toNatClampNeg ru sm) sm ik op) (gw k.toNatClampNeg).toNatClampNeg (gh k.toNatClampNeg).toNatClampNeg).foldl (mkF (gw k.toNatClampNeg) (gh k.toNatClampNeg) cl cx0 cx1 cy0 cy1) (zrN gm 4096, ge, gv)).2.2 k.toNatClampNeg 4096))), (m4, .inl (cZ, 4096, .inl (((gL (flQ (cfM px py pf pn.toNatClampNeg ru sm) sm ik op) (gw k.toNatClampNeg).toNatClampNeg (gh k.toNatClampNeg).toNatClampNeg).foldl (mkF (gw k.toNatClampNeg) (gh k.toNatClampNeg) cl cx0 cx1 cy0 cy1) (zrN gm 4096, ge, gv)).1))), (m5, .inl (cI, 4096, .inl (((gL (flQ (cfM px py pf pn.toNatClampNeg ru sm) sm ik op) (gw k.toNatClampNeg).toNatClampNeg (gh k.toNatClampNeg).toNatClampNeg).foldl (mkF (gw k.toNatClampNeg) (gh k.toNatClampNeg) cl cx0 cx1 cy0 cy1) (zrN gm 4096, ge, gv)).2.1))), (m6, .inl (cI, 4096, .inl (((gL (flQ (cfM px py pf pn.toNatClampNeg ru sm) sm ik op) (gw k.toNatClampNeg).toNatClampNeg (gh k.toNatClampNeg).toNatClampNeg).foldl (mkF (gw k.toNatClampNeg) (gh k.toNatClampNeg) cl cx0 cx1 cy0 cy1) (zrN gm 4096, ge, gv)).2.2))), (m7, .inl (cI, 48, .inl px)), (m8, .inl (cI, 48, .inl py)), (m9, .inl (cZ, 48, .inl pf))]) [5, 4, 0, 6, 7, 8, 9, 1, 2, 3] rfl
              have hD9 := hD.sub (ws' := [(h0, .inr (9, [.ref m1, .ref m2, .ref m3, .int ik, .int wy, .int op, .int cl, .int cx0, .int cx1, .int cy0, .int cy1, .int ds, .ref m4, .ref m5, .ref m6, .ref m7, .ref m8, .ref m9, .int pn, .ref m10, .ref m11, .ref m12, .ref m13])), (m1, .inl (cI, 4, .inl gw)), (m2, .inl (cI, 4, .inl gh)), (m3, .inl (cI, 16384, .inl (lysN wy gd ((gL (flQ (cfM px py pf pn.toNatClampNeg ru sm) sm ik op) (gw k.toNatClampNeg).toNatClampNeg (gh k.toNatClampNeg).toNatClampNeg).foldl (mkF (gw k.toNatClampNeg) (gh k.toNatClampNeg) cl cx0 cx1 cy0 cy1) (zrN gm 4096, ge, gv)).1 ((gL (flQ (cfM px py pf pn.toNatClampNeg ru sm) sm ik op) (gw k.toNatClampNeg).toNatClampNeg (gh k.toNatClampNeg).toNatClampNeg).foldl (mkF (gw k.toNatClampNeg) (gh k.toNatClampNeg) cl cx0 cx1 cy0 cy1) (zrN gm 4096, ge, gv)).2.1 ((gL (flQ (cfM px py pf pn.toNatClampNeg ru sm) sm ik op) (gw k.toNatClampNeg).toNatClampNeg (gh k.toNatClampNeg).toNatClampNeg).foldl (mkF (gw k.toNatClampNeg) (gh k.toNatClampNeg) cl cx0 cx1 cy0 cy1) (zrN gm 4096, ge, gv)).2.2 k.toNatClampNeg 4096))), (m4, .inl (cZ, 4096, .inl (((gL (flQ (cfM px py pf pn.toNatClampNeg ru sm) sm ik op) (gw k.toNatClampNeg).toNatClampNeg (gh k.toNatClampNeg).toNatClampNeg).foldl (mkF (gw k.toNatClampNeg) (gh k.toNatClampNeg) cl cx0 cx1 cy0 cy1) (zrN gm 4096, ge, gv)).1))), (m5, .inl (cI, 4096, .inl (((gL (flQ (cfM px py pf pn.toNatClampNeg ru sm) sm ik op) (gw k.toNatClampNeg).toNatClampNeg (gh k.toNatClampNeg).toNatClampNeg).foldl (mkF (gw k.toNatClampNeg) (gh k.toNatClampNeg) cl cx0 cx1 cy0 cy1) (zrN gm 4096, ge, gv)).2.1))), (m6, .inl (cI, 4096, .inl (((gL (flQ (cfM px py pf pn.toNatClampNeg ru sm) sm ik op) (gw k.toNatClampNeg).toNatClampNeg (gh k.toNatClampNeg).toNatClampNeg).foldl (mkF (gw k.toNatClampNeg) (gh k.toNatClampNeg) cl cx0 cx1 cy0 cy1) (zrN gm 4096, ge, gv)).2.2))), (m7, .inl (cI, 48, .inl px)), (m8, .inl (cI, 48, .inl py)), (m9, .inl (cZ, 48, .inl pf))]) [5, 4, 0, 6, 7, 8, 9, 1, 2, 3] (by decide) rfl
              have hK9 := hK.sub (tys' := [(cI, .int), (cZ, .boolean)]) [0, 1] rfl
              refine hQ _ _ _ _ _ ?_
              exact W.iret (v := r_13) hx hb hr (fun t ht hW => ⟨⟨r_13, (), rfl, (by rw [← hgx]; exact hr_13), ⟨by rw [ht]; exact hP9, va_K.moved hW.alike hK9, hD9⟩⟩, hS.F ht⟩) hS.2.2 dX9_fill_159
            · skip
              have f_12 : ¬ ((gh k.toNatClampNeg).toInt ≤ (j : Int)) := fn_le rfl hx_j c_11
              refine lv_iconst (v := 0) hx hb dX9_fill_37 (by decide) ?_
              refine lv_istore (lv' := [(5, .int 0), (4, .int x4), (0, .ref h0), (1, .int k), (2, .int ru), (3, .int sm)]) hx hb dX9_fill_38 hl (by decide) rfl (fun ls hl => ?_)
              have loop_14 : ∀ (n : Nat) (i : Nat) (x5 : Int32) (gj : Nat → Int32) (gk : Nat → Int32) (gl : Nat → Int32) (H : Heap) (locs : List Loc) (ls : Array Slot), (i ≤ 64) → (64 + 1 ≤ i + n) → (x5 = nI i) → (i ≤ W9) → (((gj, gk, gl) : M3) = (gL (flQ (cfM px py pf pn.toNatClampNeg ru sm) sm ik op) W9 j ++ gR (flQ (cfM px py pf pn.toNatClampNeg ru sm) sm ik op) j i).foldl (mkF (gw k.toNatClampNeg) (gh k.toNatClampNeg) cl cx0 cx1 cy0 cy1) (zrN gm 4096, ge, gv)) → va_P D vwCl [(m2, .inl (cI, 4, .inl gh)), (m3, .inl (cI, 16384, .inl gd)), (m5, .inl (cI, 4096, .inl gk)), (m6, .inl (cI, 4096, .inl gl)), (m7, .inl (cI, 48, .inl px)), (m8, .inl (cI, 48, .inl py)), (m9, .inl (cZ, 48, .inl pf)), (m1, .inl (cI, 4, .inl gw)), (h0, .inr (9, [.ref m1, .ref m2, .ref m3, .int ik, .int wy, .int op, .int cl, .int cx0, .int cx1, .int cy0, .int cy1, .int ds, .ref m4, .ref m5, .ref m6, .ref m7, .ref m8, .ref m9, .int pn, .ref m10, .ref m11, .ref m12, .ref m13])), (m4, .inl (cZ, 4096, .inl gj))] H → va_D A [(m2, .inl (cI, 4, .inl gh)), (m3, .inl (cI, 16384, .inl gd)), (m5, .inl (cI, 4096, .inl gk)), (m6, .inl (cI, 4096, .inl gl)), (m7, .inl (cI, 48, .inl px)), (m8, .inl (cI, 48, .inl py)), (m9, .inl (cZ, 48, .inl pf)), (m1, .inl (cI, 4, .inl gw)), (h0, .inr (9, [.ref m1, .ref m2, .ref m3, .int ik, .int wy, .int op, .int cl, .int cx0, .int cx1, .int cy0, .int cy1, .int ds, .ref m4, .ref m5, .ref m6, .ref m7, .ref m8, .ref m9, .int pn, .ref m10, .ref m11, .ref m12, .ref m13])), (m4, .inl (cZ, 4096, .inl gj))] → va_S A s.heap H locs → lv_has ls 7 [(5, .int x5), (4, .int x4), (0, .ref h0), (1, .int k), (2, .int ru), (3, .int sm)] → W p l e R s m ([.ref h0, .int k, .int ru, .int sm] : List Value).toArray below meth c H locs 0 0 Q (F0 m 40 ls []) := by
                intro n
                induction n with
                | zero =>
                  intro i x5 gj gk gl H locs ls hi_i hm_i ex_i hio hgi hP hD hS hl
                  exact absurd (show False by omega) not_false
                | succ n ih_15 =>
                  intro i x5 gj gk gl H locs ls hi_i hm_i ex_i hio hgi hP hD hS hl
                  have hx_i : x5.toInt = (i : Int) := by rw [ex_i]; exact nI_toInt (by omega)
                  have hc_i : x5.toNatClampNeg = i := by rw [ex_i]; exact nI_clamp (by omega)
                  refine lv_iload hx hb dX9_fill_40 (lv_at hl 0 rfl) ?_
                  refine lv_aload_n hx hb dX9_fill_42 rfl (lv_at hl 2 rfl) ?_
                  refine va_get (D := D) (ci := 9) (v := .ref m1) (C := RX9) (T := TX9) (N := 23) hx hb hts hi_X9 hown hK hP 8 rfl rfl 0 (by decide) (hts _ bw_396) (fun _ h9 => h9) rfl dX9_fill_43 ?_
                  refine lv_iload_n hx hb dX9_fill_46 rfl (lv_at hl 3 rfl) ?_
                  refine va_iald hx hb hK hP 7 0 rfl rfl (vp_in_iff.mpr ⟨by omega, by omega⟩) dX9_fill_47 ?_
                  refine lv_icmp_ge (tgt := 148) hx hb dX9_fill_48 (by decide) (fun c_16 => ?_) (fun c_16 => ?_)
                  · skip
                    have f_17 : (gw k.toNatClampNeg).toInt ≤ (i : Int) := f_le rfl hx_i c_16
                    obtain ⟨y_18, ey_18⟩ : ∃ y : Int32, y = x4 + 1 := ⟨_, rfl⟩
                    refine lv_iinc (v := y_18) (lv' := [(4, .int y_18), (5, .int x5), (0, .ref h0), (1, .int k), (2, .int ru), (3, .int sm)]) hx hb dX9_fill_148 hl (k := 1) rfl (by rw [ey_18]; rfl) (by decide) rfl (fun ls hl => ?_)
                    refine lv_goto (tgt := 26) hx hb dX9_fill_151 (by decide) ?_
                    exact ih_10 (j + 1) y_18 gj gk gl _ _ _ (by omega) (by omega) (by rw [ey_18, ex_j]; exact nI_1 j) (by omega) (gl_nx hgi (by omega)) (hP.sub (ws' := [(m2, .inl (cI, 4, .inl gh)), (m3, .inl (cI, 16384, .inl gd)), (m5, .inl (cI, 4096, .inl gk)), (m6, .inl (cI, 4096, .inl gl)), (m7, .inl (cI, 48, .inl px)), (m8, .inl (cI, 48, .inl py)), (m9, .inl (cZ, 48, .inl pf)), (m1, .inl (cI, 4, .inl gw)), (h0, .inr (9, [.ref m1, .ref m2, .ref m3, .int ik, .int wy, .int op, .int cl, .int cx0, .int cx1, .int cy0, .int cy1, .int ds, .ref m4, .ref m5, .ref m6, .ref m7, .ref m8, .ref m9, .int pn, .ref m10, .ref m11, .ref m12, .ref m13])), (m4, .inl (cZ, 4096, .inl gj))]) [0, 1, 2, 3, 4, 5, 6, 7, 8, 9] rfl) (hD.sub (ws' := [(m2, .inl (cI, 4, .inl gh)), (m3, .inl (cI, 16384, .inl gd)), (m5, .inl (cI, 4096, .inl gk)), (m6, .inl (cI, 4096, .inl gl)), (m7, .inl (cI, 48, .inl px)), (m8, .inl (cI, 48, .inl py)), (m9, .inl (cZ, 48, .inl pf)), (m1, .inl (cI, 4, .inl gw)), (h0, .inr (9, [.ref m1, .ref m2, .ref m3, .int ik, .int wy, .int op, .int cl, .int cx0, .int cx1, .int cy0, .int cy1, .int ds, .ref m4, .ref m5, .ref m6, .ref m7, .ref m8, .ref m9, .int pn, .ref m10, .ref m11, .ref m12, .ref m13])), (m4, .inl (cZ, 4096, .inl gj))]) [0, 1, 2, 3, 4, 5, 6, 7, 8, 9] (by decide) rfl) hS (lv_sub hl [0, 2, 3, 4, 5] rfl)
                  · skip
                    have f_17 : ¬ ((gw k.toNatClampNeg).toInt ≤ (i : Int)) := fn_le rfl hx_i c_16
                    refine lv_iload_n hx hb dX9_fill_51 rfl (lv_at hl 5 rfl) ?_
                    refine lv_if_eq (tgt := 99) hx hb dX9_fill_52 (by decide) (fun c_19 => ?_) (fun c_19 => ?_)
                    · skip
                      have f_20 : sm.toInt = 0 := f_eq rfl (by decide) c_19
                      refine lv_aload_n hx hb dX9_fill_99 rfl (lv_at hl 2 rfl) ?_
                      refine lv_bipush (v := 32) hx hb dX9_fill_100 (by decide) ?_
                      refine lv_iload hx hb dX9_fill_102 (lv_at hl 0 rfl) ?_
                      refine lv_imul hx hb dX9_fill_104 ?_
                      refine lv_topi (fun y_21 ey_21 => ?_)
                      refine lv_bipush (v := 16) hx hb dX9_fill_105 (by decide) ?_
                      refine lv_iadd hx hb dX9_fill_107 ?_
                      refine lv_topi (fun y_22 ey_22 => ?_)
                      obtain ⟨y_23, ey_23⟩ : ∃ y : Int64, y = y_22.toInt64 := ⟨_, rfl⟩
                      refine lv_i2l (v := y_23) hx hb dX9_fill_108 ey_23.symm ?_
                      have hty_23 : y_23.toInt = y_22.toInt := by rw [ey_23]; exact Int32.toInt_toInt64 _
                      refine lv_bipush (v := 32) hx hb dX9_fill_109 (by decide) ?_
                      refine lv_iload hx hb dX9_fill_111 (lv_at hl 1 rfl) ?_
                      refine lv_imul hx hb dX9_fill_113 ?_
                      refine lv_topi (fun y_24 ey_24 => ?_)
                      refine lv_bipush (v := 16) hx hb dX9_fill_114 (by decide) ?_
                      refine lv_iadd hx hb dX9_fill_116 ?_
                      refine lv_topi (fun y_25 ey_25 => ?_)
                      obtain ⟨y_26, ey_26⟩ : ∃ y : Int64, y = y_25.toInt64 := ⟨_, rfl⟩
                      refine lv_i2l (v := y_26) hx hb dX9_fill_117 ey_26.symm ?_
                      have hty_26 : y_26.toInt = y_25.toInt := by rw [ey_26]; exact Int32.toInt_toInt64 _
                      refine lv_iload_n hx hb dX9_fill_118 rfl (lv_at hl 4 rfl) ?_
                      have hPc := hP.sub (ws' := [(h0, .inr (9, [.ref m1, .ref m2, .ref m3, .int ik, .int wy, .int op, .int cl, .int cx0, .int cx1, .int cy0, .int cy1, .int ds, .ref m4, .ref m5, .ref m6, .ref m7, .ref m8, .ref m9, .int pn, .ref m10, .ref m11, .ref m12, .ref m13])), (m7, .inl (cI, 48, .inl px)), (m8, .inl (cI, 48, .inl py)), (m9, .inl (cZ, 48, .inl pf))]) [8, 4, 5, 6] rfl
                      have hDc := hD.sub (ws' := [(h0, .inr (9, [.ref m1, .ref m2, .ref m3, .int ik, .int wy, .int op, .int cl, .int cx0, .int cx1, .int cy0, .int cy1, .int ds, .ref m4, .ref m5, .ref m6, .ref m7, .ref m8, .ref m9, .int pn, .ref m10, .ref m11, .ref m12, .ref m13])), (m7, .inl (cI, 48, .inl px)), (m8, .inl (cI, 48, .inl py)), (m9, .inl (cZ, 48, .inl pf))]) [8, 4, 5, 6] (by decide) rfl
                      have hKc := hK.sub (tys' := [(cI, .int), (cZ, .boolean)]) [0, 1] rfl
                      have hFc := va_free (wc := [(h0, .inr (9, [.ref m1, .ref m2, .ref m3, .int ik, .int wy, .int op, .int cl, .int cx0, .int cx1, .int cy0, .int cy1, .int ds, .ref m4, .ref m5, .ref m6, .ref m7, .ref m8, .ref m9, .int pn, .ref m10, .ref m11, .ref m12, .ref m13])), (m7, .inl (cI, 48, .inl px)), (m8, .inl (cI, 48, .inl py)), (m9, .inl (cZ, 48, .inl pf))]) hD hS hA [8, 4, 5, 6] rfl
                      refine va_calli (va_runV (As := [.long y_23, .long y_26, .int ru]) (rest := []) ⟨hx, hb, hml, hown, hts⟩ (k_X9_isInside l D H.size h0 m1 m2 m3 m4 m5 m6 m7 m8 m9 m10 m11 m12 m13 ik wy op cl cx0 cx1 cy0 cy1 ds pn px py pf y_23 y_26 ru cI cZ (by first | assumption | omega | decide) (by first | assumption | omega | decide) (by rw [hty_23]; exact i32b _) (by rw [hty_26]; exact i32b _)) (cwV 3 hts (gV bw_523 bw_517 bw_518 bw_391 bw_516) rfl rfl rfl (by decide +kernel) ⟨(by rw [hR]; exact Nat.le_of_ble_eq_true rfl), (by rw [hR]; exact Nat.le_of_ble_eq_true rfl)⟩) ⟨cP_blind, va_recv hKc hPc (ci := 9) (q0 := 0) rfl rfl, cP_at hPc hKc hDc hN⟩ rfl rfl hl.1 rfl (lv_room (Nat.le_of_ble_eq_true rfl)) dX9_fill_119 ⟨(by rw [hR]; exact Nat.le_of_ble_eq_true rfl), (by rw [hR]; exact Nat.le_of_ble_eq_true rfl)⟩) hS (fun q _ h => hFc q h) hFc (fun r_27 u9 t9 H1 locs ht hvm hr_27 hB hz1 hk1 hS => ?_)
                      try dsimp only at hr_27
                      obtain ⟨hP1, hK1, hD1⟩ := hB
                      rw [ht] at hP1
                      obtain ⟨hP, hD⟩ := va_join (wr := [(m2, .inl (cI, 4, .inl gh)), (m3, .inl (cI, 16384, .inl gd)), (m5, .inl (cI, 4096, .inl gk)), (m6, .inl (cI, 4096, .inl gl)), (m1, .inl (cI, 4, .inl gw)), (m4, .inl (cZ, 4096, .inl gj))]) (w1 := [(h0, .inr (9, [.ref m1, .ref m2, .ref m3, .int ik, .int wy, .int op, .int cl, .int cx0, .int cx1, .int cy0, .int cy1, .int ds, .ref m4, .ref m5, .ref m6, .ref m7, .ref m8, .ref m9, .int pn, .ref m10, .ref m11, .ref m12, .ref m13])), (m7, .inl (cI, 48, .inl px)), (m8, .inl (cI, 48, .inl py)), (m9, .inl (cZ, 48, .inl pf))]) hP hD [8, 4, 5, 6] [0, 1, 2, 3, 7, 9] rfl rfl (by decide) (by decide) hk1 hFc hP1 hD1
                      clear hz1 hk1 hFc hKc hDc hPc
                      generalize H1 = H at hP hS ⊢
                      have hP : va_P D vwCl [(m2, .inl (cI, 4, .inl gh)), (m3, .inl (cI, 16384, .inl gd)), (m5, .inl (cI, 4096, .inl gk)), (m6, .inl (cI, 4096, .inl gl)), (m1, .inl (cI, 4, .inl gw)), (m4, .inl (cZ, 4096, .inl gj)), (h0, .inr (9, [.ref m1, .ref m2, .ref m3, .int ik, .int wy, .int op, .int cl, .int cx0, .int cx1, .int cy0, .int cy1, .int ds, .ref m4, .ref m5, .ref m6, .ref m7, .ref m8, .ref m9, .int pn, .ref m10, .ref m11, .ref m12, .ref m13])), (m7, .inl (cI, 48, .inl px)), (m8, .inl (cI, 48, .inl py)), (m9, .inl (cZ, 48, .inl pf))] H := hP
                      have hD : va_D A [(m2, .inl (cI, 4, .inl gh)), (m3, .inl (cI, 16384, .inl gd)), (m5, .inl (cI, 4096, .inl gk)), (m6, .inl (cI, 4096, .inl gl)), (m1, .inl (cI, 4, .inl gw)), (m4, .inl (cZ, 4096, .inl gj)), (h0, .inr (9, [.ref m1, .ref m2, .ref m3, .int ik, .int wy, .int op, .int cl, .int cx0, .int cx1, .int cy0, .int cy1, .int ds, .ref m4, .ref m5, .ref m6, .ref m7, .ref m8, .ref m9, .int pn, .ref m10, .ref m11, .ref m12, .ref m13])), (m7, .inl (cI, 48, .inl px)), (m8, .inl (cI, 48, .inl py)), (m9, .inl (cZ, 48, .inl pf))] := hD
                      have hu9 : y_22 = nI (32 * i + 16) := by rw [ey_22, ey_21, ex_i]; exact su_16 i
                      have hv9 : y_25 = nI (32 * j + 16) := by rw [ey_25, ey_24, ex_j]; exact su_16 j
                      rw [hty_23, hty_26, hu9, hv9] at hr_27
                      refine lv_if_eq (tgt := 142) hx hb dX9_fill_122 (by decide) (fun c_28 => ?_) (fun c_28 => ?_)
                      · skip
                        have f_29 := bz0 hr_27 c_28
                        obtain ⟨y_30, ey_30⟩ : ∃ y : Int32, y = x5 + 1 := ⟨_, rfl⟩
                        refine lv_iinc (v := y_30) (lv' := [(5, .int y_30), (4, .int x4), (0, .ref h0), (1, .int k), (2, .int ru), (3, .int sm)]) hx hb dX9_fill_142 hl (k := 0) rfl (by rw [ey_30]; rfl) (by decide) rfl (fun ls hl => ?_)
                        refine lv_goto (tgt := 40) hx hb dX9_fill_145 (by decide) ?_
                        exact ih_15 (i + 1) y_30 gj gk gl _ _ _ (by omega) (by omega) (by rw [ey_30, ex_i]; exact nI_1 i) (by omega) (by rw [show gR (flQ (cfM px py pf pn.toNatClampNeg ru sm) sm ik op) j (i + 1) = gR (flQ (cfM px py pf pn.toNatClampNeg ru sm) sm ik op) j i ++ [] from congrArg (gR (flQ (cfM px py pf pn.toNatClampNeg ru sm) sm ik op) j i ++ ·) (show flQ (cfM px py pf pn.toNatClampNeg ru sm) sm ik op j i = [] from if_pos ((if_pos c_19).trans (if_neg f_29))), List.append_nil]; exact hgi) (hP.sub (ws' := [(m2, .inl (cI, 4, .inl gh)), (m3, .inl (cI, 16384, .inl gd)), (m5, .inl (cI, 4096, .inl gk)), (m6, .inl (cI, 4096, .inl gl)), (m7, .inl (cI, 48, .inl px)), (m8, .inl (cI, 48, .inl py)), (m9, .inl (cZ, 48, .inl pf)), (m1, .inl (cI, 4, .inl gw)), (h0, .inr (9, [.ref m1, .ref m2, .ref m3, .int ik, .int wy, .int op, .int cl, .int cx0, .int cx1, .int cy0, .int cy1, .int ds, .ref m4, .ref m5, .ref m6, .ref m7, .ref m8, .ref m9, .int pn, .ref m10, .ref m11, .ref m12, .ref m13])), (m4, .inl (cZ, 4096, .inl gj))]) [0, 1, 2, 3, 7, 8, 9, 4, 6, 5] rfl) (hD.sub (ws' := [(m2, .inl (cI, 4, .inl gh)), (m3, .inl (cI, 16384, .inl gd)), (m5, .inl (cI, 4096, .inl gk)), (m6, .inl (cI, 4096, .inl gl)), (m7, .inl (cI, 48, .inl px)), (m8, .inl (cI, 48, .inl py)), (m9, .inl (cZ, 48, .inl pf)), (m1, .inl (cI, 4, .inl gw)), (h0, .inr (9, [.ref m1, .ref m2, .ref m3, .int ik, .int wy, .int op, .int cl, .int cx0, .int cx1, .int cy0, .int cy1, .int ds, .ref m4, .ref m5, .ref m6, .ref m7, .ref m8, .ref m9, .int pn, .ref m10, .ref m11, .ref m12, .ref m13])), (m4, .inl (cZ, 4096, .inl gj))]) [0, 1, 2, 3, 7, 8, 9, 4, 6, 5] (by decide) rfl) hS (lv_sub hl [0, 1, 2, 3, 4, 5] rfl)
                      · skip
                        have f_29 := bz1 hr_27 c_28
                        refine lv_aload_n hx hb dX9_fill_125 rfl (lv_at hl 2 rfl) ?_
                        refine lv_iload_n hx hb dX9_fill_126 rfl (lv_at hl 3 rfl) ?_
                        refine lv_iload hx hb dX9_fill_127 (lv_at hl 0 rfl) ?_
                        refine lv_iload hx hb dX9_fill_129 (lv_at hl 1 rfl) ?_
                        refine lv_aload_n hx hb dX9_fill_131 rfl (lv_at hl 2 rfl) ?_
                        refine va_get (D := D) (ci := 9) (v := .int ik) (C := RX9) (T := TX9) (N := 23) hx hb hts hi_X9 hown hK hP 6 rfl rfl 3 (by decide) (hts _ bw_399) (fun _ h9 => h9) rfl dX9_fill_132 ?_
                        refine lv_aload_n hx hb dX9_fill_135 rfl (lv_at hl 2 rfl) ?_
                        refine va_get (D := D) (ci := 9) (v := .int op) (C := RX9) (T := TX9) (N := 23) hx hb hts hi_X9 hown hK hP 6 rfl rfl 5 (by decide) (hts _ bw_401) (fun _ h9 => h9) rfl dX9_fill_136 ?_
                        have hPc := hP.sub (ws' := [(h0, .inr (9, [.ref m1, .ref m2, .ref m3, .int ik, .int wy, .int op, .int cl, .int cx0, .int cx1, .int cy0, .int cy1, .int ds, .ref m4, .ref m5, .ref m6, .ref m7, .ref m8, .ref m9, .int pn, .ref m10, .ref m11, .ref m12, .ref m13])), (m1, .inl (cI, 4, .inl gw)), (m2, .inl (cI, 4, .inl gh)), (m4, .inl (cZ, 4096, .inl gj)), (m5, .inl (cI, 4096, .inl gk)), (m6, .inl (cI, 4096, .inl gl))]) [6, 4, 0, 5, 2, 3] rfl
                        have hDc := hD.sub (ws' := [(h0, .inr (9, [.ref m1, .ref m2, .ref m3, .int ik, .int wy, .int op, .int cl, .int cx0, .int cx1, .int cy0, .int cy1, .int ds, .ref m4, .ref m5, .ref m6, .ref m7, .ref m8, .ref m9, .int pn, .ref m10, .ref m11, .ref m12, .ref m13])), (m1, .inl (cI, 4, .inl gw)), (m2, .inl (cI, 4, .inl gh)), (m4, .inl (cZ, 4096, .inl gj)), (m5, .inl (cI, 4096, .inl gk)), (m6, .inl (cI, 4096, .inl gl))]) [6, 4, 0, 5, 2, 3] (by decide) rfl
                        have hKc := hK.sub (tys' := [(cI, .int), (cZ, .boolean)]) [0, 1] rfl
                        have hFc := va_free (wc := [(h0, .inr (9, [.ref m1, .ref m2, .ref m3, .int ik, .int wy, .int op, .int cl, .int cx0, .int cx1, .int cy0, .int cy1, .int ds, .ref m4, .ref m5, .ref m6, .ref m7, .ref m8, .ref m9, .int pn, .ref m10, .ref m11, .ref m12, .ref m13])), (m1, .inl (cI, 4, .inl gw)), (m2, .inl (cI, 4, .inl gh)), (m4, .inl (cZ, 4096, .inl gj)), (m5, .inl (cI, 4096, .inl gk)), (m6, .inl (cI, 4096, .inl gl))]) hD hS hA [6, 4, 0, 5, 2, 3] rfl
                        refine va_callv (va_runV (As := [.int k, .int x5, .int x4, .int ik, .int op]) (rest := []) ⟨hx, hb, hml, hown, hts⟩ (k_X9_marks l D H.size h0 m1 m2 m3 m4 m5 m6 m7 m8 m9 m10 m11 m12 m13 ik wy op cl cx0 cx1 cy0 cy1 ds pn gw gh gj gk gl k x5 x4 ik op cI cZ (by omega) (by omega) (by omega)) (cwV 5 hts (gV bw_495 bw_458 bw_459 bw_391 bw_457) rfl rfl rfl (by decide +kernel) ⟨(by rw [hR]; exact Nat.le_of_ble_eq_true rfl), (by rw [hR]; exact Nat.le_of_ble_eq_true rfl)⟩) ⟨cP_blind, va_recv hKc hPc (ci := 9) (q0 := 0) rfl rfl, cP_at hPc hKc hDc hN⟩ rfl rfl hl.1 rfl (lv_room (Nat.le_of_ble_eq_true rfl)) dX9_fill_139 ⟨(by rw [hR]; exact Nat.le_of_ble_eq_true rfl), (by rw [hR]; exact Nat.le_of_ble_eq_true rfl)⟩) hS (fun q _ h => hFc q h) hFc (fun u9 t9 H1 locs ht hvm hr_31 hB hz1 hk1 hS => ?_)
                        try dsimp only at hr_31
                        obtain ⟨hP1, hK1, hD1⟩ := hB
                        rw [ht] at hP1
                        obtain ⟨hP, hD⟩ := va_join (wr := [(m3, .inl (cI, 16384, .inl gd)), (m7, .inl (cI, 48, .inl px)), (m8, .inl (cI, 48, .inl py)), (m9, .inl (cZ, 48, .inl pf))]) (w1 := [(h0, .inr (9, [.ref m1, .ref m2, .ref m3, .int ik, .int wy, .int op, .int cl, .int cx0, .int cx1, .int cy0, .int cy1, .int ds, .ref m4, .ref m5, .ref m6, .ref m7, .ref m8, .ref m9, .int pn, .ref m10, .ref m11, .ref m12, .ref m13])), (m1, .inl (cI, 4, .inl gw)), (m2, .inl (cI, 4, .inl gh)), (m4, .inl (cZ, 4096, .inl (if (0 ≤ x5.toInt ∧ x5.toInt < (gw k.toNatClampNeg).toInt ∧ 0 ≤ x4.toInt ∧ x4.toInt < (gh k.toNatClampNeg).toInt) ∧ (cl.toInt = 0 ∨ (cx0.toInt ≤ x5.toInt ∧ x5.toInt ≤ cx1.toInt ∧ cy0.toInt ≤ x4.toInt ∧ x4.toInt ≤ cy1.toInt)) then upd gj (ixP x5 x4) 1 else gj))), (m5, .inl (cI, 4096, .inl (if (0 ≤ x5.toInt ∧ x5.toInt < (gw k.toNatClampNeg).toInt ∧ 0 ≤ x4.toInt ∧ x4.toInt < (gh k.toNatClampNeg).toInt) ∧ (cl.toInt = 0 ∨ (cx0.toInt ≤ x5.toInt ∧ x5.toInt ≤ cx1.toInt ∧ cy0.toInt ≤ x4.toInt ∧ x4.toInt ≤ cy1.toInt)) then upd gk (ixP x5 x4) op else gk))), (m6, .inl (cI, 4096, .inl (if (0 ≤ x5.toInt ∧ x5.toInt < (gw k.toNatClampNeg).toInt ∧ 0 ≤ x4.toInt ∧ x4.toInt < (gh k.toNatClampNeg).toInt) ∧ (cl.toInt = 0 ∨ (cx0.toInt ≤ x5.toInt ∧ x5.toInt ≤ cx1.toInt ∧ cy0.toInt ≤ x4.toInt ∧ x4.toInt ≤ cy1.toInt)) then upd gl (ixP x5 x4) ik else gl)))]) hP hD [6, 4, 0, 5, 2, 3] [1, 7, 8, 9] rfl rfl (by decide) (by decide) hk1 hFc hP1 hD1
                        clear hz1 hk1 hFc hKc hDc hPc
                        generalize H1 = H at hP hS ⊢
                        have hP : va_P D vwCl [(m3, .inl (cI, 16384, .inl gd)), (m7, .inl (cI, 48, .inl px)), (m8, .inl (cI, 48, .inl py)), (m9, .inl (cZ, 48, .inl pf)), (h0, .inr (9, [.ref m1, .ref m2, .ref m3, .int ik, .int wy, .int op, .int cl, .int cx0, .int cx1, .int cy0, .int cy1, .int ds, .ref m4, .ref m5, .ref m6, .ref m7, .ref m8, .ref m9, .int pn, .ref m10, .ref m11, .ref m12, .ref m13])), (m1, .inl (cI, 4, .inl gw)), (m2, .inl (cI, 4, .inl gh)), (m4, .inl (cZ, 4096, .inl (if (0 ≤ x5.toInt ∧ x5.toInt < (gw k.toNatClampNeg).toInt ∧ 0 ≤ x4.toInt ∧ x4.toInt < (gh k.toNatClampNeg).toInt) ∧ (cl.toInt = 0 ∨ (cx0.toInt ≤ x5.toInt ∧ x5.toInt ≤ cx1.toInt ∧ cy0.toInt ≤ x4.toInt ∧ x4.toInt ≤ cy1.toInt)) then upd gj (ixP x5 x4) 1 else gj))), (m5, .inl (cI, 4096, .inl (if (0 ≤ x5.toInt ∧ x5.toInt < (gw k.toNatClampNeg).toInt ∧ 0 ≤ x4.toInt ∧ x4.toInt < (gh k.toNatClampNeg).toInt) ∧ (cl.toInt = 0 ∨ (cx0.toInt ≤ x5.toInt ∧ x5.toInt ≤ cx1.toInt ∧ cy0.toInt ≤ x4.toInt ∧ x4.toInt ≤ cy1.toInt)) then upd gk (ixP x5 x4) op else gk))), (m6, .inl (cI, 4096, .inl (if (0 ≤ x5.toInt ∧ x5.toInt < (gw k.toNatClampNeg).toInt ∧ 0 ≤ x4.toInt ∧ x4.toInt < (gh k.toNatClampNeg).toInt) ∧ (cl.toInt = 0 ∨ (cx0.toInt ≤ x5.toInt ∧ x5.toInt ≤ cx1.toInt ∧ cy0.toInt ≤ x4.toInt ∧ x4.toInt ≤ cy1.toInt)) then upd gl (ixP x5 x4) ik else gl)))] H := hP
                        have hD : va_D A [(m3, .inl (cI, 16384, .inl gd)), (m7, .inl (cI, 48, .inl px)), (m8, .inl (cI, 48, .inl py)), (m9, .inl (cZ, 48, .inl pf)), (h0, .inr (9, [.ref m1, .ref m2, .ref m3, .int ik, .int wy, .int op, .int cl, .int cx0, .int cx1, .int cy0, .int cy1, .int ds, .ref m4, .ref m5, .ref m6, .ref m7, .ref m8, .ref m9, .int pn, .ref m10, .ref m11, .ref m12, .ref m13])), (m1, .inl (cI, 4, .inl gw)), (m2, .inl (cI, 4, .inl gh)), (m4, .inl (cZ, 4096, .inl (if (0 ≤ x5.toInt ∧ x5.toInt < (gw k.toNatClampNeg).toInt ∧ 0 ≤ x4.toInt ∧ x4.toInt < (gh k.toNatClampNeg).toInt) ∧ (cl.toInt = 0 ∨ (cx0.toInt ≤ x5.toInt ∧ x5.toInt ≤ cx1.toInt ∧ cy0.toInt ≤ x4.toInt ∧ x4.toInt ≤ cy1.toInt)) then upd gj (ixP x5 x4) 1 else gj))), (m5, .inl (cI, 4096, .inl (if (0 ≤ x5.toInt ∧ x5.toInt < (gw k.toNatClampNeg).toInt ∧ 0 ≤ x4.toInt ∧ x4.toInt < (gh k.toNatClampNeg).toInt) ∧ (cl.toInt = 0 ∨ (cx0.toInt ≤ x5.toInt ∧ x5.toInt ≤ cx1.toInt ∧ cy0.toInt ≤ x4.toInt ∧ x4.toInt ≤ cy1.toInt)) then upd gk (ixP x5 x4) op else gk))), (m6, .inl (cI, 4096, .inl (if (0 ≤ x5.toInt ∧ x5.toInt < (gw k.toNatClampNeg).toInt ∧ 0 ≤ x4.toInt ∧ x4.toInt < (gh k.toNatClampNeg).toInt) ∧ (cl.toInt = 0 ∨ (cx0.toInt ≤ x5.toInt ∧ x5.toInt ≤ cx1.toInt ∧ cy0.toInt ≤ x4.toInt ∧ x4.toInt ≤ cy1.toInt)) then upd gl (ixP x5 x4) ik else gl)))] := hD
                        generalize eg_32 : (if (0 ≤ x5.toInt ∧ x5.toInt < (gw k.toNatClampNeg).toInt ∧ 0 ≤ x4.toInt ∧ x4.toInt < (gh k.toNatClampNeg).toInt) ∧ (cl.toInt = 0 ∨ (cx0.toInt ≤ x5.toInt ∧ x5.toInt ≤ cx1.toInt ∧ cy0.toInt ≤ x4.toInt ∧ x4.toInt ≤ cy1.toInt)) then upd gj (ixP x5 x4) 1 else gj) = g_32 at hP hD
                        generalize eg_33 : (if (0 ≤ x5.toInt ∧ x5.toInt < (gw k.toNatClampNeg).toInt ∧ 0 ≤ x4.toInt ∧ x4.toInt < (gh k.toNatClampNeg).toInt) ∧ (cl.toInt = 0 ∨ (cx0.toInt ≤ x5.toInt ∧ x5.toInt ≤ cx1.toInt ∧ cy0.toInt ≤ x4.toInt ∧ x4.toInt ≤ cy1.toInt)) then upd gk (ixP x5 x4) op else gk) = g_33 at hP hD
                        generalize eg_34 : (if (0 ≤ x5.toInt ∧ x5.toInt < (gw k.toNatClampNeg).toInt ∧ 0 ≤ x4.toInt ∧ x4.toInt < (gh k.toNatClampNeg).toInt) ∧ (cl.toInt = 0 ∨ (cx0.toInt ≤ x5.toInt ∧ x5.toInt ≤ cx1.toInt ∧ cy0.toInt ≤ x4.toInt ∧ x4.toInt ≤ cy1.toInt)) then upd gl (ixP x5 x4) ik else gl) = g_34 at hP hD
                        have hP : va_P D vwCl [(m3, .inl (cI, 16384, .inl gd)), (m7, .inl (cI, 48, .inl px)), (m8, .inl (cI, 48, .inl py)), (m9, .inl (cZ, 48, .inl pf)), (h0, .inr (9, [.ref m1, .ref m2, .ref m3, .int ik, .int wy, .int op, .int cl, .int cx0, .int cx1, .int cy0, .int cy1, .int ds, .ref m4, .ref m5, .ref m6, .ref m7, .ref m8, .ref m9, .int pn, .ref m10, .ref m11, .ref m12, .ref m13])), (m1, .inl (cI, 4, .inl gw)), (m2, .inl (cI, 4, .inl gh)), (m4, .inl (cZ, 4096, .inl g_32)), (m5, .inl (cI, 4096, .inl g_33)), (m6, .inl (cI, 4096, .inl g_34))] H := hP
                        have hD : va_D A [(m3, .inl (cI, 16384, .inl gd)), (m7, .inl (cI, 48, .inl px)), (m8, .inl (cI, 48, .inl py)), (m9, .inl (cZ, 48, .inl pf)), (h0, .inr (9, [.ref m1, .ref m2, .ref m3, .int ik, .int wy, .int op, .int cl, .int cx0, .int cx1, .int cy0, .int cy1, .int ds, .ref m4, .ref m5, .ref m6, .ref m7, .ref m8, .ref m9, .int pn, .ref m10, .ref m11, .ref m12, .ref m13])), (m1, .inl (cI, 4, .inl gw)), (m2, .inl (cI, 4, .inl gh)), (m4, .inl (cZ, 4096, .inl g_32)), (m5, .inl (cI, 4096, .inl g_33)), (m6, .inl (cI, 4096, .inl g_34))] := hD
                        have hM : ((g_32, g_33, g_34) : M3) = (mkF (gw k.toNatClampNeg) (gh k.toNatClampNeg) cl cx0 cx1 cy0 cy1) (gj, gk, gl) (x5, x4, ik, op) := by rw [← eg_32, ← eg_33, ← eg_34]; rfl
                        obtain ⟨y_35, ey_35⟩ : ∃ y : Int32, y = x5 + 1 := ⟨_, rfl⟩
                        refine lv_iinc (v := y_35) (lv' := [(5, .int y_35), (4, .int x4), (0, .ref h0), (1, .int k), (2, .int ru), (3, .int sm)]) hx hb dX9_fill_142 hl (k := 0) rfl (by rw [ey_35]; rfl) (by decide) rfl (fun ls hl => ?_)
                        refine lv_goto (tgt := 40) hx hb dX9_fill_145 (by decide) ?_
                        exact ih_15 (i + 1) y_35 g_32 g_33 g_34 _ _ _ (by omega) (by omega) (by rw [ey_35, ex_i]; exact nI_1 i) (by omega) (by rw [show gR (flQ (cfM px py pf pn.toNatClampNeg ru sm) sm ik op) j (i + 1) = gR (flQ (cfM px py pf pn.toNatClampNeg ru sm) sm ik op) j i ++ [(x5, x4, ik, op)] from congrArg (gR (flQ (cfM px py pf pn.toNatClampNeg ru sm) sm ik op) j i ++ ·) (show flQ (cfM px py pf pn.toNatClampNeg ru sm) sm ik op j i = [(x5, x4, ik, op)] by unfold flQ; rw [show cfM px py pf pn.toNatClampNeg ru sm j i = 1 from (if_pos c_19).trans (if_pos f_29), if_neg (by decide), if_pos c_19, ← ex_i, ← ex_j]), ← List.append_assoc, List.foldl_append, ← hgi]; exact hM) (hP.sub (ws' := [(m2, .inl (cI, 4, .inl gh)), (m3, .inl (cI, 16384, .inl gd)), (m5, .inl (cI, 4096, .inl g_33)), (m6, .inl (cI, 4096, .inl g_34)), (m7, .inl (cI, 48, .inl px)), (m8, .inl (cI, 48, .inl py)), (m9, .inl (cZ, 48, .inl pf)), (m1, .inl (cI, 4, .inl gw)), (h0, .inr (9, [.ref m1, .ref m2, .ref m3, .int ik, .int wy, .int op, .int cl, .int cx0, .int cx1, .int cy0, .int cy1, .int ds, .ref m4, .ref m5, .ref m6, .ref m7, .ref m8, .ref m9, .int pn, .ref m10, .ref m11, .ref m12, .ref m13])), (m4, .inl (cZ, 4096, .inl g_32))]) [6, 0, 8, 9, 1, 2, 3, 5, 4, 7] rfl) (hD.sub (ws' := [(m2, .inl (cI, 4, .inl gh)), (m3, .inl (cI, 16384, .inl gd)), (m5, .inl (cI, 4096, .inl g_33)), (m6, .inl (cI, 4096, .inl g_34)), (m7, .inl (cI, 48, .inl px)), (m8, .inl (cI, 48, .inl py)), (m9, .inl (cZ, 48, .inl pf)), (m1, .inl (cI, 4, .inl gw)), (h0, .inr (9, [.ref m1, .ref m2, .ref m3, .int ik, .int wy, .int op, .int cl, .int cx0, .int cx1, .int cy0, .int cy1, .int ds, .ref m4, .ref m5, .ref m6, .ref m7, .ref m8, .ref m9, .int pn, .ref m10, .ref m11, .ref m12, .ref m13])), (m4, .inl (cZ, 4096, .inl g_32))]) [6, 0, 8, 9, 1, 2, 3, 5, 4, 7] (by decide) rfl) hS (lv_sub hl [0, 1, 2, 3, 4, 5] rfl)
                    · skip
                      have f_20 : ¬ (sm.toInt = 0) := fn_eq rfl (by decide) c_19
                      refine lv_aload_n hx hb dX9_fill_55 rfl (lv_at hl 2 rfl) ?_
                      refine lv_iload hx hb dX9_fill_56 (lv_at hl 0 rfl) ?_
                      refine lv_iload hx hb dX9_fill_58 (lv_at hl 1 rfl) ?_
                      refine lv_iload_n hx hb dX9_fill_60 rfl (lv_at hl 4 rfl) ?_
                      have hPc := hP.sub (ws' := [(h0, .inr (9, [.ref m1, .ref m2, .ref m3, .int ik, .int wy, .int op, .int cl, .int cx0, .int cx1, .int cy0, .int cy1, .int ds, .ref m4, .ref m5, .ref m6, .ref m7, .ref m8, .ref m9, .int pn, .ref m10, .ref m11, .ref m12, .ref m13])), (m7, .inl (cI, 48, .inl px)), (m8, .inl (cI, 48, .inl py)), (m9, .inl (cZ, 48, .inl pf))]) [8, 4, 5, 6] rfl
                      have hDc := hD.sub (ws' := [(h0, .inr (9, [.ref m1, .ref m2, .ref m3, .int ik, .int wy, .int op, .int cl, .int cx0, .int cx1, .int cy0, .int cy1, .int ds, .ref m4, .ref m5, .ref m6, .ref m7, .ref m8, .ref m9, .int pn, .ref m10, .ref m11, .ref m12, .ref m13])), (m7, .inl (cI, 48, .inl px)), (m8, .inl (cI, 48, .inl py)), (m9, .inl (cZ, 48, .inl pf))]) [8, 4, 5, 6] (by decide) rfl
                      have hKc := hK.sub (tys' := [(cI, .int), (cZ, .boolean)]) [0, 1] rfl
                      have hFc := va_free (wc := [(h0, .inr (9, [.ref m1, .ref m2, .ref m3, .int ik, .int wy, .int op, .int cl, .int cx0, .int cx1, .int cy0, .int cy1, .int ds, .ref m4, .ref m5, .ref m6, .ref m7, .ref m8, .ref m9, .int pn, .ref m10, .ref m11, .ref m12, .ref m13])), (m7, .inl (cI, 48, .inl px)), (m8, .inl (cI, 48, .inl py)), (m9, .inl (cZ, 48, .inl pf))]) hD hS hA [8, 4, 5, 6] rfl
                      refine va_calli (va_runV (As := [.int x5, .int x4, .int ru]) (rest := []) ⟨hx, hb, hml, hown, hts⟩ (k_X9_samples_e l D H.size h0 m1 m2 m3 m4 m5 m6 m7 m8 m9 m10 m11 m12 m13 ik wy op cl cx0 cx1 cy0 cy1 ds pn px py pf x5 x4 ru i j cI cZ (by first | assumption | omega | decide) (by first | assumption | omega | decide) ex_i ex_j) (cwV 3 hts (gV bw_530 bw_525 bw_526 bw_391 bw_524) rfl rfl rfl (by decide +kernel) ⟨(by rw [hR]; exact Nat.le_of_ble_eq_true rfl), (by rw [hR]; exact Nat.le_of_ble_eq_true rfl)⟩) ⟨cP_blind, va_recv hKc hPc (ci := 9) (q0 := 0) rfl rfl, cP_at hPc hKc hDc hN⟩ rfl rfl hl.1 rfl (lv_room (Nat.le_of_ble_eq_true rfl)) dX9_fill_61 ⟨(by rw [hR]; exact Nat.le_of_ble_eq_true rfl), (by rw [hR]; exact Nat.le_of_ble_eq_true rfl)⟩) hS (fun q _ h => hFc q h) hFc (fun r_36 u9 t9 H1 locs ht hvm hr_36 hB hz1 hk1 hS => ?_)
                      try dsimp only at hr_36
                      obtain ⟨hP1, hK1, hD1⟩ := hB
                      rw [ht] at hP1
                      obtain ⟨hP, hD⟩ := va_join (wr := [(m2, .inl (cI, 4, .inl gh)), (m3, .inl (cI, 16384, .inl gd)), (m5, .inl (cI, 4096, .inl gk)), (m6, .inl (cI, 4096, .inl gl)), (m1, .inl (cI, 4, .inl gw)), (m4, .inl (cZ, 4096, .inl gj))]) (w1 := [(h0, .inr (9, [.ref m1, .ref m2, .ref m3, .int ik, .int wy, .int op, .int cl, .int cx0, .int cx1, .int cy0, .int cy1, .int ds, .ref m4, .ref m5, .ref m6, .ref m7, .ref m8, .ref m9, .int pn, .ref m10, .ref m11, .ref m12, .ref m13])), (m7, .inl (cI, 48, .inl px)), (m8, .inl (cI, 48, .inl py)), (m9, .inl (cZ, 48, .inl pf))]) hP hD [8, 4, 5, 6] [0, 1, 2, 3, 7, 9] rfl rfl (by decide) (by decide) hk1 hFc hP1 hD1
                      clear hz1 hk1 hFc hKc hDc hPc
                      generalize H1 = H at hP hS ⊢
                      have hP : va_P D vwCl [(m2, .inl (cI, 4, .inl gh)), (m3, .inl (cI, 16384, .inl gd)), (m5, .inl (cI, 4096, .inl gk)), (m6, .inl (cI, 4096, .inl gl)), (m1, .inl (cI, 4, .inl gw)), (m4, .inl (cZ, 4096, .inl gj)), (h0, .inr (9, [.ref m1, .ref m2, .ref m3, .int ik, .int wy, .int op, .int cl, .int cx0, .int cx1, .int cy0, .int cy1, .int ds, .ref m4, .ref m5, .ref m6, .ref m7, .ref m8, .ref m9, .int pn, .ref m10, .ref m11, .ref m12, .ref m13])), (m7, .inl (cI, 48, .inl px)), (m8, .inl (cI, 48, .inl py)), (m9, .inl (cZ, 48, .inl pf))] H := hP
                      have hD : va_D A [(m2, .inl (cI, 4, .inl gh)), (m3, .inl (cI, 16384, .inl gd)), (m5, .inl (cI, 4096, .inl gk)), (m6, .inl (cI, 4096, .inl gl)), (m1, .inl (cI, 4, .inl gw)), (m4, .inl (cZ, 4096, .inl gj)), (h0, .inr (9, [.ref m1, .ref m2, .ref m3, .int ik, .int wy, .int op, .int cl, .int cx0, .int cx1, .int cy0, .int cy1, .int ds, .ref m4, .ref m5, .ref m6, .ref m7, .ref m8, .ref m9, .int pn, .ref m10, .ref m11, .ref m12, .ref m13])), (m7, .inl (cI, 48, .inl px)), (m8, .inl (cI, 48, .inl py)), (m9, .inl (cZ, 48, .inl pf))] := hD
                      have hcvr_36 : r_36 = cfM px py pf pn.toNatClampNeg ru sm j i := hr_36.trans (if_neg c_19).symm
                      refine lv_istore (lv' := [(6, .int r_36), (5, .int x5), (4, .int x4), (0, .ref h0), (1, .int k), (2, .int ru), (3, .int sm)]) hx hb dX9_fill_64 hl (by decide) rfl (fun ls hl => ?_)
                      refine lv_iload hx hb dX9_fill_66 (lv_at hl 0 rfl) ?_
                      refine lv_if_le (tgt := 96) hx hb dX9_fill_68 (by decide) (fun c_37 => ?_) (fun c_37 => ?_)
                      · skip
                        have f_38 : r_36.toInt ≤ 0 := f_le rfl (by decide) c_37
                        refine lv_goto (tgt := 142) hx hb dX9_fill_96 (by decide) ?_
                        obtain ⟨y_39, ey_39⟩ : ∃ y : Int32, y = x5 + 1 := ⟨_, rfl⟩
                        refine lv_iinc (v := y_39) (lv' := [(5, .int y_39), (6, .int r_36), (4, .int x4), (0, .ref h0), (1, .int k), (2, .int ru), (3, .int sm)]) hx hb dX9_fill_142 hl (k := 1) rfl (by rw [ey_39]; rfl) (by decide) rfl (fun ls hl => ?_)
                        refine lv_goto (tgt := 40) hx hb dX9_fill_145 (by decide) ?_
                        exact ih_15 (i + 1) y_39 gj gk gl _ _ _ (by omega) (by omega) (by rw [ey_39, ex_i]; exact nI_1 i) (by omega) (by rw [show gR (flQ (cfM px py pf pn.toNatClampNeg ru sm) sm ik op) j (i + 1) = gR (flQ (cfM px py pf pn.toNatClampNeg ru sm) sm ik op) j i ++ [] from congrArg (gR (flQ (cfM px py pf pn.toNatClampNeg ru sm) sm ik op) j i ++ ·) (show flQ (cfM px py pf pn.toNatClampNeg ru sm) sm ik op j i = [] from if_pos (hcvr_36.symm.trans (sn_0 hr_36 (by omega)))), List.append_nil]; exact hgi) (hP.sub (ws' := [(m2, .inl (cI, 4, .inl gh)), (m3, .inl (cI, 16384, .inl gd)), (m5, .inl (cI, 4096, .inl gk)), (m6, .inl (cI, 4096, .inl gl)), (m7, .inl (cI, 48, .inl px)), (m8, .inl (cI, 48, .inl py)), (m9, .inl (cZ, 48, .inl pf)), (m1, .inl (cI, 4, .inl gw)), (h0, .inr (9, [.ref m1, .ref m2, .ref m3, .int ik, .int wy, .int op, .int cl, .int cx0, .int cx1, .int cy0, .int cy1, .int ds, .ref m4, .ref m5, .ref m6, .ref m7, .ref m8, .ref m9, .int pn, .ref m10, .ref m11, .ref m12, .ref m13])), (m4, .inl (cZ, 4096, .inl gj))]) [0, 1, 2, 3, 7, 8, 9, 4, 6, 5] rfl) (hD.sub (ws' := [(m2, .inl (cI, 4, .inl gh)), (m3, .inl (cI, 16384, .inl gd)), (m5, .inl (cI, 4096, .inl gk)), (m6, .inl (cI, 4096, .inl gl)), (m7, .inl (cI, 48, .inl px)), (m8, .inl (cI, 48, .inl py)), (m9, .inl (cZ, 48, .inl pf)), (m1, .inl (cI, 4, .inl gw)), (h0, .inr (9, [.ref m1, .ref m2, .ref m3, .int ik, .int wy, .int op, .int cl, .int cx0, .int cx1, .int cy0, .int cy1, .int ds, .ref m4, .ref m5, .ref m6, .ref m7, .ref m8, .ref m9, .int pn, .ref m10, .ref m11, .ref m12, .ref m13])), (m4, .inl (cZ, 4096, .inl gj))]) [0, 1, 2, 3, 7, 8, 9, 4, 6, 5] (by decide) rfl) hS (lv_sub hl [0, 2, 3, 4, 5, 6] rfl)
                      · skip
                        have f_38 : ¬ (r_36.toInt ≤ 0) := fn_le rfl (by decide) c_37
                        refine lv_aload_n hx hb dX9_fill_71 rfl (lv_at hl 3 rfl) ?_
                        refine lv_iload_n hx hb dX9_fill_72 rfl (lv_at hl 4 rfl) ?_
                        refine lv_iload hx hb dX9_fill_73 (lv_at hl 1 rfl) ?_
                        refine lv_iload hx hb dX9_fill_75 (lv_at hl 2 rfl) ?_
                        refine lv_aload_n hx hb dX9_fill_77 rfl (lv_at hl 3 rfl) ?_
                        refine va_get (D := D) (ci := 9) (v := .int ik) (C := RX9) (T := TX9) (N := 23) hx hb hts hi_X9 hown hK hP 6 rfl rfl 3 (by decide) (hts _ bw_399) (fun _ h9 => h9) rfl dX9_fill_78 ?_
                        refine lv_aload_n hx hb dX9_fill_81 rfl (lv_at hl 3 rfl) ?_
                        refine va_get (D := D) (ci := 9) (v := .int op) (C := RX9) (T := TX9) (N := 23) hx hb hts hi_X9 hown hK hP 6 rfl rfl 5 (by decide) (hts _ bw_401) (fun _ h9 => h9) rfl dX9_fill_82 ?_
                        refine lv_iload hx hb dX9_fill_85 (lv_at hl 0 rfl) ?_
                        refine lv_imul hx hb dX9_fill_87 ?_
                        refine lv_topi (fun y_40 ey_40 => ?_)
                        refine lv_bipush (v := 16) hx hb dX9_fill_88 (by decide) ?_
                        have hPc := hP.sub (ws' := []) [] rfl
                        have hDc := hD.sub (ws' := []) [] (by decide) rfl
                        have hKc := hK.sub (tys' := []) [] rfl
                        have hFc := va_free (wc := []) hD hS hA [] rfl
                        refine va_calli (va_runS (As := [.int y_40, .int 16]) (rest := [.int ik, .int x4, .int x5, .int k, .ref h0]) ⟨hx, hb, hml, hown, hts⟩ (k_X9_nearest_16 l D H.size y_40) (va_cwS 2 hts (gS bw_442 bw_436 bw_391 bw_435) rfl rfl rfl (by decide +kernel) ⟨(by rw [hR]; exact Nat.le_of_ble_eq_true rfl), (by rw [hR]; exact Nat.le_of_ble_eq_true rfl)⟩) ⟨cP_blind, cP_at hPc hKc hDc hN⟩ rfl rfl hl.1 rfl (lv_room (Nat.le_of_ble_eq_true rfl)) dX9_fill_90 ⟨(by rw [hR]; exact Nat.le_of_ble_eq_true rfl), (by rw [hR]; exact Nat.le_of_ble_eq_true rfl)⟩) hS (fun q _ h => hFc q h) hFc (fun r_41 u9 t9 H1 locs ht hvm hr_41 hB hz1 hk1 hS => ?_)
                        try dsimp only at hr_41
                        have hP1 : va_P D vwCl [] H1 := vP_nil
                        have hD1 : va_D (va_A [] H.size) [] := vD_nil
                        obtain ⟨hP, hD⟩ := va_join (wr := [(m2, .inl (cI, 4, .inl gh)), (m3, .inl (cI, 16384, .inl gd)), (m5, .inl (cI, 4096, .inl gk)), (m6, .inl (cI, 4096, .inl gl)), (m1, .inl (cI, 4, .inl gw)), (m4, .inl (cZ, 4096, .inl gj)), (h0, .inr (9, [.ref m1, .ref m2, .ref m3, .int ik, .int wy, .int op, .int cl, .int cx0, .int cx1, .int cy0, .int cy1, .int ds, .ref m4, .ref m5, .ref m6, .ref m7, .ref m8, .ref m9, .int pn, .ref m10, .ref m11, .ref m12, .ref m13])), (m7, .inl (cI, 48, .inl px)), (m8, .inl (cI, 48, .inl py)), (m9, .inl (cZ, 48, .inl pf))]) (w1 := []) hP hD [] [0, 1, 2, 3, 4, 5, 6, 7, 8, 9] rfl rfl (by decide) (by decide) hk1 hFc hP1 hD1
                        clear hz1 hk1 hFc hKc hDc hPc
                        generalize H1 = H at hP hS ⊢
                        have hP : va_P D vwCl [(m2, .inl (cI, 4, .inl gh)), (m3, .inl (cI, 16384, .inl gd)), (m5, .inl (cI, 4096, .inl gk)), (m6, .inl (cI, 4096, .inl gl)), (m1, .inl (cI, 4, .inl gw)), (m4, .inl (cZ, 4096, .inl gj)), (h0, .inr (9, [.ref m1, .ref m2, .ref m3, .int ik, .int wy, .int op, .int cl, .int cx0, .int cx1, .int cy0, .int cy1, .int ds, .ref m4, .ref m5, .ref m6, .ref m7, .ref m8, .ref m9, .int pn, .ref m10, .ref m11, .ref m12, .ref m13])), (m7, .inl (cI, 48, .inl px)), (m8, .inl (cI, 48, .inl py)), (m9, .inl (cZ, 48, .inl pf))] H := hP
                        have hD : va_D A [(m2, .inl (cI, 4, .inl gh)), (m3, .inl (cI, 16384, .inl gd)), (m5, .inl (cI, 4096, .inl gk)), (m6, .inl (cI, 4096, .inl gl)), (m1, .inl (cI, 4, .inl gw)), (m4, .inl (cZ, 4096, .inl gj)), (h0, .inr (9, [.ref m1, .ref m2, .ref m3, .int ik, .int wy, .int op, .int cl, .int cx0, .int cx1, .int cy0, .int cy1, .int ds, .ref m4, .ref m5, .ref m6, .ref m7, .ref m8, .ref m9, .int pn, .ref m10, .ref m11, .ref m12, .ref m13])), (m7, .inl (cI, 48, .inl px)), (m8, .inl (cI, 48, .inl py)), (m9, .inl (cZ, 48, .inl pf))] := hD
                        have hPc := hP.sub (ws' := [(h0, .inr (9, [.ref m1, .ref m2, .ref m3, .int ik, .int wy, .int op, .int cl, .int cx0, .int cx1, .int cy0, .int cy1, .int ds, .ref m4, .ref m5, .ref m6, .ref m7, .ref m8, .ref m9, .int pn, .ref m10, .ref m11, .ref m12, .ref m13])), (m1, .inl (cI, 4, .inl gw)), (m2, .inl (cI, 4, .inl gh)), (m4, .inl (cZ, 4096, .inl gj)), (m5, .inl (cI, 4096, .inl gk)), (m6, .inl (cI, 4096, .inl gl))]) [6, 4, 0, 5, 2, 3] rfl
                        have hDc := hD.sub (ws' := [(h0, .inr (9, [.ref m1, .ref m2, .ref m3, .int ik, .int wy, .int op, .int cl, .int cx0, .int cx1, .int cy0, .int cy1, .int ds, .ref m4, .ref m5, .ref m6, .ref m7, .ref m8, .ref m9, .int pn, .ref m10, .ref m11, .ref m12, .ref m13])), (m1, .inl (cI, 4, .inl gw)), (m2, .inl (cI, 4, .inl gh)), (m4, .inl (cZ, 4096, .inl gj)), (m5, .inl (cI, 4096, .inl gk)), (m6, .inl (cI, 4096, .inl gl))]) [6, 4, 0, 5, 2, 3] (by decide) rfl
                        have hKc := hK.sub (tys' := [(cI, .int), (cZ, .boolean)]) [0, 1] rfl
                        have hFc := va_free (wc := [(h0, .inr (9, [.ref m1, .ref m2, .ref m3, .int ik, .int wy, .int op, .int cl, .int cx0, .int cx1, .int cy0, .int cy1, .int ds, .ref m4, .ref m5, .ref m6, .ref m7, .ref m8, .ref m9, .int pn, .ref m10, .ref m11, .ref m12, .ref m13])), (m1, .inl (cI, 4, .inl gw)), (m2, .inl (cI, 4, .inl gh)), (m4, .inl (cZ, 4096, .inl gj)), (m5, .inl (cI, 4096, .inl gk)), (m6, .inl (cI, 4096, .inl gl))]) hD hS hA [6, 4, 0, 5, 2, 3] rfl
                        refine va_callv (va_runV (As := [.int k, .int x5, .int x4, .int ik, .int r_41]) (rest := []) ⟨hx, hb, hml, hown, hts⟩ (k_X9_marks l D H.size h0 m1 m2 m3 m4 m5 m6 m7 m8 m9 m10 m11 m12 m13 ik wy op cl cx0 cx1 cy0 cy1 ds pn gw gh gj gk gl k x5 x4 ik r_41 cI cZ (by omega) (by omega) (by omega)) (cwV 5 hts (gV bw_495 bw_458 bw_459 bw_391 bw_457) rfl rfl rfl (by decide +kernel) ⟨(by rw [hR]; exact Nat.le_of_ble_eq_true rfl), (by rw [hR]; exact Nat.le_of_ble_eq_true rfl)⟩) ⟨cP_blind, va_recv hKc hPc (ci := 9) (q0 := 0) rfl rfl, cP_at hPc hKc hDc hN⟩ rfl rfl hl.1 rfl (lv_room (Nat.le_of_ble_eq_true rfl)) dX9_fill_93 ⟨(by rw [hR]; exact Nat.le_of_ble_eq_true rfl), (by rw [hR]; exact Nat.le_of_ble_eq_true rfl)⟩) hS (fun q _ h => hFc q h) hFc (fun u9 t9 H1 locs ht hvm hr_42 hB hz1 hk1 hS => ?_)
                        try dsimp only at hr_42
                        obtain ⟨hP1, hK1, hD1⟩ := hB
                        rw [ht] at hP1
                        obtain ⟨hP, hD⟩ := va_join (wr := [(m3, .inl (cI, 16384, .inl gd)), (m7, .inl (cI, 48, .inl px)), (m8, .inl (cI, 48, .inl py)), (m9, .inl (cZ, 48, .inl pf))]) (w1 := [(h0, .inr (9, [.ref m1, .ref m2, .ref m3, .int ik, .int wy, .int op, .int cl, .int cx0, .int cx1, .int cy0, .int cy1, .int ds, .ref m4, .ref m5, .ref m6, .ref m7, .ref m8, .ref m9, .int pn, .ref m10, .ref m11, .ref m12, .ref m13])), (m1, .inl (cI, 4, .inl gw)), (m2, .inl (cI, 4, .inl gh)), (m4, .inl (cZ, 4096, .inl (if (0 ≤ x5.toInt ∧ x5.toInt < (gw k.toNatClampNeg).toInt ∧ 0 ≤ x4.toInt ∧ x4.toInt < (gh k.toNatClampNeg).toInt) ∧ (cl.toInt = 0 ∨ (cx0.toInt ≤ x5.toInt ∧ x5.toInt ≤ cx1.toInt ∧ cy0.toInt ≤ x4.toInt ∧ x4.toInt ≤ cy1.toInt)) then upd gj (ixP x5 x4) 1 else gj))), (m5, .inl (cI, 4096, .inl (if (0 ≤ x5.toInt ∧ x5.toInt < (gw k.toNatClampNeg).toInt ∧ 0 ≤ x4.toInt ∧ x4.toInt < (gh k.toNatClampNeg).toInt) ∧ (cl.toInt = 0 ∨ (cx0.toInt ≤ x5.toInt ∧ x5.toInt ≤ cx1.toInt ∧ cy0.toInt ≤ x4.toInt ∧ x4.toInt ≤ cy1.toInt)) then upd gk (ixP x5 x4) r_41 else gk))), (m6, .inl (cI, 4096, .inl (if (0 ≤ x5.toInt ∧ x5.toInt < (gw k.toNatClampNeg).toInt ∧ 0 ≤ x4.toInt ∧ x4.toInt < (gh k.toNatClampNeg).toInt) ∧ (cl.toInt = 0 ∨ (cx0.toInt ≤ x5.toInt ∧ x5.toInt ≤ cx1.toInt ∧ cy0.toInt ≤ x4.toInt ∧ x4.toInt ≤ cy1.toInt)) then upd gl (ixP x5 x4) ik else gl)))]) hP hD [6, 4, 0, 5, 2, 3] [1, 7, 8, 9] rfl rfl (by decide) (by decide) hk1 hFc hP1 hD1
                        clear hz1 hk1 hFc hKc hDc hPc
                        generalize H1 = H at hP hS ⊢
                        have hP : va_P D vwCl [(m3, .inl (cI, 16384, .inl gd)), (m7, .inl (cI, 48, .inl px)), (m8, .inl (cI, 48, .inl py)), (m9, .inl (cZ, 48, .inl pf)), (h0, .inr (9, [.ref m1, .ref m2, .ref m3, .int ik, .int wy, .int op, .int cl, .int cx0, .int cx1, .int cy0, .int cy1, .int ds, .ref m4, .ref m5, .ref m6, .ref m7, .ref m8, .ref m9, .int pn, .ref m10, .ref m11, .ref m12, .ref m13])), (m1, .inl (cI, 4, .inl gw)), (m2, .inl (cI, 4, .inl gh)), (m4, .inl (cZ, 4096, .inl (if (0 ≤ x5.toInt ∧ x5.toInt < (gw k.toNatClampNeg).toInt ∧ 0 ≤ x4.toInt ∧ x4.toInt < (gh k.toNatClampNeg).toInt) ∧ (cl.toInt = 0 ∨ (cx0.toInt ≤ x5.toInt ∧ x5.toInt ≤ cx1.toInt ∧ cy0.toInt ≤ x4.toInt ∧ x4.toInt ≤ cy1.toInt)) then upd gj (ixP x5 x4) 1 else gj))), (m5, .inl (cI, 4096, .inl (if (0 ≤ x5.toInt ∧ x5.toInt < (gw k.toNatClampNeg).toInt ∧ 0 ≤ x4.toInt ∧ x4.toInt < (gh k.toNatClampNeg).toInt) ∧ (cl.toInt = 0 ∨ (cx0.toInt ≤ x5.toInt ∧ x5.toInt ≤ cx1.toInt ∧ cy0.toInt ≤ x4.toInt ∧ x4.toInt ≤ cy1.toInt)) then upd gk (ixP x5 x4) r_41 else gk))), (m6, .inl (cI, 4096, .inl (if (0 ≤ x5.toInt ∧ x5.toInt < (gw k.toNatClampNeg).toInt ∧ 0 ≤ x4.toInt ∧ x4.toInt < (gh k.toNatClampNeg).toInt) ∧ (cl.toInt = 0 ∨ (cx0.toInt ≤ x5.toInt ∧ x5.toInt ≤ cx1.toInt ∧ cy0.toInt ≤ x4.toInt ∧ x4.toInt ≤ cy1.toInt)) then upd gl (ixP x5 x4) ik else gl)))] H := hP
                        have hD : va_D A [(m3, .inl (cI, 16384, .inl gd)), (m7, .inl (cI, 48, .inl px)), (m8, .inl (cI, 48, .inl py)), (m9, .inl (cZ, 48, .inl pf)), (h0, .inr (9, [.ref m1, .ref m2, .ref m3, .int ik, .int wy, .int op, .int cl, .int cx0, .int cx1, .int cy0, .int cy1, .int ds, .ref m4, .ref m5, .ref m6, .ref m7, .ref m8, .ref m9, .int pn, .ref m10, .ref m11, .ref m12, .ref m13])), (m1, .inl (cI, 4, .inl gw)), (m2, .inl (cI, 4, .inl gh)), (m4, .inl (cZ, 4096, .inl (if (0 ≤ x5.toInt ∧ x5.toInt < (gw k.toNatClampNeg).toInt ∧ 0 ≤ x4.toInt ∧ x4.toInt < (gh k.toNatClampNeg).toInt) ∧ (cl.toInt = 0 ∨ (cx0.toInt ≤ x5.toInt ∧ x5.toInt ≤ cx1.toInt ∧ cy0.toInt ≤ x4.toInt ∧ x4.toInt ≤ cy1.toInt)) then upd gj (ixP x5 x4) 1 else gj))), (m5, .inl (cI, 4096, .inl (if (0 ≤ x5.toInt ∧ x5.toInt < (gw k.toNatClampNeg).toInt ∧ 0 ≤ x4.toInt ∧ x4.toInt < (gh k.toNatClampNeg).toInt) ∧ (cl.toInt = 0 ∨ (cx0.toInt ≤ x5.toInt ∧ x5.toInt ≤ cx1.toInt ∧ cy0.toInt ≤ x4.toInt ∧ x4.toInt ≤ cy1.toInt)) then upd gk (ixP x5 x4) r_41 else gk))), (m6, .inl (cI, 4096, .inl (if (0 ≤ x5.toInt ∧ x5.toInt < (gw k.toNatClampNeg).toInt ∧ 0 ≤ x4.toInt ∧ x4.toInt < (gh k.toNatClampNeg).toInt) ∧ (cl.toInt = 0 ∨ (cx0.toInt ≤ x5.toInt ∧ x5.toInt ≤ cx1.toInt ∧ cy0.toInt ≤ x4.toInt ∧ x4.toInt ≤ cy1.toInt)) then upd gl (ixP x5 x4) ik else gl)))] := hD
                        generalize eg_43 : (if (0 ≤ x5.toInt ∧ x5.toInt < (gw k.toNatClampNeg).toInt ∧ 0 ≤ x4.toInt ∧ x4.toInt < (gh k.toNatClampNeg).toInt) ∧ (cl.toInt = 0 ∨ (cx0.toInt ≤ x5.toInt ∧ x5.toInt ≤ cx1.toInt ∧ cy0.toInt ≤ x4.toInt ∧ x4.toInt ≤ cy1.toInt)) then upd gj (ixP x5 x4) 1 else gj) = g_43 at hP hD
                        generalize eg_44 : (if (0 ≤ x5.toInt ∧ x5.toInt < (gw k.toNatClampNeg).toInt ∧ 0 ≤ x4.toInt ∧ x4.toInt < (gh k.toNatClampNeg).toInt) ∧ (cl.toInt = 0 ∨ (cx0.toInt ≤ x5.toInt ∧ x5.toInt ≤ cx1.toInt ∧ cy0.toInt ≤ x4.toInt ∧ x4.toInt ≤ cy1.toInt)) then upd gk (ixP x5 x4) r_41 else gk) = g_44 at hP hD
                        generalize eg_45 : (if (0 ≤ x5.toInt ∧ x5.toInt < (gw k.toNatClampNeg).toInt ∧ 0 ≤ x4.toInt ∧ x4.toInt < (gh k.toNatClampNeg).toInt) ∧ (cl.toInt = 0 ∨ (cx0.toInt ≤ x5.toInt ∧ x5.toInt ≤ cx1.toInt ∧ cy0.toInt ≤ x4.toInt ∧ x4.toInt ≤ cy1.toInt)) then upd gl (ixP x5 x4) ik else gl) = g_45 at hP hD
                        have hP : va_P D vwCl [(m3, .inl (cI, 16384, .inl gd)), (m7, .inl (cI, 48, .inl px)), (m8, .inl (cI, 48, .inl py)), (m9, .inl (cZ, 48, .inl pf)), (h0, .inr (9, [.ref m1, .ref m2, .ref m3, .int ik, .int wy, .int op, .int cl, .int cx0, .int cx1, .int cy0, .int cy1, .int ds, .ref m4, .ref m5, .ref m6, .ref m7, .ref m8, .ref m9, .int pn, .ref m10, .ref m11, .ref m12, .ref m13])), (m1, .inl (cI, 4, .inl gw)), (m2, .inl (cI, 4, .inl gh)), (m4, .inl (cZ, 4096, .inl g_43)), (m5, .inl (cI, 4096, .inl g_44)), (m6, .inl (cI, 4096, .inl g_45))] H := hP
                        have hD : va_D A [(m3, .inl (cI, 16384, .inl gd)), (m7, .inl (cI, 48, .inl px)), (m8, .inl (cI, 48, .inl py)), (m9, .inl (cZ, 48, .inl pf)), (h0, .inr (9, [.ref m1, .ref m2, .ref m3, .int ik, .int wy, .int op, .int cl, .int cx0, .int cx1, .int cy0, .int cy1, .int ds, .ref m4, .ref m5, .ref m6, .ref m7, .ref m8, .ref m9, .int pn, .ref m10, .ref m11, .ref m12, .ref m13])), (m1, .inl (cI, 4, .inl gw)), (m2, .inl (cI, 4, .inl gh)), (m4, .inl (cZ, 4096, .inl g_43)), (m5, .inl (cI, 4096, .inl g_44)), (m6, .inl (cI, 4096, .inl g_45))] := hD
                        have hM : ((g_43, g_44, g_45) : M3) = (mkF (gw k.toNatClampNeg) (gh k.toNatClampNeg) cl cx0 cx1 cy0 cy1) (gj, gk, gl) (x5, x4, ik, r_41) := by rw [← eg_43, ← eg_44, ← eg_45]; rfl
                        refine lv_goto (tgt := 142) hx hb dX9_fill_96 (by decide) ?_
                        obtain ⟨y_46, ey_46⟩ : ∃ y : Int32, y = x5 + 1 := ⟨_, rfl⟩
                        refine lv_iinc (v := y_46) (lv' := [(5, .int y_46), (6, .int r_36), (4, .int x4), (0, .ref h0), (1, .int k), (2, .int ru), (3, .int sm)]) hx hb dX9_fill_142 hl (k := 1) rfl (by rw [ey_46]; rfl) (by decide) rfl (fun ls hl => ?_)
                        refine lv_goto (tgt := 40) hx hb dX9_fill_145 (by decide) ?_
                        exact ih_15 (i + 1) y_46 g_43 g_44 g_45 _ _ _ (by omega) (by omega) (by rw [ey_46, ex_i]; exact nI_1 i) (by omega) (by rw [show gR (flQ (cfM px py pf pn.toNatClampNeg ru sm) sm ik op) j (i + 1) = gR (flQ (cfM px py pf pn.toNatClampNeg ru sm) sm ik op) j i ++ [(x5, x4, ik, r_41)] from congrArg (gR (flQ (cfM px py pf pn.toNatClampNeg ru sm) sm ik op) j i ++ ·) (show flQ (cfM px py pf pn.toNatClampNeg ru sm) sm ik op j i = [(x5, x4, ik, r_41)] by unfold flQ; rw [← hcvr_36, if_neg (ne0_of (by omega)), if_neg c_19, ← ex_i, ← ex_j, hr_41, ey_40, Int32.mul_assoc]), ← List.append_assoc, List.foldl_append, ← hgi]; exact hM) (hP.sub (ws' := [(m2, .inl (cI, 4, .inl gh)), (m3, .inl (cI, 16384, .inl gd)), (m5, .inl (cI, 4096, .inl g_44)), (m6, .inl (cI, 4096, .inl g_45)), (m7, .inl (cI, 48, .inl px)), (m8, .inl (cI, 48, .inl py)), (m9, .inl (cZ, 48, .inl pf)), (m1, .inl (cI, 4, .inl gw)), (h0, .inr (9, [.ref m1, .ref m2, .ref m3, .int ik, .int wy, .int op, .int cl, .int cx0, .int cx1, .int cy0, .int cy1, .int ds, .ref m4, .ref m5, .ref m6, .ref m7, .ref m8, .ref m9, .int pn, .ref m10, .ref m11, .ref m12, .ref m13])), (m4, .inl (cZ, 4096, .inl g_43))]) [6, 0, 8, 9, 1, 2, 3, 5, 4, 7] rfl) (hD.sub (ws' := [(m2, .inl (cI, 4, .inl gh)), (m3, .inl (cI, 16384, .inl gd)), (m5, .inl (cI, 4096, .inl g_44)), (m6, .inl (cI, 4096, .inl g_45)), (m7, .inl (cI, 48, .inl px)), (m8, .inl (cI, 48, .inl py)), (m9, .inl (cZ, 48, .inl pf)), (m1, .inl (cI, 4, .inl gw)), (h0, .inr (9, [.ref m1, .ref m2, .ref m3, .int ik, .int wy, .int op, .int cl, .int cx0, .int cx1, .int cy0, .int cy1, .int ds, .ref m4, .ref m5, .ref m6, .ref m7, .ref m8, .ref m9, .int pn, .ref m10, .ref m11, .ref m12, .ref m13])), (m4, .inl (cZ, 4096, .inl g_43))]) [6, 0, 8, 9, 1, 2, 3, 5, 4, 7] (by decide) rfl) hS (lv_sub hl [0, 2, 3, 4, 5, 6] rfl)
              exact loop_14 (64 + 1) 0 0 ga gb gc _ _ _ (by omega) (by omega) nI_0.symm (by omega) (by rw [show gR (flQ (cfM px py pf pn.toNatClampNeg ru sm) sm ik op) j 0 = [] from rfl, List.append_nil]; exact hgo) hP hD hS (lv_sub hl [0, 1, 2, 3, 4, 5] rfl)
        exact loop_9 (64 + 1) 0 0 (zrN gm 4096) ge gv _ _ _ (by omega) (by omega) nI_0.symm (by omega) rfl hP hD hS (lv_sub hl [0, 1, 2, 3, 4] rfl)
      · skip
        have f_7 : ¬ (ru.toInt ≤ 1) := fn_le rfl (by decide) c_6
        exact False.elim (by omega)

set_option maxHeartbeats 4000000 in
set_option maxRecDepth 100000 in
theorem k_X9_fill_ne (l : Launch) (D : va_G) (sz : Nat) (h0 m1 m2 m3 m4 m5 m6 m7 m8 m9 m10 m11 m12 m13 : Nat) (ik wy op cl cx0 cx1 cy0 cy1 ds pn : Int32) (gw : Nat → Int32) (k ru sm : Int32) (cI : ClassId) (hns : ¬ ((0 ≤ k.toInt ∧ k.toInt ≤ 3 ∧ 0 < (gw k.toNatClampNeg).toInt) ∧ (ru.toInt = 0 ∨ ru.toInt = 1))) : Met l yX9_fill (wB yX9_fill cX9_fill 7 (some .int)) ({ frames := 1, cells := 0, slots := 0, locals := 21 }) (cP D [(h0, .inr (9, [.ref m1, .ref m2, .ref m3, .int ik, .int wy, .int op, .int cl, .int cx0, .int cx1, .int cy0, .int cy1, .int ds, .ref m4, .ref m5, .ref m6, .ref m7, .ref m8, .ref m9, .int pn, .ref m10, .ref m11, .ref m12, .ref m13])), (m1, .inl (cI, 4, .inl gw))] [(cI, .int)] sz [.ref h0, .int k, .int ru, .int sm]) (va_Qi (fun (r : Int32) (_ : Unit) => r = -1) (fun (_ : Unit) (t : State) => cB D (va_A [(h0, .inr (9, [.ref m1, .ref m2, .ref m3, .int ik, .int wy, .int op, .int cl, .int cx0, .int cx1, .int cy0, .int cy1, .int ds, .ref m4, .ref m5, .ref m6, .ref m7, .ref m8, .ref m9, .int pn, .ref m10, .ref m11, .ref m12, .ref m13])), (m1, .inl (cI, 4, .inl gw))] sz) [(h0, .inr (9, [.ref m1, .ref m2, .ref m3, .int ik, .int wy, .int op, .int cl, .int cx0, .int cx1, .int cy0, .int cy1, .int ds, .ref m4, .ref m5, .ref m6, .ref m7, .ref m8, .ref m9, .int pn, .ref m10, .ref m11, .ref m12, .ref m13])), (m1, .inl (cI, 4, .inl gw))] [(cI, .int)] t) (va_A [(h0, .inr (9, [.ref m1, .ref m2, .ref m3, .int ik, .int wy, .int op, .int cl, .int cx0, .int cx1, .int cy0, .int cy1, .int ds, .ref m4, .ref m5, .ref m6, .ref m7, .ref m8, .ref m9, .int pn, .ref m10, .ref m11, .ref m12, .ref m13])), (m1, .inl (cI, 4, .inl gw))] sz)) 0 0 (va_A [(h0, .inr (9, [.ref m1, .ref m2, .ref m3, .int ik, .int wy, .int op, .int cl, .int cx0, .int cx1, .int cy0, .int cy1, .int ds, .ref m4, .ref m5, .ref m6, .ref m7, .ref m8, .ref m9, .int pn, .ref m10, .ref m11, .ref m12, .ref m13])), (m1, .inl (cI, 4, .inl gw))] sz) := by
  refine Met.ofW (cc := cX9_fill) (maxL := 7) (ret := (some .int)) (by decide) rfl ?_
  intro p e s m args below meth c s₁ B hml hv
  obtain ⟨rfl, hsz, hP, hK, hD0, hN⟩ := hv
  have hx := B.exec
  have hb := B.bytes
  have hr := B.returns
  have hts0 := atoms_spec (ws := (wB yX9_fill cX9_fill 7 (some .int))) B.pre
  have hts : ∀ w ∈ bigW, w.before _ s = true := fun w h => hts0 w (List.mem_cons_of_mem _ h)
  have hown : s.vm.findClass RX9 = some m.cls := findClass_of_methodNamed B.named
  have hlocks := B.notSynchronized
  subst hsz
  have hD := hD0.self (sz := s.heap.size)
  generalize hAe : va_A [(h0, .inr (9, [.ref m1, .ref m2, .ref m3, .int ik, .int wy, .int op, .int cl, .int cx0, .int cx1, .int cy0, .int cy1, .int ds, .ref m4, .ref m5, .ref m6, .ref m7, .ref m8, .ref m9, .int pn, .ref m10, .ref m11, .ref m12, .ref m13])), (m1, .inl (cI, 4, .inl gw))] s.heap.size = A at hD ⊢
  have hA : ∀ q : Nat, s.heap.size ≤ q → A q := fun q h => by rw [← hAe]; exact Or.inr h
  have hS : va_S A s.heap s.heap [] := va_S.rf
  have hP : va_P D vwCl [(h0, .inr (9, [.ref m1, .ref m2, .ref m3, .int ik, .int wy, .int op, .int cl, .int cx0, .int cx1, .int cy0, .int cy1, .int ds, .ref m4, .ref m5, .ref m6, .ref m7, .ref m8, .ref m9, .int pn, .ref m10, .ref m11, .ref m12, .ref m13])), (m1, .inl (cI, 4, .inl gw))] s.heap := hP
  have hl := lv_entry ([.ref h0, .int k, .int ru, .int sm]) (n := 7) (Nat.le_of_ble_eq_true rfl)
  rw [lg_entry_eq]
  generalize (lg_sl ([.ref h0, .int k, .int ru, .int sm]) ++ List.replicate (7 - (lg_sl ([.ref h0, .int k, .int ru, .int sm])).length) Slot.unset).toArray = ls at hl ⊢
  have hl : lv_has ls 7 [(0, .ref h0), (1, .int k), (2, .int ru), (3, .int sm)] := hl
  clear hts0 hD0 hAe
  refine my_abs (fun R Q hR hQ => ?_)
  refine lv_aload_n hx hb dX9_fill_0 rfl (lv_at hl 0 rfl) ?_
  refine lv_iload_n hx hb dX9_fill_1 rfl (lv_at hl 1 rfl) ?_
  have hPc := hP.sub (ws' := [(h0, .inr (9, [.ref m1, .ref m2, .ref m3, .int ik, .int wy, .int op, .int cl, .int cx0, .int cx1, .int cy0, .int cy1, .int ds, .ref m4, .ref m5, .ref m6, .ref m7, .ref m8, .ref m9, .int pn, .ref m10, .ref m11, .ref m12, .ref m13])), (m1, .inl (cI, 4, .inl gw))]) [0, 1] rfl
  have hDc := hD.sub (ws' := [(h0, .inr (9, [.ref m1, .ref m2, .ref m3, .int ik, .int wy, .int op, .int cl, .int cx0, .int cx1, .int cy0, .int cy1, .int ds, .ref m4, .ref m5, .ref m6, .ref m7, .ref m8, .ref m9, .int pn, .ref m10, .ref m11, .ref m12, .ref m13])), (m1, .inl (cI, 4, .inl gw))]) [0, 1] (by decide) rfl
  have hKc := hK.sub (tys' := [(cI, .int)]) [0] rfl
  have hFc := va_free (wc := [(h0, .inr (9, [.ref m1, .ref m2, .ref m3, .int ik, .int wy, .int op, .int cl, .int cx0, .int cx1, .int cy0, .int cy1, .int ds, .ref m4, .ref m5, .ref m6, .ref m7, .ref m8, .ref m9, .int pn, .ref m10, .ref m11, .ref m12, .ref m13])), (m1, .inl (cI, 4, .inl gw))]) hD hS hA [0, 1] rfl
  refine va_calli (va_runV (As := [.int k]) (rest := []) ⟨hx, hb, hml, hown, hts⟩ (k_X9_isSheet l D s.heap.size h0 m1 m2 m3 m4 m5 m6 m7 m8 m9 m10 m11 m12 m13 ik wy op cl cx0 cx1 cy0 cy1 ds pn gw k cI) (cwV 1 hts (gV bw_490 bw_415 bw_416 bw_391 bw_414) rfl rfl rfl (by decide +kernel) ⟨(by rw [hR]; exact Nat.le_of_ble_eq_true rfl), (by rw [hR]; exact Nat.le_of_ble_eq_true rfl)⟩) ⟨cP_blind, va_recv hKc hPc (ci := 9) (q0 := 0) rfl rfl, cP_at hPc hKc hDc hN⟩ rfl rfl hl.1 rfl (lv_room (Nat.le_of_ble_eq_true rfl)) dX9_fill_2 ⟨(by rw [hR]; exact Nat.le_of_ble_eq_true rfl), (by rw [hR]; exact Nat.le_of_ble_eq_true rfl)⟩) hS (fun q _ h => hFc q h) hFc (fun r_1 u9 t9 H1 locs ht hvm hr_1 hB hz1 hk1 hS => ?_)
  try dsimp only at hr_1
  obtain ⟨hP1, hK1, hD1⟩ := hB
  rw [ht] at hP1
  obtain ⟨hP, hD⟩ := va_join (wr := []) (w1 := [(h0, .inr (9, [.ref m1, .ref m2, .ref m3, .int ik, .int wy, .int op, .int cl, .int cx0, .int cx1, .int cy0, .int cy1, .int ds, .ref m4, .ref m5, .ref m6, .ref m7, .ref m8, .ref m9, .int pn, .ref m10, .ref m11, .ref m12, .ref m13])), (m1, .inl (cI, 4, .inl gw))]) hP hD [0, 1] [] rfl rfl (by decide) (by decide) hk1 hFc hP1 hD1
  clear hz1 hk1 hFc hKc hDc hPc
  generalize H1 = H at hP hS ⊢
  have hP : va_P D vwCl [(h0, .inr (9, [.ref m1, .ref m2, .ref m3, .int ik, .int wy, .int op, .int cl, .int cx0, .int cx1, .int cy0, .int cy1, .int ds, .ref m4, .ref m5, .ref m6, .ref m7, .ref m8, .ref m9, .int pn, .ref m10, .ref m11, .ref m12, .ref m13])), (m1, .inl (cI, 4, .inl gw))] H := hP
  have hD : va_D A [(h0, .inr (9, [.ref m1, .ref m2, .ref m3, .int ik, .int wy, .int op, .int cl, .int cx0, .int cx1, .int cy0, .int cy1, .int ds, .ref m4, .ref m5, .ref m6, .ref m7, .ref m8, .ref m9, .int pn, .ref m10, .ref m11, .ref m12, .ref m13])), (m1, .inl (cI, 4, .inl gw))] := hD
  refine lv_if_eq (tgt := 17) hx hb dX9_fill_5 (by decide) (fun c_2 => ?_) (fun c_2 => ?_)
  · skip
    have f_3 := bz0 hr_1 c_2
    refine lv_iconst (v := (-1)) hx hb dX9_fill_17 (by decide) ?_
    have hP9 := hP.sub (ws' := [(h0, .inr (9, [.ref m1, .ref m2, .ref m3, .int ik, .int wy, .int op, .int cl, .int cx0, .int cx1, .int cy0, .int cy1, .int ds, .ref m4, .ref m5, .ref m6, .ref m7, .ref m8, .ref m9, .int pn, .ref m10, .ref m11, .ref m12, .ref m13])), (m1, .inl (cI, 4, .inl gw))]) [0, 1] rfl
    have hD9 := hD.sub (ws' := [(h0, .inr (9, [.ref m1, .ref m2, .ref m3, .int ik, .int wy, .int op, .int cl, .int cx0, .int cx1, .int cy0, .int cy1, .int ds, .ref m4, .ref m5, .ref m6, .ref m7, .ref m8, .ref m9, .int pn, .ref m10, .ref m11, .ref m12, .ref m13])), (m1, .inl (cI, 4, .inl gw))]) [0, 1] (by decide) rfl
    have hK9 := hK.sub (tys' := [(cI, .int)]) [0] rfl
    refine hQ _ _ _ _ _ ?_
    exact W.iret (v := (-1)) hx hb hr (fun t ht hW => ⟨⟨(-1), (), rfl, rfl, ⟨by rw [ht]; exact hP9, va_K.moved hW.alike hK9, hD9⟩⟩, hS.F ht⟩) hS.2.2 dX9_fill_18
  · skip
    have f_3 := bz1 hr_1 c_2
    refine lv_iload_n hx hb dX9_fill_8 rfl (lv_at hl 2 rfl) ?_
    refine lv_if_lt (tgt := 17) hx hb dX9_fill_9 (by decide) (fun c_4 => ?_) (fun c_4 => ?_)
    · skip
      have f_5 : ru.toInt < 0 := f_lt rfl (by decide) c_4
      refine lv_iconst (v := (-1)) hx hb dX9_fill_17 (by decide) ?_
      have hP9 := hP.sub (ws' := [(h0, .inr (9, [.ref m1, .ref m2, .ref m3, .int ik, .int wy, .int op, .int cl, .int cx0, .int cx1, .int cy0, .int cy1, .int ds, .ref m4, .ref m5, .ref m6, .ref m7, .ref m8, .ref m9, .int pn, .ref m10, .ref m11, .ref m12, .ref m13])), (m1, .inl (cI, 4, .inl gw))]) [0, 1] rfl
      have hD9 := hD.sub (ws' := [(h0, .inr (9, [.ref m1, .ref m2, .ref m3, .int ik, .int wy, .int op, .int cl, .int cx0, .int cx1, .int cy0, .int cy1, .int ds, .ref m4, .ref m5, .ref m6, .ref m7, .ref m8, .ref m9, .int pn, .ref m10, .ref m11, .ref m12, .ref m13])), (m1, .inl (cI, 4, .inl gw))]) [0, 1] (by decide) rfl
      have hK9 := hK.sub (tys' := [(cI, .int)]) [0] rfl
      refine hQ _ _ _ _ _ ?_
      exact W.iret (v := (-1)) hx hb hr (fun t ht hW => ⟨⟨(-1), (), rfl, rfl, ⟨by rw [ht]; exact hP9, va_K.moved hW.alike hK9, hD9⟩⟩, hS.F ht⟩) hS.2.2 dX9_fill_18
    · skip
      have f_5 : ¬ (ru.toInt < 0) := fn_lt rfl (by decide) c_4
      refine lv_iload_n hx hb dX9_fill_12 rfl (lv_at hl 2 rfl) ?_
      refine lv_iconst (v := 1) hx hb dX9_fill_13 (by decide) ?_
      refine lv_icmp_le (tgt := 19) hx hb dX9_fill_14 (by decide) (fun c_6 => ?_) (fun c_6 => ?_)
      · skip
        have f_7 : ru.toInt ≤ 1 := f_le rfl (by decide) c_6
        exact False.elim (by omega)
      · skip
        have f_7 : ¬ (ru.toInt ≤ 1) := fn_le rfl (by decide) c_6
        refine lv_iconst (v := (-1)) hx hb dX9_fill_17 (by decide) ?_
        have hP9 := hP.sub (ws' := [(h0, .inr (9, [.ref m1, .ref m2, .ref m3, .int ik, .int wy, .int op, .int cl, .int cx0, .int cx1, .int cy0, .int cy1, .int ds, .ref m4, .ref m5, .ref m6, .ref m7, .ref m8, .ref m9, .int pn, .ref m10, .ref m11, .ref m12, .ref m13])), (m1, .inl (cI, 4, .inl gw))]) [0, 1] rfl
        have hD9 := hD.sub (ws' := [(h0, .inr (9, [.ref m1, .ref m2, .ref m3, .int ik, .int wy, .int op, .int cl, .int cx0, .int cx1, .int cy0, .int cy1, .int ds, .ref m4, .ref m5, .ref m6, .ref m7, .ref m8, .ref m9, .int pn, .ref m10, .ref m11, .ref m12, .ref m13])), (m1, .inl (cI, 4, .inl gw))]) [0, 1] (by decide) rfl
        have hK9 := hK.sub (tys' := [(cI, .int)]) [0] rfl
        refine hQ _ _ _ _ _ ?_
        exact W.iret (v := (-1)) hx hb hr (fun t ht hW => ⟨⟨(-1), (), rfl, rfl, ⟨by rw [ht]; exact hP9, va_K.moved hW.alike hK9, hD9⟩⟩, hS.F ht⟩) hS.2.2 dX9_fill_18

set_option maxHeartbeats 4000000 in
set_option maxRecDepth 100000 in
theorem k_X9_area_e (l : Launch) (D : va_G) (sz : Nat) (xa ya xb yb xc yc : Int32) : Met l yX9_area (wB yX9_area cX9_area 7 (some .int)) ({ frames := 0, cells := 0, slots := 0, locals := 0 }) (cP D [] [] sz [.int xa, .int ya, .int xb, .int yb, .int xc, .int yc]) (va_Qi (fun (r : Int32) (_ : Unit) => r = aaP xa ya xb yb xc yc) (fun (_ : Unit) (_ : State) => True) (va_A [] sz)) 0 0 (va_A [] sz) := by
  refine Met.ofW (cc := cX9_area) (maxL := 7) (ret := (some .int)) (by decide) rfl ?_
  intro p e s m args below meth c s₁ B hml hv
  obtain ⟨rfl, hsz, hP, hK, hD0, hN⟩ := hv
  have hx := B.exec
  have hb := B.bytes
  have hr := B.returns
  have hts0 := atoms_spec (ws := (wB yX9_area cX9_area 7 (some .int))) B.pre
  have hts : ∀ w ∈ bigW, w.before _ s = true := fun w h => hts0 w (List.mem_cons_of_mem _ h)
  have hown : s.vm.findClass RX9 = some m.cls := findClass_of_methodNamed B.named
  have hlocks := B.notSynchronized
  subst hsz
  have hD := hD0.self (sz := s.heap.size)
  generalize hAe : va_A [] s.heap.size = A at hD ⊢
  have hA : ∀ q : Nat, s.heap.size ≤ q → A q := fun q h => by rw [← hAe]; exact Or.inr h
  have hS : va_S A s.heap s.heap [] := va_S.rf
  have hP : va_P D vwCl [] s.heap := hP
  have hl := lv_entry ([.int xa, .int ya, .int xb, .int yb, .int xc, .int yc]) (n := 7) (Nat.le_of_ble_eq_true rfl)
  rw [lg_entry_eq]
  generalize (lg_sl ([.int xa, .int ya, .int xb, .int yb, .int xc, .int yc]) ++ List.replicate (7 - (lg_sl ([.int xa, .int ya, .int xb, .int yb, .int xc, .int yc])).length) Slot.unset).toArray = ls at hl ⊢
  have hl : lv_has ls 7 [(0, .int xa), (1, .int ya), (2, .int xb), (3, .int yb), (4, .int xc), (5, .int yc)] := hl
  clear hts0 hD0 hAe
  refine my_abs (fun R Q hR hQ => ?_)
  refine lv_iload_n hx hb dX9_area_0 rfl (lv_at hl 2 rfl) ?_
  refine lv_iload_n hx hb dX9_area_1 rfl (lv_at hl 0 rfl) ?_
  refine lv_isub hx hb dX9_area_2 ?_
  refine lv_topi (fun y_1 ey_1 => ?_)
  refine lv_iload hx hb dX9_area_3 (lv_at hl 5 rfl) ?_
  refine lv_iload_n hx hb dX9_area_5 rfl (lv_at hl 1 rfl) ?_
  refine lv_isub hx hb dX9_area_6 ?_
  refine lv_topi (fun y_2 ey_2 => ?_)
  refine lv_imul hx hb dX9_area_7 ?_
  refine lv_topi (fun y_3 ey_3 => ?_)
  refine lv_iload hx hb dX9_area_8 (lv_at hl 4 rfl) ?_
  refine lv_iload_n hx hb dX9_area_10 rfl (lv_at hl 0 rfl) ?_
  refine lv_isub hx hb dX9_area_11 ?_
  refine lv_topi (fun y_4 ey_4 => ?_)
  refine lv_iload_n hx hb dX9_area_12 rfl (lv_at hl 3 rfl) ?_
  refine lv_iload_n hx hb dX9_area_13 rfl (lv_at hl 1 rfl) ?_
  refine lv_isub hx hb dX9_area_14 ?_
  refine lv_topi (fun y_5 ey_5 => ?_)
  refine lv_imul hx hb dX9_area_15 ?_
  refine lv_topi (fun y_6 ey_6 => ?_)
  refine lv_isub hx hb dX9_area_16 ?_
  refine lv_topi (fun y_7 ey_7 => ?_)
  refine lv_istore (lv' := [(6, .int y_7), (0, .int xa), (1, .int ya), (2, .int xb), (3, .int yb), (4, .int xc), (5, .int yc)]) hx hb dX9_area_17 hl (by decide) rfl (fun ls hl => ?_)
  refine lv_iload hx hb dX9_area_19 (lv_at hl 0 rfl) ?_
  refine lv_if_ge (tgt := 30) hx hb dX9_area_21 (by decide) (fun c_8 => ?_) (fun c_8 => ?_)
  · skip
    have f_9 : 0 ≤ y_7.toInt := f_le (by decide) rfl c_8
    have hAA : y_7 = (xb - xa) * (yc - ya) - (xc - xa) * (yb - ya) := by rw [ey_7, ey_6, ey_5, ey_4, ey_3, ey_2, ey_1]
    refine lv_iload hx hb dX9_area_30 (lv_at hl 0 rfl) ?_
    refine hQ _ _ _ _ _ ?_
    exact W.iret (v := y_7) hx hb hr (fun t ht hW => ⟨⟨y_7, (), rfl, (by unfold aaP; rw [← hAA, if_neg (by omega)]), trivial⟩, hS.F ht⟩) hS.2.2 dX9_area_32
  · skip
    have f_9 : ¬ (0 ≤ y_7.toInt) := fn_le (by decide) rfl c_8
    have hAA : y_7 = (xb - xa) * (yc - ya) - (xc - xa) * (yb - ya) := by rw [ey_7, ey_6, ey_5, ey_4, ey_3, ey_2, ey_1]
    refine lv_iload hx hb dX9_area_24 (lv_at hl 0 rfl) ?_
    refine lv_ineg hx hb dX9_area_26 ?_
    refine lv_topi (fun y_10 ey_10 => ?_)
    refine lv_goto (tgt := 32) hx hb dX9_area_27 (by decide) ?_
    refine hQ _ _ _ _ _ ?_
    exact W.iret (v := y_10) hx hb hr (fun t ht hW => ⟨⟨y_10, (), rfl, (by unfold aaP; rw [← hAA, if_pos (by omega)]; exact ey_10), trivial⟩, hS.F ht⟩) hS.2.2 dX9_area_32

set_option maxHeartbeats 4000000 in
set_option maxRecDepth 100000 in
theorem k_X9_isInTriangle_e (l : Launch) (D : va_G) (sz : Nat) (h0 m1 m2 m3 m4 m5 m6 m7 m8 m9 m10 m11 m12 m13 : Nat) (ik wy op cl cx0 cx1 cy0 cy1 ds pn : Int32) (kx : Nat → Int32) (ky : Nat → Int32) (u v : Int32) (cI : ClassId) (htb : ∀ j : Nat, j < 3 → (-200 ≤ (kx j).toInt ∧ (kx j).toInt ≤ 200) ∧ (-200 ≤ (ky j).toInt ∧ (ky j).toInt ≤ 200)) : Met l yX9_isInTriangle (wB yX9_isInTriangle cX9_isInTriangle 6 (some .boolean)) ({ frames := 1, cells := 0, slots := 0, locals := 31 }) (cP D [(h0, .inr (9, [.ref m1, .ref m2, .ref m3, .int ik, .int wy, .int op, .int cl, .int cx0, .int cx1, .int cy0, .int cy1, .int ds, .ref m4, .ref m5, .ref m6, .ref m7, .ref m8, .ref m9, .int pn, .ref m10, .ref m11, .ref m12, .ref m13])), (m10, .inl (cI, 3, .inl kx)), (m11, .inl (cI, 3, .inl ky))] [(cI, .int)] sz [.ref h0, .int u, .int v]) (va_Qi (fun (r : Int32) (_ : Unit) => r = if ¬ tgS kx ky u v = 0 then 1 else 0) (fun (_ : Unit) (t : State) => cB D (va_A [(h0, .inr (9, [.ref m1, .ref m2, .ref m3, .int ik, .int wy, .int op, .int cl, .int cx0, .int cx1, .int cy0, .int cy1, .int ds, .ref m4, .ref m5, .ref m6, .ref m7, .ref m8, .ref m9, .int pn, .ref m10, .ref m11, .ref m12, .ref m13])), (m10, .inl (cI, 3, .inl kx)), (m11, .inl (cI, 3, .inl ky))] sz) [(h0, .inr (9, [.ref m1, .ref m2, .ref m3, .int ik, .int wy, .int op, .int cl, .int cx0, .int cx1, .int cy0, .int cy1, .int ds, .ref m4, .ref m5, .ref m6, .ref m7, .ref m8, .ref m9, .int pn, .ref m10, .ref m11, .ref m12, .ref m13])), (m10, .inl (cI, 3, .inl kx)), (m11, .inl (cI, 3, .inl ky))] [(cI, .int)] t) (va_A [(h0, .inr (9, [.ref m1, .ref m2, .ref m3, .int ik, .int wy, .int op, .int cl, .int cx0, .int cx1, .int cy0, .int cy1, .int ds, .ref m4, .ref m5, .ref m6, .ref m7, .ref m8, .ref m9, .int pn, .ref m10, .ref m11, .ref m12, .ref m13])), (m10, .inl (cI, 3, .inl kx)), (m11, .inl (cI, 3, .inl ky))] sz)) 0 0 (va_A [(h0, .inr (9, [.ref m1, .ref m2, .ref m3, .int ik, .int wy, .int op, .int cl, .int cx0, .int cx1, .int cy0, .int cy1, .int ds, .ref m4, .ref m5, .ref m6, .ref m7, .ref m8, .ref m9, .int pn, .ref m10, .ref m11, .ref m12, .ref m13])), (m10, .inl (cI, 3, .inl kx)), (m11, .inl (cI, 3, .inl ky))] sz) := by
  refine Met.ofW (cc := cX9_isInTriangle) (maxL := 6) (ret := (some .boolean)) (by decide) rfl ?_
  intro p e s m args below meth c s₁ B hml hv
  obtain ⟨rfl, hsz, hP, hK, hD0, hN⟩ := hv
  have hx := B.exec
  have hb := B.bytes
  have hr := B.returns
  have hts0 := atoms_spec (ws := (wB yX9_isInTriangle cX9_isInTriangle 6 (some .boolean))) B.pre
  have hts : ∀ w ∈ bigW, w.before _ s = true := fun w h => hts0 w (List.mem_cons_of_mem _ h)
  have hown : s.vm.findClass RX9 = some m.cls := findClass_of_methodNamed B.named
  have hlocks := B.notSynchronized
  subst hsz
  have hD := hD0.self (sz := s.heap.size)
  generalize hAe : va_A [(h0, .inr (9, [.ref m1, .ref m2, .ref m3, .int ik, .int wy, .int op, .int cl, .int cx0, .int cx1, .int cy0, .int cy1, .int ds, .ref m4, .ref m5, .ref m6, .ref m7, .ref m8, .ref m9, .int pn, .ref m10, .ref m11, .ref m12, .ref m13])), (m10, .inl (cI, 3, .inl kx)), (m11, .inl (cI, 3, .inl ky))] s.heap.size = A at hD ⊢
  have hA : ∀ q : Nat, s.heap.size ≤ q → A q := fun q h => by rw [← hAe]; exact Or.inr h
  have hS : va_S A s.heap s.heap [] := va_S.rf
  have hP : va_P D vwCl [(h0, .inr (9, [.ref m1, .ref m2, .ref m3, .int ik, .int wy, .int op, .int cl, .int cx0, .int cx1, .int cy0, .int cy1, .int ds, .ref m4, .ref m5, .ref m6, .ref m7, .ref m8, .ref m9, .int pn, .ref m10, .ref m11, .ref m12, .ref m13])), (m10, .inl (cI, 3, .inl kx)), (m11, .inl (cI, 3, .inl ky))] s.heap := hP
  have hl := lv_entry ([.ref h0, .int u, .int v]) (n := 6) (Nat.le_of_ble_eq_true rfl)
  rw [lg_entry_eq]
  generalize (lg_sl ([.ref h0, .int u, .int v]) ++ List.replicate (6 - (lg_sl ([.ref h0, .int u, .int v])).length) Slot.unset).toArray = ls at hl ⊢
  have hl : lv_has ls 6 [(0, .ref h0), (1, .int u), (2, .int v)] := hl
  clear hts0 hD0 hAe
  refine my_abs (fun R Q hR hQ => ?_)
  refine lv_iconst (v := 0) hx hb dX9_isInTriangle_0 (by decide) ?_
  refine lv_istore_n (lv' := [(3, .int 0), (0, .ref h0), (1, .int u), (2, .int v)]) hx hb dX9_isInTriangle_1 rfl hl (by decide) rfl (fun ls hl => ?_)
  refine lv_iconst (v := 0) hx hb dX9_isInTriangle_2 (by decide) ?_
  refine lv_istore (lv' := [(4, .int 0), (3, .int 0), (0, .ref h0), (1, .int u), (2, .int v)]) hx hb dX9_isInTriangle_3 hl (by decide) rfl (fun ls hl => ?_)
  refine lv_iload hx hb dX9_isInTriangle_5 (lv_at hl 0 rfl) ?_
  refine lv_iconst (v := 3) hx hb dX9_isInTriangle_7 (by decide) ?_
  refine lv_icmp_ge (tgt := 75) hx hb dX9_isInTriangle_8 (by decide) (fun c_1 => ?_) (fun c_1 => ?_)
  · skip
    exact absurd c_1 (by decide)
  · skip
    refine lv_iload hx hb dX9_isInTriangle_11 (lv_at hl 0 rfl) ?_
    refine lv_iconst (v := 1) hx hb dX9_isInTriangle_13 (by decide) ?_
    refine lv_iadd hx hb dX9_isInTriangle_14 ?_
    refine my_fold (v := 1) (by decide) ?_
    refine lv_iconst (v := 3) hx hb dX9_isInTriangle_15 (by decide) ?_
    refine lv_irem hx hb dX9_isInTriangle_16 (by decide) ?_
    refine my_fold (v := 1) (by decide) ?_
    refine lv_istore (lv' := [(5, .int 1), (4, .int 0), (3, .int 0), (0, .ref h0), (1, .int u), (2, .int v)]) hx hb dX9_isInTriangle_17 hl (by decide) rfl (fun ls hl => ?_)
    refine lv_iload_n hx hb dX9_isInTriangle_19 rfl (lv_at hl 2 rfl) ?_
    refine lv_iconst (v := 2) hx hb dX9_isInTriangle_20 (by decide) ?_
    refine lv_aload_n hx hb dX9_isInTriangle_21 rfl (lv_at hl 3 rfl) ?_
    refine va_get (D := D) (ci := 9) (v := .ref m10) (C := RX9) (T := TX9) (N := 23) hx hb hts hi_X9 hown hK hP 0 rfl rfl 19 (by decide) (hts _ bw_410) (fun _ h9 => h9) rfl dX9_isInTriangle_22 ?_
    refine lv_iload hx hb dX9_isInTriangle_25 (lv_at hl 1 rfl) ?_
    refine va_iald hx hb hK hP 1 0 rfl rfl (my_in (by decide) (by decide)) dX9_isInTriangle_27 ?_
    refine my_fold (v := kx 0) (congrArg kx (by decide)) ?_
    refine lv_imul hx hb dX9_isInTriangle_28 ?_
    refine lv_topi (fun y_3 ey_3 => ?_)
    obtain ⟨y_4, ey_4⟩ : ∃ y : Int64, y = y_3.toInt64 := ⟨_, rfl⟩
    refine lv_i2l (v := y_4) hx hb dX9_isInTriangle_29 ey_4.symm ?_
    have hty_4 : y_4.toInt = y_3.toInt := by rw [ey_4]; exact Int32.toInt_toInt64 _
    refine lv_iconst (v := 2) hx hb dX9_isInTriangle_30 (by decide) ?_
    refine lv_aload_n hx hb dX9_isInTriangle_31 rfl (lv_at hl 3 rfl) ?_
    refine va_get (D := D) (ci := 9) (v := .ref m11) (C := RX9) (T := TX9) (N := 23) hx hb hts hi_X9 hown hK hP 0 rfl rfl 20 (by decide) (hts _ bw_411) (fun _ h9 => h9) rfl dX9_isInTriangle_32 ?_
    refine lv_iload hx hb dX9_isInTriangle_35 (lv_at hl 1 rfl) ?_
    refine va_iald hx hb hK hP 2 0 rfl rfl (my_in (by decide) (by decide)) dX9_isInTriangle_37 ?_
    refine my_fold (v := ky 0) (congrArg ky (by decide)) ?_
    refine lv_imul hx hb dX9_isInTriangle_38 ?_
    refine lv_topi (fun y_5 ey_5 => ?_)
    obtain ⟨y_6, ey_6⟩ : ∃ y : Int64, y = y_5.toInt64 := ⟨_, rfl⟩
    refine lv_i2l (v := y_6) hx hb dX9_isInTriangle_39 ey_6.symm ?_
    have hty_6 : y_6.toInt = y_5.toInt := by rw [ey_6]; exact Int32.toInt_toInt64 _
    refine lv_iconst (v := 2) hx hb dX9_isInTriangle_40 (by decide) ?_
    refine lv_aload_n hx hb dX9_isInTriangle_41 rfl (lv_at hl 3 rfl) ?_
    refine va_get (D := D) (ci := 9) (v := .ref m10) (C := RX9) (T := TX9) (N := 23) hx hb hts hi_X9 hown hK hP 0 rfl rfl 19 (by decide) (hts _ bw_410) (fun _ h9 => h9) rfl dX9_isInTriangle_42 ?_
    refine lv_iload hx hb dX9_isInTriangle_45 (lv_at hl 0 rfl) ?_
    refine va_iald hx hb hK hP 1 0 rfl rfl (my_in (by decide) (by decide)) dX9_isInTriangle_47 ?_
    refine my_fold (v := kx 1) (congrArg kx (by decide)) ?_
    refine lv_imul hx hb dX9_isInTriangle_48 ?_
    refine lv_topi (fun y_7 ey_7 => ?_)
    obtain ⟨y_8, ey_8⟩ : ∃ y : Int64, y = y_7.toInt64 := ⟨_, rfl⟩
    refine lv_i2l (v := y_8) hx hb dX9_isInTriangle_49 ey_8.symm ?_
    have hty_8 : y_8.toInt = y_7.toInt := by rw [ey_8]; exact Int32.toInt_toInt64 _
    refine lv_iconst (v := 2) hx hb dX9_isInTriangle_50 (by decide) ?_
    refine lv_aload_n hx hb dX9_isInTriangle_51 rfl (lv_at hl 3 rfl) ?_
    refine va_get (D := D) (ci := 9) (v := .ref m11) (C := RX9) (T := TX9) (N := 23) hx hb hts hi_X9 hown hK hP 0 rfl rfl 20 (by decide) (hts _ bw_411) (fun _ h9 => h9) rfl dX9_isInTriangle_52 ?_
    refine lv_iload hx hb dX9_isInTriangle_55 (lv_at hl 0 rfl) ?_
    refine va_iald hx hb hK hP 2 0 rfl rfl (my_in (by decide) (by decide)) dX9_isInTriangle_57 ?_
    refine my_fold (v := ky 1) (congrArg ky (by decide)) ?_
    refine lv_imul hx hb dX9_isInTriangle_58 ?_
    refine lv_topi (fun y_9 ey_9 => ?_)
    obtain ⟨y_10, ey_10⟩ : ∃ y : Int64, y = y_9.toInt64 := ⟨_, rfl⟩
    refine lv_i2l (v := y_10) hx hb dX9_isInTriangle_59 ey_10.symm ?_
    have hty_10 : y_10.toInt = y_9.toInt := by rw [ey_10]; exact Int32.toInt_toInt64 _
    refine lv_iload_n hx hb dX9_isInTriangle_60 rfl (lv_at hl 4 rfl) ?_
    obtain ⟨y_11, ey_11⟩ : ∃ y : Int64, y = u.toInt64 := ⟨_, rfl⟩
    refine lv_i2l (v := y_11) hx hb dX9_isInTriangle_61 ey_11.symm ?_
    have hty_11 : y_11.toInt = u.toInt := by rw [ey_11]; exact Int32.toInt_toInt64 _
    refine lv_iload_n hx hb dX9_isInTriangle_62 rfl (lv_at hl 5 rfl) ?_
    obtain ⟨y_12, ey_12⟩ : ∃ y : Int64, y = v.toInt64 := ⟨_, rfl⟩
    refine lv_i2l (v := y_12) hx hb dX9_isInTriangle_63 ey_12.symm ?_
    have hty_12 : y_12.toInt = v.toInt := by rw [ey_12]; exact Int32.toInt_toInt64 _
    have hPc := hP.sub (ws' := []) [] rfl
    have hDc := hD.sub (ws' := []) [] (by decide) rfl
    have hKc := hK.sub (tys' := []) [] rfl
    have hFc := va_free (wc := []) hD hS hA [] rfl
    refine va_calli (va_runS (As := [.long y_4, .long y_6, .long y_8, .long y_10, .long y_11, .long y_12]) (rest := [.int 0]) ⟨hx, hb, hml, hown, hts⟩ (k_X9_edge l D s.heap.size y_4 y_6 y_8 y_10 y_11 y_12 (by rw [hty_4, ey_3]; exact c2_bd (htb 0 (by omega)).1) (by rw [hty_6, ey_5]; exact c2_bd (htb 0 (by omega)).2) (by rw [hty_8, ey_7]; exact c2_bd (htb 1 (by omega)).1) (by rw [hty_10, ey_9]; exact c2_bd (htb 1 (by omega)).2) (by rw [hty_11]; exact i32b _) (by rw [hty_12]; exact i32b _)) (va_cwS 6 hts (gS bw_515 bw_511 bw_391 bw_510) rfl rfl rfl (by decide +kernel) ⟨(by rw [hR]; exact Nat.le_of_ble_eq_true rfl), (by rw [hR]; exact Nat.le_of_ble_eq_true rfl)⟩) ⟨cP_blind, cP_at hPc hKc hDc hN⟩ rfl rfl hl.1 rfl (lv_room (Nat.le_of_ble_eq_true rfl)) dX9_isInTriangle_64 ⟨(by rw [hR]; exact Nat.le_of_ble_eq_true rfl), (by rw [hR]; exact Nat.le_of_ble_eq_true rfl)⟩) hS (fun q _ h => hFc q h) hFc (fun r_13 u9 t9 H1 locs ht hvm hr_13 hB hz1 hk1 hS => ?_)
    try dsimp only at hr_13
    have hP1 : va_P D vwCl [] H1 := vP_nil
    have hD1 : va_D (va_A [] s.heap.size) [] := vD_nil
    obtain ⟨hP, hD⟩ := va_join (wr := [(h0, .inr (9, [.ref m1, .ref m2, .ref m3, .int ik, .int wy, .int op, .int cl, .int cx0, .int cx1, .int cy0, .int cy1, .int ds, .ref m4, .ref m5, .ref m6, .ref m7, .ref m8, .ref m9, .int pn, .ref m10, .ref m11, .ref m12, .ref m13])), (m10, .inl (cI, 3, .inl kx)), (m11, .inl (cI, 3, .inl ky))]) (w1 := []) hP hD [] [0, 1, 2] rfl rfl (by decide) (by decide) hk1 hFc hP1 hD1
    clear hz1 hk1 hFc hKc hDc hPc
    generalize H1 = H at hP hS ⊢
    have hP : va_P D vwCl [(h0, .inr (9, [.ref m1, .ref m2, .ref m3, .int ik, .int wy, .int op, .int cl, .int cx0, .int cx1, .int cy0, .int cy1, .int ds, .ref m4, .ref m5, .ref m6, .ref m7, .ref m8, .ref m9, .int pn, .ref m10, .ref m11, .ref m12, .ref m13])), (m10, .inl (cI, 3, .inl kx)), (m11, .inl (cI, 3, .inl ky))] H := hP
    have hD : va_D A [(h0, .inr (9, [.ref m1, .ref m2, .ref m3, .int ik, .int wy, .int op, .int cl, .int cx0, .int cx1, .int cy0, .int cy1, .int ds, .ref m4, .ref m5, .ref m6, .ref m7, .ref m8, .ref m9, .int pn, .ref m10, .ref m11, .ref m12, .ref m13])), (m10, .inl (cI, 3, .inl kx)), (m11, .inl (cI, 3, .inl ky))] := hD
    have hqr_13 : r_13 = tgE kx ky 0 1 u v := by rw [hr_13, hty_4, hty_6, hty_8, hty_10, hty_11, hty_12, ey_3, ey_5, ey_7, ey_9]; rfl
    refine lv_iadd hx hb dX9_isInTriangle_67 ?_
    refine lv_topi (fun y_14 ey_14 => ?_)
    refine lv_istore_n (lv' := [(3, .int y_14), (5, .int 1), (4, .int 0), (0, .ref h0), (1, .int u), (2, .int v)]) hx hb dX9_isInTriangle_68 rfl hl (by decide) rfl (fun ls hl => ?_)
    refine lv_iinc (v := 1) (lv' := [(4, .int 1), (3, .int y_14), (5, .int 1), (0, .ref h0), (1, .int u), (2, .int v)]) hx hb dX9_isInTriangle_69 hl (k := 2) rfl (by decide) (by decide) rfl (fun ls hl => ?_)
    refine lv_goto (tgt := 5) hx hb dX9_isInTriangle_72 (by decide) ?_
    refine lv_iload hx hb dX9_isInTriangle_5 (lv_at hl 0 rfl) ?_
    refine lv_iconst (v := 3) hx hb dX9_isInTriangle_7 (by decide) ?_
    refine lv_icmp_ge (tgt := 75) hx hb dX9_isInTriangle_8 (by decide) (fun c_15 => ?_) (fun c_15 => ?_)
    · skip
      exact absurd c_15 (by decide)
    · skip
      refine lv_iload hx hb dX9_isInTriangle_11 (lv_at hl 0 rfl) ?_
      refine lv_iconst (v := 1) hx hb dX9_isInTriangle_13 (by decide) ?_
      refine lv_iadd hx hb dX9_isInTriangle_14 ?_
      refine my_fold (v := 2) (by decide) ?_
      refine lv_iconst (v := 3) hx hb dX9_isInTriangle_15 (by decide) ?_
      refine lv_irem hx hb dX9_isInTriangle_16 (by decide) ?_
      refine my_fold (v := 2) (by decide) ?_
      refine lv_istore (lv' := [(5, .int 2), (4, .int 1), (3, .int y_14), (0, .ref h0), (1, .int u), (2, .int v)]) hx hb dX9_isInTriangle_17 hl (by decide) rfl (fun ls hl => ?_)
      refine lv_iload_n hx hb dX9_isInTriangle_19 rfl (lv_at hl 2 rfl) ?_
      refine lv_iconst (v := 2) hx hb dX9_isInTriangle_20 (by decide) ?_
      refine lv_aload_n hx hb dX9_isInTriangle_21 rfl (lv_at hl 3 rfl) ?_
      refine va_get (D := D) (ci := 9) (v := .ref m10) (C := RX9) (T := TX9) (N := 23) hx hb hts hi_X9 hown hK hP 0 rfl rfl 19 (by decide) (hts _ bw_410) (fun _ h9 => h9) rfl dX9_isInTriangle_22 ?_
      refine lv_iload hx hb dX9_isInTriangle_25 (lv_at hl 1 rfl) ?_
      refine va_iald hx hb hK hP 1 0 rfl rfl (my_in (by decide) (by decide)) dX9_isInTriangle_27 ?_
      refine my_fold (v := kx 1) (congrArg kx (by decide)) ?_
      refine lv_imul hx hb dX9_isInTriangle_28 ?_
      refine lv_topi (fun y_17 ey_17 => ?_)
      obtain ⟨y_18, ey_18⟩ : ∃ y : Int64, y = y_17.toInt64 := ⟨_, rfl⟩
      refine lv_i2l (v := y_18) hx hb dX9_isInTriangle_29 ey_18.symm ?_
      have hty_18 : y_18.toInt = y_17.toInt := by rw [ey_18]; exact Int32.toInt_toInt64 _
      refine lv_iconst (v := 2) hx hb dX9_isInTriangle_30 (by decide) ?_
      refine lv_aload_n hx hb dX9_isInTriangle_31 rfl (lv_at hl 3 rfl) ?_
      refine va_get (D := D) (ci := 9) (v := .ref m11) (C := RX9) (T := TX9) (N := 23) hx hb hts hi_X9 hown hK hP 0 rfl rfl 20 (by decide) (hts _ bw_411) (fun _ h9 => h9) rfl dX9_isInTriangle_32 ?_
      refine lv_iload hx hb dX9_isInTriangle_35 (lv_at hl 1 rfl) ?_
      refine va_iald hx hb hK hP 2 0 rfl rfl (my_in (by decide) (by decide)) dX9_isInTriangle_37 ?_
      refine my_fold (v := ky 1) (congrArg ky (by decide)) ?_
      refine lv_imul hx hb dX9_isInTriangle_38 ?_
      refine lv_topi (fun y_19 ey_19 => ?_)
      obtain ⟨y_20, ey_20⟩ : ∃ y : Int64, y = y_19.toInt64 := ⟨_, rfl⟩
      refine lv_i2l (v := y_20) hx hb dX9_isInTriangle_39 ey_20.symm ?_
      have hty_20 : y_20.toInt = y_19.toInt := by rw [ey_20]; exact Int32.toInt_toInt64 _
      refine lv_iconst (v := 2) hx hb dX9_isInTriangle_40 (by decide) ?_
      refine lv_aload_n hx hb dX9_isInTriangle_41 rfl (lv_at hl 3 rfl) ?_
      refine va_get (D := D) (ci := 9) (v := .ref m10) (C := RX9) (T := TX9) (N := 23) hx hb hts hi_X9 hown hK hP 0 rfl rfl 19 (by decide) (hts _ bw_410) (fun _ h9 => h9) rfl dX9_isInTriangle_42 ?_
      refine lv_iload hx hb dX9_isInTriangle_45 (lv_at hl 0 rfl) ?_
      refine va_iald hx hb hK hP 1 0 rfl rfl (my_in (by decide) (by decide)) dX9_isInTriangle_47 ?_
      refine my_fold (v := kx 2) (congrArg kx (by decide)) ?_
      refine lv_imul hx hb dX9_isInTriangle_48 ?_
      refine lv_topi (fun y_21 ey_21 => ?_)
      obtain ⟨y_22, ey_22⟩ : ∃ y : Int64, y = y_21.toInt64 := ⟨_, rfl⟩
      refine lv_i2l (v := y_22) hx hb dX9_isInTriangle_49 ey_22.symm ?_
      have hty_22 : y_22.toInt = y_21.toInt := by rw [ey_22]; exact Int32.toInt_toInt64 _
      refine lv_iconst (v := 2) hx hb dX9_isInTriangle_50 (by decide) ?_
      refine lv_aload_n hx hb dX9_isInTriangle_51 rfl (lv_at hl 3 rfl) ?_
      refine va_get (D := D) (ci := 9) (v := .ref m11) (C := RX9) (T := TX9) (N := 23) hx hb hts hi_X9 hown hK hP 0 rfl rfl 20 (by decide) (hts _ bw_411) (fun _ h9 => h9) rfl dX9_isInTriangle_52 ?_
      refine lv_iload hx hb dX9_isInTriangle_55 (lv_at hl 0 rfl) ?_
      refine va_iald hx hb hK hP 2 0 rfl rfl (my_in (by decide) (by decide)) dX9_isInTriangle_57 ?_
      refine my_fold (v := ky 2) (congrArg ky (by decide)) ?_
      refine lv_imul hx hb dX9_isInTriangle_58 ?_
      refine lv_topi (fun y_23 ey_23 => ?_)
      obtain ⟨y_24, ey_24⟩ : ∃ y : Int64, y = y_23.toInt64 := ⟨_, rfl⟩
      refine lv_i2l (v := y_24) hx hb dX9_isInTriangle_59 ey_24.symm ?_
      have hty_24 : y_24.toInt = y_23.toInt := by rw [ey_24]; exact Int32.toInt_toInt64 _
      refine lv_iload_n hx hb dX9_isInTriangle_60 rfl (lv_at hl 4 rfl) ?_
      obtain ⟨y_25, ey_25⟩ : ∃ y : Int64, y = u.toInt64 := ⟨_, rfl⟩
      refine lv_i2l (v := y_25) hx hb dX9_isInTriangle_61 ey_25.symm ?_
      have hty_25 : y_25.toInt = u.toInt := by rw [ey_25]; exact Int32.toInt_toInt64 _
      refine lv_iload_n hx hb dX9_isInTriangle_62 rfl (lv_at hl 5 rfl) ?_
      obtain ⟨y_26, ey_26⟩ : ∃ y : Int64, y = v.toInt64 := ⟨_, rfl⟩
      refine lv_i2l (v := y_26) hx hb dX9_isInTriangle_63 ey_26.symm ?_
      have hty_26 : y_26.toInt = v.toInt := by rw [ey_26]; exact Int32.toInt_toInt64 _
      have hPc := hP.sub (ws' := []) [] rfl
      have hDc := hD.sub (ws' := []) [] (by decide) rfl
      have hKc := hK.sub (tys' := []) [] rfl
      have hFc := va_free (wc := []) hD hS hA [] rfl
      refine va_calli (va_runS (As := [.long y_18, .long y_20, .long y_22, .long y_24, .long y_25, .long y_26]) (rest := [.int y_14]) ⟨hx, hb, hml, hown, hts⟩ (k_X9_edge l D H.size y_18 y_20 y_22 y_24 y_25 y_26 (by rw [hty_18, ey_17]; exact c2_bd (htb 1 (by omega)).1) (by rw [hty_20, ey_19]; exact c2_bd (htb 1 (by omega)).2) (by rw [hty_22, ey_21]; exact c2_bd (htb 2 (by omega)).1) (by rw [hty_24, ey_23]; exact c2_bd (htb 2 (by omega)).2) (by rw [hty_25]; exact i32b _) (by rw [hty_26]; exact i32b _)) (va_cwS 6 hts (gS bw_515 bw_511 bw_391 bw_510) rfl rfl rfl (by decide +kernel) ⟨(by rw [hR]; exact Nat.le_of_ble_eq_true rfl), (by rw [hR]; exact Nat.le_of_ble_eq_true rfl)⟩) ⟨cP_blind, cP_at hPc hKc hDc hN⟩ rfl rfl hl.1 rfl (lv_room (Nat.le_of_ble_eq_true rfl)) dX9_isInTriangle_64 ⟨(by rw [hR]; exact Nat.le_of_ble_eq_true rfl), (by rw [hR]; exact Nat.le_of_ble_eq_true rfl)⟩) hS (fun q _ h => hFc q h) hFc (fun r_27 u9 t9 H1 locs ht hvm hr_27 hB hz1 hk1 hS => ?_)
      try dsimp only at hr_27
      have hP1 : va_P D vwCl [] H1 := vP_nil
      have hD1 : va_D (va_A [] H.size) [] := vD_nil
      obtain ⟨hP, hD⟩ := va_join (wr := [(h0, .inr (9, [.ref m1, .ref m2, .ref m3, .int ik, .int wy, .int op, .int cl, .int cx0, .int cx1, .int cy0, .int cy1, .int ds, .ref m4, .ref m5, .ref m6, .ref m7, .ref m8, .ref m9, .int pn, .ref m10, .ref m11, .ref m12, .ref m13])), (m10, .inl (cI, 3, .inl kx)), (m11, .inl (cI, 3, .inl ky))]) (w1 := []) hP hD [] [0, 1, 2] rfl rfl (by decide) (by decide) hk1 hFc hP1 hD1
      clear hz1 hk1 hFc hKc hDc hPc
      generalize H1 = H at hP hS ⊢
      have hP : va_P D vwCl [(h0, .inr (9, [.ref m1, .ref m2, .ref m3, .int ik, .int wy, .int op, .int cl, .int cx0, .int cx1, .int cy0, .int cy1, .int ds, .ref m4, .ref m5, .ref m6, .ref m7, .ref m8, .ref m9, .int pn, .ref m10, .ref m11, .ref m12, .ref m13])), (m10, .inl (cI, 3, .inl kx)), (m11, .inl (cI, 3, .inl ky))] H := hP
      have hD : va_D A [(h0, .inr (9, [.ref m1, .ref m2, .ref m3, .int ik, .int wy, .int op, .int cl, .int cx0, .int cx1, .int cy0, .int cy1, .int ds, .ref m4, .ref m5, .ref m6, .ref m7, .ref m8, .ref m9, .int pn, .ref m10, .ref m11, .ref m12, .ref m13])), (m10, .inl (cI, 3, .inl kx)), (m11, .inl (cI, 3, .inl ky))] := hD
      have hqr_27 : r_27 = tgE kx ky 1 2 u v := by rw [hr_27, hty_18, hty_20, hty_22, hty_24, hty_25, hty_26, ey_17, ey_19, ey_21, ey_23]; rfl
      refine lv_iadd hx hb dX9_isInTriangle_67 ?_
      refine lv_topi (fun y_28 ey_28 => ?_)
      refine lv_istore_n (lv' := [(3, .int y_28), (5, .int 2), (4, .int 1), (0, .ref h0), (1, .int u), (2, .int v)]) hx hb dX9_isInTriangle_68 rfl hl (by decide) rfl (fun ls hl => ?_)
      refine lv_iinc (v := 2) (lv' := [(4, .int 2), (3, .int y_28), (5, .int 2), (0, .ref h0), (1, .int u), (2, .int v)]) hx hb dX9_isInTriangle_69 hl (k := 2) rfl (by decide) (by decide) rfl (fun ls hl => ?_)
      refine lv_goto (tgt := 5) hx hb dX9_isInTriangle_72 (by decide) ?_
      refine lv_iload hx hb dX9_isInTriangle_5 (lv_at hl 0 rfl) ?_
      refine lv_iconst (v := 3) hx hb dX9_isInTriangle_7 (by decide) ?_
      refine lv_icmp_ge (tgt := 75) hx hb dX9_isInTriangle_8 (by decide) (fun c_29 => ?_) (fun c_29 => ?_)
      · skip
        exact absurd c_29 (by decide)
      · skip
        refine lv_iload hx hb dX9_isInTriangle_11 (lv_at hl 0 rfl) ?_
        refine lv_iconst (v := 1) hx hb dX9_isInTriangle_13 (by decide) ?_
        refine lv_iadd hx hb dX9_isInTriangle_14 ?_
        refine my_fold (v := 3) (by decide) ?_
        refine lv_iconst (v := 3) hx hb dX9_isInTriangle_15 (by decide) ?_
        refine lv_irem hx hb dX9_isInTriangle_16 (by decide) ?_
        refine my_fold (v := 0) (by decide) ?_
        refine lv_istore (lv' := [(5, .int 0), (4, .int 2), (3, .int y_28), (0, .ref h0), (1, .int u), (2, .int v)]) hx hb dX9_isInTriangle_17 hl (by decide) rfl (fun ls hl => ?_)
        refine lv_iload_n hx hb dX9_isInTriangle_19 rfl (lv_at hl 2 rfl) ?_
        refine lv_iconst (v := 2) hx hb dX9_isInTriangle_20 (by decide) ?_
        refine lv_aload_n hx hb dX9_isInTriangle_21 rfl (lv_at hl 3 rfl) ?_
        refine va_get (D := D) (ci := 9) (v := .ref m10) (C := RX9) (T := TX9) (N := 23) hx hb hts hi_X9 hown hK hP 0 rfl rfl 19 (by decide) (hts _ bw_410) (fun _ h9 => h9) rfl dX9_isInTriangle_22 ?_
        refine lv_iload hx hb dX9_isInTriangle_25 (lv_at hl 1 rfl) ?_
        refine va_iald hx hb hK hP 1 0 rfl rfl (my_in (by decide) (by decide)) dX9_isInTriangle_27 ?_
        refine my_fold (v := kx 2) (congrArg kx (by decide)) ?_
        refine lv_imul hx hb dX9_isInTriangle_28 ?_
        refine lv_topi (fun y_31 ey_31 => ?_)
        obtain ⟨y_32, ey_32⟩ : ∃ y : Int64, y = y_31.toInt64 := ⟨_, rfl⟩
        refine lv_i2l (v := y_32) hx hb dX9_isInTriangle_29 ey_32.symm ?_
        have hty_32 : y_32.toInt = y_31.toInt := by rw [ey_32]; exact Int32.toInt_toInt64 _
        refine lv_iconst (v := 2) hx hb dX9_isInTriangle_30 (by decide) ?_
        refine lv_aload_n hx hb dX9_isInTriangle_31 rfl (lv_at hl 3 rfl) ?_
        refine va_get (D := D) (ci := 9) (v := .ref m11) (C := RX9) (T := TX9) (N := 23) hx hb hts hi_X9 hown hK hP 0 rfl rfl 20 (by decide) (hts _ bw_411) (fun _ h9 => h9) rfl dX9_isInTriangle_32 ?_
        refine lv_iload hx hb dX9_isInTriangle_35 (lv_at hl 1 rfl) ?_
        refine va_iald hx hb hK hP 2 0 rfl rfl (my_in (by decide) (by decide)) dX9_isInTriangle_37 ?_
        refine my_fold (v := ky 2) (congrArg ky (by decide)) ?_
        refine lv_imul hx hb dX9_isInTriangle_38 ?_
        refine lv_topi (fun y_33 ey_33 => ?_)
        obtain ⟨y_34, ey_34⟩ : ∃ y : Int64, y = y_33.toInt64 := ⟨_, rfl⟩
        refine lv_i2l (v := y_34) hx hb dX9_isInTriangle_39 ey_34.symm ?_
        have hty_34 : y_34.toInt = y_33.toInt := by rw [ey_34]; exact Int32.toInt_toInt64 _
        refine lv_iconst (v := 2) hx hb dX9_isInTriangle_40 (by decide) ?_
        refine lv_aload_n hx hb dX9_isInTriangle_41 rfl (lv_at hl 3 rfl) ?_
        refine va_get (D := D) (ci := 9) (v := .ref m10) (C := RX9) (T := TX9) (N := 23) hx hb hts hi_X9 hown hK hP 0 rfl rfl 19 (by decide) (hts _ bw_410) (fun _ h9 => h9) rfl dX9_isInTriangle_42 ?_
        refine lv_iload hx hb dX9_isInTriangle_45 (lv_at hl 0 rfl) ?_
        refine va_iald hx hb hK hP 1 0 rfl rfl (my_in (by decide) (by decide)) dX9_isInTriangle_47 ?_
        refine my_fold (v := kx 0) (congrArg kx (by decide)) ?_
        refine lv_imul hx hb dX9_isInTriangle_48 ?_
        refine lv_topi (fun y_35 ey_35 => ?_)
        obtain ⟨y_36, ey_36⟩ : ∃ y : Int64, y = y_35.toInt64 := ⟨_, rfl⟩
        refine lv_i2l (v := y_36) hx hb dX9_isInTriangle_49 ey_36.symm ?_
        have hty_36 : y_36.toInt = y_35.toInt := by rw [ey_36]; exact Int32.toInt_toInt64 _
        refine lv_iconst (v := 2) hx hb dX9_isInTriangle_50 (by decide) ?_
        refine lv_aload_n hx hb dX9_isInTriangle_51 rfl (lv_at hl 3 rfl) ?_
        refine va_get (D := D) (ci := 9) (v := .ref m11) (C := RX9) (T := TX9) (N := 23) hx hb hts hi_X9 hown hK hP 0 rfl rfl 20 (by decide) (hts _ bw_411) (fun _ h9 => h9) rfl dX9_isInTriangle_52 ?_
        refine lv_iload hx hb dX9_isInTriangle_55 (lv_at hl 0 rfl) ?_
        refine va_iald hx hb hK hP 2 0 rfl rfl (my_in (by decide) (by decide)) dX9_isInTriangle_57 ?_
        refine my_fold (v := ky 0) (congrArg ky (by decide)) ?_
        refine lv_imul hx hb dX9_isInTriangle_58 ?_
        refine lv_topi (fun y_37 ey_37 => ?_)
        obtain ⟨y_38, ey_38⟩ : ∃ y : Int64, y = y_37.toInt64 := ⟨_, rfl⟩
        refine lv_i2l (v := y_38) hx hb dX9_isInTriangle_59 ey_38.symm ?_
        have hty_38 : y_38.toInt = y_37.toInt := by rw [ey_38]; exact Int32.toInt_toInt64 _
        refine lv_iload_n hx hb dX9_isInTriangle_60 rfl (lv_at hl 4 rfl) ?_
        obtain ⟨y_39, ey_39⟩ : ∃ y : Int64, y = u.toInt64 := ⟨_, rfl⟩
        refine lv_i2l (v := y_39) hx hb dX9_isInTriangle_61 ey_39.symm ?_
        have hty_39 : y_39.toInt = u.toInt := by rw [ey_39]; exact Int32.toInt_toInt64 _
        refine lv_iload_n hx hb dX9_isInTriangle_62 rfl (lv_at hl 5 rfl) ?_
        obtain ⟨y_40, ey_40⟩ : ∃ y : Int64, y = v.toInt64 := ⟨_, rfl⟩
        refine lv_i2l (v := y_40) hx hb dX9_isInTriangle_63 ey_40.symm ?_
        have hty_40 : y_40.toInt = v.toInt := by rw [ey_40]; exact Int32.toInt_toInt64 _
        have hPc := hP.sub (ws' := []) [] rfl
        have hDc := hD.sub (ws' := []) [] (by decide) rfl
        have hKc := hK.sub (tys' := []) [] rfl
        have hFc := va_free (wc := []) hD hS hA [] rfl
        refine va_calli (va_runS (As := [.long y_32, .long y_34, .long y_36, .long y_38, .long y_39, .long y_40]) (rest := [.int y_28]) ⟨hx, hb, hml, hown, hts⟩ (k_X9_edge l D H.size y_32 y_34 y_36 y_38 y_39 y_40 (by rw [hty_32, ey_31]; exact c2_bd (htb 2 (by omega)).1) (by rw [hty_34, ey_33]; exact c2_bd (htb 2 (by omega)).2) (by rw [hty_36, ey_35]; exact c2_bd (htb 0 (by omega)).1) (by rw [hty_38, ey_37]; exact c2_bd (htb 0 (by omega)).2) (by rw [hty_39]; exact i32b _) (by rw [hty_40]; exact i32b _)) (va_cwS 6 hts (gS bw_515 bw_511 bw_391 bw_510) rfl rfl rfl (by decide +kernel) ⟨(by rw [hR]; exact Nat.le_of_ble_eq_true rfl), (by rw [hR]; exact Nat.le_of_ble_eq_true rfl)⟩) ⟨cP_blind, cP_at hPc hKc hDc hN⟩ rfl rfl hl.1 rfl (lv_room (Nat.le_of_ble_eq_true rfl)) dX9_isInTriangle_64 ⟨(by rw [hR]; exact Nat.le_of_ble_eq_true rfl), (by rw [hR]; exact Nat.le_of_ble_eq_true rfl)⟩) hS (fun q _ h => hFc q h) hFc (fun r_41 u9 t9 H1 locs ht hvm hr_41 hB hz1 hk1 hS => ?_)
        try dsimp only at hr_41
        have hP1 : va_P D vwCl [] H1 := vP_nil
        have hD1 : va_D (va_A [] H.size) [] := vD_nil
        obtain ⟨hP, hD⟩ := va_join (wr := [(h0, .inr (9, [.ref m1, .ref m2, .ref m3, .int ik, .int wy, .int op, .int cl, .int cx0, .int cx1, .int cy0, .int cy1, .int ds, .ref m4, .ref m5, .ref m6, .ref m7, .ref m8, .ref m9, .int pn, .ref m10, .ref m11, .ref m12, .ref m13])), (m10, .inl (cI, 3, .inl kx)), (m11, .inl (cI, 3, .inl ky))]) (w1 := []) hP hD [] [0, 1, 2] rfl rfl (by decide) (by decide) hk1 hFc hP1 hD1
        clear hz1 hk1 hFc hKc hDc hPc
        generalize H1 = H at hP hS ⊢
        have hP : va_P D vwCl [(h0, .inr (9, [.ref m1, .ref m2, .ref m3, .int ik, .int wy, .int op, .int cl, .int cx0, .int cx1, .int cy0, .int cy1, .int ds, .ref m4, .ref m5, .ref m6, .ref m7, .ref m8, .ref m9, .int pn, .ref m10, .ref m11, .ref m12, .ref m13])), (m10, .inl (cI, 3, .inl kx)), (m11, .inl (cI, 3, .inl ky))] H := hP
        have hD : va_D A [(h0, .inr (9, [.ref m1, .ref m2, .ref m3, .int ik, .int wy, .int op, .int cl, .int cx0, .int cx1, .int cy0, .int cy1, .int ds, .ref m4, .ref m5, .ref m6, .ref m7, .ref m8, .ref m9, .int pn, .ref m10, .ref m11, .ref m12, .ref m13])), (m10, .inl (cI, 3, .inl kx)), (m11, .inl (cI, 3, .inl ky))] := hD
        have hqr_41 : r_41 = tgE kx ky 2 0 u v := by rw [hr_41, hty_32, hty_34, hty_36, hty_38, hty_39, hty_40, ey_31, ey_33, ey_35, ey_37]; rfl
        refine lv_iadd hx hb dX9_isInTriangle_67 ?_
        refine lv_topi (fun y_42 ey_42 => ?_)
        refine lv_istore_n (lv' := [(3, .int y_42), (5, .int 0), (4, .int 2), (0, .ref h0), (1, .int u), (2, .int v)]) hx hb dX9_isInTriangle_68 rfl hl (by decide) rfl (fun ls hl => ?_)
        refine lv_iinc (v := 3) (lv' := [(4, .int 3), (3, .int y_42), (5, .int 0), (0, .ref h0), (1, .int u), (2, .int v)]) hx hb dX9_isInTriangle_69 hl (k := 2) rfl (by decide) (by decide) rfl (fun ls hl => ?_)
        refine lv_goto (tgt := 5) hx hb dX9_isInTriangle_72 (by decide) ?_
        refine lv_iload hx hb dX9_isInTriangle_5 (lv_at hl 0 rfl) ?_
        refine lv_iconst (v := 3) hx hb dX9_isInTriangle_7 (by decide) ?_
        refine lv_icmp_ge (tgt := 75) hx hb dX9_isInTriangle_8 (by decide) (fun c_43 => ?_) (fun c_43 => ?_)
        · skip
          refine lv_iload_n hx hb dX9_isInTriangle_75 rfl (lv_at hl 1 rfl) ?_
          refine lv_if_eq (tgt := 83) hx hb dX9_isInTriangle_76 (by decide) (fun c_45 => ?_) (fun c_45 => ?_)
          · skip
            have f_46 : y_42.toInt = 0 := f_eq rfl (by decide) c_45
            have hTG : tgS kx ky u v = y_42 := by rw [ey_42, ey_28, ey_14, hqr_13, hqr_27, hqr_41]; rfl
            refine lv_iconst (v := 0) hx hb dX9_isInTriangle_83 (by decide) ?_
            have hP9 := hP.sub (ws' := [(h0, .inr (9, [.ref m1, .ref m2, .ref m3, .int ik, .int wy, .int op, .int cl, .int cx0, .int cx1, .int cy0, .int cy1, .int ds, .ref m4, .ref m5, .ref m6, .ref m7, .ref m8, .ref m9, .int pn, .ref m10, .ref m11, .ref m12, .ref m13])), (m10, .inl (cI, 3, .inl kx)), (m11, .inl (cI, 3, .inl ky))]) [0, 1, 2] rfl
            have hD9 := hD.sub (ws' := [(h0, .inr (9, [.ref m1, .ref m2, .ref m3, .int ik, .int wy, .int op, .int cl, .int cx0, .int cx1, .int cy0, .int cy1, .int ds, .ref m4, .ref m5, .ref m6, .ref m7, .ref m8, .ref m9, .int pn, .ref m10, .ref m11, .ref m12, .ref m13])), (m10, .inl (cI, 3, .inl kx)), (m11, .inl (cI, 3, .inl ky))]) [0, 1, 2] (by decide) rfl
            have hK9 := hK.sub (tys' := [(cI, .int)]) [0] rfl
            refine hQ _ _ _ _ _ ?_
            exact W.zret (v := 0) hx hb hr rfl (fun t ht hW => ⟨⟨0, (), rfl, (if_neg (by rw [hTG]; exact fun q => q c_45)).symm, ⟨by rw [ht]; exact hP9, va_K.moved hW.alike hK9, hD9⟩⟩, hS.F ht⟩) hS.2.2 dX9_isInTriangle_84
          · skip
            have f_46 : ¬ (y_42.toInt = 0) := fn_eq rfl (by decide) c_45
            have hTG : tgS kx ky u v = y_42 := by rw [ey_42, ey_28, ey_14, hqr_13, hqr_27, hqr_41]; rfl
            refine lv_iconst (v := 1) hx hb dX9_isInTriangle_79 (by decide) ?_
            refine lv_goto (tgt := 84) hx hb dX9_isInTriangle_80 (by decide) ?_
            have hP9 := hP.sub (ws' := [(h0, .inr (9, [.ref m1, .ref m2, .ref m3, .int ik, .int wy, .int op, .int cl, .int cx0, .int cx1, .int cy0, .int cy1, .int ds, .ref m4, .ref m5, .ref m6, .ref m7, .ref m8, .ref m9, .int pn, .ref m10, .ref m11, .ref m12, .ref m13])), (m10, .inl (cI, 3, .inl kx)), (m11, .inl (cI, 3, .inl ky))]) [0, 1, 2] rfl
            have hD9 := hD.sub (ws' := [(h0, .inr (9, [.ref m1, .ref m2, .ref m3, .int ik, .int wy, .int op, .int cl, .int cx0, .int cx1, .int cy0, .int cy1, .int ds, .ref m4, .ref m5, .ref m6, .ref m7, .ref m8, .ref m9, .int pn, .ref m10, .ref m11, .ref m12, .ref m13])), (m10, .inl (cI, 3, .inl kx)), (m11, .inl (cI, 3, .inl ky))]) [0, 1, 2] (by decide) rfl
            have hK9 := hK.sub (tys' := [(cI, .int)]) [0] rfl
            refine hQ _ _ _ _ _ ?_
            exact W.zret (v := 1) hx hb hr rfl (fun t ht hW => ⟨⟨1, (), rfl, (if_pos (by rw [hTG]; exact c_45)).symm, ⟨by rw [ht]; exact hP9, va_K.moved hW.alike hK9, hD9⟩⟩, hS.F ht⟩) hS.2.2 dX9_isInTriangle_84
        · skip
          exact absurd c_43 (by decide)

set_option maxHeartbeats 4000000 in
set_option maxRecDepth 100000 in
theorem k_X9_mixed_e (l : Launch) (D : va_G) (sz : Nat) (h0 m1 m2 m3 m4 m5 m6 m7 m8 m9 m10 m11 m12 m13 : Nat) (ik wy op cl cx0 cx1 cy0 cy1 ds pn : Int32) (kx : Nat → Int32) (ky : Nat → Int32) (ki : Nat → Int32) (u v w9 : Int32) (cI : ClassId) (hw9 : ¬ w9 = 0) : Met l yX9_mixed (wB yX9_mixed cX9_mixed 9 (some .int)) ({ frames := 1, cells := 0, slots := 0, locals := 26 }) (cP D [(h0, .inr (9, [.ref m1, .ref m2, .ref m3, .int ik, .int wy, .int op, .int cl, .int cx0, .int cx1, .int cy0, .int cy1, .int ds, .ref m4, .ref m5, .ref m6, .ref m7, .ref m8, .ref m9, .int pn, .ref m10, .ref m11, .ref m12, .ref m13])), (m10, .inl (cI, 3, .inl kx)), (m11, .inl (cI, 3, .inl ky)), (m12, .inl (cI, 3, .inl ki))] [(cI, .int)] sz [.ref h0, .int u, .int v, .int w9]) (va_Qi (fun (r : Int32) (_ : Unit) => r = mdP kx ky ki u v w9) (fun (_ : Unit) (t : State) => cB D (va_A [(h0, .inr (9, [.ref m1, .ref m2, .ref m3, .int ik, .int wy, .int op, .int cl, .int cx0, .int cx1, .int cy0, .int cy1, .int ds, .ref m4, .ref m5, .ref m6, .ref m7, .ref m8, .ref m9, .int pn, .ref m10, .ref m11, .ref m12, .ref m13])), (m10, .inl (cI, 3, .inl kx)), (m11, .inl (cI, 3, .inl ky)), (m12, .inl (cI, 3, .inl ki))] sz) [(h0, .inr (9, [.ref m1, .ref m2, .ref m3, .int ik, .int wy, .int op, .int cl, .int cx0, .int cx1, .int cy0, .int cy1, .int ds, .ref m4, .ref m5, .ref m6, .ref m7, .ref m8, .ref m9, .int pn, .ref m10, .ref m11, .ref m12, .ref m13])), (m10, .inl (cI, 3, .inl kx)), (m11, .inl (cI, 3, .inl ky)), (m12, .inl (cI, 3, .inl ki))] [(cI, .int)] t) (va_A [(h0, .inr (9, [.ref m1, .ref m2, .ref m3, .int ik, .int wy, .int op, .int cl, .int cx0, .int cx1, .int cy0, .int cy1, .int ds, .ref m4, .ref m5, .ref m6, .ref m7, .ref m8, .ref m9, .int pn, .ref m10, .ref m11, .ref m12, .ref m13])), (m10, .inl (cI, 3, .inl kx)), (m11, .inl (cI, 3, .inl ky)), (m12, .inl (cI, 3, .inl ki))] sz)) 0 0 (va_A [(h0, .inr (9, [.ref m1, .ref m2, .ref m3, .int ik, .int wy, .int op, .int cl, .int cx0, .int cx1, .int cy0, .int cy1, .int ds, .ref m4, .ref m5, .ref m6, .ref m7, .ref m8, .ref m9, .int pn, .ref m10, .ref m11, .ref m12, .ref m13])), (m10, .inl (cI, 3, .inl kx)), (m11, .inl (cI, 3, .inl ky)), (m12, .inl (cI, 3, .inl ki))] sz) := by
  refine Met.ofW (cc := cX9_mixed) (maxL := 9) (ret := (some .int)) (by decide) rfl ?_
  intro p e s m args below meth c s₁ B hml hv
  obtain ⟨rfl, hsz, hP, hK, hD0, hN⟩ := hv
  have hx := B.exec
  have hb := B.bytes
  have hr := B.returns
  have hts0 := atoms_spec (ws := (wB yX9_mixed cX9_mixed 9 (some .int))) B.pre
  have hts : ∀ w ∈ bigW, w.before _ s = true := fun w h => hts0 w (List.mem_cons_of_mem _ h)
  have hown : s.vm.findClass RX9 = some m.cls := findClass_of_methodNamed B.named
  have hlocks := B.notSynchronized
  subst hsz
  have hD := hD0.self (sz := s.heap.size)
  generalize hAe : va_A [(h0, .inr (9, [.ref m1, .ref m2, .ref m3, .int ik, .int wy, .int op, .int cl, .int cx0, .int cx1, .int cy0, .int cy1, .int ds, .ref m4, .ref m5, .ref m6, .ref m7, .ref m8, .ref m9, .int pn, .ref m10, .ref m11, .ref m12, .ref m13])), (m10, .inl (cI, 3, .inl kx)), (m11, .inl (cI, 3, .inl ky)), (m12, .inl (cI, 3, .inl ki))] s.heap.size = A at hD ⊢
  have hA : ∀ q : Nat, s.heap.size ≤ q → A q := fun q h => by rw [← hAe]; exact Or.inr h
  have hS : va_S A s.heap s.heap [] := va_S.rf
  have hP : va_P D vwCl [(h0, .inr (9, [.ref m1, .ref m2, .ref m3, .int ik, .int wy, .int op, .int cl, .int cx0, .int cx1, .int cy0, .int cy1, .int ds, .ref m4, .ref m5, .ref m6, .ref m7, .ref m8, .ref m9, .int pn, .ref m10, .ref m11, .ref m12, .ref m13])), (m10, .inl (cI, 3, .inl kx)), (m11, .inl (cI, 3, .inl ky)), (m12, .inl (cI, 3, .inl ki))] s.heap := hP
  have hl := lv_entry ([.ref h0, .int u, .int v, .int w9]) (n := 9) (Nat.le_of_ble_eq_true rfl)
  rw [lg_entry_eq]
  generalize (lg_sl ([.ref h0, .int u, .int v, .int w9]) ++ List.replicate (9 - (lg_sl ([.ref h0, .int u, .int v, .int w9])).length) Slot.unset).toArray = ls at hl ⊢
  have hl : lv_has ls 9 [(0, .ref h0), (1, .int u), (2, .int v), (3, .int w9)] := hl
  clear hts0 hD0 hAe
  refine my_abs (fun R Q hR hQ => ?_)
  refine lv_iload_n hx hb dX9_mixed_0 rfl (lv_at hl 1 rfl) ?_
  refine lv_iload_n hx hb dX9_mixed_1 rfl (lv_at hl 2 rfl) ?_
  refine lv_iconst (v := 2) hx hb dX9_mixed_2 (by decide) ?_
  refine lv_aload_n hx hb dX9_mixed_3 rfl (lv_at hl 0 rfl) ?_
  refine va_get (D := D) (ci := 9) (v := .ref m10) (C := RX9) (T := TX9) (N := 23) hx hb hts hi_X9 hown hK hP 0 rfl rfl 19 (by decide) (hts _ bw_410) (fun _ h9 => h9) rfl dX9_mixed_4 ?_
  refine lv_iconst (v := 1) hx hb dX9_mixed_7 (by decide) ?_
  refine va_iald hx hb hK hP 1 0 rfl rfl (my_in (by decide) (by decide)) dX9_mixed_8 ?_
  refine my_fold (v := kx 1) (congrArg kx (by decide)) ?_
  refine lv_imul hx hb dX9_mixed_9 ?_
  refine lv_topi (fun y_1 ey_1 => ?_)
  refine lv_iconst (v := 2) hx hb dX9_mixed_10 (by decide) ?_
  refine lv_aload_n hx hb dX9_mixed_11 rfl (lv_at hl 0 rfl) ?_
  refine va_get (D := D) (ci := 9) (v := .ref m11) (C := RX9) (T := TX9) (N := 23) hx hb hts hi_X9 hown hK hP 0 rfl rfl 20 (by decide) (hts _ bw_411) (fun _ h9 => h9) rfl dX9_mixed_12 ?_
  refine lv_iconst (v := 1) hx hb dX9_mixed_15 (by decide) ?_
  refine va_iald hx hb hK hP 2 0 rfl rfl (my_in (by decide) (by decide)) dX9_mixed_16 ?_
  refine my_fold (v := ky 1) (congrArg ky (by decide)) ?_
  refine lv_imul hx hb dX9_mixed_17 ?_
  refine lv_topi (fun y_2 ey_2 => ?_)
  refine lv_iconst (v := 2) hx hb dX9_mixed_18 (by decide) ?_
  refine lv_aload_n hx hb dX9_mixed_19 rfl (lv_at hl 0 rfl) ?_
  refine va_get (D := D) (ci := 9) (v := .ref m10) (C := RX9) (T := TX9) (N := 23) hx hb hts hi_X9 hown hK hP 0 rfl rfl 19 (by decide) (hts _ bw_410) (fun _ h9 => h9) rfl dX9_mixed_20 ?_
  refine lv_iconst (v := 2) hx hb dX9_mixed_23 (by decide) ?_
  refine va_iald hx hb hK hP 1 0 rfl rfl (my_in (by decide) (by decide)) dX9_mixed_24 ?_
  refine my_fold (v := kx 2) (congrArg kx (by decide)) ?_
  refine lv_imul hx hb dX9_mixed_25 ?_
  refine lv_topi (fun y_3 ey_3 => ?_)
  refine lv_iconst (v := 2) hx hb dX9_mixed_26 (by decide) ?_
  refine lv_aload_n hx hb dX9_mixed_27 rfl (lv_at hl 0 rfl) ?_
  refine va_get (D := D) (ci := 9) (v := .ref m11) (C := RX9) (T := TX9) (N := 23) hx hb hts hi_X9 hown hK hP 0 rfl rfl 20 (by decide) (hts _ bw_411) (fun _ h9 => h9) rfl dX9_mixed_28 ?_
  refine lv_iconst (v := 2) hx hb dX9_mixed_31 (by decide) ?_
  refine va_iald hx hb hK hP 2 0 rfl rfl (my_in (by decide) (by decide)) dX9_mixed_32 ?_
  refine my_fold (v := ky 2) (congrArg ky (by decide)) ?_
  refine lv_imul hx hb dX9_mixed_33 ?_
  refine lv_topi (fun y_4 ey_4 => ?_)
  have hPc := hP.sub (ws' := []) [] rfl
  have hDc := hD.sub (ws' := []) [] (by decide) rfl
  have hKc := hK.sub (tys' := []) [] rfl
  have hFc := va_free (wc := []) hD hS hA [] rfl
  refine va_calli (va_runS (As := [.int u, .int v, .int y_1, .int y_2, .int y_3, .int y_4]) (rest := []) ⟨hx, hb, hml, hown, hts⟩ (k_X9_area_e l D s.heap.size u v y_1 y_2 y_3 y_4) (va_cwS 6 hts (gS bw_542 bw_535 bw_391 bw_534) rfl rfl rfl (by decide +kernel) ⟨(by rw [hR]; exact Nat.le_of_ble_eq_true rfl), (by rw [hR]; exact Nat.le_of_ble_eq_true rfl)⟩) ⟨cP_blind, cP_at hPc hKc hDc hN⟩ rfl rfl hl.1 rfl (lv_room (Nat.le_of_ble_eq_true rfl)) dX9_mixed_34 ⟨(by rw [hR]; exact Nat.le_of_ble_eq_true rfl), (by rw [hR]; exact Nat.le_of_ble_eq_true rfl)⟩) hS (fun q _ h => hFc q h) hFc (fun r_5 u9 t9 H1 locs ht hvm hr_5 hB hz1 hk1 hS => ?_)
  try dsimp only at hr_5
  have hP1 : va_P D vwCl [] H1 := vP_nil
  have hD1 : va_D (va_A [] s.heap.size) [] := vD_nil
  obtain ⟨hP, hD⟩ := va_join (wr := [(h0, .inr (9, [.ref m1, .ref m2, .ref m3, .int ik, .int wy, .int op, .int cl, .int cx0, .int cx1, .int cy0, .int cy1, .int ds, .ref m4, .ref m5, .ref m6, .ref m7, .ref m8, .ref m9, .int pn, .ref m10, .ref m11, .ref m12, .ref m13])), (m10, .inl (cI, 3, .inl kx)), (m11, .inl (cI, 3, .inl ky)), (m12, .inl (cI, 3, .inl ki))]) (w1 := []) hP hD [] [0, 1, 2, 3] rfl rfl (by decide) (by decide) hk1 hFc hP1 hD1
  clear hz1 hk1 hFc hKc hDc hPc
  generalize H1 = H at hP hS ⊢
  have hP : va_P D vwCl [(h0, .inr (9, [.ref m1, .ref m2, .ref m3, .int ik, .int wy, .int op, .int cl, .int cx0, .int cx1, .int cy0, .int cy1, .int ds, .ref m4, .ref m5, .ref m6, .ref m7, .ref m8, .ref m9, .int pn, .ref m10, .ref m11, .ref m12, .ref m13])), (m10, .inl (cI, 3, .inl kx)), (m11, .inl (cI, 3, .inl ky)), (m12, .inl (cI, 3, .inl ki))] H := hP
  have hD : va_D A [(h0, .inr (9, [.ref m1, .ref m2, .ref m3, .int ik, .int wy, .int op, .int cl, .int cx0, .int cx1, .int cy0, .int cy1, .int ds, .ref m4, .ref m5, .ref m6, .ref m7, .ref m8, .ref m9, .int pn, .ref m10, .ref m11, .ref m12, .ref m13])), (m10, .inl (cI, 3, .inl kx)), (m11, .inl (cI, 3, .inl ky)), (m12, .inl (cI, 3, .inl ki))] := hD
  refine lv_istore (lv' := [(4, .int r_5), (0, .ref h0), (1, .int u), (2, .int v), (3, .int w9)]) hx hb dX9_mixed_37 hl (by decide) rfl (fun ls hl => ?_)
  refine lv_iload_n hx hb dX9_mixed_39 rfl (lv_at hl 2 rfl) ?_
  refine lv_iload_n hx hb dX9_mixed_40 rfl (lv_at hl 3 rfl) ?_
  refine lv_iconst (v := 2) hx hb dX9_mixed_41 (by decide) ?_
  refine lv_aload_n hx hb dX9_mixed_42 rfl (lv_at hl 1 rfl) ?_
  refine va_get (D := D) (ci := 9) (v := .ref m10) (C := RX9) (T := TX9) (N := 23) hx hb hts hi_X9 hown hK hP 0 rfl rfl 19 (by decide) (hts _ bw_410) (fun _ h9 => h9) rfl dX9_mixed_43 ?_
  refine lv_iconst (v := 2) hx hb dX9_mixed_46 (by decide) ?_
  refine va_iald hx hb hK hP 1 0 rfl rfl (my_in (by decide) (by decide)) dX9_mixed_47 ?_
  refine my_fold (v := kx 2) (congrArg kx (by decide)) ?_
  refine lv_imul hx hb dX9_mixed_48 ?_
  refine lv_topi (fun y_6 ey_6 => ?_)
  refine lv_iconst (v := 2) hx hb dX9_mixed_49 (by decide) ?_
  refine lv_aload_n hx hb dX9_mixed_50 rfl (lv_at hl 1 rfl) ?_
  refine va_get (D := D) (ci := 9) (v := .ref m11) (C := RX9) (T := TX9) (N := 23) hx hb hts hi_X9 hown hK hP 0 rfl rfl 20 (by decide) (hts _ bw_411) (fun _ h9 => h9) rfl dX9_mixed_51 ?_
  refine lv_iconst (v := 2) hx hb dX9_mixed_54 (by decide) ?_
  refine va_iald hx hb hK hP 2 0 rfl rfl (my_in (by decide) (by decide)) dX9_mixed_55 ?_
  refine my_fold (v := ky 2) (congrArg ky (by decide)) ?_
  refine lv_imul hx hb dX9_mixed_56 ?_
  refine lv_topi (fun y_7 ey_7 => ?_)
  refine lv_iconst (v := 2) hx hb dX9_mixed_57 (by decide) ?_
  refine lv_aload_n hx hb dX9_mixed_58 rfl (lv_at hl 1 rfl) ?_
  refine va_get (D := D) (ci := 9) (v := .ref m10) (C := RX9) (T := TX9) (N := 23) hx hb hts hi_X9 hown hK hP 0 rfl rfl 19 (by decide) (hts _ bw_410) (fun _ h9 => h9) rfl dX9_mixed_59 ?_
  refine lv_iconst (v := 0) hx hb dX9_mixed_62 (by decide) ?_
  refine va_iald hx hb hK hP 1 0 rfl rfl (my_in (by decide) (by decide)) dX9_mixed_63 ?_
  refine my_fold (v := kx 0) (congrArg kx (by decide)) ?_
  refine lv_imul hx hb dX9_mixed_64 ?_
  refine lv_topi (fun y_8 ey_8 => ?_)
  refine lv_iconst (v := 2) hx hb dX9_mixed_65 (by decide) ?_
  refine lv_aload_n hx hb dX9_mixed_66 rfl (lv_at hl 1 rfl) ?_
  refine va_get (D := D) (ci := 9) (v := .ref m11) (C := RX9) (T := TX9) (N := 23) hx hb hts hi_X9 hown hK hP 0 rfl rfl 20 (by decide) (hts _ bw_411) (fun _ h9 => h9) rfl dX9_mixed_67 ?_
  refine lv_iconst (v := 0) hx hb dX9_mixed_70 (by decide) ?_
  refine va_iald hx hb hK hP 2 0 rfl rfl (my_in (by decide) (by decide)) dX9_mixed_71 ?_
  refine my_fold (v := ky 0) (congrArg ky (by decide)) ?_
  refine lv_imul hx hb dX9_mixed_72 ?_
  refine lv_topi (fun y_9 ey_9 => ?_)
  have hPc := hP.sub (ws' := []) [] rfl
  have hDc := hD.sub (ws' := []) [] (by decide) rfl
  have hKc := hK.sub (tys' := []) [] rfl
  have hFc := va_free (wc := []) hD hS hA [] rfl
  refine va_calli (va_runS (As := [.int u, .int v, .int y_6, .int y_7, .int y_8, .int y_9]) (rest := []) ⟨hx, hb, hml, hown, hts⟩ (k_X9_area_e l D H.size u v y_6 y_7 y_8 y_9) (va_cwS 6 hts (gS bw_542 bw_535 bw_391 bw_534) rfl rfl rfl (by decide +kernel) ⟨(by rw [hR]; exact Nat.le_of_ble_eq_true rfl), (by rw [hR]; exact Nat.le_of_ble_eq_true rfl)⟩) ⟨cP_blind, cP_at hPc hKc hDc hN⟩ rfl rfl hl.1 rfl (lv_room (Nat.le_of_ble_eq_true rfl)) dX9_mixed_73 ⟨(by rw [hR]; exact Nat.le_of_ble_eq_true rfl), (by rw [hR]; exact Nat.le_of_ble_eq_true rfl)⟩) hS (fun q _ h => hFc q h) hFc (fun r_10 u9 t9 H1 locs ht hvm hr_10 hB hz1 hk1 hS => ?_)
  try dsimp only at hr_10
  have hP1 : va_P D vwCl [] H1 := vP_nil
  have hD1 : va_D (va_A [] H.size) [] := vD_nil
  obtain ⟨hP, hD⟩ := va_join (wr := [(h0, .inr (9, [.ref m1, .ref m2, .ref m3, .int ik, .int wy, .int op, .int cl, .int cx0, .int cx1, .int cy0, .int cy1, .int ds, .ref m4, .ref m5, .ref m6, .ref m7, .ref m8, .ref m9, .int pn, .ref m10, .ref m11, .ref m12, .ref m13])), (m10, .inl (cI, 3, .inl kx)), (m11, .inl (cI, 3, .inl ky)), (m12, .inl (cI, 3, .inl ki))]) (w1 := []) hP hD [] [0, 1, 2, 3] rfl rfl (by decide) (by decide) hk1 hFc hP1 hD1
  clear hz1 hk1 hFc hKc hDc hPc
  generalize H1 = H at hP hS ⊢
  have hP : va_P D vwCl [(h0, .inr (9, [.ref m1, .ref m2, .ref m3, .int ik, .int wy, .int op, .int cl, .int cx0, .int cx1, .int cy0, .int cy1, .int ds, .ref m4, .ref m5, .ref m6, .ref m7, .ref m8, .ref m9, .int pn, .ref m10, .ref m11, .ref m12, .ref m13])), (m10, .inl (cI, 3, .inl kx)), (m11, .inl (cI, 3, .inl ky)), (m12, .inl (cI, 3, .inl ki))] H := hP
  have hD : va_D A [(h0, .inr (9, [.ref m1, .ref m2, .ref m3, .int ik, .int wy, .int op, .int cl, .int cx0, .int cx1, .int cy0, .int cy1, .int ds, .ref m4, .ref m5, .ref m6, .ref m7, .ref m8, .ref m9, .int pn, .ref m10, .ref m11, .ref m12, .ref m13])), (m10, .inl (cI, 3, .inl kx)), (m11, .inl (cI, 3, .inl ky)), (m12, .inl (cI, 3, .inl ki))] := hD
  refine lv_istore (lv' := [(5, .int r_10), (4, .int r_5), (0, .ref h0), (1, .int u), (2, .int v), (3, .int w9)]) hx hb dX9_mixed_76 hl (by decide) rfl (fun ls hl => ?_)
  refine lv_iload_n hx hb dX9_mixed_78 rfl (lv_at hl 3 rfl) ?_
  refine lv_iload_n hx hb dX9_mixed_79 rfl (lv_at hl 4 rfl) ?_
  refine lv_iconst (v := 2) hx hb dX9_mixed_80 (by decide) ?_
  refine lv_aload_n hx hb dX9_mixed_81 rfl (lv_at hl 2 rfl) ?_
  refine va_get (D := D) (ci := 9) (v := .ref m10) (C := RX9) (T := TX9) (N := 23) hx hb hts hi_X9 hown hK hP 0 rfl rfl 19 (by decide) (hts _ bw_410) (fun _ h9 => h9) rfl dX9_mixed_82 ?_
  refine lv_iconst (v := 0) hx hb dX9_mixed_85 (by decide) ?_
  refine va_iald hx hb hK hP 1 0 rfl rfl (my_in (by decide) (by decide)) dX9_mixed_86 ?_
  refine my_fold (v := kx 0) (congrArg kx (by decide)) ?_
  refine lv_imul hx hb dX9_mixed_87 ?_
  refine lv_topi (fun y_11 ey_11 => ?_)
  refine lv_iconst (v := 2) hx hb dX9_mixed_88 (by decide) ?_
  refine lv_aload_n hx hb dX9_mixed_89 rfl (lv_at hl 2 rfl) ?_
  refine va_get (D := D) (ci := 9) (v := .ref m11) (C := RX9) (T := TX9) (N := 23) hx hb hts hi_X9 hown hK hP 0 rfl rfl 20 (by decide) (hts _ bw_411) (fun _ h9 => h9) rfl dX9_mixed_90 ?_
  refine lv_iconst (v := 0) hx hb dX9_mixed_93 (by decide) ?_
  refine va_iald hx hb hK hP 2 0 rfl rfl (my_in (by decide) (by decide)) dX9_mixed_94 ?_
  refine my_fold (v := ky 0) (congrArg ky (by decide)) ?_
  refine lv_imul hx hb dX9_mixed_95 ?_
  refine lv_topi (fun y_12 ey_12 => ?_)
  refine lv_iconst (v := 2) hx hb dX9_mixed_96 (by decide) ?_
  refine lv_aload_n hx hb dX9_mixed_97 rfl (lv_at hl 2 rfl) ?_
  refine va_get (D := D) (ci := 9) (v := .ref m10) (C := RX9) (T := TX9) (N := 23) hx hb hts hi_X9 hown hK hP 0 rfl rfl 19 (by decide) (hts _ bw_410) (fun _ h9 => h9) rfl dX9_mixed_98 ?_
  refine lv_iconst (v := 1) hx hb dX9_mixed_101 (by decide) ?_
  refine va_iald hx hb hK hP 1 0 rfl rfl (my_in (by decide) (by decide)) dX9_mixed_102 ?_
  refine my_fold (v := kx 1) (congrArg kx (by decide)) ?_
  refine lv_imul hx hb dX9_mixed_103 ?_
  refine lv_topi (fun y_13 ey_13 => ?_)
  refine lv_iconst (v := 2) hx hb dX9_mixed_104 (by decide) ?_
  refine lv_aload_n hx hb dX9_mixed_105 rfl (lv_at hl 2 rfl) ?_
  refine va_get (D := D) (ci := 9) (v := .ref m11) (C := RX9) (T := TX9) (N := 23) hx hb hts hi_X9 hown hK hP 0 rfl rfl 20 (by decide) (hts _ bw_411) (fun _ h9 => h9) rfl dX9_mixed_106 ?_
  refine lv_iconst (v := 1) hx hb dX9_mixed_109 (by decide) ?_
  refine va_iald hx hb hK hP 2 0 rfl rfl (my_in (by decide) (by decide)) dX9_mixed_110 ?_
  refine my_fold (v := ky 1) (congrArg ky (by decide)) ?_
  refine lv_imul hx hb dX9_mixed_111 ?_
  refine lv_topi (fun y_14 ey_14 => ?_)
  have hPc := hP.sub (ws' := []) [] rfl
  have hDc := hD.sub (ws' := []) [] (by decide) rfl
  have hKc := hK.sub (tys' := []) [] rfl
  have hFc := va_free (wc := []) hD hS hA [] rfl
  refine va_calli (va_runS (As := [.int u, .int v, .int y_11, .int y_12, .int y_13, .int y_14]) (rest := []) ⟨hx, hb, hml, hown, hts⟩ (k_X9_area_e l D H.size u v y_11 y_12 y_13 y_14) (va_cwS 6 hts (gS bw_542 bw_535 bw_391 bw_534) rfl rfl rfl (by decide +kernel) ⟨(by rw [hR]; exact Nat.le_of_ble_eq_true rfl), (by rw [hR]; exact Nat.le_of_ble_eq_true rfl)⟩) ⟨cP_blind, cP_at hPc hKc hDc hN⟩ rfl rfl hl.1 rfl (lv_room (Nat.le_of_ble_eq_true rfl)) dX9_mixed_112 ⟨(by rw [hR]; exact Nat.le_of_ble_eq_true rfl), (by rw [hR]; exact Nat.le_of_ble_eq_true rfl)⟩) hS (fun q _ h => hFc q h) hFc (fun r_15 u9 t9 H1 locs ht hvm hr_15 hB hz1 hk1 hS => ?_)
  try dsimp only at hr_15
  have hP1 : va_P D vwCl [] H1 := vP_nil
  have hD1 : va_D (va_A [] H.size) [] := vD_nil
  obtain ⟨hP, hD⟩ := va_join (wr := [(h0, .inr (9, [.ref m1, .ref m2, .ref m3, .int ik, .int wy, .int op, .int cl, .int cx0, .int cx1, .int cy0, .int cy1, .int ds, .ref m4, .ref m5, .ref m6, .ref m7, .ref m8, .ref m9, .int pn, .ref m10, .ref m11, .ref m12, .ref m13])), (m10, .inl (cI, 3, .inl kx)), (m11, .inl (cI, 3, .inl ky)), (m12, .inl (cI, 3, .inl ki))]) (w1 := []) hP hD [] [0, 1, 2, 3] rfl rfl (by decide) (by decide) hk1 hFc hP1 hD1
  clear hz1 hk1 hFc hKc hDc hPc
  generalize H1 = H at hP hS ⊢
  have hP : va_P D vwCl [(h0, .inr (9, [.ref m1, .ref m2, .ref m3, .int ik, .int wy, .int op, .int cl, .int cx0, .int cx1, .int cy0, .int cy1, .int ds, .ref m4, .ref m5, .ref m6, .ref m7, .ref m8, .ref m9, .int pn, .ref m10, .ref m11, .ref m12, .ref m13])), (m10, .inl (cI, 3, .inl kx)), (m11, .inl (cI, 3, .inl ky)), (m12, .inl (cI, 3, .inl ki))] H := hP
  have hD : va_D A [(h0, .inr (9, [.ref m1, .ref m2, .ref m3, .int ik, .int wy, .int op, .int cl, .int cx0, .int cx1, .int cy0, .int cy1, .int ds, .ref m4, .ref m5, .ref m6, .ref m7, .ref m8, .ref m9, .int pn, .ref m10, .ref m11, .ref m12, .ref m13])), (m10, .inl (cI, 3, .inl kx)), (m11, .inl (cI, 3, .inl ky)), (m12, .inl (cI, 3, .inl ki))] := hD
  refine lv_istore (lv' := [(6, .int r_15), (5, .int r_10), (4, .int r_5), (0, .ref h0), (1, .int u), (2, .int v), (3, .int w9)]) hx hb dX9_mixed_115 hl (by decide) rfl (fun ls hl => ?_)
  refine lv_iconst (v := 0) hx hb dX9_mixed_117 (by decide) ?_
  refine lv_istore (lv' := [(7, .int 0), (6, .int r_15), (5, .int r_10), (4, .int r_5), (0, .ref h0), (1, .int u), (2, .int v), (3, .int w9)]) hx hb dX9_mixed_118 hl (by decide) rfl (fun ls hl => ?_)
  refine lv_iconst (v := 0) hx hb dX9_mixed_120 (by decide) ?_
  refine lv_istore (lv' := [(8, .int 0), (7, .int 0), (6, .int r_15), (5, .int r_10), (4, .int r_5), (0, .ref h0), (1, .int u), (2, .int v), (3, .int w9)]) hx hb dX9_mixed_121 hl (by decide) rfl (fun ls hl => ?_)
  refine lv_iload hx hb dX9_mixed_123 (lv_at hl 0 rfl) ?_
  refine lv_iconst (v := 4) hx hb dX9_mixed_125 (by decide) ?_
  refine lv_icmp_ge (tgt := 189) hx hb dX9_mixed_126 (by decide) (fun c_16 => ?_) (fun c_16 => ?_)
  · skip
    exact absurd c_16 (by decide)
  · skip
    refine lv_iload hx hb dX9_mixed_129 (lv_at hl 1 rfl) ?_
    refine lv_bipush (v := 8) hx hb dX9_mixed_131 (by decide) ?_
    refine lv_ishl hx hb dX9_mixed_133 ?_
    refine my_fold (v := 0) (by decide) ?_
    refine lv_iload hx hb dX9_mixed_134 (lv_at hl 4 rfl) ?_
    refine lv_aload_n hx hb dX9_mixed_136 rfl (lv_at hl 5 rfl) ?_
    refine va_get (D := D) (ci := 9) (v := .ref m12) (C := RX9) (T := TX9) (N := 23) hx hb hts hi_X9 hown hK hP 0 rfl rfl 21 (by decide) (hts _ bw_412) (fun _ h9 => h9) rfl dX9_mixed_137 ?_
    refine lv_iconst (v := 0) hx hb dX9_mixed_140 (by decide) ?_
    refine va_iald hx hb hK hP 3 0 rfl rfl (my_in (by decide) (by decide)) dX9_mixed_141 ?_
    refine my_fold (v := ki 0) (congrArg ki (by decide)) ?_
    refine lv_iload hx hb dX9_mixed_142 (lv_at hl 0 rfl) ?_
    have hPc := hP.sub (ws' := []) [] rfl
    have hDc := hD.sub (ws' := []) [] (by decide) rfl
    have hKc := hK.sub (tys' := []) [] rfl
    have hFc := va_free (wc := []) hD hS hA [] rfl
    refine va_calli (va_runS (As := [.int (ki 0), .int 0]) (rest := [.int r_5, .int 0]) ⟨hx, hb, hml, hown, hts⟩ (k_X9_channel_0 l D H.size (ki 0)) (va_cwS 2 hts (gS bw_441 bw_438 bw_391 bw_437) rfl rfl rfl (by decide +kernel) ⟨(by rw [hR]; exact Nat.le_of_ble_eq_true rfl), (by rw [hR]; exact Nat.le_of_ble_eq_true rfl)⟩) ⟨cP_blind, cP_at hPc hKc hDc hN⟩ rfl rfl hl.1 rfl (lv_room (Nat.le_of_ble_eq_true rfl)) dX9_mixed_144 ⟨(by rw [hR]; exact Nat.le_of_ble_eq_true rfl), (by rw [hR]; exact Nat.le_of_ble_eq_true rfl)⟩) hS (fun q _ h => hFc q h) hFc (fun r_18 u9 t9 H1 locs ht hvm hr_18 hB hz1 hk1 hS => ?_)
    try dsimp only at hr_18
    have hP1 : va_P D vwCl [] H1 := vP_nil
    have hD1 : va_D (va_A [] H.size) [] := vD_nil
    obtain ⟨hP, hD⟩ := va_join (wr := [(h0, .inr (9, [.ref m1, .ref m2, .ref m3, .int ik, .int wy, .int op, .int cl, .int cx0, .int cx1, .int cy0, .int cy1, .int ds, .ref m4, .ref m5, .ref m6, .ref m7, .ref m8, .ref m9, .int pn, .ref m10, .ref m11, .ref m12, .ref m13])), (m10, .inl (cI, 3, .inl kx)), (m11, .inl (cI, 3, .inl ky)), (m12, .inl (cI, 3, .inl ki))]) (w1 := []) hP hD [] [0, 1, 2, 3] rfl rfl (by decide) (by decide) hk1 hFc hP1 hD1
    clear hz1 hk1 hFc hKc hDc hPc
    generalize H1 = H at hP hS ⊢
    have hP : va_P D vwCl [(h0, .inr (9, [.ref m1, .ref m2, .ref m3, .int ik, .int wy, .int op, .int cl, .int cx0, .int cx1, .int cy0, .int cy1, .int ds, .ref m4, .ref m5, .ref m6, .ref m7, .ref m8, .ref m9, .int pn, .ref m10, .ref m11, .ref m12, .ref m13])), (m10, .inl (cI, 3, .inl kx)), (m11, .inl (cI, 3, .inl ky)), (m12, .inl (cI, 3, .inl ki))] H := hP
    have hD : va_D A [(h0, .inr (9, [.ref m1, .ref m2, .ref m3, .int ik, .int wy, .int op, .int cl, .int cx0, .int cx1, .int cy0, .int cy1, .int ds, .ref m4, .ref m5, .ref m6, .ref m7, .ref m8, .ref m9, .int pn, .ref m10, .ref m11, .ref m12, .ref m13])), (m10, .inl (cI, 3, .inl kx)), (m11, .inl (cI, 3, .inl ky)), (m12, .inl (cI, 3, .inl ki))] := hD
    refine lv_imul hx hb dX9_mixed_147 ?_
    refine lv_topi (fun y_19 ey_19 => ?_)
    refine lv_iload hx hb dX9_mixed_148 (lv_at hl 3 rfl) ?_
    refine lv_aload_n hx hb dX9_mixed_150 rfl (lv_at hl 5 rfl) ?_
    refine va_get (D := D) (ci := 9) (v := .ref m12) (C := RX9) (T := TX9) (N := 23) hx hb hts hi_X9 hown hK hP 0 rfl rfl 21 (by decide) (hts _ bw_412) (fun _ h9 => h9) rfl dX9_mixed_151 ?_
    refine lv_iconst (v := 1) hx hb dX9_mixed_154 (by decide) ?_
    refine va_iald hx hb hK hP 3 0 rfl rfl (my_in (by decide) (by decide)) dX9_mixed_155 ?_
    refine my_fold (v := ki 1) (congrArg ki (by decide)) ?_
    refine lv_iload hx hb dX9_mixed_156 (lv_at hl 0 rfl) ?_
    have hPc := hP.sub (ws' := []) [] rfl
    have hDc := hD.sub (ws' := []) [] (by decide) rfl
    have hKc := hK.sub (tys' := []) [] rfl
    have hFc := va_free (wc := []) hD hS hA [] rfl
    refine va_calli (va_runS (As := [.int (ki 1), .int 0]) (rest := [.int r_10, .int y_19, .int 0]) ⟨hx, hb, hml, hown, hts⟩ (k_X9_channel_0 l D H.size (ki 1)) (va_cwS 2 hts (gS bw_441 bw_438 bw_391 bw_437) rfl rfl rfl (by decide +kernel) ⟨(by rw [hR]; exact Nat.le_of_ble_eq_true rfl), (by rw [hR]; exact Nat.le_of_ble_eq_true rfl)⟩) ⟨cP_blind, cP_at hPc hKc hDc hN⟩ rfl rfl hl.1 rfl (lv_room (Nat.le_of_ble_eq_true rfl)) dX9_mixed_158 ⟨(by rw [hR]; exact Nat.le_of_ble_eq_true rfl), (by rw [hR]; exact Nat.le_of_ble_eq_true rfl)⟩) hS (fun q _ h => hFc q h) hFc (fun r_20 u9 t9 H1 locs ht hvm hr_20 hB hz1 hk1 hS => ?_)
    try dsimp only at hr_20
    have hP1 : va_P D vwCl [] H1 := vP_nil
    have hD1 : va_D (va_A [] H.size) [] := vD_nil
    obtain ⟨hP, hD⟩ := va_join (wr := [(h0, .inr (9, [.ref m1, .ref m2, .ref m3, .int ik, .int wy, .int op, .int cl, .int cx0, .int cx1, .int cy0, .int cy1, .int ds, .ref m4, .ref m5, .ref m6, .ref m7, .ref m8, .ref m9, .int pn, .ref m10, .ref m11, .ref m12, .ref m13])), (m10, .inl (cI, 3, .inl kx)), (m11, .inl (cI, 3, .inl ky)), (m12, .inl (cI, 3, .inl ki))]) (w1 := []) hP hD [] [0, 1, 2, 3] rfl rfl (by decide) (by decide) hk1 hFc hP1 hD1
    clear hz1 hk1 hFc hKc hDc hPc
    generalize H1 = H at hP hS ⊢
    have hP : va_P D vwCl [(h0, .inr (9, [.ref m1, .ref m2, .ref m3, .int ik, .int wy, .int op, .int cl, .int cx0, .int cx1, .int cy0, .int cy1, .int ds, .ref m4, .ref m5, .ref m6, .ref m7, .ref m8, .ref m9, .int pn, .ref m10, .ref m11, .ref m12, .ref m13])), (m10, .inl (cI, 3, .inl kx)), (m11, .inl (cI, 3, .inl ky)), (m12, .inl (cI, 3, .inl ki))] H := hP
    have hD : va_D A [(h0, .inr (9, [.ref m1, .ref m2, .ref m3, .int ik, .int wy, .int op, .int cl, .int cx0, .int cx1, .int cy0, .int cy1, .int ds, .ref m4, .ref m5, .ref m6, .ref m7, .ref m8, .ref m9, .int pn, .ref m10, .ref m11, .ref m12, .ref m13])), (m10, .inl (cI, 3, .inl kx)), (m11, .inl (cI, 3, .inl ky)), (m12, .inl (cI, 3, .inl ki))] := hD
    refine lv_imul hx hb dX9_mixed_161 ?_
    refine lv_topi (fun y_21 ey_21 => ?_)
    refine lv_iadd hx hb dX9_mixed_162 ?_
    refine lv_topi (fun y_22 ey_22 => ?_)
    refine lv_iload hx hb dX9_mixed_163 (lv_at hl 2 rfl) ?_
    refine lv_aload_n hx hb dX9_mixed_165 rfl (lv_at hl 5 rfl) ?_
    refine va_get (D := D) (ci := 9) (v := .ref m12) (C := RX9) (T := TX9) (N := 23) hx hb hts hi_X9 hown hK hP 0 rfl rfl 21 (by decide) (hts _ bw_412) (fun _ h9 => h9) rfl dX9_mixed_166 ?_
    refine lv_iconst (v := 2) hx hb dX9_mixed_169 (by decide) ?_
    refine va_iald hx hb hK hP 3 0 rfl rfl (my_in (by decide) (by decide)) dX9_mixed_170 ?_
    refine my_fold (v := ki 2) (congrArg ki (by decide)) ?_
    refine lv_iload hx hb dX9_mixed_171 (lv_at hl 0 rfl) ?_
    have hPc := hP.sub (ws' := []) [] rfl
    have hDc := hD.sub (ws' := []) [] (by decide) rfl
    have hKc := hK.sub (tys' := []) [] rfl
    have hFc := va_free (wc := []) hD hS hA [] rfl
    refine va_calli (va_runS (As := [.int (ki 2), .int 0]) (rest := [.int r_15, .int y_22, .int 0]) ⟨hx, hb, hml, hown, hts⟩ (k_X9_channel_0 l D H.size (ki 2)) (va_cwS 2 hts (gS bw_441 bw_438 bw_391 bw_437) rfl rfl rfl (by decide +kernel) ⟨(by rw [hR]; exact Nat.le_of_ble_eq_true rfl), (by rw [hR]; exact Nat.le_of_ble_eq_true rfl)⟩) ⟨cP_blind, cP_at hPc hKc hDc hN⟩ rfl rfl hl.1 rfl (lv_room (Nat.le_of_ble_eq_true rfl)) dX9_mixed_173 ⟨(by rw [hR]; exact Nat.le_of_ble_eq_true rfl), (by rw [hR]; exact Nat.le_of_ble_eq_true rfl)⟩) hS (fun q _ h => hFc q h) hFc (fun r_23 u9 t9 H1 locs ht hvm hr_23 hB hz1 hk1 hS => ?_)
    try dsimp only at hr_23
    have hP1 : va_P D vwCl [] H1 := vP_nil
    have hD1 : va_D (va_A [] H.size) [] := vD_nil
    obtain ⟨hP, hD⟩ := va_join (wr := [(h0, .inr (9, [.ref m1, .ref m2, .ref m3, .int ik, .int wy, .int op, .int cl, .int cx0, .int cx1, .int cy0, .int cy1, .int ds, .ref m4, .ref m5, .ref m6, .ref m7, .ref m8, .ref m9, .int pn, .ref m10, .ref m11, .ref m12, .ref m13])), (m10, .inl (cI, 3, .inl kx)), (m11, .inl (cI, 3, .inl ky)), (m12, .inl (cI, 3, .inl ki))]) (w1 := []) hP hD [] [0, 1, 2, 3] rfl rfl (by decide) (by decide) hk1 hFc hP1 hD1
    clear hz1 hk1 hFc hKc hDc hPc
    generalize H1 = H at hP hS ⊢
    have hP : va_P D vwCl [(h0, .inr (9, [.ref m1, .ref m2, .ref m3, .int ik, .int wy, .int op, .int cl, .int cx0, .int cx1, .int cy0, .int cy1, .int ds, .ref m4, .ref m5, .ref m6, .ref m7, .ref m8, .ref m9, .int pn, .ref m10, .ref m11, .ref m12, .ref m13])), (m10, .inl (cI, 3, .inl kx)), (m11, .inl (cI, 3, .inl ky)), (m12, .inl (cI, 3, .inl ki))] H := hP
    have hD : va_D A [(h0, .inr (9, [.ref m1, .ref m2, .ref m3, .int ik, .int wy, .int op, .int cl, .int cx0, .int cx1, .int cy0, .int cy1, .int ds, .ref m4, .ref m5, .ref m6, .ref m7, .ref m8, .ref m9, .int pn, .ref m10, .ref m11, .ref m12, .ref m13])), (m10, .inl (cI, 3, .inl kx)), (m11, .inl (cI, 3, .inl ky)), (m12, .inl (cI, 3, .inl ki))] := hD
    refine lv_imul hx hb dX9_mixed_176 ?_
    refine lv_topi (fun y_24 ey_24 => ?_)
    refine lv_iadd hx hb dX9_mixed_177 ?_
    refine lv_topi (fun y_25 ey_25 => ?_)
    refine lv_iload_n hx hb dX9_mixed_178 rfl (lv_at hl 8 rfl) ?_
    refine lv_idiv hx hb dX9_mixed_179 hw9 ?_
    refine lv_topi (fun y_26 ey_26 => ?_)
    refine lv_ior hx hb dX9_mixed_180 ?_
    refine lv_topi (fun y_27 ey_27 => ?_)
    refine lv_istore (lv' := [(7, .int y_27), (8, .int 0), (6, .int r_15), (5, .int r_10), (4, .int r_5), (0, .ref h0), (1, .int u), (2, .int v), (3, .int w9)]) hx hb dX9_mixed_181 hl (by decide) rfl (fun ls hl => ?_)
    refine lv_iinc (v := 1) (lv' := [(8, .int 1), (7, .int y_27), (6, .int r_15), (5, .int r_10), (4, .int r_5), (0, .ref h0), (1, .int u), (2, .int v), (3, .int w9)]) hx hb dX9_mixed_183 hl (k := 1) rfl (by decide) (by decide) rfl (fun ls hl => ?_)
    refine lv_goto (tgt := 123) hx hb dX9_mixed_186 (by decide) ?_
    refine lv_iload hx hb dX9_mixed_123 (lv_at hl 0 rfl) ?_
    refine lv_iconst (v := 4) hx hb dX9_mixed_125 (by decide) ?_
    refine lv_icmp_ge (tgt := 189) hx hb dX9_mixed_126 (by decide) (fun c_28 => ?_) (fun c_28 => ?_)
    · skip
      exact absurd c_28 (by decide)
    · skip
      refine lv_iload hx hb dX9_mixed_129 (lv_at hl 1 rfl) ?_
      refine lv_bipush (v := 8) hx hb dX9_mixed_131 (by decide) ?_
      refine lv_ishl hx hb dX9_mixed_133 ?_
      refine lv_topi (fun y_30 ey_30 => ?_)
      refine lv_iload hx hb dX9_mixed_134 (lv_at hl 4 rfl) ?_
      refine lv_aload_n hx hb dX9_mixed_136 rfl (lv_at hl 5 rfl) ?_
      refine va_get (D := D) (ci := 9) (v := .ref m12) (C := RX9) (T := TX9) (N := 23) hx hb hts hi_X9 hown hK hP 0 rfl rfl 21 (by decide) (hts _ bw_412) (fun _ h9 => h9) rfl dX9_mixed_137 ?_
      refine lv_iconst (v := 0) hx hb dX9_mixed_140 (by decide) ?_
      refine va_iald hx hb hK hP 3 0 rfl rfl (my_in (by decide) (by decide)) dX9_mixed_141 ?_
      refine my_fold (v := ki 0) (congrArg ki (by decide)) ?_
      refine lv_iload hx hb dX9_mixed_142 (lv_at hl 0 rfl) ?_
      have hPc := hP.sub (ws' := []) [] rfl
      have hDc := hD.sub (ws' := []) [] (by decide) rfl
      have hKc := hK.sub (tys' := []) [] rfl
      have hFc := va_free (wc := []) hD hS hA [] rfl
      refine va_calli (va_runS (As := [.int (ki 0), .int 1]) (rest := [.int r_5, .int y_30]) ⟨hx, hb, hml, hown, hts⟩ (k_X9_channel_1 l D H.size (ki 0)) (va_cwS 2 hts (gS bw_441 bw_438 bw_391 bw_437) rfl rfl rfl (by decide +kernel) ⟨(by rw [hR]; exact Nat.le_of_ble_eq_true rfl), (by rw [hR]; exact Nat.le_of_ble_eq_true rfl)⟩) ⟨cP_blind, cP_at hPc hKc hDc hN⟩ rfl rfl hl.1 rfl (lv_room (Nat.le_of_ble_eq_true rfl)) dX9_mixed_144 ⟨(by rw [hR]; exact Nat.le_of_ble_eq_true rfl), (by rw [hR]; exact Nat.le_of_ble_eq_true rfl)⟩) hS (fun q _ h => hFc q h) hFc (fun r_31 u9 t9 H1 locs ht hvm hr_31 hB hz1 hk1 hS => ?_)
      try dsimp only at hr_31
      have hP1 : va_P D vwCl [] H1 := vP_nil
      have hD1 : va_D (va_A [] H.size) [] := vD_nil
      obtain ⟨hP, hD⟩ := va_join (wr := [(h0, .inr (9, [.ref m1, .ref m2, .ref m3, .int ik, .int wy, .int op, .int cl, .int cx0, .int cx1, .int cy0, .int cy1, .int ds, .ref m4, .ref m5, .ref m6, .ref m7, .ref m8, .ref m9, .int pn, .ref m10, .ref m11, .ref m12, .ref m13])), (m10, .inl (cI, 3, .inl kx)), (m11, .inl (cI, 3, .inl ky)), (m12, .inl (cI, 3, .inl ki))]) (w1 := []) hP hD [] [0, 1, 2, 3] rfl rfl (by decide) (by decide) hk1 hFc hP1 hD1
      clear hz1 hk1 hFc hKc hDc hPc
      generalize H1 = H at hP hS ⊢
      have hP : va_P D vwCl [(h0, .inr (9, [.ref m1, .ref m2, .ref m3, .int ik, .int wy, .int op, .int cl, .int cx0, .int cx1, .int cy0, .int cy1, .int ds, .ref m4, .ref m5, .ref m6, .ref m7, .ref m8, .ref m9, .int pn, .ref m10, .ref m11, .ref m12, .ref m13])), (m10, .inl (cI, 3, .inl kx)), (m11, .inl (cI, 3, .inl ky)), (m12, .inl (cI, 3, .inl ki))] H := hP
      have hD : va_D A [(h0, .inr (9, [.ref m1, .ref m2, .ref m3, .int ik, .int wy, .int op, .int cl, .int cx0, .int cx1, .int cy0, .int cy1, .int ds, .ref m4, .ref m5, .ref m6, .ref m7, .ref m8, .ref m9, .int pn, .ref m10, .ref m11, .ref m12, .ref m13])), (m10, .inl (cI, 3, .inl kx)), (m11, .inl (cI, 3, .inl ky)), (m12, .inl (cI, 3, .inl ki))] := hD
      refine lv_imul hx hb dX9_mixed_147 ?_
      refine lv_topi (fun y_32 ey_32 => ?_)
      refine lv_iload hx hb dX9_mixed_148 (lv_at hl 3 rfl) ?_
      refine lv_aload_n hx hb dX9_mixed_150 rfl (lv_at hl 5 rfl) ?_
      refine va_get (D := D) (ci := 9) (v := .ref m12) (C := RX9) (T := TX9) (N := 23) hx hb hts hi_X9 hown hK hP 0 rfl rfl 21 (by decide) (hts _ bw_412) (fun _ h9 => h9) rfl dX9_mixed_151 ?_
      refine lv_iconst (v := 1) hx hb dX9_mixed_154 (by decide) ?_
      refine va_iald hx hb hK hP 3 0 rfl rfl (my_in (by decide) (by decide)) dX9_mixed_155 ?_
      refine my_fold (v := ki 1) (congrArg ki (by decide)) ?_
      refine lv_iload hx hb dX9_mixed_156 (lv_at hl 0 rfl) ?_
      have hPc := hP.sub (ws' := []) [] rfl
      have hDc := hD.sub (ws' := []) [] (by decide) rfl
      have hKc := hK.sub (tys' := []) [] rfl
      have hFc := va_free (wc := []) hD hS hA [] rfl
      refine va_calli (va_runS (As := [.int (ki 1), .int 1]) (rest := [.int r_10, .int y_32, .int y_30]) ⟨hx, hb, hml, hown, hts⟩ (k_X9_channel_1 l D H.size (ki 1)) (va_cwS 2 hts (gS bw_441 bw_438 bw_391 bw_437) rfl rfl rfl (by decide +kernel) ⟨(by rw [hR]; exact Nat.le_of_ble_eq_true rfl), (by rw [hR]; exact Nat.le_of_ble_eq_true rfl)⟩) ⟨cP_blind, cP_at hPc hKc hDc hN⟩ rfl rfl hl.1 rfl (lv_room (Nat.le_of_ble_eq_true rfl)) dX9_mixed_158 ⟨(by rw [hR]; exact Nat.le_of_ble_eq_true rfl), (by rw [hR]; exact Nat.le_of_ble_eq_true rfl)⟩) hS (fun q _ h => hFc q h) hFc (fun r_33 u9 t9 H1 locs ht hvm hr_33 hB hz1 hk1 hS => ?_)
      try dsimp only at hr_33
      have hP1 : va_P D vwCl [] H1 := vP_nil
      have hD1 : va_D (va_A [] H.size) [] := vD_nil
      obtain ⟨hP, hD⟩ := va_join (wr := [(h0, .inr (9, [.ref m1, .ref m2, .ref m3, .int ik, .int wy, .int op, .int cl, .int cx0, .int cx1, .int cy0, .int cy1, .int ds, .ref m4, .ref m5, .ref m6, .ref m7, .ref m8, .ref m9, .int pn, .ref m10, .ref m11, .ref m12, .ref m13])), (m10, .inl (cI, 3, .inl kx)), (m11, .inl (cI, 3, .inl ky)), (m12, .inl (cI, 3, .inl ki))]) (w1 := []) hP hD [] [0, 1, 2, 3] rfl rfl (by decide) (by decide) hk1 hFc hP1 hD1
      clear hz1 hk1 hFc hKc hDc hPc
      generalize H1 = H at hP hS ⊢
      have hP : va_P D vwCl [(h0, .inr (9, [.ref m1, .ref m2, .ref m3, .int ik, .int wy, .int op, .int cl, .int cx0, .int cx1, .int cy0, .int cy1, .int ds, .ref m4, .ref m5, .ref m6, .ref m7, .ref m8, .ref m9, .int pn, .ref m10, .ref m11, .ref m12, .ref m13])), (m10, .inl (cI, 3, .inl kx)), (m11, .inl (cI, 3, .inl ky)), (m12, .inl (cI, 3, .inl ki))] H := hP
      have hD : va_D A [(h0, .inr (9, [.ref m1, .ref m2, .ref m3, .int ik, .int wy, .int op, .int cl, .int cx0, .int cx1, .int cy0, .int cy1, .int ds, .ref m4, .ref m5, .ref m6, .ref m7, .ref m8, .ref m9, .int pn, .ref m10, .ref m11, .ref m12, .ref m13])), (m10, .inl (cI, 3, .inl kx)), (m11, .inl (cI, 3, .inl ky)), (m12, .inl (cI, 3, .inl ki))] := hD
      refine lv_imul hx hb dX9_mixed_161 ?_
      refine lv_topi (fun y_34 ey_34 => ?_)
      refine lv_iadd hx hb dX9_mixed_162 ?_
      refine lv_topi (fun y_35 ey_35 => ?_)
      refine lv_iload hx hb dX9_mixed_163 (lv_at hl 2 rfl) ?_
      refine lv_aload_n hx hb dX9_mixed_165 rfl (lv_at hl 5 rfl) ?_
      refine va_get (D := D) (ci := 9) (v := .ref m12) (C := RX9) (T := TX9) (N := 23) hx hb hts hi_X9 hown hK hP 0 rfl rfl 21 (by decide) (hts _ bw_412) (fun _ h9 => h9) rfl dX9_mixed_166 ?_
      refine lv_iconst (v := 2) hx hb dX9_mixed_169 (by decide) ?_
      refine va_iald hx hb hK hP 3 0 rfl rfl (my_in (by decide) (by decide)) dX9_mixed_170 ?_
      refine my_fold (v := ki 2) (congrArg ki (by decide)) ?_
      refine lv_iload hx hb dX9_mixed_171 (lv_at hl 0 rfl) ?_
      have hPc := hP.sub (ws' := []) [] rfl
      have hDc := hD.sub (ws' := []) [] (by decide) rfl
      have hKc := hK.sub (tys' := []) [] rfl
      have hFc := va_free (wc := []) hD hS hA [] rfl
      refine va_calli (va_runS (As := [.int (ki 2), .int 1]) (rest := [.int r_15, .int y_35, .int y_30]) ⟨hx, hb, hml, hown, hts⟩ (k_X9_channel_1 l D H.size (ki 2)) (va_cwS 2 hts (gS bw_441 bw_438 bw_391 bw_437) rfl rfl rfl (by decide +kernel) ⟨(by rw [hR]; exact Nat.le_of_ble_eq_true rfl), (by rw [hR]; exact Nat.le_of_ble_eq_true rfl)⟩) ⟨cP_blind, cP_at hPc hKc hDc hN⟩ rfl rfl hl.1 rfl (lv_room (Nat.le_of_ble_eq_true rfl)) dX9_mixed_173 ⟨(by rw [hR]; exact Nat.le_of_ble_eq_true rfl), (by rw [hR]; exact Nat.le_of_ble_eq_true rfl)⟩) hS (fun q _ h => hFc q h) hFc (fun r_36 u9 t9 H1 locs ht hvm hr_36 hB hz1 hk1 hS => ?_)
      try dsimp only at hr_36
      have hP1 : va_P D vwCl [] H1 := vP_nil
      have hD1 : va_D (va_A [] H.size) [] := vD_nil
      obtain ⟨hP, hD⟩ := va_join (wr := [(h0, .inr (9, [.ref m1, .ref m2, .ref m3, .int ik, .int wy, .int op, .int cl, .int cx0, .int cx1, .int cy0, .int cy1, .int ds, .ref m4, .ref m5, .ref m6, .ref m7, .ref m8, .ref m9, .int pn, .ref m10, .ref m11, .ref m12, .ref m13])), (m10, .inl (cI, 3, .inl kx)), (m11, .inl (cI, 3, .inl ky)), (m12, .inl (cI, 3, .inl ki))]) (w1 := []) hP hD [] [0, 1, 2, 3] rfl rfl (by decide) (by decide) hk1 hFc hP1 hD1
      clear hz1 hk1 hFc hKc hDc hPc
      generalize H1 = H at hP hS ⊢
      have hP : va_P D vwCl [(h0, .inr (9, [.ref m1, .ref m2, .ref m3, .int ik, .int wy, .int op, .int cl, .int cx0, .int cx1, .int cy0, .int cy1, .int ds, .ref m4, .ref m5, .ref m6, .ref m7, .ref m8, .ref m9, .int pn, .ref m10, .ref m11, .ref m12, .ref m13])), (m10, .inl (cI, 3, .inl kx)), (m11, .inl (cI, 3, .inl ky)), (m12, .inl (cI, 3, .inl ki))] H := hP
      have hD : va_D A [(h0, .inr (9, [.ref m1, .ref m2, .ref m3, .int ik, .int wy, .int op, .int cl, .int cx0, .int cx1, .int cy0, .int cy1, .int ds, .ref m4, .ref m5, .ref m6, .ref m7, .ref m8, .ref m9, .int pn, .ref m10, .ref m11, .ref m12, .ref m13])), (m10, .inl (cI, 3, .inl kx)), (m11, .inl (cI, 3, .inl ky)), (m12, .inl (cI, 3, .inl ki))] := hD
      refine lv_imul hx hb dX9_mixed_176 ?_
      refine lv_topi (fun y_37 ey_37 => ?_)
      refine lv_iadd hx hb dX9_mixed_177 ?_
      refine lv_topi (fun y_38 ey_38 => ?_)
      refine lv_iload_n hx hb dX9_mixed_178 rfl (lv_at hl 8 rfl) ?_
      refine lv_idiv hx hb dX9_mixed_179 hw9 ?_
      refine lv_topi (fun y_39 ey_39 => ?_)
      refine lv_ior hx hb dX9_mixed_180 ?_
      refine lv_topi (fun y_40 ey_40 => ?_)
      refine lv_istore (lv' := [(7, .int y_40), (8, .int 1), (6, .int r_15), (5, .int r_10), (4, .int r_5), (0, .ref h0), (1, .int u), (2, .int v), (3, .int w9)]) hx hb dX9_mixed_181 hl (by decide) rfl (fun ls hl => ?_)
      refine lv_iinc (v := 2) (lv' := [(8, .int 2), (7, .int y_40), (6, .int r_15), (5, .int r_10), (4, .int r_5), (0, .ref h0), (1, .int u), (2, .int v), (3, .int w9)]) hx hb dX9_mixed_183 hl (k := 1) rfl (by decide) (by decide) rfl (fun ls hl => ?_)
      refine lv_goto (tgt := 123) hx hb dX9_mixed_186 (by decide) ?_
      refine lv_iload hx hb dX9_mixed_123 (lv_at hl 0 rfl) ?_
      refine lv_iconst (v := 4) hx hb dX9_mixed_125 (by decide) ?_
      refine lv_icmp_ge (tgt := 189) hx hb dX9_mixed_126 (by decide) (fun c_41 => ?_) (fun c_41 => ?_)
      · skip
        exact absurd c_41 (by decide)
      · skip
        refine lv_iload hx hb dX9_mixed_129 (lv_at hl 1 rfl) ?_
        refine lv_bipush (v := 8) hx hb dX9_mixed_131 (by decide) ?_
        refine lv_ishl hx hb dX9_mixed_133 ?_
        refine lv_topi (fun y_43 ey_43 => ?_)
        refine lv_iload hx hb dX9_mixed_134 (lv_at hl 4 rfl) ?_
        refine lv_aload_n hx hb dX9_mixed_136 rfl (lv_at hl 5 rfl) ?_
        refine va_get (D := D) (ci := 9) (v := .ref m12) (C := RX9) (T := TX9) (N := 23) hx hb hts hi_X9 hown hK hP 0 rfl rfl 21 (by decide) (hts _ bw_412) (fun _ h9 => h9) rfl dX9_mixed_137 ?_
        refine lv_iconst (v := 0) hx hb dX9_mixed_140 (by decide) ?_
        refine va_iald hx hb hK hP 3 0 rfl rfl (my_in (by decide) (by decide)) dX9_mixed_141 ?_
        refine my_fold (v := ki 0) (congrArg ki (by decide)) ?_
        refine lv_iload hx hb dX9_mixed_142 (lv_at hl 0 rfl) ?_
        have hPc := hP.sub (ws' := []) [] rfl
        have hDc := hD.sub (ws' := []) [] (by decide) rfl
        have hKc := hK.sub (tys' := []) [] rfl
        have hFc := va_free (wc := []) hD hS hA [] rfl
        refine va_calli (va_runS (As := [.int (ki 0), .int 2]) (rest := [.int r_5, .int y_43]) ⟨hx, hb, hml, hown, hts⟩ (k_X9_channel_2 l D H.size (ki 0)) (va_cwS 2 hts (gS bw_441 bw_438 bw_391 bw_437) rfl rfl rfl (by decide +kernel) ⟨(by rw [hR]; exact Nat.le_of_ble_eq_true rfl), (by rw [hR]; exact Nat.le_of_ble_eq_true rfl)⟩) ⟨cP_blind, cP_at hPc hKc hDc hN⟩ rfl rfl hl.1 rfl (lv_room (Nat.le_of_ble_eq_true rfl)) dX9_mixed_144 ⟨(by rw [hR]; exact Nat.le_of_ble_eq_true rfl), (by rw [hR]; exact Nat.le_of_ble_eq_true rfl)⟩) hS (fun q _ h => hFc q h) hFc (fun r_44 u9 t9 H1 locs ht hvm hr_44 hB hz1 hk1 hS => ?_)
        try dsimp only at hr_44
        have hP1 : va_P D vwCl [] H1 := vP_nil
        have hD1 : va_D (va_A [] H.size) [] := vD_nil
        obtain ⟨hP, hD⟩ := va_join (wr := [(h0, .inr (9, [.ref m1, .ref m2, .ref m3, .int ik, .int wy, .int op, .int cl, .int cx0, .int cx1, .int cy0, .int cy1, .int ds, .ref m4, .ref m5, .ref m6, .ref m7, .ref m8, .ref m9, .int pn, .ref m10, .ref m11, .ref m12, .ref m13])), (m10, .inl (cI, 3, .inl kx)), (m11, .inl (cI, 3, .inl ky)), (m12, .inl (cI, 3, .inl ki))]) (w1 := []) hP hD [] [0, 1, 2, 3] rfl rfl (by decide) (by decide) hk1 hFc hP1 hD1
        clear hz1 hk1 hFc hKc hDc hPc
        generalize H1 = H at hP hS ⊢
        have hP : va_P D vwCl [(h0, .inr (9, [.ref m1, .ref m2, .ref m3, .int ik, .int wy, .int op, .int cl, .int cx0, .int cx1, .int cy0, .int cy1, .int ds, .ref m4, .ref m5, .ref m6, .ref m7, .ref m8, .ref m9, .int pn, .ref m10, .ref m11, .ref m12, .ref m13])), (m10, .inl (cI, 3, .inl kx)), (m11, .inl (cI, 3, .inl ky)), (m12, .inl (cI, 3, .inl ki))] H := hP
        have hD : va_D A [(h0, .inr (9, [.ref m1, .ref m2, .ref m3, .int ik, .int wy, .int op, .int cl, .int cx0, .int cx1, .int cy0, .int cy1, .int ds, .ref m4, .ref m5, .ref m6, .ref m7, .ref m8, .ref m9, .int pn, .ref m10, .ref m11, .ref m12, .ref m13])), (m10, .inl (cI, 3, .inl kx)), (m11, .inl (cI, 3, .inl ky)), (m12, .inl (cI, 3, .inl ki))] := hD
        refine lv_imul hx hb dX9_mixed_147 ?_
        refine lv_topi (fun y_45 ey_45 => ?_)
        refine lv_iload hx hb dX9_mixed_148 (lv_at hl 3 rfl) ?_
        refine lv_aload_n hx hb dX9_mixed_150 rfl (lv_at hl 5 rfl) ?_
        refine va_get (D := D) (ci := 9) (v := .ref m12) (C := RX9) (T := TX9) (N := 23) hx hb hts hi_X9 hown hK hP 0 rfl rfl 21 (by decide) (hts _ bw_412) (fun _ h9 => h9) rfl dX9_mixed_151 ?_
        refine lv_iconst (v := 1) hx hb dX9_mixed_154 (by decide) ?_
        refine va_iald hx hb hK hP 3 0 rfl rfl (my_in (by decide) (by decide)) dX9_mixed_155 ?_
        refine my_fold (v := ki 1) (congrArg ki (by decide)) ?_
        refine lv_iload hx hb dX9_mixed_156 (lv_at hl 0 rfl) ?_
        have hPc := hP.sub (ws' := []) [] rfl
        have hDc := hD.sub (ws' := []) [] (by decide) rfl
        have hKc := hK.sub (tys' := []) [] rfl
        have hFc := va_free (wc := []) hD hS hA [] rfl
        refine va_calli (va_runS (As := [.int (ki 1), .int 2]) (rest := [.int r_10, .int y_45, .int y_43]) ⟨hx, hb, hml, hown, hts⟩ (k_X9_channel_2 l D H.size (ki 1)) (va_cwS 2 hts (gS bw_441 bw_438 bw_391 bw_437) rfl rfl rfl (by decide +kernel) ⟨(by rw [hR]; exact Nat.le_of_ble_eq_true rfl), (by rw [hR]; exact Nat.le_of_ble_eq_true rfl)⟩) ⟨cP_blind, cP_at hPc hKc hDc hN⟩ rfl rfl hl.1 rfl (lv_room (Nat.le_of_ble_eq_true rfl)) dX9_mixed_158 ⟨(by rw [hR]; exact Nat.le_of_ble_eq_true rfl), (by rw [hR]; exact Nat.le_of_ble_eq_true rfl)⟩) hS (fun q _ h => hFc q h) hFc (fun r_46 u9 t9 H1 locs ht hvm hr_46 hB hz1 hk1 hS => ?_)
        try dsimp only at hr_46
        have hP1 : va_P D vwCl [] H1 := vP_nil
        have hD1 : va_D (va_A [] H.size) [] := vD_nil
        obtain ⟨hP, hD⟩ := va_join (wr := [(h0, .inr (9, [.ref m1, .ref m2, .ref m3, .int ik, .int wy, .int op, .int cl, .int cx0, .int cx1, .int cy0, .int cy1, .int ds, .ref m4, .ref m5, .ref m6, .ref m7, .ref m8, .ref m9, .int pn, .ref m10, .ref m11, .ref m12, .ref m13])), (m10, .inl (cI, 3, .inl kx)), (m11, .inl (cI, 3, .inl ky)), (m12, .inl (cI, 3, .inl ki))]) (w1 := []) hP hD [] [0, 1, 2, 3] rfl rfl (by decide) (by decide) hk1 hFc hP1 hD1
        clear hz1 hk1 hFc hKc hDc hPc
        generalize H1 = H at hP hS ⊢
        have hP : va_P D vwCl [(h0, .inr (9, [.ref m1, .ref m2, .ref m3, .int ik, .int wy, .int op, .int cl, .int cx0, .int cx1, .int cy0, .int cy1, .int ds, .ref m4, .ref m5, .ref m6, .ref m7, .ref m8, .ref m9, .int pn, .ref m10, .ref m11, .ref m12, .ref m13])), (m10, .inl (cI, 3, .inl kx)), (m11, .inl (cI, 3, .inl ky)), (m12, .inl (cI, 3, .inl ki))] H := hP
        have hD : va_D A [(h0, .inr (9, [.ref m1, .ref m2, .ref m3, .int ik, .int wy, .int op, .int cl, .int cx0, .int cx1, .int cy0, .int cy1, .int ds, .ref m4, .ref m5, .ref m6, .ref m7, .ref m8, .ref m9, .int pn, .ref m10, .ref m11, .ref m12, .ref m13])), (m10, .inl (cI, 3, .inl kx)), (m11, .inl (cI, 3, .inl ky)), (m12, .inl (cI, 3, .inl ki))] := hD
        refine lv_imul hx hb dX9_mixed_161 ?_
        refine lv_topi (fun y_47 ey_47 => ?_)
        refine lv_iadd hx hb dX9_mixed_162 ?_
        refine lv_topi (fun y_48 ey_48 => ?_)
        refine lv_iload hx hb dX9_mixed_163 (lv_at hl 2 rfl) ?_
        refine lv_aload_n hx hb dX9_mixed_165 rfl (lv_at hl 5 rfl) ?_
        refine va_get (D := D) (ci := 9) (v := .ref m12) (C := RX9) (T := TX9) (N := 23) hx hb hts hi_X9 hown hK hP 0 rfl rfl 21 (by decide) (hts _ bw_412) (fun _ h9 => h9) rfl dX9_mixed_166 ?_
        refine lv_iconst (v := 2) hx hb dX9_mixed_169 (by decide) ?_
        refine va_iald hx hb hK hP 3 0 rfl rfl (my_in (by decide) (by decide)) dX9_mixed_170 ?_
        refine my_fold (v := ki 2) (congrArg ki (by decide)) ?_
        refine lv_iload hx hb dX9_mixed_171 (lv_at hl 0 rfl) ?_
        have hPc := hP.sub (ws' := []) [] rfl
        have hDc := hD.sub (ws' := []) [] (by decide) rfl
        have hKc := hK.sub (tys' := []) [] rfl
        have hFc := va_free (wc := []) hD hS hA [] rfl
        refine va_calli (va_runS (As := [.int (ki 2), .int 2]) (rest := [.int r_15, .int y_48, .int y_43]) ⟨hx, hb, hml, hown, hts⟩ (k_X9_channel_2 l D H.size (ki 2)) (va_cwS 2 hts (gS bw_441 bw_438 bw_391 bw_437) rfl rfl rfl (by decide +kernel) ⟨(by rw [hR]; exact Nat.le_of_ble_eq_true rfl), (by rw [hR]; exact Nat.le_of_ble_eq_true rfl)⟩) ⟨cP_blind, cP_at hPc hKc hDc hN⟩ rfl rfl hl.1 rfl (lv_room (Nat.le_of_ble_eq_true rfl)) dX9_mixed_173 ⟨(by rw [hR]; exact Nat.le_of_ble_eq_true rfl), (by rw [hR]; exact Nat.le_of_ble_eq_true rfl)⟩) hS (fun q _ h => hFc q h) hFc (fun r_49 u9 t9 H1 locs ht hvm hr_49 hB hz1 hk1 hS => ?_)
        try dsimp only at hr_49
        have hP1 : va_P D vwCl [] H1 := vP_nil
        have hD1 : va_D (va_A [] H.size) [] := vD_nil
        obtain ⟨hP, hD⟩ := va_join (wr := [(h0, .inr (9, [.ref m1, .ref m2, .ref m3, .int ik, .int wy, .int op, .int cl, .int cx0, .int cx1, .int cy0, .int cy1, .int ds, .ref m4, .ref m5, .ref m6, .ref m7, .ref m8, .ref m9, .int pn, .ref m10, .ref m11, .ref m12, .ref m13])), (m10, .inl (cI, 3, .inl kx)), (m11, .inl (cI, 3, .inl ky)), (m12, .inl (cI, 3, .inl ki))]) (w1 := []) hP hD [] [0, 1, 2, 3] rfl rfl (by decide) (by decide) hk1 hFc hP1 hD1
        clear hz1 hk1 hFc hKc hDc hPc
        generalize H1 = H at hP hS ⊢
        have hP : va_P D vwCl [(h0, .inr (9, [.ref m1, .ref m2, .ref m3, .int ik, .int wy, .int op, .int cl, .int cx0, .int cx1, .int cy0, .int cy1, .int ds, .ref m4, .ref m5, .ref m6, .ref m7, .ref m8, .ref m9, .int pn, .ref m10, .ref m11, .ref m12, .ref m13])), (m10, .inl (cI, 3, .inl kx)), (m11, .inl (cI, 3, .inl ky)), (m12, .inl (cI, 3, .inl ki))] H := hP
        have hD : va_D A [(h0, .inr (9, [.ref m1, .ref m2, .ref m3, .int ik, .int wy, .int op, .int cl, .int cx0, .int cx1, .int cy0, .int cy1, .int ds, .ref m4, .ref m5, .ref m6, .ref m7, .ref m8, .ref m9, .int pn, .ref m10, .ref m11, .ref m12, .ref m13])), (m10, .inl (cI, 3, .inl kx)), (m11, .inl (cI, 3, .inl ky)), (m12, .inl (cI, 3, .inl ki))] := hD
        refine lv_imul hx hb dX9_mixed_176 ?_
        refine lv_topi (fun y_50 ey_50 => ?_)
        refine lv_iadd hx hb dX9_mixed_177 ?_
        refine lv_topi (fun y_51 ey_51 => ?_)
        refine lv_iload_n hx hb dX9_mixed_178 rfl (lv_at hl 8 rfl) ?_
        refine lv_idiv hx hb dX9_mixed_179 hw9 ?_
        refine lv_topi (fun y_52 ey_52 => ?_)
        refine lv_ior hx hb dX9_mixed_180 ?_
        refine lv_topi (fun y_53 ey_53 => ?_)
        refine lv_istore (lv' := [(7, .int y_53), (8, .int 2), (6, .int r_15), (5, .int r_10), (4, .int r_5), (0, .ref h0), (1, .int u), (2, .int v), (3, .int w9)]) hx hb dX9_mixed_181 hl (by decide) rfl (fun ls hl => ?_)
        refine lv_iinc (v := 3) (lv' := [(8, .int 3), (7, .int y_53), (6, .int r_15), (5, .int r_10), (4, .int r_5), (0, .ref h0), (1, .int u), (2, .int v), (3, .int w9)]) hx hb dX9_mixed_183 hl (k := 1) rfl (by decide) (by decide) rfl (fun ls hl => ?_)
        refine lv_goto (tgt := 123) hx hb dX9_mixed_186 (by decide) ?_
        refine lv_iload hx hb dX9_mixed_123 (lv_at hl 0 rfl) ?_
        refine lv_iconst (v := 4) hx hb dX9_mixed_125 (by decide) ?_
        refine lv_icmp_ge (tgt := 189) hx hb dX9_mixed_126 (by decide) (fun c_54 => ?_) (fun c_54 => ?_)
        · skip
          exact absurd c_54 (by decide)
        · skip
          refine lv_iload hx hb dX9_mixed_129 (lv_at hl 1 rfl) ?_
          refine lv_bipush (v := 8) hx hb dX9_mixed_131 (by decide) ?_
          refine lv_ishl hx hb dX9_mixed_133 ?_
          refine lv_topi (fun y_56 ey_56 => ?_)
          refine lv_iload hx hb dX9_mixed_134 (lv_at hl 4 rfl) ?_
          refine lv_aload_n hx hb dX9_mixed_136 rfl (lv_at hl 5 rfl) ?_
          refine va_get (D := D) (ci := 9) (v := .ref m12) (C := RX9) (T := TX9) (N := 23) hx hb hts hi_X9 hown hK hP 0 rfl rfl 21 (by decide) (hts _ bw_412) (fun _ h9 => h9) rfl dX9_mixed_137 ?_
          refine lv_iconst (v := 0) hx hb dX9_mixed_140 (by decide) ?_
          refine va_iald hx hb hK hP 3 0 rfl rfl (my_in (by decide) (by decide)) dX9_mixed_141 ?_
          refine my_fold (v := ki 0) (congrArg ki (by decide)) ?_
          refine lv_iload hx hb dX9_mixed_142 (lv_at hl 0 rfl) ?_
          have hPc := hP.sub (ws' := []) [] rfl
          have hDc := hD.sub (ws' := []) [] (by decide) rfl
          have hKc := hK.sub (tys' := []) [] rfl
          have hFc := va_free (wc := []) hD hS hA [] rfl
          refine va_calli (va_runS (As := [.int (ki 0), .int 3]) (rest := [.int r_5, .int y_56]) ⟨hx, hb, hml, hown, hts⟩ (k_X9_channel_3 l D H.size (ki 0)) (va_cwS 2 hts (gS bw_441 bw_438 bw_391 bw_437) rfl rfl rfl (by decide +kernel) ⟨(by rw [hR]; exact Nat.le_of_ble_eq_true rfl), (by rw [hR]; exact Nat.le_of_ble_eq_true rfl)⟩) ⟨cP_blind, cP_at hPc hKc hDc hN⟩ rfl rfl hl.1 rfl (lv_room (Nat.le_of_ble_eq_true rfl)) dX9_mixed_144 ⟨(by rw [hR]; exact Nat.le_of_ble_eq_true rfl), (by rw [hR]; exact Nat.le_of_ble_eq_true rfl)⟩) hS (fun q _ h => hFc q h) hFc (fun r_57 u9 t9 H1 locs ht hvm hr_57 hB hz1 hk1 hS => ?_)
          try dsimp only at hr_57
          have hP1 : va_P D vwCl [] H1 := vP_nil
          have hD1 : va_D (va_A [] H.size) [] := vD_nil
          obtain ⟨hP, hD⟩ := va_join (wr := [(h0, .inr (9, [.ref m1, .ref m2, .ref m3, .int ik, .int wy, .int op, .int cl, .int cx0, .int cx1, .int cy0, .int cy1, .int ds, .ref m4, .ref m5, .ref m6, .ref m7, .ref m8, .ref m9, .int pn, .ref m10, .ref m11, .ref m12, .ref m13])), (m10, .inl (cI, 3, .inl kx)), (m11, .inl (cI, 3, .inl ky)), (m12, .inl (cI, 3, .inl ki))]) (w1 := []) hP hD [] [0, 1, 2, 3] rfl rfl (by decide) (by decide) hk1 hFc hP1 hD1
          clear hz1 hk1 hFc hKc hDc hPc
          generalize H1 = H at hP hS ⊢
          have hP : va_P D vwCl [(h0, .inr (9, [.ref m1, .ref m2, .ref m3, .int ik, .int wy, .int op, .int cl, .int cx0, .int cx1, .int cy0, .int cy1, .int ds, .ref m4, .ref m5, .ref m6, .ref m7, .ref m8, .ref m9, .int pn, .ref m10, .ref m11, .ref m12, .ref m13])), (m10, .inl (cI, 3, .inl kx)), (m11, .inl (cI, 3, .inl ky)), (m12, .inl (cI, 3, .inl ki))] H := hP
          have hD : va_D A [(h0, .inr (9, [.ref m1, .ref m2, .ref m3, .int ik, .int wy, .int op, .int cl, .int cx0, .int cx1, .int cy0, .int cy1, .int ds, .ref m4, .ref m5, .ref m6, .ref m7, .ref m8, .ref m9, .int pn, .ref m10, .ref m11, .ref m12, .ref m13])), (m10, .inl (cI, 3, .inl kx)), (m11, .inl (cI, 3, .inl ky)), (m12, .inl (cI, 3, .inl ki))] := hD
          refine lv_imul hx hb dX9_mixed_147 ?_
          refine lv_topi (fun y_58 ey_58 => ?_)
          refine lv_iload hx hb dX9_mixed_148 (lv_at hl 3 rfl) ?_
          refine lv_aload_n hx hb dX9_mixed_150 rfl (lv_at hl 5 rfl) ?_
          refine va_get (D := D) (ci := 9) (v := .ref m12) (C := RX9) (T := TX9) (N := 23) hx hb hts hi_X9 hown hK hP 0 rfl rfl 21 (by decide) (hts _ bw_412) (fun _ h9 => h9) rfl dX9_mixed_151 ?_
          refine lv_iconst (v := 1) hx hb dX9_mixed_154 (by decide) ?_
          refine va_iald hx hb hK hP 3 0 rfl rfl (my_in (by decide) (by decide)) dX9_mixed_155 ?_
          refine my_fold (v := ki 1) (congrArg ki (by decide)) ?_
          refine lv_iload hx hb dX9_mixed_156 (lv_at hl 0 rfl) ?_
          have hPc := hP.sub (ws' := []) [] rfl
          have hDc := hD.sub (ws' := []) [] (by decide) rfl
          have hKc := hK.sub (tys' := []) [] rfl
          have hFc := va_free (wc := []) hD hS hA [] rfl
          refine va_calli (va_runS (As := [.int (ki 1), .int 3]) (rest := [.int r_10, .int y_58, .int y_56]) ⟨hx, hb, hml, hown, hts⟩ (k_X9_channel_3 l D H.size (ki 1)) (va_cwS 2 hts (gS bw_441 bw_438 bw_391 bw_437) rfl rfl rfl (by decide +kernel) ⟨(by rw [hR]; exact Nat.le_of_ble_eq_true rfl), (by rw [hR]; exact Nat.le_of_ble_eq_true rfl)⟩) ⟨cP_blind, cP_at hPc hKc hDc hN⟩ rfl rfl hl.1 rfl (lv_room (Nat.le_of_ble_eq_true rfl)) dX9_mixed_158 ⟨(by rw [hR]; exact Nat.le_of_ble_eq_true rfl), (by rw [hR]; exact Nat.le_of_ble_eq_true rfl)⟩) hS (fun q _ h => hFc q h) hFc (fun r_59 u9 t9 H1 locs ht hvm hr_59 hB hz1 hk1 hS => ?_)
          try dsimp only at hr_59
          have hP1 : va_P D vwCl [] H1 := vP_nil
          have hD1 : va_D (va_A [] H.size) [] := vD_nil
          obtain ⟨hP, hD⟩ := va_join (wr := [(h0, .inr (9, [.ref m1, .ref m2, .ref m3, .int ik, .int wy, .int op, .int cl, .int cx0, .int cx1, .int cy0, .int cy1, .int ds, .ref m4, .ref m5, .ref m6, .ref m7, .ref m8, .ref m9, .int pn, .ref m10, .ref m11, .ref m12, .ref m13])), (m10, .inl (cI, 3, .inl kx)), (m11, .inl (cI, 3, .inl ky)), (m12, .inl (cI, 3, .inl ki))]) (w1 := []) hP hD [] [0, 1, 2, 3] rfl rfl (by decide) (by decide) hk1 hFc hP1 hD1
          clear hz1 hk1 hFc hKc hDc hPc
          generalize H1 = H at hP hS ⊢
          have hP : va_P D vwCl [(h0, .inr (9, [.ref m1, .ref m2, .ref m3, .int ik, .int wy, .int op, .int cl, .int cx0, .int cx1, .int cy0, .int cy1, .int ds, .ref m4, .ref m5, .ref m6, .ref m7, .ref m8, .ref m9, .int pn, .ref m10, .ref m11, .ref m12, .ref m13])), (m10, .inl (cI, 3, .inl kx)), (m11, .inl (cI, 3, .inl ky)), (m12, .inl (cI, 3, .inl ki))] H := hP
          have hD : va_D A [(h0, .inr (9, [.ref m1, .ref m2, .ref m3, .int ik, .int wy, .int op, .int cl, .int cx0, .int cx1, .int cy0, .int cy1, .int ds, .ref m4, .ref m5, .ref m6, .ref m7, .ref m8, .ref m9, .int pn, .ref m10, .ref m11, .ref m12, .ref m13])), (m10, .inl (cI, 3, .inl kx)), (m11, .inl (cI, 3, .inl ky)), (m12, .inl (cI, 3, .inl ki))] := hD
          refine lv_imul hx hb dX9_mixed_161 ?_
          refine lv_topi (fun y_60 ey_60 => ?_)
          refine lv_iadd hx hb dX9_mixed_162 ?_
          refine lv_topi (fun y_61 ey_61 => ?_)
          refine lv_iload hx hb dX9_mixed_163 (lv_at hl 2 rfl) ?_
          refine lv_aload_n hx hb dX9_mixed_165 rfl (lv_at hl 5 rfl) ?_
          refine va_get (D := D) (ci := 9) (v := .ref m12) (C := RX9) (T := TX9) (N := 23) hx hb hts hi_X9 hown hK hP 0 rfl rfl 21 (by decide) (hts _ bw_412) (fun _ h9 => h9) rfl dX9_mixed_166 ?_
          refine lv_iconst (v := 2) hx hb dX9_mixed_169 (by decide) ?_
          refine va_iald hx hb hK hP 3 0 rfl rfl (my_in (by decide) (by decide)) dX9_mixed_170 ?_
          refine my_fold (v := ki 2) (congrArg ki (by decide)) ?_
          refine lv_iload hx hb dX9_mixed_171 (lv_at hl 0 rfl) ?_
          have hPc := hP.sub (ws' := []) [] rfl
          have hDc := hD.sub (ws' := []) [] (by decide) rfl
          have hKc := hK.sub (tys' := []) [] rfl
          have hFc := va_free (wc := []) hD hS hA [] rfl
          refine va_calli (va_runS (As := [.int (ki 2), .int 3]) (rest := [.int r_15, .int y_61, .int y_56]) ⟨hx, hb, hml, hown, hts⟩ (k_X9_channel_3 l D H.size (ki 2)) (va_cwS 2 hts (gS bw_441 bw_438 bw_391 bw_437) rfl rfl rfl (by decide +kernel) ⟨(by rw [hR]; exact Nat.le_of_ble_eq_true rfl), (by rw [hR]; exact Nat.le_of_ble_eq_true rfl)⟩) ⟨cP_blind, cP_at hPc hKc hDc hN⟩ rfl rfl hl.1 rfl (lv_room (Nat.le_of_ble_eq_true rfl)) dX9_mixed_173 ⟨(by rw [hR]; exact Nat.le_of_ble_eq_true rfl), (by rw [hR]; exact Nat.le_of_ble_eq_true rfl)⟩) hS (fun q _ h => hFc q h) hFc (fun r_62 u9 t9 H1 locs ht hvm hr_62 hB hz1 hk1 hS => ?_)
          try dsimp only at hr_62
          have hP1 : va_P D vwCl [] H1 := vP_nil
          have hD1 : va_D (va_A [] H.size) [] := vD_nil
          obtain ⟨hP, hD⟩ := va_join (wr := [(h0, .inr (9, [.ref m1, .ref m2, .ref m3, .int ik, .int wy, .int op, .int cl, .int cx0, .int cx1, .int cy0, .int cy1, .int ds, .ref m4, .ref m5, .ref m6, .ref m7, .ref m8, .ref m9, .int pn, .ref m10, .ref m11, .ref m12, .ref m13])), (m10, .inl (cI, 3, .inl kx)), (m11, .inl (cI, 3, .inl ky)), (m12, .inl (cI, 3, .inl ki))]) (w1 := []) hP hD [] [0, 1, 2, 3] rfl rfl (by decide) (by decide) hk1 hFc hP1 hD1
          clear hz1 hk1 hFc hKc hDc hPc
          generalize H1 = H at hP hS ⊢
          have hP : va_P D vwCl [(h0, .inr (9, [.ref m1, .ref m2, .ref m3, .int ik, .int wy, .int op, .int cl, .int cx0, .int cx1, .int cy0, .int cy1, .int ds, .ref m4, .ref m5, .ref m6, .ref m7, .ref m8, .ref m9, .int pn, .ref m10, .ref m11, .ref m12, .ref m13])), (m10, .inl (cI, 3, .inl kx)), (m11, .inl (cI, 3, .inl ky)), (m12, .inl (cI, 3, .inl ki))] H := hP
          have hD : va_D A [(h0, .inr (9, [.ref m1, .ref m2, .ref m3, .int ik, .int wy, .int op, .int cl, .int cx0, .int cx1, .int cy0, .int cy1, .int ds, .ref m4, .ref m5, .ref m6, .ref m7, .ref m8, .ref m9, .int pn, .ref m10, .ref m11, .ref m12, .ref m13])), (m10, .inl (cI, 3, .inl kx)), (m11, .inl (cI, 3, .inl ky)), (m12, .inl (cI, 3, .inl ki))] := hD
          refine lv_imul hx hb dX9_mixed_176 ?_
          refine lv_topi (fun y_63 ey_63 => ?_)
          refine lv_iadd hx hb dX9_mixed_177 ?_
          refine lv_topi (fun y_64 ey_64 => ?_)
          refine lv_iload_n hx hb dX9_mixed_178 rfl (lv_at hl 8 rfl) ?_
          refine lv_idiv hx hb dX9_mixed_179 hw9 ?_
          refine lv_topi (fun y_65 ey_65 => ?_)
          refine lv_ior hx hb dX9_mixed_180 ?_
          refine lv_topi (fun y_66 ey_66 => ?_)
          refine lv_istore (lv' := [(7, .int y_66), (8, .int 3), (6, .int r_15), (5, .int r_10), (4, .int r_5), (0, .ref h0), (1, .int u), (2, .int v), (3, .int w9)]) hx hb dX9_mixed_181 hl (by decide) rfl (fun ls hl => ?_)
          refine lv_iinc (v := 4) (lv' := [(8, .int 4), (7, .int y_66), (6, .int r_15), (5, .int r_10), (4, .int r_5), (0, .ref h0), (1, .int u), (2, .int v), (3, .int w9)]) hx hb dX9_mixed_183 hl (k := 1) rfl (by decide) (by decide) rfl (fun ls hl => ?_)
          refine lv_goto (tgt := 123) hx hb dX9_mixed_186 (by decide) ?_
          refine lv_iload hx hb dX9_mixed_123 (lv_at hl 0 rfl) ?_
          refine lv_iconst (v := 4) hx hb dX9_mixed_125 (by decide) ?_
          refine lv_icmp_ge (tgt := 189) hx hb dX9_mixed_126 (by decide) (fun c_67 => ?_) (fun c_67 => ?_)
          · skip
            refine lv_iload hx hb dX9_mixed_189 (lv_at hl 1 rfl) ?_
            have hP9 := hP.sub (ws' := [(h0, .inr (9, [.ref m1, .ref m2, .ref m3, .int ik, .int wy, .int op, .int cl, .int cx0, .int cx1, .int cy0, .int cy1, .int ds, .ref m4, .ref m5, .ref m6, .ref m7, .ref m8, .ref m9, .int pn, .ref m10, .ref m11, .ref m12, .ref m13])), (m10, .inl (cI, 3, .inl kx)), (m11, .inl (cI, 3, .inl ky)), (m12, .inl (cI, 3, .inl ki))]) [0, 1, 2, 3] rfl
            have hD9 := hD.sub (ws' := [(h0, .inr (9, [.ref m1, .ref m2, .ref m3, .int ik, .int wy, .int op, .int cl, .int cx0, .int cx1, .int cy0, .int cy1, .int ds, .ref m4, .ref m5, .ref m6, .ref m7, .ref m8, .ref m9, .int pn, .ref m10, .ref m11, .ref m12, .ref m13])), (m10, .inl (cI, 3, .inl kx)), (m11, .inl (cI, 3, .inl ky)), (m12, .inl (cI, 3, .inl ki))]) [0, 1, 2, 3] (by decide) rfl
            have hK9 := hK.sub (tys' := [(cI, .int)]) [0] rfl
            refine hQ _ _ _ _ _ ?_
            exact W.iret (v := y_66) hx hb hr (fun t ht hW => ⟨⟨y_66, (), rfl, (by unfold mdP mxV mxC; subst_vars; rfl), ⟨by rw [ht]; exact hP9, va_K.moved hW.alike hK9, hD9⟩⟩, hS.F ht⟩) hS.2.2 dX9_mixed_191
          · skip
            exact absurd c_67 (by decide)

set_option maxHeartbeats 4000000 in
set_option maxRecDepth 100000 in
theorem k_X9_shade_ye (l : Launch) (D : va_G) (sz : Nat) (h0 m1 m2 m3 m4 m5 m6 m7 m8 m9 m10 m11 m12 m13 : Nat) (ik wy op cl cx0 cx1 cy0 cy1 ds pn : Int32) (gw : Nat → Int32) (gh : Nat → Int32) (gd : Nat → Int32) (gm : Nat → Int32) (ge : Nat → Int32) (gv : Nat → Int32) (kx : Nat → Int32) (ky : Nat → Int32) (ki : Nat → Int32) (k : Int32) (cI : ClassId) (cZ : ClassId) (hk : 0 ≤ k.toInt ∧ k.toInt ≤ 3) (hgw : 0 ≤ (gw k.toNatClampNeg).toInt ∧ (gw k.toNatClampNeg).toInt ≤ 64) (hgh : 0 ≤ (gh k.toNatClampNeg).toInt ∧ (gh k.toNatClampNeg).toInt ≤ 64) (hwy : 0 ≤ wy.toInt ∧ wy.toInt ≤ 12) (hgp : 0 < (gw k.toNatClampNeg).toInt) (htb : ∀ j : Nat, j < 3 → (-200 ≤ (kx j).toInt ∧ (kx j).toInt ≤ 200) ∧ (-200 ≤ (ky j).toInt ∧ (ky j).toInt ≤ 200)) : Met l yX9_shade (wB yX9_shade cX9_shade 5 (some .int)) ({ frames := 3, cells := 0, slots := 0, locals := 73 }) (cP D [(h0, .inr (9, [.ref m1, .ref m2, .ref m3, .int ik, .int wy, .int op, .int cl, .int cx0, .int cx1, .int cy0, .int cy1, .int ds, .ref m4, .ref m5, .ref m6, .ref m7, .ref m8, .ref m9, .int pn, .ref m10, .ref m11, .ref m12, .ref m13])), (m1, .inl (cI, 4, .inl gw)), (m2, .inl (cI, 4, .inl gh)), (m3, .inl (cI, 16384, .inl gd)), (m4, .inl (cZ, 4096, .inl gm)), (m5, .inl (cI, 4096, .inl ge)), (m6, .inl (cI, 4096, .inl gv)), (m10, .inl (cI, 3, .inl kx)), (m11, .inl (cI, 3, .inl ky)), (m12, .inl (cI, 3, .inl ki))] [(cI, .int), (cZ, .boolean)] sz [.ref h0, .int k]) (va_Qi (fun (r : Int32) (_ : Unit) => r = nI (cntP ((sjL kx ky ki op (gw k.toNatClampNeg).toNatClampNeg (gh k.toNatClampNeg).toNatClampNeg).foldl (mkF (gw k.toNatClampNeg) (gh k.toNatClampNeg) cl cx0 cx1 cy0 cy1) (zrN gm 4096, ge, gv)).1 4096)) (fun (_ : Unit) (t : State) => cB D (va_A [(h0, .inr (9, [.ref m1, .ref m2, .ref m3, .int ik, .int wy, .int op, .int cl, .int cx0, .int cx1, .int cy0, .int cy1, .int ds, .ref m4, .ref m5, .ref m6, .ref m7, .ref m8, .ref m9, .int pn, .ref m10, .ref m11, .ref m12, .ref m13])), (m1, .inl (cI, 4, .inl gw)), (m2, .inl (cI, 4, .inl gh)), (m3, .inl (cI, 16384, .inl gd)), (m4, .inl (cZ, 4096, .inl gm)), (m5, .inl (cI, 4096, .inl ge)), (m6, .inl (cI, 4096, .inl gv)), (m10, .inl (cI, 3, .inl kx)), (m11, .inl (cI, 3, .inl ky)), (m12, .inl (cI, 3, .inl ki))] sz) [(h0, .inr (9, [.ref m1, .ref m2, .ref m3, .int ik, .int wy, .int op, .int cl, .int cx0, .int cx1, .int cy0, .int cy1, .int ds, .ref m4, .ref m5, .ref m6, .ref m7, .ref m8, .ref m9, .int pn, .ref m10, .ref m11, .ref m12, .ref m13])), (m1, .inl (cI, 4, .inl gw)), (m2, .inl (cI, 4, .inl gh)), (m3, .inl (cI, 16384, .inl (lysN wy gd ((sjL kx ky ki op (gw k.toNatClampNeg).toNatClampNeg (gh k.toNatClampNeg).toNatClampNeg).foldl (mkF (gw k.toNatClampNeg) (gh k.toNatClampNeg) cl cx0 cx1 cy0 cy1) (zrN gm 4096, ge, gv)).1 ((sjL kx ky ki op (gw k.toNatClampNeg).toNatClampNeg (gh k.toNatClampNeg).toNatClampNeg).foldl (mkF (gw k.toNatClampNeg) (gh k.toNatClampNeg) cl cx0 cx1 cy0 cy1) (zrN gm 4096, ge, gv)).2.1 ((sjL kx ky ki op (gw k.toNatClampNeg).toNatClampNeg (gh k.toNatClampNeg).toNatClampNeg).foldl (mkF (gw k.toNatClampNeg) (gh k.toNatClampNeg) cl cx0 cx1 cy0 cy1) (zrN gm 4096, ge, gv)).2.2 k.toNatClampNeg 4096))), (m4, .inl (cZ, 4096, .inl (((sjL kx ky ki op (gw k.toNatClampNeg).toNatClampNeg (gh k.toNatClampNeg).toNatClampNeg).foldl (mkF (gw k.toNatClampNeg) (gh k.toNatClampNeg) cl cx0 cx1 cy0 cy1) (zrN gm 4096, ge, gv)).1))), (m5, .inl (cI, 4096, .inl (((sjL kx ky ki op (gw k.toNatClampNeg).toNatClampNeg (gh k.toNatClampNeg).toNatClampNeg).foldl (mkF (gw k.toNatClampNeg) (gh k.toNatClampNeg) cl cx0 cx1 cy0 cy1) (zrN gm 4096, ge, gv)).2.1))), (m6, .inl (cI, 4096, .inl (((sjL kx ky ki op (gw k.toNatClampNeg).toNatClampNeg (gh k.toNatClampNeg).toNatClampNeg).foldl (mkF (gw k.toNatClampNeg) (gh k.toNatClampNeg) cl cx0 cx1 cy0 cy1) (zrN gm 4096, ge, gv)).2.2))), (m10, .inl (cI, 3, .inl kx)), (m11, .inl (cI, 3, .inl ky)), (m12, .inl (cI, 3, .inl ki))] [(cI, .int), (cZ, .boolean)] t) (va_A [(h0, .inr (9, [.ref m1, .ref m2, .ref m3, .int ik, .int wy, .int op, .int cl, .int cx0, .int cx1, .int cy0, .int cy1, .int ds, .ref m4, .ref m5, .ref m6, .ref m7, .ref m8, .ref m9, .int pn, .ref m10, .ref m11, .ref m12, .ref m13])), (m1, .inl (cI, 4, .inl gw)), (m2, .inl (cI, 4, .inl gh)), (m3, .inl (cI, 16384, .inl gd)), (m4, .inl (cZ, 4096, .inl gm)), (m5, .inl (cI, 4096, .inl ge)), (m6, .inl (cI, 4096, .inl gv)), (m10, .inl (cI, 3, .inl kx)), (m11, .inl (cI, 3, .inl ky)), (m12, .inl (cI, 3, .inl ki))] sz)) 0 0 (va_A [(h0, .inr (9, [.ref m1, .ref m2, .ref m3, .int ik, .int wy, .int op, .int cl, .int cx0, .int cx1, .int cy0, .int cy1, .int ds, .ref m4, .ref m5, .ref m6, .ref m7, .ref m8, .ref m9, .int pn, .ref m10, .ref m11, .ref m12, .ref m13])), (m1, .inl (cI, 4, .inl gw)), (m2, .inl (cI, 4, .inl gh)), (m3, .inl (cI, 16384, .inl gd)), (m4, .inl (cZ, 4096, .inl gm)), (m5, .inl (cI, 4096, .inl ge)), (m6, .inl (cI, 4096, .inl gv)), (m10, .inl (cI, 3, .inl kx)), (m11, .inl (cI, 3, .inl ky)), (m12, .inl (cI, 3, .inl ki))] sz) := by
  refine Met.ofW (cc := cX9_shade) (maxL := 5) (ret := (some .int)) (by decide) rfl ?_
  intro p e s m args below meth c s₁ B hml hv
  obtain ⟨rfl, hsz, hP, hK, hD0, hN⟩ := hv
  have hx := B.exec
  have hb := B.bytes
  have hr := B.returns
  have hts0 := atoms_spec (ws := (wB yX9_shade cX9_shade 5 (some .int))) B.pre
  have hts : ∀ w ∈ bigW, w.before _ s = true := fun w h => hts0 w (List.mem_cons_of_mem _ h)
  have hown : s.vm.findClass RX9 = some m.cls := findClass_of_methodNamed B.named
  have hlocks := B.notSynchronized
  subst hsz
  have hD := hD0.self (sz := s.heap.size)
  generalize hAe : va_A [(h0, .inr (9, [.ref m1, .ref m2, .ref m3, .int ik, .int wy, .int op, .int cl, .int cx0, .int cx1, .int cy0, .int cy1, .int ds, .ref m4, .ref m5, .ref m6, .ref m7, .ref m8, .ref m9, .int pn, .ref m10, .ref m11, .ref m12, .ref m13])), (m1, .inl (cI, 4, .inl gw)), (m2, .inl (cI, 4, .inl gh)), (m3, .inl (cI, 16384, .inl gd)), (m4, .inl (cZ, 4096, .inl gm)), (m5, .inl (cI, 4096, .inl ge)), (m6, .inl (cI, 4096, .inl gv)), (m10, .inl (cI, 3, .inl kx)), (m11, .inl (cI, 3, .inl ky)), (m12, .inl (cI, 3, .inl ki))] s.heap.size = A at hD ⊢
  have hA : ∀ q : Nat, s.heap.size ≤ q → A q := fun q h => by rw [← hAe]; exact Or.inr h
  have hS : va_S A s.heap s.heap [] := va_S.rf
  have hP : va_P D vwCl [(h0, .inr (9, [.ref m1, .ref m2, .ref m3, .int ik, .int wy, .int op, .int cl, .int cx0, .int cx1, .int cy0, .int cy1, .int ds, .ref m4, .ref m5, .ref m6, .ref m7, .ref m8, .ref m9, .int pn, .ref m10, .ref m11, .ref m12, .ref m13])), (m1, .inl (cI, 4, .inl gw)), (m2, .inl (cI, 4, .inl gh)), (m3, .inl (cI, 16384, .inl gd)), (m4, .inl (cZ, 4096, .inl gm)), (m5, .inl (cI, 4096, .inl ge)), (m6, .inl (cI, 4096, .inl gv)), (m10, .inl (cI, 3, .inl kx)), (m11, .inl (cI, 3, .inl ky)), (m12, .inl (cI, 3, .inl ki))] s.heap := hP
  have hl := lv_entry ([.ref h0, .int k]) (n := 5) (Nat.le_of_ble_eq_true rfl)
  rw [lg_entry_eq]
  generalize (lg_sl ([.ref h0, .int k]) ++ List.replicate (5 - (lg_sl ([.ref h0, .int k])).length) Slot.unset).toArray = ls at hl ⊢
  have hl : lv_has ls 5 [(0, .ref h0), (1, .int k)] := hl
  clear hts0 hD0 hAe
  refine my_abs (fun R Q hR hQ => ?_)
  obtain ⟨W9, hW9, eW9⟩ := i_of (x := gw k.toNatClampNeg) (N := 65) (by omega) (by omega) (by decide)
  have eW9n : (gw k.toNatClampNeg).toNatClampNeg = W9 := by rw [eW9]; exact nI_clamp (by omega)
  have hW9t : (gw k.toNatClampNeg).toInt = (W9 : Int) := by rw [eW9]; exact nI_toInt (by omega)
  obtain ⟨H9, hH9, eH9⟩ := i_of (x := gh k.toNatClampNeg) (N := 65) (by omega) (by omega) (by decide)
  have eH9n : (gh k.toNatClampNeg).toNatClampNeg = H9 := by rw [eH9]; exact nI_clamp (by omega)
  have hH9t : (gh k.toNatClampNeg).toInt = (H9 : Int) := by rw [eH9]; exact nI_toInt (by omega)
  refine lv_aload_n hx hb dX9_shade_0 rfl (lv_at hl 0 rfl) ?_
  refine lv_iload_n hx hb dX9_shade_1 rfl (lv_at hl 1 rfl) ?_
  have hPc := hP.sub (ws' := [(h0, .inr (9, [.ref m1, .ref m2, .ref m3, .int ik, .int wy, .int op, .int cl, .int cx0, .int cx1, .int cy0, .int cy1, .int ds, .ref m4, .ref m5, .ref m6, .ref m7, .ref m8, .ref m9, .int pn, .ref m10, .ref m11, .ref m12, .ref m13])), (m1, .inl (cI, 4, .inl gw))]) [0, 1] rfl
  have hDc := hD.sub (ws' := [(h0, .inr (9, [.ref m1, .ref m2, .ref m3, .int ik, .int wy, .int op, .int cl, .int cx0, .int cx1, .int cy0, .int cy1, .int ds, .ref m4, .ref m5, .ref m6, .ref m7, .ref m8, .ref m9, .int pn, .ref m10, .ref m11, .ref m12, .ref m13])), (m1, .inl (cI, 4, .inl gw))]) [0, 1] (by decide) rfl
  have hKc := hK.sub (tys' := [(cI, .int)]) [0] rfl
  have hFc := va_free (wc := [(h0, .inr (9, [.ref m1, .ref m2, .ref m3, .int ik, .int wy, .int op, .int cl, .int cx0, .int cx1, .int cy0, .int cy1, .int ds, .ref m4, .ref m5, .ref m6, .ref m7, .ref m8, .ref m9, .int pn, .ref m10, .ref m11, .ref m12, .ref m13])), (m1, .inl (cI, 4, .inl gw))]) hD hS hA [0, 1] rfl
  refine va_calli (va_runV (As := [.int k]) (rest := []) ⟨hx, hb, hml, hown, hts⟩ (k_X9_isSheet l D s.heap.size h0 m1 m2 m3 m4 m5 m6 m7 m8 m9 m10 m11 m12 m13 ik wy op cl cx0 cx1 cy0 cy1 ds pn gw k cI) (cwV 1 hts (gV bw_490 bw_415 bw_416 bw_391 bw_414) rfl rfl rfl (by decide +kernel) ⟨(by rw [hR]; exact Nat.le_of_ble_eq_true rfl), (by rw [hR]; exact Nat.le_of_ble_eq_true rfl)⟩) ⟨cP_blind, va_recv hKc hPc (ci := 9) (q0 := 0) rfl rfl, cP_at hPc hKc hDc hN⟩ rfl rfl hl.1 rfl (lv_room (Nat.le_of_ble_eq_true rfl)) dX9_shade_2 ⟨(by rw [hR]; exact Nat.le_of_ble_eq_true rfl), (by rw [hR]; exact Nat.le_of_ble_eq_true rfl)⟩) hS (fun q _ h => hFc q h) hFc (fun r_1 u9 t9 H1 locs ht hvm hr_1 hB hz1 hk1 hS => ?_)
  try dsimp only at hr_1
  obtain ⟨hP1, hK1, hD1⟩ := hB
  rw [ht] at hP1
  obtain ⟨hP, hD⟩ := va_join (wr := [(m2, .inl (cI, 4, .inl gh)), (m3, .inl (cI, 16384, .inl gd)), (m4, .inl (cZ, 4096, .inl gm)), (m5, .inl (cI, 4096, .inl ge)), (m6, .inl (cI, 4096, .inl gv)), (m10, .inl (cI, 3, .inl kx)), (m11, .inl (cI, 3, .inl ky)), (m12, .inl (cI, 3, .inl ki))]) (w1 := [(h0, .inr (9, [.ref m1, .ref m2, .ref m3, .int ik, .int wy, .int op, .int cl, .int cx0, .int cx1, .int cy0, .int cy1, .int ds, .ref m4, .ref m5, .ref m6, .ref m7, .ref m8, .ref m9, .int pn, .ref m10, .ref m11, .ref m12, .ref m13])), (m1, .inl (cI, 4, .inl gw))]) hP hD [0, 1] [2, 3, 4, 5, 6, 7, 8, 9] rfl rfl (by decide) (by decide) hk1 hFc hP1 hD1
  clear hz1 hk1 hFc hKc hDc hPc
  generalize H1 = H at hP hS ⊢
  have hP : va_P D vwCl [(m2, .inl (cI, 4, .inl gh)), (m3, .inl (cI, 16384, .inl gd)), (m4, .inl (cZ, 4096, .inl gm)), (m5, .inl (cI, 4096, .inl ge)), (m6, .inl (cI, 4096, .inl gv)), (m10, .inl (cI, 3, .inl kx)), (m11, .inl (cI, 3, .inl ky)), (m12, .inl (cI, 3, .inl ki)), (h0, .inr (9, [.ref m1, .ref m2, .ref m3, .int ik, .int wy, .int op, .int cl, .int cx0, .int cx1, .int cy0, .int cy1, .int ds, .ref m4, .ref m5, .ref m6, .ref m7, .ref m8, .ref m9, .int pn, .ref m10, .ref m11, .ref m12, .ref m13])), (m1, .inl (cI, 4, .inl gw))] H := hP
  have hD : va_D A [(m2, .inl (cI, 4, .inl gh)), (m3, .inl (cI, 16384, .inl gd)), (m4, .inl (cZ, 4096, .inl gm)), (m5, .inl (cI, 4096, .inl ge)), (m6, .inl (cI, 4096, .inl gv)), (m10, .inl (cI, 3, .inl kx)), (m11, .inl (cI, 3, .inl ky)), (m12, .inl (cI, 3, .inl ki)), (h0, .inr (9, [.ref m1, .ref m2, .ref m3, .int ik, .int wy, .int op, .int cl, .int cx0, .int cx1, .int cy0, .int cy1, .int ds, .ref m4, .ref m5, .ref m6, .ref m7, .ref m8, .ref m9, .int pn, .ref m10, .ref m11, .ref m12, .ref m13])), (m1, .inl (cI, 4, .inl gw))] := hD
  refine lv_if_ne (tgt := 10) hx hb dX9_shade_5 (by decide) (fun c_2 => ?_) (fun c_2 => ?_)
  · skip
    have f_3 := bz1 hr_1 c_2
    refine lv_aload_n hx hb dX9_shade_10 rfl (lv_at hl 0 rfl) ?_
    have hPc := hP.sub (ws' := [(h0, .inr (9, [.ref m1, .ref m2, .ref m3, .int ik, .int wy, .int op, .int cl, .int cx0, .int cx1, .int cy0, .int cy1, .int ds, .ref m4, .ref m5, .ref m6, .ref m7, .ref m8, .ref m9, .int pn, .ref m10, .ref m11, .ref m12, .ref m13])), (m4, .inl (cZ, 4096, .inl gm))]) [8, 2] rfl
    have hDc := hD.sub (ws' := [(h0, .inr (9, [.ref m1, .ref m2, .ref m3, .int ik, .int wy, .int op, .int cl, .int cx0, .int cx1, .int cy0, .int cy1, .int ds, .ref m4, .ref m5, .ref m6, .ref m7, .ref m8, .ref m9, .int pn, .ref m10, .ref m11, .ref m12, .ref m13])), (m4, .inl (cZ, 4096, .inl gm))]) [8, 2] (by decide) rfl
    have hKc := hK.sub (tys' := [(cZ, .boolean)]) [1] rfl
    have hFc := va_free (wc := [(h0, .inr (9, [.ref m1, .ref m2, .ref m3, .int ik, .int wy, .int op, .int cl, .int cx0, .int cx1, .int cy0, .int cy1, .int ds, .ref m4, .ref m5, .ref m6, .ref m7, .ref m8, .ref m9, .int pn, .ref m10, .ref m11, .ref m12, .ref m13])), (m4, .inl (cZ, 4096, .inl gm))]) hD hS hA [8, 2] rfl
    refine va_callv (va_runV (As := []) (rest := []) ⟨hx, hb, hml, hown, hts⟩ (k_X9_begins l D H.size h0 m1 m2 m3 m4 m5 m6 m7 m8 m9 m10 m11 m12 m13 ik wy op cl cx0 cx1 cy0 cy1 ds pn gm cZ) (cwV 0 hts (gV bw_493 bw_455 bw_456 bw_391 bw_454) rfl rfl rfl (by decide +kernel) ⟨(by rw [hR]; exact Nat.le_of_ble_eq_true rfl), (by rw [hR]; exact Nat.le_of_ble_eq_true rfl)⟩) ⟨cP_blind, va_recv hKc hPc (ci := 9) (q0 := 0) rfl rfl, cP_at hPc hKc hDc hN⟩ rfl rfl hl.1 rfl (lv_room (Nat.le_of_ble_eq_true rfl)) dX9_shade_11 ⟨(by rw [hR]; exact Nat.le_of_ble_eq_true rfl), (by rw [hR]; exact Nat.le_of_ble_eq_true rfl)⟩) hS (fun q _ h => hFc q h) hFc (fun u9 t9 H1 locs ht hvm hr_4 hB hz1 hk1 hS => ?_)
    try dsimp only at hr_4
    obtain ⟨hP1, hK1, hD1⟩ := hB
    rw [ht] at hP1
    obtain ⟨hP, hD⟩ := va_join (wr := [(m2, .inl (cI, 4, .inl gh)), (m3, .inl (cI, 16384, .inl gd)), (m5, .inl (cI, 4096, .inl ge)), (m6, .inl (cI, 4096, .inl gv)), (m10, .inl (cI, 3, .inl kx)), (m11, .inl (cI, 3, .inl ky)), (m12, .inl (cI, 3, .inl ki)), (m1, .inl (cI, 4, .inl gw))]) (w1 := [(h0, .inr (9, [.ref m1, .ref m2, .ref m3, .int ik, .int wy, .int op, .int cl, .int cx0, .int cx1, .int cy0, .int cy1, .int ds, .ref m4, .ref m5, .ref m6, .ref m7, .ref m8, .ref m9, .int pn, .ref m10, .ref m11, .ref m12, .ref m13])), (m4, .inl (cZ, 4096, .inl (zrN gm 4096)))]) hP hD [8, 2] [0, 1, 3, 4, 5, 6, 7, 9] rfl rfl (by decide) (by decide) hk1 hFc hP1 hD1
    clear hz1 hk1 hFc hKc hDc hPc
    generalize H1 = H at hP hS ⊢
    have hP : va_P D vwCl [(m2, .inl (cI, 4, .inl gh)), (m3, .inl (cI, 16384, .inl gd)), (m5, .inl (cI, 4096, .inl ge)), (m6, .inl (cI, 4096, .inl gv)), (m10, .inl (cI, 3, .inl kx)), (m11, .inl (cI, 3, .inl ky)), (m12, .inl (cI, 3, .inl ki)), (m1, .inl (cI, 4, .inl gw)), (h0, .inr (9, [.ref m1, .ref m2, .ref m3, .int ik, .int wy, .int op, .int cl, .int cx0, .int cx1, .int cy0, .int cy1, .int ds, .ref m4, .ref m5, .ref m6, .ref m7, .ref m8, .ref m9, .int pn, .ref m10, .ref m11, .ref m12, .ref m13])), (m4, .inl (cZ, 4096, .inl (zrN gm 4096)))] H := hP
    have hD : va_D A [(m2, .inl (cI, 4, .inl gh)), (m3, .inl (cI, 16384, .inl gd)), (m5, .inl (cI, 4096, .inl ge)), (m6, .inl (cI, 4096, .inl gv)), (m10, .inl (cI, 3, .inl kx)), (m11, .inl (cI, 3, .inl ky)), (m12, .inl (cI, 3, .inl ki)), (m1, .inl (cI, 4, .inl gw)), (h0, .inr (9, [.ref m1, .ref m2, .ref m3, .int ik, .int wy, .int op, .int cl, .int cx0, .int cx1, .int cy0, .int cy1, .int ds, .ref m4, .ref m5, .ref m6, .ref m7, .ref m8, .ref m9, .int pn, .ref m10, .ref m11, .ref m12, .ref m13])), (m4, .inl (cZ, 4096, .inl (zrN gm 4096)))] := hD
    refine lv_iconst (v := 2) hx hb dX9_shade_14 (by decide) ?_
    refine lv_aload_n hx hb dX9_shade_15 rfl (lv_at hl 0 rfl) ?_
    refine va_get (D := D) (ci := 9) (v := .ref m10) (C := RX9) (T := TX9) (N := 23) hx hb hts hi_X9 hown hK hP 8 rfl rfl 19 (by decide) (hts _ bw_410) (fun _ h9 => h9) rfl dX9_shade_16 ?_
    refine lv_iconst (v := 0) hx hb dX9_shade_19 (by decide) ?_
    refine va_iald hx hb hK hP 4 0 rfl rfl (my_in (by decide) (by decide)) dX9_shade_20 ?_
    refine my_fold (v := kx 0) (congrArg kx (by decide)) ?_
    refine lv_imul hx hb dX9_shade_21 ?_
    refine lv_topi (fun y_5 ey_5 => ?_)
    refine lv_iconst (v := 2) hx hb dX9_shade_22 (by decide) ?_
    refine lv_aload_n hx hb dX9_shade_23 rfl (lv_at hl 0 rfl) ?_
    refine va_get (D := D) (ci := 9) (v := .ref m11) (C := RX9) (T := TX9) (N := 23) hx hb hts hi_X9 hown hK hP 8 rfl rfl 20 (by decide) (hts _ bw_411) (fun _ h9 => h9) rfl dX9_shade_24 ?_
    refine lv_iconst (v := 0) hx hb dX9_shade_27 (by decide) ?_
    refine va_iald hx hb hK hP 5 0 rfl rfl (my_in (by decide) (by decide)) dX9_shade_28 ?_
    refine my_fold (v := ky 0) (congrArg ky (by decide)) ?_
    refine lv_imul hx hb dX9_shade_29 ?_
    refine lv_topi (fun y_6 ey_6 => ?_)
    refine lv_iconst (v := 2) hx hb dX9_shade_30 (by decide) ?_
    refine lv_aload_n hx hb dX9_shade_31 rfl (lv_at hl 0 rfl) ?_
    refine va_get (D := D) (ci := 9) (v := .ref m10) (C := RX9) (T := TX9) (N := 23) hx hb hts hi_X9 hown hK hP 8 rfl rfl 19 (by decide) (hts _ bw_410) (fun _ h9 => h9) rfl dX9_shade_32 ?_
    refine lv_iconst (v := 1) hx hb dX9_shade_35 (by decide) ?_
    refine va_iald hx hb hK hP 4 0 rfl rfl (my_in (by decide) (by decide)) dX9_shade_36 ?_
    refine my_fold (v := kx 1) (congrArg kx (by decide)) ?_
    refine lv_imul hx hb dX9_shade_37 ?_
    refine lv_topi (fun y_7 ey_7 => ?_)
    refine lv_iconst (v := 2) hx hb dX9_shade_38 (by decide) ?_
    refine lv_aload_n hx hb dX9_shade_39 rfl (lv_at hl 0 rfl) ?_
    refine va_get (D := D) (ci := 9) (v := .ref m11) (C := RX9) (T := TX9) (N := 23) hx hb hts hi_X9 hown hK hP 8 rfl rfl 20 (by decide) (hts _ bw_411) (fun _ h9 => h9) rfl dX9_shade_40 ?_
    refine lv_iconst (v := 1) hx hb dX9_shade_43 (by decide) ?_
    refine va_iald hx hb hK hP 5 0 rfl rfl (my_in (by decide) (by decide)) dX9_shade_44 ?_
    refine my_fold (v := ky 1) (congrArg ky (by decide)) ?_
    refine lv_imul hx hb dX9_shade_45 ?_
    refine lv_topi (fun y_8 ey_8 => ?_)
    refine lv_iconst (v := 2) hx hb dX9_shade_46 (by decide) ?_
    refine lv_aload_n hx hb dX9_shade_47 rfl (lv_at hl 0 rfl) ?_
    refine va_get (D := D) (ci := 9) (v := .ref m10) (C := RX9) (T := TX9) (N := 23) hx hb hts hi_X9 hown hK hP 8 rfl rfl 19 (by decide) (hts _ bw_410) (fun _ h9 => h9) rfl dX9_shade_48 ?_
    refine lv_iconst (v := 2) hx hb dX9_shade_51 (by decide) ?_
    refine va_iald hx hb hK hP 4 0 rfl rfl (my_in (by decide) (by decide)) dX9_shade_52 ?_
    refine my_fold (v := kx 2) (congrArg kx (by decide)) ?_
    refine lv_imul hx hb dX9_shade_53 ?_
    refine lv_topi (fun y_9 ey_9 => ?_)
    refine lv_iconst (v := 2) hx hb dX9_shade_54 (by decide) ?_
    refine lv_aload_n hx hb dX9_shade_55 rfl (lv_at hl 0 rfl) ?_
    refine va_get (D := D) (ci := 9) (v := .ref m11) (C := RX9) (T := TX9) (N := 23) hx hb hts hi_X9 hown hK hP 8 rfl rfl 20 (by decide) (hts _ bw_411) (fun _ h9 => h9) rfl dX9_shade_56 ?_
    refine lv_iconst (v := 2) hx hb dX9_shade_59 (by decide) ?_
    refine va_iald hx hb hK hP 5 0 rfl rfl (my_in (by decide) (by decide)) dX9_shade_60 ?_
    refine my_fold (v := ky 2) (congrArg ky (by decide)) ?_
    refine lv_imul hx hb dX9_shade_61 ?_
    refine lv_topi (fun y_10 ey_10 => ?_)
    have hPc := hP.sub (ws' := []) [] rfl
    have hDc := hD.sub (ws' := []) [] (by decide) rfl
    have hKc := hK.sub (tys' := []) [] rfl
    have hFc := va_free (wc := []) hD hS hA [] rfl
    refine va_calli (va_runS (As := [.int y_5, .int y_6, .int y_7, .int y_8, .int y_9, .int y_10]) (rest := []) ⟨hx, hb, hml, hown, hts⟩ (k_X9_area_e l D H.size y_5 y_6 y_7 y_8 y_9 y_10) (va_cwS 6 hts (gS bw_542 bw_535 bw_391 bw_534) rfl rfl rfl (by decide +kernel) ⟨(by rw [hR]; exact Nat.le_of_ble_eq_true rfl), (by rw [hR]; exact Nat.le_of_ble_eq_true rfl)⟩) ⟨cP_blind, cP_at hPc hKc hDc hN⟩ rfl rfl hl.1 rfl (lv_room (Nat.le_of_ble_eq_true rfl)) dX9_shade_62 ⟨(by rw [hR]; exact Nat.le_of_ble_eq_true rfl), (by rw [hR]; exact Nat.le_of_ble_eq_true rfl)⟩) hS (fun q _ h => hFc q h) hFc (fun r_11 u9 t9 H1 locs ht hvm hr_11 hB hz1 hk1 hS => ?_)
    try dsimp only at hr_11
    have hP1 : va_P D vwCl [] H1 := vP_nil
    have hD1 : va_D (va_A [] H.size) [] := vD_nil
    obtain ⟨hP, hD⟩ := va_join (wr := [(m2, .inl (cI, 4, .inl gh)), (m3, .inl (cI, 16384, .inl gd)), (m5, .inl (cI, 4096, .inl ge)), (m6, .inl (cI, 4096, .inl gv)), (m10, .inl (cI, 3, .inl kx)), (m11, .inl (cI, 3, .inl ky)), (m12, .inl (cI, 3, .inl ki)), (m1, .inl (cI, 4, .inl gw)), (h0, .inr (9, [.ref m1, .ref m2, .ref m3, .int ik, .int wy, .int op, .int cl, .int cx0, .int cx1, .int cy0, .int cy1, .int ds, .ref m4, .ref m5, .ref m6, .ref m7, .ref m8, .ref m9, .int pn, .ref m10, .ref m11, .ref m12, .ref m13])), (m4, .inl (cZ, 4096, .inl (zrN gm 4096)))]) (w1 := []) hP hD [] [0, 1, 2, 3, 4, 5, 6, 7, 8, 9] rfl rfl (by decide) (by decide) hk1 hFc hP1 hD1
    clear hz1 hk1 hFc hKc hDc hPc
    generalize H1 = H at hP hS ⊢
    have hP : va_P D vwCl [(m2, .inl (cI, 4, .inl gh)), (m3, .inl (cI, 16384, .inl gd)), (m5, .inl (cI, 4096, .inl ge)), (m6, .inl (cI, 4096, .inl gv)), (m10, .inl (cI, 3, .inl kx)), (m11, .inl (cI, 3, .inl ky)), (m12, .inl (cI, 3, .inl ki)), (m1, .inl (cI, 4, .inl gw)), (h0, .inr (9, [.ref m1, .ref m2, .ref m3, .int ik, .int wy, .int op, .int cl, .int cx0, .int cx1, .int cy0, .int cy1, .int ds, .ref m4, .ref m5, .ref m6, .ref m7, .ref m8, .ref m9, .int pn, .ref m10, .ref m11, .ref m12, .ref m13])), (m4, .inl (cZ, 4096, .inl (zrN gm 4096)))] H := hP
    have hD : va_D A [(m2, .inl (cI, 4, .inl gh)), (m3, .inl (cI, 16384, .inl gd)), (m5, .inl (cI, 4096, .inl ge)), (m6, .inl (cI, 4096, .inl gv)), (m10, .inl (cI, 3, .inl kx)), (m11, .inl (cI, 3, .inl ky)), (m12, .inl (cI, 3, .inl ki)), (m1, .inl (cI, 4, .inl gw)), (h0, .inr (9, [.ref m1, .ref m2, .ref m3, .int ik, .int wy, .int op, .int cl, .int cx0, .int cx1, .int cy0, .int cy1, .int ds, .ref m4, .ref m5, .ref m6, .ref m7, .ref m8, .ref m9, .int pn, .ref m10, .ref m11, .ref m12, .ref m13])), (m4, .inl (cZ, 4096, .inl (zrN gm 4096)))] := hD
    have hwA : r_11 = wA kx ky := by rw [hr_11, ey_5, ey_6, ey_7, ey_8, ey_9, ey_10]; rfl
    refine lv_istore_n (lv' := [(2, .int r_11), (0, .ref h0), (1, .int k)]) hx hb dX9_shade_65 rfl hl (by decide) rfl (fun ls hl => ?_)
    refine lv_iload_n hx hb dX9_shade_66 rfl (lv_at hl 0 rfl) ?_
    refine lv_if_ne (tgt := 72) hx hb dX9_shade_67 (by decide) (fun c_12 => ?_) (fun c_12 => ?_)
    · skip
      have f_13 : ¬ (r_11.toInt = 0) := fn_eq rfl (by decide) c_12
      refine lv_iconst (v := 0) hx hb dX9_shade_72 (by decide) ?_
      refine lv_istore_n (lv' := [(3, .int 0), (2, .int r_11), (0, .ref h0), (1, .int k)]) hx hb dX9_shade_73 rfl hl (by decide) rfl (fun ls hl => ?_)
      have loop_14 : ∀ (n : Nat) (j : Nat) (x3 : Int32) (ga : Nat → Int32) (gb : Nat → Int32) (gc : Nat → Int32) (H : Heap) (locs : List Loc) (ls : Array Slot), (j ≤ 64) → (64 + 1 ≤ j + n) → (x3 = nI j) → (j ≤ H9) → (((ga, gb, gc) : M3) = (gL (sjQ kx ky ki op) W9 j).foldl (mkF (gw k.toNatClampNeg) (gh k.toNatClampNeg) cl cx0 cx1 cy0 cy1) (zrN gm 4096, ge, gv)) → va_P D vwCl [(m2, .inl (cI, 4, .inl gh)), (m3, .inl (cI, 16384, .inl gd)), (m5, .inl (cI, 4096, .inl gb)), (m6, .inl (cI, 4096, .inl gc)), (m10, .inl (cI, 3, .inl kx)), (m11, .inl (cI, 3, .inl ky)), (m12, .inl (cI, 3, .inl ki)), (m1, .inl (cI, 4, .inl gw)), (h0, .inr (9, [.ref m1, .ref m2, .ref m3, .int ik, .int wy, .int op, .int cl, .int cx0, .int cx1, .int cy0, .int cy1, .int ds, .ref m4, .ref m5, .ref m6, .ref m7, .ref m8, .ref m9, .int pn, .ref m10, .ref m11, .ref m12, .ref m13])), (m4, .inl (cZ, 4096, .inl ga))] H → va_D A [(m2, .inl (cI, 4, .inl gh)), (m3, .inl (cI, 16384, .inl gd)), (m5, .inl (cI, 4096, .inl gb)), (m6, .inl (cI, 4096, .inl gc)), (m10, .inl (cI, 3, .inl kx)), (m11, .inl (cI, 3, .inl ky)), (m12, .inl (cI, 3, .inl ki)), (m1, .inl (cI, 4, .inl gw)), (h0, .inr (9, [.ref m1, .ref m2, .ref m3, .int ik, .int wy, .int op, .int cl, .int cx0, .int cx1, .int cy0, .int cy1, .int ds, .ref m4, .ref m5, .ref m6, .ref m7, .ref m8, .ref m9, .int pn, .ref m10, .ref m11, .ref m12, .ref m13])), (m4, .inl (cZ, 4096, .inl ga))] → va_S A s.heap H locs → lv_has ls 5 [(3, .int x3), (2, .int r_11), (0, .ref h0), (1, .int k)] → W p l e R s m ([.ref h0, .int k] : List Value).toArray below meth c H locs 0 0 Q (F0 m 74 ls []) := by
        intro n
        induction n with
        | zero =>
          intro j x3 ga gb gc H locs ls hi_j hm_j ex_j hjo hgo hP hD hS hl
          exact absurd (show False by omega) not_false
        | succ n ih_15 =>
          intro j x3 ga gb gc H locs ls hi_j hm_j ex_j hjo hgo hP hD hS hl
          have hx_j : x3.toInt = (j : Int) := by rw [ex_j]; exact nI_toInt (by omega)
          have hc_j : x3.toNatClampNeg = j := by rw [ex_j]; exact nI_clamp (by omega)
          refine lv_iload_n hx hb dX9_shade_74 rfl (lv_at hl 0 rfl) ?_
          refine lv_aload_n hx hb dX9_shade_75 rfl (lv_at hl 2 rfl) ?_
          refine va_get (D := D) (ci := 9) (v := .ref m2) (C := RX9) (T := TX9) (N := 23) hx hb hts hi_X9 hown hK hP 8 rfl rfl 1 (by decide) (hts _ bw_397) (fun _ h9 => h9) rfl dX9_shade_76 ?_
          refine lv_iload_n hx hb dX9_shade_79 rfl (lv_at hl 3 rfl) ?_
          refine va_iald hx hb hK hP 0 0 rfl rfl (vp_in_iff.mpr ⟨by omega, by omega⟩) dX9_shade_80 ?_
          refine lv_icmp_ge (tgt := 156) hx hb dX9_shade_81 (by decide) (fun c_16 => ?_) (fun c_16 => ?_)
          · skip
            have f_17 : (gh k.toNatClampNeg).toInt ≤ (j : Int) := f_le rfl hx_j c_16
            refine lv_aload_n hx hb dX9_shade_156 rfl (lv_at hl 2 rfl) ?_
            refine lv_iload_n hx hb dX9_shade_157 rfl (lv_at hl 3 rfl) ?_
            have hPc := hP.sub (ws' := [(h0, .inr (9, [.ref m1, .ref m2, .ref m3, .int ik, .int wy, .int op, .int cl, .int cx0, .int cx1, .int cy0, .int cy1, .int ds, .ref m4, .ref m5, .ref m6, .ref m7, .ref m8, .ref m9, .int pn, .ref m10, .ref m11, .ref m12, .ref m13])), (m3, .inl (cI, 16384, .inl gd)), (m4, .inl (cZ, 4096, .inl ga)), (m5, .inl (cI, 4096, .inl gb)), (m6, .inl (cI, 4096, .inl gc))]) [8, 1, 9, 2, 3] rfl
            have hDc := hD.sub (ws' := [(h0, .inr (9, [.ref m1, .ref m2, .ref m3, .int ik, .int wy, .int op, .int cl, .int cx0, .int cx1, .int cy0, .int cy1, .int ds, .ref m4, .ref m5, .ref m6, .ref m7, .ref m8, .ref m9, .int pn, .ref m10, .ref m11, .ref m12, .ref m13])), (m3, .inl (cI, 16384, .inl gd)), (m4, .inl (cZ, 4096, .inl ga)), (m5, .inl (cI, 4096, .inl gb)), (m6, .inl (cI, 4096, .inl gc))]) [8, 1, 9, 2, 3] (by decide) rfl
            have hKc := hK.sub (tys' := [(cI, .int), (cZ, .boolean)]) [0, 1] rfl
            have hFc := va_free (wc := [(h0, .inr (9, [.ref m1, .ref m2, .ref m3, .int ik, .int wy, .int op, .int cl, .int cx0, .int cx1, .int cy0, .int cy1, .int ds, .ref m4, .ref m5, .ref m6, .ref m7, .ref m8, .ref m9, .int pn, .ref m10, .ref m11, .ref m12, .ref m13])), (m3, .inl (cI, 16384, .inl gd)), (m4, .inl (cZ, 4096, .inl ga)), (m5, .inl (cI, 4096, .inl gb)), (m6, .inl (cI, 4096, .inl gc))]) hD hS hA [8, 1, 9, 2, 3] rfl
            refine va_calli (va_runV (As := [.int k]) (rest := []) ⟨hx, hb, hml, hown, hts⟩ (k_X9_lays l D H.size h0 m1 m2 m3 m4 m5 m6 m7 m8 m9 m10 m11 m12 m13 ik wy op cl cx0 cx1 cy0 cy1 ds pn gd ga gb gc k cI cZ (by omega) (by first | assumption | omega | decide)) (cwV 1 hts (gV bw_496 bw_462 bw_463 bw_391 bw_461) rfl rfl rfl (by decide +kernel) ⟨(by rw [hR]; exact Nat.le_of_ble_eq_true rfl), (by rw [hR]; exact Nat.le_of_ble_eq_true rfl)⟩) ⟨cP_blind, va_recv hKc hPc (ci := 9) (q0 := 0) rfl rfl, cP_at hPc hKc hDc hN⟩ rfl rfl hl.1 rfl (lv_room (Nat.le_of_ble_eq_true rfl)) dX9_shade_158 ⟨(by rw [hR]; exact Nat.le_of_ble_eq_true rfl), (by rw [hR]; exact Nat.le_of_ble_eq_true rfl)⟩) hS (fun q _ h => hFc q h) hFc (fun r_18 u9 t9 H1 locs ht hvm hr_18 hB hz1 hk1 hS => ?_)
            try dsimp only at hr_18
            obtain ⟨hP1, hK1, hD1⟩ := hB
            rw [ht] at hP1
            obtain ⟨hP, hD⟩ := va_join (wr := [(m2, .inl (cI, 4, .inl gh)), (m10, .inl (cI, 3, .inl kx)), (m11, .inl (cI, 3, .inl ky)), (m12, .inl (cI, 3, .inl ki)), (m1, .inl (cI, 4, .inl gw))]) (w1 := [(h0, .inr (9, [.ref m1, .ref m2, .ref m3, .int ik, .int wy, .int op, .int cl, .int cx0, .int cx1, .int cy0, .int cy1, .int ds, .ref m4, .ref m5, .ref m6, .ref m7, .ref m8, .ref m9, .int pn, .ref m10, .ref m11, .ref m12, .ref m13])), (m3, .inl (cI, 16384, .inl (lysN wy gd ga gb gc k.toNatClampNeg 4096))), (m4, .inl (cZ, 4096, .inl ga)), (m5, .inl (cI, 4096, .inl gb)), (m6, .inl (cI, 4096, .inl gc))]) hP hD [8, 1, 9, 2, 3] [0, 4, 5, 6, 7] rfl rfl (by decide) (by decide) hk1 hFc hP1 hD1
            clear hz1 hk1 hFc hKc hDc hPc
            generalize H1 = H at hP hS ⊢
            have hP : va_P D vwCl [(m2, .inl (cI, 4, .inl gh)), (m10, .inl (cI, 3, .inl kx)), (m11, .inl (cI, 3, .inl ky)), (m12, .inl (cI, 3, .inl ki)), (m1, .inl (cI, 4, .inl gw)), (h0, .inr (9, [.ref m1, .ref m2, .ref m3, .int ik, .int wy, .int op, .int cl, .int cx0, .int cx1, .int cy0, .int cy1, .int ds, .ref m4, .ref m5, .ref m6, .ref m7, .ref m8, .ref m9, .int pn, .ref m10, .ref m11, .ref m12, .ref m13])), (m3, .inl (cI, 16384, .inl (lysN wy gd ga gb gc k.toNatClampNeg 4096))), (m4, .inl (cZ, 4096, .inl ga)), (m5, .inl (cI, 4096, .inl gb)), (m6, .inl (cI, 4096, .inl gc))] H := hP
            have hD : va_D A [(m2, .inl (cI, 4, .inl gh)), (m10, .inl (cI, 3, .inl kx)), (m11, .inl (cI, 3, .inl ky)), (m12, .inl (cI, 3, .inl ki)), (m1, .inl (cI, 4, .inl gw)), (h0, .inr (9, [.ref m1, .ref m2, .ref m3, .int ik, .int wy, .int op, .int cl, .int cx0, .int cx1, .int cy0, .int cy1, .int ds, .ref m4, .ref m5, .ref m6, .ref m7, .ref m8, .ref m9, .int pn, .ref m10, .ref m11, .ref m12, .ref m13])), (m3, .inl (cI, 16384, .inl (lysN wy gd ga gb gc k.toNatClampNeg 4096))), (m4, .inl (cZ, 4096, .inl ga)), (m5, .inl (cI, 4096, .inl gb)), (m6, .inl (cI, 4096, .inl gc))] := hD
            have hgx : ((ga, gb, gc) : M3) = ((sjL kx ky ki op (gw k.toNatClampNeg).toNatClampNeg (gh k.toNatClampNeg).toNatClampNeg).foldl (mkF (gw k.toNatClampNeg) (gh k.toNatClampNeg) cl cx0 cx1 cy0 cy1) (zrN gm 4096, ge, gv)) := by rw [show sjL kx ky ki op (gw k.toNatClampNeg).toNatClampNeg (gh k.toNatClampNeg).toNatClampNeg = gL (sjQ kx ky ki op) (gw k.toNatClampNeg).toNatClampNeg (gh k.toNatClampNeg).toNatClampNeg from if_neg (fun q => c_12 (hwA.trans q)), eW9n, eH9n, ← show j = H9 by omega]; exact hgo
            have hP : va_P D vwCl [(m2, .inl (cI, 4, .inl gh)), (m10, .inl (cI, 3, .inl kx)), (m11, .inl (cI, 3, .inl ky)), (m12, .inl (cI, 3, .inl ki)), (m1, .inl (cI, 4, .inl gw)), (h0, .inr (9, [.ref m1, .ref m2, .ref m3, .int ik, .int wy, .int op, .int cl, .int cx0, .int cx1, .int cy0, .int cy1, .int ds, .ref m4, .ref m5, .ref m6, .ref m7, .ref m8, .ref m9, .int pn, .ref m10, .ref m11, .ref m12, .ref m13])), (m3, .inl (cI, 16384, .inl (lysN wy gd ((sjL kx ky ki op (gw k.toNatClampNeg).toNatClampNeg (gh k.toNatClampNeg).toNatClampNeg).foldl (mkF (gw k.toNatClampNeg) (gh k.toNatClampNeg) cl cx0 cx1 cy0 cy1) (zrN gm 4096, ge, gv)).1 ((sjL kx ky ki op (gw k.toNatClampNeg).toNatClampNeg (gh k.toNatClampNeg).toNatClampNeg).foldl (mkF (gw k.toNatClampNeg) (gh k.toNatClampNeg) cl cx0 cx1 cy0 cy1) (zrN gm 4096, ge, gv)).2.1 ((sjL kx ky ki op (gw k.toNatClampNeg).toNatClampNeg (gh k.toNatClampNeg).toNatClampNeg).foldl (mkF (gw k.toNatClampNeg) (gh k.toNatClampNeg) cl cx0 cx1 cy0 cy1) (zrN gm 4096, ge, gv)).2.2 k.toNatClampNeg 4096))), (m4, .inl (cZ, 4096, .inl (((sjL kx ky ki op (gw k.toNatClampNeg).toNatClampNeg (gh k.toNatClampNeg).toNatClampNeg).foldl (mkF (gw k.toNatClampNeg) (gh k.toNatClampNeg) cl cx0 cx1 cy0 cy1) (zrN gm 4096, ge, gv)).1))), (m5, .inl (cI, 4096, .inl (((sjL kx ky ki op (gw k.toNatClampNeg).toNatClampNeg (gh k.toNatClampNeg).toNatClampNeg).foldl (mkF (gw k.toNatClampNeg) (gh k.toNatClampNeg) cl cx0 cx1 cy0 cy1) (zrN gm 4096, ge, gv)).2.1))), (m6, .inl (cI, 4096, .inl (((sjL kx ky ki op (gw k.toNatClampNeg).toNatClampNeg (gh k.toNatClampNeg).toNatClampNeg).foldl (mkF (gw k.toNatClampNeg) (gh k.toNatClampNeg) cl cx0 cx1 cy0 cy1) (zrN gm 4096, ge, gv)).2.2)))] H := by simp only [← hgx]; exact hP
            have hD : va_D A [(m2, .inl (cI, 4, .inl gh)), (m10, .inl (cI, 3, .inl kx)), (m11, .inl (cI, 3, .inl ky)), (m12, .inl (cI, 3, .inl ki)), (m1, .inl (cI, 4, .inl gw)), (h0, .inr (9, [.ref m1, .ref m2, .ref m3, .int ik, .int wy, .int op, .int cl, .int cx0, .int cx1, .int cy0, .int cy1, .int ds, .ref m4, .ref m5, .ref m6, .ref m7, .ref m8, .ref m9, .int pn, .ref m10, .ref m11, .ref m12, .ref m13])), (m3, .inl (cI, 16384, .inl (lysN wy gd ((sjL kx ky ki op (gw k.toNatClampNeg).toNatClampNeg (gh k.toNatClampNeg).toNatClampNeg).foldl (mkF (gw k.toNatClampNeg) (gh k.toNatClampNeg) cl cx0 cx1 cy0 cy1) (zrN gm 4096, ge, gv)).1 ((sjL kx ky ki op (gw k.toNatClampNeg).toNatClampNeg (gh k.toNatClampNeg).toNatClampNeg).foldl (mkF (gw k.toNatClampNeg) (gh k.toNatClampNeg) cl cx0 cx1 cy0 cy1) (zrN gm 4096, ge, gv)).2.1 ((sjL kx ky ki op (gw k.toNatClampNeg).toNatClampNeg (gh k.toNatClampNeg).toNatClampNeg).foldl (mkF (gw k.toNatClampNeg) (gh k.toNatClampNeg) cl cx0 cx1 cy0 cy1) (zrN gm 4096, ge, gv)).2.2 k.toNatClampNeg 4096))), (m4, .inl (cZ, 4096, .inl (((sjL kx ky ki op (gw k.toNatClampNeg).toNatClampNeg (gh k.toNatClampNeg).toNatClampNeg).foldl (mkF (gw k.toNatClampNeg) (gh k.toNatClampNeg) cl cx0 cx1 cy0 cy1) (zrN gm 4096, ge, gv)).1))), (m5, .inl (cI, 4096, .inl (((sjL kx ky ki op (gw k.toNatClampNeg).toNatClampNeg (gh k.toNatClampNeg).toNatClampNeg).foldl (mkF (gw k.toNatClampNeg) (gh k.toNatClampNeg) cl cx0 cx1 cy0 cy1) (zrN gm 4096, ge, gv)).2.1))), (m6, .inl (cI, 4096, .inl (((sjL kx ky ki op (gw k.toNatClampNeg).toNatClampNeg (gh k.toNatClampNeg).toNatClampNeg).foldl (mkF (gw k.toNatClampNeg) (gh k.toNatClampNeg) cl cx0 cx1 cy0 cy1) (zrN gm 4096, ge, gv)).2.2)))] := by simp only [← hgx]; exact hD
            have hP9 := hP.sub (ws' := [(h0, .inr (9, [.ref m1, .ref m2, .ref m3, .int ik, .int wy, .int op, .int cl, .int cx0, .int cx1, .int cy0, .int cy1, .int ds, .ref m4, .ref m5, .ref m6, .ref m7, .ref m8, .ref m9, .int pn, .ref m10, .ref m11, .ref m12, .ref m13])), (m1, .inl (cI, 4, .inl gw)), (m2, .inl (cI, 4, .inl gh)), (m3, .inl (cI, 16384, .inl (lysN wy gd ((sjL kx ky ki op (gw k.toNatClampNeg).toNatClampNeg (gh k.toNatClampNeg).toNatClampNeg).foldl (mkF (gw k.toNatClampNeg) (gh k.toNatClampNeg) cl cx0 cx1 cy0 cy1) (zrN gm 4096, ge, gv)).1 ((sjL kx ky ki op (gw k.toNatClampNeg).toNatClampNeg (gh k.toNatClampNeg).toNatClampNeg).foldl (mkF (gw k.toNatClampNeg) (gh k.toNatClampNeg) cl cx0 cx1 cy0 cy1) (zrN gm 4096, ge, gv)).2.1 ((sjL kx ky ki op (gw k.toNatClampNeg).toNatClampNeg (gh k.toNatClampNeg).toNatClampNeg).foldl (mkF (gw k.toNatClampNeg) (gh k.toNatClampNeg) cl cx0 cx1 cy0 cy1) (zrN gm 4096, ge, gv)).2.2 k.toNatClampNeg 4096))), (m4, .inl (cZ, 4096, .inl (((sjL kx ky ki op (gw k.toNatClampNeg).toNatClampNeg (gh k.toNatClampNeg).toNatClampNeg).foldl (mkF (gw k.toNatClampNeg) (gh k.toNatClampNeg) cl cx0 cx1 cy0 cy1) (zrN gm 4096, ge, gv)).1))), (m5, .inl (cI, 4096, .inl (((sjL kx ky ki op (gw k.toNatClampNeg).toNatClampNeg (gh k.toNatClampNeg).toNatClampNeg).foldl (mkF (gw k.toNatClampNeg) (gh k.toNatClampNeg) cl cx0 cx1 cy0 cy1) (zrN gm 4096, ge, gv)).2.1))), (m6, .inl (cI, 4096, .inl (((sjL kx ky ki op (gw k.toNatClampNeg).toNatClampNeg (gh k.toNatClampNeg).toNatClampNeg).foldl (mkF (gw k.toNatClampNeg) (gh k.toNatClampNeg) cl cx0 cx1 cy0 cy1) (zrN gm 4096, ge, gv)).2.2))), (m10, .inl (cI, 3, .inl kx)), (m11, .inl (cI, 3, .inl ky)), (m12, .inl (cI, 3, .inl ki))]) [5, 4, 0, 6, 7, 8, 9, 1, 2, 3] rfl
            have hD9 := hD.sub (ws' := [(h0, .inr (9, [.ref m1, .ref m2, .ref m3, .int ik, .int wy, .int op, .int cl, .int cx0, .int cx1, .int cy0, .int cy1, .int ds, .ref m4, .ref m5, .ref m6, .ref m7, .ref m8, .ref m9, .int pn, .ref m10, .ref m11, .ref m12, .ref m13])), (m1, .inl (cI, 4, .inl gw)), (m2, .inl (cI, 4, .inl gh)), (m3, .inl (cI, 16384, .inl (lysN wy gd ((sjL kx ky ki op (gw k.toNatClampNeg).toNatClampNeg (gh k.toNatClampNeg).toNatClampNeg).foldl (mkF (gw k.toNatClampNeg) (gh k.toNatClampNeg) cl cx0 cx1 cy0 cy1) (zrN gm 4096, ge, gv)).1 ((sjL kx ky ki op (gw k.toNatClampNeg).toNatClampNeg (gh k.toNatClampNeg).toNatClampNeg).foldl (mkF (gw k.toNatClampNeg) (gh k.toNatClampNeg) cl cx0 cx1 cy0 cy1) (zrN gm 4096, ge, gv)).2.1 ((sjL kx ky ki op (gw k.toNatClampNeg).toNatClampNeg (gh k.toNatClampNeg).toNatClampNeg).foldl (mkF (gw k.toNatClampNeg) (gh k.toNatClampNeg) cl cx0 cx1 cy0 cy1) (zrN gm 4096, ge, gv)).2.2 k.toNatClampNeg 4096))), (m4, .inl (cZ, 4096, .inl (((sjL kx ky ki op (gw k.toNatClampNeg).toNatClampNeg (gh k.toNatClampNeg).toNatClampNeg).foldl (mkF (gw k.toNatClampNeg) (gh k.toNatClampNeg) cl cx0 cx1 cy0 cy1) (zrN gm 4096, ge, gv)).1))), (m5, .inl (cI, 4096, .inl (((sjL kx ky ki op (gw k.toNatClampNeg).toNatClampNeg (gh k.toNatClampNeg).toNatClampNeg).foldl (mkF (gw k.toNatClampNeg) (gh k.toNatClampNeg) cl cx0 cx1 cy0 cy1) (zrN gm 4096, ge, gv)).2.1))), (m6, .inl (cI, 4096, .inl (((sjL kx ky ki op (gw k.toNatClampNeg).toNatClampNeg (gh k.toNatClampNeg).toNatClampNeg).foldl (mkF (gw k.toNatClampNeg) (gh k.toNatClampNeg) cl cx0 cx1 cy0 cy1) (zrN gm 4096, ge, gv)).2.2))), (m10, .inl (cI, 3, .inl kx)), (m11, .inl (cI, 3, .inl ky)), (m12, .inl (cI, 3, .inl ki))]) [5, 4, 0, 6, 7, 8, 9, 1, 2, 3] (by decide) rfl
            have hK9 := hK.sub (tys' := [(cI, .int), (cZ, .boolean)]) [0, 1] rfl
            refine hQ _ _ _ _ _ ?_
            exact W.iret (v := r_18) hx hb hr (fun t ht hW => ⟨⟨r_18, (), rfl, (by rw [← hgx]; exact hr_18), ⟨by rw [ht]; exact hP9, va_K.moved hW.alike hK9, hD9⟩⟩, hS.F ht⟩) hS.2.2 dX9_shade_161
          · skip
            have f_17 : ¬ ((gh k.toNatClampNeg).toInt ≤ (j : Int)) := fn_le rfl hx_j c_16
            refine lv_iconst (v := 0) hx hb dX9_shade_84 (by decide) ?_
            refine lv_istore (lv' := [(4, .int 0), (3, .int x3), (2, .int r_11), (0, .ref h0), (1, .int k)]) hx hb dX9_shade_85 hl (by decide) rfl (fun ls hl => ?_)
            have loop_19 : ∀ (n : Nat) (i : Nat) (x4 : Int32) (gj : Nat → Int32) (gk : Nat → Int32) (gl : Nat → Int32) (H : Heap) (locs : List Loc) (ls : Array Slot), (i ≤ 64) → (64 + 1 ≤ i + n) → (x4 = nI i) → (i ≤ W9) → (((gj, gk, gl) : M3) = (gL (sjQ kx ky ki op) W9 j ++ gR (sjQ kx ky ki op) j i).foldl (mkF (gw k.toNatClampNeg) (gh k.toNatClampNeg) cl cx0 cx1 cy0 cy1) (zrN gm 4096, ge, gv)) → va_P D vwCl [(m2, .inl (cI, 4, .inl gh)), (m3, .inl (cI, 16384, .inl gd)), (m5, .inl (cI, 4096, .inl gk)), (m6, .inl (cI, 4096, .inl gl)), (m10, .inl (cI, 3, .inl kx)), (m11, .inl (cI, 3, .inl ky)), (m12, .inl (cI, 3, .inl ki)), (m1, .inl (cI, 4, .inl gw)), (h0, .inr (9, [.ref m1, .ref m2, .ref m3, .int ik, .int wy, .int op, .int cl, .int cx0, .int cx1, .int cy0, .int cy1, .int ds, .ref m4, .ref m5, .ref m6, .ref m7, .ref m8, .ref m9, .int pn, .ref m10, .ref m11, .ref m12, .ref m13])), (m4, .inl (cZ, 4096, .inl gj))] H → va_D A [(m2, .inl (cI, 4, .inl gh)), (m3, .inl (cI, 16384, .inl gd)), (m5, .inl (cI, 4096, .inl gk)), (m6, .inl (cI, 4096, .inl gl)), (m10, .inl (cI, 3, .inl kx)), (m11, .inl (cI, 3, .inl ky)), (m12, .inl (cI, 3, .inl ki)), (m1, .inl (cI, 4, .inl gw)), (h0, .inr (9, [.ref m1, .ref m2, .ref m3, .int ik, .int wy, .int op, .int cl, .int cx0, .int cx1, .int cy0, .int cy1, .int ds, .ref m4, .ref m5, .ref m6, .ref m7, .ref m8, .ref m9, .int pn, .ref m10, .ref m11, .ref m12, .ref m13])), (m4, .inl (cZ, 4096, .inl gj))] → va_S A s.heap H locs → lv_has ls 5 [(4, .int x4), (3, .int x3), (2, .int r_11), (0, .ref h0), (1, .int k)] → W p l e R s m ([.ref h0, .int k] : List Value).toArray below meth c H locs 0 0 Q (F0 m 87 ls []) := by
              intro n
              induction n with
              | zero =>
                intro i x4 gj gk gl H locs ls hi_i hm_i ex_i hio hgi hP hD hS hl
                exact absurd (show False by omega) not_false
              | succ n ih_20 =>
                intro i x4 gj gk gl H locs ls hi_i hm_i ex_i hio hgi hP hD hS hl
                have hx_i : x4.toInt = (i : Int) := by rw [ex_i]; exact nI_toInt (by omega)
                have hc_i : x4.toNatClampNeg = i := by rw [ex_i]; exact nI_clamp (by omega)
                refine lv_iload hx hb dX9_shade_87 (lv_at hl 0 rfl) ?_
                refine lv_aload_n hx hb dX9_shade_89 rfl (lv_at hl 3 rfl) ?_
                refine va_get (D := D) (ci := 9) (v := .ref m1) (C := RX9) (T := TX9) (N := 23) hx hb hts hi_X9 hown hK hP 8 rfl rfl 0 (by decide) (hts _ bw_396) (fun _ h9 => h9) rfl dX9_shade_90 ?_
                refine lv_iload_n hx hb dX9_shade_93 rfl (lv_at hl 4 rfl) ?_
                refine va_iald hx hb hK hP 7 0 rfl rfl (vp_in_iff.mpr ⟨by omega, by omega⟩) dX9_shade_94 ?_
                refine lv_icmp_ge (tgt := 150) hx hb dX9_shade_95 (by decide) (fun c_21 => ?_) (fun c_21 => ?_)
                · skip
                  have f_22 : (gw k.toNatClampNeg).toInt ≤ (i : Int) := f_le rfl hx_i c_21
                  obtain ⟨y_23, ey_23⟩ : ∃ y : Int32, y = x3 + 1 := ⟨_, rfl⟩
                  refine lv_iinc (v := y_23) (lv' := [(3, .int y_23), (4, .int x4), (2, .int r_11), (0, .ref h0), (1, .int k)]) hx hb dX9_shade_150 hl (k := 1) rfl (by rw [ey_23]; rfl) (by decide) rfl (fun ls hl => ?_)
                  refine lv_goto (tgt := 74) hx hb dX9_shade_153 (by decide) ?_
                  exact ih_15 (j + 1) y_23 gj gk gl _ _ _ (by omega) (by omega) (by rw [ey_23, ex_j]; exact nI_1 j) (by omega) (gl_nx hgi (by omega)) (hP.sub (ws' := [(m2, .inl (cI, 4, .inl gh)), (m3, .inl (cI, 16384, .inl gd)), (m5, .inl (cI, 4096, .inl gk)), (m6, .inl (cI, 4096, .inl gl)), (m10, .inl (cI, 3, .inl kx)), (m11, .inl (cI, 3, .inl ky)), (m12, .inl (cI, 3, .inl ki)), (m1, .inl (cI, 4, .inl gw)), (h0, .inr (9, [.ref m1, .ref m2, .ref m3, .int ik, .int wy, .int op, .int cl, .int cx0, .int cx1, .int cy0, .int cy1, .int ds, .ref m4, .ref m5, .ref m6, .ref m7, .ref m8, .ref m9, .int pn, .ref m10, .ref m11, .ref m12, .ref m13])), (m4, .inl (cZ, 4096, .inl gj))]) [0, 1, 2, 3, 4, 5, 6, 7, 8, 9] rfl) (hD.sub (ws' := [(m2, .inl (cI, 4, .inl gh)), (m3, .inl (cI, 16384, .inl gd)), (m5, .inl (cI, 4096, .inl gk)), (m6, .inl (cI, 4096, .inl gl)), (m10, .inl (cI, 3, .inl kx)), (m11, .inl (cI, 3, .inl ky)), (m12, .inl (cI, 3, .inl ki)), (m1, .inl (cI, 4, .inl gw)), (h0, .inr (9, [.ref m1, .ref m2, .ref m3, .int ik, .int wy, .int op, .int cl, .int cx0, .int cx1, .int cy0, .int cy1, .int ds, .ref m4, .ref m5, .ref m6, .ref m7, .ref m8, .ref m9, .int pn, .ref m10, .ref m11, .ref m12, .ref m13])), (m4, .inl (cZ, 4096, .inl gj))]) [0, 1, 2, 3, 4, 5, 6, 7, 8, 9] (by decide) rfl) hS (lv_sub hl [0, 2, 3, 4] rfl)
                · skip
                  have f_22 : ¬ ((gw k.toNatClampNeg).toInt ≤ (i : Int)) := fn_le rfl hx_i c_21
                  refine lv_aload_n hx hb dX9_shade_98 rfl (lv_at hl 3 rfl) ?_
                  refine lv_iconst (v := 2) hx hb dX9_shade_99 (by decide) ?_
                  refine lv_iload hx hb dX9_shade_100 (lv_at hl 0 rfl) ?_
                  refine lv_imul hx hb dX9_shade_102 ?_
                  refine lv_topi (fun y_24 ey_24 => ?_)
                  refine lv_iconst (v := 1) hx hb dX9_shade_103 (by decide) ?_
                  refine lv_iadd hx hb dX9_shade_104 ?_
                  refine lv_topi (fun y_25 ey_25 => ?_)
                  refine lv_iconst (v := 2) hx hb dX9_shade_105 (by decide) ?_
                  refine lv_iload_n hx hb dX9_shade_106 rfl (lv_at hl 1 rfl) ?_
                  refine lv_imul hx hb dX9_shade_107 ?_
                  refine lv_topi (fun y_26 ey_26 => ?_)
                  refine lv_iconst (v := 1) hx hb dX9_shade_108 (by decide) ?_
                  refine lv_iadd hx hb dX9_shade_109 ?_
                  refine lv_topi (fun y_27 ey_27 => ?_)
                  have hPc := hP.sub (ws' := [(h0, .inr (9, [.ref m1, .ref m2, .ref m3, .int ik, .int wy, .int op, .int cl, .int cx0, .int cx1, .int cy0, .int cy1, .int ds, .ref m4, .ref m5, .ref m6, .ref m7, .ref m8, .ref m9, .int pn, .ref m10, .ref m11, .ref m12, .ref m13])), (m10, .inl (cI, 3, .inl kx)), (m11, .inl (cI, 3, .inl ky))]) [8, 4, 5] rfl
                  have hDc := hD.sub (ws' := [(h0, .inr (9, [.ref m1, .ref m2, .ref m3, .int ik, .int wy, .int op, .int cl, .int cx0, .int cx1, .int cy0, .int cy1, .int ds, .ref m4, .ref m5, .ref m6, .ref m7, .ref m8, .ref m9, .int pn, .ref m10, .ref m11, .ref m12, .ref m13])), (m10, .inl (cI, 3, .inl kx)), (m11, .inl (cI, 3, .inl ky))]) [8, 4, 5] (by decide) rfl
                  have hKc := hK.sub (tys' := [(cI, .int)]) [0] rfl
                  have hFc := va_free (wc := [(h0, .inr (9, [.ref m1, .ref m2, .ref m3, .int ik, .int wy, .int op, .int cl, .int cx0, .int cx1, .int cy0, .int cy1, .int ds, .ref m4, .ref m5, .ref m6, .ref m7, .ref m8, .ref m9, .int pn, .ref m10, .ref m11, .ref m12, .ref m13])), (m10, .inl (cI, 3, .inl kx)), (m11, .inl (cI, 3, .inl ky))]) hD hS hA [8, 4, 5] rfl
                  refine va_calli (va_runV (As := [.int y_25, .int y_27]) (rest := []) ⟨hx, hb, hml, hown, hts⟩ (k_X9_isInTriangle_e l D H.size h0 m1 m2 m3 m4 m5 m6 m7 m8 m9 m10 m11 m12 m13 ik wy op cl cx0 cx1 cy0 cy1 ds pn kx ky y_25 y_27 cI (by first | assumption | omega | decide)) (cwV 2 hts (gV bw_543 bw_537 bw_538 bw_391 bw_536) rfl rfl rfl (by decide +kernel) ⟨(by rw [hR]; exact Nat.le_of_ble_eq_true rfl), (by rw [hR]; exact Nat.le_of_ble_eq_true rfl)⟩) ⟨cP_blind, va_recv hKc hPc (ci := 9) (q0 := 0) rfl rfl, cP_at hPc hKc hDc hN⟩ rfl rfl hl.1 rfl (lv_room (Nat.le_of_ble_eq_true rfl)) dX9_shade_110 ⟨(by rw [hR]; exact Nat.le_of_ble_eq_true rfl), (by rw [hR]; exact Nat.le_of_ble_eq_true rfl)⟩) hS (fun q _ h => hFc q h) hFc (fun r_28 u9 t9 H1 locs ht hvm hr_28 hB hz1 hk1 hS => ?_)
                  try dsimp only at hr_28
                  obtain ⟨hP1, hK1, hD1⟩ := hB
                  rw [ht] at hP1
                  obtain ⟨hP, hD⟩ := va_join (wr := [(m2, .inl (cI, 4, .inl gh)), (m3, .inl (cI, 16384, .inl gd)), (m5, .inl (cI, 4096, .inl gk)), (m6, .inl (cI, 4096, .inl gl)), (m12, .inl (cI, 3, .inl ki)), (m1, .inl (cI, 4, .inl gw)), (m4, .inl (cZ, 4096, .inl gj))]) (w1 := [(h0, .inr (9, [.ref m1, .ref m2, .ref m3, .int ik, .int wy, .int op, .int cl, .int cx0, .int cx1, .int cy0, .int cy1, .int ds, .ref m4, .ref m5, .ref m6, .ref m7, .ref m8, .ref m9, .int pn, .ref m10, .ref m11, .ref m12, .ref m13])), (m10, .inl (cI, 3, .inl kx)), (m11, .inl (cI, 3, .inl ky))]) hP hD [8, 4, 5] [0, 1, 2, 3, 6, 7, 9] rfl rfl (by decide) (by decide) hk1 hFc hP1 hD1
                  clear hz1 hk1 hFc hKc hDc hPc
                  generalize H1 = H at hP hS ⊢
                  have hP : va_P D vwCl [(m2, .inl (cI, 4, .inl gh)), (m3, .inl (cI, 16384, .inl gd)), (m5, .inl (cI, 4096, .inl gk)), (m6, .inl (cI, 4096, .inl gl)), (m12, .inl (cI, 3, .inl ki)), (m1, .inl (cI, 4, .inl gw)), (m4, .inl (cZ, 4096, .inl gj)), (h0, .inr (9, [.ref m1, .ref m2, .ref m3, .int ik, .int wy, .int op, .int cl, .int cx0, .int cx1, .int cy0, .int cy1, .int ds, .ref m4, .ref m5, .ref m6, .ref m7, .ref m8, .ref m9, .int pn, .ref m10, .ref m11, .ref m12, .ref m13])), (m10, .inl (cI, 3, .inl kx)), (m11, .inl (cI, 3, .inl ky))] H := hP
                  have hD : va_D A [(m2, .inl (cI, 4, .inl gh)), (m3, .inl (cI, 16384, .inl gd)), (m5, .inl (cI, 4096, .inl gk)), (m6, .inl (cI, 4096, .inl gl)), (m12, .inl (cI, 3, .inl ki)), (m1, .inl (cI, 4, .inl gw)), (m4, .inl (cZ, 4096, .inl gj)), (h0, .inr (9, [.ref m1, .ref m2, .ref m3, .int ik, .int wy, .int op, .int cl, .int cx0, .int cx1, .int cy0, .int cy1, .int ds, .ref m4, .ref m5, .ref m6, .ref m7, .ref m8, .ref m9, .int pn, .ref m10, .ref m11, .ref m12, .ref m13])), (m10, .inl (cI, 3, .inl kx)), (m11, .inl (cI, 3, .inl ky))] := hD
                  have hu9 : y_25 = 2 * nI i + 1 := by rw [ey_25, ey_24, ex_i]
                  have hv9 : y_27 = 2 * nI j + 1 := by rw [ey_27, ey_26, ex_j]
                  rw [hu9, hv9] at hr_28
                  refine lv_if_eq (tgt := 144) hx hb dX9_shade_113 (by decide) (fun c_29 => ?_) (fun c_29 => ?_)
                  · skip
                    have f_30 := bz0 hr_28 c_29
                    obtain ⟨y_31, ey_31⟩ : ∃ y : Int32, y = x4 + 1 := ⟨_, rfl⟩
                    refine lv_iinc (v := y_31) (lv' := [(4, .int y_31), (3, .int x3), (2, .int r_11), (0, .ref h0), (1, .int k)]) hx hb dX9_shade_144 hl (k := 0) rfl (by rw [ey_31]; rfl) (by decide) rfl (fun ls hl => ?_)
                    refine lv_goto (tgt := 87) hx hb dX9_shade_147 (by decide) ?_
                    exact ih_20 (i + 1) y_31 gj gk gl _ _ _ (by omega) (by omega) (by rw [ey_31, ex_i]; exact nI_1 i) (by omega) (by rw [show gR (sjQ kx ky ki op) j (i + 1) = gR (sjQ kx ky ki op) j i ++ [] from congrArg (gR (sjQ kx ky ki op) j i ++ ·) (show sjQ kx ky ki op j i = [] from if_pos (Decidable.not_not.mp f_30)), List.append_nil]; exact hgi) (hP.sub (ws' := [(m2, .inl (cI, 4, .inl gh)), (m3, .inl (cI, 16384, .inl gd)), (m5, .inl (cI, 4096, .inl gk)), (m6, .inl (cI, 4096, .inl gl)), (m10, .inl (cI, 3, .inl kx)), (m11, .inl (cI, 3, .inl ky)), (m12, .inl (cI, 3, .inl ki)), (m1, .inl (cI, 4, .inl gw)), (h0, .inr (9, [.ref m1, .ref m2, .ref m3, .int ik, .int wy, .int op, .int cl, .int cx0, .int cx1, .int cy0, .int cy1, .int ds, .ref m4, .ref m5, .ref m6, .ref m7, .ref m8, .ref m9, .int pn, .ref m10, .ref m11, .ref m12, .ref m13])), (m4, .inl (cZ, 4096, .inl gj))]) [0, 1, 2, 3, 8, 9, 4, 5, 7, 6] rfl) (hD.sub (ws' := [(m2, .inl (cI, 4, .inl gh)), (m3, .inl (cI, 16384, .inl gd)), (m5, .inl (cI, 4096, .inl gk)), (m6, .inl (cI, 4096, .inl gl)), (m10, .inl (cI, 3, .inl kx)), (m11, .inl (cI, 3, .inl ky)), (m12, .inl (cI, 3, .inl ki)), (m1, .inl (cI, 4, .inl gw)), (h0, .inr (9, [.ref m1, .ref m2, .ref m3, .int ik, .int wy, .int op, .int cl, .int cx0, .int cx1, .int cy0, .int cy1, .int ds, .ref m4, .ref m5, .ref m6, .ref m7, .ref m8, .ref m9, .int pn, .ref m10, .ref m11, .ref m12, .ref m13])), (m4, .inl (cZ, 4096, .inl gj))]) [0, 1, 2, 3, 8, 9, 4, 5, 7, 6] (by decide) rfl) hS (lv_sub hl [0, 1, 2, 3, 4] rfl)
                  · skip
                    have f_30 := bz1 hr_28 c_29
                    refine lv_aload_n hx hb dX9_shade_116 rfl (lv_at hl 3 rfl) ?_
                    refine lv_iload_n hx hb dX9_shade_117 rfl (lv_at hl 4 rfl) ?_
                    refine lv_iload hx hb dX9_shade_118 (lv_at hl 0 rfl) ?_
                    refine lv_iload_n hx hb dX9_shade_120 rfl (lv_at hl 1 rfl) ?_
                    refine lv_aload_n hx hb dX9_shade_121 rfl (lv_at hl 3 rfl) ?_
                    refine lv_iconst (v := 2) hx hb dX9_shade_122 (by decide) ?_
                    refine lv_iload hx hb dX9_shade_123 (lv_at hl 0 rfl) ?_
                    refine lv_imul hx hb dX9_shade_125 ?_
                    refine lv_topi (fun y_32 ey_32 => ?_)
                    refine lv_iconst (v := 1) hx hb dX9_shade_126 (by decide) ?_
                    refine lv_iadd hx hb dX9_shade_127 ?_
                    refine lv_topi (fun y_33 ey_33 => ?_)
                    refine lv_iconst (v := 2) hx hb dX9_shade_128 (by decide) ?_
                    refine lv_iload_n hx hb dX9_shade_129 rfl (lv_at hl 1 rfl) ?_
                    refine lv_imul hx hb dX9_shade_130 ?_
                    refine lv_topi (fun y_34 ey_34 => ?_)
                    refine lv_iconst (v := 1) hx hb dX9_shade_131 (by decide) ?_
                    refine lv_iadd hx hb dX9_shade_132 ?_
                    refine lv_topi (fun y_35 ey_35 => ?_)
                    refine lv_iload_n hx hb dX9_shade_133 rfl (lv_at hl 2 rfl) ?_
                    have hPc := hP.sub (ws' := [(h0, .inr (9, [.ref m1, .ref m2, .ref m3, .int ik, .int wy, .int op, .int cl, .int cx0, .int cx1, .int cy0, .int cy1, .int ds, .ref m4, .ref m5, .ref m6, .ref m7, .ref m8, .ref m9, .int pn, .ref m10, .ref m11, .ref m12, .ref m13])), (m10, .inl (cI, 3, .inl kx)), (m11, .inl (cI, 3, .inl ky)), (m12, .inl (cI, 3, .inl ki))]) [7, 8, 9, 4] rfl
                    have hDc := hD.sub (ws' := [(h0, .inr (9, [.ref m1, .ref m2, .ref m3, .int ik, .int wy, .int op, .int cl, .int cx0, .int cx1, .int cy0, .int cy1, .int ds, .ref m4, .ref m5, .ref m6, .ref m7, .ref m8, .ref m9, .int pn, .ref m10, .ref m11, .ref m12, .ref m13])), (m10, .inl (cI, 3, .inl kx)), (m11, .inl (cI, 3, .inl ky)), (m12, .inl (cI, 3, .inl ki))]) [7, 8, 9, 4] (by decide) rfl
                    have hKc := hK.sub (tys' := [(cI, .int)]) [0] rfl
                    have hFc := va_free (wc := [(h0, .inr (9, [.ref m1, .ref m2, .ref m3, .int ik, .int wy, .int op, .int cl, .int cx0, .int cx1, .int cy0, .int cy1, .int ds, .ref m4, .ref m5, .ref m6, .ref m7, .ref m8, .ref m9, .int pn, .ref m10, .ref m11, .ref m12, .ref m13])), (m10, .inl (cI, 3, .inl kx)), (m11, .inl (cI, 3, .inl ky)), (m12, .inl (cI, 3, .inl ki))]) hD hS hA [7, 8, 9, 4] rfl
                    refine va_calli (va_runV (As := [.int y_33, .int y_35, .int r_11]) (rest := [.int x3, .int x4, .int k, .ref h0]) ⟨hx, hb, hml, hown, hts⟩ (k_X9_mixed_e l D H.size h0 m1 m2 m3 m4 m5 m6 m7 m8 m9 m10 m11 m12 m13 ik wy op cl cx0 cx1 cy0 cy1 ds pn kx ky ki y_33 y_35 r_11 cI c_12) (cwV 3 hts (gV bw_544 bw_546 bw_547 bw_391 bw_545) rfl rfl rfl (by decide +kernel) ⟨(by rw [hR]; exact Nat.le_of_ble_eq_true rfl), (by rw [hR]; exact Nat.le_of_ble_eq_true rfl)⟩) ⟨cP_blind, va_recv hKc hPc (ci := 9) (q0 := 0) rfl rfl, cP_at hPc hKc hDc hN⟩ rfl rfl hl.1 rfl (lv_room (Nat.le_of_ble_eq_true rfl)) dX9_shade_134 ⟨(by rw [hR]; exact Nat.le_of_ble_eq_true rfl), (by rw [hR]; exact Nat.le_of_ble_eq_true rfl)⟩) hS (fun q _ h => hFc q h) hFc (fun r_36 u9 t9 H1 locs ht hvm hr_36 hB hz1 hk1 hS => ?_)
                    try dsimp only at hr_36
                    obtain ⟨hP1, hK1, hD1⟩ := hB
                    rw [ht] at hP1
                    obtain ⟨hP, hD⟩ := va_join (wr := [(m2, .inl (cI, 4, .inl gh)), (m3, .inl (cI, 16384, .inl gd)), (m5, .inl (cI, 4096, .inl gk)), (m6, .inl (cI, 4096, .inl gl)), (m1, .inl (cI, 4, .inl gw)), (m4, .inl (cZ, 4096, .inl gj))]) (w1 := [(h0, .inr (9, [.ref m1, .ref m2, .ref m3, .int ik, .int wy, .int op, .int cl, .int cx0, .int cx1, .int cy0, .int cy1, .int ds, .ref m4, .ref m5, .ref m6, .ref m7, .ref m8, .ref m9, .int pn, .ref m10, .ref m11, .ref m12, .ref m13])), (m10, .inl (cI, 3, .inl kx)), (m11, .inl (cI, 3, .inl ky)), (m12, .inl (cI, 3, .inl ki))]) hP hD [7, 8, 9, 4] [0, 1, 2, 3, 5, 6] rfl rfl (by decide) (by decide) hk1 hFc hP1 hD1
                    clear hz1 hk1 hFc hKc hDc hPc
                    generalize H1 = H at hP hS ⊢
                    have hP : va_P D vwCl [(m2, .inl (cI, 4, .inl gh)), (m3, .inl (cI, 16384, .inl gd)), (m5, .inl (cI, 4096, .inl gk)), (m6, .inl (cI, 4096, .inl gl)), (m1, .inl (cI, 4, .inl gw)), (m4, .inl (cZ, 4096, .inl gj)), (h0, .inr (9, [.ref m1, .ref m2, .ref m3, .int ik, .int wy, .int op, .int cl, .int cx0, .int cx1, .int cy0, .int cy1, .int ds, .ref m4, .ref m5, .ref m6, .ref m7, .ref m8, .ref m9, .int pn, .ref m10, .ref m11, .ref m12, .ref m13])), (m10, .inl (cI, 3, .inl kx)), (m11, .inl (cI, 3, .inl ky)), (m12, .inl (cI, 3, .inl ki))] H := hP
                    have hD : va_D A [(m2, .inl (cI, 4, .inl gh)), (m3, .inl (cI, 16384, .inl gd)), (m5, .inl (cI, 4096, .inl gk)), (m6, .inl (cI, 4096, .inl gl)), (m1, .inl (cI, 4, .inl gw)), (m4, .inl (cZ, 4096, .inl gj)), (h0, .inr (9, [.ref m1, .ref m2, .ref m3, .int ik, .int wy, .int op, .int cl, .int cx0, .int cx1, .int cy0, .int cy1, .int ds, .ref m4, .ref m5, .ref m6, .ref m7, .ref m8, .ref m9, .int pn, .ref m10, .ref m11, .ref m12, .ref m13])), (m10, .inl (cI, 3, .inl kx)), (m11, .inl (cI, 3, .inl ky)), (m12, .inl (cI, 3, .inl ki))] := hD
                    have hu8 : y_33 = 2 * nI i + 1 := by rw [ey_33, ey_32, ex_i]
                    have hv8 : y_35 = 2 * nI j + 1 := by rw [ey_35, ey_34, ex_j]
                    rw [hu8, hv8, hwA] at hr_36
                    refine lv_aload_n hx hb dX9_shade_137 rfl (lv_at hl 3 rfl) ?_
                    refine va_get (D := D) (ci := 9) (v := .int op) (C := RX9) (T := TX9) (N := 23) hx hb hts hi_X9 hown hK hP 6 rfl rfl 5 (by decide) (hts _ bw_401) (fun _ h9 => h9) rfl dX9_shade_138 ?_
                    have hPc := hP.sub (ws' := [(h0, .inr (9, [.ref m1, .ref m2, .ref m3, .int ik, .int wy, .int op, .int cl, .int cx0, .int cx1, .int cy0, .int cy1, .int ds, .ref m4, .ref m5, .ref m6, .ref m7, .ref m8, .ref m9, .int pn, .ref m10, .ref m11, .ref m12, .ref m13])), (m1, .inl (cI, 4, .inl gw)), (m2, .inl (cI, 4, .inl gh)), (m4, .inl (cZ, 4096, .inl gj)), (m5, .inl (cI, 4096, .inl gk)), (m6, .inl (cI, 4096, .inl gl))]) [6, 4, 0, 5, 2, 3] rfl
                    have hDc := hD.sub (ws' := [(h0, .inr (9, [.ref m1, .ref m2, .ref m3, .int ik, .int wy, .int op, .int cl, .int cx0, .int cx1, .int cy0, .int cy1, .int ds, .ref m4, .ref m5, .ref m6, .ref m7, .ref m8, .ref m9, .int pn, .ref m10, .ref m11, .ref m12, .ref m13])), (m1, .inl (cI, 4, .inl gw)), (m2, .inl (cI, 4, .inl gh)), (m4, .inl (cZ, 4096, .inl gj)), (m5, .inl (cI, 4096, .inl gk)), (m6, .inl (cI, 4096, .inl gl))]) [6, 4, 0, 5, 2, 3] (by decide) rfl
                    have hKc := hK.sub (tys' := [(cI, .int), (cZ, .boolean)]) [0, 1] rfl
                    have hFc := va_free (wc := [(h0, .inr (9, [.ref m1, .ref m2, .ref m3, .int ik, .int wy, .int op, .int cl, .int cx0, .int cx1, .int cy0, .int cy1, .int ds, .ref m4, .ref m5, .ref m6, .ref m7, .ref m8, .ref m9, .int pn, .ref m10, .ref m11, .ref m12, .ref m13])), (m1, .inl (cI, 4, .inl gw)), (m2, .inl (cI, 4, .inl gh)), (m4, .inl (cZ, 4096, .inl gj)), (m5, .inl (cI, 4096, .inl gk)), (m6, .inl (cI, 4096, .inl gl))]) hD hS hA [6, 4, 0, 5, 2, 3] rfl
                    refine va_callv (va_runV (As := [.int k, .int x4, .int x3, .int r_36, .int op]) (rest := []) ⟨hx, hb, hml, hown, hts⟩ (k_X9_marks l D H.size h0 m1 m2 m3 m4 m5 m6 m7 m8 m9 m10 m11 m12 m13 ik wy op cl cx0 cx1 cy0 cy1 ds pn gw gh gj gk gl k x4 x3 r_36 op cI cZ (by omega) (by omega) (by omega)) (cwV 5 hts (gV bw_495 bw_458 bw_459 bw_391 bw_457) rfl rfl rfl (by decide +kernel) ⟨(by rw [hR]; exact Nat.le_of_ble_eq_true rfl), (by rw [hR]; exact Nat.le_of_ble_eq_true rfl)⟩) ⟨cP_blind, va_recv hKc hPc (ci := 9) (q0 := 0) rfl rfl, cP_at hPc hKc hDc hN⟩ rfl rfl hl.1 rfl (lv_room (Nat.le_of_ble_eq_true rfl)) dX9_shade_141 ⟨(by rw [hR]; exact Nat.le_of_ble_eq_true rfl), (by rw [hR]; exact Nat.le_of_ble_eq_true rfl)⟩) hS (fun q _ h => hFc q h) hFc (fun u9 t9 H1 locs ht hvm hr_37 hB hz1 hk1 hS => ?_)
                    try dsimp only at hr_37
                    obtain ⟨hP1, hK1, hD1⟩ := hB
                    rw [ht] at hP1
                    obtain ⟨hP, hD⟩ := va_join (wr := [(m3, .inl (cI, 16384, .inl gd)), (m10, .inl (cI, 3, .inl kx)), (m11, .inl (cI, 3, .inl ky)), (m12, .inl (cI, 3, .inl ki))]) (w1 := [(h0, .inr (9, [.ref m1, .ref m2, .ref m3, .int ik, .int wy, .int op, .int cl, .int cx0, .int cx1, .int cy0, .int cy1, .int ds, .ref m4, .ref m5, .ref m6, .ref m7, .ref m8, .ref m9, .int pn, .ref m10, .ref m11, .ref m12, .ref m13])), (m1, .inl (cI, 4, .inl gw)), (m2, .inl (cI, 4, .inl gh)), (m4, .inl (cZ, 4096, .inl (if (0 ≤ x4.toInt ∧ x4.toInt < (gw k.toNatClampNeg).toInt ∧ 0 ≤ x3.toInt ∧ x3.toInt < (gh k.toNatClampNeg).toInt) ∧ (cl.toInt = 0 ∨ (cx0.toInt ≤ x4.toInt ∧ x4.toInt ≤ cx1.toInt ∧ cy0.toInt ≤ x3.toInt ∧ x3.toInt ≤ cy1.toInt)) then upd gj (ixP x4 x3) 1 else gj))), (m5, .inl (cI, 4096, .inl (if (0 ≤ x4.toInt ∧ x4.toInt < (gw k.toNatClampNeg).toInt ∧ 0 ≤ x3.toInt ∧ x3.toInt < (gh k.toNatClampNeg).toInt) ∧ (cl.toInt = 0 ∨ (cx0.toInt ≤ x4.toInt ∧ x4.toInt ≤ cx1.toInt ∧ cy0.toInt ≤ x3.toInt ∧ x3.toInt ≤ cy1.toInt)) then upd gk (ixP x4 x3) op else gk))), (m6, .inl (cI, 4096, .inl (if (0 ≤ x4.toInt ∧ x4.toInt < (gw k.toNatClampNeg).toInt ∧ 0 ≤ x3.toInt ∧ x3.toInt < (gh k.toNatClampNeg).toInt) ∧ (cl.toInt = 0 ∨ (cx0.toInt ≤ x4.toInt ∧ x4.toInt ≤ cx1.toInt ∧ cy0.toInt ≤ x3.toInt ∧ x3.toInt ≤ cy1.toInt)) then upd gl (ixP x4 x3) r_36 else gl)))]) hP hD [6, 4, 0, 5, 2, 3] [1, 7, 8, 9] rfl rfl (by decide) (by decide) hk1 hFc hP1 hD1
                    clear hz1 hk1 hFc hKc hDc hPc
                    generalize H1 = H at hP hS ⊢
                    have hP : va_P D vwCl [(m3, .inl (cI, 16384, .inl gd)), (m10, .inl (cI, 3, .inl kx)), (m11, .inl (cI, 3, .inl ky)), (m12, .inl (cI, 3, .inl ki)), (h0, .inr (9, [.ref m1, .ref m2, .ref m3, .int ik, .int wy, .int op, .int cl, .int cx0, .int cx1, .int cy0, .int cy1, .int ds, .ref m4, .ref m5, .ref m6, .ref m7, .ref m8, .ref m9, .int pn, .ref m10, .ref m11, .ref m12, .ref m13])), (m1, .inl (cI, 4, .inl gw)), (m2, .inl (cI, 4, .inl gh)), (m4, .inl (cZ, 4096, .inl (if (0 ≤ x4.toInt ∧ x4.toInt < (gw k.toNatClampNeg).toInt ∧ 0 ≤ x3.toInt ∧ x3.toInt < (gh k.toNatClampNeg).toInt) ∧ (cl.toInt = 0 ∨ (cx0.toInt ≤ x4.toInt ∧ x4.toInt ≤ cx1.toInt ∧ cy0.toInt ≤ x3.toInt ∧ x3.toInt ≤ cy1.toInt)) then upd gj (ixP x4 x3) 1 else gj))), (m5, .inl (cI, 4096, .inl (if (0 ≤ x4.toInt ∧ x4.toInt < (gw k.toNatClampNeg).toInt ∧ 0 ≤ x3.toInt ∧ x3.toInt < (gh k.toNatClampNeg).toInt) ∧ (cl.toInt = 0 ∨ (cx0.toInt ≤ x4.toInt ∧ x4.toInt ≤ cx1.toInt ∧ cy0.toInt ≤ x3.toInt ∧ x3.toInt ≤ cy1.toInt)) then upd gk (ixP x4 x3) op else gk))), (m6, .inl (cI, 4096, .inl (if (0 ≤ x4.toInt ∧ x4.toInt < (gw k.toNatClampNeg).toInt ∧ 0 ≤ x3.toInt ∧ x3.toInt < (gh k.toNatClampNeg).toInt) ∧ (cl.toInt = 0 ∨ (cx0.toInt ≤ x4.toInt ∧ x4.toInt ≤ cx1.toInt ∧ cy0.toInt ≤ x3.toInt ∧ x3.toInt ≤ cy1.toInt)) then upd gl (ixP x4 x3) r_36 else gl)))] H := hP
                    have hD : va_D A [(m3, .inl (cI, 16384, .inl gd)), (m10, .inl (cI, 3, .inl kx)), (m11, .inl (cI, 3, .inl ky)), (m12, .inl (cI, 3, .inl ki)), (h0, .inr (9, [.ref m1, .ref m2, .ref m3, .int ik, .int wy, .int op, .int cl, .int cx0, .int cx1, .int cy0, .int cy1, .int ds, .ref m4, .ref m5, .ref m6, .ref m7, .ref m8, .ref m9, .int pn, .ref m10, .ref m11, .ref m12, .ref m13])), (m1, .inl (cI, 4, .inl gw)), (m2, .inl (cI, 4, .inl gh)), (m4, .inl (cZ, 4096, .inl (if (0 ≤ x4.toInt ∧ x4.toInt < (gw k.toNatClampNeg).toInt ∧ 0 ≤ x3.toInt ∧ x3.toInt < (gh k.toNatClampNeg).toInt) ∧ (cl.toInt = 0 ∨ (cx0.toInt ≤ x4.toInt ∧ x4.toInt ≤ cx1.toInt ∧ cy0.toInt ≤ x3.toInt ∧ x3.toInt ≤ cy1.toInt)) then upd gj (ixP x4 x3) 1 else gj))), (m5, .inl (cI, 4096, .inl (if (0 ≤ x4.toInt ∧ x4.toInt < (gw k.toNatClampNeg).toInt ∧ 0 ≤ x3.toInt ∧ x3.toInt < (gh k.toNatClampNeg).toInt) ∧ (cl.toInt = 0 ∨ (cx0.toInt ≤ x4.toInt ∧ x4.toInt ≤ cx1.toInt ∧ cy0.toInt ≤ x3.toInt ∧ x3.toInt ≤ cy1.toInt)) then upd gk (ixP x4 x3) op else gk))), (m6, .inl (cI, 4096, .inl (if (0 ≤ x4.toInt ∧ x4.toInt < (gw k.toNatClampNeg).toInt ∧ 0 ≤ x3.toInt ∧ x3.toInt < (gh k.toNatClampNeg).toInt) ∧ (cl.toInt = 0 ∨ (cx0.toInt ≤ x4.toInt ∧ x4.toInt ≤ cx1.toInt ∧ cy0.toInt ≤ x3.toInt ∧ x3.toInt ≤ cy1.toInt)) then upd gl (ixP x4 x3) r_36 else gl)))] := hD
                    generalize eg_38 : (if (0 ≤ x4.toInt ∧ x4.toInt < (gw k.toNatClampNeg).toInt ∧ 0 ≤ x3.toInt ∧ x3.toInt < (gh k.toNatClampNeg).toInt) ∧ (cl.toInt = 0 ∨ (cx0.toInt ≤ x4.toInt ∧ x4.toInt ≤ cx1.toInt ∧ cy0.toInt ≤ x3.toInt ∧ x3.toInt ≤ cy1.toInt)) then upd gj (ixP x4 x3) 1 else gj) = g_38 at hP hD
                    generalize eg_39 : (if (0 ≤ x4.toInt ∧ x4.toInt < (gw k.toNatClampNeg).toInt ∧ 0 ≤ x3.toInt ∧ x3.toInt < (gh k.toNatClampNeg).toInt) ∧ (cl.toInt = 0 ∨ (cx0.toInt ≤ x4.toInt ∧ x4.toInt ≤ cx1.toInt ∧ cy0.toInt ≤ x3.toInt ∧ x3.toInt ≤ cy1.toInt)) then upd gk (ixP x4 x3) op else gk) = g_39 at hP hD
                    generalize eg_40 : (if (0 ≤ x4.toInt ∧ x4.toInt < (gw k.toNatClampNeg).toInt ∧ 0 ≤ x3.toInt ∧ x3.toInt < (gh k.toNatClampNeg).toInt) ∧ (cl.toInt = 0 ∨ (cx0.toInt ≤ x4.toInt ∧ x4.toInt ≤ cx1.toInt ∧ cy0.toInt ≤ x3.toInt ∧ x3.toInt ≤ cy1.toInt)) then upd gl (ixP x4 x3) r_36 else gl) = g_40 at hP hD
                    have hP : va_P D vwCl [(m3, .inl (cI, 16384, .inl gd)), (m10, .inl (cI, 3, .inl kx)), (m11, .inl (cI, 3, .inl ky)), (m12, .inl (cI, 3, .inl ki)), (h0, .inr (9, [.ref m1, .ref m2, .ref m3, .int ik, .int wy, .int op, .int cl, .int cx0, .int cx1, .int cy0, .int cy1, .int ds, .ref m4, .ref m5, .ref m6, .ref m7, .ref m8, .ref m9, .int pn, .ref m10, .ref m11, .ref m12, .ref m13])), (m1, .inl (cI, 4, .inl gw)), (m2, .inl (cI, 4, .inl gh)), (m4, .inl (cZ, 4096, .inl g_38)), (m5, .inl (cI, 4096, .inl g_39)), (m6, .inl (cI, 4096, .inl g_40))] H := hP
                    have hD : va_D A [(m3, .inl (cI, 16384, .inl gd)), (m10, .inl (cI, 3, .inl kx)), (m11, .inl (cI, 3, .inl ky)), (m12, .inl (cI, 3, .inl ki)), (h0, .inr (9, [.ref m1, .ref m2, .ref m3, .int ik, .int wy, .int op, .int cl, .int cx0, .int cx1, .int cy0, .int cy1, .int ds, .ref m4, .ref m5, .ref m6, .ref m7, .ref m8, .ref m9, .int pn, .ref m10, .ref m11, .ref m12, .ref m13])), (m1, .inl (cI, 4, .inl gw)), (m2, .inl (cI, 4, .inl gh)), (m4, .inl (cZ, 4096, .inl g_38)), (m5, .inl (cI, 4096, .inl g_39)), (m6, .inl (cI, 4096, .inl g_40))] := hD
                    have hM : ((g_38, g_39, g_40) : M3) = (mkF (gw k.toNatClampNeg) (gh k.toNatClampNeg) cl cx0 cx1 cy0 cy1) (gj, gk, gl) (x4, x3, r_36, op) := by rw [← eg_38, ← eg_39, ← eg_40]; rfl
                    obtain ⟨y_41, ey_41⟩ : ∃ y : Int32, y = x4 + 1 := ⟨_, rfl⟩
                    refine lv_iinc (v := y_41) (lv' := [(4, .int y_41), (3, .int x3), (2, .int r_11), (0, .ref h0), (1, .int k)]) hx hb dX9_shade_144 hl (k := 0) rfl (by rw [ey_41]; rfl) (by decide) rfl (fun ls hl => ?_)
                    refine lv_goto (tgt := 87) hx hb dX9_shade_147 (by decide) ?_
                    exact ih_20 (i + 1) y_41 g_38 g_39 g_40 _ _ _ (by omega) (by omega) (by rw [ey_41, ex_i]; exact nI_1 i) (by omega) (by rw [show gR (sjQ kx ky ki op) j (i + 1) = gR (sjQ kx ky ki op) j i ++ [(x4, x3, r_36, op)] from congrArg (gR (sjQ kx ky ki op) j i ++ ·) (show sjQ kx ky ki op j i = [(x4, x3, r_36, op)] by unfold sjQ; rw [if_neg f_30, ← ex_i, ← ex_j, ← (show r_36 = mdP kx ky ki (2 * x4 + 1) (2 * x3 + 1) (wA kx ky) by rw [ex_i, ex_j]; exact hr_36)]), ← List.append_assoc, List.foldl_append, ← hgi]; exact hM) (hP.sub (ws' := [(m2, .inl (cI, 4, .inl gh)), (m3, .inl (cI, 16384, .inl gd)), (m5, .inl (cI, 4096, .inl g_39)), (m6, .inl (cI, 4096, .inl g_40)), (m10, .inl (cI, 3, .inl kx)), (m11, .inl (cI, 3, .inl ky)), (m12, .inl (cI, 3, .inl ki)), (m1, .inl (cI, 4, .inl gw)), (h0, .inr (9, [.ref m1, .ref m2, .ref m3, .int ik, .int wy, .int op, .int cl, .int cx0, .int cx1, .int cy0, .int cy1, .int ds, .ref m4, .ref m5, .ref m6, .ref m7, .ref m8, .ref m9, .int pn, .ref m10, .ref m11, .ref m12, .ref m13])), (m4, .inl (cZ, 4096, .inl g_38))]) [6, 0, 8, 9, 1, 2, 3, 5, 4, 7] rfl) (hD.sub (ws' := [(m2, .inl (cI, 4, .inl gh)), (m3, .inl (cI, 16384, .inl gd)), (m5, .inl (cI, 4096, .inl g_39)), (m6, .inl (cI, 4096, .inl g_40)), (m10, .inl (cI, 3, .inl kx)), (m11, .inl (cI, 3, .inl ky)), (m12, .inl (cI, 3, .inl ki)), (m1, .inl (cI, 4, .inl gw)), (h0, .inr (9, [.ref m1, .ref m2, .ref m3, .int ik, .int wy, .int op, .int cl, .int cx0, .int cx1, .int cy0, .int cy1, .int ds, .ref m4, .ref m5, .ref m6, .ref m7, .ref m8, .ref m9, .int pn, .ref m10, .ref m11, .ref m12, .ref m13])), (m4, .inl (cZ, 4096, .inl g_38))]) [6, 0, 8, 9, 1, 2, 3, 5, 4, 7] (by decide) rfl) hS (lv_sub hl [0, 1, 2, 3, 4] rfl)
            exact loop_19 (64 + 1) 0 0 ga gb gc _ _ _ (by omega) (by omega) nI_0.symm (by omega) (by rw [show gR (sjQ kx ky ki op) j 0 = [] from rfl, List.append_nil]; exact hgo) hP hD hS (lv_sub hl [0, 1, 2, 3, 4] rfl)
      exact loop_14 (64 + 1) 0 0 (zrN gm 4096) ge gv _ _ _ (by omega) (by omega) nI_0.symm (by omega) rfl hP hD hS (lv_sub hl [0, 1, 2, 3] rfl)
    · skip
      have f_13 : r_11.toInt = 0 := f_eq rfl (by decide) c_12
      refine lv_iconst (v := 0) hx hb dX9_shade_70 (by decide) ?_
      have hL0 : sjL kx ky ki op (gw k.toNatClampNeg).toNatClampNeg (gh k.toNatClampNeg).toNatClampNeg = [] := if_pos (hwA.symm.trans c_12)
      have hP : va_P D vwCl [(m2, .inl (cI, 4, .inl gh)), (m3, .inl (cI, 16384, .inl (lysN wy gd ((sjL kx ky ki op (gw k.toNatClampNeg).toNatClampNeg (gh k.toNatClampNeg).toNatClampNeg).foldl (mkF (gw k.toNatClampNeg) (gh k.toNatClampNeg) cl cx0 cx1 cy0 cy1) (zrN gm 4096, ge, gv)).1 ((sjL kx ky ki op (gw k.toNatClampNeg).toNatClampNeg (gh k.toNatClampNeg).toNatClampNeg).foldl (mkF (gw k.toNatClampNeg) (gh k.toNatClampNeg) cl cx0 cx1 cy0 cy1) (zrN gm 4096, ge, gv)).2.1 ((sjL kx ky ki op (gw k.toNatClampNeg).toNatClampNeg (gh k.toNatClampNeg).toNatClampNeg).foldl (mkF (gw k.toNatClampNeg) (gh k.toNatClampNeg) cl cx0 cx1 cy0 cy1) (zrN gm 4096, ge, gv)).2.2 k.toNatClampNeg 4096))), (m5, .inl (cI, 4096, .inl (((sjL kx ky ki op (gw k.toNatClampNeg).toNatClampNeg (gh k.toNatClampNeg).toNatClampNeg).foldl (mkF (gw k.toNatClampNeg) (gh k.toNatClampNeg) cl cx0 cx1 cy0 cy1) (zrN gm 4096, ge, gv)).2.1))), (m6, .inl (cI, 4096, .inl (((sjL kx ky ki op (gw k.toNatClampNeg).toNatClampNeg (gh k.toNatClampNeg).toNatClampNeg).foldl (mkF (gw k.toNatClampNeg) (gh k.toNatClampNeg) cl cx0 cx1 cy0 cy1) (zrN gm 4096, ge, gv)).2.2))), (m10, .inl (cI, 3, .inl kx)), (m11, .inl (cI, 3, .inl ky)), (m12, .inl (cI, 3, .inl ki)), (m1, .inl (cI, 4, .inl gw)), (h0, .inr (9, [.ref m1, .ref m2, .ref m3, .int ik, .int wy, .int op, .int cl, .int cx0, .int cx1, .int cy0, .int cy1, .int ds, .ref m4, .ref m5, .ref m6, .ref m7, .ref m8, .ref m9, .int pn, .ref m10, .ref m11, .ref m12, .ref m13])), (m4, .inl (cZ, 4096, .inl (((sjL kx ky ki op (gw k.toNatClampNeg).toNatClampNeg (gh k.toNatClampNeg).toNatClampNeg).foldl (mkF (gw k.toNatClampNeg) (gh k.toNatClampNeg) cl cx0 cx1 cy0 cy1) (zrN gm 4096, ge, gv)).1)))] H := by rw [hL0]; simp only [List.foldl]; rw [lys_none (fun j hj => zr_at hj)]; exact hP
      have hD : va_D A [(m2, .inl (cI, 4, .inl gh)), (m3, .inl (cI, 16384, .inl (lysN wy gd ((sjL kx ky ki op (gw k.toNatClampNeg).toNatClampNeg (gh k.toNatClampNeg).toNatClampNeg).foldl (mkF (gw k.toNatClampNeg) (gh k.toNatClampNeg) cl cx0 cx1 cy0 cy1) (zrN gm 4096, ge, gv)).1 ((sjL kx ky ki op (gw k.toNatClampNeg).toNatClampNeg (gh k.toNatClampNeg).toNatClampNeg).foldl (mkF (gw k.toNatClampNeg) (gh k.toNatClampNeg) cl cx0 cx1 cy0 cy1) (zrN gm 4096, ge, gv)).2.1 ((sjL kx ky ki op (gw k.toNatClampNeg).toNatClampNeg (gh k.toNatClampNeg).toNatClampNeg).foldl (mkF (gw k.toNatClampNeg) (gh k.toNatClampNeg) cl cx0 cx1 cy0 cy1) (zrN gm 4096, ge, gv)).2.2 k.toNatClampNeg 4096))), (m5, .inl (cI, 4096, .inl (((sjL kx ky ki op (gw k.toNatClampNeg).toNatClampNeg (gh k.toNatClampNeg).toNatClampNeg).foldl (mkF (gw k.toNatClampNeg) (gh k.toNatClampNeg) cl cx0 cx1 cy0 cy1) (zrN gm 4096, ge, gv)).2.1))), (m6, .inl (cI, 4096, .inl (((sjL kx ky ki op (gw k.toNatClampNeg).toNatClampNeg (gh k.toNatClampNeg).toNatClampNeg).foldl (mkF (gw k.toNatClampNeg) (gh k.toNatClampNeg) cl cx0 cx1 cy0 cy1) (zrN gm 4096, ge, gv)).2.2))), (m10, .inl (cI, 3, .inl kx)), (m11, .inl (cI, 3, .inl ky)), (m12, .inl (cI, 3, .inl ki)), (m1, .inl (cI, 4, .inl gw)), (h0, .inr (9, [.ref m1, .ref m2, .ref m3, .int ik, .int wy, .int op, .int cl, .int cx0, .int cx1, .int cy0, .int cy1, .int ds, .ref m4, .ref m5, .ref m6, .ref m7, .ref m8, .ref m9, .int pn, .ref m10, .ref m11, .ref m12, .ref m13])), (m4, .inl (cZ, 4096, .inl (((sjL kx ky ki op (gw k.toNatClampNeg).toNatClampNeg (gh k.toNatClampNeg).toNatClampNeg).foldl (mkF (gw k.toNatClampNeg) (gh k.toNatClampNeg) cl cx0 cx1 cy0 cy1) (zrN gm 4096, ge, gv)).1)))] := by rw [hL0]; simp only [List.foldl]; rw [lys_none (fun j hj => zr_at hj)]; exact hD
      have hP9 := hP.sub (ws' := [(h0, .inr (9, [.ref m1, .ref m2, .ref m3, .int ik, .int wy, .int op, .int cl, .int cx0, .int cx1, .int cy0, .int cy1, .int ds, .ref m4, .ref m5, .ref m6, .ref m7, .ref m8, .ref m9, .int pn, .ref m10, .ref m11, .ref m12, .ref m13])), (m1, .inl (cI, 4, .inl gw)), (m2, .inl (cI, 4, .inl gh)), (m3, .inl (cI, 16384, .inl (lysN wy gd ((sjL kx ky ki op (gw k.toNatClampNeg).toNatClampNeg (gh k.toNatClampNeg).toNatClampNeg).foldl (mkF (gw k.toNatClampNeg) (gh k.toNatClampNeg) cl cx0 cx1 cy0 cy1) (zrN gm 4096, ge, gv)).1 ((sjL kx ky ki op (gw k.toNatClampNeg).toNatClampNeg (gh k.toNatClampNeg).toNatClampNeg).foldl (mkF (gw k.toNatClampNeg) (gh k.toNatClampNeg) cl cx0 cx1 cy0 cy1) (zrN gm 4096, ge, gv)).2.1 ((sjL kx ky ki op (gw k.toNatClampNeg).toNatClampNeg (gh k.toNatClampNeg).toNatClampNeg).foldl (mkF (gw k.toNatClampNeg) (gh k.toNatClampNeg) cl cx0 cx1 cy0 cy1) (zrN gm 4096, ge, gv)).2.2 k.toNatClampNeg 4096))), (m4, .inl (cZ, 4096, .inl (((sjL kx ky ki op (gw k.toNatClampNeg).toNatClampNeg (gh k.toNatClampNeg).toNatClampNeg).foldl (mkF (gw k.toNatClampNeg) (gh k.toNatClampNeg) cl cx0 cx1 cy0 cy1) (zrN gm 4096, ge, gv)).1))), (m5, .inl (cI, 4096, .inl (((sjL kx ky ki op (gw k.toNatClampNeg).toNatClampNeg (gh k.toNatClampNeg).toNatClampNeg).foldl (mkF (gw k.toNatClampNeg) (gh k.toNatClampNeg) cl cx0 cx1 cy0 cy1) (zrN gm 4096, ge, gv)).2.1))), (m6, .inl (cI, 4096, .inl (((sjL kx ky ki op (gw k.toNatClampNeg).toNatClampNeg (gh k.toNatClampNeg).toNatClampNeg).foldl (mkF (gw k.toNatClampNeg) (gh k.toNatClampNeg) cl cx0 cx1 cy0 cy1) (zrN gm 4096, ge, gv)).2.2))), (m10, .inl (cI, 3, .inl kx)), (m11, .inl (cI, 3, .inl ky)), (m12, .inl (cI, 3, .inl ki))]) [8, 7, 0, 1, 9, 2, 3, 4, 5, 6] rfl
      have hD9 := hD.sub (ws' := [(h0, .inr (9, [.ref m1, .ref m2, .ref m3, .int ik, .int wy, .int op, .int cl, .int cx0, .int cx1, .int cy0, .int cy1, .int ds, .ref m4, .ref m5, .ref m6, .ref m7, .ref m8, .ref m9, .int pn, .ref m10, .ref m11, .ref m12, .ref m13])), (m1, .inl (cI, 4, .inl gw)), (m2, .inl (cI, 4, .inl gh)), (m3, .inl (cI, 16384, .inl (lysN wy gd ((sjL kx ky ki op (gw k.toNatClampNeg).toNatClampNeg (gh k.toNatClampNeg).toNatClampNeg).foldl (mkF (gw k.toNatClampNeg) (gh k.toNatClampNeg) cl cx0 cx1 cy0 cy1) (zrN gm 4096, ge, gv)).1 ((sjL kx ky ki op (gw k.toNatClampNeg).toNatClampNeg (gh k.toNatClampNeg).toNatClampNeg).foldl (mkF (gw k.toNatClampNeg) (gh k.toNatClampNeg) cl cx0 cx1 cy0 cy1) (zrN gm 4096, ge, gv)).2.1 ((sjL kx ky ki op (gw k.toNatClampNeg).toNatClampNeg (gh k.toNatClampNeg).toNatClampNeg).foldl (mkF (gw k.toNatClampNeg) (gh k.toNatClampNeg) cl cx0 cx1 cy0 cy1) (zrN gm 4096, ge, gv)).2.2 k.toNatClampNeg 4096))), (m4, .inl (cZ, 4096, .inl (((sjL kx ky ki op (gw k.toNatClampNeg).toNatClampNeg (gh k.toNatClampNeg).toNatClampNeg).foldl (mkF (gw k.toNatClampNeg) (gh k.toNatClampNeg) cl cx0 cx1 cy0 cy1) (zrN gm 4096, ge, gv)).1))), (m5, .inl (cI, 4096, .inl (((sjL kx ky ki op (gw k.toNatClampNeg).toNatClampNeg (gh k.toNatClampNeg).toNatClampNeg).foldl (mkF (gw k.toNatClampNeg) (gh k.toNatClampNeg) cl cx0 cx1 cy0 cy1) (zrN gm 4096, ge, gv)).2.1))), (m6, .inl (cI, 4096, .inl (((sjL kx ky ki op (gw k.toNatClampNeg).toNatClampNeg (gh k.toNatClampNeg).toNatClampNeg).foldl (mkF (gw k.toNatClampNeg) (gh k.toNatClampNeg) cl cx0 cx1 cy0 cy1) (zrN gm 4096, ge, gv)).2.2))), (m10, .inl (cI, 3, .inl kx)), (m11, .inl (cI, 3, .inl ky)), (m12, .inl (cI, 3, .inl ki))]) [8, 7, 0, 1, 9, 2, 3, 4, 5, 6] (by decide) rfl
      have hK9 := hK.sub (tys' := [(cI, .int), (cZ, .boolean)]) [0, 1] rfl
      refine hQ _ _ _ _ _ ?_
      exact W.iret (v := 0) hx hb hr (fun t ht hW => ⟨⟨0, (), rfl, (by rw [hL0]; show (0 : Int32) = nI (cntP (zrN gm 4096) 4096); rw [cnt_zr]; rfl), ⟨by rw [ht]; exact hP9, va_K.moved hW.alike hK9, hD9⟩⟩, hS.F ht⟩) hS.2.2 dX9_shade_71
  · skip
    have f_3 := bz0 hr_1 c_2
    exact False.elim (by omega)

set_option maxHeartbeats 4000000 in
set_option maxRecDepth 100000 in
theorem k_X9_shade_ne (l : Launch) (D : va_G) (sz : Nat) (h0 m1 m2 m3 m4 m5 m6 m7 m8 m9 m10 m11 m12 m13 : Nat) (ik wy op cl cx0 cx1 cy0 cy1 ds pn : Int32) (gw : Nat → Int32) (k : Int32) (cI : ClassId) (hns : ¬ (0 ≤ k.toInt ∧ k.toInt ≤ 3 ∧ 0 < (gw k.toNatClampNeg).toInt)) : Met l yX9_shade (wB yX9_shade cX9_shade 5 (some .int)) ({ frames := 1, cells := 0, slots := 0, locals := 21 }) (cP D [(h0, .inr (9, [.ref m1, .ref m2, .ref m3, .int ik, .int wy, .int op, .int cl, .int cx0, .int cx1, .int cy0, .int cy1, .int ds, .ref m4, .ref m5, .ref m6, .ref m7, .ref m8, .ref m9, .int pn, .ref m10, .ref m11, .ref m12, .ref m13])), (m1, .inl (cI, 4, .inl gw))] [(cI, .int)] sz [.ref h0, .int k]) (va_Qi (fun (r : Int32) (_ : Unit) => r = -1) (fun (_ : Unit) (t : State) => cB D (va_A [(h0, .inr (9, [.ref m1, .ref m2, .ref m3, .int ik, .int wy, .int op, .int cl, .int cx0, .int cx1, .int cy0, .int cy1, .int ds, .ref m4, .ref m5, .ref m6, .ref m7, .ref m8, .ref m9, .int pn, .ref m10, .ref m11, .ref m12, .ref m13])), (m1, .inl (cI, 4, .inl gw))] sz) [(h0, .inr (9, [.ref m1, .ref m2, .ref m3, .int ik, .int wy, .int op, .int cl, .int cx0, .int cx1, .int cy0, .int cy1, .int ds, .ref m4, .ref m5, .ref m6, .ref m7, .ref m8, .ref m9, .int pn, .ref m10, .ref m11, .ref m12, .ref m13])), (m1, .inl (cI, 4, .inl gw))] [(cI, .int)] t) (va_A [(h0, .inr (9, [.ref m1, .ref m2, .ref m3, .int ik, .int wy, .int op, .int cl, .int cx0, .int cx1, .int cy0, .int cy1, .int ds, .ref m4, .ref m5, .ref m6, .ref m7, .ref m8, .ref m9, .int pn, .ref m10, .ref m11, .ref m12, .ref m13])), (m1, .inl (cI, 4, .inl gw))] sz)) 0 0 (va_A [(h0, .inr (9, [.ref m1, .ref m2, .ref m3, .int ik, .int wy, .int op, .int cl, .int cx0, .int cx1, .int cy0, .int cy1, .int ds, .ref m4, .ref m5, .ref m6, .ref m7, .ref m8, .ref m9, .int pn, .ref m10, .ref m11, .ref m12, .ref m13])), (m1, .inl (cI, 4, .inl gw))] sz) := by
  refine Met.ofW (cc := cX9_shade) (maxL := 5) (ret := (some .int)) (by decide) rfl ?_
  intro p e s m args below meth c s₁ B hml hv
  obtain ⟨rfl, hsz, hP, hK, hD0, hN⟩ := hv
  have hx := B.exec
  have hb := B.bytes
  have hr := B.returns
  have hts0 := atoms_spec (ws := (wB yX9_shade cX9_shade 5 (some .int))) B.pre
  have hts : ∀ w ∈ bigW, w.before _ s = true := fun w h => hts0 w (List.mem_cons_of_mem _ h)
  have hown : s.vm.findClass RX9 = some m.cls := findClass_of_methodNamed B.named
  have hlocks := B.notSynchronized
  subst hsz
  have hD := hD0.self (sz := s.heap.size)
  generalize hAe : va_A [(h0, .inr (9, [.ref m1, .ref m2, .ref m3, .int ik, .int wy, .int op, .int cl, .int cx0, .int cx1, .int cy0, .int cy1, .int ds, .ref m4, .ref m5, .ref m6, .ref m7, .ref m8, .ref m9, .int pn, .ref m10, .ref m11, .ref m12, .ref m13])), (m1, .inl (cI, 4, .inl gw))] s.heap.size = A at hD ⊢
  have hA : ∀ q : Nat, s.heap.size ≤ q → A q := fun q h => by rw [← hAe]; exact Or.inr h
  have hS : va_S A s.heap s.heap [] := va_S.rf
  have hP : va_P D vwCl [(h0, .inr (9, [.ref m1, .ref m2, .ref m3, .int ik, .int wy, .int op, .int cl, .int cx0, .int cx1, .int cy0, .int cy1, .int ds, .ref m4, .ref m5, .ref m6, .ref m7, .ref m8, .ref m9, .int pn, .ref m10, .ref m11, .ref m12, .ref m13])), (m1, .inl (cI, 4, .inl gw))] s.heap := hP
  have hl := lv_entry ([.ref h0, .int k]) (n := 5) (Nat.le_of_ble_eq_true rfl)
  rw [lg_entry_eq]
  generalize (lg_sl ([.ref h0, .int k]) ++ List.replicate (5 - (lg_sl ([.ref h0, .int k])).length) Slot.unset).toArray = ls at hl ⊢
  have hl : lv_has ls 5 [(0, .ref h0), (1, .int k)] := hl
  clear hts0 hD0 hAe
  refine my_abs (fun R Q hR hQ => ?_)
  refine lv_aload_n hx hb dX9_shade_0 rfl (lv_at hl 0 rfl) ?_
  refine lv_iload_n hx hb dX9_shade_1 rfl (lv_at hl 1 rfl) ?_
  have hPc := hP.sub (ws' := [(h0, .inr (9, [.ref m1, .ref m2, .ref m3, .int ik, .int wy, .int op, .int cl, .int cx0, .int cx1, .int cy0, .int cy1, .int ds, .ref m4, .ref m5, .ref m6, .ref m7, .ref m8, .ref m9, .int pn, .ref m10, .ref m11, .ref m12, .ref m13])), (m1, .inl (cI, 4, .inl gw))]) [0, 1] rfl
  have hDc := hD.sub (ws' := [(h0, .inr (9, [.ref m1, .ref m2, .ref m3, .int ik, .int wy, .int op, .int cl, .int cx0, .int cx1, .int cy0, .int cy1, .int ds, .ref m4, .ref m5, .ref m6, .ref m7, .ref m8, .ref m9, .int pn, .ref m10, .ref m11, .ref m12, .ref m13])), (m1, .inl (cI, 4, .inl gw))]) [0, 1] (by decide) rfl
  have hKc := hK.sub (tys' := [(cI, .int)]) [0] rfl
  have hFc := va_free (wc := [(h0, .inr (9, [.ref m1, .ref m2, .ref m3, .int ik, .int wy, .int op, .int cl, .int cx0, .int cx1, .int cy0, .int cy1, .int ds, .ref m4, .ref m5, .ref m6, .ref m7, .ref m8, .ref m9, .int pn, .ref m10, .ref m11, .ref m12, .ref m13])), (m1, .inl (cI, 4, .inl gw))]) hD hS hA [0, 1] rfl
  refine va_calli (va_runV (As := [.int k]) (rest := []) ⟨hx, hb, hml, hown, hts⟩ (k_X9_isSheet l D s.heap.size h0 m1 m2 m3 m4 m5 m6 m7 m8 m9 m10 m11 m12 m13 ik wy op cl cx0 cx1 cy0 cy1 ds pn gw k cI) (cwV 1 hts (gV bw_490 bw_415 bw_416 bw_391 bw_414) rfl rfl rfl (by decide +kernel) ⟨(by rw [hR]; exact Nat.le_of_ble_eq_true rfl), (by rw [hR]; exact Nat.le_of_ble_eq_true rfl)⟩) ⟨cP_blind, va_recv hKc hPc (ci := 9) (q0 := 0) rfl rfl, cP_at hPc hKc hDc hN⟩ rfl rfl hl.1 rfl (lv_room (Nat.le_of_ble_eq_true rfl)) dX9_shade_2 ⟨(by rw [hR]; exact Nat.le_of_ble_eq_true rfl), (by rw [hR]; exact Nat.le_of_ble_eq_true rfl)⟩) hS (fun q _ h => hFc q h) hFc (fun r_1 u9 t9 H1 locs ht hvm hr_1 hB hz1 hk1 hS => ?_)
  try dsimp only at hr_1
  obtain ⟨hP1, hK1, hD1⟩ := hB
  rw [ht] at hP1
  obtain ⟨hP, hD⟩ := va_join (wr := []) (w1 := [(h0, .inr (9, [.ref m1, .ref m2, .ref m3, .int ik, .int wy, .int op, .int cl, .int cx0, .int cx1, .int cy0, .int cy1, .int ds, .ref m4, .ref m5, .ref m6, .ref m7, .ref m8, .ref m9, .int pn, .ref m10, .ref m11, .ref m12, .ref m13])), (m1, .inl (cI, 4, .inl gw))]) hP hD [0, 1] [] rfl rfl (by decide) (by decide) hk1 hFc hP1 hD1
  clear hz1 hk1 hFc hKc hDc hPc
  generalize H1 = H at hP hS ⊢
  have hP : va_P D vwCl [(h0, .inr (9, [.ref m1, .ref m2, .ref m3, .int ik, .int wy, .int op, .int cl, .int cx0, .int cx1, .int cy0, .int cy1, .int ds, .ref m4, .ref m5, .ref m6, .ref m7, .ref m8, .ref m9, .int pn, .ref m10, .ref m11, .ref m12, .ref m13])), (m1, .inl (cI, 4, .inl gw))] H := hP
  have hD : va_D A [(h0, .inr (9, [.ref m1, .ref m2, .ref m3, .int ik, .int wy, .int op, .int cl, .int cx0, .int cx1, .int cy0, .int cy1, .int ds, .ref m4, .ref m5, .ref m6, .ref m7, .ref m8, .ref m9, .int pn, .ref m10, .ref m11, .ref m12, .ref m13])), (m1, .inl (cI, 4, .inl gw))] := hD
  refine lv_if_ne (tgt := 10) hx hb dX9_shade_5 (by decide) (fun c_2 => ?_) (fun c_2 => ?_)
  · skip
    have f_3 := bz1 hr_1 c_2
    exact False.elim (by omega)
  · skip
    have f_3 := bz0 hr_1 c_2
    refine lv_iconst (v := (-1)) hx hb dX9_shade_8 (by decide) ?_
    have hP9 := hP.sub (ws' := [(h0, .inr (9, [.ref m1, .ref m2, .ref m3, .int ik, .int wy, .int op, .int cl, .int cx0, .int cx1, .int cy0, .int cy1, .int ds, .ref m4, .ref m5, .ref m6, .ref m7, .ref m8, .ref m9, .int pn, .ref m10, .ref m11, .ref m12, .ref m13])), (m1, .inl (cI, 4, .inl gw))]) [0, 1] rfl
    have hD9 := hD.sub (ws' := [(h0, .inr (9, [.ref m1, .ref m2, .ref m3, .int ik, .int wy, .int op, .int cl, .int cx0, .int cx1, .int cy0, .int cy1, .int ds, .ref m4, .ref m5, .ref m6, .ref m7, .ref m8, .ref m9, .int pn, .ref m10, .ref m11, .ref m12, .ref m13])), (m1, .inl (cI, 4, .inl gw))]) [0, 1] (by decide) rfl
    have hK9 := hK.sub (tys' := [(cI, .int)]) [0] rfl
    refine hQ _ _ _ _ _ ?_
    exact W.iret (v := (-1)) hx hb hr (fun t ht hW => ⟨⟨(-1), (), rfl, rfl, ⟨by rw [ht]; exact hP9, va_K.moved hW.alike hK9, hD9⟩⟩, hS.F ht⟩) hS.2.2 dX9_shade_9
