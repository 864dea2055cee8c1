set_option maxHeartbeats 4000000 in
set_option maxRecDepth 100000 in
theorem k_X6_xAt (l : Launch) (D : va_G) (sz : Nat) (h0 v1 v2 : Nat) (zs : Int32) (ga : Nat → Int32) (x : Int32) (cI : ClassId) (hsz : 0 ≤ zs.toInt ∧ zs.toInt ≤ 4096) : Met l yX6_xAt (wB yX6_xAt cX6_xAt 2 (some .int)) ({ frames := 0, cells := 0, slots := 0, locals := 0 }) (cP D [(h0, .inr (6, [.ref v1, .ref v2, .int zs])), (v1, .inl (cI, 4096, .inl ga))] [(cI, .int)] sz [.ref h0, .int x]) (va_Qi (fun (r : Int32) (_ : Unit) => True) (fun (_ : Unit) (t : State) => cB D (va_A [(h0, .inr (6, [.ref v1, .ref v2, .int zs])), (v1, .inl (cI, 4096, .inl ga))] sz) [(h0, .inr (6, [.ref v1, .ref v2, .int zs])), (v1, .inl (cI, 4096, .inl ga))] [(cI, .int)] t) (va_A [(h0, .inr (6, [.ref v1, .ref v2, .int zs])), (v1, .inl (cI, 4096, .inl ga))] sz)) 0 0 (va_A [(h0, .inr (6, [.ref v1, .ref v2, .int zs])), (v1, .inl (cI, 4096, .inl ga))] sz) := by
  refine Met.ofW (cc := cX6_xAt) (maxL := 2) (ret := (some .int)) (by decide) rfl ?_
  intro p e s m args below meth c s₁ B hml hv
  obtain ⟨rfl, hsz, hP, hK, hD0, hN⟩ := hv
  have hx := B.exec
  have hb := B.bytes
  have hr := B.returns
  have hts0 := atoms_spec (ws := (wB yX6_xAt cX6_xAt 2 (some .int))) B.pre
  have hts : ∀ w ∈ bigW, w.before _ s = true := fun w h => hts0 w (List.mem_cons_of_mem _ h)
  have hown : s.vm.findClass RX6 = some m.cls := findClass_of_methodNamed B.named
  have hlocks := B.notSynchronized
  subst hsz
  have hD := hD0.self (sz := s.heap.size)
  generalize hAe : va_A [(h0, .inr (6, [.ref v1, .ref v2, .int zs])), (v1, .inl (cI, 4096, .inl ga))] s.heap.size = A at hD ⊢
  have hA : ∀ q : Nat, s.heap.size ≤ q → A q := fun q h => by rw [← hAe]; exact Or.inr h
  have hS : va_S A s.heap s.heap [] := va_S.rf
  have hP : va_P D vwCl [(h0, .inr (6, [.ref v1, .ref v2, .int zs])), (v1, .inl (cI, 4096, .inl ga))] s.heap := hP
  have hl := lv_entry ([.ref h0, .int x]) (n := 2) (Nat.le_of_ble_eq_true rfl)
  rw [lg_entry_eq]
  generalize (lg_sl ([.ref h0, .int x]) ++ List.replicate (2 - (lg_sl ([.ref h0, .int x])).length) Slot.unset).toArray = ls at hl ⊢
  have hl : lv_has ls 2 [(0, .ref h0), (1, .int x)] := hl
  clear hts0 hD0 hAe
  refine my_abs (fun R Q hR hQ => ?_)
  refine lv_iload_n hx hb dX6_xAt_0 rfl (lv_at hl 1 rfl) ?_
  refine lv_if_lt (tgt := 24) hx hb dX6_xAt_1 (by decide) (fun c_1 => ?_) (fun c_1 => ?_)
  · skip
    have f_2 : x.toInt < 0 := f_lt rfl (by decide) c_1
    refine lv_iconst (v := (-1)) hx hb dX6_xAt_24 (by decide) ?_
    have hP9 := hP.sub (ws' := [(h0, .inr (6, [.ref v1, .ref v2, .int zs])), (v1, .inl (cI, 4096, .inl ga))]) [0, 1] rfl
    have hD9 := hD.sub (ws' := [(h0, .inr (6, [.ref v1, .ref v2, .int zs])), (v1, .inl (cI, 4096, .inl ga))]) [0, 1] (by decide) rfl
    have hK9 := hK.sub (tys' := [(cI, .int)]) [0] rfl
    refine hQ _ _ _ _ _ ?_
    exact W.iret (v := (-1)) hx hb hr (fun t ht hW => ⟨⟨(-1), (), rfl, trivial, ⟨by rw [ht]; exact hP9, va_K.moved hW.alike hK9, hD9⟩⟩, hS.F ht⟩) hS.2.2 dX6_xAt_25
  · skip
    have f_2 : ¬ (x.toInt < 0) := fn_lt rfl (by decide) c_1
    refine lv_iload_n hx hb dX6_xAt_4 rfl (lv_at hl 1 rfl) ?_
    refine lv_aload_n hx hb dX6_xAt_5 rfl (lv_at hl 0 rfl) ?_
    refine va_get (D := D) (ci := 6) (v := .int zs) (C := RX6) (T := TX6) (N := 3) hx hb hts hi_X6 hown hK hP 0 rfl rfl 2 (by decide) (hts _ bw_175) (fun _ h9 => h9) rfl dX6_xAt_6 ?_
    refine lv_icmp_ge (tgt := 24) hx hb dX6_xAt_9 (by decide) (fun c_3 => ?_) (fun c_3 => ?_)
    · skip
      have f_4 : zs.toInt ≤ x.toInt := f_le rfl rfl c_3
      refine lv_iconst (v := (-1)) hx hb dX6_xAt_24 (by decide) ?_
      have hP9 := hP.sub (ws' := [(h0, .inr (6, [.ref v1, .ref v2, .int zs])), (v1, .inl (cI, 4096, .inl ga))]) [0, 1] rfl
      have hD9 := hD.sub (ws' := [(h0, .inr (6, [.ref v1, .ref v2, .int zs])), (v1, .inl (cI, 4096, .inl ga))]) [0, 1] (by decide) rfl
      have hK9 := hK.sub (tys' := [(cI, .int)]) [0] rfl
      refine hQ _ _ _ _ _ ?_
      exact W.iret (v := (-1)) hx hb hr (fun t ht hW => ⟨⟨(-1), (), rfl, trivial, ⟨by rw [ht]; exact hP9, va_K.moved hW.alike hK9, hD9⟩⟩, hS.F ht⟩) hS.2.2 dX6_xAt_25
    · skip
      have f_4 : ¬ (zs.toInt ≤ x.toInt) := fn_le rfl rfl c_3
      refine lv_aload_n hx hb dX6_xAt_12 rfl (lv_at hl 0 rfl) ?_
      refine va_get (D := D) (ci := 6) (v := .ref v1) (C := RX6) (T := TX6) (N := 3) hx hb hts hi_X6 hown hK hP 0 rfl rfl 0 (by decide) (hts _ bw_173) (fun _ h9 => h9) rfl dX6_xAt_13 ?_
      refine lv_iload_n hx hb dX6_xAt_16 rfl (lv_at hl 1 rfl) ?_
      refine va_iald hx hb hK hP 1 0 rfl rfl (vp_in_iff.mpr ⟨by omega, by omega⟩) dX6_xAt_17 ?_
      refine lv_topi (fun y_5 ey_5 => ?_)
      refine lv_bipush (v := 64) hx hb dX6_xAt_18 (by decide) ?_
      refine lv_irem hx hb dX6_xAt_20 (by decide) ?_
      refine lv_topi (fun y_6 ey_6 => ?_)
      refine lv_goto (tgt := 25) hx hb dX6_xAt_21 (by decide) ?_
      have hP9 := hP.sub (ws' := [(h0, .inr (6, [.ref v1, .ref v2, .int zs])), (v1, .inl (cI, 4096, .inl ga))]) [0, 1] rfl
      have hD9 := hD.sub (ws' := [(h0, .inr (6, [.ref v1, .ref v2, .int zs])), (v1, .inl (cI, 4096, .inl ga))]) [0, 1] (by decide) rfl
      have hK9 := hK.sub (tys' := [(cI, .int)]) [0] rfl
      refine hQ _ _ _ _ _ ?_
      exact W.iret (v := y_6) hx hb hr (fun t ht hW => ⟨⟨y_6, (), rfl, trivial, ⟨by rw [ht]; exact hP9, va_K.moved hW.alike hK9, hD9⟩⟩, hS.F ht⟩) hS.2.2 dX6_xAt_25

set_option maxHeartbeats 4000000 in
set_option maxRecDepth 100000 in
theorem k_X6_yAt (l : Launch) (D : va_G) (sz : Nat) (h0 v1 v2 : Nat) (zs : Int32) (ga : Nat → Int32) (x : Int32) (cI : ClassId) (hsz : 0 ≤ zs.toInt ∧ zs.toInt ≤ 4096) : Met l yX6_yAt (wB yX6_yAt cX6_yAt 2 (some .int)) ({ frames := 0, cells := 0, slots := 0, locals := 0 }) (cP D [(h0, .inr (6, [.ref v1, .ref v2, .int zs])), (v1, .inl (cI, 4096, .inl ga))] [(cI, .int)] sz [.ref h0, .int x]) (va_Qi (fun (r : Int32) (_ : Unit) => True) (fun (_ : Unit) (t : State) => cB D (va_A [(h0, .inr (6, [.ref v1, .ref v2, .int zs])), (v1, .inl (cI, 4096, .inl ga))] sz) [(h0, .inr (6, [.ref v1, .ref v2, .int zs])), (v1, .inl (cI, 4096, .inl ga))] [(cI, .int)] t) (va_A [(h0, .inr (6, [.ref v1, .ref v2, .int zs])), (v1, .inl (cI, 4096, .inl ga))] sz)) 0 0 (va_A [(h0, .inr (6, [.ref v1, .ref v2, .int zs])), (v1, .inl (cI, 4096, .inl ga))] sz) := by
  refine Met.ofW (cc := cX6_yAt) (maxL := 2) (ret := (some .int)) (by decide) rfl ?_
  intro p e s m args below meth c s₁ B hml hv
  obtain ⟨rfl, hsz, hP, hK, hD0, hN⟩ := hv
  have hx := B.exec
  have hb := B.bytes
  have hr := B.returns
  have hts0 := atoms_spec (ws := (wB yX6_yAt cX6_yAt 2 (some .int))) B.pre
  have hts : ∀ w ∈ bigW, w.before _ s = true := fun w h => hts0 w (List.mem_cons_of_mem _ h)
  have hown : s.vm.findClass RX6 = some m.cls := findClass_of_methodNamed B.named
  have hlocks := B.notSynchronized
  subst hsz
  have hD := hD0.self (sz := s.heap.size)
  generalize hAe : va_A [(h0, .inr (6, [.ref v1, .ref v2, .int zs])), (v1, .inl (cI, 4096, .inl ga))] s.heap.size = A at hD ⊢
  have hA : ∀ q : Nat, s.heap.size ≤ q → A q := fun q h => by rw [← hAe]; exact Or.inr h
  have hS : va_S A s.heap s.heap [] := va_S.rf
  have hP : va_P D vwCl [(h0, .inr (6, [.ref v1, .ref v2, .int zs])), (v1, .inl (cI, 4096, .inl ga))] s.heap := hP
  have hl := lv_entry ([.ref h0, .int x]) (n := 2) (Nat.le_of_ble_eq_true rfl)
  rw [lg_entry_eq]
  generalize (lg_sl ([.ref h0, .int x]) ++ List.replicate (2 - (lg_sl ([.ref h0, .int x])).length) Slot.unset).toArray = ls at hl ⊢
  have hl : lv_has ls 2 [(0, .ref h0), (1, .int x)] := hl
  clear hts0 hD0 hAe
  refine my_abs (fun R Q hR hQ => ?_)
  refine lv_iload_n hx hb dX6_yAt_0 rfl (lv_at hl 1 rfl) ?_
  refine lv_if_lt (tgt := 24) hx hb dX6_yAt_1 (by decide) (fun c_1 => ?_) (fun c_1 => ?_)
  · skip
    have f_2 : x.toInt < 0 := f_lt rfl (by decide) c_1
    refine lv_iconst (v := (-1)) hx hb dX6_yAt_24 (by decide) ?_
    have hP9 := hP.sub (ws' := [(h0, .inr (6, [.ref v1, .ref v2, .int zs])), (v1, .inl (cI, 4096, .inl ga))]) [0, 1] rfl
    have hD9 := hD.sub (ws' := [(h0, .inr (6, [.ref v1, .ref v2, .int zs])), (v1, .inl (cI, 4096, .inl ga))]) [0, 1] (by decide) rfl
    have hK9 := hK.sub (tys' := [(cI, .int)]) [0] rfl
    refine hQ _ _ _ _ _ ?_
    exact W.iret (v := (-1)) hx hb hr (fun t ht hW => ⟨⟨(-1), (), rfl, trivial, ⟨by rw [ht]; exact hP9, va_K.moved hW.alike hK9, hD9⟩⟩, hS.F ht⟩) hS.2.2 dX6_yAt_25
  · skip
    have f_2 : ¬ (x.toInt < 0) := fn_lt rfl (by decide) c_1
    refine lv_iload_n hx hb dX6_yAt_4 rfl (lv_at hl 1 rfl) ?_
    refine lv_aload_n hx hb dX6_yAt_5 rfl (lv_at hl 0 rfl) ?_
    refine va_get (D := D) (ci := 6) (v := .int zs) (C := RX6) (T := TX6) (N := 3) hx hb hts hi_X6 hown hK hP 0 rfl rfl 2 (by decide) (hts _ bw_175) (fun _ h9 => h9) rfl dX6_yAt_6 ?_
    refine lv_icmp_ge (tgt := 24) hx hb dX6_yAt_9 (by decide) (fun c_3 => ?_) (fun c_3 => ?_)
    · skip
      have f_4 : zs.toInt ≤ x.toInt := f_le rfl rfl c_3
      refine lv_iconst (v := (-1)) hx hb dX6_yAt_24 (by decide) ?_
      have hP9 := hP.sub (ws' := [(h0, .inr (6, [.ref v1, .ref v2, .int zs])), (v1, .inl (cI, 4096, .inl ga))]) [0, 1] rfl
      have hD9 := hD.sub (ws' := [(h0, .inr (6, [.ref v1, .ref v2, .int zs])), (v1, .inl (cI, 4096, .inl ga))]) [0, 1] (by decide) rfl
      have hK9 := hK.sub (tys' := [(cI, .int)]) [0] rfl
      refine hQ _ _ _ _ _ ?_
      exact W.iret (v := (-1)) hx hb hr (fun t ht hW => ⟨⟨(-1), (), rfl, trivial, ⟨by rw [ht]; exact hP9, va_K.moved hW.alike hK9, hD9⟩⟩, hS.F ht⟩) hS.2.2 dX6_yAt_25
    · skip
      have f_4 : ¬ (zs.toInt ≤ x.toInt) := fn_le rfl rfl c_3
      refine lv_aload_n hx hb dX6_yAt_12 rfl (lv_at hl 0 rfl) ?_
      refine va_get (D := D) (ci := 6) (v := .ref v1) (C := RX6) (T := TX6) (N := 3) hx hb hts hi_X6 hown hK hP 0 rfl rfl 0 (by decide) (hts _ bw_173) (fun _ h9 => h9) rfl dX6_yAt_13 ?_
      refine lv_iload_n hx hb dX6_yAt_16 rfl (lv_at hl 1 rfl) ?_
      refine va_iald hx hb hK hP 1 0 rfl rfl (vp_in_iff.mpr ⟨by omega, by omega⟩) dX6_yAt_17 ?_
      refine lv_topi (fun y_5 ey_5 => ?_)
      refine lv_bipush (v := 64) hx hb dX6_yAt_18 (by decide) ?_
      refine lv_idiv hx hb dX6_yAt_20 (by decide) ?_
      refine lv_topi (fun y_6 ey_6 => ?_)
      refine lv_goto (tgt := 25) hx hb dX6_yAt_21 (by decide) ?_
      have hP9 := hP.sub (ws' := [(h0, .inr (6, [.ref v1, .ref v2, .int zs])), (v1, .inl (cI, 4096, .inl ga))]) [0, 1] rfl
      have hD9 := hD.sub (ws' := [(h0, .inr (6, [.ref v1, .ref v2, .int zs])), (v1, .inl (cI, 4096, .inl ga))]) [0, 1] (by decide) rfl
      have hK9 := hK.sub (tys' := [(cI, .int)]) [0] rfl
      refine hQ _ _ _ _ _ ?_
      exact W.iret (v := y_6) hx hb hr (fun t ht hW => ⟨⟨y_6, (), rfl, trivial, ⟨by rw [ht]; exact hP9, va_K.moved hW.alike hK9, hD9⟩⟩, hS.F ht⟩) hS.2.2 dX6_yAt_25

set_option maxHeartbeats 4000000 in
set_option maxRecDepth 100000 in
theorem k_X6_reach (l : Launch) (D : va_G) (sz : Nat) (h0 v1 v2 t0 d0 lb : Nat) (zs : Int32) (ga : Nat → Int32) (gb : Nat → Int32) (w h : Int32) (g : Nat → Int32) (bx0 by0 bx1 by1 : Int32) (x y vl : Int32) (cI : ClassId) (hsz : 0 ≤ zs.toInt ∧ zs.toInt ≤ 4096) (hw : w.toInt ≤ 64) (hh : h.toInt ≤ 64) : Met l yX6_reach (wB yX6_reach cX6_reach 7 none) ({ frames := 2, cells := 0, slots := 0, locals := 44 }) (cP D [(h0, .inr (6, [.ref v1, .ref v2, .int zs])), (v1, .inl (cI, 4096, .inl ga)), (v2, .inl (cI, 4096, .inl gb)), (t0, .inr (5, [.ref d0, .int w, .int h])), (d0, .inl (cI, 4096, .inl g)), (lb, .inr (0, [.int bx0, .int by0, .int bx1, .int by1]))] [(cI, .int)] sz [.ref h0, .ref t0, .ref lb, .int x, .int y, .int vl]) (va_Qv (fun (_ : Unit) => True) (fun (_ : Unit) (t : State) => ∃ (sz2 : Int32), ∃ (g2 g3 : Nat → Int32), (0 ≤ sz2.toInt ∧ sz2.toInt ≤ 4096) ∧ cB D (va_A [(h0, .inr (6, [.ref v1, .ref v2, .int zs])), (v1, .inl (cI, 4096, .inl ga)), (v2, .inl (cI, 4096, .inl gb)), (t0, .inr (5, [.ref d0, .int w, .int h])), (d0, .inl (cI, 4096, .inl g)), (lb, .inr (0, [.int bx0, .int by0, .int bx1, .int by1]))] sz) [(h0, .inr (6, [.ref v1, .ref v2, .int sz2])), (v1, .inl (cI, 4096, .inl g2)), (v2, .inl (cI, 4096, .inl g3)), (t0, .inr (5, [.ref d0, .int w, .int h])), (d0, .inl (cI, 4096, .inl g)), (lb, .inr (0, [.int bx0, .int by0, .int bx1, .int by1]))] [(cI, .int)] t) (va_A [(h0, .inr (6, [.ref v1, .ref v2, .int zs])), (v1, .inl (cI, 4096, .inl ga)), (v2, .inl (cI, 4096, .inl gb)), (t0, .inr (5, [.ref d0, .int w, .int h])), (d0, .inl (cI, 4096, .inl g)), (lb, .inr (0, [.int bx0, .int by0, .int bx1, .int by1]))] sz)) 0 0 (va_A [(h0, .inr (6, [.ref v1, .ref v2, .int zs])), (v1, .inl (cI, 4096, .inl ga)), (v2, .inl (cI, 4096, .inl gb)), (t0, .inr (5, [.ref d0, .int w, .int h])), (d0, .inl (cI, 4096, .inl g)), (lb, .inr (0, [.int bx0, .int by0, .int bx1, .int by1]))] sz) := by
  refine Met.ofW (cc := cX6_reach) (maxL := 7) (ret := none) (by decide) rfl ?_
  intro p e s m args below meth c s₁ B hml hv
  obtain ⟨rfl, hsz, hP, hK, hD0, hN⟩ := hv
  have hx := B.exec
  have hb := B.bytes
  have hr := B.returns
  have hts0 := atoms_spec (ws := (wB yX6_reach cX6_reach 7 none)) B.pre
  have hts : ∀ w ∈ bigW, w.before _ s = true := fun w h => hts0 w (List.mem_cons_of_mem _ h)
  have hown : s.vm.findClass RX6 = some m.cls := findClass_of_methodNamed B.named
  have hlocks := B.notSynchronized
  subst hsz
  have hD := hD0.self (sz := s.heap.size)
  generalize hAe : va_A [(h0, .inr (6, [.ref v1, .ref v2, .int zs])), (v1, .inl (cI, 4096, .inl ga)), (v2, .inl (cI, 4096, .inl gb)), (t0, .inr (5, [.ref d0, .int w, .int h])), (d0, .inl (cI, 4096, .inl g)), (lb, .inr (0, [.int bx0, .int by0, .int bx1, .int by1]))] s.heap.size = A at hD ⊢
  have hA : ∀ q : Nat, s.heap.size ≤ q → A q := fun q h => by rw [← hAe]; exact Or.inr h
  have hS : va_S A s.heap s.heap [] := va_S.rf
  have hP : va_P D vwCl [(h0, .inr (6, [.ref v1, .ref v2, .int zs])), (v1, .inl (cI, 4096, .inl ga)), (v2, .inl (cI, 4096, .inl gb)), (t0, .inr (5, [.ref d0, .int w, .int h])), (d0, .inl (cI, 4096, .inl g)), (lb, .inr (0, [.int bx0, .int by0, .int bx1, .int by1]))] s.heap := hP
  have hl := lv_entry ([.ref h0, .ref t0, .ref lb, .int x, .int y, .int vl]) (n := 7) (Nat.le_of_ble_eq_true rfl)
  rw [lg_entry_eq]
  generalize (lg_sl ([.ref h0, .ref t0, .ref lb, .int x, .int y, .int vl]) ++ List.replicate (7 - (lg_sl ([.ref h0, .ref t0, .ref lb, .int x, .int y, .int vl])).length) Slot.unset).toArray = ls at hl ⊢
  have hl : lv_has ls 7 [(0, .ref h0), (1, .ref t0), (2, .ref lb), (3, .int x), (4, .int y), (5, .int vl)] := hl
  clear hts0 hD0 hAe
  refine my_abs (fun R Q hR hQ => ?_)
  refine lv_aload_n hx hb dX6_reach_0 rfl (lv_at hl 1 rfl) ?_
  refine lv_iload_n hx hb dX6_reach_1 rfl (lv_at hl 3 rfl) ?_
  refine lv_iload hx hb dX6_reach_2 (lv_at hl 4 rfl) ?_
  have hPc := hP.sub (ws' := [(t0, .inr (5, [.ref d0, .int w, .int h]))]) [3] rfl
  have hDc := hD.sub (ws' := [(t0, .inr (5, [.ref d0, .int w, .int h]))]) [3] (by decide) rfl
  have hKc := hK.sub (tys' := []) [] rfl
  have hFc := va_free (wc := [(t0, .inr (5, [.ref d0, .int w, .int h]))]) hD hS hA [3] rfl
  refine va_calli (va_runV (As := [.int x, .int y]) (rest := []) ⟨hx, hb, hml, hown, hts⟩ (k_X5_has l D s.heap.size t0 d0 w h x y) (cwV 2 hts (gV bw_193 bw_150 bw_151 bw_130 bw_149) rfl rfl rfl (by decide +kernel) ⟨(by rw [hR]; exact Nat.le_of_ble_eq_true rfl), (by rw [hR]; exact Nat.le_of_ble_eq_true rfl)⟩) ⟨cP_blind, va_recv hKc hPc (ci := 5) (q0 := 0) rfl rfl, cP_at hPc hKc hDc hN⟩ rfl rfl hl.1 rfl (lv_room (Nat.le_of_ble_eq_true rfl)) dX6_reach_4 ⟨(by rw [hR]; exact Nat.le_of_ble_eq_true rfl), (by rw [hR]; exact Nat.le_of_ble_eq_true rfl)⟩) hS (fun q _ h => hFc q h) hFc (fun r_1 u9 t9 H1 locs ht hvm hr_1 hB hz1 hk1 hS => ?_)
  try dsimp only at hr_1
  obtain ⟨hP1, hK1, hD1⟩ := hB
  rw [ht] at hP1
  obtain ⟨hP, hD⟩ := va_join (wr := [(h0, .inr (6, [.ref v1, .ref v2, .int zs])), (v1, .inl (cI, 4096, .inl ga)), (v2, .inl (cI, 4096, .inl gb)), (d0, .inl (cI, 4096, .inl g)), (lb, .inr (0, [.int bx0, .int by0, .int bx1, .int by1]))]) (w1 := [(t0, .inr (5, [.ref d0, .int w, .int h]))]) hP hD [3] [0, 1, 2, 4, 5] rfl rfl (by decide) (by decide) hk1 hFc hP1 hD1
  clear hz1 hk1 hFc hKc hDc hPc
  generalize H1 = H at hP hS ⊢
  have hP : va_P D vwCl [(h0, .inr (6, [.ref v1, .ref v2, .int zs])), (v1, .inl (cI, 4096, .inl ga)), (v2, .inl (cI, 4096, .inl gb)), (d0, .inl (cI, 4096, .inl g)), (lb, .inr (0, [.int bx0, .int by0, .int bx1, .int by1])), (t0, .inr (5, [.ref d0, .int w, .int h]))] H := hP
  have hD : va_D A [(h0, .inr (6, [.ref v1, .ref v2, .int zs])), (v1, .inl (cI, 4096, .inl ga)), (v2, .inl (cI, 4096, .inl gb)), (d0, .inl (cI, 4096, .inl g)), (lb, .inr (0, [.int bx0, .int by0, .int bx1, .int by1])), (t0, .inr (5, [.ref d0, .int w, .int h]))] := hD
  refine lv_if_eq (tgt := 32) hx hb dX6_reach_7 (by decide) (fun c_2 => ?_) (fun c_2 => ?_)
  · skip
    have f_3 := bz0 hr_1 c_2
    have hP9 := hP.sub (ws' := [(h0, .inr (6, [.ref v1, .ref v2, .int zs])), (v1, .inl (cI, 4096, .inl ga)), (v2, .inl (cI, 4096, .inl gb)), (t0, .inr (5, [.ref d0, .int w, .int h])), (d0, .inl (cI, 4096, .inl g)), (lb, .inr (0, [.int bx0, .int by0, .int bx1, .int by1]))]) [0, 1, 2, 5, 3, 4] rfl
    have hD9 := hD.sub (ws' := [(h0, .inr (6, [.ref v1, .ref v2, .int zs])), (v1, .inl (cI, 4096, .inl ga)), (v2, .inl (cI, 4096, .inl gb)), (t0, .inr (5, [.ref d0, .int w, .int h])), (d0, .inl (cI, 4096, .inl g)), (lb, .inr (0, [.int bx0, .int by0, .int bx1, .int by1]))]) [0, 1, 2, 5, 3, 4] (by decide) rfl
    have hK9 := hK.sub (tys' := [(cI, .int)]) [0] rfl
    refine hQ _ _ _ _ _ ?_
    exact W.vret hx hb hr (fun t ht hW => ⟨⟨(), rfl, trivial, ⟨zs, ga, gb, (by first | assumption | omega | decide), by rw [ht]; exact hP9, va_K.moved hW.alike hK9, hD9⟩⟩, hS.F ht⟩) hS.2.2 dX6_reach_32
  · skip
    have f_3 := bz1 hr_1 c_2
    refine lv_aload_n hx hb dX6_reach_10 rfl (lv_at hl 2 rfl) ?_
    refine lv_iload_n hx hb dX6_reach_11 rfl (lv_at hl 3 rfl) ?_
    refine lv_iload hx hb dX6_reach_12 (lv_at hl 4 rfl) ?_
    have hPc := hP.sub (ws' := [(lb, .inr (0, [.int bx0, .int by0, .int bx1, .int by1]))]) [4] rfl
    have hDc := hD.sub (ws' := [(lb, .inr (0, [.int bx0, .int by0, .int bx1, .int by1]))]) [4] (by decide) rfl
    have hKc := hK.sub (tys' := []) [] rfl
    have hFc := va_free (wc := [(lb, .inr (0, [.int bx0, .int by0, .int bx1, .int by1]))]) hD hS hA [4] rfl
    refine va_calli (va_runV (As := [.int x, .int y]) (rest := []) ⟨hx, hb, hml, hown, hts⟩ (k_X0_holds l D H.size lb bx0 by0 bx1 by1 x y) (cwV 2 hts (gV bw_194 bw_17 bw_18 bw_4 bw_16) rfl rfl rfl (by decide +kernel) ⟨(by rw [hR]; exact Nat.le_of_ble_eq_true rfl), (by rw [hR]; exact Nat.le_of_ble_eq_true rfl)⟩) ⟨cP_blind, va_recv hKc hPc (ci := 0) (q0 := 0) rfl rfl, cP_at hPc hKc hDc hN⟩ rfl rfl hl.1 rfl (lv_room (Nat.le_of_ble_eq_true rfl)) dX6_reach_14 ⟨(by rw [hR]; exact Nat.le_of_ble_eq_true rfl), (by rw [hR]; exact Nat.le_of_ble_eq_true rfl)⟩) hS (fun q _ h => hFc q h) hFc (fun r_4 u9 t9 H1 locs ht hvm hr_4 hB hz1 hk1 hS => ?_)
    try dsimp only at hr_4
    obtain ⟨hP1, hK1, hD1⟩ := hB
    rw [ht] at hP1
    obtain ⟨hP, hD⟩ := va_join (wr := [(h0, .inr (6, [.ref v1, .ref v2, .int zs])), (v1, .inl (cI, 4096, .inl ga)), (v2, .inl (cI, 4096, .inl gb)), (d0, .inl (cI, 4096, .inl g)), (t0, .inr (5, [.ref d0, .int w, .int h]))]) (w1 := [(lb, .inr (0, [.int bx0, .int by0, .int bx1, .int by1]))]) hP hD [4] [0, 1, 2, 3, 5] rfl rfl (by decide) (by decide) hk1 hFc hP1 hD1
    clear hz1 hk1 hFc hKc hDc hPc
    generalize H1 = H at hP hS ⊢
    have hP : va_P D vwCl [(h0, .inr (6, [.ref v1, .ref v2, .int zs])), (v1, .inl (cI, 4096, .inl ga)), (v2, .inl (cI, 4096, .inl gb)), (d0, .inl (cI, 4096, .inl g)), (t0, .inr (5, [.ref d0, .int w, .int h])), (lb, .inr (0, [.int bx0, .int by0, .int bx1, .int by1]))] H := hP
    have hD : va_D A [(h0, .inr (6, [.ref v1, .ref v2, .int zs])), (v1, .inl (cI, 4096, .inl ga)), (v2, .inl (cI, 4096, .inl gb)), (d0, .inl (cI, 4096, .inl g)), (t0, .inr (5, [.ref d0, .int w, .int h])), (lb, .inr (0, [.int bx0, .int by0, .int bx1, .int by1]))] := hD
    refine lv_if_eq (tgt := 32) hx hb dX6_reach_17 (by decide) (fun c_5 => ?_) (fun c_5 => ?_)
    · skip
      have f_6 := bz0 hr_4 c_5
      have hP9 := hP.sub (ws' := [(h0, .inr (6, [.ref v1, .ref v2, .int zs])), (v1, .inl (cI, 4096, .inl ga)), (v2, .inl (cI, 4096, .inl gb)), (t0, .inr (5, [.ref d0, .int w, .int h])), (d0, .inl (cI, 4096, .inl g)), (lb, .inr (0, [.int bx0, .int by0, .int bx1, .int by1]))]) [0, 1, 2, 4, 3, 5] rfl
      have hD9 := hD.sub (ws' := [(h0, .inr (6, [.ref v1, .ref v2, .int zs])), (v1, .inl (cI, 4096, .inl ga)), (v2, .inl (cI, 4096, .inl gb)), (t0, .inr (5, [.ref d0, .int w, .int h])), (d0, .inl (cI, 4096, .inl g)), (lb, .inr (0, [.int bx0, .int by0, .int bx1, .int by1]))]) [0, 1, 2, 4, 3, 5] (by decide) rfl
      have hK9 := hK.sub (tys' := [(cI, .int)]) [0] rfl
      refine hQ _ _ _ _ _ ?_
      exact W.vret hx hb hr (fun t ht hW => ⟨⟨(), rfl, trivial, ⟨zs, ga, gb, (by first | assumption | omega | decide), by rw [ht]; exact hP9, va_K.moved hW.alike hK9, hD9⟩⟩, hS.F ht⟩) hS.2.2 dX6_reach_32
    · skip
      have f_6 := bz1 hr_4 c_5
      refine lv_aload_n hx hb dX6_reach_20 rfl (lv_at hl 1 rfl) ?_
      refine lv_iload_n hx hb dX6_reach_21 rfl (lv_at hl 3 rfl) ?_
      refine lv_iload hx hb dX6_reach_22 (lv_at hl 4 rfl) ?_
      have hPc := hP.sub (ws' := [(t0, .inr (5, [.ref d0, .int w, .int h])), (d0, .inl (cI, 4096, .inl g))]) [4, 3] rfl
      have hDc := hD.sub (ws' := [(t0, .inr (5, [.ref d0, .int w, .int h])), (d0, .inl (cI, 4096, .inl g))]) [4, 3] (by decide) rfl
      have hKc := hK.sub (tys' := [(cI, .int)]) [0] rfl
      have hFc := va_free (wc := [(t0, .inr (5, [.ref d0, .int w, .int h])), (d0, .inl (cI, 4096, .inl g))]) hD hS hA [4, 3] rfl
      refine va_calli (va_runV (As := [.int x, .int y]) (rest := []) ⟨hx, hb, hml, hown, hts⟩ (k_X5_at l D H.size t0 d0 w h g x y cI (by first | assumption | omega | decide) (by first | assumption | omega | decide)) (cwV 2 hts (gV bw_180 bw_153 bw_154 bw_130 bw_152) rfl rfl rfl (by decide +kernel) ⟨(by rw [hR]; exact Nat.le_of_ble_eq_true rfl), (by rw [hR]; exact Nat.le_of_ble_eq_true rfl)⟩) ⟨cP_blind, va_recv hKc hPc (ci := 5) (q0 := 0) rfl rfl, cP_at hPc hKc hDc hN⟩ rfl rfl hl.1 rfl (lv_room (Nat.le_of_ble_eq_true rfl)) dX6_reach_24 ⟨(by rw [hR]; exact Nat.le_of_ble_eq_true rfl), (by rw [hR]; exact Nat.le_of_ble_eq_true rfl)⟩) hS (fun q _ h => hFc q h) hFc (fun r_7 u9 t9 H1 locs ht hvm hr_7 hB hz1 hk1 hS => ?_)
      try dsimp only at hr_7
      obtain ⟨hP1, hK1, hD1⟩ := hB
      rw [ht] at hP1
      obtain ⟨hP, hD⟩ := va_join (wr := [(h0, .inr (6, [.ref v1, .ref v2, .int zs])), (v1, .inl (cI, 4096, .inl ga)), (v2, .inl (cI, 4096, .inl gb)), (lb, .inr (0, [.int bx0, .int by0, .int bx1, .int by1]))]) (w1 := [(t0, .inr (5, [.ref d0, .int w, .int h])), (d0, .inl (cI, 4096, .inl g))]) hP hD [4, 3] [0, 1, 2, 5] rfl rfl (by decide) (by decide) hk1 hFc hP1 hD1
      clear hz1 hk1 hFc hKc hDc hPc
      generalize H1 = H at hP hS ⊢
      have hP : va_P D vwCl [(h0, .inr (6, [.ref v1, .ref v2, .int zs])), (v1, .inl (cI, 4096, .inl ga)), (v2, .inl (cI, 4096, .inl gb)), (lb, .inr (0, [.int bx0, .int by0, .int bx1, .int by1])), (t0, .inr (5, [.ref d0, .int w, .int h])), (d0, .inl (cI, 4096, .inl g))] H := hP
      have hD : va_D A [(h0, .inr (6, [.ref v1, .ref v2, .int zs])), (v1, .inl (cI, 4096, .inl ga)), (v2, .inl (cI, 4096, .inl gb)), (lb, .inr (0, [.int bx0, .int by0, .int bx1, .int by1])), (t0, .inr (5, [.ref d0, .int w, .int h])), (d0, .inl (cI, 4096, .inl g))] := hD
      refine lv_iload hx hb dX6_reach_27 (lv_at hl 5 rfl) ?_
      refine lv_icmp_eq (tgt := 33) hx hb dX6_reach_29 (by decide) (fun c_8 => ?_) (fun c_8 => ?_)
      · skip
        have f_9 : r_7.toInt = vl.toInt := f_eq rfl rfl c_8
        refine lv_iload hx hb dX6_reach_33 (lv_at hl 4 rfl) ?_
        refine lv_bipush (v := 64) hx hb dX6_reach_35 (by decide) ?_
        refine lv_imul hx hb dX6_reach_37 ?_
        refine lv_topi (fun y_10 ey_10 => ?_)
        refine lv_iload_n hx hb dX6_reach_38 rfl (lv_at hl 3 rfl) ?_
        refine lv_iadd hx hb dX6_reach_39 ?_
        refine lv_topi (fun y_11 ey_11 => ?_)
        refine lv_istore (lv' := [(6, .int y_11), (0, .ref h0), (1, .ref t0), (2, .ref lb), (3, .int x), (4, .int y), (5, .int vl)]) hx hb dX6_reach_40 hl (by decide) rfl (fun ls hl => ?_)
        refine lv_aload_n hx hb dX6_reach_42 rfl (lv_at hl 1 rfl) ?_
        refine va_get (D := D) (ci := 6) (v := .ref v2) (C := RX6) (T := TX6) (N := 3) hx hb hts hi_X6 hown hK hP 0 rfl rfl 1 (by decide) (hts _ bw_174) (fun _ h9 => h9) rfl dX6_reach_43 ?_
        refine lv_iload hx hb dX6_reach_46 (lv_at hl 0 rfl) ?_
        refine va_iald hx hb hK hP 2 0 rfl rfl (by rw [ey_11, ey_10]; exact ix_in (by omega) (by omega) (by omega) (by omega)) dX6_reach_48 ?_
        refine lv_topi (fun y_12 ey_12 => ?_)
        refine lv_if_ne (tgt := 91) hx hb dX6_reach_49 (by decide) (fun c_13 => ?_) (fun c_13 => ?_)
        · skip
          have f_14 : ¬ (y_12.toInt = 0) := fn_eq rfl (by decide) c_13
          have hP9 := hP.sub (ws' := [(h0, .inr (6, [.ref v1, .ref v2, .int zs])), (v1, .inl (cI, 4096, .inl ga)), (v2, .inl (cI, 4096, .inl gb)), (t0, .inr (5, [.ref d0, .int w, .int h])), (d0, .inl (cI, 4096, .inl g)), (lb, .inr (0, [.int bx0, .int by0, .int bx1, .int by1]))]) [0, 1, 2, 4, 5, 3] rfl
          have hD9 := hD.sub (ws' := [(h0, .inr (6, [.ref v1, .ref v2, .int zs])), (v1, .inl (cI, 4096, .inl ga)), (v2, .inl (cI, 4096, .inl gb)), (t0, .inr (5, [.ref d0, .int w, .int h])), (d0, .inl (cI, 4096, .inl g)), (lb, .inr (0, [.int bx0, .int by0, .int bx1, .int by1]))]) [0, 1, 2, 4, 5, 3] (by decide) rfl
          have hK9 := hK.sub (tys' := [(cI, .int)]) [0] rfl
          refine hQ _ _ _ _ _ ?_
          exact W.vret hx hb hr (fun t ht hW => ⟨⟨(), rfl, trivial, ⟨zs, ga, gb, (by first | assumption | omega | decide), by rw [ht]; exact hP9, va_K.moved hW.alike hK9, hD9⟩⟩, hS.F ht⟩) hS.2.2 dX6_reach_91
        · skip
          have f_14 : y_12.toInt = 0 := f_eq rfl (by decide) c_13
          refine lv_aload_n hx hb dX6_reach_52 rfl (lv_at hl 1 rfl) ?_
          refine va_get (D := D) (ci := 6) (v := .int zs) (C := RX6) (T := TX6) (N := 3) hx hb hts hi_X6 hown hK hP 0 rfl rfl 2 (by decide) (hts _ bw_175) (fun _ h9 => h9) rfl dX6_reach_53 ?_
          refine lv_sipush (v := 4096) hx hb dX6_reach_56 (by decide) ?_
          refine lv_icmp_ge (tgt := 91) hx hb dX6_reach_59 (by decide) (fun c_15 => ?_) (fun c_15 => ?_)
          · skip
            have f_16 : 4096 ≤ zs.toInt := f_le (by decide) rfl c_15
            have hP9 := hP.sub (ws' := [(h0, .inr (6, [.ref v1, .ref v2, .int zs])), (v1, .inl (cI, 4096, .inl ga)), (v2, .inl (cI, 4096, .inl gb)), (t0, .inr (5, [.ref d0, .int w, .int h])), (d0, .inl (cI, 4096, .inl g)), (lb, .inr (0, [.int bx0, .int by0, .int bx1, .int by1]))]) [0, 1, 2, 4, 5, 3] rfl
            have hD9 := hD.sub (ws' := [(h0, .inr (6, [.ref v1, .ref v2, .int zs])), (v1, .inl (cI, 4096, .inl ga)), (v2, .inl (cI, 4096, .inl gb)), (t0, .inr (5, [.ref d0, .int w, .int h])), (d0, .inl (cI, 4096, .inl g)), (lb, .inr (0, [.int bx0, .int by0, .int bx1, .int by1]))]) [0, 1, 2, 4, 5, 3] (by decide) rfl
            have hK9 := hK.sub (tys' := [(cI, .int)]) [0] rfl
            refine hQ _ _ _ _ _ ?_
            exact W.vret hx hb hr (fun t ht hW => ⟨⟨(), rfl, trivial, ⟨zs, ga, gb, (by first | assumption | omega | decide), by rw [ht]; exact hP9, va_K.moved hW.alike hK9, hD9⟩⟩, hS.F ht⟩) hS.2.2 dX6_reach_91
          · skip
            have f_16 : ¬ (4096 ≤ zs.toInt) := fn_le (by decide) rfl c_15
            refine lv_aload_n hx hb dX6_reach_62 rfl (lv_at hl 1 rfl) ?_
            refine va_get (D := D) (ci := 6) (v := .ref v2) (C := RX6) (T := TX6) (N := 3) hx hb hts hi_X6 hown hK hP 0 rfl rfl 1 (by decide) (hts _ bw_174) (fun _ h9 => h9) rfl dX6_reach_63 ?_
            refine lv_iload hx hb dX6_reach_66 (lv_at hl 0 rfl) ?_
            refine lv_iconst (v := 1) hx hb dX6_reach_68 (by decide) ?_
            refine va_iast hx hb hK hP hD hS 2 0 rfl rfl (by rw [ey_11, ey_10]; exact ix_in (by omega) (by omega) (by omega) (by omega)) dX6_reach_69 (fun H locs hP hD hS => ?_)
            have hP : va_P D vwCl [(h0, .inr (6, [.ref v1, .ref v2, .int zs])), (v1, .inl (cI, 4096, .inl ga)), (v2, .inl (cI, 4096, .inl (upd gb y_11.toNatClampNeg 1))), (lb, .inr (0, [.int bx0, .int by0, .int bx1, .int by1])), (t0, .inr (5, [.ref d0, .int w, .int h])), (d0, .inl (cI, 4096, .inl g))] H := hP
            have hD : va_D A [(h0, .inr (6, [.ref v1, .ref v2, .int zs])), (v1, .inl (cI, 4096, .inl ga)), (v2, .inl (cI, 4096, .inl (upd gb y_11.toNatClampNeg 1))), (lb, .inr (0, [.int bx0, .int by0, .int bx1, .int by1])), (t0, .inr (5, [.ref d0, .int w, .int h])), (d0, .inl (cI, 4096, .inl g))] := hD
            generalize eg_17 : upd gb y_11.toNatClampNeg 1 = g_17 at hP hD
            have hP : va_P D vwCl [(h0, .inr (6, [.ref v1, .ref v2, .int zs])), (v1, .inl (cI, 4096, .inl ga)), (v2, .inl (cI, 4096, .inl g_17)), (lb, .inr (0, [.int bx0, .int by0, .int bx1, .int by1])), (t0, .inr (5, [.ref d0, .int w, .int h])), (d0, .inl (cI, 4096, .inl g))] H := hP
            have hD : va_D A [(h0, .inr (6, [.ref v1, .ref v2, .int zs])), (v1, .inl (cI, 4096, .inl ga)), (v2, .inl (cI, 4096, .inl g_17)), (lb, .inr (0, [.int bx0, .int by0, .int bx1, .int by1])), (t0, .inr (5, [.ref d0, .int w, .int h])), (d0, .inl (cI, 4096, .inl g))] := hD
            refine lv_aload_n hx hb dX6_reach_70 rfl (lv_at hl 1 rfl) ?_
            refine va_get (D := D) (ci := 6) (v := .ref v1) (C := RX6) (T := TX6) (N := 3) hx hb hts hi_X6 hown hK hP 0 rfl rfl 0 (by decide) (hts _ bw_173) (fun _ h9 => h9) rfl dX6_reach_71 ?_
            refine lv_aload_n hx hb dX6_reach_74 rfl (lv_at hl 1 rfl) ?_
            refine va_get (D := D) (ci := 6) (v := .int zs) (C := RX6) (T := TX6) (N := 3) hx hb hts hi_X6 hown hK hP 0 rfl rfl 2 (by decide) (hts _ bw_175) (fun _ h9 => h9) rfl dX6_reach_75 ?_
            refine lv_iload hx hb dX6_reach_78 (lv_at hl 0 rfl) ?_
            refine va_iast hx hb hK hP hD hS 1 0 rfl rfl (vp_in_iff.mpr ⟨by omega, by omega⟩) dX6_reach_80 (fun H locs hP hD hS => ?_)
            have hP : va_P D vwCl [(h0, .inr (6, [.ref v1, .ref v2, .int zs])), (v1, .inl (cI, 4096, .inl (upd ga zs.toNatClampNeg y_11))), (v2, .inl (cI, 4096, .inl g_17)), (lb, .inr (0, [.int bx0, .int by0, .int bx1, .int by1])), (t0, .inr (5, [.ref d0, .int w, .int h])), (d0, .inl (cI, 4096, .inl g))] H := hP
            have hD : va_D A [(h0, .inr (6, [.ref v1, .ref v2, .int zs])), (v1, .inl (cI, 4096, .inl (upd ga zs.toNatClampNeg y_11))), (v2, .inl (cI, 4096, .inl g_17)), (lb, .inr (0, [.int bx0, .int by0, .int bx1, .int by1])), (t0, .inr (5, [.ref d0, .int w, .int h])), (d0, .inl (cI, 4096, .inl g))] := hD
            generalize eg_18 : upd ga zs.toNatClampNeg y_11 = g_18 at hP hD
            have hP : va_P D vwCl [(h0, .inr (6, [.ref v1, .ref v2, .int zs])), (v1, .inl (cI, 4096, .inl g_18)), (v2, .inl (cI, 4096, .inl g_17)), (lb, .inr (0, [.int bx0, .int by0, .int bx1, .int by1])), (t0, .inr (5, [.ref d0, .int w, .int h])), (d0, .inl (cI, 4096, .inl g))] H := hP
            have hD : va_D A [(h0, .inr (6, [.ref v1, .ref v2, .int zs])), (v1, .inl (cI, 4096, .inl g_18)), (v2, .inl (cI, 4096, .inl g_17)), (lb, .inr (0, [.int bx0, .int by0, .int bx1, .int by1])), (t0, .inr (5, [.ref d0, .int w, .int h])), (d0, .inl (cI, 4096, .inl g))] := hD
            refine lv_aload_n hx hb dX6_reach_81 rfl (lv_at hl 1 rfl) ?_
            refine lv_dup hx hb dX6_reach_82 rfl ?_
            refine va_get (D := D) (ci := 6) (v := .int zs) (C := RX6) (T := TX6) (N := 3) hx hb hts hi_X6 hown hK hP 0 rfl rfl 2 (by decide) (hts _ bw_175) (fun _ h9 => h9) rfl dX6_reach_83 ?_
            refine lv_iconst (v := 1) hx hb dX6_reach_86 (by decide) ?_
            refine lv_iadd hx hb dX6_reach_87 ?_
            refine lv_topi (fun y_19 ey_19 => ?_)
            have hty_19 : 0 ≤ y_19.toInt ∧ y_19.toInt ≤ 4096 := by rw [ey_19, add1_ti (by omega) (by omega)]; omega
            refine va_put (D := D) (ci := 6) (v := .int y_19) (ty := .int) (C := RX6) (T := TX6) (N := 3) hx hb hts hi_X6 tyX6 tyX6_ok nmX6 hown hK hP hD hS 0 rfl rfl 2 (by decide) (hts _ bw_175) (fun _ h9 => h9) rfl (by decide +kernel) rfl rfl (Nat.le_of_ble_eq_true rfl) dX6_reach_88 (fun H locs hP hD hS => ?_)
            have hP : va_P D vwCl [(h0, .inr (6, [.ref v1, .ref v2, .int y_19])), (v1, .inl (cI, 4096, .inl g_18)), (v2, .inl (cI, 4096, .inl g_17)), (lb, .inr (0, [.int bx0, .int by0, .int bx1, .int by1])), (t0, .inr (5, [.ref d0, .int w, .int h])), (d0, .inl (cI, 4096, .inl g))] H := hP
            have hD : va_D A [(h0, .inr (6, [.ref v1, .ref v2, .int y_19])), (v1, .inl (cI, 4096, .inl g_18)), (v2, .inl (cI, 4096, .inl g_17)), (lb, .inr (0, [.int bx0, .int by0, .int bx1, .int by1])), (t0, .inr (5, [.ref d0, .int w, .int h])), (d0, .inl (cI, 4096, .inl g))] := hD
            have hP9 := hP.sub (ws' := [(h0, .inr (6, [.ref v1, .ref v2, .int y_19])), (v1, .inl (cI, 4096, .inl g_18)), (v2, .inl (cI, 4096, .inl g_17)), (t0, .inr (5, [.ref d0, .int w, .int h])), (d0, .inl (cI, 4096, .inl g)), (lb, .inr (0, [.int bx0, .int by0, .int bx1, .int by1]))]) [0, 1, 2, 4, 5, 3] rfl
            have hD9 := hD.sub (ws' := [(h0, .inr (6, [.ref v1, .ref v2, .int y_19])), (v1, .inl (cI, 4096, .inl g_18)), (v2, .inl (cI, 4096, .inl g_17)), (t0, .inr (5, [.ref d0, .int w, .int h])), (d0, .inl (cI, 4096, .inl g)), (lb, .inr (0, [.int bx0, .int by0, .int bx1, .int by1]))]) [0, 1, 2, 4, 5, 3] (by decide) rfl
            have hK9 := hK.sub (tys' := [(cI, .int)]) [0] rfl
            refine hQ _ _ _ _ _ ?_
            exact W.vret hx hb hr (fun t ht hW => ⟨⟨(), rfl, trivial, ⟨y_19, g_18, g_17, (by first | assumption | omega | decide), by rw [ht]; exact hP9, va_K.moved hW.alike hK9, hD9⟩⟩, hS.F ht⟩) hS.2.2 dX6_reach_91
      · skip
        have f_9 : ¬ (r_7.toInt = vl.toInt) := fn_eq rfl rfl c_8
        have hP9 := hP.sub (ws' := [(h0, .inr (6, [.ref v1, .ref v2, .int zs])), (v1, .inl (cI, 4096, .inl ga)), (v2, .inl (cI, 4096, .inl gb)), (t0, .inr (5, [.ref d0, .int w, .int h])), (d0, .inl (cI, 4096, .inl g)), (lb, .inr (0, [.int bx0, .int by0, .int bx1, .int by1]))]) [0, 1, 2, 4, 5, 3] rfl
        have hD9 := hD.sub (ws' := [(h0, .inr (6, [.ref v1, .ref v2, .int zs])), (v1, .inl (cI, 4096, .inl ga)), (v2, .inl (cI, 4096, .inl gb)), (t0, .inr (5, [.ref d0, .int w, .int h])), (d0, .inl (cI, 4096, .inl g)), (lb, .inr (0, [.int bx0, .int by0, .int bx1, .int by1]))]) [0, 1, 2, 4, 5, 3] (by decide) rfl
        have hK9 := hK.sub (tys' := [(cI, .int)]) [0] rfl
        refine hQ _ _ _ _ _ ?_
        exact W.vret hx hb hr (fun t ht hW => ⟨⟨(), rfl, trivial, ⟨zs, ga, gb, (by first | assumption | omega | decide), by rw [ht]; exact hP9, va_K.moved hW.alike hK9, hD9⟩⟩, hS.F ht⟩) hS.2.2 dX6_reach_32

set_option maxHeartbeats 4000000 in
set_option maxRecDepth 100000 in
theorem k_X6_gather (l : Launch) (D : va_G) (sz : Nat) (h0 v1 v2 t0 d0 lb : Nat) (zs : Int32) (ga : Nat → Int32) (gb : Nat → Int32) (w h : Int32) (g : Nat → Int32) (bx0 by0 bx1 by1 : Int32) (x y co : Int32) (cI : ClassId) (hw : w.toInt ≤ 64) (hh : h.toInt ≤ 64) : Met l yX6_gather (wB yX6_gather cX6_gather 11 none) ({ frames := 3, cells := 0, slots := 0, locals := 70 }) (cP D [(h0, .inr (6, [.ref v1, .ref v2, .int zs])), (v1, .inl (cI, 4096, .inl ga)), (v2, .inl (cI, 4096, .inl gb)), (t0, .inr (5, [.ref d0, .int w, .int h])), (d0, .inl (cI, 4096, .inl g)), (lb, .inr (0, [.int bx0, .int by0, .int bx1, .int by1]))] [(cI, .int)] sz [.ref h0, .ref t0, .ref lb, .int x, .int y, .int co]) (va_Qv (fun (_ : Unit) => True) (fun (_ : Unit) (t : State) => ∃ (sz2 : Int32), ∃ (g2 g3 : Nat → Int32), (0 ≤ sz2.toInt ∧ sz2.toInt ≤ 4096) ∧ cB D (va_A [(h0, .inr (6, [.ref v1, .ref v2, .int zs])), (v1, .inl (cI, 4096, .inl ga)), (v2, .inl (cI, 4096, .inl gb)), (t0, .inr (5, [.ref d0, .int w, .int h])), (d0, .inl (cI, 4096, .inl g)), (lb, .inr (0, [.int bx0, .int by0, .int bx1, .int by1]))] sz) [(h0, .inr (6, [.ref v1, .ref v2, .int sz2])), (v1, .inl (cI, 4096, .inl g2)), (v2, .inl (cI, 4096, .inl g3)), (t0, .inr (5, [.ref d0, .int w, .int h])), (d0, .inl (cI, 4096, .inl g)), (lb, .inr (0, [.int bx0, .int by0, .int bx1, .int by1]))] [(cI, .int)] t) (va_A [(h0, .inr (6, [.ref v1, .ref v2, .int zs])), (v1, .inl (cI, 4096, .inl ga)), (v2, .inl (cI, 4096, .inl gb)), (t0, .inr (5, [.ref d0, .int w, .int h])), (d0, .inl (cI, 4096, .inl g)), (lb, .inr (0, [.int bx0, .int by0, .int bx1, .int by1]))] sz)) 0 0 (va_A [(h0, .inr (6, [.ref v1, .ref v2, .int zs])), (v1, .inl (cI, 4096, .inl ga)), (v2, .inl (cI, 4096, .inl gb)), (t0, .inr (5, [.ref d0, .int w, .int h])), (d0, .inl (cI, 4096, .inl g)), (lb, .inr (0, [.int bx0, .int by0, .int bx1, .int by1]))] sz) := by
  refine Met.ofW (cc := cX6_gather) (maxL := 11) (ret := none) (by decide) rfl ?_
  intro p e s m args below meth c s₁ B hml hv
  obtain ⟨rfl, hsz, hP, hK, hD0, hN⟩ := hv
  have hx := B.exec
  have hb := B.bytes
  have hr := B.returns
  have hts0 := atoms_spec (ws := (wB yX6_gather cX6_gather 11 none)) B.pre
  have hts : ∀ w ∈ bigW, w.before _ s = true := fun w h => hts0 w (List.mem_cons_of_mem _ h)
  have hown : s.vm.findClass RX6 = some m.cls := findClass_of_methodNamed B.named
  have hlocks := B.notSynchronized
  subst hsz
  have hD := hD0.self (sz := s.heap.size)
  generalize hAe : va_A [(h0, .inr (6, [.ref v1, .ref v2, .int zs])), (v1, .inl (cI, 4096, .inl ga)), (v2, .inl (cI, 4096, .inl gb)), (t0, .inr (5, [.ref d0, .int w, .int h])), (d0, .inl (cI, 4096, .inl g)), (lb, .inr (0, [.int bx0, .int by0, .int bx1, .int by1]))] s.heap.size = A at hD ⊢
  have hA : ∀ q : Nat, s.heap.size ≤ q → A q := fun q h => by rw [← hAe]; exact Or.inr h
  have hS : va_S A s.heap s.heap [] := va_S.rf
  have hP : va_P D vwCl [(h0, .inr (6, [.ref v1, .ref v2, .int zs])), (v1, .inl (cI, 4096, .inl ga)), (v2, .inl (cI, 4096, .inl gb)), (t0, .inr (5, [.ref d0, .int w, .int h])), (d0, .inl (cI, 4096, .inl g)), (lb, .inr (0, [.int bx0, .int by0, .int bx1, .int by1]))] s.heap := hP
  have hl := lv_entry ([.ref h0, .ref t0, .ref lb, .int x, .int y, .int co]) (n := 11) (Nat.le_of_ble_eq_true rfl)
  rw [lg_entry_eq]
  generalize (lg_sl ([.ref h0, .ref t0, .ref lb, .int x, .int y, .int co]) ++ List.replicate (11 - (lg_sl ([.ref h0, .ref t0, .ref lb, .int x, .int y, .int co])).length) Slot.unset).toArray = ls at hl ⊢
  have hl : lv_has ls 11 [(0, .ref h0), (1, .ref t0), (2, .ref lb), (3, .int x), (4, .int y), (5, .int co)] := hl
  clear hts0 hD0 hAe
  refine my_abs (fun R Q hR hQ => ?_)
  refine lv_aload_n hx hb dX6_gather_0 rfl (lv_at hl 0 rfl) ?_
  refine va_get (D := D) (ci := 6) (v := .ref v2) (C := RX6) (T := TX6) (N := 3) hx hb hts hi_X6 hown hK hP 0 rfl rfl 1 (by decide) (hts _ bw_174) (fun _ h9 => h9) rfl dX6_gather_1 ?_
  refine lv_iconst (v := 0) hx hb dX6_gather_4 (by decide) ?_
  have hPc := hP.sub (ws' := [(v2, .inl (cI, 4096, .inl gb))]) [2] rfl
  have hDc := hD.sub (ws' := [(v2, .inl (cI, 4096, .inl gb))]) [2] (by decide) rfl
  have hKc := hK.sub (tys' := [(cI, .int)]) [0] rfl
  have hFc := va_free (wc := [(v2, .inl (cI, 4096, .inl gb))]) hD hS hA [2] rfl
  refine va_callv (va_runS (As := [.ref v2, .int 0]) (rest := []) ⟨hx, hb, hml, hown, hts⟩ (k_J7_fill_53178_4096 l D s.heap.size v2 gb 0 cI) (va_cwS 2 hts (gS bw_179 bw_95 bw_96 bw_97) rfl rfl rfl (by decide +kernel) ⟨(by rw [hR]; exact Nat.le_of_ble_eq_true rfl), (by rw [hR]; exact Nat.le_of_ble_eq_true rfl)⟩) ⟨cP_blind, cP_at hPc hKc hDc hN⟩ rfl rfl hl.1 rfl (lv_room (Nat.le_of_ble_eq_true rfl)) dX6_gather_5 ⟨(by rw [hR]; exact Nat.le_of_ble_eq_true rfl), (by rw [hR]; exact Nat.le_of_ble_eq_true rfl)⟩) hS (fun q _ h => hFc q h) hFc (fun u9 t9 H1 locs ht hvm hr_1 hB hz1 hk1 hS => ?_)
  try dsimp only at hr_1
  obtain ⟨g_2, b_3, hP1, hK1, hD1⟩ := hB
  rw [ht] at hP1
  obtain ⟨hP, hD⟩ := va_join (wr := [(h0, .inr (6, [.ref v1, .ref v2, .int zs])), (v1, .inl (cI, 4096, .inl ga)), (t0, .inr (5, [.ref d0, .int w, .int h])), (d0, .inl (cI, 4096, .inl g)), (lb, .inr (0, [.int bx0, .int by0, .int bx1, .int by1]))]) (w1 := [(v2, .inl (cI, 4096, .inl g_2))]) hP hD [2] [0, 1, 3, 4, 5] rfl rfl (by decide) (by decide) hk1 hFc hP1 hD1
  clear hz1 hk1 hFc hKc hDc hPc
  generalize H1 = H at hP hS ⊢
  have hP : va_P D vwCl [(h0, .inr (6, [.ref v1, .ref v2, .int zs])), (v1, .inl (cI, 4096, .inl ga)), (t0, .inr (5, [.ref d0, .int w, .int h])), (d0, .inl (cI, 4096, .inl g)), (lb, .inr (0, [.int bx0, .int by0, .int bx1, .int by1])), (v2, .inl (cI, 4096, .inl g_2))] H := hP
  have hD : va_D A [(h0, .inr (6, [.ref v1, .ref v2, .int zs])), (v1, .inl (cI, 4096, .inl ga)), (t0, .inr (5, [.ref d0, .int w, .int h])), (d0, .inl (cI, 4096, .inl g)), (lb, .inr (0, [.int bx0, .int by0, .int bx1, .int by1])), (v2, .inl (cI, 4096, .inl g_2))] := hD
  refine lv_aload_n hx hb dX6_gather_8 rfl (lv_at hl 0 rfl) ?_
  refine lv_iconst (v := 0) hx hb dX6_gather_9 (by decide) ?_
  refine va_put (D := D) (ci := 6) (v := .int 0) (ty := .int) (C := RX6) (T := TX6) (N := 3) hx hb hts hi_X6 tyX6 tyX6_ok nmX6 hown hK hP hD hS 0 rfl rfl 2 (by decide) (hts _ bw_175) (fun _ h9 => h9) rfl (by decide +kernel) rfl rfl (Nat.le_of_ble_eq_true rfl) dX6_gather_10 (fun H locs hP hD hS => ?_)
  have hP : va_P D vwCl [(h0, .inr (6, [.ref v1, .ref v2, .int 0])), (v1, .inl (cI, 4096, .inl ga)), (t0, .inr (5, [.ref d0, .int w, .int h])), (d0, .inl (cI, 4096, .inl g)), (lb, .inr (0, [.int bx0, .int by0, .int bx1, .int by1])), (v2, .inl (cI, 4096, .inl g_2))] H := hP
  have hD : va_D A [(h0, .inr (6, [.ref v1, .ref v2, .int 0])), (v1, .inl (cI, 4096, .inl ga)), (t0, .inr (5, [.ref d0, .int w, .int h])), (d0, .inl (cI, 4096, .inl g)), (lb, .inr (0, [.int bx0, .int by0, .int bx1, .int by1])), (v2, .inl (cI, 4096, .inl g_2))] := hD
  refine lv_aload_n hx hb dX6_gather_13 rfl (lv_at hl 1 rfl) ?_
  refine lv_iload_n hx hb dX6_gather_14 rfl (lv_at hl 3 rfl) ?_
  refine lv_iload hx hb dX6_gather_15 (lv_at hl 4 rfl) ?_
  have hPc := hP.sub (ws' := [(t0, .inr (5, [.ref d0, .int w, .int h])), (d0, .inl (cI, 4096, .inl g))]) [2, 3] rfl
  have hDc := hD.sub (ws' := [(t0, .inr (5, [.ref d0, .int w, .int h])), (d0, .inl (cI, 4096, .inl g))]) [2, 3] (by decide) rfl
  have hKc := hK.sub (tys' := [(cI, .int)]) [0] rfl
  have hFc := va_free (wc := [(t0, .inr (5, [.ref d0, .int w, .int h])), (d0, .inl (cI, 4096, .inl g))]) hD hS hA [2, 3] rfl
  refine va_calli (va_runV (As := [.int x, .int y]) (rest := []) ⟨hx, hb, hml, hown, hts⟩ (k_X5_at l D H.size t0 d0 w h g x y cI (by first | assumption | omega | decide) (by first | assumption | omega | decide)) (cwV 2 hts (gV bw_180 bw_153 bw_154 bw_130 bw_152) rfl rfl rfl (by decide +kernel) ⟨(by rw [hR]; exact Nat.le_of_ble_eq_true rfl), (by rw [hR]; exact Nat.le_of_ble_eq_true rfl)⟩) ⟨cP_blind, va_recv hKc hPc (ci := 5) (q0 := 0) rfl rfl, cP_at hPc hKc hDc hN⟩ rfl rfl hl.1 rfl (lv_room (Nat.le_of_ble_eq_true rfl)) dX6_gather_17 ⟨(by rw [hR]; exact Nat.le_of_ble_eq_true rfl), (by rw [hR]; exact Nat.le_of_ble_eq_true rfl)⟩) hS (fun q _ h => hFc q h) hFc (fun r_4 u9 t9 H1 locs ht hvm hr_4 hB hz1 hk1 hS => ?_)
  try dsimp only at hr_4
  obtain ⟨hP1, hK1, hD1⟩ := hB
  rw [ht] at hP1
  obtain ⟨hP, hD⟩ := va_join (wr := [(h0, .inr (6, [.ref v1, .ref v2, .int 0])), (v1, .inl (cI, 4096, .inl ga)), (lb, .inr (0, [.int bx0, .int by0, .int bx1, .int by1])), (v2, .inl (cI, 4096, .inl g_2))]) (w1 := [(t0, .inr (5, [.ref d0, .int w, .int h])), (d0, .inl (cI, 4096, .inl g))]) hP hD [2, 3] [0, 1, 4, 5] rfl rfl (by decide) (by decide) hk1 hFc hP1 hD1
  clear hz1 hk1 hFc hKc hDc hPc
  generalize H1 = H at hP hS ⊢
  have hP : va_P D vwCl [(h0, .inr (6, [.ref v1, .ref v2, .int 0])), (v1, .inl (cI, 4096, .inl ga)), (lb, .inr (0, [.int bx0, .int by0, .int bx1, .int by1])), (v2, .inl (cI, 4096, .inl g_2)), (t0, .inr (5, [.ref d0, .int w, .int h])), (d0, .inl (cI, 4096, .inl g))] H := hP
  have hD : va_D A [(h0, .inr (6, [.ref v1, .ref v2, .int 0])), (v1, .inl (cI, 4096, .inl ga)), (lb, .inr (0, [.int bx0, .int by0, .int bx1, .int by1])), (v2, .inl (cI, 4096, .inl g_2)), (t0, .inr (5, [.ref d0, .int w, .int h])), (d0, .inl (cI, 4096, .inl g))] := hD
  refine lv_istore (lv' := [(6, .int r_4), (0, .ref h0), (1, .ref t0), (2, .ref lb), (3, .int x), (4, .int y), (5, .int co)]) hx hb dX6_gather_20 hl (by decide) rfl (fun ls hl => ?_)
  refine lv_aload_n hx hb dX6_gather_22 rfl (lv_at hl 1 rfl) ?_
  refine lv_aload_n hx hb dX6_gather_23 rfl (lv_at hl 2 rfl) ?_
  refine lv_aload_n hx hb dX6_gather_24 rfl (lv_at hl 3 rfl) ?_
  refine lv_iload_n hx hb dX6_gather_25 rfl (lv_at hl 4 rfl) ?_
  refine lv_iload hx hb dX6_gather_26 (lv_at hl 5 rfl) ?_
  refine lv_iload hx hb dX6_gather_28 (lv_at hl 0 rfl) ?_
  have hPc := hP.sub (ws' := [(h0, .inr (6, [.ref v1, .ref v2, .int 0])), (v1, .inl (cI, 4096, .inl ga)), (v2, .inl (cI, 4096, .inl g_2)), (t0, .inr (5, [.ref d0, .int w, .int h])), (d0, .inl (cI, 4096, .inl g)), (lb, .inr (0, [.int bx0, .int by0, .int bx1, .int by1]))]) [0, 1, 3, 4, 5, 2] rfl
  have hDc := hD.sub (ws' := [(h0, .inr (6, [.ref v1, .ref v2, .int 0])), (v1, .inl (cI, 4096, .inl ga)), (v2, .inl (cI, 4096, .inl g_2)), (t0, .inr (5, [.ref d0, .int w, .int h])), (d0, .inl (cI, 4096, .inl g)), (lb, .inr (0, [.int bx0, .int by0, .int bx1, .int by1]))]) [0, 1, 3, 4, 5, 2] (by decide) rfl
  have hKc := hK.sub (tys' := [(cI, .int)]) [0] rfl
  have hFc := va_free (wc := [(h0, .inr (6, [.ref v1, .ref v2, .int 0])), (v1, .inl (cI, 4096, .inl ga)), (v2, .inl (cI, 4096, .inl g_2)), (t0, .inr (5, [.ref d0, .int w, .int h])), (d0, .inl (cI, 4096, .inl g)), (lb, .inr (0, [.int bx0, .int by0, .int bx1, .int by1]))]) hD hS hA [0, 1, 3, 4, 5, 2] rfl
  refine va_callv (va_runV (As := [.ref t0, .ref lb, .int x, .int y, .int r_4]) (rest := []) ⟨hx, hb, hml, hown, hts⟩ (k_X6_reach l D H.size h0 v1 v2 t0 d0 lb 0 ga g_2 w h g bx0 by0 bx1 by1 x y r_4 cI (by first | assumption | omega | decide) (by first | assumption | omega | decide) (by first | assumption | omega | decide)) (cwV 5 hts (gV bw_181 bw_191 bw_192 bw_168 bw_190) rfl rfl rfl (by decide +kernel) ⟨(by rw [hR]; exact Nat.le_of_ble_eq_true rfl), (by rw [hR]; exact Nat.le_of_ble_eq_true rfl)⟩) ⟨cP_blind, va_recv hKc hPc (ci := 6) (q0 := 0) rfl rfl, cP_at hPc hKc hDc hN⟩ rfl rfl hl.1 rfl (lv_room (Nat.le_of_ble_eq_true rfl)) dX6_gather_30 ⟨(by rw [hR]; exact Nat.le_of_ble_eq_true rfl), (by rw [hR]; exact Nat.le_of_ble_eq_true rfl)⟩) hS (fun q _ h => hFc q h) hFc (fun u9 t9 H1 locs ht hvm hr_5 hB hz1 hk1 hS => ?_)
  try dsimp only at hr_5
  obtain ⟨v_6, g_7, g_8, b_9, hP1, hK1, hD1⟩ := hB
  rw [ht] at hP1
  obtain ⟨hP, hD⟩ := va_join (wr := []) (w1 := [(h0, .inr (6, [.ref v1, .ref v2, .int v_6])), (v1, .inl (cI, 4096, .inl g_7)), (v2, .inl (cI, 4096, .inl g_8)), (t0, .inr (5, [.ref d0, .int w, .int h])), (d0, .inl (cI, 4096, .inl g)), (lb, .inr (0, [.int bx0, .int by0, .int bx1, .int by1]))]) hP hD [0, 1, 3, 4, 5, 2] [] rfl rfl (by decide) (by decide) hk1 hFc hP1 hD1
  clear hz1 hk1 hFc hKc hDc hPc
  generalize H1 = H at hP hS ⊢
  have hP : va_P D vwCl [(h0, .inr (6, [.ref v1, .ref v2, .int v_6])), (v1, .inl (cI, 4096, .inl g_7)), (v2, .inl (cI, 4096, .inl g_8)), (t0, .inr (5, [.ref d0, .int w, .int h])), (d0, .inl (cI, 4096, .inl g)), (lb, .inr (0, [.int bx0, .int by0, .int bx1, .int by1]))] H := hP
  have hD : va_D A [(h0, .inr (6, [.ref v1, .ref v2, .int v_6])), (v1, .inl (cI, 4096, .inl g_7)), (v2, .inl (cI, 4096, .inl g_8)), (t0, .inr (5, [.ref d0, .int w, .int h])), (d0, .inl (cI, 4096, .inl g)), (lb, .inr (0, [.int bx0, .int by0, .int bx1, .int by1]))] := hD
  refine lv_iconst (v := 0) hx hb dX6_gather_33 (by decide) ?_
  refine lv_istore (lv' := [(7, .int 0), (6, .int r_4), (0, .ref h0), (1, .ref t0), (2, .ref lb), (3, .int x), (4, .int y), (5, .int co)]) hx hb dX6_gather_34 hl (by decide) rfl (fun ls hl => ?_)
  have loop_10 : ∀ (n : Nat) (j : Nat) (x7 : Int32) (gx : Nat → Int32) (gy : Nat → Int32) (z2 : Int32) (H : Heap) (locs : List Loc) (ls : Array Slot), (j ≤ 4096) → (4096 + 1 ≤ j + n) → (x7 = nI j) → (0 ≤ z2.toInt ∧ z2.toInt ≤ 4096) → va_P D vwCl [(h0, .inr (6, [.ref v1, .ref v2, .int z2])), (v1, .inl (cI, 4096, .inl gx)), (v2, .inl (cI, 4096, .inl gy)), (t0, .inr (5, [.ref d0, .int w, .int h])), (d0, .inl (cI, 4096, .inl g)), (lb, .inr (0, [.int bx0, .int by0, .int bx1, .int by1]))] H → va_D A [(h0, .inr (6, [.ref v1, .ref v2, .int z2])), (v1, .inl (cI, 4096, .inl gx)), (v2, .inl (cI, 4096, .inl gy)), (t0, .inr (5, [.ref d0, .int w, .int h])), (d0, .inl (cI, 4096, .inl g)), (lb, .inr (0, [.int bx0, .int by0, .int bx1, .int by1]))] → va_S A s.heap H locs → lv_has ls 11 [(7, .int x7), (6, .int r_4), (0, .ref h0), (1, .ref t0), (2, .ref lb), (3, .int x), (4, .int y), (5, .int co)] → W p l e R s m ([.ref h0, .ref t0, .ref lb, .int x, .int y, .int co] : List Value).toArray below meth c H locs 0 0 Q (F0 m 36 ls []) := by
    intro n
    induction n with
    | zero =>
      intro j x7 gx gy z2 H locs ls hi_j hm_j ex_j hz9 hP hD hS hl
      exact absurd (show False by omega) not_false
    | succ n ih_11 =>
      intro j x7 gx gy z2 H locs ls hi_j hm_j ex_j hz9 hP hD hS hl
      have hx_j : x7.toInt = (j : Int) := by rw [ex_j]; exact nI_toInt (by omega)
      have hc_j : x7.toNatClampNeg = j := by rw [ex_j]; exact nI_clamp (by omega)
      refine lv_iload hx hb dX6_gather_36 (lv_at hl 0 rfl) ?_
      refine lv_aload_n hx hb dX6_gather_38 rfl (lv_at hl 2 rfl) ?_
      refine va_get (D := D) (ci := 6) (v := .int z2) (C := RX6) (T := TX6) (N := 3) hx hb hts hi_X6 hown hK hP 0 rfl rfl 2 (by decide) (hts _ bw_175) (fun _ h9 => h9) rfl dX6_gather_39 ?_
      refine lv_icmp_ge (tgt := 132) hx hb dX6_gather_42 (by decide) (fun c_12 => ?_) (fun c_12 => ?_)
      · skip
        have f_13 : z2.toInt ≤ (j : Int) := f_le rfl hx_j c_12
        have hP9 := hP.sub (ws' := [(h0, .inr (6, [.ref v1, .ref v2, .int z2])), (v1, .inl (cI, 4096, .inl gx)), (v2, .inl (cI, 4096, .inl gy)), (t0, .inr (5, [.ref d0, .int w, .int h])), (d0, .inl (cI, 4096, .inl g)), (lb, .inr (0, [.int bx0, .int by0, .int bx1, .int by1]))]) [0, 1, 2, 3, 4, 5] rfl
        have hD9 := hD.sub (ws' := [(h0, .inr (6, [.ref v1, .ref v2, .int z2])), (v1, .inl (cI, 4096, .inl gx)), (v2, .inl (cI, 4096, .inl gy)), (t0, .inr (5, [.ref d0, .int w, .int h])), (d0, .inl (cI, 4096, .inl g)), (lb, .inr (0, [.int bx0, .int by0, .int bx1, .int by1]))]) [0, 1, 2, 3, 4, 5] (by decide) rfl
        have hK9 := hK.sub (tys' := [(cI, .int)]) [0] rfl
        refine hQ _ _ _ _ _ ?_
        exact W.vret hx hb hr (fun t ht hW => ⟨⟨(), rfl, trivial, ⟨z2, gx, gy, hz9, by rw [ht]; exact hP9, va_K.moved hW.alike hK9, hD9⟩⟩, hS.F ht⟩) hS.2.2 dX6_gather_132
      · skip
        have f_13 : ¬ (z2.toInt ≤ (j : Int)) := fn_le rfl hx_j c_12
        refine lv_iload hx hb dX6_gather_45 (lv_at hl 0 rfl) ?_
        refine lv_sipush (v := 4096) hx hb dX6_gather_47 (by decide) ?_
        refine lv_icmp_ge (tgt := 132) hx hb dX6_gather_50 (by decide) (fun c_14 => ?_) (fun c_14 => ?_)
        · skip
          have f_15 : 4096 ≤ (j : Int) := f_le (by decide) hx_j c_14
          have hP9 := hP.sub (ws' := [(h0, .inr (6, [.ref v1, .ref v2, .int z2])), (v1, .inl (cI, 4096, .inl gx)), (v2, .inl (cI, 4096, .inl gy)), (t0, .inr (5, [.ref d0, .int w, .int h])), (d0, .inl (cI, 4096, .inl g)), (lb, .inr (0, [.int bx0, .int by0, .int bx1, .int by1]))]) [0, 1, 2, 3, 4, 5] rfl
          have hD9 := hD.sub (ws' := [(h0, .inr (6, [.ref v1, .ref v2, .int z2])), (v1, .inl (cI, 4096, .inl gx)), (v2, .inl (cI, 4096, .inl gy)), (t0, .inr (5, [.ref d0, .int w, .int h])), (d0, .inl (cI, 4096, .inl g)), (lb, .inr (0, [.int bx0, .int by0, .int bx1, .int by1]))]) [0, 1, 2, 3, 4, 5] (by decide) rfl
          have hK9 := hK.sub (tys' := [(cI, .int)]) [0] rfl
          refine hQ _ _ _ _ _ ?_
          exact W.vret hx hb hr (fun t ht hW => ⟨⟨(), rfl, trivial, ⟨z2, gx, gy, hz9, by rw [ht]; exact hP9, va_K.moved hW.alike hK9, hD9⟩⟩, hS.F ht⟩) hS.2.2 dX6_gather_132
        · skip
          have f_15 : ¬ (4096 ≤ (j : Int)) := fn_le (by decide) hx_j c_14
          refine lv_iconst (v := 0) hx hb dX6_gather_53 (by decide) ?_
          refine lv_istore (lv' := [(8, .int 0), (7, .int x7), (6, .int r_4), (0, .ref h0), (1, .ref t0), (2, .ref lb), (3, .int x), (4, .int y), (5, .int co)]) hx hb dX6_gather_54 hl (by decide) rfl (fun ls hl => ?_)
          have loop_16 : ∀ (n : Nat) (i : Nat) (x8 : Int32) (gm : Nat → Int32) (gn : Nat → Int32) (z3 : Int32) (H : Heap) (locs : List Loc) (ls : Array Slot), (i ≤ 9) → (9 + 1 ≤ i + n) → (x8 = nI i) → (0 ≤ z3.toInt ∧ z3.toInt ≤ 4096) → va_P D vwCl [(h0, .inr (6, [.ref v1, .ref v2, .int z3])), (v1, .inl (cI, 4096, .inl gm)), (v2, .inl (cI, 4096, .inl gn)), (t0, .inr (5, [.ref d0, .int w, .int h])), (d0, .inl (cI, 4096, .inl g)), (lb, .inr (0, [.int bx0, .int by0, .int bx1, .int by1]))] H → va_D A [(h0, .inr (6, [.ref v1, .ref v2, .int z3])), (v1, .inl (cI, 4096, .inl gm)), (v2, .inl (cI, 4096, .inl gn)), (t0, .inr (5, [.ref d0, .int w, .int h])), (d0, .inl (cI, 4096, .inl g)), (lb, .inr (0, [.int bx0, .int by0, .int bx1, .int by1]))] → va_S A s.heap H locs → lv_has ls 11 [(8, .int x8), (7, .int x7), (6, .int r_4), (0, .ref h0), (1, .ref t0), (2, .ref lb), (3, .int x), (4, .int y), (5, .int co)] → W p l e R s m ([.ref h0, .ref t0, .ref lb, .int x, .int y, .int co] : List Value).toArray below meth c H locs 0 0 Q (F0 m 56 ls []) := by
            intro n
            induction n with
            | zero =>
              intro i x8 gm gn z3 H locs ls hi_i hm_i ex_i hz8 hP hD hS hl
              exact absurd (show False by omega) not_false
            | succ n ih_17 =>
              intro i x8 gm gn z3 H locs ls hi_i hm_i ex_i hz8 hP hD hS hl
              have hx_i : x8.toInt = (i : Int) := by rw [ex_i]; exact nI_toInt (by omega)
              have hc_i : x8.toNatClampNeg = i := by rw [ex_i]; exact nI_clamp (by omega)
              refine lv_iload hx hb dX6_gather_56 (lv_at hl 0 rfl) ?_
              refine lv_bipush (v := 9) hx hb dX6_gather_58 (by decide) ?_
              refine lv_icmp_ge (tgt := 126) hx hb dX6_gather_60 (by decide) (fun c_18 => ?_) (fun c_18 => ?_)
              · skip
                have f_19 : 9 ≤ (i : Int) := f_le (by decide) hx_i c_18
                obtain ⟨y_20, ey_20⟩ : ∃ y : Int32, y = x7 + 1 := ⟨_, rfl⟩
                refine lv_iinc (v := y_20) (lv' := [(7, .int y_20), (8, .int x8), (6, .int r_4), (0, .ref h0), (1, .ref t0), (2, .ref lb), (3, .int x), (4, .int y), (5, .int co)]) hx hb dX6_gather_126 hl (k := 1) rfl (by rw [ey_20]; rfl) (by decide) rfl (fun ls hl => ?_)
                refine lv_goto (tgt := 36) hx hb dX6_gather_129 (by decide) ?_
                exact ih_11 (j + 1) y_20 gm gn z3 _ _ _ (by omega) (by omega) (by rw [ey_20, ex_j]; exact nI_1 j) (by assumption) (hP.sub (ws' := [(h0, .inr (6, [.ref v1, .ref v2, .int z3])), (v1, .inl (cI, 4096, .inl gm)), (v2, .inl (cI, 4096, .inl gn)), (t0, .inr (5, [.ref d0, .int w, .int h])), (d0, .inl (cI, 4096, .inl g)), (lb, .inr (0, [.int bx0, .int by0, .int bx1, .int by1]))]) [0, 1, 2, 3, 4, 5] rfl) (hD.sub (ws' := [(h0, .inr (6, [.ref v1, .ref v2, .int z3])), (v1, .inl (cI, 4096, .inl gm)), (v2, .inl (cI, 4096, .inl gn)), (t0, .inr (5, [.ref d0, .int w, .int h])), (d0, .inl (cI, 4096, .inl g)), (lb, .inr (0, [.int bx0, .int by0, .int bx1, .int by1]))]) [0, 1, 2, 3, 4, 5] (by decide) rfl) hS (lv_sub hl [0, 2, 3, 4, 5, 6, 7, 8] rfl)
              · skip
                have f_19 : ¬ (9 ≤ (i : Int)) := fn_le (by decide) hx_i c_18
                refine lv_iload hx hb dX6_gather_63 (lv_at hl 0 rfl) ?_
                refine lv_iconst (v := 3) hx hb dX6_gather_65 (by decide) ?_
                refine lv_irem hx hb dX6_gather_66 (by decide) ?_
                refine lv_topi (fun y_21 ey_21 => ?_)
                refine lv_iconst (v := 1) hx hb dX6_gather_67 (by decide) ?_
                refine lv_isub hx hb dX6_gather_68 ?_
                refine lv_topi (fun y_22 ey_22 => ?_)
                refine lv_istore (lv' := [(9, .int y_22), (8, .int x8), (7, .int x7), (6, .int r_4), (0, .ref h0), (1, .ref t0), (2, .ref lb), (3, .int x), (4, .int y), (5, .int co)]) hx hb dX6_gather_69 hl (by decide) rfl (fun ls hl => ?_)
                refine lv_iload hx hb dX6_gather_71 (lv_at hl 1 rfl) ?_
                refine lv_iconst (v := 3) hx hb dX6_gather_73 (by decide) ?_
                refine lv_idiv hx hb dX6_gather_74 (by decide) ?_
                refine lv_topi (fun y_23 ey_23 => ?_)
                refine lv_iconst (v := 1) hx hb dX6_gather_75 (by decide) ?_
                refine lv_isub hx hb dX6_gather_76 ?_
                refine lv_topi (fun y_24 ey_24 => ?_)
                refine lv_istore (lv' := [(10, .int y_24), (9, .int y_22), (8, .int x8), (7, .int x7), (6, .int r_4), (0, .ref h0), (1, .ref t0), (2, .ref lb), (3, .int x), (4, .int y), (5, .int co)]) hx hb dX6_gather_77 hl (by decide) rfl (fun ls hl => ?_)
                refine lv_iload hx hb dX6_gather_79 (lv_at hl 10 rfl) ?_
                refine lv_if_ne (tgt := 94) hx hb dX6_gather_81 (by decide) (fun c_25 => ?_) (fun c_25 => ?_)
                · skip
                  have f_26 : ¬ (co.toInt = 0) := fn_eq rfl (by decide) c_25
                  refine lv_aload_n hx hb dX6_gather_94 rfl (lv_at hl 5 rfl) ?_
                  refine lv_aload_n hx hb dX6_gather_95 rfl (lv_at hl 6 rfl) ?_
                  refine lv_aload_n hx hb dX6_gather_96 rfl (lv_at hl 7 rfl) ?_
                  refine lv_aload_n hx hb dX6_gather_97 rfl (lv_at hl 5 rfl) ?_
                  refine lv_iload hx hb dX6_gather_98 (lv_at hl 3 rfl) ?_
                  have hPc := hP.sub (ws' := [(h0, .inr (6, [.ref v1, .ref v2, .int z3])), (v1, .inl (cI, 4096, .inl gm))]) [0, 1] rfl
                  have hDc := hD.sub (ws' := [(h0, .inr (6, [.ref v1, .ref v2, .int z3])), (v1, .inl (cI, 4096, .inl gm))]) [0, 1] (by decide) rfl
                  have hKc := hK.sub (tys' := [(cI, .int)]) [0] rfl
                  have hFc := va_free (wc := [(h0, .inr (6, [.ref v1, .ref v2, .int z3])), (v1, .inl (cI, 4096, .inl gm))]) hD hS hA [0, 1] rfl
                  refine va_calli (va_runV (As := [.int x7]) (rest := [.ref lb, .ref t0, .ref h0]) ⟨hx, hb, hml, hown, hts⟩ (k_X6_xAt l D H.size h0 v1 v2 z3 gm x7 cI (by first | assumption | omega | decide)) (cwV 1 hts (gV bw_182 bw_185 bw_186 bw_168 bw_184) rfl rfl rfl (by decide +kernel) ⟨(by rw [hR]; exact Nat.le_of_ble_eq_true rfl), (by rw [hR]; exact Nat.le_of_ble_eq_true rfl)⟩) ⟨cP_blind, va_recv hKc hPc (ci := 6) (q0 := 0) rfl rfl, cP_at hPc hKc hDc hN⟩ rfl rfl hl.1 rfl (lv_room (Nat.le_of_ble_eq_true rfl)) dX6_gather_100 ⟨(by rw [hR]; exact Nat.le_of_ble_eq_true rfl), (by rw [hR]; exact Nat.le_of_ble_eq_true rfl)⟩) hS (fun q _ h => hFc q h) hFc (fun r_27 u9 t9 H1 locs ht hvm hr_27 hB hz1 hk1 hS => ?_)
                  try dsimp only at hr_27
                  obtain ⟨hP1, hK1, hD1⟩ := hB
                  rw [ht] at hP1
                  obtain ⟨hP, hD⟩ := va_join (wr := [(v2, .inl (cI, 4096, .inl gn)), (t0, .inr (5, [.ref d0, .int w, .int h])), (d0, .inl (cI, 4096, .inl g)), (lb, .inr (0, [.int bx0, .int by0, .int bx1, .int by1]))]) (w1 := [(h0, .inr (6, [.ref v1, .ref v2, .int z3])), (v1, .inl (cI, 4096, .inl gm))]) hP hD [0, 1] [2, 3, 4, 5] rfl rfl (by decide) (by decide) hk1 hFc hP1 hD1
                  clear hz1 hk1 hFc hKc hDc hPc
                  generalize H1 = H at hP hS ⊢
                  have hP : va_P D vwCl [(v2, .inl (cI, 4096, .inl gn)), (t0, .inr (5, [.ref d0, .int w, .int h])), (d0, .inl (cI, 4096, .inl g)), (lb, .inr (0, [.int bx0, .int by0, .int bx1, .int by1])), (h0, .inr (6, [.ref v1, .ref v2, .int z3])), (v1, .inl (cI, 4096, .inl gm))] H := hP
                  have hD : va_D A [(v2, .inl (cI, 4096, .inl gn)), (t0, .inr (5, [.ref d0, .int w, .int h])), (d0, .inl (cI, 4096, .inl g)), (lb, .inr (0, [.int bx0, .int by0, .int bx1, .int by1])), (h0, .inr (6, [.ref v1, .ref v2, .int z3])), (v1, .inl (cI, 4096, .inl gm))] := hD
                  refine lv_iload hx hb dX6_gather_103 (lv_at hl 1 rfl) ?_
                  refine lv_iadd hx hb dX6_gather_105 ?_
                  refine lv_topi (fun y_28 ey_28 => ?_)
                  refine lv_aload_n hx hb dX6_gather_106 rfl (lv_at hl 5 rfl) ?_
                  refine lv_iload hx hb dX6_gather_107 (lv_at hl 3 rfl) ?_
                  have hPc := hP.sub (ws' := [(h0, .inr (6, [.ref v1, .ref v2, .int z3])), (v1, .inl (cI, 4096, .inl gm))]) [4, 5] rfl
                  have hDc := hD.sub (ws' := [(h0, .inr (6, [.ref v1, .ref v2, .int z3])), (v1, .inl (cI, 4096, .inl gm))]) [4, 5] (by decide) rfl
                  have hKc := hK.sub (tys' := [(cI, .int)]) [0] rfl
                  have hFc := va_free (wc := [(h0, .inr (6, [.ref v1, .ref v2, .int z3])), (v1, .inl (cI, 4096, .inl gm))]) hD hS hA [4, 5] rfl
                  refine va_calli (va_runV (As := [.int x7]) (rest := [.int y_28, .ref lb, .ref t0, .ref h0]) ⟨hx, hb, hml, hown, hts⟩ (k_X6_yAt l D H.size h0 v1 v2 z3 gm x7 cI (by first | assumption | omega | decide)) (cwV 1 hts (gV bw_183 bw_188 bw_189 bw_168 bw_187) rfl rfl rfl (by decide +kernel) ⟨(by rw [hR]; exact Nat.le_of_ble_eq_true rfl), (by rw [hR]; exact Nat.le_of_ble_eq_true rfl)⟩) ⟨cP_blind, va_recv hKc hPc (ci := 6) (q0 := 0) rfl rfl, cP_at hPc hKc hDc hN⟩ rfl rfl hl.1 rfl (lv_room (Nat.le_of_ble_eq_true rfl)) dX6_gather_109 ⟨(by rw [hR]; exact Nat.le_of_ble_eq_true rfl), (by rw [hR]; exact Nat.le_of_ble_eq_true rfl)⟩) hS (fun q _ h => hFc q h) hFc (fun r_29 u9 t9 H1 locs ht hvm hr_29 hB hz1 hk1 hS => ?_)
                  try dsimp only at hr_29
                  obtain ⟨hP1, hK1, hD1⟩ := hB
                  rw [ht] at hP1
                  obtain ⟨hP, hD⟩ := va_join (wr := [(v2, .inl (cI, 4096, .inl gn)), (t0, .inr (5, [.ref d0, .int w, .int h])), (d0, .inl (cI, 4096, .inl g)), (lb, .inr (0, [.int bx0, .int by0, .int bx1, .int by1]))]) (w1 := [(h0, .inr (6, [.ref v1, .ref v2, .int z3])), (v1, .inl (cI, 4096, .inl gm))]) hP hD [4, 5] [0, 1, 2, 3] rfl rfl (by decide) (by decide) hk1 hFc hP1 hD1
                  clear hz1 hk1 hFc hKc hDc hPc
                  generalize H1 = H at hP hS ⊢
                  have hP : va_P D vwCl [(v2, .inl (cI, 4096, .inl gn)), (t0, .inr (5, [.ref d0, .int w, .int h])), (d0, .inl (cI, 4096, .inl g)), (lb, .inr (0, [.int bx0, .int by0, .int bx1, .int by1])), (h0, .inr (6, [.ref v1, .ref v2, .int z3])), (v1, .inl (cI, 4096, .inl gm))] H := hP
                  have hD : va_D A [(v2, .inl (cI, 4096, .inl gn)), (t0, .inr (5, [.ref d0, .int w, .int h])), (d0, .inl (cI, 4096, .inl g)), (lb, .inr (0, [.int bx0, .int by0, .int bx1, .int by1])), (h0, .inr (6, [.ref v1, .ref v2, .int z3])), (v1, .inl (cI, 4096, .inl gm))] := hD
                  refine lv_iload hx hb dX6_gather_112 (lv_at hl 0 rfl) ?_
                  refine lv_iadd hx hb dX6_gather_114 ?_
                  refine lv_topi (fun y_30 ey_30 => ?_)
                  refine lv_iload hx hb dX6_gather_115 (lv_at hl 4 rfl) ?_
                  have hPc := hP.sub (ws' := [(h0, .inr (6, [.ref v1, .ref v2, .int z3])), (v1, .inl (cI, 4096, .inl gm)), (v2, .inl (cI, 4096, .inl gn)), (t0, .inr (5, [.ref d0, .int w, .int h])), (d0, .inl (cI, 4096, .inl g)), (lb, .inr (0, [.int bx0, .int by0, .int bx1, .int by1]))]) [4, 5, 0, 1, 2, 3] rfl
                  have hDc := hD.sub (ws' := [(h0, .inr (6, [.ref v1, .ref v2, .int z3])), (v1, .inl (cI, 4096, .inl gm)), (v2, .inl (cI, 4096, .inl gn)), (t0, .inr (5, [.ref d0, .int w, .int h])), (d0, .inl (cI, 4096, .inl g)), (lb, .inr (0, [.int bx0, .int by0, .int bx1, .int by1]))]) [4, 5, 0, 1, 2, 3] (by decide) rfl
                  have hKc := hK.sub (tys' := [(cI, .int)]) [0] rfl
                  have hFc := va_free (wc := [(h0, .inr (6, [.ref v1, .ref v2, .int z3])), (v1, .inl (cI, 4096, .inl gm)), (v2, .inl (cI, 4096, .inl gn)), (t0, .inr (5, [.ref d0, .int w, .int h])), (d0, .inl (cI, 4096, .inl g)), (lb, .inr (0, [.int bx0, .int by0, .int bx1, .int by1]))]) hD hS hA [4, 5, 0, 1, 2, 3] rfl
                  refine va_callv (va_runV (As := [.ref t0, .ref lb, .int y_28, .int y_30, .int r_4]) (rest := []) ⟨hx, hb, hml, hown, hts⟩ (k_X6_reach l D H.size h0 v1 v2 t0 d0 lb z3 gm gn w h g bx0 by0 bx1 by1 y_28 y_30 r_4 cI (by first | assumption | omega | decide) (by first | assumption | omega | decide) (by first | assumption | omega | decide)) (cwV 5 hts (gV bw_181 bw_191 bw_192 bw_168 bw_190) rfl rfl rfl (by decide +kernel) ⟨(by rw [hR]; exact Nat.le_of_ble_eq_true rfl), (by rw [hR]; exact Nat.le_of_ble_eq_true rfl)⟩) ⟨cP_blind, va_recv hKc hPc (ci := 6) (q0 := 0) rfl rfl, cP_at hPc hKc hDc hN⟩ rfl rfl hl.1 rfl (lv_room (Nat.le_of_ble_eq_true rfl)) dX6_gather_117 ⟨(by rw [hR]; exact Nat.le_of_ble_eq_true rfl), (by rw [hR]; exact Nat.le_of_ble_eq_true rfl)⟩) hS (fun q _ h => hFc q h) hFc (fun u9 t9 H1 locs ht hvm hr_31 hB hz1 hk1 hS => ?_)
                  try dsimp only at hr_31
                  obtain ⟨v_32, g_33, g_34, b_35, hP1, hK1, hD1⟩ := hB
                  rw [ht] at hP1
                  obtain ⟨hP, hD⟩ := va_join (wr := []) (w1 := [(h0, .inr (6, [.ref v1, .ref v2, .int v_32])), (v1, .inl (cI, 4096, .inl g_33)), (v2, .inl (cI, 4096, .inl g_34)), (t0, .inr (5, [.ref d0, .int w, .int h])), (d0, .inl (cI, 4096, .inl g)), (lb, .inr (0, [.int bx0, .int by0, .int bx1, .int by1]))]) hP hD [4, 5, 0, 1, 2, 3] [] rfl rfl (by decide) (by decide) hk1 hFc hP1 hD1
                  clear hz1 hk1 hFc hKc hDc hPc
                  generalize H1 = H at hP hS ⊢
                  have hP : va_P D vwCl [(h0, .inr (6, [.ref v1, .ref v2, .int v_32])), (v1, .inl (cI, 4096, .inl g_33)), (v2, .inl (cI, 4096, .inl g_34)), (t0, .inr (5, [.ref d0, .int w, .int h])), (d0, .inl (cI, 4096, .inl g)), (lb, .inr (0, [.int bx0, .int by0, .int bx1, .int by1]))] H := hP
                  have hD : va_D A [(h0, .inr (6, [.ref v1, .ref v2, .int v_32])), (v1, .inl (cI, 4096, .inl g_33)), (v2, .inl (cI, 4096, .inl g_34)), (t0, .inr (5, [.ref d0, .int w, .int h])), (d0, .inl (cI, 4096, .inl g)), (lb, .inr (0, [.int bx0, .int by0, .int bx1, .int by1]))] := hD
                  obtain ⟨y_36, ey_36⟩ : ∃ y : Int32, y = x8 + 1 := ⟨_, rfl⟩
                  refine lv_iinc (v := y_36) (lv' := [(8, .int y_36), (10, .int y_24), (9, .int y_22), (7, .int x7), (6, .int r_4), (0, .ref h0), (1, .ref t0), (2, .ref lb), (3, .int x), (4, .int y), (5, .int co)]) hx hb dX6_gather_120 hl (k := 2) rfl (by rw [ey_36]; rfl) (by decide) rfl (fun ls hl => ?_)
                  refine lv_goto (tgt := 56) hx hb dX6_gather_123 (by decide) ?_
                  exact ih_17 (i + 1) y_36 g_33 g_34 v_32 _ _ _ (by omega) (by omega) (by rw [ey_36, ex_i]; exact nI_1 i) b_35 (hP.sub (ws' := [(h0, .inr (6, [.ref v1, .ref v2, .int v_32])), (v1, .inl (cI, 4096, .inl g_33)), (v2, .inl (cI, 4096, .inl g_34)), (t0, .inr (5, [.ref d0, .int w, .int h])), (d0, .inl (cI, 4096, .inl g)), (lb, .inr (0, [.int bx0, .int by0, .int bx1, .int by1]))]) [0, 1, 2, 3, 4, 5] rfl) (hD.sub (ws' := [(h0, .inr (6, [.ref v1, .ref v2, .int v_32])), (v1, .inl (cI, 4096, .inl g_33)), (v2, .inl (cI, 4096, .inl g_34)), (t0, .inr (5, [.ref d0, .int w, .int h])), (d0, .inl (cI, 4096, .inl g)), (lb, .inr (0, [.int bx0, .int by0, .int bx1, .int by1]))]) [0, 1, 2, 3, 4, 5] (by decide) rfl) hS (lv_sub hl [0, 3, 4, 5, 6, 7, 8, 9, 10] rfl)
                · skip
                  have f_26 : co.toInt = 0 := f_eq rfl (by decide) c_25
                  refine lv_iload hx hb dX6_gather_84 (lv_at hl 1 rfl) ?_
                  refine lv_if_eq (tgt := 94) hx hb dX6_gather_86 (by decide) (fun c_37 => ?_) (fun c_37 => ?_)
                  · skip
                    have f_38 : y_22.toInt = 0 := f_eq rfl (by decide) c_37
                    refine lv_aload_n hx hb dX6_gather_94 rfl (lv_at hl 5 rfl) ?_
                    refine lv_aload_n hx hb dX6_gather_95 rfl (lv_at hl 6 rfl) ?_
                    refine lv_aload_n hx hb dX6_gather_96 rfl (lv_at hl 7 rfl) ?_
                    refine lv_aload_n hx hb dX6_gather_97 rfl (lv_at hl 5 rfl) ?_
                    refine lv_iload hx hb dX6_gather_98 (lv_at hl 3 rfl) ?_
                    have hPc := hP.sub (ws' := [(h0, .inr (6, [.ref v1, .ref v2, .int z3])), (v1, .inl (cI, 4096, .inl gm))]) [0, 1] rfl
                    have hDc := hD.sub (ws' := [(h0, .inr (6, [.ref v1, .ref v2, .int z3])), (v1, .inl (cI, 4096, .inl gm))]) [0, 1] (by decide) rfl
                    have hKc := hK.sub (tys' := [(cI, .int)]) [0] rfl
                    have hFc := va_free (wc := [(h0, .inr (6, [.ref v1, .ref v2, .int z3])), (v1, .inl (cI, 4096, .inl gm))]) hD hS hA [0, 1] rfl
                    refine va_calli (va_runV (As := [.int x7]) (rest := [.ref lb, .ref t0, .ref h0]) ⟨hx, hb, hml, hown, hts⟩ (k_X6_xAt l D H.size h0 v1 v2 z3 gm x7 cI (by first | assumption | omega | decide)) (cwV 1 hts (gV bw_182 bw_185 bw_186 bw_168 bw_184) rfl rfl rfl (by decide +kernel) ⟨(by rw [hR]; exact Nat.le_of_ble_eq_true rfl), (by rw [hR]; exact Nat.le_of_ble_eq_true rfl)⟩) ⟨cP_blind, va_recv hKc hPc (ci := 6) (q0 := 0) rfl rfl, cP_at hPc hKc hDc hN⟩ rfl rfl hl.1 rfl (lv_room (Nat.le_of_ble_eq_true rfl)) dX6_gather_100 ⟨(by rw [hR]; exact Nat.le_of_ble_eq_true rfl), (by rw [hR]; exact Nat.le_of_ble_eq_true rfl)⟩) hS (fun q _ h => hFc q h) hFc (fun r_39 u9 t9 H1 locs ht hvm hr_39 hB hz1 hk1 hS => ?_)
                    try dsimp only at hr_39
                    obtain ⟨hP1, hK1, hD1⟩ := hB
                    rw [ht] at hP1
                    obtain ⟨hP, hD⟩ := va_join (wr := [(v2, .inl (cI, 4096, .inl gn)), (t0, .inr (5, [.ref d0, .int w, .int h])), (d0, .inl (cI, 4096, .inl g)), (lb, .inr (0, [.int bx0, .int by0, .int bx1, .int by1]))]) (w1 := [(h0, .inr (6, [.ref v1, .ref v2, .int z3])), (v1, .inl (cI, 4096, .inl gm))]) hP hD [0, 1] [2, 3, 4, 5] rfl rfl (by decide) (by decide) hk1 hFc hP1 hD1
                    clear hz1 hk1 hFc hKc hDc hPc
                    generalize H1 = H at hP hS ⊢
                    have hP : va_P D vwCl [(v2, .inl (cI, 4096, .inl gn)), (t0, .inr (5, [.ref d0, .int w, .int h])), (d0, .inl (cI, 4096, .inl g)), (lb, .inr (0, [.int bx0, .int by0, .int bx1, .int by1])), (h0, .inr (6, [.ref v1, .ref v2, .int z3])), (v1, .inl (cI, 4096, .inl gm))] H := hP
                    have hD : va_D A [(v2, .inl (cI, 4096, .inl gn)), (t0, .inr (5, [.ref d0, .int w, .int h])), (d0, .inl (cI, 4096, .inl g)), (lb, .inr (0, [.int bx0, .int by0, .int bx1, .int by1])), (h0, .inr (6, [.ref v1, .ref v2, .int z3])), (v1, .inl (cI, 4096, .inl gm))] := hD
                    refine lv_iload hx hb dX6_gather_103 (lv_at hl 1 rfl) ?_
                    refine lv_iadd hx hb dX6_gather_105 ?_
                    refine lv_topi (fun y_40 ey_40 => ?_)
                    refine lv_aload_n hx hb dX6_gather_106 rfl (lv_at hl 5 rfl) ?_
                    refine lv_iload hx hb dX6_gather_107 (lv_at hl 3 rfl) ?_
                    have hPc := hP.sub (ws' := [(h0, .inr (6, [.ref v1, .ref v2, .int z3])), (v1, .inl (cI, 4096, .inl gm))]) [4, 5] rfl
                    have hDc := hD.sub (ws' := [(h0, .inr (6, [.ref v1, .ref v2, .int z3])), (v1, .inl (cI, 4096, .inl gm))]) [4, 5] (by decide) rfl
                    have hKc := hK.sub (tys' := [(cI, .int)]) [0] rfl
                    have hFc := va_free (wc := [(h0, .inr (6, [.ref v1, .ref v2, .int z3])), (v1, .inl (cI, 4096, .inl gm))]) hD hS hA [4, 5] rfl
                    refine va_calli (va_runV (As := [.int x7]) (rest := [.int y_40, .ref lb, .ref t0, .ref h0]) ⟨hx, hb, hml, hown, hts⟩ (k_X6_yAt l D H.size h0 v1 v2 z3 gm x7 cI (by first | assumption | omega | decide)) (cwV 1 hts (gV bw_183 bw_188 bw_189 bw_168 bw_187) rfl rfl rfl (by decide +kernel) ⟨(by rw [hR]; exact Nat.le_of_ble_eq_true rfl), (by rw [hR]; exact Nat.le_of_ble_eq_true rfl)⟩) ⟨cP_blind, va_recv hKc hPc (ci := 6) (q0 := 0) rfl rfl, cP_at hPc hKc hDc hN⟩ rfl rfl hl.1 rfl (lv_room (Nat.le_of_ble_eq_true rfl)) dX6_gather_109 ⟨(by rw [hR]; exact Nat.le_of_ble_eq_true rfl), (by rw [hR]; exact Nat.le_of_ble_eq_true rfl)⟩) hS (fun q _ h => hFc q h) hFc (fun r_41 u9 t9 H1 locs ht hvm hr_41 hB hz1 hk1 hS => ?_)
                    try dsimp only at hr_41
                    obtain ⟨hP1, hK1, hD1⟩ := hB
                    rw [ht] at hP1
                    obtain ⟨hP, hD⟩ := va_join (wr := [(v2, .inl (cI, 4096, .inl gn)), (t0, .inr (5, [.ref d0, .int w, .int h])), (d0, .inl (cI, 4096, .inl g)), (lb, .inr (0, [.int bx0, .int by0, .int bx1, .int by1]))]) (w1 := [(h0, .inr (6, [.ref v1, .ref v2, .int z3])), (v1, .inl (cI, 4096, .inl gm))]) hP hD [4, 5] [0, 1, 2, 3] rfl rfl (by decide) (by decide) hk1 hFc hP1 hD1
                    clear hz1 hk1 hFc hKc hDc hPc
                    generalize H1 = H at hP hS ⊢
                    have hP : va_P D vwCl [(v2, .inl (cI, 4096, .inl gn)), (t0, .inr (5, [.ref d0, .int w, .int h])), (d0, .inl (cI, 4096, .inl g)), (lb, .inr (0, [.int bx0, .int by0, .int bx1, .int by1])), (h0, .inr (6, [.ref v1, .ref v2, .int z3])), (v1, .inl (cI, 4096, .inl gm))] H := hP
                    have hD : va_D A [(v2, .inl (cI, 4096, .inl gn)), (t0, .inr (5, [.ref d0, .int w, .int h])), (d0, .inl (cI, 4096, .inl g)), (lb, .inr (0, [.int bx0, .int by0, .int bx1, .int by1])), (h0, .inr (6, [.ref v1, .ref v2, .int z3])), (v1, .inl (cI, 4096, .inl gm))] := hD
                    refine lv_iload hx hb dX6_gather_112 (lv_at hl 0 rfl) ?_
                    refine lv_iadd hx hb dX6_gather_114 ?_
                    refine lv_topi (fun y_42 ey_42 => ?_)
                    refine lv_iload hx hb dX6_gather_115 (lv_at hl 4 rfl) ?_
                    have hPc := hP.sub (ws' := [(h0, .inr (6, [.ref v1, .ref v2, .int z3])), (v1, .inl (cI, 4096, .inl gm)), (v2, .inl (cI, 4096, .inl gn)), (t0, .inr (5, [.ref d0, .int w, .int h])), (d0, .inl (cI, 4096, .inl g)), (lb, .inr (0, [.int bx0, .int by0, .int bx1, .int by1]))]) [4, 5, 0, 1, 2, 3] rfl
                    have hDc := hD.sub (ws' := [(h0, .inr (6, [.ref v1, .ref v2, .int z3])), (v1, .inl (cI, 4096, .inl gm)), (v2, .inl (cI, 4096, .inl gn)), (t0, .inr (5, [.ref d0, .int w, .int h])), (d0, .inl (cI, 4096, .inl g)), (lb, .inr (0, [.int bx0, .int by0, .int bx1, .int by1]))]) [4, 5, 0, 1, 2, 3] (by decide) rfl
                    have hKc := hK.sub (tys' := [(cI, .int)]) [0] rfl
                    have hFc := va_free (wc := [(h0, .inr (6, [.ref v1, .ref v2, .int z3])), (v1, .inl (cI, 4096, .inl gm)), (v2, .inl (cI, 4096, .inl gn)), (t0, .inr (5, [.ref d0, .int w, .int h])), (d0, .inl (cI, 4096, .inl g)), (lb, .inr (0, [.int bx0, .int by0, .int bx1, .int by1]))]) hD hS hA [4, 5, 0, 1, 2, 3] rfl
                    refine va_callv (va_runV (As := [.ref t0, .ref lb, .int y_40, .int y_42, .int r_4]) (rest := []) ⟨hx, hb, hml, hown, hts⟩ (k_X6_reach l D H.size h0 v1 v2 t0 d0 lb z3 gm gn w h g bx0 by0 bx1 by1 y_40 y_42 r_4 cI (by first | assumption | omega | decide) (by first | assumption | omega | decide) (by first | assumption | omega | decide)) (cwV 5 hts (gV bw_181 bw_191 bw_192 bw_168 bw_190) rfl rfl rfl (by decide +kernel) ⟨(by rw [hR]; exact Nat.le_of_ble_eq_true rfl), (by rw [hR]; exact Nat.le_of_ble_eq_true rfl)⟩) ⟨cP_blind, va_recv hKc hPc (ci := 6) (q0 := 0) rfl rfl, cP_at hPc hKc hDc hN⟩ rfl rfl hl.1 rfl (lv_room (Nat.le_of_ble_eq_true rfl)) dX6_gather_117 ⟨(by rw [hR]; exact Nat.le_of_ble_eq_true rfl), (by rw [hR]; exact Nat.le_of_ble_eq_true rfl)⟩) hS (fun q _ h => hFc q h) hFc (fun u9 t9 H1 locs ht hvm hr_43 hB hz1 hk1 hS => ?_)
                    try dsimp only at hr_43
                    obtain ⟨v_44, g_45, g_46, b_47, hP1, hK1, hD1⟩ := hB
                    rw [ht] at hP1
                    obtain ⟨hP, hD⟩ := va_join (wr := []) (w1 := [(h0, .inr (6, [.ref v1, .ref v2, .int v_44])), (v1, .inl (cI, 4096, .inl g_45)), (v2, .inl (cI, 4096, .inl g_46)), (t0, .inr (5, [.ref d0, .int w, .int h])), (d0, .inl (cI, 4096, .inl g)), (lb, .inr (0, [.int bx0, .int by0, .int bx1, .int by1]))]) hP hD [4, 5, 0, 1, 2, 3] [] rfl rfl (by decide) (by decide) hk1 hFc hP1 hD1
                    clear hz1 hk1 hFc hKc hDc hPc
                    generalize H1 = H at hP hS ⊢
                    have hP : va_P D vwCl [(h0, .inr (6, [.ref v1, .ref v2, .int v_44])), (v1, .inl (cI, 4096, .inl g_45)), (v2, .inl (cI, 4096, .inl g_46)), (t0, .inr (5, [.ref d0, .int w, .int h])), (d0, .inl (cI, 4096, .inl g)), (lb, .inr (0, [.int bx0, .int by0, .int bx1, .int by1]))] H := hP
                    have hD : va_D A [(h0, .inr (6, [.ref v1, .ref v2, .int v_44])), (v1, .inl (cI, 4096, .inl g_45)), (v2, .inl (cI, 4096, .inl g_46)), (t0, .inr (5, [.ref d0, .int w, .int h])), (d0, .inl (cI, 4096, .inl g)), (lb, .inr (0, [.int bx0, .int by0, .int bx1, .int by1]))] := hD
                    obtain ⟨y_48, ey_48⟩ : ∃ y : Int32, y = x8 + 1 := ⟨_, rfl⟩
                    refine lv_iinc (v := y_48) (lv' := [(8, .int y_48), (10, .int y_24), (9, .int y_22), (7, .int x7), (6, .int r_4), (0, .ref h0), (1, .ref t0), (2, .ref lb), (3, .int x), (4, .int y), (5, .int co)]) hx hb dX6_gather_120 hl (k := 2) rfl (by rw [ey_48]; rfl) (by decide) rfl (fun ls hl => ?_)
                    refine lv_goto (tgt := 56) hx hb dX6_gather_123 (by decide) ?_
                    exact ih_17 (i + 1) y_48 g_45 g_46 v_44 _ _ _ (by omega) (by omega) (by rw [ey_48, ex_i]; exact nI_1 i) b_47 (hP.sub (ws' := [(h0, .inr (6, [.ref v1, .ref v2, .int v_44])), (v1, .inl (cI, 4096, .inl g_45)), (v2, .inl (cI, 4096, .inl g_46)), (t0, .inr (5, [.ref d0, .int w, .int h])), (d0, .inl (cI, 4096, .inl g)), (lb, .inr (0, [.int bx0, .int by0, .int bx1, .int by1]))]) [0, 1, 2, 3, 4, 5] rfl) (hD.sub (ws' := [(h0, .inr (6, [.ref v1, .ref v2, .int v_44])), (v1, .inl (cI, 4096, .inl g_45)), (v2, .inl (cI, 4096, .inl g_46)), (t0, .inr (5, [.ref d0, .int w, .int h])), (d0, .inl (cI, 4096, .inl g)), (lb, .inr (0, [.int bx0, .int by0, .int bx1, .int by1]))]) [0, 1, 2, 3, 4, 5] (by decide) rfl) hS (lv_sub hl [0, 3, 4, 5, 6, 7, 8, 9, 10] rfl)
                  · skip
                    have f_38 : ¬ (y_22.toInt = 0) := fn_eq rfl (by decide) c_37
                    refine lv_iload hx hb dX6_gather_89 (lv_at hl 0 rfl) ?_
                    refine lv_if_ne (tgt := 120) hx hb dX6_gather_91 (by decide) (fun c_49 => ?_) (fun c_49 => ?_)
                    · skip
                      have f_50 : ¬ (y_24.toInt = 0) := fn_eq rfl (by decide) c_49
                      obtain ⟨y_51, ey_51⟩ : ∃ y : Int32, y = x8 + 1 := ⟨_, rfl⟩
                      refine lv_iinc (v := y_51) (lv' := [(8, .int y_51), (10, .int y_24), (9, .int y_22), (7, .int x7), (6, .int r_4), (0, .ref h0), (1, .ref t0), (2, .ref lb), (3, .int x), (4, .int y), (5, .int co)]) hx hb dX6_gather_120 hl (k := 2) rfl (by rw [ey_51]; rfl) (by decide) rfl (fun ls hl => ?_)
                      refine lv_goto (tgt := 56) hx hb dX6_gather_123 (by decide) ?_
                      exact ih_17 (i + 1) y_51 gm gn z3 _ _ _ (by omega) (by omega) (by rw [ey_51, ex_i]; exact nI_1 i) hz8 (hP.sub (ws' := [(h0, .inr (6, [.ref v1, .ref v2, .int z3])), (v1, .inl (cI, 4096, .inl gm)), (v2, .inl (cI, 4096, .inl gn)), (t0, .inr (5, [.ref d0, .int w, .int h])), (d0, .inl (cI, 4096, .inl g)), (lb, .inr (0, [.int bx0, .int by0, .int bx1, .int by1]))]) [0, 1, 2, 3, 4, 5] rfl) (hD.sub (ws' := [(h0, .inr (6, [.ref v1, .ref v2, .int z3])), (v1, .inl (cI, 4096, .inl gm)), (v2, .inl (cI, 4096, .inl gn)), (t0, .inr (5, [.ref d0, .int w, .int h])), (d0, .inl (cI, 4096, .inl g)), (lb, .inr (0, [.int bx0, .int by0, .int bx1, .int by1]))]) [0, 1, 2, 3, 4, 5] (by decide) rfl) hS (lv_sub hl [0, 3, 4, 5, 6, 7, 8, 9, 10] rfl)
                    · skip
                      have f_50 : y_24.toInt = 0 := f_eq rfl (by decide) c_49
                      refine lv_aload_n hx hb dX6_gather_94 rfl (lv_at hl 5 rfl) ?_
                      refine lv_aload_n hx hb dX6_gather_95 rfl (lv_at hl 6 rfl) ?_
                      refine lv_aload_n hx hb dX6_gather_96 rfl (lv_at hl 7 rfl) ?_
                      refine lv_aload_n hx hb dX6_gather_97 rfl (lv_at hl 5 rfl) ?_
                      refine lv_iload hx hb dX6_gather_98 (lv_at hl 3 rfl) ?_
                      have hPc := hP.sub (ws' := [(h0, .inr (6, [.ref v1, .ref v2, .int z3])), (v1, .inl (cI, 4096, .inl gm))]) [0, 1] rfl
                      have hDc := hD.sub (ws' := [(h0, .inr (6, [.ref v1, .ref v2, .int z3])), (v1, .inl (cI, 4096, .inl gm))]) [0, 1] (by decide) rfl
                      have hKc := hK.sub (tys' := [(cI, .int)]) [0] rfl
                      have hFc := va_free (wc := [(h0, .inr (6, [.ref v1, .ref v2, .int z3])), (v1, .inl (cI, 4096, .inl gm))]) hD hS hA [0, 1] rfl
                      refine va_calli (va_runV (As := [.int x7]) (rest := [.ref lb, .ref t0, .ref h0]) ⟨hx, hb, hml, hown, hts⟩ (k_X6_xAt l D H.size h0 v1 v2 z3 gm x7 cI (by first | assumption | omega | decide)) (cwV 1 hts (gV bw_182 bw_185 bw_186 bw_168 bw_184) rfl rfl rfl (by decide +kernel) ⟨(by rw [hR]; exact Nat.le_of_ble_eq_true rfl), (by rw [hR]; exact Nat.le_of_ble_eq_true rfl)⟩) ⟨cP_blind, va_recv hKc hPc (ci := 6) (q0 := 0) rfl rfl, cP_at hPc hKc hDc hN⟩ rfl rfl hl.1 rfl (lv_room (Nat.le_of_ble_eq_true rfl)) dX6_gather_100 ⟨(by rw [hR]; exact Nat.le_of_ble_eq_true rfl), (by rw [hR]; exact Nat.le_of_ble_eq_true rfl)⟩) hS (fun q _ h => hFc q h) hFc (fun r_52 u9 t9 H1 locs ht hvm hr_52 hB hz1 hk1 hS => ?_)
                      try dsimp only at hr_52
                      obtain ⟨hP1, hK1, hD1⟩ := hB
                      rw [ht] at hP1
                      obtain ⟨hP, hD⟩ := va_join (wr := [(v2, .inl (cI, 4096, .inl gn)), (t0, .inr (5, [.ref d0, .int w, .int h])), (d0, .inl (cI, 4096, .inl g)), (lb, .inr (0, [.int bx0, .int by0, .int bx1, .int by1]))]) (w1 := [(h0, .inr (6, [.ref v1, .ref v2, .int z3])), (v1, .inl (cI, 4096, .inl gm))]) hP hD [0, 1] [2, 3, 4, 5] rfl rfl (by decide) (by decide) hk1 hFc hP1 hD1
                      clear hz1 hk1 hFc hKc hDc hPc
                      generalize H1 = H at hP hS ⊢
                      have hP : va_P D vwCl [(v2, .inl (cI, 4096, .inl gn)), (t0, .inr (5, [.ref d0, .int w, .int h])), (d0, .inl (cI, 4096, .inl g)), (lb, .inr (0, [.int bx0, .int by0, .int bx1, .int by1])), (h0, .inr (6, [.ref v1, .ref v2, .int z3])), (v1, .inl (cI, 4096, .inl gm))] H := hP
                      have hD : va_D A [(v2, .inl (cI, 4096, .inl gn)), (t0, .inr (5, [.ref d0, .int w, .int h])), (d0, .inl (cI, 4096, .inl g)), (lb, .inr (0, [.int bx0, .int by0, .int bx1, .int by1])), (h0, .inr (6, [.ref v1, .ref v2, .int z3])), (v1, .inl (cI, 4096, .inl gm))] := hD
                      refine lv_iload hx hb dX6_gather_103 (lv_at hl 1 rfl) ?_
                      refine lv_iadd hx hb dX6_gather_105 ?_
                      refine lv_topi (fun y_53 ey_53 => ?_)
                      refine lv_aload_n hx hb dX6_gather_106 rfl (lv_at hl 5 rfl) ?_
                      refine lv_iload hx hb dX6_gather_107 (lv_at hl 3 rfl) ?_
                      have hPc := hP.sub (ws' := [(h0, .inr (6, [.ref v1, .ref v2, .int z3])), (v1, .inl (cI, 4096, .inl gm))]) [4, 5] rfl
                      have hDc := hD.sub (ws' := [(h0, .inr (6, [.ref v1, .ref v2, .int z3])), (v1, .inl (cI, 4096, .inl gm))]) [4, 5] (by decide) rfl
                      have hKc := hK.sub (tys' := [(cI, .int)]) [0] rfl
                      have hFc := va_free (wc := [(h0, .inr (6, [.ref v1, .ref v2, .int z3])), (v1, .inl (cI, 4096, .inl gm))]) hD hS hA [4, 5] rfl
                      refine va_calli (va_runV (As := [.int x7]) (rest := [.int y_53, .ref lb, .ref t0, .ref h0]) ⟨hx, hb, hml, hown, hts⟩ (k_X6_yAt l D H.size h0 v1 v2 z3 gm x7 cI (by first | assumption | omega | decide)) (cwV 1 hts (gV bw_183 bw_188 bw_189 bw_168 bw_187) rfl rfl rfl (by decide +kernel) ⟨(by rw [hR]; exact Nat.le_of_ble_eq_true rfl), (by rw [hR]; exact Nat.le_of_ble_eq_true rfl)⟩) ⟨cP_blind, va_recv hKc hPc (ci := 6) (q0 := 0) rfl rfl, cP_at hPc hKc hDc hN⟩ rfl rfl hl.1 rfl (lv_room (Nat.le_of_ble_eq_true rfl)) dX6_gather_109 ⟨(by rw [hR]; exact Nat.le_of_ble_eq_true rfl), (by rw [hR]; exact Nat.le_of_ble_eq_true rfl)⟩) hS (fun q _ h => hFc q h) hFc (fun r_54 u9 t9 H1 locs ht hvm hr_54 hB hz1 hk1 hS => ?_)
                      try dsimp only at hr_54
                      obtain ⟨hP1, hK1, hD1⟩ := hB
                      rw [ht] at hP1
                      obtain ⟨hP, hD⟩ := va_join (wr := [(v2, .inl (cI, 4096, .inl gn)), (t0, .inr (5, [.ref d0, .int w, .int h])), (d0, .inl (cI, 4096, .inl g)), (lb, .inr (0, [.int bx0, .int by0, .int bx1, .int by1]))]) (w1 := [(h0, .inr (6, [.ref v1, .ref v2, .int z3])), (v1, .inl (cI, 4096, .inl gm))]) hP hD [4, 5] [0, 1, 2, 3] rfl rfl (by decide) (by decide) hk1 hFc hP1 hD1
                      clear hz1 hk1 hFc hKc hDc hPc
                      generalize H1 = H at hP hS ⊢
                      have hP : va_P D vwCl [(v2, .inl (cI, 4096, .inl gn)), (t0, .inr (5, [.ref d0, .int w, .int h])), (d0, .inl (cI, 4096, .inl g)), (lb, .inr (0, [.int bx0, .int by0, .int bx1, .int by1])), (h0, .inr (6, [.ref v1, .ref v2, .int z3])), (v1, .inl (cI, 4096, .inl gm))] H := hP
                      have hD : va_D A [(v2, .inl (cI, 4096, .inl gn)), (t0, .inr (5, [.ref d0, .int w, .int h])), (d0, .inl (cI, 4096, .inl g)), (lb, .inr (0, [.int bx0, .int by0, .int bx1, .int by1])), (h0, .inr (6, [.ref v1, .ref v2, .int z3])), (v1, .inl (cI, 4096, .inl gm))] := hD
                      refine lv_iload hx hb dX6_gather_112 (lv_at hl 0 rfl) ?_
                      refine lv_iadd hx hb dX6_gather_114 ?_
                      refine lv_topi (fun y_55 ey_55 => ?_)
                      refine lv_iload hx hb dX6_gather_115 (lv_at hl 4 rfl) ?_
                      have hPc := hP.sub (ws' := [(h0, .inr (6, [.ref v1, .ref v2, .int z3])), (v1, .inl (cI, 4096, .inl gm)), (v2, .inl (cI, 4096, .inl gn)), (t0, .inr (5, [.ref d0, .int w, .int h])), (d0, .inl (cI, 4096, .inl g)), (lb, .inr (0, [.int bx0, .int by0, .int bx1, .int by1]))]) [4, 5, 0, 1, 2, 3] rfl
                      have hDc := hD.sub (ws' := [(h0, .inr (6, [.ref v1, .ref v2, .int z3])), (v1, .inl (cI, 4096, .inl gm)), (v2, .inl (cI, 4096, .inl gn)), (t0, .inr (5, [.ref d0, .int w, .int h])), (d0, .inl (cI, 4096, .inl g)), (lb, .inr (0, [.int bx0, .int by0, .int bx1, .int by1]))]) [4, 5, 0, 1, 2, 3] (by decide) rfl
                      have hKc := hK.sub (tys' := [(cI, .int)]) [0] rfl
                      have hFc := va_free (wc := [(h0, .inr (6, [.ref v1, .ref v2, .int z3])), (v1, .inl (cI, 4096, .inl gm)), (v2, .inl (cI, 4096, .inl gn)), (t0, .inr (5, [.ref d0, .int w, .int h])), (d0, .inl (cI, 4096, .inl g)), (lb, .inr (0, [.int bx0, .int by0, .int bx1, .int by1]))]) hD hS hA [4, 5, 0, 1, 2, 3] rfl
                      refine va_callv (va_runV (As := [.ref t0, .ref lb, .int y_53, .int y_55, .int r_4]) (rest := []) ⟨hx, hb, hml, hown, hts⟩ (k_X6_reach l D H.size h0 v1 v2 t0 d0 lb z3 gm gn w h g bx0 by0 bx1 by1 y_53 y_55 r_4 cI (by first | assumption | omega | decide) (by first | assumption | omega | decide) (by first | assumption | omega | decide)) (cwV 5 hts (gV bw_181 bw_191 bw_192 bw_168 bw_190) rfl rfl rfl (by decide +kernel) ⟨(by rw [hR]; exact Nat.le_of_ble_eq_true rfl), (by rw [hR]; exact Nat.le_of_ble_eq_true rfl)⟩) ⟨cP_blind, va_recv hKc hPc (ci := 6) (q0 := 0) rfl rfl, cP_at hPc hKc hDc hN⟩ rfl rfl hl.1 rfl (lv_room (Nat.le_of_ble_eq_true rfl)) dX6_gather_117 ⟨(by rw [hR]; exact Nat.le_of_ble_eq_true rfl), (by rw [hR]; exact Nat.le_of_ble_eq_true rfl)⟩) hS (fun q _ h => hFc q h) hFc (fun u9 t9 H1 locs ht hvm hr_56 hB hz1 hk1 hS => ?_)
                      try dsimp only at hr_56
                      obtain ⟨v_57, g_58, g_59, b_60, hP1, hK1, hD1⟩ := hB
                      rw [ht] at hP1
                      obtain ⟨hP, hD⟩ := va_join (wr := []) (w1 := [(h0, .inr (6, [.ref v1, .ref v2, .int v_57])), (v1, .inl (cI, 4096, .inl g_58)), (v2, .inl (cI, 4096, .inl g_59)), (t0, .inr (5, [.ref d0, .int w, .int h])), (d0, .inl (cI, 4096, .inl g)), (lb, .inr (0, [.int bx0, .int by0, .int bx1, .int by1]))]) hP hD [4, 5, 0, 1, 2, 3] [] rfl rfl (by decide) (by decide) hk1 hFc hP1 hD1
                      clear hz1 hk1 hFc hKc hDc hPc
                      generalize H1 = H at hP hS ⊢
                      have hP : va_P D vwCl [(h0, .inr (6, [.ref v1, .ref v2, .int v_57])), (v1, .inl (cI, 4096, .inl g_58)), (v2, .inl (cI, 4096, .inl g_59)), (t0, .inr (5, [.ref d0, .int w, .int h])), (d0, .inl (cI, 4096, .inl g)), (lb, .inr (0, [.int bx0, .int by0, .int bx1, .int by1]))] H := hP
                      have hD : va_D A [(h0, .inr (6, [.ref v1, .ref v2, .int v_57])), (v1, .inl (cI, 4096, .inl g_58)), (v2, .inl (cI, 4096, .inl g_59)), (t0, .inr (5, [.ref d0, .int w, .int h])), (d0, .inl (cI, 4096, .inl g)), (lb, .inr (0, [.int bx0, .int by0, .int bx1, .int by1]))] := hD
                      obtain ⟨y_61, ey_61⟩ : ∃ y : Int32, y = x8 + 1 := ⟨_, rfl⟩
                      refine lv_iinc (v := y_61) (lv' := [(8, .int y_61), (10, .int y_24), (9, .int y_22), (7, .int x7), (6, .int r_4), (0, .ref h0), (1, .ref t0), (2, .ref lb), (3, .int x), (4, .int y), (5, .int co)]) hx hb dX6_gather_120 hl (k := 2) rfl (by rw [ey_61]; rfl) (by decide) rfl (fun ls hl => ?_)
                      refine lv_goto (tgt := 56) hx hb dX6_gather_123 (by decide) ?_
                      exact ih_17 (i + 1) y_61 g_58 g_59 v_57 _ _ _ (by omega) (by omega) (by rw [ey_61, ex_i]; exact nI_1 i) b_60 (hP.sub (ws' := [(h0, .inr (6, [.ref v1, .ref v2, .int v_57])), (v1, .inl (cI, 4096, .inl g_58)), (v2, .inl (cI, 4096, .inl g_59)), (t0, .inr (5, [.ref d0, .int w, .int h])), (d0, .inl (cI, 4096, .inl g)), (lb, .inr (0, [.int bx0, .int by0, .int bx1, .int by1]))]) [0, 1, 2, 3, 4, 5] rfl) (hD.sub (ws' := [(h0, .inr (6, [.ref v1, .ref v2, .int v_57])), (v1, .inl (cI, 4096, .inl g_58)), (v2, .inl (cI, 4096, .inl g_59)), (t0, .inr (5, [.ref d0, .int w, .int h])), (d0, .inl (cI, 4096, .inl g)), (lb, .inr (0, [.int bx0, .int by0, .int bx1, .int by1]))]) [0, 1, 2, 3, 4, 5] (by decide) rfl) hS (lv_sub hl [0, 3, 4, 5, 6, 7, 8, 9, 10] rfl)
          exact loop_16 (9 + 1) 0 0 gx gy z2 _ _ _ (by omega) (by omega) nI_0.symm hz9 hP hD hS (lv_sub hl [0, 1, 2, 3, 4, 5, 6, 7, 8] rfl)
  exact loop_10 (4096 + 1) 0 0 g_7 g_8 v_6 _ _ _ (by omega) (by omega) nI_0.symm b_9 hP hD hS (lv_sub hl [0, 1, 2, 3, 4, 5, 6, 7] rfl)

set_option maxHeartbeats 4000000 in
set_option maxRecDepth 100000 in
theorem k_X8_gathered_1 (l : Launch) (D : va_G) (sz : Nat) (h0 s1 s2 s3 s4 s5 s6 : Nat) (ds : Int32) (bt : Option Nat) (sq v1 v2 : Nat) (zs : Int32) (ga : Nat → Int32) (gb : Nat → Int32) (t0 d0 lb : Nat) (w h : Int32) (g : Nat → Int32) (bx0 by0 bx1 by1 : Int32) (x y co : Int32) (cI : ClassId) (hw : w.toInt ≤ 64) (hh : h.toInt ≤ 64) : Met l yX8_gathered (wB yX8_gathered cX8_gathered 6 (some (.object "DotBench$Spread"))) ({ frames := 4, cells := 0, slots := 0, locals := 100 }) (cP D [(h0, .inr (8, [.ref s1, .ref s2, .ref s3, .ref s4, .ref s5, .ref s6, .int ds, .ref sq, va_rf bt])), (sq, .inr (6, [.ref v1, .ref v2, .int zs])), (v1, .inl (cI, 4096, .inl ga)), (v2, .inl (cI, 4096, .inl gb)), (t0, .inr (5, [.ref d0, .int w, .int h])), (d0, .inl (cI, 4096, .inl g)), (lb, .inr (0, [.int bx0, .int by0, .int bx1, .int by1]))] [(cI, .int)] sz [.ref h0, .ref t0, .ref lb, .int x, .int y, .int co]) (va_Qq (fun (r : Option Nat) (_ : Unit) => r = some sq) (fun (_ : Unit) (t : State) => ∃ (sz2 : Int32), ∃ (g2 g3 : Nat → Int32), (0 ≤ sz2.toInt ∧ sz2.toInt ≤ 4096) ∧ cB D (va_A [(h0, .inr (8, [.ref s1, .ref s2, .ref s3, .ref s4, .ref s5, .ref s6, .int ds, .ref sq, va_rf bt])), (sq, .inr (6, [.ref v1, .ref v2, .int zs])), (v1, .inl (cI, 4096, .inl ga)), (v2, .inl (cI, 4096, .inl gb)), (t0, .inr (5, [.ref d0, .int w, .int h])), (d0, .inl (cI, 4096, .inl g)), (lb, .inr (0, [.int bx0, .int by0, .int bx1, .int by1]))] sz) [(h0, .inr (8, [.ref s1, .ref s2, .ref s3, .ref s4, .ref s5, .ref s6, .int ds, .ref sq, va_rf bt])), (sq, .inr (6, [.ref v1, .ref v2, .int sz2])), (v1, .inl (cI, 4096, .inl g2)), (v2, .inl (cI, 4096, .inl g3)), (t0, .inr (5, [.ref d0, .int w, .int h])), (d0, .inl (cI, 4096, .inl g)), (lb, .inr (0, [.int bx0, .int by0, .int bx1, .int by1]))] [(cI, .int)] t) (va_A [(h0, .inr (8, [.ref s1, .ref s2, .ref s3, .ref s4, .ref s5, .ref s6, .int ds, .ref sq, va_rf bt])), (sq, .inr (6, [.ref v1, .ref v2, .int zs])), (v1, .inl (cI, 4096, .inl ga)), (v2, .inl (cI, 4096, .inl gb)), (t0, .inr (5, [.ref d0, .int w, .int h])), (d0, .inl (cI, 4096, .inl g)), (lb, .inr (0, [.int bx0, .int by0, .int bx1, .int by1]))] sz)) 0 0 (va_A [(h0, .inr (8, [.ref s1, .ref s2, .ref s3, .ref s4, .ref s5, .ref s6, .int ds, .ref sq, va_rf bt])), (sq, .inr (6, [.ref v1, .ref v2, .int zs])), (v1, .inl (cI, 4096, .inl ga)), (v2, .inl (cI, 4096, .inl gb)), (t0, .inr (5, [.ref d0, .int w, .int h])), (d0, .inl (cI, 4096, .inl g)), (lb, .inr (0, [.int bx0, .int by0, .int bx1, .int by1]))] sz) := by
  refine Met.ofW (cc := cX8_gathered) (maxL := 6) (ret := (some (.object "DotBench$Spread"))) (by decide) rfl ?_
  intro p e s m args below meth c s₁ B hml hv
  obtain ⟨rfl, hsz, hP, hK, hD0, hN⟩ := hv
  have hx := B.exec
  have hb := B.bytes
  have hr := B.returns
  have hts0 := atoms_spec (ws := (wB yX8_gathered cX8_gathered 6 (some (.object "DotBench$Spread")))) B.pre
  have hts : ∀ w ∈ bigW, w.before _ s = true := fun w h => hts0 w (List.mem_cons_of_mem _ h)
  have hown : s.vm.findClass RX8 = some m.cls := findClass_of_methodNamed B.named
  have hlocks := B.notSynchronized
  subst hsz
  have hD := hD0.self (sz := s.heap.size)
  generalize hAe : va_A [(h0, .inr (8, [.ref s1, .ref s2, .ref s3, .ref s4, .ref s5, .ref s6, .int ds, .ref sq, va_rf bt])), (sq, .inr (6, [.ref v1, .ref v2, .int zs])), (v1, .inl (cI, 4096, .inl ga)), (v2, .inl (cI, 4096, .inl gb)), (t0, .inr (5, [.ref d0, .int w, .int h])), (d0, .inl (cI, 4096, .inl g)), (lb, .inr (0, [.int bx0, .int by0, .int bx1, .int by1]))] s.heap.size = A at hD ⊢
  have hA : ∀ q : Nat, s.heap.size ≤ q → A q := fun q h => by rw [← hAe]; exact Or.inr h
  have hS : va_S A s.heap s.heap [] := va_S.rf
  have hP : va_P D vwCl [(h0, .inr (8, [.ref s1, .ref s2, .ref s3, .ref s4, .ref s5, .ref s6, .int ds, .ref sq, va_rf bt])), (sq, .inr (6, [.ref v1, .ref v2, .int zs])), (v1, .inl (cI, 4096, .inl ga)), (v2, .inl (cI, 4096, .inl gb)), (t0, .inr (5, [.ref d0, .int w, .int h])), (d0, .inl (cI, 4096, .inl g)), (lb, .inr (0, [.int bx0, .int by0, .int bx1, .int by1]))] s.heap := hP
  have hl := lv_entry ([.ref h0, .ref t0, .ref lb, .int x, .int y, .int co]) (n := 6) (Nat.le_of_ble_eq_true rfl)
  rw [lg_entry_eq]
  generalize (lg_sl ([.ref h0, .ref t0, .ref lb, .int x, .int y, .int co]) ++ List.replicate (6 - (lg_sl ([.ref h0, .ref t0, .ref lb, .int x, .int y, .int co])).length) Slot.unset).toArray = ls at hl ⊢
  have hl : lv_has ls 6 [(0, .ref h0), (1, .ref t0), (2, .ref lb), (3, .int x), (4, .int y), (5, .int co)] := hl
  clear hts0 hD0 hAe
  refine my_abs (fun R Q hR hQ => ?_)
  refine lv_aload_n hx hb dX8_gathered_0 rfl (lv_at hl 0 rfl) ?_
  refine va_get (D := D) (ci := 8) (v := .ref sq) (C := RX8) (T := TX8) (N := 9) hx hb hts hi_X8 hown hK hP 0 rfl rfl 7 (by decide) (hts _ bw_242) (fun _ h9 => h9) rfl dX8_gathered_1 ?_
  refine lv_ifnonnull (tgt := 18) hx hb dX8_gathered_4 (by decide) ?_
  refine lv_aload_n hx hb dX8_gathered_18 rfl (lv_at hl 0 rfl) ?_
  refine va_get (D := D) (ci := 8) (v := .ref sq) (C := RX8) (T := TX8) (N := 9) hx hb hts hi_X8 hown hK hP 0 rfl rfl 7 (by decide) (hts _ bw_242) (fun _ h9 => h9) rfl dX8_gathered_19 ?_
  refine lv_aload_n hx hb dX8_gathered_22 rfl (lv_at hl 1 rfl) ?_
  refine lv_aload_n hx hb dX8_gathered_23 rfl (lv_at hl 2 rfl) ?_
  refine lv_iload_n hx hb dX8_gathered_24 rfl (lv_at hl 3 rfl) ?_
  refine lv_iload hx hb dX8_gathered_25 (lv_at hl 4 rfl) ?_
  refine lv_iload hx hb dX8_gathered_27 (lv_at hl 5 rfl) ?_
  have hPc := hP.sub (ws' := [(sq, .inr (6, [.ref v1, .ref v2, .int zs])), (v1, .inl (cI, 4096, .inl ga)), (v2, .inl (cI, 4096, .inl gb)), (t0, .inr (5, [.ref d0, .int w, .int h])), (d0, .inl (cI, 4096, .inl g)), (lb, .inr (0, [.int bx0, .int by0, .int bx1, .int by1]))]) [1, 2, 3, 4, 5, 6] rfl
  have hDc := hD.sub (ws' := [(sq, .inr (6, [.ref v1, .ref v2, .int zs])), (v1, .inl (cI, 4096, .inl ga)), (v2, .inl (cI, 4096, .inl gb)), (t0, .inr (5, [.ref d0, .int w, .int h])), (d0, .inl (cI, 4096, .inl g)), (lb, .inr (0, [.int bx0, .int by0, .int bx1, .int by1]))]) [1, 2, 3, 4, 5, 6] (by decide) rfl
  have hKc := hK.sub (tys' := [(cI, .int)]) [0] rfl
  have hFc := va_free (wc := [(sq, .inr (6, [.ref v1, .ref v2, .int zs])), (v1, .inl (cI, 4096, .inl ga)), (v2, .inl (cI, 4096, .inl gb)), (t0, .inr (5, [.ref d0, .int w, .int h])), (d0, .inl (cI, 4096, .inl g)), (lb, .inr (0, [.int bx0, .int by0, .int bx1, .int by1]))]) hD hS hA [1, 2, 3, 4, 5, 6] rfl
  refine va_callv (va_runV (As := [.ref t0, .ref lb, .int x, .int y, .int co]) (rest := []) ⟨hx, hb, hml, hown, hts⟩ (k_X6_gather l D s.heap.size sq v1 v2 t0 d0 lb zs ga gb w h g bx0 by0 bx1 by1 x y co cI (by first | assumption | omega | decide) (by first | assumption | omega | decide)) (cwV 5 hts (gV bw_381 bw_177 bw_178 bw_168 bw_176) rfl rfl rfl (by decide +kernel) ⟨(by rw [hR]; exact Nat.le_of_ble_eq_true rfl), (by rw [hR]; exact Nat.le_of_ble_eq_true rfl)⟩) ⟨cP_blind, va_recv hKc hPc (ci := 6) (q0 := 0) rfl rfl, cP_at hPc hKc hDc hN⟩ rfl rfl hl.1 rfl (lv_room (Nat.le_of_ble_eq_true rfl)) dX8_gathered_29 ⟨(by rw [hR]; exact Nat.le_of_ble_eq_true rfl), (by rw [hR]; exact Nat.le_of_ble_eq_true rfl)⟩) hS (fun q _ h => hFc q h) hFc (fun u9 t9 H1 locs ht hvm hr_1 hB hz1 hk1 hS => ?_)
  try dsimp only at hr_1
  obtain ⟨v_2, g_3, g_4, b_5, hP1, hK1, hD1⟩ := hB
  rw [ht] at hP1
  obtain ⟨hP, hD⟩ := va_join (wr := [(h0, .inr (8, [.ref s1, .ref s2, .ref s3, .ref s4, .ref s5, .ref s6, .int ds, .ref sq, va_rf bt]))]) (w1 := [(sq, .inr (6, [.ref v1, .ref v2, .int v_2])), (v1, .inl (cI, 4096, .inl g_3)), (v2, .inl (cI, 4096, .inl g_4)), (t0, .inr (5, [.ref d0, .int w, .int h])), (d0, .inl (cI, 4096, .inl g)), (lb, .inr (0, [.int bx0, .int by0, .int bx1, .int by1]))]) hP hD [1, 2, 3, 4, 5, 6] [0] rfl rfl (by decide) (by decide) hk1 hFc hP1 hD1
  clear hz1 hk1 hFc hKc hDc hPc
  generalize H1 = H at hP hS ⊢
  have hP : va_P D vwCl [(h0, .inr (8, [.ref s1, .ref s2, .ref s3, .ref s4, .ref s5, .ref s6, .int ds, .ref sq, va_rf bt])), (sq, .inr (6, [.ref v1, .ref v2, .int v_2])), (v1, .inl (cI, 4096, .inl g_3)), (v2, .inl (cI, 4096, .inl g_4)), (t0, .inr (5, [.ref d0, .int w, .int h])), (d0, .inl (cI, 4096, .inl g)), (lb, .inr (0, [.int bx0, .int by0, .int bx1, .int by1]))] H := hP
  have hD : va_D A [(h0, .inr (8, [.ref s1, .ref s2, .ref s3, .ref s4, .ref s5, .ref s6, .int ds, .ref sq, va_rf bt])), (sq, .inr (6, [.ref v1, .ref v2, .int v_2])), (v1, .inl (cI, 4096, .inl g_3)), (v2, .inl (cI, 4096, .inl g_4)), (t0, .inr (5, [.ref d0, .int w, .int h])), (d0, .inl (cI, 4096, .inl g)), (lb, .inr (0, [.int bx0, .int by0, .int bx1, .int by1]))] := hD
  refine lv_aload_n hx hb dX8_gathered_32 rfl (lv_at hl 0 rfl) ?_
  refine va_get (D := D) (ci := 8) (v := .ref sq) (C := RX8) (T := TX8) (N := 9) hx hb hts hi_X8 hown hK hP 0 rfl rfl 7 (by decide) (hts _ bw_242) (fun _ h9 => h9) rfl dX8_gathered_33 ?_
  have hP9 := hP.sub (ws' := [(h0, .inr (8, [.ref s1, .ref s2, .ref s3, .ref s4, .ref s5, .ref s6, .int ds, .ref sq, va_rf bt])), (sq, .inr (6, [.ref v1, .ref v2, .int v_2])), (v1, .inl (cI, 4096, .inl g_3)), (v2, .inl (cI, 4096, .inl g_4)), (t0, .inr (5, [.ref d0, .int w, .int h])), (d0, .inl (cI, 4096, .inl g)), (lb, .inr (0, [.int bx0, .int by0, .int bx1, .int by1]))]) [0, 1, 2, 3, 4, 5, 6] rfl
  have hD9 := hD.sub (ws' := [(h0, .inr (8, [.ref s1, .ref s2, .ref s3, .ref s4, .ref s5, .ref s6, .int ds, .ref sq, va_rf bt])), (sq, .inr (6, [.ref v1, .ref v2, .int v_2])), (v1, .inl (cI, 4096, .inl g_3)), (v2, .inl (cI, 4096, .inl g_4)), (t0, .inr (5, [.ref d0, .int w, .int h])), (d0, .inl (cI, 4096, .inl g)), (lb, .inr (0, [.int bx0, .int by0, .int bx1, .int by1]))]) [0, 1, 2, 3, 4, 5, 6] (by decide) rfl
  have hK9 := hK.sub (tys' := [(cI, .int)]) [0] rfl
  refine hQ _ _ _ _ _ ?_
  exact W.aret hx hb hr (Or.inl ⟨_, rfl⟩) (Or.inr ⟨_, rfl⟩) (fun t ht hW => ⟨⟨(some sq), (), rfl, rfl, ⟨v_2, g_3, g_4, b_5, by rw [ht]; exact hP9, va_K.moved hW.alike hK9, hD9⟩⟩, hS.F ht⟩) hS.2.2 dX8_gathered_36

set_option maxHeartbeats 4000000 in
set_option maxRecDepth 100000 in
theorem k_X8_gathered_0 (l : Launch) (D : va_G) (sz : Nat) (h0 s1 s2 s3 s4 s5 s6 : Nat) (ds : Int32) (bt : Option Nat) (t0 d0 lb : Nat) (w h : Int32) (g : Nat → Int32) (bx0 by0 bx1 by1 : Int32) (x y co : Int32) (cI : ClassId) (hw : w.toInt ≤ 64) (hh : h.toInt ≤ 64) : Met l yX8_gathered (wB yX8_gathered cX8_gathered 6 (some (.object "DotBench$Spread"))) ({ frames := 4, cells := 3, slots := 8195, locals := 100 }) (cP D [(h0, .inr (8, [.ref s1, .ref s2, .ref s3, .ref s4, .ref s5, .ref s6, .int ds, .null, va_rf bt])), (t0, .inr (5, [.ref d0, .int w, .int h])), (d0, .inl (cI, 4096, .inl g)), (lb, .inr (0, [.int bx0, .int by0, .int bx1, .int by1]))] [(cI, .int)] sz [.ref h0, .ref t0, .ref lb, .int x, .int y, .int co]) (va_Qq (fun (r : Option Nat) (sq : Nat) => r = some sq) (fun (sq : Nat) (t : State) => ∃ (v1 v2 : Nat), ∃ (sz2 : Int32), ∃ (g2 g3 : Nat → Int32), (0 ≤ sz2.toInt ∧ sz2.toInt ≤ 4096) ∧ cB D (va_A [(h0, .inr (8, [.ref s1, .ref s2, .ref s3, .ref s4, .ref s5, .ref s6, .int ds, .null, va_rf bt])), (t0, .inr (5, [.ref d0, .int w, .int h])), (d0, .inl (cI, 4096, .inl g)), (lb, .inr (0, [.int bx0, .int by0, .int bx1, .int by1]))] sz) [(h0, .inr (8, [.ref s1, .ref s2, .ref s3, .ref s4, .ref s5, .ref s6, .int ds, .ref sq, va_rf bt])), (sq, .inr (6, [.ref v1, .ref v2, .int sz2])), (v1, .inl (cI, 4096, .inl g2)), (v2, .inl (cI, 4096, .inl g3)), (t0, .inr (5, [.ref d0, .int w, .int h])), (d0, .inl (cI, 4096, .inl g)), (lb, .inr (0, [.int bx0, .int by0, .int bx1, .int by1]))] [(cI, .int)] t) (va_A [(h0, .inr (8, [.ref s1, .ref s2, .ref s3, .ref s4, .ref s5, .ref s6, .int ds, .null, va_rf bt])), (t0, .inr (5, [.ref d0, .int w, .int h])), (d0, .inl (cI, 4096, .inl g)), (lb, .inr (0, [.int bx0, .int by0, .int bx1, .int by1]))] sz)) 3 8195 (va_A [(h0, .inr (8, [.ref s1, .ref s2, .ref s3, .ref s4, .ref s5, .ref s6, .int ds, .null, va_rf bt])), (t0, .inr (5, [.ref d0, .int w, .int h])), (d0, .inl (cI, 4096, .inl g)), (lb, .inr (0, [.int bx0, .int by0, .int bx1, .int by1]))] sz) := by
  refine Met.ofW (cc := cX8_gathered) (maxL := 6) (ret := (some (.object "DotBench$Spread"))) (by decide) rfl ?_
  intro p e s m args below meth c s₁ B hml hv
  obtain ⟨rfl, hsz, hP, hK, hD0, hN⟩ := hv
  have hx := B.exec
  have hb := B.bytes
  have hr := B.returns
  have hts0 := atoms_spec (ws := (wB yX8_gathered cX8_gathered 6 (some (.object "DotBench$Spread")))) B.pre
  have hts : ∀ w ∈ bigW, w.before _ s = true := fun w h => hts0 w (List.mem_cons_of_mem _ h)
  have hown : s.vm.findClass RX8 = some m.cls := findClass_of_methodNamed B.named
  have hlocks := B.notSynchronized
  subst hsz
  have hD := hD0.self (sz := s.heap.size)
  generalize hAe : va_A [(h0, .inr (8, [.ref s1, .ref s2, .ref s3, .ref s4, .ref s5, .ref s6, .int ds, .null, va_rf bt])), (t0, .inr (5, [.ref d0, .int w, .int h])), (d0, .inl (cI, 4096, .inl g)), (lb, .inr (0, [.int bx0, .int by0, .int bx1, .int by1]))] s.heap.size = A at hD ⊢
  have hA : ∀ q : Nat, s.heap.size ≤ q → A q := fun q h => by rw [← hAe]; exact Or.inr h
  have hS : va_S A s.heap s.heap [] := va_S.rf
  have hP : va_P D vwCl [(h0, .inr (8, [.ref s1, .ref s2, .ref s3, .ref s4, .ref s5, .ref s6, .int ds, .null, va_rf bt])), (t0, .inr (5, [.ref d0, .int w, .int h])), (d0, .inl (cI, 4096, .inl g)), (lb, .inr (0, [.int bx0, .int by0, .int bx1, .int by1]))] s.heap := hP
  have hl := lv_entry ([.ref h0, .ref t0, .ref lb, .int x, .int y, .int co]) (n := 6) (Nat.le_of_ble_eq_true rfl)
  rw [lg_entry_eq]
  generalize (lg_sl ([.ref h0, .ref t0, .ref lb, .int x, .int y, .int co]) ++ List.replicate (6 - (lg_sl ([.ref h0, .ref t0, .ref lb, .int x, .int y, .int co])).length) Slot.unset).toArray = ls at hl ⊢
  have hl : lv_has ls 6 [(0, .ref h0), (1, .ref t0), (2, .ref lb), (3, .int x), (4, .int y), (5, .int co)] := hl
  clear hts0 hD0 hAe
  refine my_abs (fun R Q hR hQ => ?_)
  refine lv_aload_n hx hb dX8_gathered_0 rfl (lv_at hl 0 rfl) ?_
  refine va_get (D := D) (ci := 8) (v := .null) (C := RX8) (T := TX8) (N := 9) hx hb hts hi_X8 hown hK hP 0 rfl rfl 7 (by decide) (hts _ bw_242) (fun _ h9 => h9) rfl dX8_gathered_1 ?_
  refine lv_ifnonnullN hx hb dX8_gathered_4 ?_
  refine lv_aload_n hx hb dX8_gathered_7 rfl (lv_at hl 0 rfl) ?_
  refine va_new (ci := 6) (fs := [.null, .null, .int 0]) (C := RX6) (T := TX6) (N := 3) hx hb hts hi_X6 tyX6 tyX6_ok hown (hts _ bw_380) (hts _ bw_169) (hts _ bw_168) hK hP hD hS hA rfl z_X6 (by rw [hR]; exact Nat.le_of_ble_eq_true rfl) (by rw [hR]; exact Nat.le_of_ble_eq_true rfl) dX8_gathered_8 (fun q_1 H hP hD hS => ?_)
  have hP : va_P D vwCl [(h0, .inr (8, [.ref s1, .ref s2, .ref s3, .ref s4, .ref s5, .ref s6, .int ds, .null, va_rf bt])), (t0, .inr (5, [.ref d0, .int w, .int h])), (d0, .inl (cI, 4096, .inl g)), (lb, .inr (0, [.int bx0, .int by0, .int bx1, .int by1])), (q_1, .inr (6, [.null, .null, .int 0]))] H := hP
  have hD : va_D A [(h0, .inr (8, [.ref s1, .ref s2, .ref s3, .ref s4, .ref s5, .ref s6, .int ds, .null, va_rf bt])), (t0, .inr (5, [.ref d0, .int w, .int h])), (d0, .inl (cI, 4096, .inl g)), (lb, .inr (0, [.int bx0, .int by0, .int bx1, .int by1])), (q_1, .inr (6, [.null, .null, .int 0]))] := hD
  refine W.widen (k := 1) (n := 3) (by omega) (by omega) ?_
  refine lv_dup hx hb dX8_gathered_11 rfl ?_
  have hPc := hP.sub (ws' := [(q_1, .inr (6, [.null, .null, .int 0]))]) [4] rfl
  have hDc := hD.sub (ws' := [(q_1, .inr (6, [.null, .null, .int 0]))]) [4] (by decide) rfl
  have hKc := hK.sub (tys' := [(cI, .int)]) [0] rfl
  have hFc := va_free (wc := [(q_1, .inr (6, [.null, .null, .int 0]))]) hD hS hA [4] rfl
  refine va_callv (va_runIN (host := RX8) (As := []) (rest := [.ref q_1, .ref h0]) ⟨hx, hb, hml, hown, hts⟩ (k_X6_init l D H.size q_1 cI) ⟨va_cnB 0 hts (gI bw_170) rfl rfl rfl (hN.2.1 (RX8, 225, yX6_init, RX8) (by decide +kernel)) (hts _ bw_168) (by decide +kernel) ⟨(by rw [hR]; exact Nat.le_of_ble_eq_true rfl), (by rw [hR]; exact Nat.le_of_ble_eq_true rfl)⟩, rfl, (hts _ bw_171)⟩ ⟨cP_blind, cP_at hPc hKc hDc hN⟩ rfl rfl hl.1 rfl (lv_room (Nat.le_of_ble_eq_true rfl)) dX8_gathered_12 ⟨(by rw [hR]; exact Nat.le_of_ble_eq_true rfl), (by rw [hR]; exact Nat.le_of_ble_eq_true rfl)⟩) hS (fun q _ h => hFc q h) hFc (fun u9 t9 H1 locs ht hvm hr_2 hB hz1 hk1 hS => ?_)
  try dsimp only at hr_2
  obtain ⟨q_3, q_4, hP1, hK1, hD1⟩ := hB
  rw [ht] at hP1
  obtain ⟨hP, hD⟩ := va_join (wr := [(h0, .inr (8, [.ref s1, .ref s2, .ref s3, .ref s4, .ref s5, .ref s6, .int ds, .null, va_rf bt])), (t0, .inr (5, [.ref d0, .int w, .int h])), (d0, .inl (cI, 4096, .inl g)), (lb, .inr (0, [.int bx0, .int by0, .int bx1, .int by1]))]) (w1 := [(q_1, .inr (6, [.ref q_3, .ref q_4, .int 0])), (q_3, .inl (cI, 4096, .inl (fun _ => 0))), (q_4, .inl (cI, 4096, .inl (fun _ => 0)))]) hP hD [4] [0, 1, 2, 3] rfl rfl (by decide) (by decide) hk1 hFc hP1 hD1
  clear hz1 hk1 hFc hKc hDc hPc
  generalize H1 = H at hP hS ⊢
  have hP : va_P D vwCl [(h0, .inr (8, [.ref s1, .ref s2, .ref s3, .ref s4, .ref s5, .ref s6, .int ds, .null, va_rf bt])), (t0, .inr (5, [.ref d0, .int w, .int h])), (d0, .inl (cI, 4096, .inl g)), (lb, .inr (0, [.int bx0, .int by0, .int bx1, .int by1])), (q_1, .inr (6, [.ref q_3, .ref q_4, .int 0])), (q_3, .inl (cI, 4096, .inl (fun _ => 0))), (q_4, .inl (cI, 4096, .inl (fun _ => 0)))] H := hP
  have hD : va_D A [(h0, .inr (8, [.ref s1, .ref s2, .ref s3, .ref s4, .ref s5, .ref s6, .int ds, .null, va_rf bt])), (t0, .inr (5, [.ref d0, .int w, .int h])), (d0, .inl (cI, 4096, .inl g)), (lb, .inr (0, [.int bx0, .int by0, .int bx1, .int by1])), (q_1, .inr (6, [.ref q_3, .ref q_4, .int 0])), (q_3, .inl (cI, 4096, .inl (fun _ => 0))), (q_4, .inl (cI, 4096, .inl (fun _ => 0)))] := hD
  refine W.widen (k := 3) (n := 8195) (by omega) (by omega) ?_
  refine va_put (D := D) (ci := 8) (v := .ref q_1) (ty := (.object "DotBench$Spread")) (C := RX8) (T := TX8) (N := 9) hx hb hts hi_X8 tyX8 tyX8_ok nmX8 hown hK hP hD hS 0 rfl rfl 7 (by decide) (hts _ bw_242) (fun _ h9 => h9) rfl (by decide +kernel) rfl rfl (Nat.le_of_ble_eq_true rfl) dX8_gathered_15 (fun H locs hP hD hS => ?_)
  have hP : va_P D vwCl [(h0, .inr (8, [.ref s1, .ref s2, .ref s3, .ref s4, .ref s5, .ref s6, .int ds, .ref q_1, va_rf bt])), (t0, .inr (5, [.ref d0, .int w, .int h])), (d0, .inl (cI, 4096, .inl g)), (lb, .inr (0, [.int bx0, .int by0, .int bx1, .int by1])), (q_1, .inr (6, [.ref q_3, .ref q_4, .int 0])), (q_3, .inl (cI, 4096, .inl (fun _ => 0))), (q_4, .inl (cI, 4096, .inl (fun _ => 0)))] H := hP
  have hD : va_D A [(h0, .inr (8, [.ref s1, .ref s2, .ref s3, .ref s4, .ref s5, .ref s6, .int ds, .ref q_1, va_rf bt])), (t0, .inr (5, [.ref d0, .int w, .int h])), (d0, .inl (cI, 4096, .inl g)), (lb, .inr (0, [.int bx0, .int by0, .int bx1, .int by1])), (q_1, .inr (6, [.ref q_3, .ref q_4, .int 0])), (q_3, .inl (cI, 4096, .inl (fun _ => 0))), (q_4, .inl (cI, 4096, .inl (fun _ => 0)))] := hD
  refine lv_aload_n hx hb dX8_gathered_18 rfl (lv_at hl 0 rfl) ?_
  refine va_get (D := D) (ci := 8) (v := .ref q_1) (C := RX8) (T := TX8) (N := 9) hx hb hts hi_X8 hown hK hP 0 rfl rfl 7 (by decide) (hts _ bw_242) (fun _ h9 => h9) rfl dX8_gathered_19 ?_
  refine lv_aload_n hx hb dX8_gathered_22 rfl (lv_at hl 1 rfl) ?_
  refine lv_aload_n hx hb dX8_gathered_23 rfl (lv_at hl 2 rfl) ?_
  refine lv_iload_n hx hb dX8_gathered_24 rfl (lv_at hl 3 rfl) ?_
  refine lv_iload hx hb dX8_gathered_25 (lv_at hl 4 rfl) ?_
  refine lv_iload hx hb dX8_gathered_27 (lv_at hl 5 rfl) ?_
  have hPc := hP.sub (ws' := [(q_1, .inr (6, [.ref q_3, .ref q_4, .int 0])), (q_3, .inl (cI, 4096, .inl (fun _ => 0))), (q_4, .inl (cI, 4096, .inl (fun _ => 0))), (t0, .inr (5, [.ref d0, .int w, .int h])), (d0, .inl (cI, 4096, .inl g)), (lb, .inr (0, [.int bx0, .int by0, .int bx1, .int by1]))]) [4, 5, 6, 1, 2, 3] rfl
  have hDc := hD.sub (ws' := [(q_1, .inr (6, [.ref q_3, .ref q_4, .int 0])), (q_3, .inl (cI, 4096, .inl (fun _ => 0))), (q_4, .inl (cI, 4096, .inl (fun _ => 0))), (t0, .inr (5, [.ref d0, .int w, .int h])), (d0, .inl (cI, 4096, .inl g)), (lb, .inr (0, [.int bx0, .int by0, .int bx1, .int by1]))]) [4, 5, 6, 1, 2, 3] (by decide) rfl
  have hKc := hK.sub (tys' := [(cI, .int)]) [0] rfl
  have hFc := va_free (wc := [(q_1, .inr (6, [.ref q_3, .ref q_4, .int 0])), (q_3, .inl (cI, 4096, .inl (fun _ => 0))), (q_4, .inl (cI, 4096, .inl (fun _ => 0))), (t0, .inr (5, [.ref d0, .int w, .int h])), (d0, .inl (cI, 4096, .inl g)), (lb, .inr (0, [.int bx0, .int by0, .int bx1, .int by1]))]) hD hS hA [4, 5, 6, 1, 2, 3] rfl
  refine va_callv (va_runV (As := [.ref t0, .ref lb, .int x, .int y, .int co]) (rest := []) ⟨hx, hb, hml, hown, hts⟩ (k_X6_gather l D H.size q_1 q_3 q_4 t0 d0 lb 0 (fun _ => 0) (fun _ => 0) w h g bx0 by0 bx1 by1 x y co cI (by first | assumption | omega | decide) (by first | assumption | omega | decide)) (cwV 5 hts (gV bw_381 bw_177 bw_178 bw_168 bw_176) rfl rfl rfl (by decide +kernel) ⟨(by rw [hR]; exact Nat.le_of_ble_eq_true rfl), (by rw [hR]; exact Nat.le_of_ble_eq_true rfl)⟩) ⟨cP_blind, va_recv hKc hPc (ci := 6) (q0 := 0) rfl rfl, cP_at hPc hKc hDc hN⟩ rfl rfl hl.1 rfl (lv_room (Nat.le_of_ble_eq_true rfl)) dX8_gathered_29 ⟨(by rw [hR]; exact Nat.le_of_ble_eq_true rfl), (by rw [hR]; exact Nat.le_of_ble_eq_true rfl)⟩) hS (fun q _ h => hFc q h) hFc (fun u9 t9 H1 locs ht hvm hr_5 hB hz1 hk1 hS => ?_)
  try dsimp only at hr_5
  obtain ⟨v_6, g_7, g_8, b_9, hP1, hK1, hD1⟩ := hB
  rw [ht] at hP1
  obtain ⟨hP, hD⟩ := va_join (wr := [(h0, .inr (8, [.ref s1, .ref s2, .ref s3, .ref s4, .ref s5, .ref s6, .int ds, .ref q_1, va_rf bt]))]) (w1 := [(q_1, .inr (6, [.ref q_3, .ref q_4, .int v_6])), (q_3, .inl (cI, 4096, .inl g_7)), (q_4, .inl (cI, 4096, .inl g_8)), (t0, .inr (5, [.ref d0, .int w, .int h])), (d0, .inl (cI, 4096, .inl g)), (lb, .inr (0, [.int bx0, .int by0, .int bx1, .int by1]))]) hP hD [4, 5, 6, 1, 2, 3] [0] rfl rfl (by decide) (by decide) hk1 hFc hP1 hD1
  clear hz1 hk1 hFc hKc hDc hPc
  generalize H1 = H at hP hS ⊢
  have hP : va_P D vwCl [(h0, .inr (8, [.ref s1, .ref s2, .ref s3, .ref s4, .ref s5, .ref s6, .int ds, .ref q_1, va_rf bt])), (q_1, .inr (6, [.ref q_3, .ref q_4, .int v_6])), (q_3, .inl (cI, 4096, .inl g_7)), (q_4, .inl (cI, 4096, .inl g_8)), (t0, .inr (5, [.ref d0, .int w, .int h])), (d0, .inl (cI, 4096, .inl g)), (lb, .inr (0, [.int bx0, .int by0, .int bx1, .int by1]))] H := hP
  have hD : va_D A [(h0, .inr (8, [.ref s1, .ref s2, .ref s3, .ref s4, .ref s5, .ref s6, .int ds, .ref q_1, va_rf bt])), (q_1, .inr (6, [.ref q_3, .ref q_4, .int v_6])), (q_3, .inl (cI, 4096, .inl g_7)), (q_4, .inl (cI, 4096, .inl g_8)), (t0, .inr (5, [.ref d0, .int w, .int h])), (d0, .inl (cI, 4096, .inl g)), (lb, .inr (0, [.int bx0, .int by0, .int bx1, .int by1]))] := hD
  refine lv_aload_n hx hb dX8_gathered_32 rfl (lv_at hl 0 rfl) ?_
  refine va_get (D := D) (ci := 8) (v := .ref q_1) (C := RX8) (T := TX8) (N := 9) hx hb hts hi_X8 hown hK hP 0 rfl rfl 7 (by decide) (hts _ bw_242) (fun _ h9 => h9) rfl dX8_gathered_33 ?_
  have hP9 := hP.sub (ws' := [(h0, .inr (8, [.ref s1, .ref s2, .ref s3, .ref s4, .ref s5, .ref s6, .int ds, .ref q_1, va_rf bt])), (q_1, .inr (6, [.ref q_3, .ref q_4, .int v_6])), (q_3, .inl (cI, 4096, .inl g_7)), (q_4, .inl (cI, 4096, .inl g_8)), (t0, .inr (5, [.ref d0, .int w, .int h])), (d0, .inl (cI, 4096, .inl g)), (lb, .inr (0, [.int bx0, .int by0, .int bx1, .int by1]))]) [0, 1, 2, 3, 4, 5, 6] rfl
  have hD9 := hD.sub (ws' := [(h0, .inr (8, [.ref s1, .ref s2, .ref s3, .ref s4, .ref s5, .ref s6, .int ds, .ref q_1, va_rf bt])), (q_1, .inr (6, [.ref q_3, .ref q_4, .int v_6])), (q_3, .inl (cI, 4096, .inl g_7)), (q_4, .inl (cI, 4096, .inl g_8)), (t0, .inr (5, [.ref d0, .int w, .int h])), (d0, .inl (cI, 4096, .inl g)), (lb, .inr (0, [.int bx0, .int by0, .int bx1, .int by1]))]) [0, 1, 2, 3, 4, 5, 6] (by decide) rfl
  have hK9 := hK.sub (tys' := [(cI, .int)]) [0] rfl
  refine hQ _ _ _ _ _ ?_
  exact W.aret hx hb hr (Or.inl ⟨_, rfl⟩) (Or.inr ⟨_, rfl⟩) (fun t ht hW => ⟨⟨(some q_1), q_1, rfl, rfl, ⟨q_3, q_4, v_6, g_7, g_8, b_9, by rw [ht]; exact hP9, va_K.moved hW.alike hK9, hD9⟩⟩, hS.F ht⟩) hS.2.2 dX8_gathered_36
