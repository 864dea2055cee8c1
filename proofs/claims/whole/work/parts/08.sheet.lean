set_option maxHeartbeats 4000000 in
set_option maxRecDepth 100000 in
theorem k_X5_has (l : Launch) (D : va_G) (sz : Nat) (h0 d0 : Nat) (w h : Int32) (x y : Int32) : Met l yX5_has (wB yX5_has cX5_has 3 (some .boolean)) ({ frames := 0, cells := 0, slots := 0, locals := 0 }) (cP D [(h0, .inr (5, [.ref d0, .int w, .int h]))] [] sz [.ref h0, .int x, .int y]) (va_Qi (fun (r : Int32) (_ : Unit) => r = if 0 ≤ x.toInt ∧ x.toInt < w.toInt ∧ 0 ≤ y.toInt ∧ y.toInt < h.toInt then 1 else 0) (fun (_ : Unit) (t : State) => cB D (va_A [(h0, .inr (5, [.ref d0, .int w, .int h]))] sz) [(h0, .inr (5, [.ref d0, .int w, .int h]))] [] t) (va_A [(h0, .inr (5, [.ref d0, .int w, .int h]))] sz)) 0 0 (va_A [(h0, .inr (5, [.ref d0, .int w, .int h]))] sz) := by
  refine Met.ofW (cc := cX5_has) (maxL := 3) (ret := (some .boolean)) (by decide) rfl ?_
  intro p e s m args below meth c s₁ B hml hv
  obtain ⟨rfl, hsz, hP, hK, hD0, hN⟩ := hv
  have hx := B.exec
  have hb := B.bytes
  have hr := B.returns
  have hts0 := atoms_spec (ws := (wB yX5_has cX5_has 3 (some .boolean))) B.pre
  have hts : ∀ w ∈ bigW, w.before _ s = true := fun w h => hts0 w (List.mem_cons_of_mem _ h)
  have hown : s.vm.findClass RX5 = some m.cls := findClass_of_methodNamed B.named
  have hlocks := B.notSynchronized
  subst hsz
  have hD := hD0.self (sz := s.heap.size)
  generalize hAe : va_A [(h0, .inr (5, [.ref d0, .int w, .int h]))] s.heap.size = A at hD ⊢
  have hA : ∀ q : Nat, s.heap.size ≤ q → A q := fun q h => by rw [← hAe]; exact Or.inr h
  have hS : va_S A s.heap s.heap [] := va_S.rf
  have hP : va_P D vwCl [(h0, .inr (5, [.ref d0, .int w, .int h]))] s.heap := hP
  have hl := lv_entry ([.ref h0, .int x, .int y]) (n := 3) (Nat.le_of_ble_eq_true rfl)
  rw [lg_entry_eq]
  generalize (lg_sl ([.ref h0, .int x, .int y]) ++ List.replicate (3 - (lg_sl ([.ref h0, .int x, .int y])).length) Slot.unset).toArray = ls at hl ⊢
  have hl : lv_has ls 3 [(0, .ref h0), (1, .int x), (2, .int y)] := hl
  clear hts0 hD0 hAe
  refine my_abs (fun R Q hR hQ => ?_)
  refine lv_iload_n hx hb dX5_has_0 rfl (lv_at hl 1 rfl) ?_
  refine lv_if_lt (tgt := 28) hx hb dX5_has_1 (by decide) (fun c_1 => ?_) (fun c_1 => ?_)
  · skip
    have f_2 : x.toInt < 0 := f_lt rfl (by decide) c_1
    refine lv_iconst (v := 0) hx hb dX5_has_28 (by decide) ?_
    have hP9 := hP.sub (ws' := [(h0, .inr (5, [.ref d0, .int w, .int h]))]) [0] rfl
    have hD9 := hD.sub (ws' := [(h0, .inr (5, [.ref d0, .int w, .int h]))]) [0] (by decide) rfl
    have hK9 := hK.sub (tys' := []) [] rfl
    refine hQ _ _ _ _ _ ?_
    exact W.zret (v := 0) hx hb hr rfl (fun t ht hW => ⟨⟨0, (), rfl, (if_neg (by omega)).symm, ⟨by rw [ht]; exact hP9, va_K.moved hW.alike hK9, hD9⟩⟩, hS.F ht⟩) hS.2.2 dX5_has_29
  · skip
    have f_2 : ¬ (x.toInt < 0) := fn_lt rfl (by decide) c_1
    refine lv_iload_n hx hb dX5_has_4 rfl (lv_at hl 1 rfl) ?_
    refine lv_aload_n hx hb dX5_has_5 rfl (lv_at hl 0 rfl) ?_
    refine va_get (D := D) (ci := 5) (v := .int w) (C := RX5) (T := TX5) (N := 3) hx hb hts hi_X5 hown hK hP 0 rfl rfl 1 (by decide) (hts _ bw_136) (fun _ h9 => h9) rfl dX5_has_6 ?_
    refine lv_icmp_ge (tgt := 28) hx hb dX5_has_9 (by decide) (fun c_3 => ?_) (fun c_3 => ?_)
    · skip
      have f_4 : w.toInt ≤ x.toInt := f_le rfl rfl c_3
      refine lv_iconst (v := 0) hx hb dX5_has_28 (by decide) ?_
      have hP9 := hP.sub (ws' := [(h0, .inr (5, [.ref d0, .int w, .int h]))]) [0] rfl
      have hD9 := hD.sub (ws' := [(h0, .inr (5, [.ref d0, .int w, .int h]))]) [0] (by decide) rfl
      have hK9 := hK.sub (tys' := []) [] rfl
      refine hQ _ _ _ _ _ ?_
      exact W.zret (v := 0) hx hb hr rfl (fun t ht hW => ⟨⟨0, (), rfl, (if_neg (by omega)).symm, ⟨by rw [ht]; exact hP9, va_K.moved hW.alike hK9, hD9⟩⟩, hS.F ht⟩) hS.2.2 dX5_has_29
    · skip
      have f_4 : ¬ (w.toInt ≤ x.toInt) := fn_le rfl rfl c_3
      refine lv_iload_n hx hb dX5_has_12 rfl (lv_at hl 2 rfl) ?_
      refine lv_if_lt (tgt := 28) hx hb dX5_has_13 (by decide) (fun c_5 => ?_) (fun c_5 => ?_)
      · skip
        have f_6 : y.toInt < 0 := f_lt rfl (by decide) c_5
        refine lv_iconst (v := 0) hx hb dX5_has_28 (by decide) ?_
        have hP9 := hP.sub (ws' := [(h0, .inr (5, [.ref d0, .int w, .int h]))]) [0] rfl
        have hD9 := hD.sub (ws' := [(h0, .inr (5, [.ref d0, .int w, .int h]))]) [0] (by decide) rfl
        have hK9 := hK.sub (tys' := []) [] rfl
        refine hQ _ _ _ _ _ ?_
        exact W.zret (v := 0) hx hb hr rfl (fun t ht hW => ⟨⟨0, (), rfl, (if_neg (by omega)).symm, ⟨by rw [ht]; exact hP9, va_K.moved hW.alike hK9, hD9⟩⟩, hS.F ht⟩) hS.2.2 dX5_has_29
      · skip
        have f_6 : ¬ (y.toInt < 0) := fn_lt rfl (by decide) c_5
        refine lv_iload_n hx hb dX5_has_16 rfl (lv_at hl 2 rfl) ?_
        refine lv_aload_n hx hb dX5_has_17 rfl (lv_at hl 0 rfl) ?_
        refine va_get (D := D) (ci := 5) (v := .int h) (C := RX5) (T := TX5) (N := 3) hx hb hts hi_X5 hown hK hP 0 rfl rfl 2 (by decide) (hts _ bw_137) (fun _ h9 => h9) rfl dX5_has_18 ?_
        refine lv_icmp_ge (tgt := 28) hx hb dX5_has_21 (by decide) (fun c_7 => ?_) (fun c_7 => ?_)
        · skip
          have f_8 : h.toInt ≤ y.toInt := f_le rfl rfl c_7
          refine lv_iconst (v := 0) hx hb dX5_has_28 (by decide) ?_
          have hP9 := hP.sub (ws' := [(h0, .inr (5, [.ref d0, .int w, .int h]))]) [0] rfl
          have hD9 := hD.sub (ws' := [(h0, .inr (5, [.ref d0, .int w, .int h]))]) [0] (by decide) rfl
          have hK9 := hK.sub (tys' := []) [] rfl
          refine hQ _ _ _ _ _ ?_
          exact W.zret (v := 0) hx hb hr rfl (fun t ht hW => ⟨⟨0, (), rfl, (if_neg (by omega)).symm, ⟨by rw [ht]; exact hP9, va_K.moved hW.alike hK9, hD9⟩⟩, hS.F ht⟩) hS.2.2 dX5_has_29
        · skip
          have f_8 : ¬ (h.toInt ≤ y.toInt) := fn_le rfl rfl c_7
          refine lv_iconst (v := 1) hx hb dX5_has_24 (by decide) ?_
          refine lv_goto (tgt := 29) hx hb dX5_has_25 (by decide) ?_
          have hP9 := hP.sub (ws' := [(h0, .inr (5, [.ref d0, .int w, .int h]))]) [0] rfl
          have hD9 := hD.sub (ws' := [(h0, .inr (5, [.ref d0, .int w, .int h]))]) [0] (by decide) rfl
          have hK9 := hK.sub (tys' := []) [] rfl
          refine hQ _ _ _ _ _ ?_
          exact W.zret (v := 1) hx hb hr rfl (fun t ht hW => ⟨⟨1, (), rfl, (if_pos (by omega)).symm, ⟨by rw [ht]; exact hP9, va_K.moved hW.alike hK9, hD9⟩⟩, hS.F ht⟩) hS.2.2 dX5_has_29

set_option maxHeartbeats 4000000 in
set_option maxRecDepth 100000 in
theorem k_X5_at (l : Launch) (D : va_G) (sz : Nat) (h0 d0 : Nat) (w h : Int32) (g : Nat → Int32) (x y : Int32) (cI : ClassId) (hw : w.toInt ≤ 64) (hh : h.toInt ≤ 64) : Met l yX5_at (wB yX5_at cX5_at 3 (some .int)) ({ frames := 1, cells := 0, slots := 0, locals := 22 }) (cP D [(h0, .inr (5, [.ref d0, .int w, .int h])), (d0, .inl (cI, 4096, .inl g))] [(cI, .int)] sz [.ref h0, .int x, .int y]) (va_Qi (fun (r : Int32) (_ : Unit) => r = if 0 ≤ x.toInt ∧ x.toInt < w.toInt ∧ 0 ≤ y.toInt ∧ y.toInt < h.toInt then g (ixP x y) else 0) (fun (_ : Unit) (t : State) => cB D (va_A [(h0, .inr (5, [.ref d0, .int w, .int h])), (d0, .inl (cI, 4096, .inl g))] sz) [(h0, .inr (5, [.ref d0, .int w, .int h])), (d0, .inl (cI, 4096, .inl g))] [(cI, .int)] t) (va_A [(h0, .inr (5, [.ref d0, .int w, .int h])), (d0, .inl (cI, 4096, .inl g))] sz)) 0 0 (va_A [(h0, .inr (5, [.ref d0, .int w, .int h])), (d0, .inl (cI, 4096, .inl g))] sz) := by
  refine Met.ofW (cc := cX5_at) (maxL := 3) (ret := (some .int)) (by decide) rfl ?_
  intro p e s m args below meth c s₁ B hml hv
  obtain ⟨rfl, hsz, hP, hK, hD0, hN⟩ := hv
  have hx := B.exec
  have hb := B.bytes
  have hr := B.returns
  have hts0 := atoms_spec (ws := (wB yX5_at cX5_at 3 (some .int))) B.pre
  have hts : ∀ w ∈ bigW, w.before _ s = true := fun w h => hts0 w (List.mem_cons_of_mem _ h)
  have hown : s.vm.findClass RX5 = some m.cls := findClass_of_methodNamed B.named
  have hlocks := B.notSynchronized
  subst hsz
  have hD := hD0.self (sz := s.heap.size)
  generalize hAe : va_A [(h0, .inr (5, [.ref d0, .int w, .int h])), (d0, .inl (cI, 4096, .inl g))] s.heap.size = A at hD ⊢
  have hA : ∀ q : Nat, s.heap.size ≤ q → A q := fun q h => by rw [← hAe]; exact Or.inr h
  have hS : va_S A s.heap s.heap [] := va_S.rf
  have hP : va_P D vwCl [(h0, .inr (5, [.ref d0, .int w, .int h])), (d0, .inl (cI, 4096, .inl g))] s.heap := hP
  have hl := lv_entry ([.ref h0, .int x, .int y]) (n := 3) (Nat.le_of_ble_eq_true rfl)
  rw [lg_entry_eq]
  generalize (lg_sl ([.ref h0, .int x, .int y]) ++ List.replicate (3 - (lg_sl ([.ref h0, .int x, .int y])).length) Slot.unset).toArray = ls at hl ⊢
  have hl : lv_has ls 3 [(0, .ref h0), (1, .int x), (2, .int y)] := hl
  clear hts0 hD0 hAe
  refine my_abs (fun R Q hR hQ => ?_)
  refine lv_aload_n hx hb dX5_at_0 rfl (lv_at hl 0 rfl) ?_
  refine lv_iload_n hx hb dX5_at_1 rfl (lv_at hl 1 rfl) ?_
  refine lv_iload_n hx hb dX5_at_2 rfl (lv_at hl 2 rfl) ?_
  have hPc := hP.sub (ws' := [(h0, .inr (5, [.ref d0, .int w, .int h]))]) [0] rfl
  have hDc := hD.sub (ws' := [(h0, .inr (5, [.ref d0, .int w, .int h]))]) [0] (by decide) rfl
  have hKc := hK.sub (tys' := []) [] rfl
  have hFc := va_free (wc := [(h0, .inr (5, [.ref d0, .int w, .int h]))]) hD hS hA [0] rfl
  refine va_calli (va_runV (As := [.int x, .int y]) (rest := []) ⟨hx, hb, hml, hown, hts⟩ (k_X5_has l D s.heap.size h0 d0 w h x y) (cwV 2 hts (gV bw_155 bw_150 bw_151 bw_130 bw_149) rfl rfl rfl (by decide +kernel) ⟨(by rw [hR]; exact Nat.le_of_ble_eq_true rfl), (by rw [hR]; exact Nat.le_of_ble_eq_true rfl)⟩) ⟨cP_blind, va_recv hKc hPc (ci := 5) (q0 := 0) rfl rfl, cP_at hPc hKc hDc hN⟩ rfl rfl hl.1 rfl (lv_room (Nat.le_of_ble_eq_true rfl)) dX5_at_3 ⟨(by rw [hR]; exact Nat.le_of_ble_eq_true rfl), (by rw [hR]; exact Nat.le_of_ble_eq_true rfl)⟩) hS (fun q _ h => hFc q h) hFc (fun r_1 u9 t9 H1 locs ht hvm hr_1 hB hz1 hk1 hS => ?_)
  try dsimp only at hr_1
  obtain ⟨hP1, hK1, hD1⟩ := hB
  rw [ht] at hP1
  obtain ⟨hP, hD⟩ := va_join (wr := [(d0, .inl (cI, 4096, .inl g))]) (w1 := [(h0, .inr (5, [.ref d0, .int w, .int h]))]) hP hD [0] [1] rfl rfl (by decide) (by decide) hk1 hFc hP1 hD1
  clear hz1 hk1 hFc hKc hDc hPc
  generalize H1 = H at hP hS ⊢
  have hP : va_P D vwCl [(d0, .inl (cI, 4096, .inl g)), (h0, .inr (5, [.ref d0, .int w, .int h]))] H := hP
  have hD : va_D A [(d0, .inl (cI, 4096, .inl g)), (h0, .inr (5, [.ref d0, .int w, .int h]))] := hD
  refine lv_if_eq (tgt := 23) hx hb dX5_at_6 (by decide) (fun c_2 => ?_) (fun c_2 => ?_)
  · skip
    have f_3 := bz0 hr_1 c_2
    refine lv_iconst (v := 0) hx hb dX5_at_23 (by decide) ?_
    have hP9 := hP.sub (ws' := [(h0, .inr (5, [.ref d0, .int w, .int h])), (d0, .inl (cI, 4096, .inl g))]) [1, 0] rfl
    have hD9 := hD.sub (ws' := [(h0, .inr (5, [.ref d0, .int w, .int h])), (d0, .inl (cI, 4096, .inl g))]) [1, 0] (by decide) rfl
    have hK9 := hK.sub (tys' := [(cI, .int)]) [0] rfl
    refine hQ _ _ _ _ _ ?_
    exact W.iret (v := 0) hx hb hr (fun t ht hW => ⟨⟨0, (), rfl, (if_neg (by omega)).symm, ⟨by rw [ht]; exact hP9, va_K.moved hW.alike hK9, hD9⟩⟩, hS.F ht⟩) hS.2.2 dX5_at_24
  · skip
    have f_3 := bz1 hr_1 c_2
    refine lv_aload_n hx hb dX5_at_9 rfl (lv_at hl 0 rfl) ?_
    refine va_get (D := D) (ci := 5) (v := .ref d0) (C := RX5) (T := TX5) (N := 3) hx hb hts hi_X5 hown hK hP 1 rfl rfl 0 (by decide) (hts _ bw_135) (fun _ h9 => h9) rfl dX5_at_10 ?_
    refine lv_iload_n hx hb dX5_at_13 rfl (lv_at hl 2 rfl) ?_
    refine lv_bipush (v := 64) hx hb dX5_at_14 (by decide) ?_
    refine lv_imul hx hb dX5_at_16 ?_
    refine lv_topi (fun y_4 ey_4 => ?_)
    refine lv_iload_n hx hb dX5_at_17 rfl (lv_at hl 1 rfl) ?_
    refine lv_iadd hx hb dX5_at_18 ?_
    refine lv_topi (fun y_5 ey_5 => ?_)
    refine va_iald hx hb hK hP 0 0 rfl rfl (by subst_vars; exact ix_in (by omega) (by omega) (by omega) (by omega)) dX5_at_19 ?_
    refine my_fold (v := g (ixP x y)) (congrArg g (by subst_vars; exact ix_cl (by omega) (by omega) (by omega) (by omega))) ?_
    refine lv_goto (tgt := 24) hx hb dX5_at_20 (by decide) ?_
    have hP9 := hP.sub (ws' := [(h0, .inr (5, [.ref d0, .int w, .int h])), (d0, .inl (cI, 4096, .inl g))]) [1, 0] rfl
    have hD9 := hD.sub (ws' := [(h0, .inr (5, [.ref d0, .int w, .int h])), (d0, .inl (cI, 4096, .inl g))]) [1, 0] (by decide) rfl
    have hK9 := hK.sub (tys' := [(cI, .int)]) [0] rfl
    refine hQ _ _ _ _ _ ?_
    exact W.iret (v := g (ixP x y)) hx hb hr (fun t ht hW => ⟨⟨g (ixP x y), (), rfl, (if_pos (by omega)).symm, ⟨by rw [ht]; exact hP9, va_K.moved hW.alike hK9, hD9⟩⟩, hS.F ht⟩) hS.2.2 dX5_at_24

set_option maxHeartbeats 4000000 in
set_option maxRecDepth 100000 in
theorem k_X5_put (l : Launch) (D : va_G) (sz : Nat) (h0 d0 : Nat) (w h : Int32) (g : Nat → Int32) (x y v : Int32) (cI : ClassId) (hw : w.toInt ≤ 64) (hh : h.toInt ≤ 64) : Met l yX5_put (wB yX5_put cX5_put 4 none) ({ frames := 1, cells := 0, slots := 0, locals := 22 }) (cP D [(h0, .inr (5, [.ref d0, .int w, .int h])), (d0, .inl (cI, 4096, .inl g))] [(cI, .int)] sz [.ref h0, .int x, .int y, .int v]) (va_Qv (fun (_ : Unit) => True) (fun (_ : Unit) (t : State) => cB D (va_A [(h0, .inr (5, [.ref d0, .int w, .int h])), (d0, .inl (cI, 4096, .inl g))] sz) [(h0, .inr (5, [.ref d0, .int w, .int h])), (d0, .inl (cI, 4096, .inl (if 0 ≤ x.toInt ∧ x.toInt < w.toInt ∧ 0 ≤ y.toInt ∧ y.toInt < h.toInt then upd g (ixP x y) v else g)))] [(cI, .int)] t) (va_A [(h0, .inr (5, [.ref d0, .int w, .int h])), (d0, .inl (cI, 4096, .inl g))] sz)) 0 0 (va_A [(h0, .inr (5, [.ref d0, .int w, .int h])), (d0, .inl (cI, 4096, .inl g))] sz) := by
  refine Met.ofW (cc := cX5_put) (maxL := 4) (ret := none) (by decide) rfl ?_
  intro p e s m args below meth c s₁ B hml hv
  obtain ⟨rfl, hsz, hP, hK, hD0, hN⟩ := hv
  have hx := B.exec
  have hb := B.bytes
  have hr := B.returns
  have hts0 := atoms_spec (ws := (wB yX5_put cX5_put 4 none)) B.pre
  have hts : ∀ w ∈ bigW, w.before _ s = true := fun w h => hts0 w (List.mem_cons_of_mem _ h)
  have hown : s.vm.findClass RX5 = some m.cls := findClass_of_methodNamed B.named
  have hlocks := B.notSynchronized
  subst hsz
  have hD := hD0.self (sz := s.heap.size)
  generalize hAe : va_A [(h0, .inr (5, [.ref d0, .int w, .int h])), (d0, .inl (cI, 4096, .inl g))] s.heap.size = A at hD ⊢
  have hA : ∀ q : Nat, s.heap.size ≤ q → A q := fun q h => by rw [← hAe]; exact Or.inr h
  have hS : va_S A s.heap s.heap [] := va_S.rf
  have hP : va_P D vwCl [(h0, .inr (5, [.ref d0, .int w, .int h])), (d0, .inl (cI, 4096, .inl g))] s.heap := hP
  have hl := lv_entry ([.ref h0, .int x, .int y, .int v]) (n := 4) (Nat.le_of_ble_eq_true rfl)
  rw [lg_entry_eq]
  generalize (lg_sl ([.ref h0, .int x, .int y, .int v]) ++ List.replicate (4 - (lg_sl ([.ref h0, .int x, .int y, .int v])).length) Slot.unset).toArray = ls at hl ⊢
  have hl : lv_has ls 4 [(0, .ref h0), (1, .int x), (2, .int y), (3, .int v)] := hl
  clear hts0 hD0 hAe
  refine my_abs (fun R Q hR hQ => ?_)
  refine lv_aload_n hx hb dX5_put_0 rfl (lv_at hl 0 rfl) ?_
  refine lv_iload_n hx hb dX5_put_1 rfl (lv_at hl 1 rfl) ?_
  refine lv_iload_n hx hb dX5_put_2 rfl (lv_at hl 2 rfl) ?_
  have hPc := hP.sub (ws' := [(h0, .inr (5, [.ref d0, .int w, .int h]))]) [0] rfl
  have hDc := hD.sub (ws' := [(h0, .inr (5, [.ref d0, .int w, .int h]))]) [0] (by decide) rfl
  have hKc := hK.sub (tys' := []) [] rfl
  have hFc := va_free (wc := [(h0, .inr (5, [.ref d0, .int w, .int h]))]) hD hS hA [0] rfl
  refine va_calli (va_runV (As := [.int x, .int y]) (rest := []) ⟨hx, hb, hml, hown, hts⟩ (k_X5_has l D s.heap.size h0 d0 w h x y) (cwV 2 hts (gV bw_155 bw_150 bw_151 bw_130 bw_149) rfl rfl rfl (by decide +kernel) ⟨(by rw [hR]; exact Nat.le_of_ble_eq_true rfl), (by rw [hR]; exact Nat.le_of_ble_eq_true rfl)⟩) ⟨cP_blind, va_recv hKc hPc (ci := 5) (q0 := 0) rfl rfl, cP_at hPc hKc hDc hN⟩ rfl rfl hl.1 rfl (lv_room (Nat.le_of_ble_eq_true rfl)) dX5_put_3 ⟨(by rw [hR]; exact Nat.le_of_ble_eq_true rfl), (by rw [hR]; exact Nat.le_of_ble_eq_true rfl)⟩) hS (fun q _ h => hFc q h) hFc (fun r_1 u9 t9 H1 locs ht hvm hr_1 hB hz1 hk1 hS => ?_)
  try dsimp only at hr_1
  obtain ⟨hP1, hK1, hD1⟩ := hB
  rw [ht] at hP1
  obtain ⟨hP, hD⟩ := va_join (wr := [(d0, .inl (cI, 4096, .inl g))]) (w1 := [(h0, .inr (5, [.ref d0, .int w, .int h]))]) hP hD [0] [1] rfl rfl (by decide) (by decide) hk1 hFc hP1 hD1
  clear hz1 hk1 hFc hKc hDc hPc
  generalize H1 = H at hP hS ⊢
  have hP : va_P D vwCl [(d0, .inl (cI, 4096, .inl g)), (h0, .inr (5, [.ref d0, .int w, .int h]))] H := hP
  have hD : va_D A [(d0, .inl (cI, 4096, .inl g)), (h0, .inr (5, [.ref d0, .int w, .int h]))] := hD
  refine lv_if_eq (tgt := 21) hx hb dX5_put_6 (by decide) (fun c_2 => ?_) (fun c_2 => ?_)
  · skip
    have f_3 := bz0 hr_1 c_2
    have hc : g = if 0 ≤ x.toInt ∧ x.toInt < w.toInt ∧ 0 ≤ y.toInt ∧ y.toInt < h.toInt then upd g (ixP x y) v else g := (if_neg (by omega)).symm
    rw [hc] at hP hD
    have hP9 := hP.sub (ws' := [(h0, .inr (5, [.ref d0, .int w, .int h])), (d0, .inl (cI, 4096, .inl (if 0 ≤ x.toInt ∧ x.toInt < w.toInt ∧ 0 ≤ y.toInt ∧ y.toInt < h.toInt then upd g (ixP x y) v else g)))]) [1, 0] rfl
    have hD9 := hD.sub (ws' := [(h0, .inr (5, [.ref d0, .int w, .int h])), (d0, .inl (cI, 4096, .inl (if 0 ≤ x.toInt ∧ x.toInt < w.toInt ∧ 0 ≤ y.toInt ∧ y.toInt < h.toInt then upd g (ixP x y) v else g)))]) [1, 0] (by decide) rfl
    have hK9 := hK.sub (tys' := [(cI, .int)]) [0] rfl
    refine hQ _ _ _ _ _ ?_
    exact W.vret hx hb hr (fun t ht hW => ⟨⟨(), rfl, trivial, ⟨by rw [ht]; exact hP9, va_K.moved hW.alike hK9, hD9⟩⟩, hS.F ht⟩) hS.2.2 dX5_put_21
  · skip
    have f_3 := bz1 hr_1 c_2
    refine lv_aload_n hx hb dX5_put_9 rfl (lv_at hl 0 rfl) ?_
    refine va_get (D := D) (ci := 5) (v := .ref d0) (C := RX5) (T := TX5) (N := 3) hx hb hts hi_X5 hown hK hP 1 rfl rfl 0 (by decide) (hts _ bw_135) (fun _ h9 => h9) rfl dX5_put_10 ?_
    refine lv_iload_n hx hb dX5_put_13 rfl (lv_at hl 2 rfl) ?_
    refine lv_bipush (v := 64) hx hb dX5_put_14 (by decide) ?_
    refine lv_imul hx hb dX5_put_16 ?_
    refine lv_topi (fun y_4 ey_4 => ?_)
    refine lv_iload_n hx hb dX5_put_17 rfl (lv_at hl 1 rfl) ?_
    refine lv_iadd hx hb dX5_put_18 ?_
    refine lv_topi (fun y_5 ey_5 => ?_)
    refine lv_iload_n hx hb dX5_put_19 rfl (lv_at hl 3 rfl) ?_
    refine va_iast hx hb hK hP hD hS 0 0 rfl rfl (by subst_vars; exact ix_in (by omega) (by omega) (by omega) (by omega)) dX5_put_20 (fun H locs hP hD hS => ?_)
    have hP : va_P D vwCl [(d0, .inl (cI, 4096, .inl (upd g y_5.toNatClampNeg v))), (h0, .inr (5, [.ref d0, .int w, .int h]))] H := hP
    have hD : va_D A [(d0, .inl (cI, 4096, .inl (upd g y_5.toNatClampNeg v))), (h0, .inr (5, [.ref d0, .int w, .int h]))] := hD
    generalize eg_6 : upd g y_5.toNatClampNeg v = g_6 at hP hD
    have hP : va_P D vwCl [(d0, .inl (cI, 4096, .inl g_6)), (h0, .inr (5, [.ref d0, .int w, .int h]))] H := hP
    have hD : va_D A [(d0, .inl (cI, 4096, .inl g_6)), (h0, .inr (5, [.ref d0, .int w, .int h]))] := hD
    have hc : g_6 = if 0 ≤ x.toInt ∧ x.toInt < w.toInt ∧ 0 ≤ y.toInt ∧ y.toInt < h.toInt then upd g (ixP x y) v else g := by rw [if_pos (by omega), ← eg_6]; exact congrArg (fun i => upd g i v) (by subst_vars; exact ix_cl (by omega) (by omega) (by omega) (by omega))
    rw [hc] at hP hD
    have hP9 := hP.sub (ws' := [(h0, .inr (5, [.ref d0, .int w, .int h])), (d0, .inl (cI, 4096, .inl (if 0 ≤ x.toInt ∧ x.toInt < w.toInt ∧ 0 ≤ y.toInt ∧ y.toInt < h.toInt then upd g (ixP x y) v else g)))]) [1, 0] rfl
    have hD9 := hD.sub (ws' := [(h0, .inr (5, [.ref d0, .int w, .int h])), (d0, .inl (cI, 4096, .inl (if 0 ≤ x.toInt ∧ x.toInt < w.toInt ∧ 0 ≤ y.toInt ∧ y.toInt < h.toInt then upd g (ixP x y) v else g)))]) [1, 0] (by decide) rfl
    have hK9 := hK.sub (tys' := [(cI, .int)]) [0] rfl
    refine hQ _ _ _ _ _ ?_
    exact W.vret hx hb hr (fun t ht hW => ⟨⟨(), rfl, trivial, ⟨by rw [ht]; exact hP9, va_K.moved hW.alike hK9, hD9⟩⟩, hS.F ht⟩) hS.2.2 dX5_put_21

set_option maxHeartbeats 4000000 in
set_option maxRecDepth 100000 in
theorem k_J7_fill_53178_4096 (l : Launch) (D : va_G) (sz : Nat) (h0 : Nat) (g : Nat → Int32) (v : Int32) (cI : ClassId) : Met l yJ7_fill_53178 (wB yJ7_fill_53178 cJ7_fill_53178 4 none) ({ frames := 0, cells := 0, slots := 0, locals := 0 }) (cP D [(h0, .inl (cI, 4096, .inl g))] [(cI, .int)] sz [.ref h0, .int v]) (va_Qv (fun (_ : Unit) => True) (fun (_ : Unit) (t : State) => ∃ (g2 : Nat → Int32), (∀ j : Nat, j < 4096 → g2 j = v) ∧ cB D (va_A [(h0, .inl (cI, 4096, .inl g))] sz) [(h0, .inl (cI, 4096, .inl g2))] [(cI, .int)] t) (va_A [(h0, .inl (cI, 4096, .inl g))] sz)) 0 0 (va_A [(h0, .inl (cI, 4096, .inl g))] sz) := by
  refine Met.ofW (cc := cJ7_fill_53178) (maxL := 4) (ret := none) (by decide) rfl ?_
  intro p e s m args below meth c s₁ B hml hv
  obtain ⟨rfl, hsz, hP, hK, hD0, hN⟩ := hv
  have hx := B.exec
  have hb := B.bytes
  have hr := B.returns
  have hts0 := atoms_spec (ws := (wB yJ7_fill_53178 cJ7_fill_53178 4 none)) B.pre
  have hts : ∀ w ∈ bigW, w.before _ s = true := fun w h => hts0 w (List.mem_cons_of_mem _ h)
  have hown : s.vm.findClass RJ7 = some m.cls := findClass_of_methodNamed B.named
  have hlocks := B.notSynchronized
  subst hsz
  have hD := hD0.self (sz := s.heap.size)
  generalize hAe : va_A [(h0, .inl (cI, 4096, .inl g))] s.heap.size = A at hD ⊢
  have hA : ∀ q : Nat, s.heap.size ≤ q → A q := fun q h => by rw [← hAe]; exact Or.inr h
  have hS : va_S A s.heap s.heap [] := va_S.rf
  have hP : va_P D vwCl [(h0, .inl (cI, 4096, .inl g))] s.heap := hP
  have hl := lv_entry ([.ref h0, .int v]) (n := 4) (Nat.le_of_ble_eq_true rfl)
  rw [lg_entry_eq]
  generalize (lg_sl ([.ref h0, .int v]) ++ List.replicate (4 - (lg_sl ([.ref h0, .int v])).length) Slot.unset).toArray = ls at hl ⊢
  have hl : lv_has ls 4 [(0, .ref h0), (1, .int v)] := hl
  clear hts0 hD0 hAe
  refine my_abs (fun R Q hR hQ => ?_)
  refine lv_iconst (v := 0) hx hb dJ7_fill_53178_0 (by decide) ?_
  refine lv_istore_n (lv' := [(2, .int 0), (0, .ref h0), (1, .int v)]) hx hb dJ7_fill_53178_1 rfl hl (by decide) rfl (fun ls hl => ?_)
  refine lv_aload_n hx hb dJ7_fill_53178_2 rfl (lv_at hl 1 rfl) ?_
  refine va_alen (v := 4096) hx hb hK hP 0 0 rfl rfl rfl dJ7_fill_53178_3 ?_
  refine lv_istore_n (lv' := [(3, .int 4096), (2, .int 0), (0, .ref h0), (1, .int v)]) hx hb dJ7_fill_53178_4 rfl hl (by decide) rfl (fun ls hl => ?_)
  have loop_1 : ∀ (n : Nat) (i : Nat) (x2 : Int32) (gg : Nat → Int32) (H : Heap) (locs : List Loc) (ls : Array Slot), (i ≤ 4096) → (4097 ≤ i + n) → (x2 = nI i) → (∀ j : Nat, j < i → gg j = v) → va_P D vwCl [(h0, .inl (cI, 4096, .inl gg))] H → va_D A [(h0, .inl (cI, 4096, .inl gg))] → va_S A s.heap H locs → lv_has ls 4 [(3, .int 4096), (2, .int x2), (0, .ref h0), (1, .int v)] → W p l e R s m ([.ref h0, .int v] : List Value).toArray below meth c H locs 0 0 Q (F0 m 5 ls []) := by
    intro n
    induction n with
    | zero =>
      intro i x2 gg H locs ls hi hm ex hg hP hD hS hl
      exact absurd (show False by omega) not_false
    | succ n ih_2 =>
      intro i x2 gg H locs ls hi hm ex hg hP hD hS hl
      have hxi : x2.toInt = (i : Int) := by rw [ex]; exact nI_toInt (by omega)
      refine lv_iload_n hx hb dJ7_fill_53178_5 rfl (lv_at hl 1 rfl) ?_
      refine lv_iload_n hx hb dJ7_fill_53178_6 rfl (lv_at hl 0 rfl) ?_
      refine lv_icmp_ge (tgt := 20) hx hb dJ7_fill_53178_7 (by decide) (fun c_3 => ?_) (fun c_3 => ?_)
      · skip
        have f_4 : 4096 ≤ (i : Int) := f_le (by decide) hxi c_3
        have hP9 := hP.sub (ws' := [(h0, .inl (cI, 4096, .inl gg))]) [0] rfl
        have hD9 := hD.sub (ws' := [(h0, .inl (cI, 4096, .inl gg))]) [0] (by decide) rfl
        have hK9 := hK.sub (tys' := [(cI, .int)]) [0] rfl
        refine hQ _ _ _ _ _ ?_
        exact W.vret hx hb hr (fun t ht hW => ⟨⟨(), rfl, trivial, ⟨gg, (fun j hj => hg j (by omega)), by rw [ht]; exact hP9, va_K.moved hW.alike hK9, hD9⟩⟩, hS.F ht⟩) hS.2.2 dJ7_fill_53178_20
      · skip
        have f_4 : ¬ (4096 ≤ (i : Int)) := fn_le (by decide) hxi c_3
        refine lv_aload_n hx hb dJ7_fill_53178_10 rfl (lv_at hl 2 rfl) ?_
        refine lv_iload_n hx hb dJ7_fill_53178_11 rfl (lv_at hl 1 rfl) ?_
        refine lv_iload_n hx hb dJ7_fill_53178_12 rfl (lv_at hl 3 rfl) ?_
        refine va_iast hx hb hK hP hD hS 0 0 rfl rfl (vp_in_iff.mpr ⟨by omega, by omega⟩) dJ7_fill_53178_13 (fun H locs hP hD hS => ?_)
        have hP : va_P D vwCl [(h0, .inl (cI, 4096, .inl (upd gg x2.toNatClampNeg v)))] H := hP
        have hD : va_D A [(h0, .inl (cI, 4096, .inl (upd gg x2.toNatClampNeg v)))] := hD
        generalize eg_5 : upd gg x2.toNatClampNeg v = g_5 at hP hD
        have hP : va_P D vwCl [(h0, .inl (cI, 4096, .inl g_5))] H := hP
        have hD : va_D A [(h0, .inl (cI, 4096, .inl g_5))] := hD
        obtain ⟨y_6, ey_6⟩ : ∃ y : Int32, y = x2 + 1 := ⟨_, rfl⟩
        refine lv_iinc (v := y_6) (lv' := [(2, .int y_6), (3, .int 4096), (0, .ref h0), (1, .int v)]) hx hb dJ7_fill_53178_14 hl (k := 1) rfl (by rw [ey_6]; rfl) (by decide) rfl (fun ls hl => ?_)
        refine lv_goto (tgt := 5) hx hb dJ7_fill_53178_17 (by decide) ?_
        exact ih_2 (i + 1) y_6 g_5 _ _ _ (by omega) (by omega) (by rw [ey_6, ex]; exact nI_1 i) (eg_5 ▸ fill_up hg (by rw [ex]; exact nI_clamp (by omega))) (hP.sub (ws' := [(h0, .inl (cI, 4096, .inl g_5))]) [0] rfl) (hD.sub (ws' := [(h0, .inl (cI, 4096, .inl g_5))]) [0] (by decide) rfl) hS (lv_sub hl [1, 0, 2, 3] rfl)
  exact loop_1 4097 0 0 g _ _ _ (by omega) (by omega) nI_0.symm (fun j hj => absurd hj (by omega)) hP hD hS (lv_sub hl [0, 1, 2, 3] rfl)

set_option maxHeartbeats 4000000 in
set_option maxRecDepth 100000 in
theorem k_J7_fill_53178_256 (l : Launch) (D : va_G) (sz : Nat) (h0 : Nat) (g : Nat → Int32) (v : Int32) (cI : ClassId) : Met l yJ7_fill_53178 (wB yJ7_fill_53178 cJ7_fill_53178 4 none) ({ frames := 0, cells := 0, slots := 0, locals := 0 }) (cP D [(h0, .inl (cI, 256, .inl g))] [(cI, .int)] sz [.ref h0, .int v]) (va_Qv (fun (_ : Unit) => True) (fun (_ : Unit) (t : State) => ∃ (g2 : Nat → Int32), (∀ j : Nat, j < 256 → g2 j = v) ∧ cB D (va_A [(h0, .inl (cI, 256, .inl g))] sz) [(h0, .inl (cI, 256, .inl g2))] [(cI, .int)] t) (va_A [(h0, .inl (cI, 256, .inl g))] sz)) 0 0 (va_A [(h0, .inl (cI, 256, .inl g))] sz) := by
  refine Met.ofW (cc := cJ7_fill_53178) (maxL := 4) (ret := none) (by decide) rfl ?_
  intro p e s m args below meth c s₁ B hml hv
  obtain ⟨rfl, hsz, hP, hK, hD0, hN⟩ := hv
  have hx := B.exec
  have hb := B.bytes
  have hr := B.returns
  have hts0 := atoms_spec (ws := (wB yJ7_fill_53178 cJ7_fill_53178 4 none)) B.pre
  have hts : ∀ w ∈ bigW, w.before _ s = true := fun w h => hts0 w (List.mem_cons_of_mem _ h)
  have hown : s.vm.findClass RJ7 = some m.cls := findClass_of_methodNamed B.named
  have hlocks := B.notSynchronized
  subst hsz
  have hD := hD0.self (sz := s.heap.size)
  generalize hAe : va_A [(h0, .inl (cI, 256, .inl g))] s.heap.size = A at hD ⊢
  have hA : ∀ q : Nat, s.heap.size ≤ q → A q := fun q h => by rw [← hAe]; exact Or.inr h
  have hS : va_S A s.heap s.heap [] := va_S.rf
  have hP : va_P D vwCl [(h0, .inl (cI, 256, .inl g))] s.heap := hP
  have hl := lv_entry ([.ref h0, .int v]) (n := 4) (Nat.le_of_ble_eq_true rfl)
  rw [lg_entry_eq]
  generalize (lg_sl ([.ref h0, .int v]) ++ List.replicate (4 - (lg_sl ([.ref h0, .int v])).length) Slot.unset).toArray = ls at hl ⊢
  have hl : lv_has ls 4 [(0, .ref h0), (1, .int v)] := hl
  clear hts0 hD0 hAe
  refine my_abs (fun R Q hR hQ => ?_)
  refine lv_iconst (v := 0) hx hb dJ7_fill_53178_0 (by decide) ?_
  refine lv_istore_n (lv' := [(2, .int 0), (0, .ref h0), (1, .int v)]) hx hb dJ7_fill_53178_1 rfl hl (by decide) rfl (fun ls hl => ?_)
  refine lv_aload_n hx hb dJ7_fill_53178_2 rfl (lv_at hl 1 rfl) ?_
  refine va_alen (v := 256) hx hb hK hP 0 0 rfl rfl rfl dJ7_fill_53178_3 ?_
  refine lv_istore_n (lv' := [(3, .int 256), (2, .int 0), (0, .ref h0), (1, .int v)]) hx hb dJ7_fill_53178_4 rfl hl (by decide) rfl (fun ls hl => ?_)
  have loop_1 : ∀ (n : Nat) (i : Nat) (x2 : Int32) (gg : Nat → Int32) (H : Heap) (locs : List Loc) (ls : Array Slot), (i ≤ 256) → (257 ≤ i + n) → (x2 = nI i) → (∀ j : Nat, j < i → gg j = v) → va_P D vwCl [(h0, .inl (cI, 256, .inl gg))] H → va_D A [(h0, .inl (cI, 256, .inl gg))] → va_S A s.heap H locs → lv_has ls 4 [(3, .int 256), (2, .int x2), (0, .ref h0), (1, .int v)] → W p l e R s m ([.ref h0, .int v] : List Value).toArray below meth c H locs 0 0 Q (F0 m 5 ls []) := by
    intro n
    induction n with
    | zero =>
      intro i x2 gg H locs ls hi hm ex hg hP hD hS hl
      exact absurd (show False by omega) not_false
    | succ n ih_2 =>
      intro i x2 gg H locs ls hi hm ex hg hP hD hS hl
      have hxi : x2.toInt = (i : Int) := by rw [ex]; exact nI_toInt (by omega)
      refine lv_iload_n hx hb dJ7_fill_53178_5 rfl (lv_at hl 1 rfl) ?_
      refine lv_iload_n hx hb dJ7_fill_53178_6 rfl (lv_at hl 0 rfl) ?_
      refine lv_icmp_ge (tgt := 20) hx hb dJ7_fill_53178_7 (by decide) (fun c_3 => ?_) (fun c_3 => ?_)
      · skip
        have f_4 : 256 ≤ (i : Int) := f_le (by decide) hxi c_3
        have hP9 := hP.sub (ws' := [(h0, .inl (cI, 256, .inl gg))]) [0] rfl
        have hD9 := hD.sub (ws' := [(h0, .inl (cI, 256, .inl gg))]) [0] (by decide) rfl
        have hK9 := hK.sub (tys' := [(cI, .int)]) [0] rfl
        refine hQ _ _ _ _ _ ?_
        exact W.vret hx hb hr (fun t ht hW => ⟨⟨(), rfl, trivial, ⟨gg, (fun j hj => hg j (by omega)), by rw [ht]; exact hP9, va_K.moved hW.alike hK9, hD9⟩⟩, hS.F ht⟩) hS.2.2 dJ7_fill_53178_20
      · skip
        have f_4 : ¬ (256 ≤ (i : Int)) := fn_le (by decide) hxi c_3
        refine lv_aload_n hx hb dJ7_fill_53178_10 rfl (lv_at hl 2 rfl) ?_
        refine lv_iload_n hx hb dJ7_fill_53178_11 rfl (lv_at hl 1 rfl) ?_
        refine lv_iload_n hx hb dJ7_fill_53178_12 rfl (lv_at hl 3 rfl) ?_
        refine va_iast hx hb hK hP hD hS 0 0 rfl rfl (vp_in_iff.mpr ⟨by omega, by omega⟩) dJ7_fill_53178_13 (fun H locs hP hD hS => ?_)
        have hP : va_P D vwCl [(h0, .inl (cI, 256, .inl (upd gg x2.toNatClampNeg v)))] H := hP
        have hD : va_D A [(h0, .inl (cI, 256, .inl (upd gg x2.toNatClampNeg v)))] := hD
        generalize eg_5 : upd gg x2.toNatClampNeg v = g_5 at hP hD
        have hP : va_P D vwCl [(h0, .inl (cI, 256, .inl g_5))] H := hP
        have hD : va_D A [(h0, .inl (cI, 256, .inl g_5))] := hD
        obtain ⟨y_6, ey_6⟩ : ∃ y : Int32, y = x2 + 1 := ⟨_, rfl⟩
        refine lv_iinc (v := y_6) (lv' := [(2, .int y_6), (3, .int 256), (0, .ref h0), (1, .int v)]) hx hb dJ7_fill_53178_14 hl (k := 1) rfl (by rw [ey_6]; rfl) (by decide) rfl (fun ls hl => ?_)
        refine lv_goto (tgt := 5) hx hb dJ7_fill_53178_17 (by decide) ?_
        exact ih_2 (i + 1) y_6 g_5 _ _ _ (by omega) (by omega) (by rw [ey_6, ex]; exact nI_1 i) (eg_5 ▸ fill_up hg (by rw [ex]; exact nI_clamp (by omega))) (hP.sub (ws' := [(h0, .inl (cI, 256, .inl g_5))]) [0] rfl) (hD.sub (ws' := [(h0, .inl (cI, 256, .inl g_5))]) [0] (by decide) rfl) hS (lv_sub hl [1, 0, 2, 3] rfl)
  exact loop_1 257 0 0 g _ _ _ (by omega) (by omega) nI_0.symm (fun j hj => absurd hj (by omega)) hP hD hS (lv_sub hl [0, 1, 2, 3] rfl)

set_option maxHeartbeats 4000000 in
set_option maxRecDepth 100000 in
theorem k_J7_fill_53178_64 (l : Launch) (D : va_G) (sz : Nat) (h0 : Nat) (g : Nat → Int32) (v : Int32) (cI : ClassId) : Met l yJ7_fill_53178 (wB yJ7_fill_53178 cJ7_fill_53178 4 none) ({ frames := 0, cells := 0, slots := 0, locals := 0 }) (cP D [(h0, .inl (cI, 64, .inl g))] [(cI, .int)] sz [.ref h0, .int v]) (va_Qv (fun (_ : Unit) => True) (fun (_ : Unit) (t : State) => ∃ (g2 : Nat → Int32), (∀ j : Nat, j < 64 → g2 j = v) ∧ cB D (va_A [(h0, .inl (cI, 64, .inl g))] sz) [(h0, .inl (cI, 64, .inl g2))] [(cI, .int)] t) (va_A [(h0, .inl (cI, 64, .inl g))] sz)) 0 0 (va_A [(h0, .inl (cI, 64, .inl g))] sz) := by
  refine Met.ofW (cc := cJ7_fill_53178) (maxL := 4) (ret := none) (by decide) rfl ?_
  intro p e s m args below meth c s₁ B hml hv
  obtain ⟨rfl, hsz, hP, hK, hD0, hN⟩ := hv
  have hx := B.exec
  have hb := B.bytes
  have hr := B.returns
  have hts0 := atoms_spec (ws := (wB yJ7_fill_53178 cJ7_fill_53178 4 none)) B.pre
  have hts : ∀ w ∈ bigW, w.before _ s = true := fun w h => hts0 w (List.mem_cons_of_mem _ h)
  have hown : s.vm.findClass RJ7 = some m.cls := findClass_of_methodNamed B.named
  have hlocks := B.notSynchronized
  subst hsz
  have hD := hD0.self (sz := s.heap.size)
  generalize hAe : va_A [(h0, .inl (cI, 64, .inl g))] s.heap.size = A at hD ⊢
  have hA : ∀ q : Nat, s.heap.size ≤ q → A q := fun q h => by rw [← hAe]; exact Or.inr h
  have hS : va_S A s.heap s.heap [] := va_S.rf
  have hP : va_P D vwCl [(h0, .inl (cI, 64, .inl g))] s.heap := hP
  have hl := lv_entry ([.ref h0, .int v]) (n := 4) (Nat.le_of_ble_eq_true rfl)
  rw [lg_entry_eq]
  generalize (lg_sl ([.ref h0, .int v]) ++ List.replicate (4 - (lg_sl ([.ref h0, .int v])).length) Slot.unset).toArray = ls at hl ⊢
  have hl : lv_has ls 4 [(0, .ref h0), (1, .int v)] := hl
  clear hts0 hD0 hAe
  refine my_abs (fun R Q hR hQ => ?_)
  refine lv_iconst (v := 0) hx hb dJ7_fill_53178_0 (by decide) ?_
  refine lv_istore_n (lv' := [(2, .int 0), (0, .ref h0), (1, .int v)]) hx hb dJ7_fill_53178_1 rfl hl (by decide) rfl (fun ls hl => ?_)
  refine lv_aload_n hx hb dJ7_fill_53178_2 rfl (lv_at hl 1 rfl) ?_
  refine va_alen (v := 64) hx hb hK hP 0 0 rfl rfl rfl dJ7_fill_53178_3 ?_
  refine lv_istore_n (lv' := [(3, .int 64), (2, .int 0), (0, .ref h0), (1, .int v)]) hx hb dJ7_fill_53178_4 rfl hl (by decide) rfl (fun ls hl => ?_)
  have loop_1 : ∀ (n : Nat) (i : Nat) (x2 : Int32) (gg : Nat → Int32) (H : Heap) (locs : List Loc) (ls : Array Slot), (i ≤ 64) → (65 ≤ i + n) → (x2 = nI i) → (∀ j : Nat, j < i → gg j = v) → va_P D vwCl [(h0, .inl (cI, 64, .inl gg))] H → va_D A [(h0, .inl (cI, 64, .inl gg))] → va_S A s.heap H locs → lv_has ls 4 [(3, .int 64), (2, .int x2), (0, .ref h0), (1, .int v)] → W p l e R s m ([.ref h0, .int v] : List Value).toArray below meth c H locs 0 0 Q (F0 m 5 ls []) := by
    intro n
    induction n with
    | zero =>
      intro i x2 gg H locs ls hi hm ex hg hP hD hS hl
      exact absurd (show False by omega) not_false
    | succ n ih_2 =>
      intro i x2 gg H locs ls hi hm ex hg hP hD hS hl
      have hxi : x2.toInt = (i : Int) := by rw [ex]; exact nI_toInt (by omega)
      refine lv_iload_n hx hb dJ7_fill_53178_5 rfl (lv_at hl 1 rfl) ?_
      refine lv_iload_n hx hb dJ7_fill_53178_6 rfl (lv_at hl 0 rfl) ?_
      refine lv_icmp_ge (tgt := 20) hx hb dJ7_fill_53178_7 (by decide) (fun c_3 => ?_) (fun c_3 => ?_)
      · skip
        have f_4 : 64 ≤ (i : Int) := f_le (by decide) hxi c_3
        have hP9 := hP.sub (ws' := [(h0, .inl (cI, 64, .inl gg))]) [0] rfl
        have hD9 := hD.sub (ws' := [(h0, .inl (cI, 64, .inl gg))]) [0] (by decide) rfl
        have hK9 := hK.sub (tys' := [(cI, .int)]) [0] rfl
        refine hQ _ _ _ _ _ ?_
        exact W.vret hx hb hr (fun t ht hW => ⟨⟨(), rfl, trivial, ⟨gg, (fun j hj => hg j (by omega)), by rw [ht]; exact hP9, va_K.moved hW.alike hK9, hD9⟩⟩, hS.F ht⟩) hS.2.2 dJ7_fill_53178_20
      · skip
        have f_4 : ¬ (64 ≤ (i : Int)) := fn_le (by decide) hxi c_3
        refine lv_aload_n hx hb dJ7_fill_53178_10 rfl (lv_at hl 2 rfl) ?_
        refine lv_iload_n hx hb dJ7_fill_53178_11 rfl (lv_at hl 1 rfl) ?_
        refine lv_iload_n hx hb dJ7_fill_53178_12 rfl (lv_at hl 3 rfl) ?_
        refine va_iast hx hb hK hP hD hS 0 0 rfl rfl (vp_in_iff.mpr ⟨by omega, by omega⟩) dJ7_fill_53178_13 (fun H locs hP hD hS => ?_)
        have hP : va_P D vwCl [(h0, .inl (cI, 64, .inl (upd gg x2.toNatClampNeg v)))] H := hP
        have hD : va_D A [(h0, .inl (cI, 64, .inl (upd gg x2.toNatClampNeg v)))] := hD
        generalize eg_5 : upd gg x2.toNatClampNeg v = g_5 at hP hD
        have hP : va_P D vwCl [(h0, .inl (cI, 64, .inl g_5))] H := hP
        have hD : va_D A [(h0, .inl (cI, 64, .inl g_5))] := hD
        obtain ⟨y_6, ey_6⟩ : ∃ y : Int32, y = x2 + 1 := ⟨_, rfl⟩
        refine lv_iinc (v := y_6) (lv' := [(2, .int y_6), (3, .int 64), (0, .ref h0), (1, .int v)]) hx hb dJ7_fill_53178_14 hl (k := 1) rfl (by rw [ey_6]; rfl) (by decide) rfl (fun ls hl => ?_)
        refine lv_goto (tgt := 5) hx hb dJ7_fill_53178_17 (by decide) ?_
        exact ih_2 (i + 1) y_6 g_5 _ _ _ (by omega) (by omega) (by rw [ey_6, ex]; exact nI_1 i) (eg_5 ▸ fill_up hg (by rw [ex]; exact nI_clamp (by omega))) (hP.sub (ws' := [(h0, .inl (cI, 64, .inl g_5))]) [0] rfl) (hD.sub (ws' := [(h0, .inl (cI, 64, .inl g_5))]) [0] (by decide) rfl) hS (lv_sub hl [1, 0, 2, 3] rfl)
  exact loop_1 65 0 0 g _ _ _ (by omega) (by omega) nI_0.symm (fun j hj => absurd hj (by omega)) hP hD hS (lv_sub hl [0, 1, 2, 3] rfl)

set_option maxHeartbeats 4000000 in
set_option maxRecDepth 100000 in
theorem k_X5_begin (l : Launch) (D : va_G) (sz : Nat) (h0 d0 : Nat) (w h : Int32) (g : Nat → Int32) (x y : Int32) (cI : ClassId) : Met l yX5_begin (wB yX5_begin cX5_begin 3 none) ({ frames := 1, cells := 0, slots := 0, locals := 23 }) (cP D [(h0, .inr (5, [.ref d0, .int w, .int h])), (d0, .inl (cI, 4096, .inl g))] [(cI, .int)] sz [.ref h0, .int x, .int y]) (va_Qv (fun (_ : Unit) => True) (fun (_ : Unit) (t : State) => ∃ (g2 : Nat → Int32), (∀ j : Nat, j < 4096 → g2 j = 0) ∧ cB D (va_A [(h0, .inr (5, [.ref d0, .int w, .int h])), (d0, .inl (cI, 4096, .inl g))] sz) [(h0, .inr (5, [.ref d0, .int x, .int y])), (d0, .inl (cI, 4096, .inl g2))] [(cI, .int)] t) (va_A [(h0, .inr (5, [.ref d0, .int w, .int h])), (d0, .inl (cI, 4096, .inl g))] sz)) 0 0 (va_A [(h0, .inr (5, [.ref d0, .int w, .int h])), (d0, .inl (cI, 4096, .inl g))] sz) := by
  refine Met.ofW (cc := cX5_begin) (maxL := 3) (ret := none) (by decide) rfl ?_
  intro p e s m args below meth c s₁ B hml hv
  obtain ⟨rfl, hsz, hP, hK, hD0, hN⟩ := hv
  have hx := B.exec
  have hb := B.bytes
  have hr := B.returns
  have hts0 := atoms_spec (ws := (wB yX5_begin cX5_begin 3 none)) B.pre
  have hts : ∀ w ∈ bigW, w.before _ s = true := fun w h => hts0 w (List.mem_cons_of_mem _ h)
  have hown : s.vm.findClass RX5 = some m.cls := findClass_of_methodNamed B.named
  have hlocks := B.notSynchronized
  subst hsz
  have hD := hD0.self (sz := s.heap.size)
  generalize hAe : va_A [(h0, .inr (5, [.ref d0, .int w, .int h])), (d0, .inl (cI, 4096, .inl g))] s.heap.size = A at hD ⊢
  have hA : ∀ q : Nat, s.heap.size ≤ q → A q := fun q h => by rw [← hAe]; exact Or.inr h
  have hS : va_S A s.heap s.heap [] := va_S.rf
  have hP : va_P D vwCl [(h0, .inr (5, [.ref d0, .int w, .int h])), (d0, .inl (cI, 4096, .inl g))] s.heap := hP
  have hl := lv_entry ([.ref h0, .int x, .int y]) (n := 3) (Nat.le_of_ble_eq_true rfl)
  rw [lg_entry_eq]
  generalize (lg_sl ([.ref h0, .int x, .int y]) ++ List.replicate (3 - (lg_sl ([.ref h0, .int x, .int y])).length) Slot.unset).toArray = ls at hl ⊢
  have hl : lv_has ls 3 [(0, .ref h0), (1, .int x), (2, .int y)] := hl
  clear hts0 hD0 hAe
  refine my_abs (fun R Q hR hQ => ?_)
  refine lv_aload_n hx hb dX5_begin_0 rfl (lv_at hl 0 rfl) ?_
  refine lv_iload_n hx hb dX5_begin_1 rfl (lv_at hl 1 rfl) ?_
  refine va_put (D := D) (ci := 5) (v := .int x) (ty := .int) (C := RX5) (T := TX5) (N := 3) hx hb hts hi_X5 tyX5 tyX5_ok nmX5 hown hK hP hD hS 0 rfl rfl 1 (by decide) (hts _ bw_136) (fun _ h9 => h9) rfl (by decide +kernel) rfl rfl (Nat.le_of_ble_eq_true rfl) dX5_begin_2 (fun H locs hP hD hS => ?_)
  have hP : va_P D vwCl [(h0, .inr (5, [.ref d0, .int x, .int h])), (d0, .inl (cI, 4096, .inl g))] H := hP
  have hD : va_D A [(h0, .inr (5, [.ref d0, .int x, .int h])), (d0, .inl (cI, 4096, .inl g))] := hD
  refine lv_aload_n hx hb dX5_begin_5 rfl (lv_at hl 0 rfl) ?_
  refine lv_iload_n hx hb dX5_begin_6 rfl (lv_at hl 2 rfl) ?_
  refine va_put (D := D) (ci := 5) (v := .int y) (ty := .int) (C := RX5) (T := TX5) (N := 3) hx hb hts hi_X5 tyX5 tyX5_ok nmX5 hown hK hP hD hS 0 rfl rfl 2 (by decide) (hts _ bw_137) (fun _ h9 => h9) rfl (by decide +kernel) rfl rfl (Nat.le_of_ble_eq_true rfl) dX5_begin_7 (fun H locs hP hD hS => ?_)
  have hP : va_P D vwCl [(h0, .inr (5, [.ref d0, .int x, .int y])), (d0, .inl (cI, 4096, .inl g))] H := hP
  have hD : va_D A [(h0, .inr (5, [.ref d0, .int x, .int y])), (d0, .inl (cI, 4096, .inl g))] := hD
  refine lv_aload_n hx hb dX5_begin_10 rfl (lv_at hl 0 rfl) ?_
  refine va_get (D := D) (ci := 5) (v := .ref d0) (C := RX5) (T := TX5) (N := 3) hx hb hts hi_X5 hown hK hP 0 rfl rfl 0 (by decide) (hts _ bw_135) (fun _ h9 => h9) rfl dX5_begin_11 ?_
  refine lv_iconst (v := 0) hx hb dX5_begin_14 (by decide) ?_
  have hPc := hP.sub (ws' := [(d0, .inl (cI, 4096, .inl g))]) [1] rfl
  have hDc := hD.sub (ws' := [(d0, .inl (cI, 4096, .inl g))]) [1] (by decide) rfl
  have hKc := hK.sub (tys' := [(cI, .int)]) [0] rfl
  have hFc := va_free (wc := [(d0, .inl (cI, 4096, .inl g))]) hD hS hA [1] rfl
  refine va_callv (va_runS (As := [.ref d0, .int 0]) (rest := []) ⟨hx, hb, hml, hown, hts⟩ (k_J7_fill_53178_4096 l D H.size d0 g 0 cI) (va_cwS 2 hts (gS bw_141 bw_95 bw_96 bw_97) rfl rfl rfl (by decide +kernel) ⟨(by rw [hR]; exact Nat.le_of_ble_eq_true rfl), (by rw [hR]; exact Nat.le_of_ble_eq_true rfl)⟩) ⟨cP_blind, cP_at hPc hKc hDc hN⟩ rfl rfl hl.1 rfl (lv_room (Nat.le_of_ble_eq_true rfl)) dX5_begin_15 ⟨(by rw [hR]; exact Nat.le_of_ble_eq_true rfl), (by rw [hR]; exact Nat.le_of_ble_eq_true rfl)⟩) hS (fun q _ h => hFc q h) hFc (fun u9 t9 H1 locs ht hvm hr_1 hB hz1 hk1 hS => ?_)
  try dsimp only at hr_1
  obtain ⟨g_2, b_3, hP1, hK1, hD1⟩ := hB
  rw [ht] at hP1
  obtain ⟨hP, hD⟩ := va_join (wr := [(h0, .inr (5, [.ref d0, .int x, .int y]))]) (w1 := [(d0, .inl (cI, 4096, .inl g_2))]) hP hD [1] [0] rfl rfl (by decide) (by decide) hk1 hFc hP1 hD1
  clear hz1 hk1 hFc hKc hDc hPc
  generalize H1 = H at hP hS ⊢
  have hP : va_P D vwCl [(h0, .inr (5, [.ref d0, .int x, .int y])), (d0, .inl (cI, 4096, .inl g_2))] H := hP
  have hD : va_D A [(h0, .inr (5, [.ref d0, .int x, .int y])), (d0, .inl (cI, 4096, .inl g_2))] := hD
  have hP9 := hP.sub (ws' := [(h0, .inr (5, [.ref d0, .int x, .int y])), (d0, .inl (cI, 4096, .inl g_2))]) [0, 1] rfl
  have hD9 := hD.sub (ws' := [(h0, .inr (5, [.ref d0, .int x, .int y])), (d0, .inl (cI, 4096, .inl g_2))]) [0, 1] (by decide) rfl
  have hK9 := hK.sub (tys' := [(cI, .int)]) [0] rfl
  refine hQ _ _ _ _ _ ?_
  exact W.vret hx hb hr (fun t ht hW => ⟨⟨(), rfl, trivial, ⟨g_2, b_3, by rw [ht]; exact hP9, va_K.moved hW.alike hK9, hD9⟩⟩, hS.F ht⟩) hS.2.2 dX5_begin_18
