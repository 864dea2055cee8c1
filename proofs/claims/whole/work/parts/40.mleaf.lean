set_option maxHeartbeats 4000000 in
set_option maxRecDepth 100000 in
theorem k_X9_spot (l : Launch) (D : va_G) (sz : Nat) (k x y : Int32) : Met l yX9_spot (wB yX9_spot cX9_spot 3 (some .int)) ({ frames := 0, cells := 0, slots := 0, locals := 0 }) (cP D [] [] sz [.int k, .int x, .int y]) (va_Qi (fun (r : Int32) (_ : Unit) => r = 4096 * k + 64 * y + x) (fun (_ : Unit) (_ : State) => True) (va_A [] sz)) 0 0 (va_A [] sz) := by
  refine Met.ofW (cc := cX9_spot) (maxL := 3) (ret := (some .int)) (by decide) rfl ?_
  intro p e s m args below meth c s₁ B hml hv
  obtain ⟨rfl, hsz, hP, hK, hD0, hN⟩ := hv
  have hx := B.exec
  have hb := B.bytes
  have hr := B.returns
  have hts0 := atoms_spec (ws := (wB yX9_spot cX9_spot 3 (some .int))) B.pre
  have hts : ∀ w ∈ bigW, w.before _ s = true := fun w h => hts0 w (List.mem_cons_of_mem _ h)
  have hown : s.vm.findClass RX9 = some m.cls := findClass_of_methodNamed B.named
  have hlocks := B.notSynchronized
  subst hsz
  have hD := hD0.self (sz := s.heap.size)
  generalize hAe : va_A [] s.heap.size = A at hD ⊢
  have hA : ∀ q : Nat, s.heap.size ≤ q → A q := fun q h => by rw [← hAe]; exact Or.inr h
  have hS : va_S A s.heap s.heap [] := va_S.rf
  have hP : va_P D vwCl [] s.heap := hP
  have hl := lv_entry ([.int k, .int x, .int y]) (n := 3) (Nat.le_of_ble_eq_true rfl)
  rw [lg_entry_eq]
  generalize (lg_sl ([.int k, .int x, .int y]) ++ List.replicate (3 - (lg_sl ([.int k, .int x, .int y])).length) Slot.unset).toArray = ls at hl ⊢
  have hl : lv_has ls 3 [(0, .int k), (1, .int x), (2, .int y)] := hl
  clear hts0 hD0 hAe
  refine my_abs (fun R Q hR hQ => ?_)
  refine lv_sipush (v := 4096) hx hb dX9_spot_0 (by decide) ?_
  refine lv_iload_n hx hb dX9_spot_3 rfl (lv_at hl 0 rfl) ?_
  refine lv_imul hx hb dX9_spot_4 ?_
  refine lv_topi (fun y_1 ey_1 => ?_)
  refine lv_bipush (v := 64) hx hb dX9_spot_5 (by decide) ?_
  refine lv_iload_n hx hb dX9_spot_7 rfl (lv_at hl 2 rfl) ?_
  refine lv_imul hx hb dX9_spot_8 ?_
  refine lv_topi (fun y_2 ey_2 => ?_)
  refine lv_iadd hx hb dX9_spot_9 ?_
  refine lv_topi (fun y_3 ey_3 => ?_)
  refine lv_iload_n hx hb dX9_spot_10 rfl (lv_at hl 1 rfl) ?_
  refine lv_iadd hx hb dX9_spot_11 ?_
  refine lv_topi (fun y_4 ey_4 => ?_)
  refine hQ _ _ _ _ _ ?_
  exact W.iret (v := y_4) hx hb hr (fun t ht hW => ⟨⟨y_4, (), rfl, (by subst_vars; rfl), trivial⟩, hS.F ht⟩) hS.2.2 dX9_spot_12

set_option maxHeartbeats 4000000 in
set_option maxRecDepth 100000 in
theorem k_X9_isPlace (l : Launch) (D : va_G) (sz : Nat) (x y : Int32) : Met l yX9_isPlace (wB yX9_isPlace cX9_isPlace 2 (some .boolean)) ({ frames := 1, cells := 0, slots := 0, locals := 21 }) (cP D [] [] sz [.int x, .int y]) (va_Qi (fun (r : Int32) (_ : Unit) => r = if (-200 ≤ x.toInt ∧ x.toInt ≤ 200) ∧ (-200 ≤ y.toInt ∧ y.toInt ≤ 200) then 1 else 0) (fun (_ : Unit) (_ : State) => True) (va_A [] sz)) 0 0 (va_A [] sz) := by
  refine Met.ofW (cc := cX9_isPlace) (maxL := 2) (ret := (some .boolean)) (by decide) rfl ?_
  intro p e s m args below meth c s₁ B hml hv
  obtain ⟨rfl, hsz, hP, hK, hD0, hN⟩ := hv
  have hx := B.exec
  have hb := B.bytes
  have hr := B.returns
  have hts0 := atoms_spec (ws := (wB yX9_isPlace cX9_isPlace 2 (some .boolean))) B.pre
  have hts : ∀ w ∈ bigW, w.before _ s = true := fun w h => hts0 w (List.mem_cons_of_mem _ h)
  have hown : s.vm.findClass RX9 = some m.cls := findClass_of_methodNamed B.named
  have hlocks := B.notSynchronized
  subst hsz
  have hD := hD0.self (sz := s.heap.size)
  generalize hAe : va_A [] s.heap.size = A at hD ⊢
  have hA : ∀ q : Nat, s.heap.size ≤ q → A q := fun q h => by rw [← hAe]; exact Or.inr h
  have hS : va_S A s.heap s.heap [] := va_S.rf
  have hP : va_P D vwCl [] s.heap := hP
  have hl := lv_entry ([.int x, .int y]) (n := 2) (Nat.le_of_ble_eq_true rfl)
  rw [lg_entry_eq]
  generalize (lg_sl ([.int x, .int y]) ++ List.replicate (2 - (lg_sl ([.int x, .int y])).length) Slot.unset).toArray = ls at hl ⊢
  have hl : lv_has ls 2 [(0, .int x), (1, .int y)] := hl
  clear hts0 hD0 hAe
  refine my_abs (fun R Q hR hQ => ?_)
  refine lv_iload_n hx hb dX9_isPlace_0 rfl (lv_at hl 0 rfl) ?_
  refine lv_sipush (v := 200) hx hb dX9_isPlace_1 (by decide) ?_
  have hPc := hP.sub (ws' := []) [] rfl
  have hDc := hD.sub (ws' := []) [] (by decide) rfl
  have hKc := hK.sub (tys' := []) [] rfl
  have hFc := va_free (wc := []) hD hS hA [] rfl
  refine va_calli (va_runS (As := [.int x, .int 200]) (rest := []) ⟨hx, hb, hml, hown, hts⟩ (k_X9_isNear l D s.heap.size x 200 (-200) 200 (by decide) (by decide)) (va_cwS 2 hts (gS bw_491 bw_482 bw_391 bw_481) rfl rfl rfl (by decide +kernel) ⟨(by rw [hR]; exact Nat.le_of_ble_eq_true rfl), (by rw [hR]; exact Nat.le_of_ble_eq_true rfl)⟩) ⟨cP_blind, cP_at hPc hKc hDc hN⟩ rfl rfl hl.1 rfl (lv_room (Nat.le_of_ble_eq_true rfl)) dX9_isPlace_4 ⟨(by rw [hR]; exact Nat.le_of_ble_eq_true rfl), (by rw [hR]; exact Nat.le_of_ble_eq_true rfl)⟩) hS (fun q _ h => hFc q h) hFc (fun r_1 u9 t9 H1 locs ht hvm hr_1 hB hz1 hk1 hS => ?_)
  try dsimp only at hr_1
  have hP1 : va_P D vwCl [] H1 := vP_nil
  have hD1 : va_D (va_A [] s.heap.size) [] := vD_nil
  obtain ⟨hP, hD⟩ := va_join (wr := []) (w1 := []) hP hD [] [] rfl rfl (by decide) (by decide) hk1 hFc hP1 hD1
  clear hz1 hk1 hFc hKc hDc hPc
  generalize H1 = H at hP hS ⊢
  have hP : va_P D vwCl [] H := hP
  have hD : va_D A [] := hD
  refine lv_if_eq (tgt := 24) hx hb dX9_isPlace_7 (by decide) (fun c_2 => ?_) (fun c_2 => ?_)
  · skip
    have f_3 := bz0 hr_1 c_2
    refine lv_iconst (v := 0) hx hb dX9_isPlace_24 (by decide) ?_
    refine hQ _ _ _ _ _ ?_
    exact W.zret (v := 0) hx hb hr rfl (fun t ht hW => ⟨⟨0, (), rfl, (if_neg (by omega)).symm, trivial⟩, hS.F ht⟩) hS.2.2 dX9_isPlace_25
  · skip
    have f_3 := bz1 hr_1 c_2
    refine lv_iload_n hx hb dX9_isPlace_10 rfl (lv_at hl 1 rfl) ?_
    refine lv_sipush (v := 200) hx hb dX9_isPlace_11 (by decide) ?_
    have hPc := hP.sub (ws' := []) [] rfl
    have hDc := hD.sub (ws' := []) [] (by decide) rfl
    have hKc := hK.sub (tys' := []) [] rfl
    have hFc := va_free (wc := []) hD hS hA [] rfl
    refine va_calli (va_runS (As := [.int y, .int 200]) (rest := []) ⟨hx, hb, hml, hown, hts⟩ (k_X9_isNear l D H.size y 200 (-200) 200 (by decide) (by decide)) (va_cwS 2 hts (gS bw_491 bw_482 bw_391 bw_481) rfl rfl rfl (by decide +kernel) ⟨(by rw [hR]; exact Nat.le_of_ble_eq_true rfl), (by rw [hR]; exact Nat.le_of_ble_eq_true rfl)⟩) ⟨cP_blind, cP_at hPc hKc hDc hN⟩ rfl rfl hl.1 rfl (lv_room (Nat.le_of_ble_eq_true rfl)) dX9_isPlace_14 ⟨(by rw [hR]; exact Nat.le_of_ble_eq_true rfl), (by rw [hR]; exact Nat.le_of_ble_eq_true rfl)⟩) hS (fun q _ h => hFc q h) hFc (fun r_4 u9 t9 H1 locs ht hvm hr_4 hB hz1 hk1 hS => ?_)
    try dsimp only at hr_4
    have hP1 : va_P D vwCl [] H1 := vP_nil
    have hD1 : va_D (va_A [] H.size) [] := vD_nil
    obtain ⟨hP, hD⟩ := va_join (wr := []) (w1 := []) hP hD [] [] rfl rfl (by decide) (by decide) hk1 hFc hP1 hD1
    clear hz1 hk1 hFc hKc hDc hPc
    generalize H1 = H at hP hS ⊢
    have hP : va_P D vwCl [] H := hP
    have hD : va_D A [] := hD
    refine lv_if_eq (tgt := 24) hx hb dX9_isPlace_17 (by decide) (fun c_5 => ?_) (fun c_5 => ?_)
    · skip
      have f_6 := bz0 hr_4 c_5
      refine lv_iconst (v := 0) hx hb dX9_isPlace_24 (by decide) ?_
      refine hQ _ _ _ _ _ ?_
      exact W.zret (v := 0) hx hb hr rfl (fun t ht hW => ⟨⟨0, (), rfl, (if_neg (by omega)).symm, trivial⟩, hS.F ht⟩) hS.2.2 dX9_isPlace_25
    · skip
      have f_6 := bz1 hr_4 c_5
      refine lv_iconst (v := 1) hx hb dX9_isPlace_20 (by decide) ?_
      refine lv_goto (tgt := 25) hx hb dX9_isPlace_21 (by decide) ?_
      refine hQ _ _ _ _ _ ?_
      exact W.zret (v := 1) hx hb hr rfl (fun t ht hW => ⟨⟨1, (), rfl, (if_pos (by omega)).symm, trivial⟩, hS.F ht⟩) hS.2.2 dX9_isPlace_25

set_option maxHeartbeats 4000000 in
set_option maxRecDepth 100000 in
theorem k_X9_ink (l : Launch) (D : va_G) (sz : Nat) (h0 m1 m2 m3 m4 m5 m6 m7 m8 m9 m10 m11 m12 m13 : Nat) (ik wy op cl cx0 cx1 cy0 cy1 ds pn : Int32) (v : Int32) : Met l yX9_ink (wB yX9_ink cX9_ink 2 none) ({ frames := 2, cells := 0, slots := 0, locals := 44 }) (cP D [(h0, .inr (9, [.ref m1, .ref m2, .ref m3, .int ik, .int wy, .int op, .int cl, .int cx0, .int cx1, .int cy0, .int cy1, .int ds, .ref m4, .ref m5, .ref m6, .ref m7, .ref m8, .ref m9, .int pn, .ref m10, .ref m11, .ref m12, .ref m13]))] [] sz [.ref h0, .int v]) (va_Qv (fun (_ : Unit) => True) (fun (_ : Unit) (t : State) => cB D (va_A [(h0, .inr (9, [.ref m1, .ref m2, .ref m3, .int ik, .int wy, .int op, .int cl, .int cx0, .int cx1, .int cy0, .int cy1, .int ds, .ref m4, .ref m5, .ref m6, .ref m7, .ref m8, .ref m9, .int pn, .ref m10, .ref m11, .ref m12, .ref m13]))] sz) [(h0, .inr (9, [.ref m1, .ref m2, .ref m3, .int (inkP v), .int wy, .int op, .int cl, .int cx0, .int cx1, .int cy0, .int cy1, .int ds, .ref m4, .ref m5, .ref m6, .ref m7, .ref m8, .ref m9, .int pn, .ref m10, .ref m11, .ref m12, .ref m13]))] [] t) (va_A [(h0, .inr (9, [.ref m1, .ref m2, .ref m3, .int ik, .int wy, .int op, .int cl, .int cx0, .int cx1, .int cy0, .int cy1, .int ds, .ref m4, .ref m5, .ref m6, .ref m7, .ref m8, .ref m9, .int pn, .ref m10, .ref m11, .ref m12, .ref m13]))] sz)) 0 0 (va_A [(h0, .inr (9, [.ref m1, .ref m2, .ref m3, .int ik, .int wy, .int op, .int cl, .int cx0, .int cx1, .int cy0, .int cy1, .int ds, .ref m4, .ref m5, .ref m6, .ref m7, .ref m8, .ref m9, .int pn, .ref m10, .ref m11, .ref m12, .ref m13]))] sz) := by
  refine Met.ofW (cc := cX9_ink) (maxL := 2) (ret := none) (by decide) rfl ?_
  intro p e s m args below meth c s₁ B hml hv
  obtain ⟨rfl, hsz, hP, hK, hD0, hN⟩ := hv
  have hx := B.exec
  have hb := B.bytes
  have hr := B.returns
  have hts0 := atoms_spec (ws := (wB yX9_ink cX9_ink 2 none)) B.pre
  have hts : ∀ w ∈ bigW, w.before _ s = true := fun w h => hts0 w (List.mem_cons_of_mem _ h)
  have hown : s.vm.findClass RX9 = some m.cls := findClass_of_methodNamed B.named
  have hlocks := B.notSynchronized
  subst hsz
  have hD := hD0.self (sz := s.heap.size)
  generalize hAe : va_A [(h0, .inr (9, [.ref m1, .ref m2, .ref m3, .int ik, .int wy, .int op, .int cl, .int cx0, .int cx1, .int cy0, .int cy1, .int ds, .ref m4, .ref m5, .ref m6, .ref m7, .ref m8, .ref m9, .int pn, .ref m10, .ref m11, .ref m12, .ref m13]))] s.heap.size = A at hD ⊢
  have hA : ∀ q : Nat, s.heap.size ≤ q → A q := fun q h => by rw [← hAe]; exact Or.inr h
  have hS : va_S A s.heap s.heap [] := va_S.rf
  have hP : va_P D vwCl [(h0, .inr (9, [.ref m1, .ref m2, .ref m3, .int ik, .int wy, .int op, .int cl, .int cx0, .int cx1, .int cy0, .int cy1, .int ds, .ref m4, .ref m5, .ref m6, .ref m7, .ref m8, .ref m9, .int pn, .ref m10, .ref m11, .ref m12, .ref m13]))] s.heap := hP
  have hl := lv_entry ([.ref h0, .int v]) (n := 2) (Nat.le_of_ble_eq_true rfl)
  rw [lg_entry_eq]
  generalize (lg_sl ([.ref h0, .int v]) ++ List.replicate (2 - (lg_sl ([.ref h0, .int v])).length) Slot.unset).toArray = ls at hl ⊢
  have hl : lv_has ls 2 [(0, .ref h0), (1, .int v)] := hl
  clear hts0 hD0 hAe
  refine my_abs (fun R Q hR hQ => ?_)
  refine lv_aload_n hx hb dX9_ink_0 rfl (lv_at hl 0 rfl) ?_
  refine lv_iload_n hx hb dX9_ink_1 rfl (lv_at hl 1 rfl) ?_
  have hPc := hP.sub (ws' := []) [] rfl
  have hDc := hD.sub (ws' := []) [] (by decide) rfl
  have hKc := hK.sub (tys' := []) [] rfl
  have hFc := va_free (wc := []) hD hS hA [] rfl
  refine va_calli (va_runS (As := [.int v]) (rest := [.ref h0]) ⟨hx, hb, hml, hown, hts⟩ (k_X9_inkOf l D s.heap.size v) (va_cwS 1 hts (gS bw_471 bw_440 bw_391 bw_439) rfl rfl rfl (by decide +kernel) ⟨(by rw [hR]; exact Nat.le_of_ble_eq_true rfl), (by rw [hR]; exact Nat.le_of_ble_eq_true rfl)⟩) ⟨cP_blind, cP_at hPc hKc hDc hN⟩ rfl rfl hl.1 rfl (lv_room (Nat.le_of_ble_eq_true rfl)) dX9_ink_2 ⟨(by rw [hR]; exact Nat.le_of_ble_eq_true rfl), (by rw [hR]; exact Nat.le_of_ble_eq_true rfl)⟩) hS (fun q _ h => hFc q h) hFc (fun r_1 u9 t9 H1 locs ht hvm hr_1 hB hz1 hk1 hS => ?_)
  try dsimp only at hr_1
  have hP1 : va_P D vwCl [] H1 := vP_nil
  have hD1 : va_D (va_A [] s.heap.size) [] := vD_nil
  obtain ⟨hP, hD⟩ := va_join (wr := [(h0, .inr (9, [.ref m1, .ref m2, .ref m3, .int ik, .int wy, .int op, .int cl, .int cx0, .int cx1, .int cy0, .int cy1, .int ds, .ref m4, .ref m5, .ref m6, .ref m7, .ref m8, .ref m9, .int pn, .ref m10, .ref m11, .ref m12, .ref m13]))]) (w1 := []) hP hD [] [0] rfl rfl (by decide) (by decide) hk1 hFc hP1 hD1
  clear hz1 hk1 hFc hKc hDc hPc
  generalize H1 = H at hP hS ⊢
  have hP : va_P D vwCl [(h0, .inr (9, [.ref m1, .ref m2, .ref m3, .int ik, .int wy, .int op, .int cl, .int cx0, .int cx1, .int cy0, .int cy1, .int ds, .ref m4, .ref m5, .ref m6, .ref m7, .ref m8, .ref m9, .int pn, .ref m10, .ref m11, .ref m12, .ref m13]))] H := hP
  have hD : va_D A [(h0, .inr (9, [.ref m1, .ref m2, .ref m3, .int ik, .int wy, .int op, .int cl, .int cx0, .int cx1, .int cy0, .int cy1, .int ds, .ref m4, .ref m5, .ref m6, .ref m7, .ref m8, .ref m9, .int pn, .ref m10, .ref m11, .ref m12, .ref m13]))] := hD
  refine va_put (D := D) (ci := 9) (v := .int r_1) (ty := .int) (C := RX9) (T := TX9) (N := 23) hx hb hts hi_X9 tyX9 tyX9_ok nmX9 hown hK hP hD hS 0 rfl rfl 3 (by decide) (hts _ bw_399) (fun _ h9 => h9) rfl (by decide +kernel) rfl rfl (Nat.le_of_ble_eq_true rfl) dX9_ink_5 (fun H locs hP hD hS => ?_)
  have hP : va_P D vwCl [(h0, .inr (9, [.ref m1, .ref m2, .ref m3, .int r_1, .int wy, .int op, .int cl, .int cx0, .int cx1, .int cy0, .int cy1, .int ds, .ref m4, .ref m5, .ref m6, .ref m7, .ref m8, .ref m9, .int pn, .ref m10, .ref m11, .ref m12, .ref m13]))] H := hP
  have hD : va_D A [(h0, .inr (9, [.ref m1, .ref m2, .ref m3, .int r_1, .int wy, .int op, .int cl, .int cx0, .int cx1, .int cy0, .int cy1, .int ds, .ref m4, .ref m5, .ref m6, .ref m7, .ref m8, .ref m9, .int pn, .ref m10, .ref m11, .ref m12, .ref m13]))] := hD
  have hP : va_P D vwCl [(h0, .inr (9, [.ref m1, .ref m2, .ref m3, .int (inkP v), .int wy, .int op, .int cl, .int cx0, .int cx1, .int cy0, .int cy1, .int ds, .ref m4, .ref m5, .ref m6, .ref m7, .ref m8, .ref m9, .int pn, .ref m10, .ref m11, .ref m12, .ref m13]))] H := by subst_vars; exact hP
  have hD : va_D A [(h0, .inr (9, [.ref m1, .ref m2, .ref m3, .int (inkP v), .int wy, .int op, .int cl, .int cx0, .int cx1, .int cy0, .int cy1, .int ds, .ref m4, .ref m5, .ref m6, .ref m7, .ref m8, .ref m9, .int pn, .ref m10, .ref m11, .ref m12, .ref m13]))] := by subst_vars; exact hD
  have hP9 := hP.sub (ws' := [(h0, .inr (9, [.ref m1, .ref m2, .ref m3, .int (inkP v), .int wy, .int op, .int cl, .int cx0, .int cx1, .int cy0, .int cy1, .int ds, .ref m4, .ref m5, .ref m6, .ref m7, .ref m8, .ref m9, .int pn, .ref m10, .ref m11, .ref m12, .ref m13]))]) [0] rfl
  have hD9 := hD.sub (ws' := [(h0, .inr (9, [.ref m1, .ref m2, .ref m3, .int (inkP v), .int wy, .int op, .int cl, .int cx0, .int cx1, .int cy0, .int cy1, .int ds, .ref m4, .ref m5, .ref m6, .ref m7, .ref m8, .ref m9, .int pn, .ref m10, .ref m11, .ref m12, .ref m13]))]) [0] (by decide) rfl
  have hK9 := hK.sub (tys' := []) [] rfl
  refine hQ _ _ _ _ _ ?_
  exact W.vret hx hb hr (fun t ht hW => ⟨⟨(), rfl, trivial, ⟨by rw [ht]; exact hP9, va_K.moved hW.alike hK9, hD9⟩⟩, hS.F ht⟩) hS.2.2 dX9_ink_8

set_option maxHeartbeats 4000000 in
set_option maxRecDepth 100000 in
theorem k_X9_way (l : Launch) (D : va_G) (sz : Nat) (h0 m1 m2 m3 m4 m5 m6 m7 m8 m9 m10 m11 m12 m13 : Nat) (ik wy op cl cx0 cx1 cy0 cy1 ds pn : Int32) (w9 o9 : Int32) : Met l yX9_way (wB yX9_way cX9_way 3 (some .boolean)) ({ frames := 0, cells := 0, slots := 0, locals := 0 }) (cP D [(h0, .inr (9, [.ref m1, .ref m2, .ref m3, .int ik, .int wy, .int op, .int cl, .int cx0, .int cx1, .int cy0, .int cy1, .int ds, .ref m4, .ref m5, .ref m6, .ref m7, .ref m8, .ref m9, .int pn, .ref m10, .ref m11, .ref m12, .ref m13]))] [] sz [.ref h0, .int w9, .int o9]) (va_Qi (fun (r : Int32) (_ : Unit) => r = if (0 ≤ w9.toInt ∧ w9.toInt ≤ 12) ∧ (0 ≤ o9.toInt ∧ o9.toInt ≤ 255) then 1 else 0) (fun (_ : Unit) (t : State) => cB D (va_A [(h0, .inr (9, [.ref m1, .ref m2, .ref m3, .int ik, .int wy, .int op, .int cl, .int cx0, .int cx1, .int cy0, .int cy1, .int ds, .ref m4, .ref m5, .ref m6, .ref m7, .ref m8, .ref m9, .int pn, .ref m10, .ref m11, .ref m12, .ref m13]))] sz) [(h0, .inr (9, [.ref m1, .ref m2, .ref m3, .int ik, .int (if (0 ≤ w9.toInt ∧ w9.toInt ≤ 12) ∧ (0 ≤ o9.toInt ∧ o9.toInt ≤ 255) then w9 else wy), .int (if (0 ≤ w9.toInt ∧ w9.toInt ≤ 12) ∧ (0 ≤ o9.toInt ∧ o9.toInt ≤ 255) then o9 else op), .int cl, .int cx0, .int cx1, .int cy0, .int cy1, .int ds, .ref m4, .ref m5, .ref m6, .ref m7, .ref m8, .ref m9, .int pn, .ref m10, .ref m11, .ref m12, .ref m13]))] [] t) (va_A [(h0, .inr (9, [.ref m1, .ref m2, .ref m3, .int ik, .int wy, .int op, .int cl, .int cx0, .int cx1, .int cy0, .int cy1, .int ds, .ref m4, .ref m5, .ref m6, .ref m7, .ref m8, .ref m9, .int pn, .ref m10, .ref m11, .ref m12, .ref m13]))] sz)) 0 0 (va_A [(h0, .inr (9, [.ref m1, .ref m2, .ref m3, .int ik, .int wy, .int op, .int cl, .int cx0, .int cx1, .int cy0, .int cy1, .int ds, .ref m4, .ref m5, .ref m6, .ref m7, .ref m8, .ref m9, .int pn, .ref m10, .ref m11, .ref m12, .ref m13]))] sz) := by
  refine Met.ofW (cc := cX9_way) (maxL := 3) (ret := (some .boolean)) (by decide) rfl ?_
  intro p e s m args below meth c s₁ B hml hv
  obtain ⟨rfl, hsz, hP, hK, hD0, hN⟩ := hv
  have hx := B.exec
  have hb := B.bytes
  have hr := B.returns
  have hts0 := atoms_spec (ws := (wB yX9_way cX9_way 3 (some .boolean))) B.pre
  have hts : ∀ w ∈ bigW, w.before _ s = true := fun w h => hts0 w (List.mem_cons_of_mem _ h)
  have hown : s.vm.findClass RX9 = some m.cls := findClass_of_methodNamed B.named
  have hlocks := B.notSynchronized
  subst hsz
  have hD := hD0.self (sz := s.heap.size)
  generalize hAe : va_A [(h0, .inr (9, [.ref m1, .ref m2, .ref m3, .int ik, .int wy, .int op, .int cl, .int cx0, .int cx1, .int cy0, .int cy1, .int ds, .ref m4, .ref m5, .ref m6, .ref m7, .ref m8, .ref m9, .int pn, .ref m10, .ref m11, .ref m12, .ref m13]))] s.heap.size = A at hD ⊢
  have hA : ∀ q : Nat, s.heap.size ≤ q → A q := fun q h => by rw [← hAe]; exact Or.inr h
  have hS : va_S A s.heap s.heap [] := va_S.rf
  have hP : va_P D vwCl [(h0, .inr (9, [.ref m1, .ref m2, .ref m3, .int ik, .int wy, .int op, .int cl, .int cx0, .int cx1, .int cy0, .int cy1, .int ds, .ref m4, .ref m5, .ref m6, .ref m7, .ref m8, .ref m9, .int pn, .ref m10, .ref m11, .ref m12, .ref m13]))] s.heap := hP
  have hl := lv_entry ([.ref h0, .int w9, .int o9]) (n := 3) (Nat.le_of_ble_eq_true rfl)
  rw [lg_entry_eq]
  generalize (lg_sl ([.ref h0, .int w9, .int o9]) ++ List.replicate (3 - (lg_sl ([.ref h0, .int w9, .int o9])).length) Slot.unset).toArray = ls at hl ⊢
  have hl : lv_has ls 3 [(0, .ref h0), (1, .int w9), (2, .int o9)] := hl
  clear hts0 hD0 hAe
  refine my_abs (fun R Q hR hQ => ?_)
  refine lv_iload_n hx hb dX9_way_0 rfl (lv_at hl 1 rfl) ?_
  refine lv_if_lt (tgt := 21) hx hb dX9_way_1 (by decide) (fun c_1 => ?_) (fun c_1 => ?_)
  · skip
    have f_2 : w9.toInt < 0 := f_lt rfl (by decide) c_1
    refine lv_iconst (v := 0) hx hb dX9_way_21 (by decide) ?_
    have hP : va_P D vwCl [(h0, .inr (9, [.ref m1, .ref m2, .ref m3, .int ik, .int (if (0 ≤ w9.toInt ∧ w9.toInt ≤ 12) ∧ (0 ≤ o9.toInt ∧ o9.toInt ≤ 255) then w9 else wy), .int (if (0 ≤ w9.toInt ∧ w9.toInt ≤ 12) ∧ (0 ≤ o9.toInt ∧ o9.toInt ≤ 255) then o9 else op), .int cl, .int cx0, .int cx1, .int cy0, .int cy1, .int ds, .ref m4, .ref m5, .ref m6, .ref m7, .ref m8, .ref m9, .int pn, .ref m10, .ref m11, .ref m12, .ref m13]))] s.heap := by simp only [if_neg (show ¬ ((0 ≤ w9.toInt ∧ w9.toInt ≤ 12) ∧ (0 ≤ o9.toInt ∧ o9.toInt ≤ 255)) by omega)]; exact hP
    have hD : va_D A [(h0, .inr (9, [.ref m1, .ref m2, .ref m3, .int ik, .int (if (0 ≤ w9.toInt ∧ w9.toInt ≤ 12) ∧ (0 ≤ o9.toInt ∧ o9.toInt ≤ 255) then w9 else wy), .int (if (0 ≤ w9.toInt ∧ w9.toInt ≤ 12) ∧ (0 ≤ o9.toInt ∧ o9.toInt ≤ 255) then o9 else op), .int cl, .int cx0, .int cx1, .int cy0, .int cy1, .int ds, .ref m4, .ref m5, .ref m6, .ref m7, .ref m8, .ref m9, .int pn, .ref m10, .ref m11, .ref m12, .ref m13]))] := by simp only [if_neg (show ¬ ((0 ≤ w9.toInt ∧ w9.toInt ≤ 12) ∧ (0 ≤ o9.toInt ∧ o9.toInt ≤ 255)) by omega)]; exact hD
    have hP9 := hP.sub (ws' := [(h0, .inr (9, [.ref m1, .ref m2, .ref m3, .int ik, .int (if (0 ≤ w9.toInt ∧ w9.toInt ≤ 12) ∧ (0 ≤ o9.toInt ∧ o9.toInt ≤ 255) then w9 else wy), .int (if (0 ≤ w9.toInt ∧ w9.toInt ≤ 12) ∧ (0 ≤ o9.toInt ∧ o9.toInt ≤ 255) then o9 else op), .int cl, .int cx0, .int cx1, .int cy0, .int cy1, .int ds, .ref m4, .ref m5, .ref m6, .ref m7, .ref m8, .ref m9, .int pn, .ref m10, .ref m11, .ref m12, .ref m13]))]) [0] rfl
    have hD9 := hD.sub (ws' := [(h0, .inr (9, [.ref m1, .ref m2, .ref m3, .int ik, .int (if (0 ≤ w9.toInt ∧ w9.toInt ≤ 12) ∧ (0 ≤ o9.toInt ∧ o9.toInt ≤ 255) then w9 else wy), .int (if (0 ≤ w9.toInt ∧ w9.toInt ≤ 12) ∧ (0 ≤ o9.toInt ∧ o9.toInt ≤ 255) then o9 else op), .int cl, .int cx0, .int cx1, .int cy0, .int cy1, .int ds, .ref m4, .ref m5, .ref m6, .ref m7, .ref m8, .ref m9, .int pn, .ref m10, .ref m11, .ref m12, .ref m13]))]) [0] (by decide) rfl
    have hK9 := hK.sub (tys' := []) [] rfl
    refine hQ _ _ _ _ _ ?_
    exact W.zret (v := 0) hx hb hr rfl (fun t ht hW => ⟨⟨0, (), rfl, (if_neg (by omega)).symm, ⟨by rw [ht]; exact hP9, va_K.moved hW.alike hK9, hD9⟩⟩, hS.F ht⟩) hS.2.2 dX9_way_22
  · skip
    have f_2 : ¬ (w9.toInt < 0) := fn_lt rfl (by decide) c_1
    refine lv_iload_n hx hb dX9_way_4 rfl (lv_at hl 1 rfl) ?_
    refine lv_bipush (v := 12) hx hb dX9_way_5 (by decide) ?_
    refine lv_icmp_gt (tgt := 21) hx hb dX9_way_7 (by decide) (fun c_3 => ?_) (fun c_3 => ?_)
    · skip
      have f_4 : 12 < w9.toInt := f_lt (by decide) rfl c_3
      refine lv_iconst (v := 0) hx hb dX9_way_21 (by decide) ?_
      have hP : va_P D vwCl [(h0, .inr (9, [.ref m1, .ref m2, .ref m3, .int ik, .int (if (0 ≤ w9.toInt ∧ w9.toInt ≤ 12) ∧ (0 ≤ o9.toInt ∧ o9.toInt ≤ 255) then w9 else wy), .int (if (0 ≤ w9.toInt ∧ w9.toInt ≤ 12) ∧ (0 ≤ o9.toInt ∧ o9.toInt ≤ 255) then o9 else op), .int cl, .int cx0, .int cx1, .int cy0, .int cy1, .int ds, .ref m4, .ref m5, .ref m6, .ref m7, .ref m8, .ref m9, .int pn, .ref m10, .ref m11, .ref m12, .ref m13]))] s.heap := by simp only [if_neg (show ¬ ((0 ≤ w9.toInt ∧ w9.toInt ≤ 12) ∧ (0 ≤ o9.toInt ∧ o9.toInt ≤ 255)) by omega)]; exact hP
      have hD : va_D A [(h0, .inr (9, [.ref m1, .ref m2, .ref m3, .int ik, .int (if (0 ≤ w9.toInt ∧ w9.toInt ≤ 12) ∧ (0 ≤ o9.toInt ∧ o9.toInt ≤ 255) then w9 else wy), .int (if (0 ≤ w9.toInt ∧ w9.toInt ≤ 12) ∧ (0 ≤ o9.toInt ∧ o9.toInt ≤ 255) then o9 else op), .int cl, .int cx0, .int cx1, .int cy0, .int cy1, .int ds, .ref m4, .ref m5, .ref m6, .ref m7, .ref m8, .ref m9, .int pn, .ref m10, .ref m11, .ref m12, .ref m13]))] := by simp only [if_neg (show ¬ ((0 ≤ w9.toInt ∧ w9.toInt ≤ 12) ∧ (0 ≤ o9.toInt ∧ o9.toInt ≤ 255)) by omega)]; exact hD
      have hP9 := hP.sub (ws' := [(h0, .inr (9, [.ref m1, .ref m2, .ref m3, .int ik, .int (if (0 ≤ w9.toInt ∧ w9.toInt ≤ 12) ∧ (0 ≤ o9.toInt ∧ o9.toInt ≤ 255) then w9 else wy), .int (if (0 ≤ w9.toInt ∧ w9.toInt ≤ 12) ∧ (0 ≤ o9.toInt ∧ o9.toInt ≤ 255) then o9 else op), .int cl, .int cx0, .int cx1, .int cy0, .int cy1, .int ds, .ref m4, .ref m5, .ref m6, .ref m7, .ref m8, .ref m9, .int pn, .ref m10, .ref m11, .ref m12, .ref m13]))]) [0] rfl
      have hD9 := hD.sub (ws' := [(h0, .inr (9, [.ref m1, .ref m2, .ref m3, .int ik, .int (if (0 ≤ w9.toInt ∧ w9.toInt ≤ 12) ∧ (0 ≤ o9.toInt ∧ o9.toInt ≤ 255) then w9 else wy), .int (if (0 ≤ w9.toInt ∧ w9.toInt ≤ 12) ∧ (0 ≤ o9.toInt ∧ o9.toInt ≤ 255) then o9 else op), .int cl, .int cx0, .int cx1, .int cy0, .int cy1, .int ds, .ref m4, .ref m5, .ref m6, .ref m7, .ref m8, .ref m9, .int pn, .ref m10, .ref m11, .ref m12, .ref m13]))]) [0] (by decide) rfl
      have hK9 := hK.sub (tys' := []) [] rfl
      refine hQ _ _ _ _ _ ?_
      exact W.zret (v := 0) hx hb hr rfl (fun t ht hW => ⟨⟨0, (), rfl, (if_neg (by omega)).symm, ⟨by rw [ht]; exact hP9, va_K.moved hW.alike hK9, hD9⟩⟩, hS.F ht⟩) hS.2.2 dX9_way_22
    · skip
      have f_4 : ¬ (12 < w9.toInt) := fn_lt (by decide) rfl c_3
      refine lv_iload_n hx hb dX9_way_10 rfl (lv_at hl 2 rfl) ?_
      refine lv_if_lt (tgt := 21) hx hb dX9_way_11 (by decide) (fun c_5 => ?_) (fun c_5 => ?_)
      · skip
        have f_6 : o9.toInt < 0 := f_lt rfl (by decide) c_5
        refine lv_iconst (v := 0) hx hb dX9_way_21 (by decide) ?_
        have hP : va_P D vwCl [(h0, .inr (9, [.ref m1, .ref m2, .ref m3, .int ik, .int (if (0 ≤ w9.toInt ∧ w9.toInt ≤ 12) ∧ (0 ≤ o9.toInt ∧ o9.toInt ≤ 255) then w9 else wy), .int (if (0 ≤ w9.toInt ∧ w9.toInt ≤ 12) ∧ (0 ≤ o9.toInt ∧ o9.toInt ≤ 255) then o9 else op), .int cl, .int cx0, .int cx1, .int cy0, .int cy1, .int ds, .ref m4, .ref m5, .ref m6, .ref m7, .ref m8, .ref m9, .int pn, .ref m10, .ref m11, .ref m12, .ref m13]))] s.heap := by simp only [if_neg (show ¬ ((0 ≤ w9.toInt ∧ w9.toInt ≤ 12) ∧ (0 ≤ o9.toInt ∧ o9.toInt ≤ 255)) by omega)]; exact hP
        have hD : va_D A [(h0, .inr (9, [.ref m1, .ref m2, .ref m3, .int ik, .int (if (0 ≤ w9.toInt ∧ w9.toInt ≤ 12) ∧ (0 ≤ o9.toInt ∧ o9.toInt ≤ 255) then w9 else wy), .int (if (0 ≤ w9.toInt ∧ w9.toInt ≤ 12) ∧ (0 ≤ o9.toInt ∧ o9.toInt ≤ 255) then o9 else op), .int cl, .int cx0, .int cx1, .int cy0, .int cy1, .int ds, .ref m4, .ref m5, .ref m6, .ref m7, .ref m8, .ref m9, .int pn, .ref m10, .ref m11, .ref m12, .ref m13]))] := by simp only [if_neg (show ¬ ((0 ≤ w9.toInt ∧ w9.toInt ≤ 12) ∧ (0 ≤ o9.toInt ∧ o9.toInt ≤ 255)) by omega)]; exact hD
        have hP9 := hP.sub (ws' := [(h0, .inr (9, [.ref m1, .ref m2, .ref m3, .int ik, .int (if (0 ≤ w9.toInt ∧ w9.toInt ≤ 12) ∧ (0 ≤ o9.toInt ∧ o9.toInt ≤ 255) then w9 else wy), .int (if (0 ≤ w9.toInt ∧ w9.toInt ≤ 12) ∧ (0 ≤ o9.toInt ∧ o9.toInt ≤ 255) then o9 else op), .int cl, .int cx0, .int cx1, .int cy0, .int cy1, .int ds, .ref m4, .ref m5, .ref m6, .ref m7, .ref m8, .ref m9, .int pn, .ref m10, .ref m11, .ref m12, .ref m13]))]) [0] rfl
        have hD9 := hD.sub (ws' := [(h0, .inr (9, [.ref m1, .ref m2, .ref m3, .int ik, .int (if (0 ≤ w9.toInt ∧ w9.toInt ≤ 12) ∧ (0 ≤ o9.toInt ∧ o9.toInt ≤ 255) then w9 else wy), .int (if (0 ≤ w9.toInt ∧ w9.toInt ≤ 12) ∧ (0 ≤ o9.toInt ∧ o9.toInt ≤ 255) then o9 else op), .int cl, .int cx0, .int cx1, .int cy0, .int cy1, .int ds, .ref m4, .ref m5, .ref m6, .ref m7, .ref m8, .ref m9, .int pn, .ref m10, .ref m11, .ref m12, .ref m13]))]) [0] (by decide) rfl
        have hK9 := hK.sub (tys' := []) [] rfl
        refine hQ _ _ _ _ _ ?_
        exact W.zret (v := 0) hx hb hr rfl (fun t ht hW => ⟨⟨0, (), rfl, (if_neg (by omega)).symm, ⟨by rw [ht]; exact hP9, va_K.moved hW.alike hK9, hD9⟩⟩, hS.F ht⟩) hS.2.2 dX9_way_22
      · skip
        have f_6 : ¬ (o9.toInt < 0) := fn_lt rfl (by decide) c_5
        refine lv_iload_n hx hb dX9_way_14 rfl (lv_at hl 2 rfl) ?_
        refine lv_sipush (v := 255) hx hb dX9_way_15 (by decide) ?_
        refine lv_icmp_le (tgt := 23) hx hb dX9_way_18 (by decide) (fun c_7 => ?_) (fun c_7 => ?_)
        · skip
          have f_8 : o9.toInt ≤ 255 := f_le rfl (by decide) c_7
          refine lv_aload_n hx hb dX9_way_23 rfl (lv_at hl 0 rfl) ?_
          refine lv_iload_n hx hb dX9_way_24 rfl (lv_at hl 1 rfl) ?_
          refine va_put (D := D) (ci := 9) (v := .int w9) (ty := .int) (C := RX9) (T := TX9) (N := 23) hx hb hts hi_X9 tyX9 tyX9_ok nmX9 hown hK hP hD hS 0 rfl rfl 4 (by decide) (hts _ bw_400) (fun _ h9 => h9) rfl (by decide +kernel) rfl rfl (Nat.le_of_ble_eq_true rfl) dX9_way_25 (fun H locs hP hD hS => ?_)
          have hP : va_P D vwCl [(h0, .inr (9, [.ref m1, .ref m2, .ref m3, .int ik, .int w9, .int op, .int cl, .int cx0, .int cx1, .int cy0, .int cy1, .int ds, .ref m4, .ref m5, .ref m6, .ref m7, .ref m8, .ref m9, .int pn, .ref m10, .ref m11, .ref m12, .ref m13]))] H := hP
          have hD : va_D A [(h0, .inr (9, [.ref m1, .ref m2, .ref m3, .int ik, .int w9, .int op, .int cl, .int cx0, .int cx1, .int cy0, .int cy1, .int ds, .ref m4, .ref m5, .ref m6, .ref m7, .ref m8, .ref m9, .int pn, .ref m10, .ref m11, .ref m12, .ref m13]))] := hD
          refine lv_aload_n hx hb dX9_way_28 rfl (lv_at hl 0 rfl) ?_
          refine lv_iload_n hx hb dX9_way_29 rfl (lv_at hl 2 rfl) ?_
          refine va_put (D := D) (ci := 9) (v := .int o9) (ty := .int) (C := RX9) (T := TX9) (N := 23) hx hb hts hi_X9 tyX9 tyX9_ok nmX9 hown hK hP hD hS 0 rfl rfl 5 (by decide) (hts _ bw_401) (fun _ h9 => h9) rfl (by decide +kernel) rfl rfl (Nat.le_of_ble_eq_true rfl) dX9_way_30 (fun H locs hP hD hS => ?_)
          have hP : va_P D vwCl [(h0, .inr (9, [.ref m1, .ref m2, .ref m3, .int ik, .int w9, .int o9, .int cl, .int cx0, .int cx1, .int cy0, .int cy1, .int ds, .ref m4, .ref m5, .ref m6, .ref m7, .ref m8, .ref m9, .int pn, .ref m10, .ref m11, .ref m12, .ref m13]))] H := hP
          have hD : va_D A [(h0, .inr (9, [.ref m1, .ref m2, .ref m3, .int ik, .int w9, .int o9, .int cl, .int cx0, .int cx1, .int cy0, .int cy1, .int ds, .ref m4, .ref m5, .ref m6, .ref m7, .ref m8, .ref m9, .int pn, .ref m10, .ref m11, .ref m12, .ref m13]))] := hD
          refine lv_iconst (v := 1) hx hb dX9_way_33 (by decide) ?_
          have hP : va_P D vwCl [(h0, .inr (9, [.ref m1, .ref m2, .ref m3, .int ik, .int (if (0 ≤ w9.toInt ∧ w9.toInt ≤ 12) ∧ (0 ≤ o9.toInt ∧ o9.toInt ≤ 255) then w9 else wy), .int (if (0 ≤ w9.toInt ∧ w9.toInt ≤ 12) ∧ (0 ≤ o9.toInt ∧ o9.toInt ≤ 255) then o9 else op), .int cl, .int cx0, .int cx1, .int cy0, .int cy1, .int ds, .ref m4, .ref m5, .ref m6, .ref m7, .ref m8, .ref m9, .int pn, .ref m10, .ref m11, .ref m12, .ref m13]))] H := by simp only [if_pos (show ((0 ≤ w9.toInt ∧ w9.toInt ≤ 12) ∧ (0 ≤ o9.toInt ∧ o9.toInt ≤ 255)) by omega)]; exact hP
          have hD : va_D A [(h0, .inr (9, [.ref m1, .ref m2, .ref m3, .int ik, .int (if (0 ≤ w9.toInt ∧ w9.toInt ≤ 12) ∧ (0 ≤ o9.toInt ∧ o9.toInt ≤ 255) then w9 else wy), .int (if (0 ≤ w9.toInt ∧ w9.toInt ≤ 12) ∧ (0 ≤ o9.toInt ∧ o9.toInt ≤ 255) then o9 else op), .int cl, .int cx0, .int cx1, .int cy0, .int cy1, .int ds, .ref m4, .ref m5, .ref m6, .ref m7, .ref m8, .ref m9, .int pn, .ref m10, .ref m11, .ref m12, .ref m13]))] := by simp only [if_pos (show ((0 ≤ w9.toInt ∧ w9.toInt ≤ 12) ∧ (0 ≤ o9.toInt ∧ o9.toInt ≤ 255)) by omega)]; exact hD
          have hP9 := hP.sub (ws' := [(h0, .inr (9, [.ref m1, .ref m2, .ref m3, .int ik, .int (if (0 ≤ w9.toInt ∧ w9.toInt ≤ 12) ∧ (0 ≤ o9.toInt ∧ o9.toInt ≤ 255) then w9 else wy), .int (if (0 ≤ w9.toInt ∧ w9.toInt ≤ 12) ∧ (0 ≤ o9.toInt ∧ o9.toInt ≤ 255) then o9 else op), .int cl, .int cx0, .int cx1, .int cy0, .int cy1, .int ds, .ref m4, .ref m5, .ref m6, .ref m7, .ref m8, .ref m9, .int pn, .ref m10, .ref m11, .ref m12, .ref m13]))]) [0] rfl
          have hD9 := hD.sub (ws' := [(h0, .inr (9, [.ref m1, .ref m2, .ref m3, .int ik, .int (if (0 ≤ w9.toInt ∧ w9.toInt ≤ 12) ∧ (0 ≤ o9.toInt ∧ o9.toInt ≤ 255) then w9 else wy), .int (if (0 ≤ w9.toInt ∧ w9.toInt ≤ 12) ∧ (0 ≤ o9.toInt ∧ o9.toInt ≤ 255) then o9 else op), .int cl, .int cx0, .int cx1, .int cy0, .int cy1, .int ds, .ref m4, .ref m5, .ref m6, .ref m7, .ref m8, .ref m9, .int pn, .ref m10, .ref m11, .ref m12, .ref m13]))]) [0] (by decide) rfl
          have hK9 := hK.sub (tys' := []) [] rfl
          refine hQ _ _ _ _ _ ?_
          exact W.zret (v := 1) hx hb hr rfl (fun t ht hW => ⟨⟨1, (), rfl, (if_pos (by omega)).symm, ⟨by rw [ht]; exact hP9, va_K.moved hW.alike hK9, hD9⟩⟩, hS.F ht⟩) hS.2.2 dX9_way_34
        · skip
          have f_8 : ¬ (o9.toInt ≤ 255) := fn_le rfl (by decide) c_7
          refine lv_iconst (v := 0) hx hb dX9_way_21 (by decide) ?_
          have hP : va_P D vwCl [(h0, .inr (9, [.ref m1, .ref m2, .ref m3, .int ik, .int (if (0 ≤ w9.toInt ∧ w9.toInt ≤ 12) ∧ (0 ≤ o9.toInt ∧ o9.toInt ≤ 255) then w9 else wy), .int (if (0 ≤ w9.toInt ∧ w9.toInt ≤ 12) ∧ (0 ≤ o9.toInt ∧ o9.toInt ≤ 255) then o9 else op), .int cl, .int cx0, .int cx1, .int cy0, .int cy1, .int ds, .ref m4, .ref m5, .ref m6, .ref m7, .ref m8, .ref m9, .int pn, .ref m10, .ref m11, .ref m12, .ref m13]))] s.heap := by simp only [if_neg (show ¬ ((0 ≤ w9.toInt ∧ w9.toInt ≤ 12) ∧ (0 ≤ o9.toInt ∧ o9.toInt ≤ 255)) by omega)]; exact hP
          have hD : va_D A [(h0, .inr (9, [.ref m1, .ref m2, .ref m3, .int ik, .int (if (0 ≤ w9.toInt ∧ w9.toInt ≤ 12) ∧ (0 ≤ o9.toInt ∧ o9.toInt ≤ 255) then w9 else wy), .int (if (0 ≤ w9.toInt ∧ w9.toInt ≤ 12) ∧ (0 ≤ o9.toInt ∧ o9.toInt ≤ 255) then o9 else op), .int cl, .int cx0, .int cx1, .int cy0, .int cy1, .int ds, .ref m4, .ref m5, .ref m6, .ref m7, .ref m8, .ref m9, .int pn, .ref m10, .ref m11, .ref m12, .ref m13]))] := by simp only [if_neg (show ¬ ((0 ≤ w9.toInt ∧ w9.toInt ≤ 12) ∧ (0 ≤ o9.toInt ∧ o9.toInt ≤ 255)) by omega)]; exact hD
          have hP9 := hP.sub (ws' := [(h0, .inr (9, [.ref m1, .ref m2, .ref m3, .int ik, .int (if (0 ≤ w9.toInt ∧ w9.toInt ≤ 12) ∧ (0 ≤ o9.toInt ∧ o9.toInt ≤ 255) then w9 else wy), .int (if (0 ≤ w9.toInt ∧ w9.toInt ≤ 12) ∧ (0 ≤ o9.toInt ∧ o9.toInt ≤ 255) then o9 else op), .int cl, .int cx0, .int cx1, .int cy0, .int cy1, .int ds, .ref m4, .ref m5, .ref m6, .ref m7, .ref m8, .ref m9, .int pn, .ref m10, .ref m11, .ref m12, .ref m13]))]) [0] rfl
          have hD9 := hD.sub (ws' := [(h0, .inr (9, [.ref m1, .ref m2, .ref m3, .int ik, .int (if (0 ≤ w9.toInt ∧ w9.toInt ≤ 12) ∧ (0 ≤ o9.toInt ∧ o9.toInt ≤ 255) then w9 else wy), .int (if (0 ≤ w9.toInt ∧ w9.toInt ≤ 12) ∧ (0 ≤ o9.toInt ∧ o9.toInt ≤ 255) then o9 else op), .int cl, .int cx0, .int cx1, .int cy0, .int cy1, .int ds, .ref m4, .ref m5, .ref m6, .ref m7, .ref m8, .ref m9, .int pn, .ref m10, .ref m11, .ref m12, .ref m13]))]) [0] (by decide) rfl
          have hK9 := hK.sub (tys' := []) [] rfl
          refine hQ _ _ _ _ _ ?_
          exact W.zret (v := 0) hx hb hr rfl (fun t ht hW => ⟨⟨0, (), rfl, (if_neg (by omega)).symm, ⟨by rw [ht]; exact hP9, va_K.moved hW.alike hK9, hD9⟩⟩, hS.F ht⟩) hS.2.2 dX9_way_22

set_option maxHeartbeats 4000000 in
set_option maxRecDepth 100000 in
theorem k_X9_clip (l : Launch) (D : va_G) (sz : Nat) (h0 m1 m2 m3 m4 m5 m6 m7 m8 m9 m10 m11 m12 m13 : Nat) (ik wy op cl cx0 cx1 cy0 cy1 ds pn : Int32) (x y z9 w9 : Int32) : Met l yX9_clip (wB yX9_clip cX9_clip 5 none) ({ frames := 0, cells := 0, slots := 0, locals := 0 }) (cP D [(h0, .inr (9, [.ref m1, .ref m2, .ref m3, .int ik, .int wy, .int op, .int cl, .int cx0, .int cx1, .int cy0, .int cy1, .int ds, .ref m4, .ref m5, .ref m6, .ref m7, .ref m8, .ref m9, .int pn, .ref m10, .ref m11, .ref m12, .ref m13]))] [] sz [.ref h0, .int x, .int y, .int z9, .int w9]) (va_Qv (fun (_ : Unit) => True) (fun (_ : Unit) (t : State) => cB D (va_A [(h0, .inr (9, [.ref m1, .ref m2, .ref m3, .int ik, .int wy, .int op, .int cl, .int cx0, .int cx1, .int cy0, .int cy1, .int ds, .ref m4, .ref m5, .ref m6, .ref m7, .ref m8, .ref m9, .int pn, .ref m10, .ref m11, .ref m12, .ref m13]))] sz) [(h0, .inr (9, [.ref m1, .ref m2, .ref m3, .int ik, .int wy, .int op, .int 1, .int x, .int z9, .int y, .int w9, .int ds, .ref m4, .ref m5, .ref m6, .ref m7, .ref m8, .ref m9, .int pn, .ref m10, .ref m11, .ref m12, .ref m13]))] [] t) (va_A [(h0, .inr (9, [.ref m1, .ref m2, .ref m3, .int ik, .int wy, .int op, .int cl, .int cx0, .int cx1, .int cy0, .int cy1, .int ds, .ref m4, .ref m5, .ref m6, .ref m7, .ref m8, .ref m9, .int pn, .ref m10, .ref m11, .ref m12, .ref m13]))] sz)) 0 0 (va_A [(h0, .inr (9, [.ref m1, .ref m2, .ref m3, .int ik, .int wy, .int op, .int cl, .int cx0, .int cx1, .int cy0, .int cy1, .int ds, .ref m4, .ref m5, .ref m6, .ref m7, .ref m8, .ref m9, .int pn, .ref m10, .ref m11, .ref m12, .ref m13]))] sz) := by
  refine Met.ofW (cc := cX9_clip) (maxL := 5) (ret := none) (by decide) rfl ?_
  intro p e s m args below meth c s₁ B hml hv
  obtain ⟨rfl, hsz, hP, hK, hD0, hN⟩ := hv
  have hx := B.exec
  have hb := B.bytes
  have hr := B.returns
  have hts0 := atoms_spec (ws := (wB yX9_clip cX9_clip 5 none)) B.pre
  have hts : ∀ w ∈ bigW, w.before _ s = true := fun w h => hts0 w (List.mem_cons_of_mem _ h)
  have hown : s.vm.findClass RX9 = some m.cls := findClass_of_methodNamed B.named
  have hlocks := B.notSynchronized
  subst hsz
  have hD := hD0.self (sz := s.heap.size)
  generalize hAe : va_A [(h0, .inr (9, [.ref m1, .ref m2, .ref m3, .int ik, .int wy, .int op, .int cl, .int cx0, .int cx1, .int cy0, .int cy1, .int ds, .ref m4, .ref m5, .ref m6, .ref m7, .ref m8, .ref m9, .int pn, .ref m10, .ref m11, .ref m12, .ref m13]))] s.heap.size = A at hD ⊢
  have hA : ∀ q : Nat, s.heap.size ≤ q → A q := fun q h => by rw [← hAe]; exact Or.inr h
  have hS : va_S A s.heap s.heap [] := va_S.rf
  have hP : va_P D vwCl [(h0, .inr (9, [.ref m1, .ref m2, .ref m3, .int ik, .int wy, .int op, .int cl, .int cx0, .int cx1, .int cy0, .int cy1, .int ds, .ref m4, .ref m5, .ref m6, .ref m7, .ref m8, .ref m9, .int pn, .ref m10, .ref m11, .ref m12, .ref m13]))] s.heap := hP
  have hl := lv_entry ([.ref h0, .int x, .int y, .int z9, .int w9]) (n := 5) (Nat.le_of_ble_eq_true rfl)
  rw [lg_entry_eq]
  generalize (lg_sl ([.ref h0, .int x, .int y, .int z9, .int w9]) ++ List.replicate (5 - (lg_sl ([.ref h0, .int x, .int y, .int z9, .int w9])).length) Slot.unset).toArray = ls at hl ⊢
  have hl : lv_has ls 5 [(0, .ref h0), (1, .int x), (2, .int y), (3, .int z9), (4, .int w9)] := hl
  clear hts0 hD0 hAe
  refine my_abs (fun R Q hR hQ => ?_)
  refine lv_aload_n hx hb dX9_clip_0 rfl (lv_at hl 0 rfl) ?_
  refine lv_iconst (v := 1) hx hb dX9_clip_1 (by decide) ?_
  refine va_put (D := D) (ci := 9) (v := .int 1) (ty := .boolean) (C := RX9) (T := TX9) (N := 23) hx hb hts hi_X9 tyX9 tyX9_ok nmX9 hown hK hP hD hS 0 rfl rfl 6 (by decide) (hts _ bw_425) (fun _ h9 => h9) rfl (by decide +kernel) rfl rfl (Nat.le_of_ble_eq_true rfl) dX9_clip_2 (fun H locs hP hD hS => ?_)
  have hP : va_P D vwCl [(h0, .inr (9, [.ref m1, .ref m2, .ref m3, .int ik, .int wy, .int op, .int 1, .int cx0, .int cx1, .int cy0, .int cy1, .int ds, .ref m4, .ref m5, .ref m6, .ref m7, .ref m8, .ref m9, .int pn, .ref m10, .ref m11, .ref m12, .ref m13]))] H := hP
  have hD : va_D A [(h0, .inr (9, [.ref m1, .ref m2, .ref m3, .int ik, .int wy, .int op, .int 1, .int cx0, .int cx1, .int cy0, .int cy1, .int ds, .ref m4, .ref m5, .ref m6, .ref m7, .ref m8, .ref m9, .int pn, .ref m10, .ref m11, .ref m12, .ref m13]))] := hD
  refine lv_aload_n hx hb dX9_clip_5 rfl (lv_at hl 0 rfl) ?_
  refine lv_iload_n hx hb dX9_clip_6 rfl (lv_at hl 1 rfl) ?_
  refine va_put (D := D) (ci := 9) (v := .int x) (ty := .int) (C := RX9) (T := TX9) (N := 23) hx hb hts hi_X9 tyX9 tyX9_ok nmX9 hown hK hP hD hS 0 rfl rfl 7 (by decide) (hts _ bw_426) (fun _ h9 => h9) rfl (by decide +kernel) rfl rfl (Nat.le_of_ble_eq_true rfl) dX9_clip_7 (fun H locs hP hD hS => ?_)
  have hP : va_P D vwCl [(h0, .inr (9, [.ref m1, .ref m2, .ref m3, .int ik, .int wy, .int op, .int 1, .int x, .int cx1, .int cy0, .int cy1, .int ds, .ref m4, .ref m5, .ref m6, .ref m7, .ref m8, .ref m9, .int pn, .ref m10, .ref m11, .ref m12, .ref m13]))] H := hP
  have hD : va_D A [(h0, .inr (9, [.ref m1, .ref m2, .ref m3, .int ik, .int wy, .int op, .int 1, .int x, .int cx1, .int cy0, .int cy1, .int ds, .ref m4, .ref m5, .ref m6, .ref m7, .ref m8, .ref m9, .int pn, .ref m10, .ref m11, .ref m12, .ref m13]))] := hD
  refine lv_aload_n hx hb dX9_clip_10 rfl (lv_at hl 0 rfl) ?_
  refine lv_iload_n hx hb dX9_clip_11 rfl (lv_at hl 3 rfl) ?_
  refine va_put (D := D) (ci := 9) (v := .int z9) (ty := .int) (C := RX9) (T := TX9) (N := 23) hx hb hts hi_X9 tyX9 tyX9_ok nmX9 hown hK hP hD hS 0 rfl rfl 8 (by decide) (hts _ bw_427) (fun _ h9 => h9) rfl (by decide +kernel) rfl rfl (Nat.le_of_ble_eq_true rfl) dX9_clip_12 (fun H locs hP hD hS => ?_)
  have hP : va_P D vwCl [(h0, .inr (9, [.ref m1, .ref m2, .ref m3, .int ik, .int wy, .int op, .int 1, .int x, .int z9, .int cy0, .int cy1, .int ds, .ref m4, .ref m5, .ref m6, .ref m7, .ref m8, .ref m9, .int pn, .ref m10, .ref m11, .ref m12, .ref m13]))] H := hP
  have hD : va_D A [(h0, .inr (9, [.ref m1, .ref m2, .ref m3, .int ik, .int wy, .int op, .int 1, .int x, .int z9, .int cy0, .int cy1, .int ds, .ref m4, .ref m5, .ref m6, .ref m7, .ref m8, .ref m9, .int pn, .ref m10, .ref m11, .ref m12, .ref m13]))] := hD
  refine lv_aload_n hx hb dX9_clip_15 rfl (lv_at hl 0 rfl) ?_
  refine lv_iload_n hx hb dX9_clip_16 rfl (lv_at hl 2 rfl) ?_
  refine va_put (D := D) (ci := 9) (v := .int y) (ty := .int) (C := RX9) (T := TX9) (N := 23) hx hb hts hi_X9 tyX9 tyX9_ok nmX9 hown hK hP hD hS 0 rfl rfl 9 (by decide) (hts _ bw_428) (fun _ h9 => h9) rfl (by decide +kernel) rfl rfl (Nat.le_of_ble_eq_true rfl) dX9_clip_17 (fun H locs hP hD hS => ?_)
  have hP : va_P D vwCl [(h0, .inr (9, [.ref m1, .ref m2, .ref m3, .int ik, .int wy, .int op, .int 1, .int x, .int z9, .int y, .int cy1, .int ds, .ref m4, .ref m5, .ref m6, .ref m7, .ref m8, .ref m9, .int pn, .ref m10, .ref m11, .ref m12, .ref m13]))] H := hP
  have hD : va_D A [(h0, .inr (9, [.ref m1, .ref m2, .ref m3, .int ik, .int wy, .int op, .int 1, .int x, .int z9, .int y, .int cy1, .int ds, .ref m4, .ref m5, .ref m6, .ref m7, .ref m8, .ref m9, .int pn, .ref m10, .ref m11, .ref m12, .ref m13]))] := hD
  refine lv_aload_n hx hb dX9_clip_20 rfl (lv_at hl 0 rfl) ?_
  refine lv_iload hx hb dX9_clip_21 (lv_at hl 4 rfl) ?_
  refine va_put (D := D) (ci := 9) (v := .int w9) (ty := .int) (C := RX9) (T := TX9) (N := 23) hx hb hts hi_X9 tyX9 tyX9_ok nmX9 hown hK hP hD hS 0 rfl rfl 10 (by decide) (hts _ bw_429) (fun _ h9 => h9) rfl (by decide +kernel) rfl rfl (Nat.le_of_ble_eq_true rfl) dX9_clip_23 (fun H locs hP hD hS => ?_)
  have hP : va_P D vwCl [(h0, .inr (9, [.ref m1, .ref m2, .ref m3, .int ik, .int wy, .int op, .int 1, .int x, .int z9, .int y, .int w9, .int ds, .ref m4, .ref m5, .ref m6, .ref m7, .ref m8, .ref m9, .int pn, .ref m10, .ref m11, .ref m12, .ref m13]))] H := hP
  have hD : va_D A [(h0, .inr (9, [.ref m1, .ref m2, .ref m3, .int ik, .int wy, .int op, .int 1, .int x, .int z9, .int y, .int w9, .int ds, .ref m4, .ref m5, .ref m6, .ref m7, .ref m8, .ref m9, .int pn, .ref m10, .ref m11, .ref m12, .ref m13]))] := hD
  have hP9 := hP.sub (ws' := [(h0, .inr (9, [.ref m1, .ref m2, .ref m3, .int ik, .int wy, .int op, .int 1, .int x, .int z9, .int y, .int w9, .int ds, .ref m4, .ref m5, .ref m6, .ref m7, .ref m8, .ref m9, .int pn, .ref m10, .ref m11, .ref m12, .ref m13]))]) [0] rfl
  have hD9 := hD.sub (ws' := [(h0, .inr (9, [.ref m1, .ref m2, .ref m3, .int ik, .int wy, .int op, .int 1, .int x, .int z9, .int y, .int w9, .int ds, .ref m4, .ref m5, .ref m6, .ref m7, .ref m8, .ref m9, .int pn, .ref m10, .ref m11, .ref m12, .ref m13]))]) [0] (by decide) rfl
  have hK9 := hK.sub (tys' := []) [] rfl
  refine hQ _ _ _ _ _ ?_
  exact W.vret hx hb hr (fun t ht hW => ⟨⟨(), rfl, trivial, ⟨by rw [ht]; exact hP9, va_K.moved hW.alike hK9, hD9⟩⟩, hS.F ht⟩) hS.2.2 dX9_clip_26

set_option maxHeartbeats 4000000 in
set_option maxRecDepth 100000 in
theorem k_X9_dashes (l : Launch) (D : va_G) (sz : Nat) (h0 m1 m2 m3 m4 m5 m6 m7 m8 m9 m10 m11 m12 m13 : Nat) (ik wy op cl cx0 cx1 cy0 cy1 ds pn : Int32) (v : Int32) : Met l yX9_dashes (wB yX9_dashes cX9_dashes 2 none) ({ frames := 0, cells := 0, slots := 0, locals := 0 }) (cP D [(h0, .inr (9, [.ref m1, .ref m2, .ref m3, .int ik, .int wy, .int op, .int cl, .int cx0, .int cx1, .int cy0, .int cy1, .int ds, .ref m4, .ref m5, .ref m6, .ref m7, .ref m8, .ref m9, .int pn, .ref m10, .ref m11, .ref m12, .ref m13]))] [] sz [.ref h0, .int v]) (va_Qv (fun (_ : Unit) => True) (fun (_ : Unit) (t : State) => cB D (va_A [(h0, .inr (9, [.ref m1, .ref m2, .ref m3, .int ik, .int wy, .int op, .int cl, .int cx0, .int cx1, .int cy0, .int cy1, .int ds, .ref m4, .ref m5, .ref m6, .ref m7, .ref m8, .ref m9, .int pn, .ref m10, .ref m11, .ref m12, .ref m13]))] sz) [(h0, .inr (9, [.ref m1, .ref m2, .ref m3, .int ik, .int wy, .int op, .int cl, .int cx0, .int cx1, .int cy0, .int cy1, .int (v &&& 65535), .ref m4, .ref m5, .ref m6, .ref m7, .ref m8, .ref m9, .int pn, .ref m10, .ref m11, .ref m12, .ref m13]))] [] t) (va_A [(h0, .inr (9, [.ref m1, .ref m2, .ref m3, .int ik, .int wy, .int op, .int cl, .int cx0, .int cx1, .int cy0, .int cy1, .int ds, .ref m4, .ref m5, .ref m6, .ref m7, .ref m8, .ref m9, .int pn, .ref m10, .ref m11, .ref m12, .ref m13]))] sz)) 0 0 (va_A [(h0, .inr (9, [.ref m1, .ref m2, .ref m3, .int ik, .int wy, .int op, .int cl, .int cx0, .int cx1, .int cy0, .int cy1, .int ds, .ref m4, .ref m5, .ref m6, .ref m7, .ref m8, .ref m9, .int pn, .ref m10, .ref m11, .ref m12, .ref m13]))] sz) := by
  refine Met.ofW (cc := cX9_dashes) (maxL := 2) (ret := none) (by decide) rfl ?_
  intro p e s m args below meth c s₁ B hml hv
  obtain ⟨rfl, hsz, hP, hK, hD0, hN⟩ := hv
  have hx := B.exec
  have hb := B.bytes
  have hr := B.returns
  have hts0 := atoms_spec (ws := (wB yX9_dashes cX9_dashes 2 none)) B.pre
  have hts : ∀ w ∈ bigW, w.before _ s = true := fun w h => hts0 w (List.mem_cons_of_mem _ h)
  have hown : s.vm.findClass RX9 = some m.cls := findClass_of_methodNamed B.named
  have hlocks := B.notSynchronized
  subst hsz
  have hD := hD0.self (sz := s.heap.size)
  generalize hAe : va_A [(h0, .inr (9, [.ref m1, .ref m2, .ref m3, .int ik, .int wy, .int op, .int cl, .int cx0, .int cx1, .int cy0, .int cy1, .int ds, .ref m4, .ref m5, .ref m6, .ref m7, .ref m8, .ref m9, .int pn, .ref m10, .ref m11, .ref m12, .ref m13]))] s.heap.size = A at hD ⊢
  have hA : ∀ q : Nat, s.heap.size ≤ q → A q := fun q h => by rw [← hAe]; exact Or.inr h
  have hS : va_S A s.heap s.heap [] := va_S.rf
  have hP : va_P D vwCl [(h0, .inr (9, [.ref m1, .ref m2, .ref m3, .int ik, .int wy, .int op, .int cl, .int cx0, .int cx1, .int cy0, .int cy1, .int ds, .ref m4, .ref m5, .ref m6, .ref m7, .ref m8, .ref m9, .int pn, .ref m10, .ref m11, .ref m12, .ref m13]))] s.heap := hP
  have hl := lv_entry ([.ref h0, .int v]) (n := 2) (Nat.le_of_ble_eq_true rfl)
  rw [lg_entry_eq]
  generalize (lg_sl ([.ref h0, .int v]) ++ List.replicate (2 - (lg_sl ([.ref h0, .int v])).length) Slot.unset).toArray = ls at hl ⊢
  have hl : lv_has ls 2 [(0, .ref h0), (1, .int v)] := hl
  clear hts0 hD0 hAe
  refine my_abs (fun R Q hR hQ => ?_)
  refine lv_aload_n hx hb dX9_dashes_0 rfl (lv_at hl 0 rfl) ?_
  refine lv_iload_n hx hb dX9_dashes_1 rfl (lv_at hl 1 rfl) ?_
  refine lv_ldc hx hb hown (hts _ bw_402) dX9_dashes_2 ?_
  refine lv_iand hx hb dX9_dashes_4 ?_
  refine lv_topi (fun y_1 ey_1 => ?_)
  refine va_put (D := D) (ci := 9) (v := .int y_1) (ty := .int) (C := RX9) (T := TX9) (N := 23) hx hb hts hi_X9 tyX9 tyX9_ok nmX9 hown hK hP hD hS 0 rfl rfl 11 (by decide) (hts _ bw_403) (fun _ h9 => h9) rfl (by decide +kernel) rfl rfl (Nat.le_of_ble_eq_true rfl) dX9_dashes_5 (fun H locs hP hD hS => ?_)
  have hP : va_P D vwCl [(h0, .inr (9, [.ref m1, .ref m2, .ref m3, .int ik, .int wy, .int op, .int cl, .int cx0, .int cx1, .int cy0, .int cy1, .int y_1, .ref m4, .ref m5, .ref m6, .ref m7, .ref m8, .ref m9, .int pn, .ref m10, .ref m11, .ref m12, .ref m13]))] H := hP
  have hD : va_D A [(h0, .inr (9, [.ref m1, .ref m2, .ref m3, .int ik, .int wy, .int op, .int cl, .int cx0, .int cx1, .int cy0, .int cy1, .int y_1, .ref m4, .ref m5, .ref m6, .ref m7, .ref m8, .ref m9, .int pn, .ref m10, .ref m11, .ref m12, .ref m13]))] := hD
  have hP : va_P D vwCl [(h0, .inr (9, [.ref m1, .ref m2, .ref m3, .int ik, .int wy, .int op, .int cl, .int cx0, .int cx1, .int cy0, .int cy1, .int (v &&& 65535), .ref m4, .ref m5, .ref m6, .ref m7, .ref m8, .ref m9, .int pn, .ref m10, .ref m11, .ref m12, .ref m13]))] H := by subst_vars; exact hP
  have hD : va_D A [(h0, .inr (9, [.ref m1, .ref m2, .ref m3, .int ik, .int wy, .int op, .int cl, .int cx0, .int cx1, .int cy0, .int cy1, .int (v &&& 65535), .ref m4, .ref m5, .ref m6, .ref m7, .ref m8, .ref m9, .int pn, .ref m10, .ref m11, .ref m12, .ref m13]))] := by subst_vars; exact hD
  have hP9 := hP.sub (ws' := [(h0, .inr (9, [.ref m1, .ref m2, .ref m3, .int ik, .int wy, .int op, .int cl, .int cx0, .int cx1, .int cy0, .int cy1, .int (v &&& 65535), .ref m4, .ref m5, .ref m6, .ref m7, .ref m8, .ref m9, .int pn, .ref m10, .ref m11, .ref m12, .ref m13]))]) [0] rfl
  have hD9 := hD.sub (ws' := [(h0, .inr (9, [.ref m1, .ref m2, .ref m3, .int ik, .int wy, .int op, .int cl, .int cx0, .int cx1, .int cy0, .int cy1, .int (v &&& 65535), .ref m4, .ref m5, .ref m6, .ref m7, .ref m8, .ref m9, .int pn, .ref m10, .ref m11, .ref m12, .ref m13]))]) [0] (by decide) rfl
  have hK9 := hK.sub (tys' := []) [] rfl
  refine hQ _ _ _ _ _ ?_
  exact W.vret hx hb hr (fun t ht hW => ⟨⟨(), rfl, trivial, ⟨by rw [ht]; exact hP9, va_K.moved hW.alike hK9, hD9⟩⟩, hS.F ht⟩) hS.2.2 dX9_dashes_8

set_option maxHeartbeats 4000000 in
set_option maxRecDepth 100000 in
theorem k_X9_clear (l : Launch) (D : va_G) (sz : Nat) (h0 m1 m2 m3 m4 m5 m6 m7 m8 m9 m10 m11 m12 m13 : Nat) (ik wy op cl cx0 cx1 cy0 cy1 ds pn : Int32) : Met l yX9_clear (wB yX9_clear cX9_clear 1 none) ({ frames := 0, cells := 0, slots := 0, locals := 0 }) (cP D [(h0, .inr (9, [.ref m1, .ref m2, .ref m3, .int ik, .int wy, .int op, .int cl, .int cx0, .int cx1, .int cy0, .int cy1, .int ds, .ref m4, .ref m5, .ref m6, .ref m7, .ref m8, .ref m9, .int pn, .ref m10, .ref m11, .ref m12, .ref m13]))] [] sz [.ref h0]) (va_Qv (fun (_ : Unit) => True) (fun (_ : Unit) (t : State) => cB D (va_A [(h0, .inr (9, [.ref m1, .ref m2, .ref m3, .int ik, .int wy, .int op, .int cl, .int cx0, .int cx1, .int cy0, .int cy1, .int ds, .ref m4, .ref m5, .ref m6, .ref m7, .ref m8, .ref m9, .int pn, .ref m10, .ref m11, .ref m12, .ref m13]))] sz) [(h0, .inr (9, [.ref m1, .ref m2, .ref m3, .int ik, .int wy, .int op, .int cl, .int cx0, .int cx1, .int cy0, .int cy1, .int ds, .ref m4, .ref m5, .ref m6, .ref m7, .ref m8, .ref m9, .int 0, .ref m10, .ref m11, .ref m12, .ref m13]))] [] t) (va_A [(h0, .inr (9, [.ref m1, .ref m2, .ref m3, .int ik, .int wy, .int op, .int cl, .int cx0, .int cx1, .int cy0, .int cy1, .int ds, .ref m4, .ref m5, .ref m6, .ref m7, .ref m8, .ref m9, .int pn, .ref m10, .ref m11, .ref m12, .ref m13]))] sz)) 0 0 (va_A [(h0, .inr (9, [.ref m1, .ref m2, .ref m3, .int ik, .int wy, .int op, .int cl, .int cx0, .int cx1, .int cy0, .int cy1, .int ds, .ref m4, .ref m5, .ref m6, .ref m7, .ref m8, .ref m9, .int pn, .ref m10, .ref m11, .ref m12, .ref m13]))] sz) := by
  refine Met.ofW (cc := cX9_clear) (maxL := 1) (ret := none) (by decide) rfl ?_
  intro p e s m args below meth c s₁ B hml hv
  obtain ⟨rfl, hsz, hP, hK, hD0, hN⟩ := hv
  have hx := B.exec
  have hb := B.bytes
  have hr := B.returns
  have hts0 := atoms_spec (ws := (wB yX9_clear cX9_clear 1 none)) B.pre
  have hts : ∀ w ∈ bigW, w.before _ s = true := fun w h => hts0 w (List.mem_cons_of_mem _ h)
  have hown : s.vm.findClass RX9 = some m.cls := findClass_of_methodNamed B.named
  have hlocks := B.notSynchronized
  subst hsz
  have hD := hD0.self (sz := s.heap.size)
  generalize hAe : va_A [(h0, .inr (9, [.ref m1, .ref m2, .ref m3, .int ik, .int wy, .int op, .int cl, .int cx0, .int cx1, .int cy0, .int cy1, .int ds, .ref m4, .ref m5, .ref m6, .ref m7, .ref m8, .ref m9, .int pn, .ref m10, .ref m11, .ref m12, .ref m13]))] s.heap.size = A at hD ⊢
  have hA : ∀ q : Nat, s.heap.size ≤ q → A q := fun q h => by rw [← hAe]; exact Or.inr h
  have hS : va_S A s.heap s.heap [] := va_S.rf
  have hP : va_P D vwCl [(h0, .inr (9, [.ref m1, .ref m2, .ref m3, .int ik, .int wy, .int op, .int cl, .int cx0, .int cx1, .int cy0, .int cy1, .int ds, .ref m4, .ref m5, .ref m6, .ref m7, .ref m8, .ref m9, .int pn, .ref m10, .ref m11, .ref m12, .ref m13]))] s.heap := hP
  have hl := lv_entry ([.ref h0]) (n := 1) (Nat.le_of_ble_eq_true rfl)
  rw [lg_entry_eq]
  generalize (lg_sl ([.ref h0]) ++ List.replicate (1 - (lg_sl ([.ref h0])).length) Slot.unset).toArray = ls at hl ⊢
  have hl : lv_has ls 1 [(0, .ref h0)] := hl
  clear hts0 hD0 hAe
  refine my_abs (fun R Q hR hQ => ?_)
  refine lv_aload_n hx hb dX9_clear_0 rfl (lv_at hl 0 rfl) ?_
  refine lv_iconst (v := 0) hx hb dX9_clear_1 (by decide) ?_
  refine va_put (D := D) (ci := 9) (v := .int 0) (ty := .int) (C := RX9) (T := TX9) (N := 23) hx hb hts hi_X9 tyX9 tyX9_ok nmX9 hown hK hP hD hS 0 rfl rfl 18 (by decide) (hts _ bw_506) (fun _ h9 => h9) rfl (by decide +kernel) rfl rfl (Nat.le_of_ble_eq_true rfl) dX9_clear_2 (fun H locs hP hD hS => ?_)
  have hP : va_P D vwCl [(h0, .inr (9, [.ref m1, .ref m2, .ref m3, .int ik, .int wy, .int op, .int cl, .int cx0, .int cx1, .int cy0, .int cy1, .int ds, .ref m4, .ref m5, .ref m6, .ref m7, .ref m8, .ref m9, .int 0, .ref m10, .ref m11, .ref m12, .ref m13]))] H := hP
  have hD : va_D A [(h0, .inr (9, [.ref m1, .ref m2, .ref m3, .int ik, .int wy, .int op, .int cl, .int cx0, .int cx1, .int cy0, .int cy1, .int ds, .ref m4, .ref m5, .ref m6, .ref m7, .ref m8, .ref m9, .int 0, .ref m10, .ref m11, .ref m12, .ref m13]))] := hD
  have hP9 := hP.sub (ws' := [(h0, .inr (9, [.ref m1, .ref m2, .ref m3, .int ik, .int wy, .int op, .int cl, .int cx0, .int cx1, .int cy0, .int cy1, .int ds, .ref m4, .ref m5, .ref m6, .ref m7, .ref m8, .ref m9, .int 0, .ref m10, .ref m11, .ref m12, .ref m13]))]) [0] rfl
  have hD9 := hD.sub (ws' := [(h0, .inr (9, [.ref m1, .ref m2, .ref m3, .int ik, .int wy, .int op, .int cl, .int cx0, .int cx1, .int cy0, .int cy1, .int ds, .ref m4, .ref m5, .ref m6, .ref m7, .ref m8, .ref m9, .int 0, .ref m10, .ref m11, .ref m12, .ref m13]))]) [0] (by decide) rfl
  have hK9 := hK.sub (tys' := []) [] rfl
  refine hQ _ _ _ _ _ ?_
  exact W.vret hx hb hr (fun t ht hW => ⟨⟨(), rfl, trivial, ⟨by rw [ht]; exact hP9, va_K.moved hW.alike hK9, hD9⟩⟩, hS.F ht⟩) hS.2.2 dX9_clear_5

set_option maxHeartbeats 4000000 in
set_option maxRecDepth 100000 in
theorem k_X9_sheet_r (l : Launch) (D : va_G) (sz : Nat) (h0 m1 m2 m3 m4 m5 m6 m7 m8 m9 m10 m11 m12 m13 : Nat) (ik wy op cl cx0 cx1 cy0 cy1 ds pn : Int32) (k wd hi9 : Int32) (hsd : ¬ ((0 ≤ k.toInt ∧ k.toInt ≤ 3) ∧ (1 ≤ wd.toInt ∧ wd.toInt ≤ 64) ∧ (1 ≤ hi9.toInt ∧ hi9.toInt ≤ 64))) : Met l yX9_sheet (wB yX9_sheet cX9_sheet 5 (some .boolean)) ({ frames := 0, cells := 0, slots := 0, locals := 0 }) (cP D [(h0, .inr (9, [.ref m1, .ref m2, .ref m3, .int ik, .int wy, .int op, .int cl, .int cx0, .int cx1, .int cy0, .int cy1, .int ds, .ref m4, .ref m5, .ref m6, .ref m7, .ref m8, .ref m9, .int pn, .ref m10, .ref m11, .ref m12, .ref m13]))] [] sz [.ref h0, .int k, .int wd, .int hi9]) (va_Qi (fun (r : Int32) (_ : Unit) => r = 0) (fun (_ : Unit) (t : State) => cB D (va_A [(h0, .inr (9, [.ref m1, .ref m2, .ref m3, .int ik, .int wy, .int op, .int cl, .int cx0, .int cx1, .int cy0, .int cy1, .int ds, .ref m4, .ref m5, .ref m6, .ref m7, .ref m8, .ref m9, .int pn, .ref m10, .ref m11, .ref m12, .ref m13]))] sz) [(h0, .inr (9, [.ref m1, .ref m2, .ref m3, .int ik, .int wy, .int op, .int cl, .int cx0, .int cx1, .int cy0, .int cy1, .int ds, .ref m4, .ref m5, .ref m6, .ref m7, .ref m8, .ref m9, .int pn, .ref m10, .ref m11, .ref m12, .ref m13]))] [] t) (va_A [(h0, .inr (9, [.ref m1, .ref m2, .ref m3, .int ik, .int wy, .int op, .int cl, .int cx0, .int cx1, .int cy0, .int cy1, .int ds, .ref m4, .ref m5, .ref m6, .ref m7, .ref m8, .ref m9, .int pn, .ref m10, .ref m11, .ref m12, .ref m13]))] sz)) 0 0 (va_A [(h0, .inr (9, [.ref m1, .ref m2, .ref m3, .int ik, .int wy, .int op, .int cl, .int cx0, .int cx1, .int cy0, .int cy1, .int ds, .ref m4, .ref m5, .ref m6, .ref m7, .ref m8, .ref m9, .int pn, .ref m10, .ref m11, .ref m12, .ref m13]))] sz) := by
  refine Met.ofW (cc := cX9_sheet) (maxL := 5) (ret := (some .boolean)) (by decide) rfl ?_
  intro p e s m args below meth c s₁ B hml hv
  obtain ⟨rfl, hsz, hP, hK, hD0, hN⟩ := hv
  have hx := B.exec
  have hb := B.bytes
  have hr := B.returns
  have hts0 := atoms_spec (ws := (wB yX9_sheet cX9_sheet 5 (some .boolean))) B.pre
  have hts : ∀ w ∈ bigW, w.before _ s = true := fun w h => hts0 w (List.mem_cons_of_mem _ h)
  have hown : s.vm.findClass RX9 = some m.cls := findClass_of_methodNamed B.named
  have hlocks := B.notSynchronized
  subst hsz
  have hD := hD0.self (sz := s.heap.size)
  generalize hAe : va_A [(h0, .inr (9, [.ref m1, .ref m2, .ref m3, .int ik, .int wy, .int op, .int cl, .int cx0, .int cx1, .int cy0, .int cy1, .int ds, .ref m4, .ref m5, .ref m6, .ref m7, .ref m8, .ref m9, .int pn, .ref m10, .ref m11, .ref m12, .ref m13]))] s.heap.size = A at hD ⊢
  have hA : ∀ q : Nat, s.heap.size ≤ q → A q := fun q h => by rw [← hAe]; exact Or.inr h
  have hS : va_S A s.heap s.heap [] := va_S.rf
  have hP : va_P D vwCl [(h0, .inr (9, [.ref m1, .ref m2, .ref m3, .int ik, .int wy, .int op, .int cl, .int cx0, .int cx1, .int cy0, .int cy1, .int ds, .ref m4, .ref m5, .ref m6, .ref m7, .ref m8, .ref m9, .int pn, .ref m10, .ref m11, .ref m12, .ref m13]))] s.heap := hP
  have hl := lv_entry ([.ref h0, .int k, .int wd, .int hi9]) (n := 5) (Nat.le_of_ble_eq_true rfl)
  rw [lg_entry_eq]
  generalize (lg_sl ([.ref h0, .int k, .int wd, .int hi9]) ++ List.replicate (5 - (lg_sl ([.ref h0, .int k, .int wd, .int hi9])).length) Slot.unset).toArray = ls at hl ⊢
  have hl : lv_has ls 5 [(0, .ref h0), (1, .int k), (2, .int wd), (3, .int hi9)] := hl
  clear hts0 hD0 hAe
  refine my_abs (fun R Q hR hQ => ?_)
  refine lv_iload_n hx hb dX9_sheet_0 rfl (lv_at hl 1 rfl) ?_
  refine lv_if_lt (tgt := 31) hx hb dX9_sheet_1 (by decide) (fun c_1 => ?_) (fun c_1 => ?_)
  · skip
    have f_2 : k.toInt < 0 := f_lt rfl (by decide) c_1
    refine lv_iconst (v := 0) hx hb dX9_sheet_31 (by decide) ?_
    have hP9 := hP.sub (ws' := [(h0, .inr (9, [.ref m1, .ref m2, .ref m3, .int ik, .int wy, .int op, .int cl, .int cx0, .int cx1, .int cy0, .int cy1, .int ds, .ref m4, .ref m5, .ref m6, .ref m7, .ref m8, .ref m9, .int pn, .ref m10, .ref m11, .ref m12, .ref m13]))]) [0] rfl
    have hD9 := hD.sub (ws' := [(h0, .inr (9, [.ref m1, .ref m2, .ref m3, .int ik, .int wy, .int op, .int cl, .int cx0, .int cx1, .int cy0, .int cy1, .int ds, .ref m4, .ref m5, .ref m6, .ref m7, .ref m8, .ref m9, .int pn, .ref m10, .ref m11, .ref m12, .ref m13]))]) [0] (by decide) rfl
    have hK9 := hK.sub (tys' := []) [] rfl
    refine hQ _ _ _ _ _ ?_
    exact W.zret (v := 0) hx hb hr rfl (fun t ht hW => ⟨⟨0, (), rfl, rfl, ⟨by rw [ht]; exact hP9, va_K.moved hW.alike hK9, hD9⟩⟩, hS.F ht⟩) hS.2.2 dX9_sheet_32
  · skip
    have f_2 : ¬ (k.toInt < 0) := fn_lt rfl (by decide) c_1
    refine lv_iload_n hx hb dX9_sheet_4 rfl (lv_at hl 1 rfl) ?_
    refine lv_iconst (v := 3) hx hb dX9_sheet_5 (by decide) ?_
    refine lv_icmp_gt (tgt := 31) hx hb dX9_sheet_6 (by decide) (fun c_3 => ?_) (fun c_3 => ?_)
    · skip
      have f_4 : 3 < k.toInt := f_lt (by decide) rfl c_3
      refine lv_iconst (v := 0) hx hb dX9_sheet_31 (by decide) ?_
      have hP9 := hP.sub (ws' := [(h0, .inr (9, [.ref m1, .ref m2, .ref m3, .int ik, .int wy, .int op, .int cl, .int cx0, .int cx1, .int cy0, .int cy1, .int ds, .ref m4, .ref m5, .ref m6, .ref m7, .ref m8, .ref m9, .int pn, .ref m10, .ref m11, .ref m12, .ref m13]))]) [0] rfl
      have hD9 := hD.sub (ws' := [(h0, .inr (9, [.ref m1, .ref m2, .ref m3, .int ik, .int wy, .int op, .int cl, .int cx0, .int cx1, .int cy0, .int cy1, .int ds, .ref m4, .ref m5, .ref m6, .ref m7, .ref m8, .ref m9, .int pn, .ref m10, .ref m11, .ref m12, .ref m13]))]) [0] (by decide) rfl
      have hK9 := hK.sub (tys' := []) [] rfl
      refine hQ _ _ _ _ _ ?_
      exact W.zret (v := 0) hx hb hr rfl (fun t ht hW => ⟨⟨0, (), rfl, rfl, ⟨by rw [ht]; exact hP9, va_K.moved hW.alike hK9, hD9⟩⟩, hS.F ht⟩) hS.2.2 dX9_sheet_32
    · skip
      have f_4 : ¬ (3 < k.toInt) := fn_lt (by decide) rfl c_3
      refine lv_iload_n hx hb dX9_sheet_9 rfl (lv_at hl 2 rfl) ?_
      refine lv_iconst (v := 1) hx hb dX9_sheet_10 (by decide) ?_
      refine lv_icmp_lt (tgt := 31) hx hb dX9_sheet_11 (by decide) (fun c_5 => ?_) (fun c_5 => ?_)
      · skip
        have f_6 : wd.toInt < 1 := f_lt rfl (by decide) c_5
        refine lv_iconst (v := 0) hx hb dX9_sheet_31 (by decide) ?_
        have hP9 := hP.sub (ws' := [(h0, .inr (9, [.ref m1, .ref m2, .ref m3, .int ik, .int wy, .int op, .int cl, .int cx0, .int cx1, .int cy0, .int cy1, .int ds, .ref m4, .ref m5, .ref m6, .ref m7, .ref m8, .ref m9, .int pn, .ref m10, .ref m11, .ref m12, .ref m13]))]) [0] rfl
        have hD9 := hD.sub (ws' := [(h0, .inr (9, [.ref m1, .ref m2, .ref m3, .int ik, .int wy, .int op, .int cl, .int cx0, .int cx1, .int cy0, .int cy1, .int ds, .ref m4, .ref m5, .ref m6, .ref m7, .ref m8, .ref m9, .int pn, .ref m10, .ref m11, .ref m12, .ref m13]))]) [0] (by decide) rfl
        have hK9 := hK.sub (tys' := []) [] rfl
        refine hQ _ _ _ _ _ ?_
        exact W.zret (v := 0) hx hb hr rfl (fun t ht hW => ⟨⟨0, (), rfl, rfl, ⟨by rw [ht]; exact hP9, va_K.moved hW.alike hK9, hD9⟩⟩, hS.F ht⟩) hS.2.2 dX9_sheet_32
      · skip
        have f_6 : ¬ (wd.toInt < 1) := fn_lt rfl (by decide) c_5
        refine lv_iload_n hx hb dX9_sheet_14 rfl (lv_at hl 2 rfl) ?_
        refine lv_bipush (v := 64) hx hb dX9_sheet_15 (by decide) ?_
        refine lv_icmp_gt (tgt := 31) hx hb dX9_sheet_17 (by decide) (fun c_7 => ?_) (fun c_7 => ?_)
        · skip
          have f_8 : 64 < wd.toInt := f_lt (by decide) rfl c_7
          refine lv_iconst (v := 0) hx hb dX9_sheet_31 (by decide) ?_
          have hP9 := hP.sub (ws' := [(h0, .inr (9, [.ref m1, .ref m2, .ref m3, .int ik, .int wy, .int op, .int cl, .int cx0, .int cx1, .int cy0, .int cy1, .int ds, .ref m4, .ref m5, .ref m6, .ref m7, .ref m8, .ref m9, .int pn, .ref m10, .ref m11, .ref m12, .ref m13]))]) [0] rfl
          have hD9 := hD.sub (ws' := [(h0, .inr (9, [.ref m1, .ref m2, .ref m3, .int ik, .int wy, .int op, .int cl, .int cx0, .int cx1, .int cy0, .int cy1, .int ds, .ref m4, .ref m5, .ref m6, .ref m7, .ref m8, .ref m9, .int pn, .ref m10, .ref m11, .ref m12, .ref m13]))]) [0] (by decide) rfl
          have hK9 := hK.sub (tys' := []) [] rfl
          refine hQ _ _ _ _ _ ?_
          exact W.zret (v := 0) hx hb hr rfl (fun t ht hW => ⟨⟨0, (), rfl, rfl, ⟨by rw [ht]; exact hP9, va_K.moved hW.alike hK9, hD9⟩⟩, hS.F ht⟩) hS.2.2 dX9_sheet_32
        · skip
          have f_8 : ¬ (64 < wd.toInt) := fn_lt (by decide) rfl c_7
          refine lv_iload_n hx hb dX9_sheet_20 rfl (lv_at hl 3 rfl) ?_
          refine lv_iconst (v := 1) hx hb dX9_sheet_21 (by decide) ?_
          refine lv_icmp_lt (tgt := 31) hx hb dX9_sheet_22 (by decide) (fun c_9 => ?_) (fun c_9 => ?_)
          · skip
            have f_10 : hi9.toInt < 1 := f_lt rfl (by decide) c_9
            refine lv_iconst (v := 0) hx hb dX9_sheet_31 (by decide) ?_
            have hP9 := hP.sub (ws' := [(h0, .inr (9, [.ref m1, .ref m2, .ref m3, .int ik, .int wy, .int op, .int cl, .int cx0, .int cx1, .int cy0, .int cy1, .int ds, .ref m4, .ref m5, .ref m6, .ref m7, .ref m8, .ref m9, .int pn, .ref m10, .ref m11, .ref m12, .ref m13]))]) [0] rfl
            have hD9 := hD.sub (ws' := [(h0, .inr (9, [.ref m1, .ref m2, .ref m3, .int ik, .int wy, .int op, .int cl, .int cx0, .int cx1, .int cy0, .int cy1, .int ds, .ref m4, .ref m5, .ref m6, .ref m7, .ref m8, .ref m9, .int pn, .ref m10, .ref m11, .ref m12, .ref m13]))]) [0] (by decide) rfl
            have hK9 := hK.sub (tys' := []) [] rfl
            refine hQ _ _ _ _ _ ?_
            exact W.zret (v := 0) hx hb hr rfl (fun t ht hW => ⟨⟨0, (), rfl, rfl, ⟨by rw [ht]; exact hP9, va_K.moved hW.alike hK9, hD9⟩⟩, hS.F ht⟩) hS.2.2 dX9_sheet_32
          · skip
            have f_10 : ¬ (hi9.toInt < 1) := fn_lt rfl (by decide) c_9
            refine lv_iload_n hx hb dX9_sheet_25 rfl (lv_at hl 3 rfl) ?_
            refine lv_bipush (v := 64) hx hb dX9_sheet_26 (by decide) ?_
            refine lv_icmp_le (tgt := 33) hx hb dX9_sheet_28 (by decide) (fun c_11 => ?_) (fun c_11 => ?_)
            · skip
              have f_12 : hi9.toInt ≤ 64 := f_le rfl (by decide) c_11
              exact False.elim (by omega)
            · skip
              have f_12 : ¬ (hi9.toInt ≤ 64) := fn_le rfl (by decide) c_11
              refine lv_iconst (v := 0) hx hb dX9_sheet_31 (by decide) ?_
              have hP9 := hP.sub (ws' := [(h0, .inr (9, [.ref m1, .ref m2, .ref m3, .int ik, .int wy, .int op, .int cl, .int cx0, .int cx1, .int cy0, .int cy1, .int ds, .ref m4, .ref m5, .ref m6, .ref m7, .ref m8, .ref m9, .int pn, .ref m10, .ref m11, .ref m12, .ref m13]))]) [0] rfl
              have hD9 := hD.sub (ws' := [(h0, .inr (9, [.ref m1, .ref m2, .ref m3, .int ik, .int wy, .int op, .int cl, .int cx0, .int cx1, .int cy0, .int cy1, .int ds, .ref m4, .ref m5, .ref m6, .ref m7, .ref m8, .ref m9, .int pn, .ref m10, .ref m11, .ref m12, .ref m13]))]) [0] (by decide) rfl
              have hK9 := hK.sub (tys' := []) [] rfl
              refine hQ _ _ _ _ _ ?_
              exact W.zret (v := 0) hx hb hr rfl (fun t ht hW => ⟨⟨0, (), rfl, rfl, ⟨by rw [ht]; exact hP9, va_K.moved hW.alike hK9, hD9⟩⟩, hS.F ht⟩) hS.2.2 dX9_sheet_32

set_option maxHeartbeats 4000000 in
set_option maxRecDepth 100000 in
theorem k_X9_sheet_y (l : Launch) (D : va_G) (sz : Nat) (h0 m1 m2 m3 m4 m5 m6 m7 m8 m9 m10 m11 m12 m13 : Nat) (ik wy op cl cx0 cx1 cy0 cy1 ds pn : Int32) (gw : Nat → Int32) (gh : Nat → Int32) (gd : Nat → Int32) (k wd hi9 : Int32) (cI : ClassId) (hsd : (0 ≤ k.toInt ∧ k.toInt ≤ 3) ∧ (1 ≤ wd.toInt ∧ wd.toInt ≤ 64) ∧ (1 ≤ hi9.toInt ∧ hi9.toInt ≤ 64)) : Met l yX9_sheet (wB yX9_sheet cX9_sheet 5 (some .boolean)) ({ frames := 0, cells := 0, slots := 0, locals := 0 }) (cP D [(h0, .inr (9, [.ref m1, .ref m2, .ref m3, .int ik, .int wy, .int op, .int cl, .int cx0, .int cx1, .int cy0, .int cy1, .int ds, .ref m4, .ref m5, .ref m6, .ref m7, .ref m8, .ref m9, .int pn, .ref m10, .ref m11, .ref m12, .ref m13])), (m1, .inl (cI, 4, .inl gw)), (m2, .inl (cI, 4, .inl gh)), (m3, .inl (cI, 16384, .inl gd))] [(cI, .int)] sz [.ref h0, .int k, .int wd, .int hi9]) (va_Qi (fun (r : Int32) (_ : Unit) => r = 1) (fun (_ : Unit) (t : State) => cB D (va_A [(h0, .inr (9, [.ref m1, .ref m2, .ref m3, .int ik, .int wy, .int op, .int cl, .int cx0, .int cx1, .int cy0, .int cy1, .int ds, .ref m4, .ref m5, .ref m6, .ref m7, .ref m8, .ref m9, .int pn, .ref m10, .ref m11, .ref m12, .ref m13])), (m1, .inl (cI, 4, .inl gw)), (m2, .inl (cI, 4, .inl gh)), (m3, .inl (cI, 16384, .inl gd))] sz) [(h0, .inr (9, [.ref m1, .ref m2, .ref m3, .int ik, .int wy, .int op, .int cl, .int cx0, .int cx1, .int cy0, .int cy1, .int ds, .ref m4, .ref m5, .ref m6, .ref m7, .ref m8, .ref m9, .int pn, .ref m10, .ref m11, .ref m12, .ref m13])), (m1, .inl (cI, 4, .inl (upd gw k.toNatClampNeg wd))), (m2, .inl (cI, 4, .inl (upd gh k.toNatClampNeg hi9))), (m3, .inl (cI, 16384, .inl (zrK gd k.toNatClampNeg 4096)))] [(cI, .int)] t) (va_A [(h0, .inr (9, [.ref m1, .ref m2, .ref m3, .int ik, .int wy, .int op, .int cl, .int cx0, .int cx1, .int cy0, .int cy1, .int ds, .ref m4, .ref m5, .ref m6, .ref m7, .ref m8, .ref m9, .int pn, .ref m10, .ref m11, .ref m12, .ref m13])), (m1, .inl (cI, 4, .inl gw)), (m2, .inl (cI, 4, .inl gh)), (m3, .inl (cI, 16384, .inl gd))] sz)) 0 0 (va_A [(h0, .inr (9, [.ref m1, .ref m2, .ref m3, .int ik, .int wy, .int op, .int cl, .int cx0, .int cx1, .int cy0, .int cy1, .int ds, .ref m4, .ref m5, .ref m6, .ref m7, .ref m8, .ref m9, .int pn, .ref m10, .ref m11, .ref m12, .ref m13])), (m1, .inl (cI, 4, .inl gw)), (m2, .inl (cI, 4, .inl gh)), (m3, .inl (cI, 16384, .inl gd))] sz) := by
  refine Met.ofW (cc := cX9_sheet) (maxL := 5) (ret := (some .boolean)) (by decide) rfl ?_
  intro p e s m args below meth c s₁ B hml hv
  obtain ⟨rfl, hsz, hP, hK, hD0, hN⟩ := hv
  have hx := B.exec
  have hb := B.bytes
  have hr := B.returns
  have hts0 := atoms_spec (ws := (wB yX9_sheet cX9_sheet 5 (some .boolean))) B.pre
  have hts : ∀ w ∈ bigW, w.before _ s = true := fun w h => hts0 w (List.mem_cons_of_mem _ h)
  have hown : s.vm.findClass RX9 = some m.cls := findClass_of_methodNamed B.named
  have hlocks := B.notSynchronized
  subst hsz
  have hD := hD0.self (sz := s.heap.size)
  generalize hAe : va_A [(h0, .inr (9, [.ref m1, .ref m2, .ref m3, .int ik, .int wy, .int op, .int cl, .int cx0, .int cx1, .int cy0, .int cy1, .int ds, .ref m4, .ref m5, .ref m6, .ref m7, .ref m8, .ref m9, .int pn, .ref m10, .ref m11, .ref m12, .ref m13])), (m1, .inl (cI, 4, .inl gw)), (m2, .inl (cI, 4, .inl gh)), (m3, .inl (cI, 16384, .inl gd))] s.heap.size = A at hD ⊢
  have hA : ∀ q : Nat, s.heap.size ≤ q → A q := fun q h => by rw [← hAe]; exact Or.inr h
  have hS : va_S A s.heap s.heap [] := va_S.rf
  have hP : va_P D vwCl [(h0, .inr (9, [.ref m1, .ref m2, .ref m3, .int ik, .int wy, .int op, .int cl, .int cx0, .int cx1, .int cy0, .int cy1, .int ds, .ref m4, .ref m5, .ref m6, .ref m7, .ref m8, .ref m9, .int pn, .ref m10, .ref m11, .ref m12, .ref m13])), (m1, .inl (cI, 4, .inl gw)), (m2, .inl (cI, 4, .inl gh)), (m3, .inl (cI, 16384, .inl gd))] s.heap := hP
  have hl := lv_entry ([.ref h0, .int k, .int wd, .int hi9]) (n := 5) (Nat.le_of_ble_eq_true rfl)
  rw [lg_entry_eq]
  generalize (lg_sl ([.ref h0, .int k, .int wd, .int hi9]) ++ List.replicate (5 - (lg_sl ([.ref h0, .int k, .int wd, .int hi9])).length) Slot.unset).toArray = ls at hl ⊢
  have hl : lv_has ls 5 [(0, .ref h0), (1, .int k), (2, .int wd), (3, .int hi9)] := hl
  clear hts0 hD0 hAe
  refine my_abs (fun R Q hR hQ => ?_)
  refine lv_iload_n hx hb dX9_sheet_0 rfl (lv_at hl 1 rfl) ?_
  refine lv_if_lt (tgt := 31) hx hb dX9_sheet_1 (by decide) (fun c_1 => ?_) (fun c_1 => ?_)
  · skip
    have f_2 : k.toInt < 0 := f_lt rfl (by decide) c_1
    exact False.elim (by omega)
  · skip
    have f_2 : ¬ (k.toInt < 0) := fn_lt rfl (by decide) c_1
    refine lv_iload_n hx hb dX9_sheet_4 rfl (lv_at hl 1 rfl) ?_
    refine lv_iconst (v := 3) hx hb dX9_sheet_5 (by decide) ?_
    refine lv_icmp_gt (tgt := 31) hx hb dX9_sheet_6 (by decide) (fun c_3 => ?_) (fun c_3 => ?_)
    · skip
      have f_4 : 3 < k.toInt := f_lt (by decide) rfl c_3
      exact False.elim (by omega)
    · skip
      have f_4 : ¬ (3 < k.toInt) := fn_lt (by decide) rfl c_3
      refine lv_iload_n hx hb dX9_sheet_9 rfl (lv_at hl 2 rfl) ?_
      refine lv_iconst (v := 1) hx hb dX9_sheet_10 (by decide) ?_
      refine lv_icmp_lt (tgt := 31) hx hb dX9_sheet_11 (by decide) (fun c_5 => ?_) (fun c_5 => ?_)
      · skip
        have f_6 : wd.toInt < 1 := f_lt rfl (by decide) c_5
        exact False.elim (by omega)
      · skip
        have f_6 : ¬ (wd.toInt < 1) := fn_lt rfl (by decide) c_5
        refine lv_iload_n hx hb dX9_sheet_14 rfl (lv_at hl 2 rfl) ?_
        refine lv_bipush (v := 64) hx hb dX9_sheet_15 (by decide) ?_
        refine lv_icmp_gt (tgt := 31) hx hb dX9_sheet_17 (by decide) (fun c_7 => ?_) (fun c_7 => ?_)
        · skip
          have f_8 : 64 < wd.toInt := f_lt (by decide) rfl c_7
          exact False.elim (by omega)
        · skip
          have f_8 : ¬ (64 < wd.toInt) := fn_lt (by decide) rfl c_7
          refine lv_iload_n hx hb dX9_sheet_20 rfl (lv_at hl 3 rfl) ?_
          refine lv_iconst (v := 1) hx hb dX9_sheet_21 (by decide) ?_
          refine lv_icmp_lt (tgt := 31) hx hb dX9_sheet_22 (by decide) (fun c_9 => ?_) (fun c_9 => ?_)
          · skip
            have f_10 : hi9.toInt < 1 := f_lt rfl (by decide) c_9
            exact False.elim (by omega)
          · skip
            have f_10 : ¬ (hi9.toInt < 1) := fn_lt rfl (by decide) c_9
            refine lv_iload_n hx hb dX9_sheet_25 rfl (lv_at hl 3 rfl) ?_
            refine lv_bipush (v := 64) hx hb dX9_sheet_26 (by decide) ?_
            refine lv_icmp_le (tgt := 33) hx hb dX9_sheet_28 (by decide) (fun c_11 => ?_) (fun c_11 => ?_)
            · skip
              have f_12 : hi9.toInt ≤ 64 := f_le rfl (by decide) c_11
              refine lv_aload_n hx hb dX9_sheet_33 rfl (lv_at hl 0 rfl) ?_
              refine va_get (D := D) (ci := 9) (v := .ref m1) (C := RX9) (T := TX9) (N := 23) hx hb hts hi_X9 hown hK hP 0 rfl rfl 0 (by decide) (hts _ bw_396) (fun _ h9 => h9) rfl dX9_sheet_34 ?_
              refine lv_iload_n hx hb dX9_sheet_37 rfl (lv_at hl 1 rfl) ?_
              refine lv_iload_n hx hb dX9_sheet_38 rfl (lv_at hl 2 rfl) ?_
              refine va_iast hx hb hK hP hD hS 1 0 rfl rfl (vp_in_iff.mpr ⟨by omega, by omega⟩) dX9_sheet_39 (fun H locs hP hD hS => ?_)
              have hP : va_P D vwCl [(h0, .inr (9, [.ref m1, .ref m2, .ref m3, .int ik, .int wy, .int op, .int cl, .int cx0, .int cx1, .int cy0, .int cy1, .int ds, .ref m4, .ref m5, .ref m6, .ref m7, .ref m8, .ref m9, .int pn, .ref m10, .ref m11, .ref m12, .ref m13])), (m1, .inl (cI, 4, .inl (upd gw k.toNatClampNeg wd))), (m2, .inl (cI, 4, .inl gh)), (m3, .inl (cI, 16384, .inl gd))] H := hP
              have hD : va_D A [(h0, .inr (9, [.ref m1, .ref m2, .ref m3, .int ik, .int wy, .int op, .int cl, .int cx0, .int cx1, .int cy0, .int cy1, .int ds, .ref m4, .ref m5, .ref m6, .ref m7, .ref m8, .ref m9, .int pn, .ref m10, .ref m11, .ref m12, .ref m13])), (m1, .inl (cI, 4, .inl (upd gw k.toNatClampNeg wd))), (m2, .inl (cI, 4, .inl gh)), (m3, .inl (cI, 16384, .inl gd))] := hD
              generalize eg_13 : upd gw k.toNatClampNeg wd = g_13 at hP hD
              have hP : va_P D vwCl [(h0, .inr (9, [.ref m1, .ref m2, .ref m3, .int ik, .int wy, .int op, .int cl, .int cx0, .int cx1, .int cy0, .int cy1, .int ds, .ref m4, .ref m5, .ref m6, .ref m7, .ref m8, .ref m9, .int pn, .ref m10, .ref m11, .ref m12, .ref m13])), (m1, .inl (cI, 4, .inl g_13)), (m2, .inl (cI, 4, .inl gh)), (m3, .inl (cI, 16384, .inl gd))] H := hP
              have hD : va_D A [(h0, .inr (9, [.ref m1, .ref m2, .ref m3, .int ik, .int wy, .int op, .int cl, .int cx0, .int cx1, .int cy0, .int cy1, .int ds, .ref m4, .ref m5, .ref m6, .ref m7, .ref m8, .ref m9, .int pn, .ref m10, .ref m11, .ref m12, .ref m13])), (m1, .inl (cI, 4, .inl g_13)), (m2, .inl (cI, 4, .inl gh)), (m3, .inl (cI, 16384, .inl gd))] := hD
              refine lv_aload_n hx hb dX9_sheet_40 rfl (lv_at hl 0 rfl) ?_
              refine va_get (D := D) (ci := 9) (v := .ref m2) (C := RX9) (T := TX9) (N := 23) hx hb hts hi_X9 hown hK hP 0 rfl rfl 1 (by decide) (hts _ bw_397) (fun _ h9 => h9) rfl dX9_sheet_41 ?_
              refine lv_iload_n hx hb dX9_sheet_44 rfl (lv_at hl 1 rfl) ?_
              refine lv_iload_n hx hb dX9_sheet_45 rfl (lv_at hl 3 rfl) ?_
              refine va_iast hx hb hK hP hD hS 2 0 rfl rfl (vp_in_iff.mpr ⟨by omega, by omega⟩) dX9_sheet_46 (fun H locs hP hD hS => ?_)
              have hP : va_P D vwCl [(h0, .inr (9, [.ref m1, .ref m2, .ref m3, .int ik, .int wy, .int op, .int cl, .int cx0, .int cx1, .int cy0, .int cy1, .int ds, .ref m4, .ref m5, .ref m6, .ref m7, .ref m8, .ref m9, .int pn, .ref m10, .ref m11, .ref m12, .ref m13])), (m1, .inl (cI, 4, .inl g_13)), (m2, .inl (cI, 4, .inl (upd gh k.toNatClampNeg hi9))), (m3, .inl (cI, 16384, .inl gd))] H := hP
              have hD : va_D A [(h0, .inr (9, [.ref m1, .ref m2, .ref m3, .int ik, .int wy, .int op, .int cl, .int cx0, .int cx1, .int cy0, .int cy1, .int ds, .ref m4, .ref m5, .ref m6, .ref m7, .ref m8, .ref m9, .int pn, .ref m10, .ref m11, .ref m12, .ref m13])), (m1, .inl (cI, 4, .inl g_13)), (m2, .inl (cI, 4, .inl (upd gh k.toNatClampNeg hi9))), (m3, .inl (cI, 16384, .inl gd))] := hD
              generalize eg_14 : upd gh k.toNatClampNeg hi9 = g_14 at hP hD
              have hP : va_P D vwCl [(h0, .inr (9, [.ref m1, .ref m2, .ref m3, .int ik, .int wy, .int op, .int cl, .int cx0, .int cx1, .int cy0, .int cy1, .int ds, .ref m4, .ref m5, .ref m6, .ref m7, .ref m8, .ref m9, .int pn, .ref m10, .ref m11, .ref m12, .ref m13])), (m1, .inl (cI, 4, .inl g_13)), (m2, .inl (cI, 4, .inl g_14)), (m3, .inl (cI, 16384, .inl gd))] H := hP
              have hD : va_D A [(h0, .inr (9, [.ref m1, .ref m2, .ref m3, .int ik, .int wy, .int op, .int cl, .int cx0, .int cx1, .int cy0, .int cy1, .int ds, .ref m4, .ref m5, .ref m6, .ref m7, .ref m8, .ref m9, .int pn, .ref m10, .ref m11, .ref m12, .ref m13])), (m1, .inl (cI, 4, .inl g_13)), (m2, .inl (cI, 4, .inl g_14)), (m3, .inl (cI, 16384, .inl gd))] := hD
              obtain ⟨kk, hkk, ek⟩ := i_of (x := k) (N := 4) (by omega) (by omega) (by decide)
              have ekn : k.toNatClampNeg = kk := by rw [ek]; exact nI_clamp (by omega)
              refine lv_iconst (v := 0) hx hb dX9_sheet_47 (by decide) ?_
              refine lv_istore (lv' := [(4, .int 0), (0, .ref h0), (1, .int k), (2, .int wd), (3, .int hi9)]) hx hb dX9_sheet_48 hl (by decide) rfl (fun ls hl => ?_)
              have loop_15 : ∀ (n : Nat) (i : Nat) (x4 : Int32) (gg : Nat → Int32) (H : Heap) (locs : List Loc) (ls : Array Slot), (i ≤ 4096) → (4096 + 1 ≤ i + n) → (x4 = nI i) → (gg = zrK gd kk i) → va_P D vwCl [(h0, .inr (9, [.ref m1, .ref m2, .ref m3, .int ik, .int wy, .int op, .int cl, .int cx0, .int cx1, .int cy0, .int cy1, .int ds, .ref m4, .ref m5, .ref m6, .ref m7, .ref m8, .ref m9, .int pn, .ref m10, .ref m11, .ref m12, .ref m13])), (m1, .inl (cI, 4, .inl g_13)), (m2, .inl (cI, 4, .inl g_14)), (m3, .inl (cI, 16384, .inl gg))] H → va_D A [(h0, .inr (9, [.ref m1, .ref m2, .ref m3, .int ik, .int wy, .int op, .int cl, .int cx0, .int cx1, .int cy0, .int cy1, .int ds, .ref m4, .ref m5, .ref m6, .ref m7, .ref m8, .ref m9, .int pn, .ref m10, .ref m11, .ref m12, .ref m13])), (m1, .inl (cI, 4, .inl g_13)), (m2, .inl (cI, 4, .inl g_14)), (m3, .inl (cI, 16384, .inl gg))] → va_S A s.heap H locs → lv_has ls 5 [(4, .int x4), (0, .ref h0), (1, .int k), (2, .int wd), (3, .int hi9)] → W p l e R s m ([.ref h0, .int k, .int wd, .int hi9] : List Value).toArray below meth c H locs 0 0 Q (F0 m 50 ls []) := by
                intro n
                induction n with
                | zero =>
                  intro i x4 gg H locs ls hi_i hm_i ex_i hg hP hD hS hl
                  exact absurd (show False by omega) not_false
                | succ n ih_16 =>
                  intro i x4 gg H locs ls hi_i hm_i ex_i hg hP hD hS hl
                  have hx_i : x4.toInt = (i : Int) := by rw [ex_i]; exact nI_toInt (by omega)
                  have hc_i : x4.toNatClampNeg = i := by rw [ex_i]; exact nI_clamp (by omega)
                  refine lv_iload hx hb dX9_sheet_50 (lv_at hl 0 rfl) ?_
                  refine lv_sipush (v := 4096) hx hb dX9_sheet_52 (by decide) ?_
                  refine lv_icmp_ge (tgt := 78) hx hb dX9_sheet_55 (by decide) (fun c_17 => ?_) (fun c_17 => ?_)
                  · skip
                    have f_18 : 4096 ≤ (i : Int) := f_le (by decide) hx_i c_17
                    refine lv_iconst (v := 1) hx hb dX9_sheet_78 (by decide) ?_
                    have hc : g_13 = upd gw k.toNatClampNeg wd := eg_13.symm
                    rw [hc] at hP hD
                    have hc : g_14 = upd gh k.toNatClampNeg hi9 := eg_14.symm
                    rw [hc] at hP hD
                    have hc : gg = zrK gd k.toNatClampNeg 4096 := by rw [hg, ekn, show i = 4096 by omega]
                    rw [hc] at hP hD
                    have hP9 := hP.sub (ws' := [(h0, .inr (9, [.ref m1, .ref m2, .ref m3, .int ik, .int wy, .int op, .int cl, .int cx0, .int cx1, .int cy0, .int cy1, .int ds, .ref m4, .ref m5, .ref m6, .ref m7, .ref m8, .ref m9, .int pn, .ref m10, .ref m11, .ref m12, .ref m13])), (m1, .inl (cI, 4, .inl (upd gw k.toNatClampNeg wd))), (m2, .inl (cI, 4, .inl (upd gh k.toNatClampNeg hi9))), (m3, .inl (cI, 16384, .inl (zrK gd k.toNatClampNeg 4096)))]) [0, 1, 2, 3] rfl
                    have hD9 := hD.sub (ws' := [(h0, .inr (9, [.ref m1, .ref m2, .ref m3, .int ik, .int wy, .int op, .int cl, .int cx0, .int cx1, .int cy0, .int cy1, .int ds, .ref m4, .ref m5, .ref m6, .ref m7, .ref m8, .ref m9, .int pn, .ref m10, .ref m11, .ref m12, .ref m13])), (m1, .inl (cI, 4, .inl (upd gw k.toNatClampNeg wd))), (m2, .inl (cI, 4, .inl (upd gh k.toNatClampNeg hi9))), (m3, .inl (cI, 16384, .inl (zrK gd k.toNatClampNeg 4096)))]) [0, 1, 2, 3] (by decide) rfl
                    have hK9 := hK.sub (tys' := [(cI, .int)]) [0] rfl
                    refine hQ _ _ _ _ _ ?_
                    exact W.zret (v := 1) hx hb hr rfl (fun t ht hW => ⟨⟨1, (), rfl, rfl, ⟨by rw [ht]; exact hP9, va_K.moved hW.alike hK9, hD9⟩⟩, hS.F ht⟩) hS.2.2 dX9_sheet_79
                  · skip
                    have f_18 : ¬ (4096 ≤ (i : Int)) := fn_le (by decide) hx_i c_17
                    refine lv_aload_n hx hb dX9_sheet_58 rfl (lv_at hl 1 rfl) ?_
                    refine va_get (D := D) (ci := 9) (v := .ref m3) (C := RX9) (T := TX9) (N := 23) hx hb hts hi_X9 hown hK hP 0 rfl rfl 2 (by decide) (hts _ bw_398) (fun _ h9 => h9) rfl dX9_sheet_59 ?_
                    refine lv_sipush (v := 4096) hx hb dX9_sheet_62 (by decide) ?_
                    refine lv_iload_n hx hb dX9_sheet_65 rfl (lv_at hl 2 rfl) ?_
                    refine lv_imul hx hb dX9_sheet_66 ?_
                    refine lv_topi (fun y_19 ey_19 => ?_)
                    refine lv_iload hx hb dX9_sheet_67 (lv_at hl 0 rfl) ?_
                    refine lv_iadd hx hb dX9_sheet_69 ?_
                    refine lv_topi (fun y_20 ey_20 => ?_)
                    refine lv_iconst (v := 0) hx hb dX9_sheet_70 (by decide) ?_
                    refine va_iast hx hb hK hP hD hS 3 0 rfl rfl (by rw [ey_20, ey_19, ek, ex_i]; exact lp_in hkk (by omega)) dX9_sheet_71 (fun H locs hP hD hS => ?_)
                    have hP : va_P D vwCl [(h0, .inr (9, [.ref m1, .ref m2, .ref m3, .int ik, .int wy, .int op, .int cl, .int cx0, .int cx1, .int cy0, .int cy1, .int ds, .ref m4, .ref m5, .ref m6, .ref m7, .ref m8, .ref m9, .int pn, .ref m10, .ref m11, .ref m12, .ref m13])), (m1, .inl (cI, 4, .inl g_13)), (m2, .inl (cI, 4, .inl g_14)), (m3, .inl (cI, 16384, .inl (upd gg y_20.toNatClampNeg 0)))] H := hP
                    have hD : va_D A [(h0, .inr (9, [.ref m1, .ref m2, .ref m3, .int ik, .int wy, .int op, .int cl, .int cx0, .int cx1, .int cy0, .int cy1, .int ds, .ref m4, .ref m5, .ref m6, .ref m7, .ref m8, .ref m9, .int pn, .ref m10, .ref m11, .ref m12, .ref m13])), (m1, .inl (cI, 4, .inl g_13)), (m2, .inl (cI, 4, .inl g_14)), (m3, .inl (cI, 16384, .inl (upd gg y_20.toNatClampNeg 0)))] := hD
                    generalize eg_21 : upd gg y_20.toNatClampNeg 0 = g_21 at hP hD
                    have hP : va_P D vwCl [(h0, .inr (9, [.ref m1, .ref m2, .ref m3, .int ik, .int wy, .int op, .int cl, .int cx0, .int cx1, .int cy0, .int cy1, .int ds, .ref m4, .ref m5, .ref m6, .ref m7, .ref m8, .ref m9, .int pn, .ref m10, .ref m11, .ref m12, .ref m13])), (m1, .inl (cI, 4, .inl g_13)), (m2, .inl (cI, 4, .inl g_14)), (m3, .inl (cI, 16384, .inl g_21))] H := hP
                    have hD : va_D A [(h0, .inr (9, [.ref m1, .ref m2, .ref m3, .int ik, .int wy, .int op, .int cl, .int cx0, .int cx1, .int cy0, .int cy1, .int ds, .ref m4, .ref m5, .ref m6, .ref m7, .ref m8, .ref m9, .int pn, .ref m10, .ref m11, .ref m12, .ref m13])), (m1, .inl (cI, 4, .inl g_13)), (m2, .inl (cI, 4, .inl g_14)), (m3, .inl (cI, 16384, .inl g_21))] := hD
                    obtain ⟨y_22, ey_22⟩ : ∃ y : Int32, y = x4 + 1 := ⟨_, rfl⟩
                    refine lv_iinc (v := y_22) (lv' := [(4, .int y_22), (0, .ref h0), (1, .int k), (2, .int wd), (3, .int hi9)]) hx hb dX9_sheet_72 hl (k := 0) rfl (by rw [ey_22]; rfl) (by decide) rfl (fun ls hl => ?_)
                    refine lv_goto (tgt := 50) hx hb dX9_sheet_75 (by decide) ?_
                    exact ih_16 (i + 1) y_22 g_21 _ _ _ (by omega) (by omega) (by rw [ey_22, ex_i]; exact nI_1 i) (by rw [← eg_21, hg, ey_20, ey_19, ek, ex_i, lp_cl hkk (by omega)]; exact zk_up (by omega)) (hP.sub (ws' := [(h0, .inr (9, [.ref m1, .ref m2, .ref m3, .int ik, .int wy, .int op, .int cl, .int cx0, .int cx1, .int cy0, .int cy1, .int ds, .ref m4, .ref m5, .ref m6, .ref m7, .ref m8, .ref m9, .int pn, .ref m10, .ref m11, .ref m12, .ref m13])), (m1, .inl (cI, 4, .inl g_13)), (m2, .inl (cI, 4, .inl g_14)), (m3, .inl (cI, 16384, .inl g_21))]) [0, 1, 2, 3] rfl) (hD.sub (ws' := [(h0, .inr (9, [.ref m1, .ref m2, .ref m3, .int ik, .int wy, .int op, .int cl, .int cx0, .int cx1, .int cy0, .int cy1, .int ds, .ref m4, .ref m5, .ref m6, .ref m7, .ref m8, .ref m9, .int pn, .ref m10, .ref m11, .ref m12, .ref m13])), (m1, .inl (cI, 4, .inl g_13)), (m2, .inl (cI, 4, .inl g_14)), (m3, .inl (cI, 16384, .inl g_21))]) [0, 1, 2, 3] (by decide) rfl) hS (lv_sub hl [0, 1, 2, 3, 4] rfl)
              exact loop_15 (4096 + 1) 0 0 gd _ _ _ (by omega) (by omega) nI_0.symm (zk_0 gd kk) hP hD hS (lv_sub hl [0, 1, 2, 3, 4] rfl)
            · skip
              have f_12 : ¬ (hi9.toInt ≤ 64) := fn_le rfl (by decide) c_11
              exact False.elim (by omega)
