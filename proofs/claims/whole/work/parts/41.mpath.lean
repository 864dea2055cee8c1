set_option maxHeartbeats 4000000 in
set_option maxRecDepth 100000 in
theorem k_X9_point_y (l : Launch) (D : va_G) (sz : Nat) (h0 m1 m2 m3 m4 m5 m6 m7 m8 m9 m10 m11 m12 m13 : Nat) (ik wy op cl cx0 cx1 cy0 cy1 ds pn : Int32) (px : Nat → Int32) (py : Nat → Int32) (pf : Nat → Int32) (x y b9 : Int32) (cI : ClassId) (cZ : ClassId) (hpn : 0 ≤ pn.toInt ∧ pn.toInt < 48) (hnr : (-4096 ≤ x.toInt ∧ x.toInt ≤ 4096) ∧ (-4096 ≤ y.toInt ∧ y.toInt ≤ 4096)) : Met l yX9_point (wB yX9_point cX9_point 4 (some .int)) ({ frames := 1, cells := 0, slots := 0, locals := 21 }) (cP D [(h0, .inr (9, [.ref m1, .ref m2, .ref m3, .int ik, .int wy, .int op, .int cl, .int cx0, .int cx1, .int cy0, .int cy1, .int ds, .ref m4, .ref m5, .ref m6, .ref m7, .ref m8, .ref m9, .int pn, .ref m10, .ref m11, .ref m12, .ref m13])), (m7, .inl (cI, 48, .inl px)), (m8, .inl (cI, 48, .inl py)), (m9, .inl (cZ, 48, .inl pf))] [(cI, .int), (cZ, .boolean)] sz [.ref h0, .int x, .int y, .int b9]) (va_Qi (fun (r : Int32) (_ : Unit) => r = pn + 1) (fun (_ : Unit) (t : State) => cB D (va_A [(h0, .inr (9, [.ref m1, .ref m2, .ref m3, .int ik, .int wy, .int op, .int cl, .int cx0, .int cx1, .int cy0, .int cy1, .int ds, .ref m4, .ref m5, .ref m6, .ref m7, .ref m8, .ref m9, .int pn, .ref m10, .ref m11, .ref m12, .ref m13])), (m7, .inl (cI, 48, .inl px)), (m8, .inl (cI, 48, .inl py)), (m9, .inl (cZ, 48, .inl pf))] sz) [(h0, .inr (9, [.ref m1, .ref m2, .ref m3, .int ik, .int wy, .int op, .int cl, .int cx0, .int cx1, .int cy0, .int cy1, .int ds, .ref m4, .ref m5, .ref m6, .ref m7, .ref m8, .ref m9, .int (pn + 1), .ref m10, .ref m11, .ref m12, .ref m13])), (m7, .inl (cI, 48, .inl (upd px pn.toNatClampNeg (2 * x)))), (m8, .inl (cI, 48, .inl (upd py pn.toNatClampNeg (2 * y)))), (m9, .inl (cZ, 48, .inl (upd pf pn.toNatClampNeg (pfP b9 pn))))] [(cI, .int), (cZ, .boolean)] t) (va_A [(h0, .inr (9, [.ref m1, .ref m2, .ref m3, .int ik, .int wy, .int op, .int cl, .int cx0, .int cx1, .int cy0, .int cy1, .int ds, .ref m4, .ref m5, .ref m6, .ref m7, .ref m8, .ref m9, .int pn, .ref m10, .ref m11, .ref m12, .ref m13])), (m7, .inl (cI, 48, .inl px)), (m8, .inl (cI, 48, .inl py)), (m9, .inl (cZ, 48, .inl pf))] sz)) 0 0 (va_A [(h0, .inr (9, [.ref m1, .ref m2, .ref m3, .int ik, .int wy, .int op, .int cl, .int cx0, .int cx1, .int cy0, .int cy1, .int ds, .ref m4, .ref m5, .ref m6, .ref m7, .ref m8, .ref m9, .int pn, .ref m10, .ref m11, .ref m12, .ref m13])), (m7, .inl (cI, 48, .inl px)), (m8, .inl (cI, 48, .inl py)), (m9, .inl (cZ, 48, .inl pf))] sz) := by
  refine Met.ofW (cc := cX9_point) (maxL := 4) (ret := (some .int)) (by decide) rfl ?_
  intro p e s m args below meth c s₁ B hml hv
  obtain ⟨rfl, hsz, hP, hK, hD0, hN⟩ := hv
  have hx := B.exec
  have hb := B.bytes
  have hr := B.returns
  have hts0 := atoms_spec (ws := (wB yX9_point cX9_point 4 (some .int))) B.pre
  have hts : ∀ w ∈ bigW, w.before _ s = true := fun w h => hts0 w (List.mem_cons_of_mem _ h)
  have hown : s.vm.findClass RX9 = some m.cls := findClass_of_methodNamed B.named
  have hlocks := B.notSynchronized
  subst hsz
  have hD := hD0.self (sz := s.heap.size)
  generalize hAe : va_A [(h0, .inr (9, [.ref m1, .ref m2, .ref m3, .int ik, .int wy, .int op, .int cl, .int cx0, .int cx1, .int cy0, .int cy1, .int ds, .ref m4, .ref m5, .ref m6, .ref m7, .ref m8, .ref m9, .int pn, .ref m10, .ref m11, .ref m12, .ref m13])), (m7, .inl (cI, 48, .inl px)), (m8, .inl (cI, 48, .inl py)), (m9, .inl (cZ, 48, .inl pf))] s.heap.size = A at hD ⊢
  have hA : ∀ q : Nat, s.heap.size ≤ q → A q := fun q h => by rw [← hAe]; exact Or.inr h
  have hS : va_S A s.heap s.heap [] := va_S.rf
  have hP : va_P D vwCl [(h0, .inr (9, [.ref m1, .ref m2, .ref m3, .int ik, .int wy, .int op, .int cl, .int cx0, .int cx1, .int cy0, .int cy1, .int ds, .ref m4, .ref m5, .ref m6, .ref m7, .ref m8, .ref m9, .int pn, .ref m10, .ref m11, .ref m12, .ref m13])), (m7, .inl (cI, 48, .inl px)), (m8, .inl (cI, 48, .inl py)), (m9, .inl (cZ, 48, .inl pf))] s.heap := hP
  have hl := lv_entry ([.ref h0, .int x, .int y, .int b9]) (n := 4) (Nat.le_of_ble_eq_true rfl)
  rw [lg_entry_eq]
  generalize (lg_sl ([.ref h0, .int x, .int y, .int b9]) ++ List.replicate (4 - (lg_sl ([.ref h0, .int x, .int y, .int b9])).length) Slot.unset).toArray = ls at hl ⊢
  have hl : lv_has ls 4 [(0, .ref h0), (1, .int x), (2, .int y), (3, .int b9)] := hl
  clear hts0 hD0 hAe
  refine my_abs (fun R Q hR hQ => ?_)
  refine lv_aload_n hx hb dX9_point_0 rfl (lv_at hl 0 rfl) ?_
  refine va_get (D := D) (ci := 9) (v := .int pn) (C := RX9) (T := TX9) (N := 23) hx hb hts hi_X9 hown hK hP 0 rfl rfl 18 (by decide) (hts _ bw_506) (fun _ h9 => h9) rfl dX9_point_1 ?_
  refine lv_bipush (v := 48) hx hb dX9_point_4 (by decide) ?_
  refine lv_icmp_eq (tgt := 29) hx hb dX9_point_6 (by decide) (fun c_1 => ?_) (fun c_1 => ?_)
  · skip
    have f_2 : pn.toInt = 48 := f_eq rfl (by decide) c_1
    exact False.elim (by omega)
  · skip
    have f_2 : ¬ (pn.toInt = 48) := fn_eq rfl (by decide) c_1
    refine lv_iload_n hx hb dX9_point_9 rfl (lv_at hl 1 rfl) ?_
    refine lv_sipush (v := 4096) hx hb dX9_point_10 (by decide) ?_
    have hPc := hP.sub (ws' := []) [] rfl
    have hDc := hD.sub (ws' := []) [] (by decide) rfl
    have hKc := hK.sub (tys' := []) [] rfl
    have hFc := va_free (wc := []) hD hS hA [] rfl
    refine va_calli (va_runS (As := [.int x, .int 4096]) (rest := []) ⟨hx, hb, hml, hown, hts⟩ (k_X9_isNear l D s.heap.size x 4096 (-4096) 4096 (by decide) (by decide)) (va_cwS 2 hts (gS bw_491 bw_482 bw_391 bw_481) rfl rfl rfl (by decide +kernel) ⟨(by rw [hR]; exact Nat.le_of_ble_eq_true rfl), (by rw [hR]; exact Nat.le_of_ble_eq_true rfl)⟩) ⟨cP_blind, cP_at hPc hKc hDc hN⟩ rfl rfl hl.1 rfl (lv_room (Nat.le_of_ble_eq_true rfl)) dX9_point_13 ⟨(by rw [hR]; exact Nat.le_of_ble_eq_true rfl), (by rw [hR]; exact Nat.le_of_ble_eq_true rfl)⟩) hS (fun q _ h => hFc q h) hFc (fun r_3 u9 t9 H1 locs ht hvm hr_3 hB hz1 hk1 hS => ?_)
    try dsimp only at hr_3
    have hP1 : va_P D vwCl [] H1 := vP_nil
    have hD1 : va_D (va_A [] s.heap.size) [] := vD_nil
    obtain ⟨hP, hD⟩ := va_join (wr := [(h0, .inr (9, [.ref m1, .ref m2, .ref m3, .int ik, .int wy, .int op, .int cl, .int cx0, .int cx1, .int cy0, .int cy1, .int ds, .ref m4, .ref m5, .ref m6, .ref m7, .ref m8, .ref m9, .int pn, .ref m10, .ref m11, .ref m12, .ref m13])), (m7, .inl (cI, 48, .inl px)), (m8, .inl (cI, 48, .inl py)), (m9, .inl (cZ, 48, .inl pf))]) (w1 := []) hP hD [] [0, 1, 2, 3] rfl rfl (by decide) (by decide) hk1 hFc hP1 hD1
    clear hz1 hk1 hFc hKc hDc hPc
    generalize H1 = H at hP hS ⊢
    have hP : va_P D vwCl [(h0, .inr (9, [.ref m1, .ref m2, .ref m3, .int ik, .int wy, .int op, .int cl, .int cx0, .int cx1, .int cy0, .int cy1, .int ds, .ref m4, .ref m5, .ref m6, .ref m7, .ref m8, .ref m9, .int pn, .ref m10, .ref m11, .ref m12, .ref m13])), (m7, .inl (cI, 48, .inl px)), (m8, .inl (cI, 48, .inl py)), (m9, .inl (cZ, 48, .inl pf))] H := hP
    have hD : va_D A [(h0, .inr (9, [.ref m1, .ref m2, .ref m3, .int ik, .int wy, .int op, .int cl, .int cx0, .int cx1, .int cy0, .int cy1, .int ds, .ref m4, .ref m5, .ref m6, .ref m7, .ref m8, .ref m9, .int pn, .ref m10, .ref m11, .ref m12, .ref m13])), (m7, .inl (cI, 48, .inl px)), (m8, .inl (cI, 48, .inl py)), (m9, .inl (cZ, 48, .inl pf))] := hD
    refine lv_if_eq (tgt := 29) hx hb dX9_point_16 (by decide) (fun c_4 => ?_) (fun c_4 => ?_)
    · skip
      have f_5 := bz0 hr_3 c_4
      exact False.elim (by omega)
    · skip
      have f_5 := bz1 hr_3 c_4
      refine lv_iload_n hx hb dX9_point_19 rfl (lv_at hl 2 rfl) ?_
      refine lv_sipush (v := 4096) hx hb dX9_point_20 (by decide) ?_
      have hPc := hP.sub (ws' := []) [] rfl
      have hDc := hD.sub (ws' := []) [] (by decide) rfl
      have hKc := hK.sub (tys' := []) [] rfl
      have hFc := va_free (wc := []) hD hS hA [] rfl
      refine va_calli (va_runS (As := [.int y, .int 4096]) (rest := []) ⟨hx, hb, hml, hown, hts⟩ (k_X9_isNear l D H.size y 4096 (-4096) 4096 (by decide) (by decide)) (va_cwS 2 hts (gS bw_491 bw_482 bw_391 bw_481) rfl rfl rfl (by decide +kernel) ⟨(by rw [hR]; exact Nat.le_of_ble_eq_true rfl), (by rw [hR]; exact Nat.le_of_ble_eq_true rfl)⟩) ⟨cP_blind, cP_at hPc hKc hDc hN⟩ rfl rfl hl.1 rfl (lv_room (Nat.le_of_ble_eq_true rfl)) dX9_point_23 ⟨(by rw [hR]; exact Nat.le_of_ble_eq_true rfl), (by rw [hR]; exact Nat.le_of_ble_eq_true rfl)⟩) hS (fun q _ h => hFc q h) hFc (fun r_6 u9 t9 H1 locs ht hvm hr_6 hB hz1 hk1 hS => ?_)
      try dsimp only at hr_6
      have hP1 : va_P D vwCl [] H1 := vP_nil
      have hD1 : va_D (va_A [] H.size) [] := vD_nil
      obtain ⟨hP, hD⟩ := va_join (wr := [(h0, .inr (9, [.ref m1, .ref m2, .ref m3, .int ik, .int wy, .int op, .int cl, .int cx0, .int cx1, .int cy0, .int cy1, .int ds, .ref m4, .ref m5, .ref m6, .ref m7, .ref m8, .ref m9, .int pn, .ref m10, .ref m11, .ref m12, .ref m13])), (m7, .inl (cI, 48, .inl px)), (m8, .inl (cI, 48, .inl py)), (m9, .inl (cZ, 48, .inl pf))]) (w1 := []) hP hD [] [0, 1, 2, 3] rfl rfl (by decide) (by decide) hk1 hFc hP1 hD1
      clear hz1 hk1 hFc hKc hDc hPc
      generalize H1 = H at hP hS ⊢
      have hP : va_P D vwCl [(h0, .inr (9, [.ref m1, .ref m2, .ref m3, .int ik, .int wy, .int op, .int cl, .int cx0, .int cx1, .int cy0, .int cy1, .int ds, .ref m4, .ref m5, .ref m6, .ref m7, .ref m8, .ref m9, .int pn, .ref m10, .ref m11, .ref m12, .ref m13])), (m7, .inl (cI, 48, .inl px)), (m8, .inl (cI, 48, .inl py)), (m9, .inl (cZ, 48, .inl pf))] H := hP
      have hD : va_D A [(h0, .inr (9, [.ref m1, .ref m2, .ref m3, .int ik, .int wy, .int op, .int cl, .int cx0, .int cx1, .int cy0, .int cy1, .int ds, .ref m4, .ref m5, .ref m6, .ref m7, .ref m8, .ref m9, .int pn, .ref m10, .ref m11, .ref m12, .ref m13])), (m7, .inl (cI, 48, .inl px)), (m8, .inl (cI, 48, .inl py)), (m9, .inl (cZ, 48, .inl pf))] := hD
      refine lv_if_ne (tgt := 31) hx hb dX9_point_26 (by decide) (fun c_7 => ?_) (fun c_7 => ?_)
      · skip
        have f_8 := bz1 hr_6 c_7
        refine lv_aload_n hx hb dX9_point_31 rfl (lv_at hl 0 rfl) ?_
        refine va_get (D := D) (ci := 9) (v := .ref m7) (C := RX9) (T := TX9) (N := 23) hx hb hts hi_X9 hown hK hP 0 rfl rfl 15 (by decide) (hts _ bw_407) (fun _ h9 => h9) rfl dX9_point_32 ?_
        refine lv_aload_n hx hb dX9_point_35 rfl (lv_at hl 0 rfl) ?_
        refine va_get (D := D) (ci := 9) (v := .int pn) (C := RX9) (T := TX9) (N := 23) hx hb hts hi_X9 hown hK hP 0 rfl rfl 18 (by decide) (hts _ bw_506) (fun _ h9 => h9) rfl dX9_point_36 ?_
        refine lv_iconst (v := 2) hx hb dX9_point_39 (by decide) ?_
        refine lv_iload_n hx hb dX9_point_40 rfl (lv_at hl 1 rfl) ?_
        refine lv_imul hx hb dX9_point_41 ?_
        refine lv_topi (fun y_9 ey_9 => ?_)
        refine va_iast hx hb hK hP hD hS 1 0 rfl rfl (vp_in_iff.mpr ⟨by omega, by omega⟩) dX9_point_42 (fun H locs hP hD hS => ?_)
        have hP : va_P D vwCl [(h0, .inr (9, [.ref m1, .ref m2, .ref m3, .int ik, .int wy, .int op, .int cl, .int cx0, .int cx1, .int cy0, .int cy1, .int ds, .ref m4, .ref m5, .ref m6, .ref m7, .ref m8, .ref m9, .int pn, .ref m10, .ref m11, .ref m12, .ref m13])), (m7, .inl (cI, 48, .inl (upd px pn.toNatClampNeg y_9))), (m8, .inl (cI, 48, .inl py)), (m9, .inl (cZ, 48, .inl pf))] H := hP
        have hD : va_D A [(h0, .inr (9, [.ref m1, .ref m2, .ref m3, .int ik, .int wy, .int op, .int cl, .int cx0, .int cx1, .int cy0, .int cy1, .int ds, .ref m4, .ref m5, .ref m6, .ref m7, .ref m8, .ref m9, .int pn, .ref m10, .ref m11, .ref m12, .ref m13])), (m7, .inl (cI, 48, .inl (upd px pn.toNatClampNeg y_9))), (m8, .inl (cI, 48, .inl py)), (m9, .inl (cZ, 48, .inl pf))] := hD
        generalize eg_10 : upd px pn.toNatClampNeg y_9 = g_10 at hP hD
        have hP : va_P D vwCl [(h0, .inr (9, [.ref m1, .ref m2, .ref m3, .int ik, .int wy, .int op, .int cl, .int cx0, .int cx1, .int cy0, .int cy1, .int ds, .ref m4, .ref m5, .ref m6, .ref m7, .ref m8, .ref m9, .int pn, .ref m10, .ref m11, .ref m12, .ref m13])), (m7, .inl (cI, 48, .inl g_10)), (m8, .inl (cI, 48, .inl py)), (m9, .inl (cZ, 48, .inl pf))] H := hP
        have hD : va_D A [(h0, .inr (9, [.ref m1, .ref m2, .ref m3, .int ik, .int wy, .int op, .int cl, .int cx0, .int cx1, .int cy0, .int cy1, .int ds, .ref m4, .ref m5, .ref m6, .ref m7, .ref m8, .ref m9, .int pn, .ref m10, .ref m11, .ref m12, .ref m13])), (m7, .inl (cI, 48, .inl g_10)), (m8, .inl (cI, 48, .inl py)), (m9, .inl (cZ, 48, .inl pf))] := hD
        refine lv_aload_n hx hb dX9_point_43 rfl (lv_at hl 0 rfl) ?_
        refine va_get (D := D) (ci := 9) (v := .ref m8) (C := RX9) (T := TX9) (N := 23) hx hb hts hi_X9 hown hK hP 0 rfl rfl 16 (by decide) (hts _ bw_408) (fun _ h9 => h9) rfl dX9_point_44 ?_
        refine lv_aload_n hx hb dX9_point_47 rfl (lv_at hl 0 rfl) ?_
        refine va_get (D := D) (ci := 9) (v := .int pn) (C := RX9) (T := TX9) (N := 23) hx hb hts hi_X9 hown hK hP 0 rfl rfl 18 (by decide) (hts _ bw_506) (fun _ h9 => h9) rfl dX9_point_48 ?_
        refine lv_iconst (v := 2) hx hb dX9_point_51 (by decide) ?_
        refine lv_iload_n hx hb dX9_point_52 rfl (lv_at hl 2 rfl) ?_
        refine lv_imul hx hb dX9_point_53 ?_
        refine lv_topi (fun y_11 ey_11 => ?_)
        refine va_iast hx hb hK hP hD hS 2 0 rfl rfl (vp_in_iff.mpr ⟨by omega, by omega⟩) dX9_point_54 (fun H locs hP hD hS => ?_)
        have hP : va_P D vwCl [(h0, .inr (9, [.ref m1, .ref m2, .ref m3, .int ik, .int wy, .int op, .int cl, .int cx0, .int cx1, .int cy0, .int cy1, .int ds, .ref m4, .ref m5, .ref m6, .ref m7, .ref m8, .ref m9, .int pn, .ref m10, .ref m11, .ref m12, .ref m13])), (m7, .inl (cI, 48, .inl g_10)), (m8, .inl (cI, 48, .inl (upd py pn.toNatClampNeg y_11))), (m9, .inl (cZ, 48, .inl pf))] H := hP
        have hD : va_D A [(h0, .inr (9, [.ref m1, .ref m2, .ref m3, .int ik, .int wy, .int op, .int cl, .int cx0, .int cx1, .int cy0, .int cy1, .int ds, .ref m4, .ref m5, .ref m6, .ref m7, .ref m8, .ref m9, .int pn, .ref m10, .ref m11, .ref m12, .ref m13])), (m7, .inl (cI, 48, .inl g_10)), (m8, .inl (cI, 48, .inl (upd py pn.toNatClampNeg y_11))), (m9, .inl (cZ, 48, .inl pf))] := hD
        generalize eg_12 : upd py pn.toNatClampNeg y_11 = g_12 at hP hD
        have hP : va_P D vwCl [(h0, .inr (9, [.ref m1, .ref m2, .ref m3, .int ik, .int wy, .int op, .int cl, .int cx0, .int cx1, .int cy0, .int cy1, .int ds, .ref m4, .ref m5, .ref m6, .ref m7, .ref m8, .ref m9, .int pn, .ref m10, .ref m11, .ref m12, .ref m13])), (m7, .inl (cI, 48, .inl g_10)), (m8, .inl (cI, 48, .inl g_12)), (m9, .inl (cZ, 48, .inl pf))] H := hP
        have hD : va_D A [(h0, .inr (9, [.ref m1, .ref m2, .ref m3, .int ik, .int wy, .int op, .int cl, .int cx0, .int cx1, .int cy0, .int cy1, .int ds, .ref m4, .ref m5, .ref m6, .ref m7, .ref m8, .ref m9, .int pn, .ref m10, .ref m11, .ref m12, .ref m13])), (m7, .inl (cI, 48, .inl g_10)), (m8, .inl (cI, 48, .inl g_12)), (m9, .inl (cZ, 48, .inl pf))] := hD
        refine lv_aload_n hx hb dX9_point_55 rfl (lv_at hl 0 rfl) ?_
        refine va_get (D := D) (ci := 9) (v := .ref m9) (C := RX9) (T := TX9) (N := 23) hx hb hts hi_X9 hown hK hP 0 rfl rfl 17 (by decide) (hts _ bw_409) (fun _ h9 => h9) rfl dX9_point_56 ?_
        refine lv_aload_n hx hb dX9_point_59 rfl (lv_at hl 0 rfl) ?_
        refine va_get (D := D) (ci := 9) (v := .int pn) (C := RX9) (T := TX9) (N := 23) hx hb hts hi_X9 hown hK hP 0 rfl rfl 18 (by decide) (hts _ bw_506) (fun _ h9 => h9) rfl dX9_point_60 ?_
        refine lv_iload_n hx hb dX9_point_63 rfl (lv_at hl 3 rfl) ?_
        refine lv_if_ne (tgt := 74) hx hb dX9_point_64 (by decide) (fun c_13 => ?_) (fun c_13 => ?_)
        · skip
          have f_14 : ¬ (b9.toInt = 0) := fn_eq rfl (by decide) c_13
          refine lv_iconst (v := 1) hx hb dX9_point_74 (by decide) ?_
          refine lv_goto (tgt := 79) hx hb dX9_point_75 (by decide) ?_
          refine va_zast hx hb hK hP hD hS 3 1 rfl rfl (vp_in_iff.mpr ⟨by omega, by omega⟩) dX9_point_79 (fun H locs hP hD hS => ?_)
          have hP : va_P D vwCl [(h0, .inr (9, [.ref m1, .ref m2, .ref m3, .int ik, .int wy, .int op, .int cl, .int cx0, .int cx1, .int cy0, .int cy1, .int ds, .ref m4, .ref m5, .ref m6, .ref m7, .ref m8, .ref m9, .int pn, .ref m10, .ref m11, .ref m12, .ref m13])), (m7, .inl (cI, 48, .inl g_10)), (m8, .inl (cI, 48, .inl g_12)), (m9, .inl (cZ, 48, .inl (upd pf pn.toNatClampNeg (vp_nar .boolean 1))))] H := hP
          have hD : va_D A [(h0, .inr (9, [.ref m1, .ref m2, .ref m3, .int ik, .int wy, .int op, .int cl, .int cx0, .int cx1, .int cy0, .int cy1, .int ds, .ref m4, .ref m5, .ref m6, .ref m7, .ref m8, .ref m9, .int pn, .ref m10, .ref m11, .ref m12, .ref m13])), (m7, .inl (cI, 48, .inl g_10)), (m8, .inl (cI, 48, .inl g_12)), (m9, .inl (cZ, 48, .inl (upd pf pn.toNatClampNeg (vp_nar .boolean 1))))] := hD
          generalize eg_15 : upd pf pn.toNatClampNeg (vp_nar .boolean 1) = g_15 at hP hD
          have hP : va_P D vwCl [(h0, .inr (9, [.ref m1, .ref m2, .ref m3, .int ik, .int wy, .int op, .int cl, .int cx0, .int cx1, .int cy0, .int cy1, .int ds, .ref m4, .ref m5, .ref m6, .ref m7, .ref m8, .ref m9, .int pn, .ref m10, .ref m11, .ref m12, .ref m13])), (m7, .inl (cI, 48, .inl g_10)), (m8, .inl (cI, 48, .inl g_12)), (m9, .inl (cZ, 48, .inl g_15))] H := hP
          have hD : va_D A [(h0, .inr (9, [.ref m1, .ref m2, .ref m3, .int ik, .int wy, .int op, .int cl, .int cx0, .int cx1, .int cy0, .int cy1, .int ds, .ref m4, .ref m5, .ref m6, .ref m7, .ref m8, .ref m9, .int pn, .ref m10, .ref m11, .ref m12, .ref m13])), (m7, .inl (cI, 48, .inl g_10)), (m8, .inl (cI, 48, .inl g_12)), (m9, .inl (cZ, 48, .inl g_15))] := hD
          refine lv_aload_n hx hb dX9_point_80 rfl (lv_at hl 0 rfl) ?_
          refine lv_aload_n hx hb dX9_point_81 rfl (lv_at hl 0 rfl) ?_
          refine va_get (D := D) (ci := 9) (v := .int pn) (C := RX9) (T := TX9) (N := 23) hx hb hts hi_X9 hown hK hP 0 rfl rfl 18 (by decide) (hts _ bw_506) (fun _ h9 => h9) rfl dX9_point_82 ?_
          refine lv_iconst (v := 1) hx hb dX9_point_85 (by decide) ?_
          refine lv_iadd hx hb dX9_point_86 ?_
          refine lv_topi (fun y_16 ey_16 => ?_)
          refine va_put (D := D) (ci := 9) (v := .int y_16) (ty := .int) (C := RX9) (T := TX9) (N := 23) hx hb hts hi_X9 tyX9 tyX9_ok nmX9 hown hK hP hD hS 0 rfl rfl 18 (by decide) (hts _ bw_506) (fun _ h9 => h9) rfl (by decide +kernel) rfl rfl (Nat.le_of_ble_eq_true rfl) dX9_point_87 (fun H locs hP hD hS => ?_)
          have hP : va_P D vwCl [(h0, .inr (9, [.ref m1, .ref m2, .ref m3, .int ik, .int wy, .int op, .int cl, .int cx0, .int cx1, .int cy0, .int cy1, .int ds, .ref m4, .ref m5, .ref m6, .ref m7, .ref m8, .ref m9, .int y_16, .ref m10, .ref m11, .ref m12, .ref m13])), (m7, .inl (cI, 48, .inl g_10)), (m8, .inl (cI, 48, .inl g_12)), (m9, .inl (cZ, 48, .inl g_15))] H := hP
          have hD : va_D A [(h0, .inr (9, [.ref m1, .ref m2, .ref m3, .int ik, .int wy, .int op, .int cl, .int cx0, .int cx1, .int cy0, .int cy1, .int ds, .ref m4, .ref m5, .ref m6, .ref m7, .ref m8, .ref m9, .int y_16, .ref m10, .ref m11, .ref m12, .ref m13])), (m7, .inl (cI, 48, .inl g_10)), (m8, .inl (cI, 48, .inl g_12)), (m9, .inl (cZ, 48, .inl g_15))] := hD
          refine lv_aload_n hx hb dX9_point_90 rfl (lv_at hl 0 rfl) ?_
          refine va_get (D := D) (ci := 9) (v := .int y_16) (C := RX9) (T := TX9) (N := 23) hx hb hts hi_X9 hown hK hP 0 rfl rfl 18 (by decide) (hts _ bw_506) (fun _ h9 => h9) rfl dX9_point_91 ?_
          have hF1 : pfP b9 pn = vp_nar .boolean 1 := congrArg (vp_nar .boolean) (if_pos (Or.inl c_13))
          have hP : va_P D vwCl [(h0, .inr (9, [.ref m1, .ref m2, .ref m3, .int ik, .int wy, .int op, .int cl, .int cx0, .int cx1, .int cy0, .int cy1, .int ds, .ref m4, .ref m5, .ref m6, .ref m7, .ref m8, .ref m9, .int (pn + 1), .ref m10, .ref m11, .ref m12, .ref m13])), (m7, .inl (cI, 48, .inl (upd px pn.toNatClampNeg (2 * x)))), (m8, .inl (cI, 48, .inl (upd py pn.toNatClampNeg (2 * y)))), (m9, .inl (cZ, 48, .inl (upd pf pn.toNatClampNeg (pfP b9 pn))))] H := by rw [hF1]; subst_vars; exact hP
          have hD : va_D A [(h0, .inr (9, [.ref m1, .ref m2, .ref m3, .int ik, .int wy, .int op, .int cl, .int cx0, .int cx1, .int cy0, .int cy1, .int ds, .ref m4, .ref m5, .ref m6, .ref m7, .ref m8, .ref m9, .int (pn + 1), .ref m10, .ref m11, .ref m12, .ref m13])), (m7, .inl (cI, 48, .inl (upd px pn.toNatClampNeg (2 * x)))), (m8, .inl (cI, 48, .inl (upd py pn.toNatClampNeg (2 * y)))), (m9, .inl (cZ, 48, .inl (upd pf pn.toNatClampNeg (pfP b9 pn))))] := by rw [hF1]; subst_vars; exact hD
          have hP9 := hP.sub (ws' := [(h0, .inr (9, [.ref m1, .ref m2, .ref m3, .int ik, .int wy, .int op, .int cl, .int cx0, .int cx1, .int cy0, .int cy1, .int ds, .ref m4, .ref m5, .ref m6, .ref m7, .ref m8, .ref m9, .int (pn + 1), .ref m10, .ref m11, .ref m12, .ref m13])), (m7, .inl (cI, 48, .inl (upd px pn.toNatClampNeg (2 * x)))), (m8, .inl (cI, 48, .inl (upd py pn.toNatClampNeg (2 * y)))), (m9, .inl (cZ, 48, .inl (upd pf pn.toNatClampNeg (pfP b9 pn))))]) [0, 1, 2, 3] rfl
          have hD9 := hD.sub (ws' := [(h0, .inr (9, [.ref m1, .ref m2, .ref m3, .int ik, .int wy, .int op, .int cl, .int cx0, .int cx1, .int cy0, .int cy1, .int ds, .ref m4, .ref m5, .ref m6, .ref m7, .ref m8, .ref m9, .int (pn + 1), .ref m10, .ref m11, .ref m12, .ref m13])), (m7, .inl (cI, 48, .inl (upd px pn.toNatClampNeg (2 * x)))), (m8, .inl (cI, 48, .inl (upd py pn.toNatClampNeg (2 * y)))), (m9, .inl (cZ, 48, .inl (upd pf pn.toNatClampNeg (pfP b9 pn))))]) [0, 1, 2, 3] (by decide) rfl
          have hK9 := hK.sub (tys' := [(cI, .int), (cZ, .boolean)]) [0, 1] rfl
          refine hQ _ _ _ _ _ ?_
          exact W.iret (v := y_16) hx hb hr (fun t ht hW => ⟨⟨y_16, (), rfl, ey_16, ⟨by rw [ht]; exact hP9, va_K.moved hW.alike hK9, hD9⟩⟩, hS.F ht⟩) hS.2.2 dX9_point_94
        · skip
          have f_14 : b9.toInt = 0 := f_eq rfl (by decide) c_13
          refine lv_aload_n hx hb dX9_point_67 rfl (lv_at hl 0 rfl) ?_
          refine va_get (D := D) (ci := 9) (v := .int pn) (C := RX9) (T := TX9) (N := 23) hx hb hts hi_X9 hown hK hP 0 rfl rfl 18 (by decide) (hts _ bw_506) (fun _ h9 => h9) rfl dX9_point_68 ?_
          refine lv_if_ne (tgt := 78) hx hb dX9_point_71 (by decide) (fun c_17 => ?_) (fun c_17 => ?_)
          · skip
            have f_18 : ¬ (pn.toInt = 0) := fn_eq rfl (by decide) c_17
            refine lv_iconst (v := 0) hx hb dX9_point_78 (by decide) ?_
            refine va_zast hx hb hK hP hD hS 3 1 rfl rfl (vp_in_iff.mpr ⟨by omega, by omega⟩) dX9_point_79 (fun H locs hP hD hS => ?_)
            have hP : va_P D vwCl [(h0, .inr (9, [.ref m1, .ref m2, .ref m3, .int ik, .int wy, .int op, .int cl, .int cx0, .int cx1, .int cy0, .int cy1, .int ds, .ref m4, .ref m5, .ref m6, .ref m7, .ref m8, .ref m9, .int pn, .ref m10, .ref m11, .ref m12, .ref m13])), (m7, .inl (cI, 48, .inl g_10)), (m8, .inl (cI, 48, .inl g_12)), (m9, .inl (cZ, 48, .inl (upd pf pn.toNatClampNeg (vp_nar .boolean 0))))] H := hP
            have hD : va_D A [(h0, .inr (9, [.ref m1, .ref m2, .ref m3, .int ik, .int wy, .int op, .int cl, .int cx0, .int cx1, .int cy0, .int cy1, .int ds, .ref m4, .ref m5, .ref m6, .ref m7, .ref m8, .ref m9, .int pn, .ref m10, .ref m11, .ref m12, .ref m13])), (m7, .inl (cI, 48, .inl g_10)), (m8, .inl (cI, 48, .inl g_12)), (m9, .inl (cZ, 48, .inl (upd pf pn.toNatClampNeg (vp_nar .boolean 0))))] := hD
            generalize eg_19 : upd pf pn.toNatClampNeg (vp_nar .boolean 0) = g_19 at hP hD
            have hP : va_P D vwCl [(h0, .inr (9, [.ref m1, .ref m2, .ref m3, .int ik, .int wy, .int op, .int cl, .int cx0, .int cx1, .int cy0, .int cy1, .int ds, .ref m4, .ref m5, .ref m6, .ref m7, .ref m8, .ref m9, .int pn, .ref m10, .ref m11, .ref m12, .ref m13])), (m7, .inl (cI, 48, .inl g_10)), (m8, .inl (cI, 48, .inl g_12)), (m9, .inl (cZ, 48, .inl g_19))] H := hP
            have hD : va_D A [(h0, .inr (9, [.ref m1, .ref m2, .ref m3, .int ik, .int wy, .int op, .int cl, .int cx0, .int cx1, .int cy0, .int cy1, .int ds, .ref m4, .ref m5, .ref m6, .ref m7, .ref m8, .ref m9, .int pn, .ref m10, .ref m11, .ref m12, .ref m13])), (m7, .inl (cI, 48, .inl g_10)), (m8, .inl (cI, 48, .inl g_12)), (m9, .inl (cZ, 48, .inl g_19))] := hD
            refine lv_aload_n hx hb dX9_point_80 rfl (lv_at hl 0 rfl) ?_
            refine lv_aload_n hx hb dX9_point_81 rfl (lv_at hl 0 rfl) ?_
            refine va_get (D := D) (ci := 9) (v := .int pn) (C := RX9) (T := TX9) (N := 23) hx hb hts hi_X9 hown hK hP 0 rfl rfl 18 (by decide) (hts _ bw_506) (fun _ h9 => h9) rfl dX9_point_82 ?_
            refine lv_iconst (v := 1) hx hb dX9_point_85 (by decide) ?_
            refine lv_iadd hx hb dX9_point_86 ?_
            refine lv_topi (fun y_20 ey_20 => ?_)
            refine va_put (D := D) (ci := 9) (v := .int y_20) (ty := .int) (C := RX9) (T := TX9) (N := 23) hx hb hts hi_X9 tyX9 tyX9_ok nmX9 hown hK hP hD hS 0 rfl rfl 18 (by decide) (hts _ bw_506) (fun _ h9 => h9) rfl (by decide +kernel) rfl rfl (Nat.le_of_ble_eq_true rfl) dX9_point_87 (fun H locs hP hD hS => ?_)
            have hP : va_P D vwCl [(h0, .inr (9, [.ref m1, .ref m2, .ref m3, .int ik, .int wy, .int op, .int cl, .int cx0, .int cx1, .int cy0, .int cy1, .int ds, .ref m4, .ref m5, .ref m6, .ref m7, .ref m8, .ref m9, .int y_20, .ref m10, .ref m11, .ref m12, .ref m13])), (m7, .inl (cI, 48, .inl g_10)), (m8, .inl (cI, 48, .inl g_12)), (m9, .inl (cZ, 48, .inl g_19))] H := hP
            have hD : va_D A [(h0, .inr (9, [.ref m1, .ref m2, .ref m3, .int ik, .int wy, .int op, .int cl, .int cx0, .int cx1, .int cy0, .int cy1, .int ds, .ref m4, .ref m5, .ref m6, .ref m7, .ref m8, .ref m9, .int y_20, .ref m10, .ref m11, .ref m12, .ref m13])), (m7, .inl (cI, 48, .inl g_10)), (m8, .inl (cI, 48, .inl g_12)), (m9, .inl (cZ, 48, .inl g_19))] := hD
            refine lv_aload_n hx hb dX9_point_90 rfl (lv_at hl 0 rfl) ?_
            refine va_get (D := D) (ci := 9) (v := .int y_20) (C := RX9) (T := TX9) (N := 23) hx hb hts hi_X9 hown hK hP 0 rfl rfl 18 (by decide) (hts _ bw_506) (fun _ h9 => h9) rfl dX9_point_91 ?_
            have hF1 : pfP b9 pn = vp_nar .boolean 0 := congrArg (vp_nar .boolean) (if_neg (fun q => q.elim (fun q => q c_13) c_17))
            have hP : va_P D vwCl [(h0, .inr (9, [.ref m1, .ref m2, .ref m3, .int ik, .int wy, .int op, .int cl, .int cx0, .int cx1, .int cy0, .int cy1, .int ds, .ref m4, .ref m5, .ref m6, .ref m7, .ref m8, .ref m9, .int (pn + 1), .ref m10, .ref m11, .ref m12, .ref m13])), (m7, .inl (cI, 48, .inl (upd px pn.toNatClampNeg (2 * x)))), (m8, .inl (cI, 48, .inl (upd py pn.toNatClampNeg (2 * y)))), (m9, .inl (cZ, 48, .inl (upd pf pn.toNatClampNeg (pfP b9 pn))))] H := by rw [hF1]; subst_vars; exact hP
            have hD : va_D A [(h0, .inr (9, [.ref m1, .ref m2, .ref m3, .int ik, .int wy, .int op, .int cl, .int cx0, .int cx1, .int cy0, .int cy1, .int ds, .ref m4, .ref m5, .ref m6, .ref m7, .ref m8, .ref m9, .int (pn + 1), .ref m10, .ref m11, .ref m12, .ref m13])), (m7, .inl (cI, 48, .inl (upd px pn.toNatClampNeg (2 * x)))), (m8, .inl (cI, 48, .inl (upd py pn.toNatClampNeg (2 * y)))), (m9, .inl (cZ, 48, .inl (upd pf pn.toNatClampNeg (pfP b9 pn))))] := by rw [hF1]; subst_vars; exact hD
            have hP9 := hP.sub (ws' := [(h0, .inr (9, [.ref m1, .ref m2, .ref m3, .int ik, .int wy, .int op, .int cl, .int cx0, .int cx1, .int cy0, .int cy1, .int ds, .ref m4, .ref m5, .ref m6, .ref m7, .ref m8, .ref m9, .int (pn + 1), .ref m10, .ref m11, .ref m12, .ref m13])), (m7, .inl (cI, 48, .inl (upd px pn.toNatClampNeg (2 * x)))), (m8, .inl (cI, 48, .inl (upd py pn.toNatClampNeg (2 * y)))), (m9, .inl (cZ, 48, .inl (upd pf pn.toNatClampNeg (pfP b9 pn))))]) [0, 1, 2, 3] rfl
            have hD9 := hD.sub (ws' := [(h0, .inr (9, [.ref m1, .ref m2, .ref m3, .int ik, .int wy, .int op, .int cl, .int cx0, .int cx1, .int cy0, .int cy1, .int ds, .ref m4, .ref m5, .ref m6, .ref m7, .ref m8, .ref m9, .int (pn + 1), .ref m10, .ref m11, .ref m12, .ref m13])), (m7, .inl (cI, 48, .inl (upd px pn.toNatClampNeg (2 * x)))), (m8, .inl (cI, 48, .inl (upd py pn.toNatClampNeg (2 * y)))), (m9, .inl (cZ, 48, .inl (upd pf pn.toNatClampNeg (pfP b9 pn))))]) [0, 1, 2, 3] (by decide) rfl
            have hK9 := hK.sub (tys' := [(cI, .int), (cZ, .boolean)]) [0, 1] rfl
            refine hQ _ _ _ _ _ ?_
            exact W.iret (v := y_20) hx hb hr (fun t ht hW => ⟨⟨y_20, (), rfl, ey_20, ⟨by rw [ht]; exact hP9, va_K.moved hW.alike hK9, hD9⟩⟩, hS.F ht⟩) hS.2.2 dX9_point_94
          · skip
            have f_18 : pn.toInt = 0 := f_eq rfl (by decide) c_17
            refine lv_iconst (v := 1) hx hb dX9_point_74 (by decide) ?_
            refine lv_goto (tgt := 79) hx hb dX9_point_75 (by decide) ?_
            refine va_zast hx hb hK hP hD hS 3 1 rfl rfl (vp_in_iff.mpr ⟨by omega, by omega⟩) dX9_point_79 (fun H locs hP hD hS => ?_)
            have hP : va_P D vwCl [(h0, .inr (9, [.ref m1, .ref m2, .ref m3, .int ik, .int wy, .int op, .int cl, .int cx0, .int cx1, .int cy0, .int cy1, .int ds, .ref m4, .ref m5, .ref m6, .ref m7, .ref m8, .ref m9, .int pn, .ref m10, .ref m11, .ref m12, .ref m13])), (m7, .inl (cI, 48, .inl g_10)), (m8, .inl (cI, 48, .inl g_12)), (m9, .inl (cZ, 48, .inl (upd pf pn.toNatClampNeg (vp_nar .boolean 1))))] H := hP
            have hD : va_D A [(h0, .inr (9, [.ref m1, .ref m2, .ref m3, .int ik, .int wy, .int op, .int cl, .int cx0, .int cx1, .int cy0, .int cy1, .int ds, .ref m4, .ref m5, .ref m6, .ref m7, .ref m8, .ref m9, .int pn, .ref m10, .ref m11, .ref m12, .ref m13])), (m7, .inl (cI, 48, .inl g_10)), (m8, .inl (cI, 48, .inl g_12)), (m9, .inl (cZ, 48, .inl (upd pf pn.toNatClampNeg (vp_nar .boolean 1))))] := hD
            generalize eg_21 : upd pf pn.toNatClampNeg (vp_nar .boolean 1) = g_21 at hP hD
            have hP : va_P D vwCl [(h0, .inr (9, [.ref m1, .ref m2, .ref m3, .int ik, .int wy, .int op, .int cl, .int cx0, .int cx1, .int cy0, .int cy1, .int ds, .ref m4, .ref m5, .ref m6, .ref m7, .ref m8, .ref m9, .int pn, .ref m10, .ref m11, .ref m12, .ref m13])), (m7, .inl (cI, 48, .inl g_10)), (m8, .inl (cI, 48, .inl g_12)), (m9, .inl (cZ, 48, .inl g_21))] H := hP
            have hD : va_D A [(h0, .inr (9, [.ref m1, .ref m2, .ref m3, .int ik, .int wy, .int op, .int cl, .int cx0, .int cx1, .int cy0, .int cy1, .int ds, .ref m4, .ref m5, .ref m6, .ref m7, .ref m8, .ref m9, .int pn, .ref m10, .ref m11, .ref m12, .ref m13])), (m7, .inl (cI, 48, .inl g_10)), (m8, .inl (cI, 48, .inl g_12)), (m9, .inl (cZ, 48, .inl g_21))] := hD
            refine lv_aload_n hx hb dX9_point_80 rfl (lv_at hl 0 rfl) ?_
            refine lv_aload_n hx hb dX9_point_81 rfl (lv_at hl 0 rfl) ?_
            refine va_get (D := D) (ci := 9) (v := .int pn) (C := RX9) (T := TX9) (N := 23) hx hb hts hi_X9 hown hK hP 0 rfl rfl 18 (by decide) (hts _ bw_506) (fun _ h9 => h9) rfl dX9_point_82 ?_
            refine lv_iconst (v := 1) hx hb dX9_point_85 (by decide) ?_
            refine lv_iadd hx hb dX9_point_86 ?_
            refine lv_topi (fun y_22 ey_22 => ?_)
            refine va_put (D := D) (ci := 9) (v := .int y_22) (ty := .int) (C := RX9) (T := TX9) (N := 23) hx hb hts hi_X9 tyX9 tyX9_ok nmX9 hown hK hP hD hS 0 rfl rfl 18 (by decide) (hts _ bw_506) (fun _ h9 => h9) rfl (by decide +kernel) rfl rfl (Nat.le_of_ble_eq_true rfl) dX9_point_87 (fun H locs hP hD hS => ?_)
            have hP : va_P D vwCl [(h0, .inr (9, [.ref m1, .ref m2, .ref m3, .int ik, .int wy, .int op, .int cl, .int cx0, .int cx1, .int cy0, .int cy1, .int ds, .ref m4, .ref m5, .ref m6, .ref m7, .ref m8, .ref m9, .int y_22, .ref m10, .ref m11, .ref m12, .ref m13])), (m7, .inl (cI, 48, .inl g_10)), (m8, .inl (cI, 48, .inl g_12)), (m9, .inl (cZ, 48, .inl g_21))] H := hP
            have hD : va_D A [(h0, .inr (9, [.ref m1, .ref m2, .ref m3, .int ik, .int wy, .int op, .int cl, .int cx0, .int cx1, .int cy0, .int cy1, .int ds, .ref m4, .ref m5, .ref m6, .ref m7, .ref m8, .ref m9, .int y_22, .ref m10, .ref m11, .ref m12, .ref m13])), (m7, .inl (cI, 48, .inl g_10)), (m8, .inl (cI, 48, .inl g_12)), (m9, .inl (cZ, 48, .inl g_21))] := hD
            refine lv_aload_n hx hb dX9_point_90 rfl (lv_at hl 0 rfl) ?_
            refine va_get (D := D) (ci := 9) (v := .int y_22) (C := RX9) (T := TX9) (N := 23) hx hb hts hi_X9 hown hK hP 0 rfl rfl 18 (by decide) (hts _ bw_506) (fun _ h9 => h9) rfl dX9_point_91 ?_
            have hF1 : pfP b9 pn = vp_nar .boolean 1 := congrArg (vp_nar .boolean) (if_pos (Or.inr c_17))
            have hP : va_P D vwCl [(h0, .inr (9, [.ref m1, .ref m2, .ref m3, .int ik, .int wy, .int op, .int cl, .int cx0, .int cx1, .int cy0, .int cy1, .int ds, .ref m4, .ref m5, .ref m6, .ref m7, .ref m8, .ref m9, .int (pn + 1), .ref m10, .ref m11, .ref m12, .ref m13])), (m7, .inl (cI, 48, .inl (upd px pn.toNatClampNeg (2 * x)))), (m8, .inl (cI, 48, .inl (upd py pn.toNatClampNeg (2 * y)))), (m9, .inl (cZ, 48, .inl (upd pf pn.toNatClampNeg (pfP b9 pn))))] H := by rw [hF1]; subst_vars; exact hP
            have hD : va_D A [(h0, .inr (9, [.ref m1, .ref m2, .ref m3, .int ik, .int wy, .int op, .int cl, .int cx0, .int cx1, .int cy0, .int cy1, .int ds, .ref m4, .ref m5, .ref m6, .ref m7, .ref m8, .ref m9, .int (pn + 1), .ref m10, .ref m11, .ref m12, .ref m13])), (m7, .inl (cI, 48, .inl (upd px pn.toNatClampNeg (2 * x)))), (m8, .inl (cI, 48, .inl (upd py pn.toNatClampNeg (2 * y)))), (m9, .inl (cZ, 48, .inl (upd pf pn.toNatClampNeg (pfP b9 pn))))] := by rw [hF1]; subst_vars; exact hD
            have hP9 := hP.sub (ws' := [(h0, .inr (9, [.ref m1, .ref m2, .ref m3, .int ik, .int wy, .int op, .int cl, .int cx0, .int cx1, .int cy0, .int cy1, .int ds, .ref m4, .ref m5, .ref m6, .ref m7, .ref m8, .ref m9, .int (pn + 1), .ref m10, .ref m11, .ref m12, .ref m13])), (m7, .inl (cI, 48, .inl (upd px pn.toNatClampNeg (2 * x)))), (m8, .inl (cI, 48, .inl (upd py pn.toNatClampNeg (2 * y)))), (m9, .inl (cZ, 48, .inl (upd pf pn.toNatClampNeg (pfP b9 pn))))]) [0, 1, 2, 3] rfl
            have hD9 := hD.sub (ws' := [(h0, .inr (9, [.ref m1, .ref m2, .ref m3, .int ik, .int wy, .int op, .int cl, .int cx0, .int cx1, .int cy0, .int cy1, .int ds, .ref m4, .ref m5, .ref m6, .ref m7, .ref m8, .ref m9, .int (pn + 1), .ref m10, .ref m11, .ref m12, .ref m13])), (m7, .inl (cI, 48, .inl (upd px pn.toNatClampNeg (2 * x)))), (m8, .inl (cI, 48, .inl (upd py pn.toNatClampNeg (2 * y)))), (m9, .inl (cZ, 48, .inl (upd pf pn.toNatClampNeg (pfP b9 pn))))]) [0, 1, 2, 3] (by decide) rfl
            have hK9 := hK.sub (tys' := [(cI, .int), (cZ, .boolean)]) [0, 1] rfl
            refine hQ _ _ _ _ _ ?_
            exact W.iret (v := y_22) hx hb hr (fun t ht hW => ⟨⟨y_22, (), rfl, ey_22, ⟨by rw [ht]; exact hP9, va_K.moved hW.alike hK9, hD9⟩⟩, hS.F ht⟩) hS.2.2 dX9_point_94
      · skip
        have f_8 := bz0 hr_6 c_7
        exact False.elim (by omega)

set_option maxHeartbeats 4000000 in
set_option maxRecDepth 100000 in
theorem k_X9_point_r (l : Launch) (D : va_G) (sz : Nat) (h0 m1 m2 m3 m4 m5 m6 m7 m8 m9 m10 m11 m12 m13 : Nat) (ik wy op cl cx0 cx1 cy0 cy1 ds pn : Int32) (x y b9 : Int32) (hnr : ¬ (¬ pn.toInt = 48 ∧ (-4096 ≤ x.toInt ∧ x.toInt ≤ 4096) ∧ (-4096 ≤ y.toInt ∧ y.toInt ≤ 4096))) : Met l yX9_point (wB yX9_point cX9_point 4 (some .int)) ({ frames := 1, cells := 0, slots := 0, locals := 21 }) (cP D [(h0, .inr (9, [.ref m1, .ref m2, .ref m3, .int ik, .int wy, .int op, .int cl, .int cx0, .int cx1, .int cy0, .int cy1, .int ds, .ref m4, .ref m5, .ref m6, .ref m7, .ref m8, .ref m9, .int pn, .ref m10, .ref m11, .ref m12, .ref m13]))] [] sz [.ref h0, .int x, .int y, .int b9]) (va_Qi (fun (r : Int32) (_ : Unit) => r = -1) (fun (_ : Unit) (t : State) => cB D (va_A [(h0, .inr (9, [.ref m1, .ref m2, .ref m3, .int ik, .int wy, .int op, .int cl, .int cx0, .int cx1, .int cy0, .int cy1, .int ds, .ref m4, .ref m5, .ref m6, .ref m7, .ref m8, .ref m9, .int pn, .ref m10, .ref m11, .ref m12, .ref m13]))] sz) [(h0, .inr (9, [.ref m1, .ref m2, .ref m3, .int ik, .int wy, .int op, .int cl, .int cx0, .int cx1, .int cy0, .int cy1, .int ds, .ref m4, .ref m5, .ref m6, .ref m7, .ref m8, .ref m9, .int pn, .ref m10, .ref m11, .ref m12, .ref m13]))] [] t) (va_A [(h0, .inr (9, [.ref m1, .ref m2, .ref m3, .int ik, .int wy, .int op, .int cl, .int cx0, .int cx1, .int cy0, .int cy1, .int ds, .ref m4, .ref m5, .ref m6, .ref m7, .ref m8, .ref m9, .int pn, .ref m10, .ref m11, .ref m12, .ref m13]))] sz)) 0 0 (va_A [(h0, .inr (9, [.ref m1, .ref m2, .ref m3, .int ik, .int wy, .int op, .int cl, .int cx0, .int cx1, .int cy0, .int cy1, .int ds, .ref m4, .ref m5, .ref m6, .ref m7, .ref m8, .ref m9, .int pn, .ref m10, .ref m11, .ref m12, .ref m13]))] sz) := by
  refine Met.ofW (cc := cX9_point) (maxL := 4) (ret := (some .int)) (by decide) rfl ?_
  intro p e s m args below meth c s₁ B hml hv
  obtain ⟨rfl, hsz, hP, hK, hD0, hN⟩ := hv
  have hx := B.exec
  have hb := B.bytes
  have hr := B.returns
  have hts0 := atoms_spec (ws := (wB yX9_point cX9_point 4 (some .int))) B.pre
  have hts : ∀ w ∈ bigW, w.before _ s = true := fun w h => hts0 w (List.mem_cons_of_mem _ h)
  have hown : s.vm.findClass RX9 = some m.cls := findClass_of_methodNamed B.named
  have hlocks := B.notSynchronized
  subst hsz
  have hD := hD0.self (sz := s.heap.size)
  generalize hAe : va_A [(h0, .inr (9, [.ref m1, .ref m2, .ref m3, .int ik, .int wy, .int op, .int cl, .int cx0, .int cx1, .int cy0, .int cy1, .int ds, .ref m4, .ref m5, .ref m6, .ref m7, .ref m8, .ref m9, .int pn, .ref m10, .ref m11, .ref m12, .ref m13]))] s.heap.size = A at hD ⊢
  have hA : ∀ q : Nat, s.heap.size ≤ q → A q := fun q h => by rw [← hAe]; exact Or.inr h
  have hS : va_S A s.heap s.heap [] := va_S.rf
  have hP : va_P D vwCl [(h0, .inr (9, [.ref m1, .ref m2, .ref m3, .int ik, .int wy, .int op, .int cl, .int cx0, .int cx1, .int cy0, .int cy1, .int ds, .ref m4, .ref m5, .ref m6, .ref m7, .ref m8, .ref m9, .int pn, .ref m10, .ref m11, .ref m12, .ref m13]))] s.heap := hP
  have hl := lv_entry ([.ref h0, .int x, .int y, .int b9]) (n := 4) (Nat.le_of_ble_eq_true rfl)
  rw [lg_entry_eq]
  generalize (lg_sl ([.ref h0, .int x, .int y, .int b9]) ++ List.replicate (4 - (lg_sl ([.ref h0, .int x, .int y, .int b9])).length) Slot.unset).toArray = ls at hl ⊢
  have hl : lv_has ls 4 [(0, .ref h0), (1, .int x), (2, .int y), (3, .int b9)] := hl
  clear hts0 hD0 hAe
  refine my_abs (fun R Q hR hQ => ?_)
  refine lv_aload_n hx hb dX9_point_0 rfl (lv_at hl 0 rfl) ?_
  refine va_get (D := D) (ci := 9) (v := .int pn) (C := RX9) (T := TX9) (N := 23) hx hb hts hi_X9 hown hK hP 0 rfl rfl 18 (by decide) (hts _ bw_506) (fun _ h9 => h9) rfl dX9_point_1 ?_
  refine lv_bipush (v := 48) hx hb dX9_point_4 (by decide) ?_
  refine lv_icmp_eq (tgt := 29) hx hb dX9_point_6 (by decide) (fun c_1 => ?_) (fun c_1 => ?_)
  · skip
    have f_2 : pn.toInt = 48 := f_eq rfl (by decide) c_1
    refine lv_iconst (v := (-1)) hx hb dX9_point_29 (by decide) ?_
    have hP9 := hP.sub (ws' := [(h0, .inr (9, [.ref m1, .ref m2, .ref m3, .int ik, .int wy, .int op, .int cl, .int cx0, .int cx1, .int cy0, .int cy1, .int ds, .ref m4, .ref m5, .ref m6, .ref m7, .ref m8, .ref m9, .int pn, .ref m10, .ref m11, .ref m12, .ref m13]))]) [0] rfl
    have hD9 := hD.sub (ws' := [(h0, .inr (9, [.ref m1, .ref m2, .ref m3, .int ik, .int wy, .int op, .int cl, .int cx0, .int cx1, .int cy0, .int cy1, .int ds, .ref m4, .ref m5, .ref m6, .ref m7, .ref m8, .ref m9, .int pn, .ref m10, .ref m11, .ref m12, .ref m13]))]) [0] (by decide) rfl
    have hK9 := hK.sub (tys' := []) [] rfl
    refine hQ _ _ _ _ _ ?_
    exact W.iret (v := (-1)) hx hb hr (fun t ht hW => ⟨⟨(-1), (), rfl, rfl, ⟨by rw [ht]; exact hP9, va_K.moved hW.alike hK9, hD9⟩⟩, hS.F ht⟩) hS.2.2 dX9_point_30
  · skip
    have f_2 : ¬ (pn.toInt = 48) := fn_eq rfl (by decide) c_1
    refine lv_iload_n hx hb dX9_point_9 rfl (lv_at hl 1 rfl) ?_
    refine lv_sipush (v := 4096) hx hb dX9_point_10 (by decide) ?_
    have hPc := hP.sub (ws' := []) [] rfl
    have hDc := hD.sub (ws' := []) [] (by decide) rfl
    have hKc := hK.sub (tys' := []) [] rfl
    have hFc := va_free (wc := []) hD hS hA [] rfl
    refine va_calli (va_runS (As := [.int x, .int 4096]) (rest := []) ⟨hx, hb, hml, hown, hts⟩ (k_X9_isNear l D s.heap.size x 4096 (-4096) 4096 (by decide) (by decide)) (va_cwS 2 hts (gS bw_491 bw_482 bw_391 bw_481) rfl rfl rfl (by decide +kernel) ⟨(by rw [hR]; exact Nat.le_of_ble_eq_true rfl), (by rw [hR]; exact Nat.le_of_ble_eq_true rfl)⟩) ⟨cP_blind, cP_at hPc hKc hDc hN⟩ rfl rfl hl.1 rfl (lv_room (Nat.le_of_ble_eq_true rfl)) dX9_point_13 ⟨(by rw [hR]; exact Nat.le_of_ble_eq_true rfl), (by rw [hR]; exact Nat.le_of_ble_eq_true rfl)⟩) hS (fun q _ h => hFc q h) hFc (fun r_3 u9 t9 H1 locs ht hvm hr_3 hB hz1 hk1 hS => ?_)
    try dsimp only at hr_3
    have hP1 : va_P D vwCl [] H1 := vP_nil
    have hD1 : va_D (va_A [] s.heap.size) [] := vD_nil
    obtain ⟨hP, hD⟩ := va_join (wr := [(h0, .inr (9, [.ref m1, .ref m2, .ref m3, .int ik, .int wy, .int op, .int cl, .int cx0, .int cx1, .int cy0, .int cy1, .int ds, .ref m4, .ref m5, .ref m6, .ref m7, .ref m8, .ref m9, .int pn, .ref m10, .ref m11, .ref m12, .ref m13]))]) (w1 := []) hP hD [] [0] rfl rfl (by decide) (by decide) hk1 hFc hP1 hD1
    clear hz1 hk1 hFc hKc hDc hPc
    generalize H1 = H at hP hS ⊢
    have hP : va_P D vwCl [(h0, .inr (9, [.ref m1, .ref m2, .ref m3, .int ik, .int wy, .int op, .int cl, .int cx0, .int cx1, .int cy0, .int cy1, .int ds, .ref m4, .ref m5, .ref m6, .ref m7, .ref m8, .ref m9, .int pn, .ref m10, .ref m11, .ref m12, .ref m13]))] H := hP
    have hD : va_D A [(h0, .inr (9, [.ref m1, .ref m2, .ref m3, .int ik, .int wy, .int op, .int cl, .int cx0, .int cx1, .int cy0, .int cy1, .int ds, .ref m4, .ref m5, .ref m6, .ref m7, .ref m8, .ref m9, .int pn, .ref m10, .ref m11, .ref m12, .ref m13]))] := hD
    refine lv_if_eq (tgt := 29) hx hb dX9_point_16 (by decide) (fun c_4 => ?_) (fun c_4 => ?_)
    · skip
      have f_5 := bz0 hr_3 c_4
      refine lv_iconst (v := (-1)) hx hb dX9_point_29 (by decide) ?_
      have hP9 := hP.sub (ws' := [(h0, .inr (9, [.ref m1, .ref m2, .ref m3, .int ik, .int wy, .int op, .int cl, .int cx0, .int cx1, .int cy0, .int cy1, .int ds, .ref m4, .ref m5, .ref m6, .ref m7, .ref m8, .ref m9, .int pn, .ref m10, .ref m11, .ref m12, .ref m13]))]) [0] rfl
      have hD9 := hD.sub (ws' := [(h0, .inr (9, [.ref m1, .ref m2, .ref m3, .int ik, .int wy, .int op, .int cl, .int cx0, .int cx1, .int cy0, .int cy1, .int ds, .ref m4, .ref m5, .ref m6, .ref m7, .ref m8, .ref m9, .int pn, .ref m10, .ref m11, .ref m12, .ref m13]))]) [0] (by decide) rfl
      have hK9 := hK.sub (tys' := []) [] rfl
      refine hQ _ _ _ _ _ ?_
      exact W.iret (v := (-1)) hx hb hr (fun t ht hW => ⟨⟨(-1), (), rfl, rfl, ⟨by rw [ht]; exact hP9, va_K.moved hW.alike hK9, hD9⟩⟩, hS.F ht⟩) hS.2.2 dX9_point_30
    · skip
      have f_5 := bz1 hr_3 c_4
      refine lv_iload_n hx hb dX9_point_19 rfl (lv_at hl 2 rfl) ?_
      refine lv_sipush (v := 4096) hx hb dX9_point_20 (by decide) ?_
      have hPc := hP.sub (ws' := []) [] rfl
      have hDc := hD.sub (ws' := []) [] (by decide) rfl
      have hKc := hK.sub (tys' := []) [] rfl
      have hFc := va_free (wc := []) hD hS hA [] rfl
      refine va_calli (va_runS (As := [.int y, .int 4096]) (rest := []) ⟨hx, hb, hml, hown, hts⟩ (k_X9_isNear l D H.size y 4096 (-4096) 4096 (by decide) (by decide)) (va_cwS 2 hts (gS bw_491 bw_482 bw_391 bw_481) rfl rfl rfl (by decide +kernel) ⟨(by rw [hR]; exact Nat.le_of_ble_eq_true rfl), (by rw [hR]; exact Nat.le_of_ble_eq_true rfl)⟩) ⟨cP_blind, cP_at hPc hKc hDc hN⟩ rfl rfl hl.1 rfl (lv_room (Nat.le_of_ble_eq_true rfl)) dX9_point_23 ⟨(by rw [hR]; exact Nat.le_of_ble_eq_true rfl), (by rw [hR]; exact Nat.le_of_ble_eq_true rfl)⟩) hS (fun q _ h => hFc q h) hFc (fun r_6 u9 t9 H1 locs ht hvm hr_6 hB hz1 hk1 hS => ?_)
      try dsimp only at hr_6
      have hP1 : va_P D vwCl [] H1 := vP_nil
      have hD1 : va_D (va_A [] H.size) [] := vD_nil
      obtain ⟨hP, hD⟩ := va_join (wr := [(h0, .inr (9, [.ref m1, .ref m2, .ref m3, .int ik, .int wy, .int op, .int cl, .int cx0, .int cx1, .int cy0, .int cy1, .int ds, .ref m4, .ref m5, .ref m6, .ref m7, .ref m8, .ref m9, .int pn, .ref m10, .ref m11, .ref m12, .ref m13]))]) (w1 := []) hP hD [] [0] rfl rfl (by decide) (by decide) hk1 hFc hP1 hD1
      clear hz1 hk1 hFc hKc hDc hPc
      generalize H1 = H at hP hS ⊢
      have hP : va_P D vwCl [(h0, .inr (9, [.ref m1, .ref m2, .ref m3, .int ik, .int wy, .int op, .int cl, .int cx0, .int cx1, .int cy0, .int cy1, .int ds, .ref m4, .ref m5, .ref m6, .ref m7, .ref m8, .ref m9, .int pn, .ref m10, .ref m11, .ref m12, .ref m13]))] H := hP
      have hD : va_D A [(h0, .inr (9, [.ref m1, .ref m2, .ref m3, .int ik, .int wy, .int op, .int cl, .int cx0, .int cx1, .int cy0, .int cy1, .int ds, .ref m4, .ref m5, .ref m6, .ref m7, .ref m8, .ref m9, .int pn, .ref m10, .ref m11, .ref m12, .ref m13]))] := hD
      refine lv_if_ne (tgt := 31) hx hb dX9_point_26 (by decide) (fun c_7 => ?_) (fun c_7 => ?_)
      · skip
        have f_8 := bz1 hr_6 c_7
        exact False.elim (by omega)
      · skip
        have f_8 := bz0 hr_6 c_7
        refine lv_iconst (v := (-1)) hx hb dX9_point_29 (by decide) ?_
        have hP9 := hP.sub (ws' := [(h0, .inr (9, [.ref m1, .ref m2, .ref m3, .int ik, .int wy, .int op, .int cl, .int cx0, .int cx1, .int cy0, .int cy1, .int ds, .ref m4, .ref m5, .ref m6, .ref m7, .ref m8, .ref m9, .int pn, .ref m10, .ref m11, .ref m12, .ref m13]))]) [0] rfl
        have hD9 := hD.sub (ws' := [(h0, .inr (9, [.ref m1, .ref m2, .ref m3, .int ik, .int wy, .int op, .int cl, .int cx0, .int cx1, .int cy0, .int cy1, .int ds, .ref m4, .ref m5, .ref m6, .ref m7, .ref m8, .ref m9, .int pn, .ref m10, .ref m11, .ref m12, .ref m13]))]) [0] (by decide) rfl
        have hK9 := hK.sub (tys' := []) [] rfl
        refine hQ _ _ _ _ _ ?_
        exact W.iret (v := (-1)) hx hb hr (fun t ht hW => ⟨⟨(-1), (), rfl, rfl, ⟨by rw [ht]; exact hP9, va_K.moved hW.alike hK9, hD9⟩⟩, hS.F ht⟩) hS.2.2 dX9_point_30

set_option maxHeartbeats 4000000 in
set_option maxRecDepth 100000 in
theorem k_X9_edge (l : Launch) (D : va_G) (sz : Nat) (xa ya xb yb u v : Int64) (hxa : (-8192 ≤ xa.toInt ∧ xa.toInt ≤ 8192)) (hya : (-8192 ≤ ya.toInt ∧ ya.toInt ≤ 8192)) (hxb : (-8192 ≤ xb.toInt ∧ xb.toInt ≤ 8192)) (hyb : (-8192 ≤ yb.toInt ∧ yb.toInt ≤ 8192)) (hu9 : (-2147483648 ≤ u.toInt ∧ u.toInt ≤ 2147483648)) (hv9 : (-2147483648 ≤ v.toInt ∧ v.toInt ≤ 2147483648)) : Met l yX9_edge (wB yX9_edge cX9_edge 12 (some .int)) ({ frames := 0, cells := 0, slots := 0, locals := 0 }) (cP D [] [] sz [.long xa, .long ya, .long xb, .long yb, .long u, .long v]) (va_Qi (fun (r : Int32) (_ : Unit) => r = egI xa.toInt ya.toInt xb.toInt yb.toInt u.toInt v.toInt) (fun (_ : Unit) (_ : State) => True) (va_A [] sz)) 0 0 (va_A [] sz) := by
  refine Met.ofW (cc := cX9_edge) (maxL := 12) (ret := (some .int)) (by decide) rfl ?_
  intro p e s m args below meth c s₁ B hml hv
  obtain ⟨rfl, hsz, hP, hK, hD0, hN⟩ := hv
  have hx := B.exec
  have hb := B.bytes
  have hr := B.returns
  have hts0 := atoms_spec (ws := (wB yX9_edge cX9_edge 12 (some .int))) B.pre
  have hts : ∀ w ∈ bigW, w.before _ s = true := fun w h => hts0 w (List.mem_cons_of_mem _ h)
  have hown : s.vm.findClass RX9 = some m.cls := findClass_of_methodNamed B.named
  have hlocks := B.notSynchronized
  subst hsz
  have hD := hD0.self (sz := s.heap.size)
  generalize hAe : va_A [] s.heap.size = A at hD ⊢
  have hA : ∀ q : Nat, s.heap.size ≤ q → A q := fun q h => by rw [← hAe]; exact Or.inr h
  have hS : va_S A s.heap s.heap [] := va_S.rf
  have hP : va_P D vwCl [] s.heap := hP
  have hl := lv_entry ([.long xa, .long ya, .long xb, .long yb, .long u, .long v]) (n := 12) (Nat.le_of_ble_eq_true rfl)
  rw [lg_entry_eq]
  generalize (lg_sl ([.long xa, .long ya, .long xb, .long yb, .long u, .long v]) ++ List.replicate (12 - (lg_sl ([.long xa, .long ya, .long xb, .long yb, .long u, .long v])).length) Slot.unset).toArray = ls at hl ⊢
  have hl : lv_has ls 12 [(0, .long xa), (2, .long ya), (4, .long xb), (6, .long yb), (8, .long u), (10, .long v)] := hl
  clear hts0 hD0 hAe
  refine my_abs (fun R Q hR hQ => ?_)
  refine lv_lload_n hx hb dX9_edge_0 rfl (lv_at hl 1 rfl) ?_
  refine lv_lload hx hb dX9_edge_1 (lv_at hl 5 rfl) ?_
  refine W.lcmp hx hb dX9_edge_3 ?_
  refine lv_if_gt (tgt := 43) hx hb dX9_edge_4 (by decide) (fun c_1 => ?_) (fun c_1 => ?_)
  · skip
    have f_2 : (v.toInt < ya.toInt) := Int64.lt_iff_toInt_lt.mp ((lg_cmp_gt _ _).mp c_1)
    refine lv_lload hx hb dX9_edge_43 (lv_at hl 3 rfl) ?_
    refine lv_lload hx hb dX9_edge_45 (lv_at hl 5 rfl) ?_
    refine W.lcmp hx hb dX9_edge_47 ?_
    refine lv_if_gt (tgt := 86) hx hb dX9_edge_48 (by decide) (fun c_3 => ?_) (fun c_3 => ?_)
    · skip
      have f_4 : (v.toInt < yb.toInt) := Int64.lt_iff_toInt_lt.mp ((lg_cmp_gt _ _).mp c_3)
      refine lv_iconst (v := 0) hx hb dX9_edge_86 (by decide) ?_
      refine hQ _ _ _ _ _ ?_
      exact W.iret (v := 0) hx hb hr (fun t ht hW => ⟨⟨0, (), rfl, (by unfold egI; rw [if_neg (by omega), if_neg (by omega)]), trivial⟩, hS.F ht⟩) hS.2.2 dX9_edge_87
    · skip
      have f_4 : ¬ (v.toInt < yb.toInt) := fun q => c_3 ((lg_cmp_gt _ _).mpr (Int64.lt_iff_toInt_lt.mpr q))
      refine lv_lload hx hb dX9_edge_51 (lv_at hl 5 rfl) ?_
      refine lv_lload_n hx hb dX9_edge_53 rfl (lv_at hl 1 rfl) ?_
      refine W.lcmp hx hb dX9_edge_54 ?_
      refine lv_if_ge (tgt := 86) hx hb dX9_edge_55 (by decide) (fun c_5 => ?_) (fun c_5 => ?_)
      · skip
        have f_6 : (ya.toInt ≤ v.toInt) := Int64.le_iff_toInt_le.mp ((lg_cmp_ge _ _).mp c_5)
        refine lv_iconst (v := 0) hx hb dX9_edge_86 (by decide) ?_
        refine hQ _ _ _ _ _ ?_
        exact W.iret (v := 0) hx hb hr (fun t ht hW => ⟨⟨0, (), rfl, (by unfold egI; rw [if_neg (by omega), if_neg (by omega)]), trivial⟩, hS.F ht⟩) hS.2.2 dX9_edge_87
      · skip
        have f_6 : ¬ (ya.toInt ≤ v.toInt) := fun q => c_5 ((lg_cmp_ge _ _).mpr (Int64.le_iff_toInt_le.mpr q))
        refine lv_lload hx hb dX9_edge_58 (lv_at hl 5 rfl) ?_
        refine lv_lload_n hx hb dX9_edge_60 rfl (lv_at hl 1 rfl) ?_
        refine lv_lsub hx hb dX9_edge_61 ?_
        refine my_topl (fun y_7 ey_7 => ?_)
        have hty_7 : y_7.toInt = v.toInt - ya.toInt := by rw [ey_7]; exact lsub_ti (by omega) (by omega)
        refine lv_lload hx hb dX9_edge_62 (lv_at hl 2 rfl) ?_
        refine lv_lload_n hx hb dX9_edge_64 rfl (lv_at hl 0 rfl) ?_
        refine lv_lsub hx hb dX9_edge_65 ?_
        refine my_topl (fun y_8 ey_8 => ?_)
        have hty_8 : y_8.toInt = xb.toInt - xa.toInt := by rw [ey_8]; exact lsub_ti (by omega) (by omega)
        refine lv_lmul hx hb dX9_edge_66 ?_
        refine my_topl (fun y_9 ey_9 => ?_)
        have hty_9 : y_9.toInt = (v.toInt - ya.toInt) * (xb.toInt - xa.toInt) := by rw [ey_9, ← hty_7, ← hty_8]; exact lmul_ti (by omega) (by omega) (by omega) (by omega)
        refine lv_lload hx hb dX9_edge_67 (lv_at hl 4 rfl) ?_
        refine lv_lload_n hx hb dX9_edge_69 rfl (lv_at hl 0 rfl) ?_
        refine lv_lsub hx hb dX9_edge_70 ?_
        refine my_topl (fun y_10 ey_10 => ?_)
        have hty_10 : y_10.toInt = u.toInt - xa.toInt := by rw [ey_10]; exact lsub_ti (by omega) (by omega)
        refine lv_lload hx hb dX9_edge_71 (lv_at hl 3 rfl) ?_
        refine lv_lload_n hx hb dX9_edge_73 rfl (lv_at hl 1 rfl) ?_
        refine lv_lsub hx hb dX9_edge_74 ?_
        refine my_topl (fun y_11 ey_11 => ?_)
        have hty_11 : y_11.toInt = yb.toInt - ya.toInt := by rw [ey_11]; exact lsub_ti (by omega) (by omega)
        refine lv_lmul hx hb dX9_edge_75 ?_
        refine my_topl (fun y_12 ey_12 => ?_)
        have hty_12 : y_12.toInt = (u.toInt - xa.toInt) * (yb.toInt - ya.toInt) := by rw [ey_12, ← hty_10, ← hty_11]; exact lmul_ti (by omega) (by omega) (by omega) (by omega)
        refine W.lcmp hx hb dX9_edge_76 ?_
        refine lv_if_lt (tgt := 84) hx hb dX9_edge_77 (by decide) (fun c_13 => ?_) (fun c_13 => ?_)
        · skip
          have f_14 : (y_9.toInt < y_12.toInt) := Int64.lt_iff_toInt_lt.mp ((lg_cmp_lt _ _).mp c_13)
          refine lv_iconst (v := 0) hx hb dX9_edge_84 (by decide) ?_
          refine hQ _ _ _ _ _ ?_
          exact W.iret (v := 0) hx hb hr (fun t ht hW => ⟨⟨0, (), rfl, (by unfold egI; rw [if_neg (by omega), if_pos (by omega), if_neg (by rw [← hty_12, ← hty_9]; omega)]), trivial⟩, hS.F ht⟩) hS.2.2 dX9_edge_85
        · skip
          have f_14 : ¬ (y_9.toInt < y_12.toInt) := fun q => c_13 ((lg_cmp_lt _ _).mpr (Int64.lt_iff_toInt_lt.mpr q))
          refine lv_iconst (v := (-1)) hx hb dX9_edge_80 (by decide) ?_
          refine lv_goto (tgt := 85) hx hb dX9_edge_81 (by decide) ?_
          refine hQ _ _ _ _ _ ?_
          exact W.iret (v := (-1)) hx hb hr (fun t ht hW => ⟨⟨(-1), (), rfl, (by unfold egI; rw [if_neg (by omega), if_pos (by omega), if_pos (by rw [← hty_12, ← hty_9]; omega)]), trivial⟩, hS.F ht⟩) hS.2.2 dX9_edge_85
  · skip
    have f_2 : ¬ (v.toInt < ya.toInt) := fun q => c_1 ((lg_cmp_gt _ _).mpr (Int64.lt_iff_toInt_lt.mpr q))
    refine lv_lload hx hb dX9_edge_7 (lv_at hl 5 rfl) ?_
    refine lv_lload hx hb dX9_edge_9 (lv_at hl 3 rfl) ?_
    refine W.lcmp hx hb dX9_edge_11 ?_
    refine lv_if_ge (tgt := 43) hx hb dX9_edge_12 (by decide) (fun c_15 => ?_) (fun c_15 => ?_)
    · skip
      have f_16 : (yb.toInt ≤ v.toInt) := Int64.le_iff_toInt_le.mp ((lg_cmp_ge _ _).mp c_15)
      refine lv_lload hx hb dX9_edge_43 (lv_at hl 3 rfl) ?_
      refine lv_lload hx hb dX9_edge_45 (lv_at hl 5 rfl) ?_
      refine W.lcmp hx hb dX9_edge_47 ?_
      refine lv_if_gt (tgt := 86) hx hb dX9_edge_48 (by decide) (fun c_17 => ?_) (fun c_17 => ?_)
      · skip
        have f_18 : (v.toInt < yb.toInt) := Int64.lt_iff_toInt_lt.mp ((lg_cmp_gt _ _).mp c_17)
        refine lv_iconst (v := 0) hx hb dX9_edge_86 (by decide) ?_
        refine hQ _ _ _ _ _ ?_
        exact W.iret (v := 0) hx hb hr (fun t ht hW => ⟨⟨0, (), rfl, (by unfold egI; rw [if_neg (by omega), if_neg (by omega)]), trivial⟩, hS.F ht⟩) hS.2.2 dX9_edge_87
      · skip
        have f_18 : ¬ (v.toInt < yb.toInt) := fun q => c_17 ((lg_cmp_gt _ _).mpr (Int64.lt_iff_toInt_lt.mpr q))
        refine lv_lload hx hb dX9_edge_51 (lv_at hl 5 rfl) ?_
        refine lv_lload_n hx hb dX9_edge_53 rfl (lv_at hl 1 rfl) ?_
        refine W.lcmp hx hb dX9_edge_54 ?_
        refine lv_if_ge (tgt := 86) hx hb dX9_edge_55 (by decide) (fun c_19 => ?_) (fun c_19 => ?_)
        · skip
          have f_20 : (ya.toInt ≤ v.toInt) := Int64.le_iff_toInt_le.mp ((lg_cmp_ge _ _).mp c_19)
          refine lv_iconst (v := 0) hx hb dX9_edge_86 (by decide) ?_
          refine hQ _ _ _ _ _ ?_
          exact W.iret (v := 0) hx hb hr (fun t ht hW => ⟨⟨0, (), rfl, (by unfold egI; rw [if_neg (by omega), if_neg (by omega)]), trivial⟩, hS.F ht⟩) hS.2.2 dX9_edge_87
        · skip
          have f_20 : ¬ (ya.toInt ≤ v.toInt) := fun q => c_19 ((lg_cmp_ge _ _).mpr (Int64.le_iff_toInt_le.mpr q))
          refine lv_lload hx hb dX9_edge_58 (lv_at hl 5 rfl) ?_
          refine lv_lload_n hx hb dX9_edge_60 rfl (lv_at hl 1 rfl) ?_
          refine lv_lsub hx hb dX9_edge_61 ?_
          refine my_topl (fun y_21 ey_21 => ?_)
          have hty_21 : y_21.toInt = v.toInt - ya.toInt := by rw [ey_21]; exact lsub_ti (by omega) (by omega)
          refine lv_lload hx hb dX9_edge_62 (lv_at hl 2 rfl) ?_
          refine lv_lload_n hx hb dX9_edge_64 rfl (lv_at hl 0 rfl) ?_
          refine lv_lsub hx hb dX9_edge_65 ?_
          refine my_topl (fun y_22 ey_22 => ?_)
          have hty_22 : y_22.toInt = xb.toInt - xa.toInt := by rw [ey_22]; exact lsub_ti (by omega) (by omega)
          refine lv_lmul hx hb dX9_edge_66 ?_
          refine my_topl (fun y_23 ey_23 => ?_)
          have hty_23 : y_23.toInt = (v.toInt - ya.toInt) * (xb.toInt - xa.toInt) := by rw [ey_23, ← hty_21, ← hty_22]; exact lmul_ti (by omega) (by omega) (by omega) (by omega)
          refine lv_lload hx hb dX9_edge_67 (lv_at hl 4 rfl) ?_
          refine lv_lload_n hx hb dX9_edge_69 rfl (lv_at hl 0 rfl) ?_
          refine lv_lsub hx hb dX9_edge_70 ?_
          refine my_topl (fun y_24 ey_24 => ?_)
          have hty_24 : y_24.toInt = u.toInt - xa.toInt := by rw [ey_24]; exact lsub_ti (by omega) (by omega)
          refine lv_lload hx hb dX9_edge_71 (lv_at hl 3 rfl) ?_
          refine lv_lload_n hx hb dX9_edge_73 rfl (lv_at hl 1 rfl) ?_
          refine lv_lsub hx hb dX9_edge_74 ?_
          refine my_topl (fun y_25 ey_25 => ?_)
          have hty_25 : y_25.toInt = yb.toInt - ya.toInt := by rw [ey_25]; exact lsub_ti (by omega) (by omega)
          refine lv_lmul hx hb dX9_edge_75 ?_
          refine my_topl (fun y_26 ey_26 => ?_)
          have hty_26 : y_26.toInt = (u.toInt - xa.toInt) * (yb.toInt - ya.toInt) := by rw [ey_26, ← hty_24, ← hty_25]; exact lmul_ti (by omega) (by omega) (by omega) (by omega)
          refine W.lcmp hx hb dX9_edge_76 ?_
          refine lv_if_lt (tgt := 84) hx hb dX9_edge_77 (by decide) (fun c_27 => ?_) (fun c_27 => ?_)
          · skip
            have f_28 : (y_23.toInt < y_26.toInt) := Int64.lt_iff_toInt_lt.mp ((lg_cmp_lt _ _).mp c_27)
            refine lv_iconst (v := 0) hx hb dX9_edge_84 (by decide) ?_
            refine hQ _ _ _ _ _ ?_
            exact W.iret (v := 0) hx hb hr (fun t ht hW => ⟨⟨0, (), rfl, (by unfold egI; rw [if_neg (by omega), if_pos (by omega), if_neg (by rw [← hty_26, ← hty_23]; omega)]), trivial⟩, hS.F ht⟩) hS.2.2 dX9_edge_85
          · skip
            have f_28 : ¬ (y_23.toInt < y_26.toInt) := fun q => c_27 ((lg_cmp_lt _ _).mpr (Int64.lt_iff_toInt_lt.mpr q))
            refine lv_iconst (v := (-1)) hx hb dX9_edge_80 (by decide) ?_
            refine lv_goto (tgt := 85) hx hb dX9_edge_81 (by decide) ?_
            refine hQ _ _ _ _ _ ?_
            exact W.iret (v := (-1)) hx hb hr (fun t ht hW => ⟨⟨(-1), (), rfl, (by unfold egI; rw [if_neg (by omega), if_pos (by omega), if_pos (by rw [← hty_26, ← hty_23]; omega)]), trivial⟩, hS.F ht⟩) hS.2.2 dX9_edge_85
    · skip
      have f_16 : ¬ (yb.toInt ≤ v.toInt) := fun q => c_15 ((lg_cmp_ge _ _).mpr (Int64.le_iff_toInt_le.mpr q))
      refine lv_lload hx hb dX9_edge_15 (lv_at hl 5 rfl) ?_
      refine lv_lload_n hx hb dX9_edge_17 rfl (lv_at hl 1 rfl) ?_
      refine lv_lsub hx hb dX9_edge_18 ?_
      refine my_topl (fun y_29 ey_29 => ?_)
      have hty_29 : y_29.toInt = v.toInt - ya.toInt := by rw [ey_29]; exact lsub_ti (by omega) (by omega)
      refine lv_lload hx hb dX9_edge_19 (lv_at hl 2 rfl) ?_
      refine lv_lload_n hx hb dX9_edge_21 rfl (lv_at hl 0 rfl) ?_
      refine lv_lsub hx hb dX9_edge_22 ?_
      refine my_topl (fun y_30 ey_30 => ?_)
      have hty_30 : y_30.toInt = xb.toInt - xa.toInt := by rw [ey_30]; exact lsub_ti (by omega) (by omega)
      refine lv_lmul hx hb dX9_edge_23 ?_
      refine my_topl (fun y_31 ey_31 => ?_)
      have hty_31 : y_31.toInt = (v.toInt - ya.toInt) * (xb.toInt - xa.toInt) := by rw [ey_31, ← hty_29, ← hty_30]; exact lmul_ti (by omega) (by omega) (by omega) (by omega)
      refine lv_lload hx hb dX9_edge_24 (lv_at hl 4 rfl) ?_
      refine lv_lload_n hx hb dX9_edge_26 rfl (lv_at hl 0 rfl) ?_
      refine lv_lsub hx hb dX9_edge_27 ?_
      refine my_topl (fun y_32 ey_32 => ?_)
      have hty_32 : y_32.toInt = u.toInt - xa.toInt := by rw [ey_32]; exact lsub_ti (by omega) (by omega)
      refine lv_lload hx hb dX9_edge_28 (lv_at hl 3 rfl) ?_
      refine lv_lload_n hx hb dX9_edge_30 rfl (lv_at hl 1 rfl) ?_
      refine lv_lsub hx hb dX9_edge_31 ?_
      refine my_topl (fun y_33 ey_33 => ?_)
      have hty_33 : y_33.toInt = yb.toInt - ya.toInt := by rw [ey_33]; exact lsub_ti (by omega) (by omega)
      refine lv_lmul hx hb dX9_edge_32 ?_
      refine my_topl (fun y_34 ey_34 => ?_)
      have hty_34 : y_34.toInt = (u.toInt - xa.toInt) * (yb.toInt - ya.toInt) := by rw [ey_34, ← hty_32, ← hty_33]; exact lmul_ti (by omega) (by omega) (by omega) (by omega)
      refine W.lcmp hx hb dX9_edge_33 ?_
      refine lv_if_gt (tgt := 41) hx hb dX9_edge_34 (by decide) (fun c_35 => ?_) (fun c_35 => ?_)
      · skip
        have f_36 : (y_34.toInt < y_31.toInt) := Int64.lt_iff_toInt_lt.mp ((lg_cmp_gt _ _).mp c_35)
        refine lv_iconst (v := 0) hx hb dX9_edge_41 (by decide) ?_
        refine hQ _ _ _ _ _ ?_
        exact W.iret (v := 0) hx hb hr (fun t ht hW => ⟨⟨0, (), rfl, (by unfold egI; rw [if_pos (by omega), if_neg (by rw [← hty_31, ← hty_34]; omega)]), trivial⟩, hS.F ht⟩) hS.2.2 dX9_edge_42
      · skip
        have f_36 : ¬ (y_34.toInt < y_31.toInt) := fun q => c_35 ((lg_cmp_gt _ _).mpr (Int64.lt_iff_toInt_lt.mpr q))
        refine lv_iconst (v := 1) hx hb dX9_edge_37 (by decide) ?_
        refine lv_goto (tgt := 42) hx hb dX9_edge_38 (by decide) ?_
        refine hQ _ _ _ _ _ ?_
        exact W.iret (v := 1) hx hb hr (fun t ht hW => ⟨⟨1, (), rfl, (by unfold egI; rw [if_pos (by omega), if_pos (by rw [← hty_31, ← hty_34]; omega)]), trivial⟩, hS.F ht⟩) hS.2.2 dX9_edge_42

set_option maxHeartbeats 4000000 in
set_option maxRecDepth 100000 in
theorem k_X9_winding (l : Launch) (D : va_G) (sz : Nat) (h0 m1 m2 m3 m4 m5 m6 m7 m8 m9 m10 m11 m12 m13 : Nat) (ik wy op cl cx0 cx1 cy0 cy1 ds pn : Int32) (px : Nat → Int32) (py : Nat → Int32) (pf : Nat → Int32) (u v : Int64) (cI : ClassId) (cZ : ClassId) (hpn : 0 ≤ pn.toInt ∧ pn.toInt ≤ 48) (hpx : ∀ j : Nat, j < 48 → (-8192 ≤ (px j).toInt ∧ (px j).toInt ≤ 8192) ∧ (-8192 ≤ (py j).toInt ∧ (py j).toInt ≤ 8192)) (hu9 : (-2147483648 ≤ u.toInt ∧ u.toInt ≤ 2147483648)) (hv9 : (-2147483648 ≤ v.toInt ∧ v.toInt ≤ 2147483648)) : Met l yX9_winding (wB yX9_winding cX9_winding 9 (some .int)) ({ frames := 1, cells := 0, slots := 0, locals := 31 }) (cP D [(h0, .inr (9, [.ref m1, .ref m2, .ref m3, .int ik, .int wy, .int op, .int cl, .int cx0, .int cx1, .int cy0, .int cy1, .int ds, .ref m4, .ref m5, .ref m6, .ref m7, .ref m8, .ref m9, .int pn, .ref m10, .ref m11, .ref m12, .ref m13])), (m7, .inl (cI, 48, .inl px)), (m8, .inl (cI, 48, .inl py)), (m9, .inl (cZ, 48, .inl pf))] [(cI, .int), (cZ, .boolean)] sz [.ref h0, .long u, .long v]) (va_Qi (fun (r : Int32) (_ : Unit) => r = wdN px py pf pn.toNatClampNeg u.toInt v.toInt pn.toNatClampNeg) (fun (_ : Unit) (t : State) => cB D (va_A [(h0, .inr (9, [.ref m1, .ref m2, .ref m3, .int ik, .int wy, .int op, .int cl, .int cx0, .int cx1, .int cy0, .int cy1, .int ds, .ref m4, .ref m5, .ref m6, .ref m7, .ref m8, .ref m9, .int pn, .ref m10, .ref m11, .ref m12, .ref m13])), (m7, .inl (cI, 48, .inl px)), (m8, .inl (cI, 48, .inl py)), (m9, .inl (cZ, 48, .inl pf))] sz) [(h0, .inr (9, [.ref m1, .ref m2, .ref m3, .int ik, .int wy, .int op, .int cl, .int cx0, .int cx1, .int cy0, .int cy1, .int ds, .ref m4, .ref m5, .ref m6, .ref m7, .ref m8, .ref m9, .int pn, .ref m10, .ref m11, .ref m12, .ref m13])), (m7, .inl (cI, 48, .inl px)), (m8, .inl (cI, 48, .inl py)), (m9, .inl (cZ, 48, .inl pf))] [(cI, .int), (cZ, .boolean)] t) (va_A [(h0, .inr (9, [.ref m1, .ref m2, .ref m3, .int ik, .int wy, .int op, .int cl, .int cx0, .int cx1, .int cy0, .int cy1, .int ds, .ref m4, .ref m5, .ref m6, .ref m7, .ref m8, .ref m9, .int pn, .ref m10, .ref m11, .ref m12, .ref m13])), (m7, .inl (cI, 48, .inl px)), (m8, .inl (cI, 48, .inl py)), (m9, .inl (cZ, 48, .inl pf))] sz)) 0 0 (va_A [(h0, .inr (9, [.ref m1, .ref m2, .ref m3, .int ik, .int wy, .int op, .int cl, .int cx0, .int cx1, .int cy0, .int cy1, .int ds, .ref m4, .ref m5, .ref m6, .ref m7, .ref m8, .ref m9, .int pn, .ref m10, .ref m11, .ref m12, .ref m13])), (m7, .inl (cI, 48, .inl px)), (m8, .inl (cI, 48, .inl py)), (m9, .inl (cZ, 48, .inl pf))] sz) := by
  refine Met.ofW (cc := cX9_winding) (maxL := 9) (ret := (some .int)) (by decide) rfl ?_
  intro p e s m args below meth c s₁ B hml hv
  obtain ⟨rfl, hsz, hP, hK, hD0, hN⟩ := hv
  have hx := B.exec
  have hb := B.bytes
  have hr := B.returns
  have hts0 := atoms_spec (ws := (wB yX9_winding cX9_winding 9 (some .int))) B.pre
  have hts : ∀ w ∈ bigW, w.before _ s = true := fun w h => hts0 w (List.mem_cons_of_mem _ h)
  have hown : s.vm.findClass RX9 = some m.cls := findClass_of_methodNamed B.named
  have hlocks := B.notSynchronized
  subst hsz
  have hD := hD0.self (sz := s.heap.size)
  generalize hAe : va_A [(h0, .inr (9, [.ref m1, .ref m2, .ref m3, .int ik, .int wy, .int op, .int cl, .int cx0, .int cx1, .int cy0, .int cy1, .int ds, .ref m4, .ref m5, .ref m6, .ref m7, .ref m8, .ref m9, .int pn, .ref m10, .ref m11, .ref m12, .ref m13])), (m7, .inl (cI, 48, .inl px)), (m8, .inl (cI, 48, .inl py)), (m9, .inl (cZ, 48, .inl pf))] s.heap.size = A at hD ⊢
  have hA : ∀ q : Nat, s.heap.size ≤ q → A q := fun q h => by rw [← hAe]; exact Or.inr h
  have hS : va_S A s.heap s.heap [] := va_S.rf
  have hP : va_P D vwCl [(h0, .inr (9, [.ref m1, .ref m2, .ref m3, .int ik, .int wy, .int op, .int cl, .int cx0, .int cx1, .int cy0, .int cy1, .int ds, .ref m4, .ref m5, .ref m6, .ref m7, .ref m8, .ref m9, .int pn, .ref m10, .ref m11, .ref m12, .ref m13])), (m7, .inl (cI, 48, .inl px)), (m8, .inl (cI, 48, .inl py)), (m9, .inl (cZ, 48, .inl pf))] s.heap := hP
  have hl := lv_entry ([.ref h0, .long u, .long v]) (n := 9) (Nat.le_of_ble_eq_true rfl)
  rw [lg_entry_eq]
  generalize (lg_sl ([.ref h0, .long u, .long v]) ++ List.replicate (9 - (lg_sl ([.ref h0, .long u, .long v])).length) Slot.unset).toArray = ls at hl ⊢
  have hl : lv_has ls 9 [(0, .ref h0), (1, .long u), (3, .long v)] := hl
  clear hts0 hD0 hAe
  refine my_abs (fun R Q hR hQ => ?_)
  refine lv_iconst (v := 0) hx hb dX9_winding_0 (by decide) ?_
  refine lv_istore (lv' := [(5, .int 0), (0, .ref h0), (1, .long u), (3, .long v)]) hx hb dX9_winding_1 hl (by decide) rfl (fun ls hl => ?_)
  refine lv_iconst (v := 0) hx hb dX9_winding_3 (by decide) ?_
  refine lv_istore (lv' := [(6, .int 0), (5, .int 0), (0, .ref h0), (1, .long u), (3, .long v)]) hx hb dX9_winding_4 hl (by decide) rfl (fun ls hl => ?_)
  refine lv_iconst (v := 0) hx hb dX9_winding_6 (by decide) ?_
  refine lv_istore (lv' := [(7, .int 0), (6, .int 0), (5, .int 0), (0, .ref h0), (1, .long u), (3, .long v)]) hx hb dX9_winding_7 hl (by decide) rfl (fun ls hl => ?_)
  have loop_1 : ∀ (n : Nat) (i : Nat) (x7 : Int32) (x5 : Int32) (x6 : Int32) (H : Heap) (locs : List Loc) (ls : Array Slot), (i ≤ 48) → (48 + 1 ≤ i + n) → (x7 = nI i) → ((i : Int) ≤ pn.toInt) → (x6 = nI (mfN pf i)) → (x5 = wdN px py pf pn.toNatClampNeg u.toInt v.toInt i) → va_P D vwCl [(h0, .inr (9, [.ref m1, .ref m2, .ref m3, .int ik, .int wy, .int op, .int cl, .int cx0, .int cx1, .int cy0, .int cy1, .int ds, .ref m4, .ref m5, .ref m6, .ref m7, .ref m8, .ref m9, .int pn, .ref m10, .ref m11, .ref m12, .ref m13])), (m7, .inl (cI, 48, .inl px)), (m8, .inl (cI, 48, .inl py)), (m9, .inl (cZ, 48, .inl pf))] H → va_D A [(h0, .inr (9, [.ref m1, .ref m2, .ref m3, .int ik, .int wy, .int op, .int cl, .int cx0, .int cx1, .int cy0, .int cy1, .int ds, .ref m4, .ref m5, .ref m6, .ref m7, .ref m8, .ref m9, .int pn, .ref m10, .ref m11, .ref m12, .ref m13])), (m7, .inl (cI, 48, .inl px)), (m8, .inl (cI, 48, .inl py)), (m9, .inl (cZ, 48, .inl pf))] → va_S A s.heap H locs → lv_has ls 9 [(7, .int x7), (6, .int x6), (5, .int x5), (0, .ref h0), (1, .long u), (3, .long v)] → W p l e R s m ([.ref h0, .long u, .long v] : List Value).toArray below meth c H locs 0 0 Q (F0 m 9 ls []) := by
    intro n
    induction n with
    | zero =>
      intro i x7 x5 x6 H locs ls hi_i hm_i ex_i hip hfi et hP hD hS hl
      exact absurd (show False by omega) not_false
    | succ n ih_2 =>
      intro i x7 x5 x6 H locs ls hi_i hm_i ex_i hip hfi et hP hD hS hl
      have hx_i : x7.toInt = (i : Int) := by rw [ex_i]; exact nI_toInt (by omega)
      have hc_i : x7.toNatClampNeg = i := by rw [ex_i]; exact nI_clamp (by omega)
      have hml9 := mfN_le pf i
      refine lv_iload hx hb dX9_winding_9 (lv_at hl 0 rfl) ?_
      refine lv_aload_n hx hb dX9_winding_11 rfl (lv_at hl 3 rfl) ?_
      refine va_get (D := D) (ci := 9) (v := .int pn) (C := RX9) (T := TX9) (N := 23) hx hb hts hi_X9 hown hK hP 0 rfl rfl 18 (by decide) (hts _ bw_506) (fun _ h9 => h9) rfl dX9_winding_12 ?_
      refine lv_icmp_ge (tgt := 114) hx hb dX9_winding_15 (by decide) (fun c_3 => ?_) (fun c_3 => ?_)
      · skip
        have f_4 : pn.toInt ≤ (i : Int) := f_le rfl hx_i c_3
        refine lv_iload hx hb dX9_winding_114 (lv_at hl 2 rfl) ?_
        have hP9 := hP.sub (ws' := [(h0, .inr (9, [.ref m1, .ref m2, .ref m3, .int ik, .int wy, .int op, .int cl, .int cx0, .int cx1, .int cy0, .int cy1, .int ds, .ref m4, .ref m5, .ref m6, .ref m7, .ref m8, .ref m9, .int pn, .ref m10, .ref m11, .ref m12, .ref m13])), (m7, .inl (cI, 48, .inl px)), (m8, .inl (cI, 48, .inl py)), (m9, .inl (cZ, 48, .inl pf))]) [0, 1, 2, 3] rfl
        have hD9 := hD.sub (ws' := [(h0, .inr (9, [.ref m1, .ref m2, .ref m3, .int ik, .int wy, .int op, .int cl, .int cx0, .int cx1, .int cy0, .int cy1, .int ds, .ref m4, .ref m5, .ref m6, .ref m7, .ref m8, .ref m9, .int pn, .ref m10, .ref m11, .ref m12, .ref m13])), (m7, .inl (cI, 48, .inl px)), (m8, .inl (cI, 48, .inl py)), (m9, .inl (cZ, 48, .inl pf))]) [0, 1, 2, 3] (by decide) rfl
        have hK9 := hK.sub (tys' := [(cI, .int), (cZ, .boolean)]) [0, 1] rfl
        refine hQ _ _ _ _ _ ?_
        exact W.iret (v := x5) hx hb hr (fun t ht hW => ⟨⟨x5, (), rfl, (et.trans (congrArg (wdN px py pf pn.toNatClampNeg u.toInt v.toInt) (pn_cl hpn (show pn.toInt = (i : Int) by omega)).symm)), ⟨by rw [ht]; exact hP9, va_K.moved hW.alike hK9, hD9⟩⟩, hS.F ht⟩) hS.2.2 dX9_winding_116
      · skip
        have f_4 : ¬ (pn.toInt ≤ (i : Int)) := fn_le rfl hx_i c_3
        refine lv_aload_n hx hb dX9_winding_18 rfl (lv_at hl 3 rfl) ?_
        refine va_get (D := D) (ci := 9) (v := .ref m9) (C := RX9) (T := TX9) (N := 23) hx hb hts hi_X9 hown hK hP 0 rfl rfl 17 (by decide) (hts _ bw_409) (fun _ h9 => h9) rfl dX9_winding_19 ?_
        refine lv_iload hx hb dX9_winding_22 (lv_at hl 0 rfl) ?_
        refine va_zald hx hb hK hP 3 1 rfl rfl (by rw [ex_i]; exact vp_in_nI (by omega) (by omega)) dX9_winding_24 ?_
        refine my_fold (v := pf (i)) (congrArg pf (by rw [ex_i]; exact nI_clamp (by omega))) ?_
        refine lv_if_eq (tgt := 32) hx hb dX9_winding_25 (by decide) (fun c_5 => ?_) (fun c_5 => ?_)
        · skip
          have f_6 : (pf (i)).toInt = 0 := f_eq rfl (by decide) c_5
          have hmf : mfN pf (i + 1) = mfN pf i := if_pos c_5
          refine lv_iload hx hb dX9_winding_32 (lv_at hl 0 rfl) ?_
          refine lv_iconst (v := 1) hx hb dX9_winding_34 (by decide) ?_
          refine lv_iadd hx hb dX9_winding_35 ?_
          refine lv_topi (fun y_7 ey_7 => ?_)
          have hty_7 : y_7 = nI (i + 1) := by rw [ey_7, ex_i]; exact nI_1 i
          have htiy_7 : y_7.toInt = ((i + 1 : Nat) : Int) := by rw [hty_7]; exact nI_toInt (by omega)
          refine lv_aload_n hx hb dX9_winding_36 rfl (lv_at hl 3 rfl) ?_
          refine va_get (D := D) (ci := 9) (v := .int pn) (C := RX9) (T := TX9) (N := 23) hx hb hts hi_X9 hown hK hP 0 rfl rfl 18 (by decide) (hts _ bw_506) (fun _ h9 => h9) rfl dX9_winding_37 ?_
          refine lv_icmp_eq (tgt := 55) hx hb dX9_winding_40 (by decide) (fun c_8 => ?_) (fun c_8 => ?_)
          · skip
            have f_9 : ((i + 1 : Nat) : Int) = pn.toInt := f_eq htiy_7 rfl c_8
            have hto : toN pf pn.toNatClampNeg i = mfN pf (i + 1) := if_pos (Or.inl (by rw [pn_cl hpn (show pn.toInt = ((i + 1 : Nat) : Int) by omega)]))
            refine lv_iload hx hb dX9_winding_55 (lv_at hl 1 rfl) ?_
            refine lv_goto (tgt := 64) hx hb dX9_winding_57 (by decide) ?_
            refine lv_istore (lv' := [(8, .int x6), (7, .int x7), (6, .int x6), (5, .int x5), (0, .ref h0), (1, .long u), (3, .long v)]) hx hb dX9_winding_64 hl (by decide) rfl (fun ls hl => ?_)
            refine lv_iload hx hb dX9_winding_66 (lv_at hl 3 rfl) ?_
            refine lv_aload_n hx hb dX9_winding_68 rfl (lv_at hl 4 rfl) ?_
            refine va_get (D := D) (ci := 9) (v := .ref m7) (C := RX9) (T := TX9) (N := 23) hx hb hts hi_X9 hown hK hP 0 rfl rfl 15 (by decide) (hts _ bw_407) (fun _ h9 => h9) rfl dX9_winding_69 ?_
            refine lv_iload hx hb dX9_winding_72 (lv_at hl 1 rfl) ?_
            refine va_iald hx hb hK hP 1 0 rfl rfl (by rw [ex_i]; exact vp_in_nI (by omega) (by omega)) dX9_winding_74 ?_
            refine my_fold (v := px (i)) (congrArg px (by rw [ex_i]; exact nI_clamp (by omega))) ?_
            obtain ⟨y_10, ey_10⟩ : ∃ y : Int64, y = (px (i)).toInt64 := ⟨_, rfl⟩
            refine lv_i2l (v := y_10) hx hb dX9_winding_75 ey_10.symm ?_
            have hty_10 : y_10.toInt = (px (i)).toInt := by rw [ey_10]; exact Int32.toInt_toInt64 _
            refine lv_aload_n hx hb dX9_winding_76 rfl (lv_at hl 4 rfl) ?_
            refine va_get (D := D) (ci := 9) (v := .ref m8) (C := RX9) (T := TX9) (N := 23) hx hb hts hi_X9 hown hK hP 0 rfl rfl 16 (by decide) (hts _ bw_408) (fun _ h9 => h9) rfl dX9_winding_77 ?_
            refine lv_iload hx hb dX9_winding_80 (lv_at hl 1 rfl) ?_
            refine va_iald hx hb hK hP 2 0 rfl rfl (by rw [ex_i]; exact vp_in_nI (by omega) (by omega)) dX9_winding_82 ?_
            refine my_fold (v := py (i)) (congrArg py (by rw [ex_i]; exact nI_clamp (by omega))) ?_
            obtain ⟨y_11, ey_11⟩ : ∃ y : Int64, y = (py (i)).toInt64 := ⟨_, rfl⟩
            refine lv_i2l (v := y_11) hx hb dX9_winding_83 ey_11.symm ?_
            have hty_11 : y_11.toInt = (py (i)).toInt := by rw [ey_11]; exact Int32.toInt_toInt64 _
            refine lv_aload_n hx hb dX9_winding_84 rfl (lv_at hl 4 rfl) ?_
            refine va_get (D := D) (ci := 9) (v := .ref m7) (C := RX9) (T := TX9) (N := 23) hx hb hts hi_X9 hown hK hP 0 rfl rfl 15 (by decide) (hts _ bw_407) (fun _ h9 => h9) rfl dX9_winding_85 ?_
            refine lv_iload hx hb dX9_winding_88 (lv_at hl 0 rfl) ?_
            refine va_iald hx hb hK hP 1 0 rfl rfl (by rw [hfi]; exact vp_in_nI (by omega) (by omega)) dX9_winding_90 ?_
            refine my_fold (v := px (mfN pf i)) (congrArg px (by rw [hfi]; exact nI_clamp (by omega))) ?_
            obtain ⟨y_12, ey_12⟩ : ∃ y : Int64, y = (px (mfN pf i)).toInt64 := ⟨_, rfl⟩
            refine lv_i2l (v := y_12) hx hb dX9_winding_91 ey_12.symm ?_
            have hty_12 : y_12.toInt = (px (mfN pf i)).toInt := by rw [ey_12]; exact Int32.toInt_toInt64 _
            refine lv_aload_n hx hb dX9_winding_92 rfl (lv_at hl 4 rfl) ?_
            refine va_get (D := D) (ci := 9) (v := .ref m8) (C := RX9) (T := TX9) (N := 23) hx hb hts hi_X9 hown hK hP 0 rfl rfl 16 (by decide) (hts _ bw_408) (fun _ h9 => h9) rfl dX9_winding_93 ?_
            refine lv_iload hx hb dX9_winding_96 (lv_at hl 0 rfl) ?_
            refine va_iald hx hb hK hP 2 0 rfl rfl (by rw [hfi]; exact vp_in_nI (by omega) (by omega)) dX9_winding_98 ?_
            refine my_fold (v := py (mfN pf i)) (congrArg py (by rw [hfi]; exact nI_clamp (by omega))) ?_
            obtain ⟨y_13, ey_13⟩ : ∃ y : Int64, y = (py (mfN pf i)).toInt64 := ⟨_, rfl⟩
            refine lv_i2l (v := y_13) hx hb dX9_winding_99 ey_13.symm ?_
            have hty_13 : y_13.toInt = (py (mfN pf i)).toInt := by rw [ey_13]; exact Int32.toInt_toInt64 _
            refine lv_lload_n hx hb dX9_winding_100 rfl (lv_at hl 5 rfl) ?_
            refine lv_lload_n hx hb dX9_winding_101 rfl (lv_at hl 6 rfl) ?_
            have hPc := hP.sub (ws' := []) [] rfl
            have hDc := hD.sub (ws' := []) [] (by decide) rfl
            have hKc := hK.sub (tys' := []) [] rfl
            have hFc := va_free (wc := []) hD hS hA [] rfl
            refine va_calli (va_runS (As := [.long y_10, .long y_11, .long y_12, .long y_13, .long u, .long v]) (rest := [.int x5]) ⟨hx, hb, hml, hown, hts⟩ (k_X9_edge l D H.size y_10 y_11 y_12 y_13 u v (by rw [hty_10]; exact (hpx _ (by omega)).1) (by rw [hty_11]; exact (hpx _ (by omega)).2) (by rw [hty_12]; exact (hpx _ (by omega)).1) (by rw [hty_13]; exact (hpx _ (by omega)).2) (by first | assumption | omega | decide) (by first | assumption | omega | decide)) (va_cwS 6 hts (gS bw_515 bw_511 bw_391 bw_510) rfl rfl rfl (by decide +kernel) ⟨(by rw [hR]; exact Nat.le_of_ble_eq_true rfl), (by rw [hR]; exact Nat.le_of_ble_eq_true rfl)⟩) ⟨cP_blind, cP_at hPc hKc hDc hN⟩ rfl rfl hl.1 rfl (lv_room (Nat.le_of_ble_eq_true rfl)) dX9_winding_102 ⟨(by rw [hR]; exact Nat.le_of_ble_eq_true rfl), (by rw [hR]; exact Nat.le_of_ble_eq_true rfl)⟩) hS (fun q _ h => hFc q h) hFc (fun r_14 u9 t9 H1 locs ht hvm hr_14 hB hz1 hk1 hS => ?_)
            try dsimp only at hr_14
            have hP1 : va_P D vwCl [] H1 := vP_nil
            have hD1 : va_D (va_A [] H.size) [] := vD_nil
            obtain ⟨hP, hD⟩ := va_join (wr := [(h0, .inr (9, [.ref m1, .ref m2, .ref m3, .int ik, .int wy, .int op, .int cl, .int cx0, .int cx1, .int cy0, .int cy1, .int ds, .ref m4, .ref m5, .ref m6, .ref m7, .ref m8, .ref m9, .int pn, .ref m10, .ref m11, .ref m12, .ref m13])), (m7, .inl (cI, 48, .inl px)), (m8, .inl (cI, 48, .inl py)), (m9, .inl (cZ, 48, .inl pf))]) (w1 := []) hP hD [] [0, 1, 2, 3] rfl rfl (by decide) (by decide) hk1 hFc hP1 hD1
            clear hz1 hk1 hFc hKc hDc hPc
            generalize H1 = H at hP hS ⊢
            have hP : va_P D vwCl [(h0, .inr (9, [.ref m1, .ref m2, .ref m3, .int ik, .int wy, .int op, .int cl, .int cx0, .int cx1, .int cy0, .int cy1, .int ds, .ref m4, .ref m5, .ref m6, .ref m7, .ref m8, .ref m9, .int pn, .ref m10, .ref m11, .ref m12, .ref m13])), (m7, .inl (cI, 48, .inl px)), (m8, .inl (cI, 48, .inl py)), (m9, .inl (cZ, 48, .inl pf))] H := hP
            have hD : va_D A [(h0, .inr (9, [.ref m1, .ref m2, .ref m3, .int ik, .int wy, .int op, .int cl, .int cx0, .int cx1, .int cy0, .int cy1, .int ds, .ref m4, .ref m5, .ref m6, .ref m7, .ref m8, .ref m9, .int pn, .ref m10, .ref m11, .ref m12, .ref m13])), (m7, .inl (cI, 48, .inl px)), (m8, .inl (cI, 48, .inl py)), (m9, .inl (cZ, 48, .inl pf))] := hD
            have hTT : toN pf pn.toNatClampNeg i = mfN pf i := hto.trans hmf
            have hqr_14 : r_14 = egI (px i).toInt (py i).toInt (px (toN pf pn.toNatClampNeg i)).toInt (py (toN pf pn.toNatClampNeg i)).toInt u.toInt v.toInt := by rw [hTT, hr_14, hty_10, hty_11, hty_12, hty_13]
            refine lv_iadd hx hb dX9_winding_105 ?_
            refine lv_topi (fun y_15 ey_15 => ?_)
            refine lv_istore (lv' := [(5, .int y_15), (8, .int x6), (7, .int x7), (6, .int x6), (0, .ref h0), (1, .long u), (3, .long v)]) hx hb dX9_winding_106 hl (by decide) rfl (fun ls hl => ?_)
            obtain ⟨y_16, ey_16⟩ : ∃ y : Int32, y = x7 + 1 := ⟨_, rfl⟩
            refine lv_iinc (v := y_16) (lv' := [(7, .int y_16), (5, .int y_15), (8, .int x6), (6, .int x6), (0, .ref h0), (1, .long u), (3, .long v)]) hx hb dX9_winding_108 hl (k := 2) rfl (by rw [ey_16]; rfl) (by decide) rfl (fun ls hl => ?_)
            refine lv_goto (tgt := 9) hx hb dX9_winding_111 (by decide) ?_
            exact ih_2 (i + 1) y_16 y_15 x6 _ _ _ (by omega) (by omega) (by rw [ey_16, ex_i]; exact nI_1 i) (by omega) (by rw [hmf]; exact hfi) (by rw [ey_15, hqr_14, et]; rfl) (hP.sub (ws' := [(h0, .inr (9, [.ref m1, .ref m2, .ref m3, .int ik, .int wy, .int op, .int cl, .int cx0, .int cx1, .int cy0, .int cy1, .int ds, .ref m4, .ref m5, .ref m6, .ref m7, .ref m8, .ref m9, .int pn, .ref m10, .ref m11, .ref m12, .ref m13])), (m7, .inl (cI, 48, .inl px)), (m8, .inl (cI, 48, .inl py)), (m9, .inl (cZ, 48, .inl pf))]) [0, 1, 2, 3] rfl) (hD.sub (ws' := [(h0, .inr (9, [.ref m1, .ref m2, .ref m3, .int ik, .int wy, .int op, .int cl, .int cx0, .int cx1, .int cy0, .int cy1, .int ds, .ref m4, .ref m5, .ref m6, .ref m7, .ref m8, .ref m9, .int pn, .ref m10, .ref m11, .ref m12, .ref m13])), (m7, .inl (cI, 48, .inl px)), (m8, .inl (cI, 48, .inl py)), (m9, .inl (cZ, 48, .inl pf))]) [0, 1, 2, 3] (by decide) rfl) hS (lv_sub hl [0, 3, 1, 4, 5, 6] rfl)
          · skip
            have f_9 : ¬ (((i + 1 : Nat) : Int) = pn.toInt) := fn_eq htiy_7 rfl c_8
            have hnp : ¬ i + 1 = pn.toNatClampNeg := fun q => by have := pn_ti hpn; omega
            refine lv_aload_n hx hb dX9_winding_43 rfl (lv_at hl 3 rfl) ?_
            refine va_get (D := D) (ci := 9) (v := .ref m9) (C := RX9) (T := TX9) (N := 23) hx hb hts hi_X9 hown hK hP 0 rfl rfl 17 (by decide) (hts _ bw_409) (fun _ h9 => h9) rfl dX9_winding_44 ?_
            refine lv_iload hx hb dX9_winding_47 (lv_at hl 0 rfl) ?_
            refine lv_iconst (v := 1) hx hb dX9_winding_49 (by decide) ?_
            refine lv_iadd hx hb dX9_winding_50 ?_
            refine lv_topi (fun y_17 ey_17 => ?_)
            have hty_17 : y_17 = nI (i + 1) := by rw [ey_17, ex_i]; exact nI_1 i
            have htiy_17 : y_17.toInt = ((i + 1 : Nat) : Int) := by rw [hty_17]; exact nI_toInt (by omega)
            refine va_zald hx hb hK hP 3 1 rfl rfl (by rw [hty_17]; exact vp_in_nI (by omega) (by omega)) dX9_winding_51 ?_
            refine my_fold (v := pf (i + 1)) (congrArg pf (by rw [hty_17]; exact nI_clamp (by omega))) ?_
            refine lv_if_eq (tgt := 60) hx hb dX9_winding_52 (by decide) (fun c_18 => ?_) (fun c_18 => ?_)
            · skip
              have f_19 : (pf (i + 1)).toInt = 0 := f_eq rfl (by decide) c_18
              have hto : toN pf pn.toNatClampNeg i = i + 1 := if_neg (fun q => q.elim hnp (fun q => q c_18))
              refine lv_iload hx hb dX9_winding_60 (lv_at hl 0 rfl) ?_
              refine lv_iconst (v := 1) hx hb dX9_winding_62 (by decide) ?_
              refine lv_iadd hx hb dX9_winding_63 ?_
              refine lv_topi (fun y_20 ey_20 => ?_)
              have hty_20 : y_20 = nI (i + 1) := by rw [ey_20, ex_i]; exact nI_1 i
              have htiy_20 : y_20.toInt = ((i + 1 : Nat) : Int) := by rw [hty_20]; exact nI_toInt (by omega)
              refine lv_istore (lv' := [(8, .int y_20), (7, .int x7), (6, .int x6), (5, .int x5), (0, .ref h0), (1, .long u), (3, .long v)]) hx hb dX9_winding_64 hl (by decide) rfl (fun ls hl => ?_)
              refine lv_iload hx hb dX9_winding_66 (lv_at hl 3 rfl) ?_
              refine lv_aload_n hx hb dX9_winding_68 rfl (lv_at hl 4 rfl) ?_
              refine va_get (D := D) (ci := 9) (v := .ref m7) (C := RX9) (T := TX9) (N := 23) hx hb hts hi_X9 hown hK hP 0 rfl rfl 15 (by decide) (hts _ bw_407) (fun _ h9 => h9) rfl dX9_winding_69 ?_
              refine lv_iload hx hb dX9_winding_72 (lv_at hl 1 rfl) ?_
              refine va_iald hx hb hK hP 1 0 rfl rfl (by rw [ex_i]; exact vp_in_nI (by omega) (by omega)) dX9_winding_74 ?_
              refine my_fold (v := px (i)) (congrArg px (by rw [ex_i]; exact nI_clamp (by omega))) ?_
              obtain ⟨y_21, ey_21⟩ : ∃ y : Int64, y = (px (i)).toInt64 := ⟨_, rfl⟩
              refine lv_i2l (v := y_21) hx hb dX9_winding_75 ey_21.symm ?_
              have hty_21 : y_21.toInt = (px (i)).toInt := by rw [ey_21]; exact Int32.toInt_toInt64 _
              refine lv_aload_n hx hb dX9_winding_76 rfl (lv_at hl 4 rfl) ?_
              refine va_get (D := D) (ci := 9) (v := .ref m8) (C := RX9) (T := TX9) (N := 23) hx hb hts hi_X9 hown hK hP 0 rfl rfl 16 (by decide) (hts _ bw_408) (fun _ h9 => h9) rfl dX9_winding_77 ?_
              refine lv_iload hx hb dX9_winding_80 (lv_at hl 1 rfl) ?_
              refine va_iald hx hb hK hP 2 0 rfl rfl (by rw [ex_i]; exact vp_in_nI (by omega) (by omega)) dX9_winding_82 ?_
              refine my_fold (v := py (i)) (congrArg py (by rw [ex_i]; exact nI_clamp (by omega))) ?_
              obtain ⟨y_22, ey_22⟩ : ∃ y : Int64, y = (py (i)).toInt64 := ⟨_, rfl⟩
              refine lv_i2l (v := y_22) hx hb dX9_winding_83 ey_22.symm ?_
              have hty_22 : y_22.toInt = (py (i)).toInt := by rw [ey_22]; exact Int32.toInt_toInt64 _
              refine lv_aload_n hx hb dX9_winding_84 rfl (lv_at hl 4 rfl) ?_
              refine va_get (D := D) (ci := 9) (v := .ref m7) (C := RX9) (T := TX9) (N := 23) hx hb hts hi_X9 hown hK hP 0 rfl rfl 15 (by decide) (hts _ bw_407) (fun _ h9 => h9) rfl dX9_winding_85 ?_
              refine lv_iload hx hb dX9_winding_88 (lv_at hl 0 rfl) ?_
              refine va_iald hx hb hK hP 1 0 rfl rfl (by rw [hty_20]; exact vp_in_nI (by omega) (by omega)) dX9_winding_90 ?_
              refine my_fold (v := px (i + 1)) (congrArg px (by rw [hty_20]; exact nI_clamp (by omega))) ?_
              obtain ⟨y_23, ey_23⟩ : ∃ y : Int64, y = (px (i + 1)).toInt64 := ⟨_, rfl⟩
              refine lv_i2l (v := y_23) hx hb dX9_winding_91 ey_23.symm ?_
              have hty_23 : y_23.toInt = (px (i + 1)).toInt := by rw [ey_23]; exact Int32.toInt_toInt64 _
              refine lv_aload_n hx hb dX9_winding_92 rfl (lv_at hl 4 rfl) ?_
              refine va_get (D := D) (ci := 9) (v := .ref m8) (C := RX9) (T := TX9) (N := 23) hx hb hts hi_X9 hown hK hP 0 rfl rfl 16 (by decide) (hts _ bw_408) (fun _ h9 => h9) rfl dX9_winding_93 ?_
              refine lv_iload hx hb dX9_winding_96 (lv_at hl 0 rfl) ?_
              refine va_iald hx hb hK hP 2 0 rfl rfl (by rw [hty_20]; exact vp_in_nI (by omega) (by omega)) dX9_winding_98 ?_
              refine my_fold (v := py (i + 1)) (congrArg py (by rw [hty_20]; exact nI_clamp (by omega))) ?_
              obtain ⟨y_24, ey_24⟩ : ∃ y : Int64, y = (py (i + 1)).toInt64 := ⟨_, rfl⟩
              refine lv_i2l (v := y_24) hx hb dX9_winding_99 ey_24.symm ?_
              have hty_24 : y_24.toInt = (py (i + 1)).toInt := by rw [ey_24]; exact Int32.toInt_toInt64 _
              refine lv_lload_n hx hb dX9_winding_100 rfl (lv_at hl 5 rfl) ?_
              refine lv_lload_n hx hb dX9_winding_101 rfl (lv_at hl 6 rfl) ?_
              have hPc := hP.sub (ws' := []) [] rfl
              have hDc := hD.sub (ws' := []) [] (by decide) rfl
              have hKc := hK.sub (tys' := []) [] rfl
              have hFc := va_free (wc := []) hD hS hA [] rfl
              refine va_calli (va_runS (As := [.long y_21, .long y_22, .long y_23, .long y_24, .long u, .long v]) (rest := [.int x5]) ⟨hx, hb, hml, hown, hts⟩ (k_X9_edge l D H.size y_21 y_22 y_23 y_24 u v (by rw [hty_21]; exact (hpx _ (by omega)).1) (by rw [hty_22]; exact (hpx _ (by omega)).2) (by rw [hty_23]; exact (hpx _ (by omega)).1) (by rw [hty_24]; exact (hpx _ (by omega)).2) (by first | assumption | omega | decide) (by first | assumption | omega | decide)) (va_cwS 6 hts (gS bw_515 bw_511 bw_391 bw_510) rfl rfl rfl (by decide +kernel) ⟨(by rw [hR]; exact Nat.le_of_ble_eq_true rfl), (by rw [hR]; exact Nat.le_of_ble_eq_true rfl)⟩) ⟨cP_blind, cP_at hPc hKc hDc hN⟩ rfl rfl hl.1 rfl (lv_room (Nat.le_of_ble_eq_true rfl)) dX9_winding_102 ⟨(by rw [hR]; exact Nat.le_of_ble_eq_true rfl), (by rw [hR]; exact Nat.le_of_ble_eq_true rfl)⟩) hS (fun q _ h => hFc q h) hFc (fun r_25 u9 t9 H1 locs ht hvm hr_25 hB hz1 hk1 hS => ?_)
              try dsimp only at hr_25
              have hP1 : va_P D vwCl [] H1 := vP_nil
              have hD1 : va_D (va_A [] H.size) [] := vD_nil
              obtain ⟨hP, hD⟩ := va_join (wr := [(h0, .inr (9, [.ref m1, .ref m2, .ref m3, .int ik, .int wy, .int op, .int cl, .int cx0, .int cx1, .int cy0, .int cy1, .int ds, .ref m4, .ref m5, .ref m6, .ref m7, .ref m8, .ref m9, .int pn, .ref m10, .ref m11, .ref m12, .ref m13])), (m7, .inl (cI, 48, .inl px)), (m8, .inl (cI, 48, .inl py)), (m9, .inl (cZ, 48, .inl pf))]) (w1 := []) hP hD [] [0, 1, 2, 3] rfl rfl (by decide) (by decide) hk1 hFc hP1 hD1
              clear hz1 hk1 hFc hKc hDc hPc
              generalize H1 = H at hP hS ⊢
              have hP : va_P D vwCl [(h0, .inr (9, [.ref m1, .ref m2, .ref m3, .int ik, .int wy, .int op, .int cl, .int cx0, .int cx1, .int cy0, .int cy1, .int ds, .ref m4, .ref m5, .ref m6, .ref m7, .ref m8, .ref m9, .int pn, .ref m10, .ref m11, .ref m12, .ref m13])), (m7, .inl (cI, 48, .inl px)), (m8, .inl (cI, 48, .inl py)), (m9, .inl (cZ, 48, .inl pf))] H := hP
              have hD : va_D A [(h0, .inr (9, [.ref m1, .ref m2, .ref m3, .int ik, .int wy, .int op, .int cl, .int cx0, .int cx1, .int cy0, .int cy1, .int ds, .ref m4, .ref m5, .ref m6, .ref m7, .ref m8, .ref m9, .int pn, .ref m10, .ref m11, .ref m12, .ref m13])), (m7, .inl (cI, 48, .inl px)), (m8, .inl (cI, 48, .inl py)), (m9, .inl (cZ, 48, .inl pf))] := hD
              have hTT : toN pf pn.toNatClampNeg i = i + 1 := hto
              have hqr_25 : r_25 = egI (px i).toInt (py i).toInt (px (toN pf pn.toNatClampNeg i)).toInt (py (toN pf pn.toNatClampNeg i)).toInt u.toInt v.toInt := by rw [hTT, hr_25, hty_21, hty_22, hty_23, hty_24]
              refine lv_iadd hx hb dX9_winding_105 ?_
              refine lv_topi (fun y_26 ey_26 => ?_)
              refine lv_istore (lv' := [(5, .int y_26), (8, .int y_20), (7, .int x7), (6, .int x6), (0, .ref h0), (1, .long u), (3, .long v)]) hx hb dX9_winding_106 hl (by decide) rfl (fun ls hl => ?_)
              obtain ⟨y_27, ey_27⟩ : ∃ y : Int32, y = x7 + 1 := ⟨_, rfl⟩
              refine lv_iinc (v := y_27) (lv' := [(7, .int y_27), (5, .int y_26), (8, .int y_20), (6, .int x6), (0, .ref h0), (1, .long u), (3, .long v)]) hx hb dX9_winding_108 hl (k := 2) rfl (by rw [ey_27]; rfl) (by decide) rfl (fun ls hl => ?_)
              refine lv_goto (tgt := 9) hx hb dX9_winding_111 (by decide) ?_
              exact ih_2 (i + 1) y_27 y_26 x6 _ _ _ (by omega) (by omega) (by rw [ey_27, ex_i]; exact nI_1 i) (by omega) (by rw [hmf]; exact hfi) (by rw [ey_26, hqr_25, et]; rfl) (hP.sub (ws' := [(h0, .inr (9, [.ref m1, .ref m2, .ref m3, .int ik, .int wy, .int op, .int cl, .int cx0, .int cx1, .int cy0, .int cy1, .int ds, .ref m4, .ref m5, .ref m6, .ref m7, .ref m8, .ref m9, .int pn, .ref m10, .ref m11, .ref m12, .ref m13])), (m7, .inl (cI, 48, .inl px)), (m8, .inl (cI, 48, .inl py)), (m9, .inl (cZ, 48, .inl pf))]) [0, 1, 2, 3] rfl) (hD.sub (ws' := [(h0, .inr (9, [.ref m1, .ref m2, .ref m3, .int ik, .int wy, .int op, .int cl, .int cx0, .int cx1, .int cy0, .int cy1, .int ds, .ref m4, .ref m5, .ref m6, .ref m7, .ref m8, .ref m9, .int pn, .ref m10, .ref m11, .ref m12, .ref m13])), (m7, .inl (cI, 48, .inl px)), (m8, .inl (cI, 48, .inl py)), (m9, .inl (cZ, 48, .inl pf))]) [0, 1, 2, 3] (by decide) rfl) hS (lv_sub hl [0, 3, 1, 4, 5, 6] rfl)
            · skip
              have f_19 : ¬ ((pf (i + 1)).toInt = 0) := fn_eq rfl (by decide) c_18
              have hto : toN pf pn.toNatClampNeg i = mfN pf (i + 1) := if_pos (Or.inr c_18)
              refine lv_iload hx hb dX9_winding_55 (lv_at hl 1 rfl) ?_
              refine lv_goto (tgt := 64) hx hb dX9_winding_57 (by decide) ?_
              refine lv_istore (lv' := [(8, .int x6), (7, .int x7), (6, .int x6), (5, .int x5), (0, .ref h0), (1, .long u), (3, .long v)]) hx hb dX9_winding_64 hl (by decide) rfl (fun ls hl => ?_)
              refine lv_iload hx hb dX9_winding_66 (lv_at hl 3 rfl) ?_
              refine lv_aload_n hx hb dX9_winding_68 rfl (lv_at hl 4 rfl) ?_
              refine va_get (D := D) (ci := 9) (v := .ref m7) (C := RX9) (T := TX9) (N := 23) hx hb hts hi_X9 hown hK hP 0 rfl rfl 15 (by decide) (hts _ bw_407) (fun _ h9 => h9) rfl dX9_winding_69 ?_
              refine lv_iload hx hb dX9_winding_72 (lv_at hl 1 rfl) ?_
              refine va_iald hx hb hK hP 1 0 rfl rfl (by rw [ex_i]; exact vp_in_nI (by omega) (by omega)) dX9_winding_74 ?_
              refine my_fold (v := px (i)) (congrArg px (by rw [ex_i]; exact nI_clamp (by omega))) ?_
              obtain ⟨y_28, ey_28⟩ : ∃ y : Int64, y = (px (i)).toInt64 := ⟨_, rfl⟩
              refine lv_i2l (v := y_28) hx hb dX9_winding_75 ey_28.symm ?_
              have hty_28 : y_28.toInt = (px (i)).toInt := by rw [ey_28]; exact Int32.toInt_toInt64 _
              refine lv_aload_n hx hb dX9_winding_76 rfl (lv_at hl 4 rfl) ?_
              refine va_get (D := D) (ci := 9) (v := .ref m8) (C := RX9) (T := TX9) (N := 23) hx hb hts hi_X9 hown hK hP 0 rfl rfl 16 (by decide) (hts _ bw_408) (fun _ h9 => h9) rfl dX9_winding_77 ?_
              refine lv_iload hx hb dX9_winding_80 (lv_at hl 1 rfl) ?_
              refine va_iald hx hb hK hP 2 0 rfl rfl (by rw [ex_i]; exact vp_in_nI (by omega) (by omega)) dX9_winding_82 ?_
              refine my_fold (v := py (i)) (congrArg py (by rw [ex_i]; exact nI_clamp (by omega))) ?_
              obtain ⟨y_29, ey_29⟩ : ∃ y : Int64, y = (py (i)).toInt64 := ⟨_, rfl⟩
              refine lv_i2l (v := y_29) hx hb dX9_winding_83 ey_29.symm ?_
              have hty_29 : y_29.toInt = (py (i)).toInt := by rw [ey_29]; exact Int32.toInt_toInt64 _
              refine lv_aload_n hx hb dX9_winding_84 rfl (lv_at hl 4 rfl) ?_
              refine va_get (D := D) (ci := 9) (v := .ref m7) (C := RX9) (T := TX9) (N := 23) hx hb hts hi_X9 hown hK hP 0 rfl rfl 15 (by decide) (hts _ bw_407) (fun _ h9 => h9) rfl dX9_winding_85 ?_
              refine lv_iload hx hb dX9_winding_88 (lv_at hl 0 rfl) ?_
              refine va_iald hx hb hK hP 1 0 rfl rfl (by rw [hfi]; exact vp_in_nI (by omega) (by omega)) dX9_winding_90 ?_
              refine my_fold (v := px (mfN pf i)) (congrArg px (by rw [hfi]; exact nI_clamp (by omega))) ?_
              obtain ⟨y_30, ey_30⟩ : ∃ y : Int64, y = (px (mfN pf i)).toInt64 := ⟨_, rfl⟩
              refine lv_i2l (v := y_30) hx hb dX9_winding_91 ey_30.symm ?_
              have hty_30 : y_30.toInt = (px (mfN pf i)).toInt := by rw [ey_30]; exact Int32.toInt_toInt64 _
              refine lv_aload_n hx hb dX9_winding_92 rfl (lv_at hl 4 rfl) ?_
              refine va_get (D := D) (ci := 9) (v := .ref m8) (C := RX9) (T := TX9) (N := 23) hx hb hts hi_X9 hown hK hP 0 rfl rfl 16 (by decide) (hts _ bw_408) (fun _ h9 => h9) rfl dX9_winding_93 ?_
              refine lv_iload hx hb dX9_winding_96 (lv_at hl 0 rfl) ?_
              refine va_iald hx hb hK hP 2 0 rfl rfl (by rw [hfi]; exact vp_in_nI (by omega) (by omega)) dX9_winding_98 ?_
              refine my_fold (v := py (mfN pf i)) (congrArg py (by rw [hfi]; exact nI_clamp (by omega))) ?_
              obtain ⟨y_31, ey_31⟩ : ∃ y : Int64, y = (py (mfN pf i)).toInt64 := ⟨_, rfl⟩
              refine lv_i2l (v := y_31) hx hb dX9_winding_99 ey_31.symm ?_
              have hty_31 : y_31.toInt = (py (mfN pf i)).toInt := by rw [ey_31]; exact Int32.toInt_toInt64 _
              refine lv_lload_n hx hb dX9_winding_100 rfl (lv_at hl 5 rfl) ?_
              refine lv_lload_n hx hb dX9_winding_101 rfl (lv_at hl 6 rfl) ?_
              have hPc := hP.sub (ws' := []) [] rfl
              have hDc := hD.sub (ws' := []) [] (by decide) rfl
              have hKc := hK.sub (tys' := []) [] rfl
              have hFc := va_free (wc := []) hD hS hA [] rfl
              refine va_calli (va_runS (As := [.long y_28, .long y_29, .long y_30, .long y_31, .long u, .long v]) (rest := [.int x5]) ⟨hx, hb, hml, hown, hts⟩ (k_X9_edge l D H.size y_28 y_29 y_30 y_31 u v (by rw [hty_28]; exact (hpx _ (by omega)).1) (by rw [hty_29]; exact (hpx _ (by omega)).2) (by rw [hty_30]; exact (hpx _ (by omega)).1) (by rw [hty_31]; exact (hpx _ (by omega)).2) (by first | assumption | omega | decide) (by first | assumption | omega | decide)) (va_cwS 6 hts (gS bw_515 bw_511 bw_391 bw_510) rfl rfl rfl (by decide +kernel) ⟨(by rw [hR]; exact Nat.le_of_ble_eq_true rfl), (by rw [hR]; exact Nat.le_of_ble_eq_true rfl)⟩) ⟨cP_blind, cP_at hPc hKc hDc hN⟩ rfl rfl hl.1 rfl (lv_room (Nat.le_of_ble_eq_true rfl)) dX9_winding_102 ⟨(by rw [hR]; exact Nat.le_of_ble_eq_true rfl), (by rw [hR]; exact Nat.le_of_ble_eq_true rfl)⟩) hS (fun q _ h => hFc q h) hFc (fun r_32 u9 t9 H1 locs ht hvm hr_32 hB hz1 hk1 hS => ?_)
              try dsimp only at hr_32
              have hP1 : va_P D vwCl [] H1 := vP_nil
              have hD1 : va_D (va_A [] H.size) [] := vD_nil
              obtain ⟨hP, hD⟩ := va_join (wr := [(h0, .inr (9, [.ref m1, .ref m2, .ref m3, .int ik, .int wy, .int op, .int cl, .int cx0, .int cx1, .int cy0, .int cy1, .int ds, .ref m4, .ref m5, .ref m6, .ref m7, .ref m8, .ref m9, .int pn, .ref m10, .ref m11, .ref m12, .ref m13])), (m7, .inl (cI, 48, .inl px)), (m8, .inl (cI, 48, .inl py)), (m9, .inl (cZ, 48, .inl pf))]) (w1 := []) hP hD [] [0, 1, 2, 3] rfl rfl (by decide) (by decide) hk1 hFc hP1 hD1
              clear hz1 hk1 hFc hKc hDc hPc
              generalize H1 = H at hP hS ⊢
              have hP : va_P D vwCl [(h0, .inr (9, [.ref m1, .ref m2, .ref m3, .int ik, .int wy, .int op, .int cl, .int cx0, .int cx1, .int cy0, .int cy1, .int ds, .ref m4, .ref m5, .ref m6, .ref m7, .ref m8, .ref m9, .int pn, .ref m10, .ref m11, .ref m12, .ref m13])), (m7, .inl (cI, 48, .inl px)), (m8, .inl (cI, 48, .inl py)), (m9, .inl (cZ, 48, .inl pf))] H := hP
              have hD : va_D A [(h0, .inr (9, [.ref m1, .ref m2, .ref m3, .int ik, .int wy, .int op, .int cl, .int cx0, .int cx1, .int cy0, .int cy1, .int ds, .ref m4, .ref m5, .ref m6, .ref m7, .ref m8, .ref m9, .int pn, .ref m10, .ref m11, .ref m12, .ref m13])), (m7, .inl (cI, 48, .inl px)), (m8, .inl (cI, 48, .inl py)), (m9, .inl (cZ, 48, .inl pf))] := hD
              have hTT : toN pf pn.toNatClampNeg i = mfN pf i := hto.trans hmf
              have hqr_32 : r_32 = egI (px i).toInt (py i).toInt (px (toN pf pn.toNatClampNeg i)).toInt (py (toN pf pn.toNatClampNeg i)).toInt u.toInt v.toInt := by rw [hTT, hr_32, hty_28, hty_29, hty_30, hty_31]
              refine lv_iadd hx hb dX9_winding_105 ?_
              refine lv_topi (fun y_33 ey_33 => ?_)
              refine lv_istore (lv' := [(5, .int y_33), (8, .int x6), (7, .int x7), (6, .int x6), (0, .ref h0), (1, .long u), (3, .long v)]) hx hb dX9_winding_106 hl (by decide) rfl (fun ls hl => ?_)
              obtain ⟨y_34, ey_34⟩ : ∃ y : Int32, y = x7 + 1 := ⟨_, rfl⟩
              refine lv_iinc (v := y_34) (lv' := [(7, .int y_34), (5, .int y_33), (8, .int x6), (6, .int x6), (0, .ref h0), (1, .long u), (3, .long v)]) hx hb dX9_winding_108 hl (k := 2) rfl (by rw [ey_34]; rfl) (by decide) rfl (fun ls hl => ?_)
              refine lv_goto (tgt := 9) hx hb dX9_winding_111 (by decide) ?_
              exact ih_2 (i + 1) y_34 y_33 x6 _ _ _ (by omega) (by omega) (by rw [ey_34, ex_i]; exact nI_1 i) (by omega) (by rw [hmf]; exact hfi) (by rw [ey_33, hqr_32, et]; rfl) (hP.sub (ws' := [(h0, .inr (9, [.ref m1, .ref m2, .ref m3, .int ik, .int wy, .int op, .int cl, .int cx0, .int cx1, .int cy0, .int cy1, .int ds, .ref m4, .ref m5, .ref m6, .ref m7, .ref m8, .ref m9, .int pn, .ref m10, .ref m11, .ref m12, .ref m13])), (m7, .inl (cI, 48, .inl px)), (m8, .inl (cI, 48, .inl py)), (m9, .inl (cZ, 48, .inl pf))]) [0, 1, 2, 3] rfl) (hD.sub (ws' := [(h0, .inr (9, [.ref m1, .ref m2, .ref m3, .int ik, .int wy, .int op, .int cl, .int cx0, .int cx1, .int cy0, .int cy1, .int ds, .ref m4, .ref m5, .ref m6, .ref m7, .ref m8, .ref m9, .int pn, .ref m10, .ref m11, .ref m12, .ref m13])), (m7, .inl (cI, 48, .inl px)), (m8, .inl (cI, 48, .inl py)), (m9, .inl (cZ, 48, .inl pf))]) [0, 1, 2, 3] (by decide) rfl) hS (lv_sub hl [0, 3, 1, 4, 5, 6] rfl)
        · skip
          have f_6 : ¬ ((pf (i)).toInt = 0) := fn_eq rfl (by decide) c_5
          have hmf : mfN pf (i + 1) = i := if_neg c_5
          refine lv_iload hx hb dX9_winding_28 (lv_at hl 0 rfl) ?_
          refine lv_istore (lv' := [(6, .int x7), (7, .int x7), (5, .int x5), (0, .ref h0), (1, .long u), (3, .long v)]) hx hb dX9_winding_30 hl (by decide) rfl (fun ls hl => ?_)
          refine lv_iload hx hb dX9_winding_32 (lv_at hl 1 rfl) ?_
          refine lv_iconst (v := 1) hx hb dX9_winding_34 (by decide) ?_
          refine lv_iadd hx hb dX9_winding_35 ?_
          refine lv_topi (fun y_35 ey_35 => ?_)
          have hty_35 : y_35 = nI (i + 1) := by rw [ey_35, ex_i]; exact nI_1 i
          have htiy_35 : y_35.toInt = ((i + 1 : Nat) : Int) := by rw [hty_35]; exact nI_toInt (by omega)
          refine lv_aload_n hx hb dX9_winding_36 rfl (lv_at hl 3 rfl) ?_
          refine va_get (D := D) (ci := 9) (v := .int pn) (C := RX9) (T := TX9) (N := 23) hx hb hts hi_X9 hown hK hP 0 rfl rfl 18 (by decide) (hts _ bw_506) (fun _ h9 => h9) rfl dX9_winding_37 ?_
          refine lv_icmp_eq (tgt := 55) hx hb dX9_winding_40 (by decide) (fun c_36 => ?_) (fun c_36 => ?_)
          · skip
            have f_37 : ((i + 1 : Nat) : Int) = pn.toInt := f_eq htiy_35 rfl c_36
            have hto : toN pf pn.toNatClampNeg i = mfN pf (i + 1) := if_pos (Or.inl (by rw [pn_cl hpn (show pn.toInt = ((i + 1 : Nat) : Int) by omega)]))
            refine lv_iload hx hb dX9_winding_55 (lv_at hl 0 rfl) ?_
            refine lv_goto (tgt := 64) hx hb dX9_winding_57 (by decide) ?_
            refine lv_istore (lv' := [(8, .int x7), (6, .int x7), (7, .int x7), (5, .int x5), (0, .ref h0), (1, .long u), (3, .long v)]) hx hb dX9_winding_64 hl (by decide) rfl (fun ls hl => ?_)
            refine lv_iload hx hb dX9_winding_66 (lv_at hl 3 rfl) ?_
            refine lv_aload_n hx hb dX9_winding_68 rfl (lv_at hl 4 rfl) ?_
            refine va_get (D := D) (ci := 9) (v := .ref m7) (C := RX9) (T := TX9) (N := 23) hx hb hts hi_X9 hown hK hP 0 rfl rfl 15 (by decide) (hts _ bw_407) (fun _ h9 => h9) rfl dX9_winding_69 ?_
            refine lv_iload hx hb dX9_winding_72 (lv_at hl 2 rfl) ?_
            refine va_iald hx hb hK hP 1 0 rfl rfl (by rw [ex_i]; exact vp_in_nI (by omega) (by omega)) dX9_winding_74 ?_
            refine my_fold (v := px (i)) (congrArg px (by rw [ex_i]; exact nI_clamp (by omega))) ?_
            obtain ⟨y_38, ey_38⟩ : ∃ y : Int64, y = (px (i)).toInt64 := ⟨_, rfl⟩
            refine lv_i2l (v := y_38) hx hb dX9_winding_75 ey_38.symm ?_
            have hty_38 : y_38.toInt = (px (i)).toInt := by rw [ey_38]; exact Int32.toInt_toInt64 _
            refine lv_aload_n hx hb dX9_winding_76 rfl (lv_at hl 4 rfl) ?_
            refine va_get (D := D) (ci := 9) (v := .ref m8) (C := RX9) (T := TX9) (N := 23) hx hb hts hi_X9 hown hK hP 0 rfl rfl 16 (by decide) (hts _ bw_408) (fun _ h9 => h9) rfl dX9_winding_77 ?_
            refine lv_iload hx hb dX9_winding_80 (lv_at hl 2 rfl) ?_
            refine va_iald hx hb hK hP 2 0 rfl rfl (by rw [ex_i]; exact vp_in_nI (by omega) (by omega)) dX9_winding_82 ?_
            refine my_fold (v := py (i)) (congrArg py (by rw [ex_i]; exact nI_clamp (by omega))) ?_
            obtain ⟨y_39, ey_39⟩ : ∃ y : Int64, y = (py (i)).toInt64 := ⟨_, rfl⟩
            refine lv_i2l (v := y_39) hx hb dX9_winding_83 ey_39.symm ?_
            have hty_39 : y_39.toInt = (py (i)).toInt := by rw [ey_39]; exact Int32.toInt_toInt64 _
            refine lv_aload_n hx hb dX9_winding_84 rfl (lv_at hl 4 rfl) ?_
            refine va_get (D := D) (ci := 9) (v := .ref m7) (C := RX9) (T := TX9) (N := 23) hx hb hts hi_X9 hown hK hP 0 rfl rfl 15 (by decide) (hts _ bw_407) (fun _ h9 => h9) rfl dX9_winding_85 ?_
            refine lv_iload hx hb dX9_winding_88 (lv_at hl 0 rfl) ?_
            refine va_iald hx hb hK hP 1 0 rfl rfl (by rw [ex_i]; exact vp_in_nI (by omega) (by omega)) dX9_winding_90 ?_
            refine my_fold (v := px (i)) (congrArg px (by rw [ex_i]; exact nI_clamp (by omega))) ?_
            obtain ⟨y_40, ey_40⟩ : ∃ y : Int64, y = (px (i)).toInt64 := ⟨_, rfl⟩
            refine lv_i2l (v := y_40) hx hb dX9_winding_91 ey_40.symm ?_
            have hty_40 : y_40.toInt = (px (i)).toInt := by rw [ey_40]; exact Int32.toInt_toInt64 _
            refine lv_aload_n hx hb dX9_winding_92 rfl (lv_at hl 4 rfl) ?_
            refine va_get (D := D) (ci := 9) (v := .ref m8) (C := RX9) (T := TX9) (N := 23) hx hb hts hi_X9 hown hK hP 0 rfl rfl 16 (by decide) (hts _ bw_408) (fun _ h9 => h9) rfl dX9_winding_93 ?_
            refine lv_iload hx hb dX9_winding_96 (lv_at hl 0 rfl) ?_
            refine va_iald hx hb hK hP 2 0 rfl rfl (by rw [ex_i]; exact vp_in_nI (by omega) (by omega)) dX9_winding_98 ?_
            refine my_fold (v := py (i)) (congrArg py (by rw [ex_i]; exact nI_clamp (by omega))) ?_
            obtain ⟨y_41, ey_41⟩ : ∃ y : Int64, y = (py (i)).toInt64 := ⟨_, rfl⟩
            refine lv_i2l (v := y_41) hx hb dX9_winding_99 ey_41.symm ?_
            have hty_41 : y_41.toInt = (py (i)).toInt := by rw [ey_41]; exact Int32.toInt_toInt64 _
            refine lv_lload_n hx hb dX9_winding_100 rfl (lv_at hl 5 rfl) ?_
            refine lv_lload_n hx hb dX9_winding_101 rfl (lv_at hl 6 rfl) ?_
            have hPc := hP.sub (ws' := []) [] rfl
            have hDc := hD.sub (ws' := []) [] (by decide) rfl
            have hKc := hK.sub (tys' := []) [] rfl
            have hFc := va_free (wc := []) hD hS hA [] rfl
            refine va_calli (va_runS (As := [.long y_38, .long y_39, .long y_40, .long y_41, .long u, .long v]) (rest := [.int x5]) ⟨hx, hb, hml, hown, hts⟩ (k_X9_edge l D H.size y_38 y_39 y_40 y_41 u v (by rw [hty_38]; exact (hpx _ (by omega)).1) (by rw [hty_39]; exact (hpx _ (by omega)).2) (by rw [hty_40]; exact (hpx _ (by omega)).1) (by rw [hty_41]; exact (hpx _ (by omega)).2) (by first | assumption | omega | decide) (by first | assumption | omega | decide)) (va_cwS 6 hts (gS bw_515 bw_511 bw_391 bw_510) rfl rfl rfl (by decide +kernel) ⟨(by rw [hR]; exact Nat.le_of_ble_eq_true rfl), (by rw [hR]; exact Nat.le_of_ble_eq_true rfl)⟩) ⟨cP_blind, cP_at hPc hKc hDc hN⟩ rfl rfl hl.1 rfl (lv_room (Nat.le_of_ble_eq_true rfl)) dX9_winding_102 ⟨(by rw [hR]; exact Nat.le_of_ble_eq_true rfl), (by rw [hR]; exact Nat.le_of_ble_eq_true rfl)⟩) hS (fun q _ h => hFc q h) hFc (fun r_42 u9 t9 H1 locs ht hvm hr_42 hB hz1 hk1 hS => ?_)
            try dsimp only at hr_42
            have hP1 : va_P D vwCl [] H1 := vP_nil
            have hD1 : va_D (va_A [] H.size) [] := vD_nil
            obtain ⟨hP, hD⟩ := va_join (wr := [(h0, .inr (9, [.ref m1, .ref m2, .ref m3, .int ik, .int wy, .int op, .int cl, .int cx0, .int cx1, .int cy0, .int cy1, .int ds, .ref m4, .ref m5, .ref m6, .ref m7, .ref m8, .ref m9, .int pn, .ref m10, .ref m11, .ref m12, .ref m13])), (m7, .inl (cI, 48, .inl px)), (m8, .inl (cI, 48, .inl py)), (m9, .inl (cZ, 48, .inl pf))]) (w1 := []) hP hD [] [0, 1, 2, 3] rfl rfl (by decide) (by decide) hk1 hFc hP1 hD1
            clear hz1 hk1 hFc hKc hDc hPc
            generalize H1 = H at hP hS ⊢
            have hP : va_P D vwCl [(h0, .inr (9, [.ref m1, .ref m2, .ref m3, .int ik, .int wy, .int op, .int cl, .int cx0, .int cx1, .int cy0, .int cy1, .int ds, .ref m4, .ref m5, .ref m6, .ref m7, .ref m8, .ref m9, .int pn, .ref m10, .ref m11, .ref m12, .ref m13])), (m7, .inl (cI, 48, .inl px)), (m8, .inl (cI, 48, .inl py)), (m9, .inl (cZ, 48, .inl pf))] H := hP
            have hD : va_D A [(h0, .inr (9, [.ref m1, .ref m2, .ref m3, .int ik, .int wy, .int op, .int cl, .int cx0, .int cx1, .int cy0, .int cy1, .int ds, .ref m4, .ref m5, .ref m6, .ref m7, .ref m8, .ref m9, .int pn, .ref m10, .ref m11, .ref m12, .ref m13])), (m7, .inl (cI, 48, .inl px)), (m8, .inl (cI, 48, .inl py)), (m9, .inl (cZ, 48, .inl pf))] := hD
            have hTT : toN pf pn.toNatClampNeg i = i := hto.trans hmf
            have hqr_42 : r_42 = egI (px i).toInt (py i).toInt (px (toN pf pn.toNatClampNeg i)).toInt (py (toN pf pn.toNatClampNeg i)).toInt u.toInt v.toInt := by rw [hTT, hr_42, hty_38, hty_39, hty_40, hty_41]
            refine lv_iadd hx hb dX9_winding_105 ?_
            refine lv_topi (fun y_43 ey_43 => ?_)
            refine lv_istore (lv' := [(5, .int y_43), (8, .int x7), (6, .int x7), (7, .int x7), (0, .ref h0), (1, .long u), (3, .long v)]) hx hb dX9_winding_106 hl (by decide) rfl (fun ls hl => ?_)
            obtain ⟨y_44, ey_44⟩ : ∃ y : Int32, y = x7 + 1 := ⟨_, rfl⟩
            refine lv_iinc (v := y_44) (lv' := [(7, .int y_44), (5, .int y_43), (8, .int x7), (6, .int x7), (0, .ref h0), (1, .long u), (3, .long v)]) hx hb dX9_winding_108 hl (k := 3) rfl (by rw [ey_44]; rfl) (by decide) rfl (fun ls hl => ?_)
            refine lv_goto (tgt := 9) hx hb dX9_winding_111 (by decide) ?_
            exact ih_2 (i + 1) y_44 y_43 x7 _ _ _ (by omega) (by omega) (by rw [ey_44, ex_i]; exact nI_1 i) (by omega) (by rw [hmf]; exact ex_i) (by rw [ey_43, hqr_42, et]; rfl) (hP.sub (ws' := [(h0, .inr (9, [.ref m1, .ref m2, .ref m3, .int ik, .int wy, .int op, .int cl, .int cx0, .int cx1, .int cy0, .int cy1, .int ds, .ref m4, .ref m5, .ref m6, .ref m7, .ref m8, .ref m9, .int pn, .ref m10, .ref m11, .ref m12, .ref m13])), (m7, .inl (cI, 48, .inl px)), (m8, .inl (cI, 48, .inl py)), (m9, .inl (cZ, 48, .inl pf))]) [0, 1, 2, 3] rfl) (hD.sub (ws' := [(h0, .inr (9, [.ref m1, .ref m2, .ref m3, .int ik, .int wy, .int op, .int cl, .int cx0, .int cx1, .int cy0, .int cy1, .int ds, .ref m4, .ref m5, .ref m6, .ref m7, .ref m8, .ref m9, .int pn, .ref m10, .ref m11, .ref m12, .ref m13])), (m7, .inl (cI, 48, .inl px)), (m8, .inl (cI, 48, .inl py)), (m9, .inl (cZ, 48, .inl pf))]) [0, 1, 2, 3] (by decide) rfl) hS (lv_sub hl [0, 3, 1, 4, 5, 6] rfl)
          · skip
            have f_37 : ¬ (((i + 1 : Nat) : Int) = pn.toInt) := fn_eq htiy_35 rfl c_36
            have hnp : ¬ i + 1 = pn.toNatClampNeg := fun q => by have := pn_ti hpn; omega
            refine lv_aload_n hx hb dX9_winding_43 rfl (lv_at hl 3 rfl) ?_
            refine va_get (D := D) (ci := 9) (v := .ref m9) (C := RX9) (T := TX9) (N := 23) hx hb hts hi_X9 hown hK hP 0 rfl rfl 17 (by decide) (hts _ bw_409) (fun _ h9 => h9) rfl dX9_winding_44 ?_
            refine lv_iload hx hb dX9_winding_47 (lv_at hl 1 rfl) ?_
            refine lv_iconst (v := 1) hx hb dX9_winding_49 (by decide) ?_
            refine lv_iadd hx hb dX9_winding_50 ?_
            refine lv_topi (fun y_45 ey_45 => ?_)
            have hty_45 : y_45 = nI (i + 1) := by rw [ey_45, ex_i]; exact nI_1 i
            have htiy_45 : y_45.toInt = ((i + 1 : Nat) : Int) := by rw [hty_45]; exact nI_toInt (by omega)
            refine va_zald hx hb hK hP 3 1 rfl rfl (by rw [hty_45]; exact vp_in_nI (by omega) (by omega)) dX9_winding_51 ?_
            refine my_fold (v := pf (i + 1)) (congrArg pf (by rw [hty_45]; exact nI_clamp (by omega))) ?_
            refine lv_if_eq (tgt := 60) hx hb dX9_winding_52 (by decide) (fun c_46 => ?_) (fun c_46 => ?_)
            · skip
              have f_47 : (pf (i + 1)).toInt = 0 := f_eq rfl (by decide) c_46
              have hto : toN pf pn.toNatClampNeg i = i + 1 := if_neg (fun q => q.elim hnp (fun q => q c_46))
              refine lv_iload hx hb dX9_winding_60 (lv_at hl 1 rfl) ?_
              refine lv_iconst (v := 1) hx hb dX9_winding_62 (by decide) ?_
              refine lv_iadd hx hb dX9_winding_63 ?_
              refine lv_topi (fun y_48 ey_48 => ?_)
              have hty_48 : y_48 = nI (i + 1) := by rw [ey_48, ex_i]; exact nI_1 i
              have htiy_48 : y_48.toInt = ((i + 1 : Nat) : Int) := by rw [hty_48]; exact nI_toInt (by omega)
              refine lv_istore (lv' := [(8, .int y_48), (6, .int x7), (7, .int x7), (5, .int x5), (0, .ref h0), (1, .long u), (3, .long v)]) hx hb dX9_winding_64 hl (by decide) rfl (fun ls hl => ?_)
              refine lv_iload hx hb dX9_winding_66 (lv_at hl 3 rfl) ?_
              refine lv_aload_n hx hb dX9_winding_68 rfl (lv_at hl 4 rfl) ?_
              refine va_get (D := D) (ci := 9) (v := .ref m7) (C := RX9) (T := TX9) (N := 23) hx hb hts hi_X9 hown hK hP 0 rfl rfl 15 (by decide) (hts _ bw_407) (fun _ h9 => h9) rfl dX9_winding_69 ?_
              refine lv_iload hx hb dX9_winding_72 (lv_at hl 2 rfl) ?_
              refine va_iald hx hb hK hP 1 0 rfl rfl (by rw [ex_i]; exact vp_in_nI (by omega) (by omega)) dX9_winding_74 ?_
              refine my_fold (v := px (i)) (congrArg px (by rw [ex_i]; exact nI_clamp (by omega))) ?_
              obtain ⟨y_49, ey_49⟩ : ∃ y : Int64, y = (px (i)).toInt64 := ⟨_, rfl⟩
              refine lv_i2l (v := y_49) hx hb dX9_winding_75 ey_49.symm ?_
              have hty_49 : y_49.toInt = (px (i)).toInt := by rw [ey_49]; exact Int32.toInt_toInt64 _
              refine lv_aload_n hx hb dX9_winding_76 rfl (lv_at hl 4 rfl) ?_
              refine va_get (D := D) (ci := 9) (v := .ref m8) (C := RX9) (T := TX9) (N := 23) hx hb hts hi_X9 hown hK hP 0 rfl rfl 16 (by decide) (hts _ bw_408) (fun _ h9 => h9) rfl dX9_winding_77 ?_
              refine lv_iload hx hb dX9_winding_80 (lv_at hl 2 rfl) ?_
              refine va_iald hx hb hK hP 2 0 rfl rfl (by rw [ex_i]; exact vp_in_nI (by omega) (by omega)) dX9_winding_82 ?_
              refine my_fold (v := py (i)) (congrArg py (by rw [ex_i]; exact nI_clamp (by omega))) ?_
              obtain ⟨y_50, ey_50⟩ : ∃ y : Int64, y = (py (i)).toInt64 := ⟨_, rfl⟩
              refine lv_i2l (v := y_50) hx hb dX9_winding_83 ey_50.symm ?_
              have hty_50 : y_50.toInt = (py (i)).toInt := by rw [ey_50]; exact Int32.toInt_toInt64 _
              refine lv_aload_n hx hb dX9_winding_84 rfl (lv_at hl 4 rfl) ?_
              refine va_get (D := D) (ci := 9) (v := .ref m7) (C := RX9) (T := TX9) (N := 23) hx hb hts hi_X9 hown hK hP 0 rfl rfl 15 (by decide) (hts _ bw_407) (fun _ h9 => h9) rfl dX9_winding_85 ?_
              refine lv_iload hx hb dX9_winding_88 (lv_at hl 0 rfl) ?_
              refine va_iald hx hb hK hP 1 0 rfl rfl (by rw [hty_48]; exact vp_in_nI (by omega) (by omega)) dX9_winding_90 ?_
              refine my_fold (v := px (i + 1)) (congrArg px (by rw [hty_48]; exact nI_clamp (by omega))) ?_
              obtain ⟨y_51, ey_51⟩ : ∃ y : Int64, y = (px (i + 1)).toInt64 := ⟨_, rfl⟩
              refine lv_i2l (v := y_51) hx hb dX9_winding_91 ey_51.symm ?_
              have hty_51 : y_51.toInt = (px (i + 1)).toInt := by rw [ey_51]; exact Int32.toInt_toInt64 _
              refine lv_aload_n hx hb dX9_winding_92 rfl (lv_at hl 4 rfl) ?_
              refine va_get (D := D) (ci := 9) (v := .ref m8) (C := RX9) (T := TX9) (N := 23) hx hb hts hi_X9 hown hK hP 0 rfl rfl 16 (by decide) (hts _ bw_408) (fun _ h9 => h9) rfl dX9_winding_93 ?_
              refine lv_iload hx hb dX9_winding_96 (lv_at hl 0 rfl) ?_
              refine va_iald hx hb hK hP 2 0 rfl rfl (by rw [hty_48]; exact vp_in_nI (by omega) (by omega)) dX9_winding_98 ?_
              refine my_fold (v := py (i + 1)) (congrArg py (by rw [hty_48]; exact nI_clamp (by omega))) ?_
              obtain ⟨y_52, ey_52⟩ : ∃ y : Int64, y = (py (i + 1)).toInt64 := ⟨_, rfl⟩
              refine lv_i2l (v := y_52) hx hb dX9_winding_99 ey_52.symm ?_
              have hty_52 : y_52.toInt = (py (i + 1)).toInt := by rw [ey_52]; exact Int32.toInt_toInt64 _
              refine lv_lload_n hx hb dX9_winding_100 rfl (lv_at hl 5 rfl) ?_
              refine lv_lload_n hx hb dX9_winding_101 rfl (lv_at hl 6 rfl) ?_
              have hPc := hP.sub (ws' := []) [] rfl
              have hDc := hD.sub (ws' := []) [] (by decide) rfl
              have hKc := hK.sub (tys' := []) [] rfl
              have hFc := va_free (wc := []) hD hS hA [] rfl
              refine va_calli (va_runS (As := [.long y_49, .long y_50, .long y_51, .long y_52, .long u, .long v]) (rest := [.int x5]) ⟨hx, hb, hml, hown, hts⟩ (k_X9_edge l D H.size y_49 y_50 y_51 y_52 u v (by rw [hty_49]; exact (hpx _ (by omega)).1) (by rw [hty_50]; exact (hpx _ (by omega)).2) (by rw [hty_51]; exact (hpx _ (by omega)).1) (by rw [hty_52]; exact (hpx _ (by omega)).2) (by first | assumption | omega | decide) (by first | assumption | omega | decide)) (va_cwS 6 hts (gS bw_515 bw_511 bw_391 bw_510) rfl rfl rfl (by decide +kernel) ⟨(by rw [hR]; exact Nat.le_of_ble_eq_true rfl), (by rw [hR]; exact Nat.le_of_ble_eq_true rfl)⟩) ⟨cP_blind, cP_at hPc hKc hDc hN⟩ rfl rfl hl.1 rfl (lv_room (Nat.le_of_ble_eq_true rfl)) dX9_winding_102 ⟨(by rw [hR]; exact Nat.le_of_ble_eq_true rfl), (by rw [hR]; exact Nat.le_of_ble_eq_true rfl)⟩) hS (fun q _ h => hFc q h) hFc (fun r_53 u9 t9 H1 locs ht hvm hr_53 hB hz1 hk1 hS => ?_)
              try dsimp only at hr_53
              have hP1 : va_P D vwCl [] H1 := vP_nil
              have hD1 : va_D (va_A [] H.size) [] := vD_nil
              obtain ⟨hP, hD⟩ := va_join (wr := [(h0, .inr (9, [.ref m1, .ref m2, .ref m3, .int ik, .int wy, .int op, .int cl, .int cx0, .int cx1, .int cy0, .int cy1, .int ds, .ref m4, .ref m5, .ref m6, .ref m7, .ref m8, .ref m9, .int pn, .ref m10, .ref m11, .ref m12, .ref m13])), (m7, .inl (cI, 48, .inl px)), (m8, .inl (cI, 48, .inl py)), (m9, .inl (cZ, 48, .inl pf))]) (w1 := []) hP hD [] [0, 1, 2, 3] rfl rfl (by decide) (by decide) hk1 hFc hP1 hD1
              clear hz1 hk1 hFc hKc hDc hPc
              generalize H1 = H at hP hS ⊢
              have hP : va_P D vwCl [(h0, .inr (9, [.ref m1, .ref m2, .ref m3, .int ik, .int wy, .int op, .int cl, .int cx0, .int cx1, .int cy0, .int cy1, .int ds, .ref m4, .ref m5, .ref m6, .ref m7, .ref m8, .ref m9, .int pn, .ref m10, .ref m11, .ref m12, .ref m13])), (m7, .inl (cI, 48, .inl px)), (m8, .inl (cI, 48, .inl py)), (m9, .inl (cZ, 48, .inl pf))] H := hP
              have hD : va_D A [(h0, .inr (9, [.ref m1, .ref m2, .ref m3, .int ik, .int wy, .int op, .int cl, .int cx0, .int cx1, .int cy0, .int cy1, .int ds, .ref m4, .ref m5, .ref m6, .ref m7, .ref m8, .ref m9, .int pn, .ref m10, .ref m11, .ref m12, .ref m13])), (m7, .inl (cI, 48, .inl px)), (m8, .inl (cI, 48, .inl py)), (m9, .inl (cZ, 48, .inl pf))] := hD
              have hTT : toN pf pn.toNatClampNeg i = i + 1 := hto
              have hqr_53 : r_53 = egI (px i).toInt (py i).toInt (px (toN pf pn.toNatClampNeg i)).toInt (py (toN pf pn.toNatClampNeg i)).toInt u.toInt v.toInt := by rw [hTT, hr_53, hty_49, hty_50, hty_51, hty_52]
              refine lv_iadd hx hb dX9_winding_105 ?_
              refine lv_topi (fun y_54 ey_54 => ?_)
              refine lv_istore (lv' := [(5, .int y_54), (8, .int y_48), (6, .int x7), (7, .int x7), (0, .ref h0), (1, .long u), (3, .long v)]) hx hb dX9_winding_106 hl (by decide) rfl (fun ls hl => ?_)
              obtain ⟨y_55, ey_55⟩ : ∃ y : Int32, y = x7 + 1 := ⟨_, rfl⟩
              refine lv_iinc (v := y_55) (lv' := [(7, .int y_55), (5, .int y_54), (8, .int y_48), (6, .int x7), (0, .ref h0), (1, .long u), (3, .long v)]) hx hb dX9_winding_108 hl (k := 3) rfl (by rw [ey_55]; rfl) (by decide) rfl (fun ls hl => ?_)
              refine lv_goto (tgt := 9) hx hb dX9_winding_111 (by decide) ?_
              exact ih_2 (i + 1) y_55 y_54 x7 _ _ _ (by omega) (by omega) (by rw [ey_55, ex_i]; exact nI_1 i) (by omega) (by rw [hmf]; exact ex_i) (by rw [ey_54, hqr_53, et]; rfl) (hP.sub (ws' := [(h0, .inr (9, [.ref m1, .ref m2, .ref m3, .int ik, .int wy, .int op, .int cl, .int cx0, .int cx1, .int cy0, .int cy1, .int ds, .ref m4, .ref m5, .ref m6, .ref m7, .ref m8, .ref m9, .int pn, .ref m10, .ref m11, .ref m12, .ref m13])), (m7, .inl (cI, 48, .inl px)), (m8, .inl (cI, 48, .inl py)), (m9, .inl (cZ, 48, .inl pf))]) [0, 1, 2, 3] rfl) (hD.sub (ws' := [(h0, .inr (9, [.ref m1, .ref m2, .ref m3, .int ik, .int wy, .int op, .int cl, .int cx0, .int cx1, .int cy0, .int cy1, .int ds, .ref m4, .ref m5, .ref m6, .ref m7, .ref m8, .ref m9, .int pn, .ref m10, .ref m11, .ref m12, .ref m13])), (m7, .inl (cI, 48, .inl px)), (m8, .inl (cI, 48, .inl py)), (m9, .inl (cZ, 48, .inl pf))]) [0, 1, 2, 3] (by decide) rfl) hS (lv_sub hl [0, 3, 1, 4, 5, 6] rfl)
            · skip
              have f_47 : ¬ ((pf (i + 1)).toInt = 0) := fn_eq rfl (by decide) c_46
              have hto : toN pf pn.toNatClampNeg i = mfN pf (i + 1) := if_pos (Or.inr c_46)
              refine lv_iload hx hb dX9_winding_55 (lv_at hl 0 rfl) ?_
              refine lv_goto (tgt := 64) hx hb dX9_winding_57 (by decide) ?_
              refine lv_istore (lv' := [(8, .int x7), (6, .int x7), (7, .int x7), (5, .int x5), (0, .ref h0), (1, .long u), (3, .long v)]) hx hb dX9_winding_64 hl (by decide) rfl (fun ls hl => ?_)
              refine lv_iload hx hb dX9_winding_66 (lv_at hl 3 rfl) ?_
              refine lv_aload_n hx hb dX9_winding_68 rfl (lv_at hl 4 rfl) ?_
              refine va_get (D := D) (ci := 9) (v := .ref m7) (C := RX9) (T := TX9) (N := 23) hx hb hts hi_X9 hown hK hP 0 rfl rfl 15 (by decide) (hts _ bw_407) (fun _ h9 => h9) rfl dX9_winding_69 ?_
              refine lv_iload hx hb dX9_winding_72 (lv_at hl 2 rfl) ?_
              refine va_iald hx hb hK hP 1 0 rfl rfl (by rw [ex_i]; exact vp_in_nI (by omega) (by omega)) dX9_winding_74 ?_
              refine my_fold (v := px (i)) (congrArg px (by rw [ex_i]; exact nI_clamp (by omega))) ?_
              obtain ⟨y_56, ey_56⟩ : ∃ y : Int64, y = (px (i)).toInt64 := ⟨_, rfl⟩
              refine lv_i2l (v := y_56) hx hb dX9_winding_75 ey_56.symm ?_
              have hty_56 : y_56.toInt = (px (i)).toInt := by rw [ey_56]; exact Int32.toInt_toInt64 _
              refine lv_aload_n hx hb dX9_winding_76 rfl (lv_at hl 4 rfl) ?_
              refine va_get (D := D) (ci := 9) (v := .ref m8) (C := RX9) (T := TX9) (N := 23) hx hb hts hi_X9 hown hK hP 0 rfl rfl 16 (by decide) (hts _ bw_408) (fun _ h9 => h9) rfl dX9_winding_77 ?_
              refine lv_iload hx hb dX9_winding_80 (lv_at hl 2 rfl) ?_
              refine va_iald hx hb hK hP 2 0 rfl rfl (by rw [ex_i]; exact vp_in_nI (by omega) (by omega)) dX9_winding_82 ?_
              refine my_fold (v := py (i)) (congrArg py (by rw [ex_i]; exact nI_clamp (by omega))) ?_
              obtain ⟨y_57, ey_57⟩ : ∃ y : Int64, y = (py (i)).toInt64 := ⟨_, rfl⟩
              refine lv_i2l (v := y_57) hx hb dX9_winding_83 ey_57.symm ?_
              have hty_57 : y_57.toInt = (py (i)).toInt := by rw [ey_57]; exact Int32.toInt_toInt64 _
              refine lv_aload_n hx hb dX9_winding_84 rfl (lv_at hl 4 rfl) ?_
              refine va_get (D := D) (ci := 9) (v := .ref m7) (C := RX9) (T := TX9) (N := 23) hx hb hts hi_X9 hown hK hP 0 rfl rfl 15 (by decide) (hts _ bw_407) (fun _ h9 => h9) rfl dX9_winding_85 ?_
              refine lv_iload hx hb dX9_winding_88 (lv_at hl 0 rfl) ?_
              refine va_iald hx hb hK hP 1 0 rfl rfl (by rw [ex_i]; exact vp_in_nI (by omega) (by omega)) dX9_winding_90 ?_
              refine my_fold (v := px (i)) (congrArg px (by rw [ex_i]; exact nI_clamp (by omega))) ?_
              obtain ⟨y_58, ey_58⟩ : ∃ y : Int64, y = (px (i)).toInt64 := ⟨_, rfl⟩
              refine lv_i2l (v := y_58) hx hb dX9_winding_91 ey_58.symm ?_
              have hty_58 : y_58.toInt = (px (i)).toInt := by rw [ey_58]; exact Int32.toInt_toInt64 _
              refine lv_aload_n hx hb dX9_winding_92 rfl (lv_at hl 4 rfl) ?_
              refine va_get (D := D) (ci := 9) (v := .ref m8) (C := RX9) (T := TX9) (N := 23) hx hb hts hi_X9 hown hK hP 0 rfl rfl 16 (by decide) (hts _ bw_408) (fun _ h9 => h9) rfl dX9_winding_93 ?_
              refine lv_iload hx hb dX9_winding_96 (lv_at hl 0 rfl) ?_
              refine va_iald hx hb hK hP 2 0 rfl rfl (by rw [ex_i]; exact vp_in_nI (by omega) (by omega)) dX9_winding_98 ?_
              refine my_fold (v := py (i)) (congrArg py (by rw [ex_i]; exact nI_clamp (by omega))) ?_
              obtain ⟨y_59, ey_59⟩ : ∃ y : Int64, y = (py (i)).toInt64 := ⟨_, rfl⟩
              refine lv_i2l (v := y_59) hx hb dX9_winding_99 ey_59.symm ?_
              have hty_59 : y_59.toInt = (py (i)).toInt := by rw [ey_59]; exact Int32.toInt_toInt64 _
              refine lv_lload_n hx hb dX9_winding_100 rfl (lv_at hl 5 rfl) ?_
              refine lv_lload_n hx hb dX9_winding_101 rfl (lv_at hl 6 rfl) ?_
              have hPc := hP.sub (ws' := []) [] rfl
              have hDc := hD.sub (ws' := []) [] (by decide) rfl
              have hKc := hK.sub (tys' := []) [] rfl
              have hFc := va_free (wc := []) hD hS hA [] rfl
              refine va_calli (va_runS (As := [.long y_56, .long y_57, .long y_58, .long y_59, .long u, .long v]) (rest := [.int x5]) ⟨hx, hb, hml, hown, hts⟩ (k_X9_edge l D H.size y_56 y_57 y_58 y_59 u v (by rw [hty_56]; exact (hpx _ (by omega)).1) (by rw [hty_57]; exact (hpx _ (by omega)).2) (by rw [hty_58]; exact (hpx _ (by omega)).1) (by rw [hty_59]; exact (hpx _ (by omega)).2) (by first | assumption | omega | decide) (by first | assumption | omega | decide)) (va_cwS 6 hts (gS bw_515 bw_511 bw_391 bw_510) rfl rfl rfl (by decide +kernel) ⟨(by rw [hR]; exact Nat.le_of_ble_eq_true rfl), (by rw [hR]; exact Nat.le_of_ble_eq_true rfl)⟩) ⟨cP_blind, cP_at hPc hKc hDc hN⟩ rfl rfl hl.1 rfl (lv_room (Nat.le_of_ble_eq_true rfl)) dX9_winding_102 ⟨(by rw [hR]; exact Nat.le_of_ble_eq_true rfl), (by rw [hR]; exact Nat.le_of_ble_eq_true rfl)⟩) hS (fun q _ h => hFc q h) hFc (fun r_60 u9 t9 H1 locs ht hvm hr_60 hB hz1 hk1 hS => ?_)
              try dsimp only at hr_60
              have hP1 : va_P D vwCl [] H1 := vP_nil
              have hD1 : va_D (va_A [] H.size) [] := vD_nil
              obtain ⟨hP, hD⟩ := va_join (wr := [(h0, .inr (9, [.ref m1, .ref m2, .ref m3, .int ik, .int wy, .int op, .int cl, .int cx0, .int cx1, .int cy0, .int cy1, .int ds, .ref m4, .ref m5, .ref m6, .ref m7, .ref m8, .ref m9, .int pn, .ref m10, .ref m11, .ref m12, .ref m13])), (m7, .inl (cI, 48, .inl px)), (m8, .inl (cI, 48, .inl py)), (m9, .inl (cZ, 48, .inl pf))]) (w1 := []) hP hD [] [0, 1, 2, 3] rfl rfl (by decide) (by decide) hk1 hFc hP1 hD1
              clear hz1 hk1 hFc hKc hDc hPc
              generalize H1 = H at hP hS ⊢
              have hP : va_P D vwCl [(h0, .inr (9, [.ref m1, .ref m2, .ref m3, .int ik, .int wy, .int op, .int cl, .int cx0, .int cx1, .int cy0, .int cy1, .int ds, .ref m4, .ref m5, .ref m6, .ref m7, .ref m8, .ref m9, .int pn, .ref m10, .ref m11, .ref m12, .ref m13])), (m7, .inl (cI, 48, .inl px)), (m8, .inl (cI, 48, .inl py)), (m9, .inl (cZ, 48, .inl pf))] H := hP
              have hD : va_D A [(h0, .inr (9, [.ref m1, .ref m2, .ref m3, .int ik, .int wy, .int op, .int cl, .int cx0, .int cx1, .int cy0, .int cy1, .int ds, .ref m4, .ref m5, .ref m6, .ref m7, .ref m8, .ref m9, .int pn, .ref m10, .ref m11, .ref m12, .ref m13])), (m7, .inl (cI, 48, .inl px)), (m8, .inl (cI, 48, .inl py)), (m9, .inl (cZ, 48, .inl pf))] := hD
              have hTT : toN pf pn.toNatClampNeg i = i := hto.trans hmf
              have hqr_60 : r_60 = egI (px i).toInt (py i).toInt (px (toN pf pn.toNatClampNeg i)).toInt (py (toN pf pn.toNatClampNeg i)).toInt u.toInt v.toInt := by rw [hTT, hr_60, hty_56, hty_57, hty_58, hty_59]
              refine lv_iadd hx hb dX9_winding_105 ?_
              refine lv_topi (fun y_61 ey_61 => ?_)
              refine lv_istore (lv' := [(5, .int y_61), (8, .int x7), (6, .int x7), (7, .int x7), (0, .ref h0), (1, .long u), (3, .long v)]) hx hb dX9_winding_106 hl (by decide) rfl (fun ls hl => ?_)
              obtain ⟨y_62, ey_62⟩ : ∃ y : Int32, y = x7 + 1 := ⟨_, rfl⟩
              refine lv_iinc (v := y_62) (lv' := [(7, .int y_62), (5, .int y_61), (8, .int x7), (6, .int x7), (0, .ref h0), (1, .long u), (3, .long v)]) hx hb dX9_winding_108 hl (k := 3) rfl (by rw [ey_62]; rfl) (by decide) rfl (fun ls hl => ?_)
              refine lv_goto (tgt := 9) hx hb dX9_winding_111 (by decide) ?_
              exact ih_2 (i + 1) y_62 y_61 x7 _ _ _ (by omega) (by omega) (by rw [ey_62, ex_i]; exact nI_1 i) (by omega) (by rw [hmf]; exact ex_i) (by rw [ey_61, hqr_60, et]; rfl) (hP.sub (ws' := [(h0, .inr (9, [.ref m1, .ref m2, .ref m3, .int ik, .int wy, .int op, .int cl, .int cx0, .int cx1, .int cy0, .int cy1, .int ds, .ref m4, .ref m5, .ref m6, .ref m7, .ref m8, .ref m9, .int pn, .ref m10, .ref m11, .ref m12, .ref m13])), (m7, .inl (cI, 48, .inl px)), (m8, .inl (cI, 48, .inl py)), (m9, .inl (cZ, 48, .inl pf))]) [0, 1, 2, 3] rfl) (hD.sub (ws' := [(h0, .inr (9, [.ref m1, .ref m2, .ref m3, .int ik, .int wy, .int op, .int cl, .int cx0, .int cx1, .int cy0, .int cy1, .int ds, .ref m4, .ref m5, .ref m6, .ref m7, .ref m8, .ref m9, .int pn, .ref m10, .ref m11, .ref m12, .ref m13])), (m7, .inl (cI, 48, .inl px)), (m8, .inl (cI, 48, .inl py)), (m9, .inl (cZ, 48, .inl pf))]) [0, 1, 2, 3] (by decide) rfl) hS (lv_sub hl [0, 3, 1, 4, 5, 6] rfl)
  exact loop_1 (48 + 1) 0 0 0 0 _ _ _ (by omega) (by omega) nI_0.symm (by omega) nI_0.symm rfl hP hD hS (lv_sub hl [0, 1, 2, 3, 4, 5] rfl)

set_option maxHeartbeats 4000000 in
set_option maxRecDepth 100000 in
theorem k_X9_isInside (l : Launch) (D : va_G) (sz : Nat) (h0 m1 m2 m3 m4 m5 m6 m7 m8 m9 m10 m11 m12 m13 : Nat) (ik wy op cl cx0 cx1 cy0 cy1 ds pn : Int32) (px : Nat → Int32) (py : Nat → Int32) (pf : Nat → Int32) (u v : Int64) (ru : Int32) (cI : ClassId) (cZ : ClassId) (hpn : 0 ≤ pn.toInt ∧ pn.toInt ≤ 48) (hpx : ∀ j : Nat, j < 48 → (-8192 ≤ (px j).toInt ∧ (px j).toInt ≤ 8192) ∧ (-8192 ≤ (py j).toInt ∧ (py j).toInt ≤ 8192)) (hu9 : (-2147483648 ≤ u.toInt ∧ u.toInt ≤ 2147483648)) (hv9 : (-2147483648 ≤ v.toInt ∧ v.toInt ≤ 2147483648)) : Met l yX9_isInside (wB yX9_isInside cX9_isInside 7 (some .boolean)) ({ frames := 2, cells := 0, slots := 0, locals := 59 }) (cP D [(h0, .inr (9, [.ref m1, .ref m2, .ref m3, .int ik, .int wy, .int op, .int cl, .int cx0, .int cx1, .int cy0, .int cy1, .int ds, .ref m4, .ref m5, .ref m6, .ref m7, .ref m8, .ref m9, .int pn, .ref m10, .ref m11, .ref m12, .ref m13])), (m7, .inl (cI, 48, .inl px)), (m8, .inl (cI, 48, .inl py)), (m9, .inl (cZ, 48, .inl pf))] [(cI, .int), (cZ, .boolean)] sz [.ref h0, .long u, .long v, .int ru]) (va_Qi (fun (r : Int32) (_ : Unit) => r = if (if ru = 0 then (wdN px py pf pn.toNatClampNeg u.toInt v.toInt pn.toNatClampNeg) &&& 1 = 1 else ¬ (wdN px py pf pn.toNatClampNeg u.toInt v.toInt pn.toNatClampNeg) = 0) then 1 else 0) (fun (_ : Unit) (t : State) => cB D (va_A [(h0, .inr (9, [.ref m1, .ref m2, .ref m3, .int ik, .int wy, .int op, .int cl, .int cx0, .int cx1, .int cy0, .int cy1, .int ds, .ref m4, .ref m5, .ref m6, .ref m7, .ref m8, .ref m9, .int pn, .ref m10, .ref m11, .ref m12, .ref m13])), (m7, .inl (cI, 48, .inl px)), (m8, .inl (cI, 48, .inl py)), (m9, .inl (cZ, 48, .inl pf))] sz) [(h0, .inr (9, [.ref m1, .ref m2, .ref m3, .int ik, .int wy, .int op, .int cl, .int cx0, .int cx1, .int cy0, .int cy1, .int ds, .ref m4, .ref m5, .ref m6, .ref m7, .ref m8, .ref m9, .int pn, .ref m10, .ref m11, .ref m12, .ref m13])), (m7, .inl (cI, 48, .inl px)), (m8, .inl (cI, 48, .inl py)), (m9, .inl (cZ, 48, .inl pf))] [(cI, .int), (cZ, .boolean)] t) (va_A [(h0, .inr (9, [.ref m1, .ref m2, .ref m3, .int ik, .int wy, .int op, .int cl, .int cx0, .int cx1, .int cy0, .int cy1, .int ds, .ref m4, .ref m5, .ref m6, .ref m7, .ref m8, .ref m9, .int pn, .ref m10, .ref m11, .ref m12, .ref m13])), (m7, .inl (cI, 48, .inl px)), (m8, .inl (cI, 48, .inl py)), (m9, .inl (cZ, 48, .inl pf))] sz)) 0 0 (va_A [(h0, .inr (9, [.ref m1, .ref m2, .ref m3, .int ik, .int wy, .int op, .int cl, .int cx0, .int cx1, .int cy0, .int cy1, .int ds, .ref m4, .ref m5, .ref m6, .ref m7, .ref m8, .ref m9, .int pn, .ref m10, .ref m11, .ref m12, .ref m13])), (m7, .inl (cI, 48, .inl px)), (m8, .inl (cI, 48, .inl py)), (m9, .inl (cZ, 48, .inl pf))] sz) := by
  refine Met.ofW (cc := cX9_isInside) (maxL := 7) (ret := (some .boolean)) (by decide) rfl ?_
  intro p e s m args below meth c s₁ B hml hv
  obtain ⟨rfl, hsz, hP, hK, hD0, hN⟩ := hv
  have hx := B.exec
  have hb := B.bytes
  have hr := B.returns
  have hts0 := atoms_spec (ws := (wB yX9_isInside cX9_isInside 7 (some .boolean))) B.pre
  have hts : ∀ w ∈ bigW, w.before _ s = true := fun w h => hts0 w (List.mem_cons_of_mem _ h)
  have hown : s.vm.findClass RX9 = some m.cls := findClass_of_methodNamed B.named
  have hlocks := B.notSynchronized
  subst hsz
  have hD := hD0.self (sz := s.heap.size)
  generalize hAe : va_A [(h0, .inr (9, [.ref m1, .ref m2, .ref m3, .int ik, .int wy, .int op, .int cl, .int cx0, .int cx1, .int cy0, .int cy1, .int ds, .ref m4, .ref m5, .ref m6, .ref m7, .ref m8, .ref m9, .int pn, .ref m10, .ref m11, .ref m12, .ref m13])), (m7, .inl (cI, 48, .inl px)), (m8, .inl (cI, 48, .inl py)), (m9, .inl (cZ, 48, .inl pf))] s.heap.size = A at hD ⊢
  have hA : ∀ q : Nat, s.heap.size ≤ q → A q := fun q h => by rw [← hAe]; exact Or.inr h
  have hS : va_S A s.heap s.heap [] := va_S.rf
  have hP : va_P D vwCl [(h0, .inr (9, [.ref m1, .ref m2, .ref m3, .int ik, .int wy, .int op, .int cl, .int cx0, .int cx1, .int cy0, .int cy1, .int ds, .ref m4, .ref m5, .ref m6, .ref m7, .ref m8, .ref m9, .int pn, .ref m10, .ref m11, .ref m12, .ref m13])), (m7, .inl (cI, 48, .inl px)), (m8, .inl (cI, 48, .inl py)), (m9, .inl (cZ, 48, .inl pf))] s.heap := hP
  have hl := lv_entry ([.ref h0, .long u, .long v, .int ru]) (n := 7) (Nat.le_of_ble_eq_true rfl)
  rw [lg_entry_eq]
  generalize (lg_sl ([.ref h0, .long u, .long v, .int ru]) ++ List.replicate (7 - (lg_sl ([.ref h0, .long u, .long v, .int ru])).length) Slot.unset).toArray = ls at hl ⊢
  have hl : lv_has ls 7 [(0, .ref h0), (1, .long u), (3, .long v), (5, .int ru)] := hl
  clear hts0 hD0 hAe
  refine my_abs (fun R Q hR hQ => ?_)
  refine lv_aload_n hx hb dX9_isInside_0 rfl (lv_at hl 0 rfl) ?_
  refine lv_lload_n hx hb dX9_isInside_1 rfl (lv_at hl 1 rfl) ?_
  refine lv_lload_n hx hb dX9_isInside_2 rfl (lv_at hl 2 rfl) ?_
  have hPc := hP.sub (ws' := [(h0, .inr (9, [.ref m1, .ref m2, .ref m3, .int ik, .int wy, .int op, .int cl, .int cx0, .int cx1, .int cy0, .int cy1, .int ds, .ref m4, .ref m5, .ref m6, .ref m7, .ref m8, .ref m9, .int pn, .ref m10, .ref m11, .ref m12, .ref m13])), (m7, .inl (cI, 48, .inl px)), (m8, .inl (cI, 48, .inl py)), (m9, .inl (cZ, 48, .inl pf))]) [0, 1, 2, 3] rfl
  have hDc := hD.sub (ws' := [(h0, .inr (9, [.ref m1, .ref m2, .ref m3, .int ik, .int wy, .int op, .int cl, .int cx0, .int cx1, .int cy0, .int cy1, .int ds, .ref m4, .ref m5, .ref m6, .ref m7, .ref m8, .ref m9, .int pn, .ref m10, .ref m11, .ref m12, .ref m13])), (m7, .inl (cI, 48, .inl px)), (m8, .inl (cI, 48, .inl py)), (m9, .inl (cZ, 48, .inl pf))]) [0, 1, 2, 3] (by decide) rfl
  have hKc := hK.sub (tys' := [(cI, .int), (cZ, .boolean)]) [0, 1] rfl
  have hFc := va_free (wc := [(h0, .inr (9, [.ref m1, .ref m2, .ref m3, .int ik, .int wy, .int op, .int cl, .int cx0, .int cx1, .int cy0, .int cy1, .int ds, .ref m4, .ref m5, .ref m6, .ref m7, .ref m8, .ref m9, .int pn, .ref m10, .ref m11, .ref m12, .ref m13])), (m7, .inl (cI, 48, .inl px)), (m8, .inl (cI, 48, .inl py)), (m9, .inl (cZ, 48, .inl pf))]) hD hS hA [0, 1, 2, 3] rfl
  refine va_calli (va_runV (As := [.long u, .long v]) (rest := []) ⟨hx, hb, hml, hown, hts⟩ (k_X9_winding l D s.heap.size h0 m1 m2 m3 m4 m5 m6 m7 m8 m9 m10 m11 m12 m13 ik wy op cl cx0 cx1 cy0 cy1 ds pn px py pf u v cI cZ (by first | assumption | omega | decide) (by first | assumption | omega | decide) (by first | assumption | omega | decide) (by first | assumption | omega | decide)) (cwV 2 hts (gV bw_519 bw_513 bw_514 bw_391 bw_512) rfl rfl rfl (by decide +kernel) ⟨(by rw [hR]; exact Nat.le_of_ble_eq_true rfl), (by rw [hR]; exact Nat.le_of_ble_eq_true rfl)⟩) ⟨cP_blind, va_recv hKc hPc (ci := 9) (q0 := 0) rfl rfl, cP_at hPc hKc hDc hN⟩ rfl rfl hl.1 rfl (lv_room (Nat.le_of_ble_eq_true rfl)) dX9_isInside_3 ⟨(by rw [hR]; exact Nat.le_of_ble_eq_true rfl), (by rw [hR]; exact Nat.le_of_ble_eq_true rfl)⟩) hS (fun q _ h => hFc q h) hFc (fun r_1 u9 t9 H1 locs ht hvm hr_1 hB hz1 hk1 hS => ?_)
  try dsimp only at hr_1
  obtain ⟨hP1, hK1, hD1⟩ := hB
  rw [ht] at hP1
  obtain ⟨hP, hD⟩ := va_join (wr := []) (w1 := [(h0, .inr (9, [.ref m1, .ref m2, .ref m3, .int ik, .int wy, .int op, .int cl, .int cx0, .int cx1, .int cy0, .int cy1, .int ds, .ref m4, .ref m5, .ref m6, .ref m7, .ref m8, .ref m9, .int pn, .ref m10, .ref m11, .ref m12, .ref m13])), (m7, .inl (cI, 48, .inl px)), (m8, .inl (cI, 48, .inl py)), (m9, .inl (cZ, 48, .inl pf))]) hP hD [0, 1, 2, 3] [] rfl rfl (by decide) (by decide) hk1 hFc hP1 hD1
  clear hz1 hk1 hFc hKc hDc hPc
  generalize H1 = H at hP hS ⊢
  have hP : va_P D vwCl [(h0, .inr (9, [.ref m1, .ref m2, .ref m3, .int ik, .int wy, .int op, .int cl, .int cx0, .int cx1, .int cy0, .int cy1, .int ds, .ref m4, .ref m5, .ref m6, .ref m7, .ref m8, .ref m9, .int pn, .ref m10, .ref m11, .ref m12, .ref m13])), (m7, .inl (cI, 48, .inl px)), (m8, .inl (cI, 48, .inl py)), (m9, .inl (cZ, 48, .inl pf))] H := hP
  have hD : va_D A [(h0, .inr (9, [.ref m1, .ref m2, .ref m3, .int ik, .int wy, .int op, .int cl, .int cx0, .int cx1, .int cy0, .int cy1, .int ds, .ref m4, .ref m5, .ref m6, .ref m7, .ref m8, .ref m9, .int pn, .ref m10, .ref m11, .ref m12, .ref m13])), (m7, .inl (cI, 48, .inl px)), (m8, .inl (cI, 48, .inl py)), (m9, .inl (cZ, 48, .inl pf))] := hD
  refine lv_istore (lv' := [(6, .int r_1), (0, .ref h0), (1, .long u), (3, .long v), (5, .int ru)]) hx hb dX9_isInside_6 hl (by decide) rfl (fun ls hl => ?_)
  refine lv_iload hx hb dX9_isInside_8 (lv_at hl 4 rfl) ?_
  refine lv_if_ne (tgt := 29) hx hb dX9_isInside_10 (by decide) (fun c_2 => ?_) (fun c_2 => ?_)
  · skip
    have f_3 : ¬ (ru.toInt = 0) := fn_eq rfl (by decide) c_2
    refine lv_iload hx hb dX9_isInside_29 (lv_at hl 0 rfl) ?_
    refine lv_if_eq (tgt := 38) hx hb dX9_isInside_31 (by decide) (fun c_4 => ?_) (fun c_4 => ?_)
    · skip
      have f_5 : r_1.toInt = 0 := f_eq rfl (by decide) c_4
      have hq : (wdN px py pf pn.toNatClampNeg u.toInt v.toInt pn.toNatClampNeg) = 0 := by rw [← hr_1]; exact c_4
      refine lv_iconst (v := 0) hx hb dX9_isInside_38 (by decide) ?_
      have hP9 := hP.sub (ws' := [(h0, .inr (9, [.ref m1, .ref m2, .ref m3, .int ik, .int wy, .int op, .int cl, .int cx0, .int cx1, .int cy0, .int cy1, .int ds, .ref m4, .ref m5, .ref m6, .ref m7, .ref m8, .ref m9, .int pn, .ref m10, .ref m11, .ref m12, .ref m13])), (m7, .inl (cI, 48, .inl px)), (m8, .inl (cI, 48, .inl py)), (m9, .inl (cZ, 48, .inl pf))]) [0, 1, 2, 3] rfl
      have hD9 := hD.sub (ws' := [(h0, .inr (9, [.ref m1, .ref m2, .ref m3, .int ik, .int wy, .int op, .int cl, .int cx0, .int cx1, .int cy0, .int cy1, .int ds, .ref m4, .ref m5, .ref m6, .ref m7, .ref m8, .ref m9, .int pn, .ref m10, .ref m11, .ref m12, .ref m13])), (m7, .inl (cI, 48, .inl px)), (m8, .inl (cI, 48, .inl py)), (m9, .inl (cZ, 48, .inl pf))]) [0, 1, 2, 3] (by decide) rfl
      have hK9 := hK.sub (tys' := [(cI, .int), (cZ, .boolean)]) [0, 1] rfl
      refine hQ _ _ _ _ _ ?_
      exact W.zret (v := 0) hx hb hr rfl (fun t ht hW => ⟨⟨0, (), rfl, (by simp only [if_neg c_2]; exact (if_neg (fun q => q hq)).symm), ⟨by rw [ht]; exact hP9, va_K.moved hW.alike hK9, hD9⟩⟩, hS.F ht⟩) hS.2.2 dX9_isInside_39
    · skip
      have f_5 : ¬ (r_1.toInt = 0) := fn_eq rfl (by decide) c_4
      have hq : ¬ (wdN px py pf pn.toNatClampNeg u.toInt v.toInt pn.toNatClampNeg) = 0 := by rw [← hr_1]; exact c_4
      refine lv_iconst (v := 1) hx hb dX9_isInside_34 (by decide) ?_
      refine lv_goto (tgt := 39) hx hb dX9_isInside_35 (by decide) ?_
      have hP9 := hP.sub (ws' := [(h0, .inr (9, [.ref m1, .ref m2, .ref m3, .int ik, .int wy, .int op, .int cl, .int cx0, .int cx1, .int cy0, .int cy1, .int ds, .ref m4, .ref m5, .ref m6, .ref m7, .ref m8, .ref m9, .int pn, .ref m10, .ref m11, .ref m12, .ref m13])), (m7, .inl (cI, 48, .inl px)), (m8, .inl (cI, 48, .inl py)), (m9, .inl (cZ, 48, .inl pf))]) [0, 1, 2, 3] rfl
      have hD9 := hD.sub (ws' := [(h0, .inr (9, [.ref m1, .ref m2, .ref m3, .int ik, .int wy, .int op, .int cl, .int cx0, .int cx1, .int cy0, .int cy1, .int ds, .ref m4, .ref m5, .ref m6, .ref m7, .ref m8, .ref m9, .int pn, .ref m10, .ref m11, .ref m12, .ref m13])), (m7, .inl (cI, 48, .inl px)), (m8, .inl (cI, 48, .inl py)), (m9, .inl (cZ, 48, .inl pf))]) [0, 1, 2, 3] (by decide) rfl
      have hK9 := hK.sub (tys' := [(cI, .int), (cZ, .boolean)]) [0, 1] rfl
      refine hQ _ _ _ _ _ ?_
      exact W.zret (v := 1) hx hb hr rfl (fun t ht hW => ⟨⟨1, (), rfl, (by simp only [if_neg c_2]; exact (if_pos hq).symm), ⟨by rw [ht]; exact hP9, va_K.moved hW.alike hK9, hD9⟩⟩, hS.F ht⟩) hS.2.2 dX9_isInside_39
  · skip
    have f_3 : ru.toInt = 0 := f_eq rfl (by decide) c_2
    refine lv_iload hx hb dX9_isInside_13 (lv_at hl 0 rfl) ?_
    refine lv_iconst (v := 1) hx hb dX9_isInside_15 (by decide) ?_
    refine lv_iand hx hb dX9_isInside_16 ?_
    refine lv_topi (fun y_6 ey_6 => ?_)
    refine lv_iconst (v := 1) hx hb dX9_isInside_17 (by decide) ?_
    refine lv_icmp_ne (tgt := 25) hx hb dX9_isInside_18 (by decide) (fun c_7 => ?_) (fun c_7 => ?_)
    · skip
      have f_8 : ¬ (y_6.toInt = 1) := fn_eq rfl (by decide) c_7
      have hq : ¬ (wdN px py pf pn.toNatClampNeg u.toInt v.toInt pn.toNatClampNeg) &&& 1 = 1 := by rw [← hr_1, ← ey_6]; exact c_7
      refine lv_iconst (v := 0) hx hb dX9_isInside_25 (by decide) ?_
      refine lv_goto (tgt := 39) hx hb dX9_isInside_26 (by decide) ?_
      have hP9 := hP.sub (ws' := [(h0, .inr (9, [.ref m1, .ref m2, .ref m3, .int ik, .int wy, .int op, .int cl, .int cx0, .int cx1, .int cy0, .int cy1, .int ds, .ref m4, .ref m5, .ref m6, .ref m7, .ref m8, .ref m9, .int pn, .ref m10, .ref m11, .ref m12, .ref m13])), (m7, .inl (cI, 48, .inl px)), (m8, .inl (cI, 48, .inl py)), (m9, .inl (cZ, 48, .inl pf))]) [0, 1, 2, 3] rfl
      have hD9 := hD.sub (ws' := [(h0, .inr (9, [.ref m1, .ref m2, .ref m3, .int ik, .int wy, .int op, .int cl, .int cx0, .int cx1, .int cy0, .int cy1, .int ds, .ref m4, .ref m5, .ref m6, .ref m7, .ref m8, .ref m9, .int pn, .ref m10, .ref m11, .ref m12, .ref m13])), (m7, .inl (cI, 48, .inl px)), (m8, .inl (cI, 48, .inl py)), (m9, .inl (cZ, 48, .inl pf))]) [0, 1, 2, 3] (by decide) rfl
      have hK9 := hK.sub (tys' := [(cI, .int), (cZ, .boolean)]) [0, 1] rfl
      refine hQ _ _ _ _ _ ?_
      exact W.zret (v := 0) hx hb hr rfl (fun t ht hW => ⟨⟨0, (), rfl, (by simp only [if_pos c_2]; exact (if_neg hq).symm), ⟨by rw [ht]; exact hP9, va_K.moved hW.alike hK9, hD9⟩⟩, hS.F ht⟩) hS.2.2 dX9_isInside_39
    · skip
      have f_8 : y_6.toInt = 1 := f_eq rfl (by decide) c_7
      have hq : (wdN px py pf pn.toNatClampNeg u.toInt v.toInt pn.toNatClampNeg) &&& 1 = 1 := by rw [← hr_1, ← ey_6]; exact c_7
      refine lv_iconst (v := 1) hx hb dX9_isInside_21 (by decide) ?_
      refine lv_goto (tgt := 39) hx hb dX9_isInside_22 (by decide) ?_
      have hP9 := hP.sub (ws' := [(h0, .inr (9, [.ref m1, .ref m2, .ref m3, .int ik, .int wy, .int op, .int cl, .int cx0, .int cx1, .int cy0, .int cy1, .int ds, .ref m4, .ref m5, .ref m6, .ref m7, .ref m8, .ref m9, .int pn, .ref m10, .ref m11, .ref m12, .ref m13])), (m7, .inl (cI, 48, .inl px)), (m8, .inl (cI, 48, .inl py)), (m9, .inl (cZ, 48, .inl pf))]) [0, 1, 2, 3] rfl
      have hD9 := hD.sub (ws' := [(h0, .inr (9, [.ref m1, .ref m2, .ref m3, .int ik, .int wy, .int op, .int cl, .int cx0, .int cx1, .int cy0, .int cy1, .int ds, .ref m4, .ref m5, .ref m6, .ref m7, .ref m8, .ref m9, .int pn, .ref m10, .ref m11, .ref m12, .ref m13])), (m7, .inl (cI, 48, .inl px)), (m8, .inl (cI, 48, .inl py)), (m9, .inl (cZ, 48, .inl pf))]) [0, 1, 2, 3] (by decide) rfl
      have hK9 := hK.sub (tys' := [(cI, .int), (cZ, .boolean)]) [0, 1] rfl
      refine hQ _ _ _ _ _ ?_
      exact W.zret (v := 1) hx hb hr rfl (fun t ht hW => ⟨⟨1, (), rfl, (by simp only [if_pos c_2]; exact (if_pos hq).symm), ⟨by rw [ht]; exact hP9, va_K.moved hW.alike hK9, hD9⟩⟩, hS.F ht⟩) hS.2.2 dX9_isInside_39

set_option maxHeartbeats 4000000 in
set_option maxRecDepth 100000 in
theorem k_X9_inside (l : Launch) (D : va_G) (sz : Nat) (h0 m1 m2 m3 m4 m5 m6 m7 m8 m9 m10 m11 m12 m13 : Nat) (ik wy op cl cx0 cx1 cy0 cy1 ds pn : Int32) (px : Nat → Int32) (py : Nat → Int32) (pf : Nat → Int32) (u v ru : Int32) (cI : ClassId) (cZ : ClassId) (hpn : 0 ≤ pn.toInt ∧ pn.toInt ≤ 48) (hpx : ∀ j : Nat, j < 48 → (-8192 ≤ (px j).toInt ∧ (px j).toInt ≤ 8192) ∧ (-8192 ≤ (py j).toInt ∧ (py j).toInt ≤ 8192)) : Met l yX9_inside (wB yX9_inside cX9_inside 4 (some .int)) ({ frames := 3, cells := 0, slots := 0, locals := 85 }) (cP D [(h0, .inr (9, [.ref m1, .ref m2, .ref m3, .int ik, .int wy, .int op, .int cl, .int cx0, .int cx1, .int cy0, .int cy1, .int ds, .ref m4, .ref m5, .ref m6, .ref m7, .ref m8, .ref m9, .int pn, .ref m10, .ref m11, .ref m12, .ref m13])), (m7, .inl (cI, 48, .inl px)), (m8, .inl (cI, 48, .inl py)), (m9, .inl (cZ, 48, .inl pf))] [(cI, .int), (cZ, .boolean)] sz [.ref h0, .int u, .int v, .int ru]) (va_Qi (fun (r : Int32) (_ : Unit) => r = if ru.toInt = 0 ∨ ru.toInt = 1 then (if (if ru = 0 then (wdN px py pf pn.toNatClampNeg u.toInt v.toInt pn.toNatClampNeg) &&& 1 = 1 else ¬ (wdN px py pf pn.toNatClampNeg u.toInt v.toInt pn.toNatClampNeg) = 0) then 1 else 0) else -1) (fun (_ : Unit) (t : State) => cB D (va_A [(h0, .inr (9, [.ref m1, .ref m2, .ref m3, .int ik, .int wy, .int op, .int cl, .int cx0, .int cx1, .int cy0, .int cy1, .int ds, .ref m4, .ref m5, .ref m6, .ref m7, .ref m8, .ref m9, .int pn, .ref m10, .ref m11, .ref m12, .ref m13])), (m7, .inl (cI, 48, .inl px)), (m8, .inl (cI, 48, .inl py)), (m9, .inl (cZ, 48, .inl pf))] sz) [(h0, .inr (9, [.ref m1, .ref m2, .ref m3, .int ik, .int wy, .int op, .int cl, .int cx0, .int cx1, .int cy0, .int cy1, .int ds, .ref m4, .ref m5, .ref m6, .ref m7, .ref m8, .ref m9, .int pn, .ref m10, .ref m11, .ref m12, .ref m13])), (m7, .inl (cI, 48, .inl px)), (m8, .inl (cI, 48, .inl py)), (m9, .inl (cZ, 48, .inl pf))] [(cI, .int), (cZ, .boolean)] t) (va_A [(h0, .inr (9, [.ref m1, .ref m2, .ref m3, .int ik, .int wy, .int op, .int cl, .int cx0, .int cx1, .int cy0, .int cy1, .int ds, .ref m4, .ref m5, .ref m6, .ref m7, .ref m8, .ref m9, .int pn, .ref m10, .ref m11, .ref m12, .ref m13])), (m7, .inl (cI, 48, .inl px)), (m8, .inl (cI, 48, .inl py)), (m9, .inl (cZ, 48, .inl pf))] sz)) 0 0 (va_A [(h0, .inr (9, [.ref m1, .ref m2, .ref m3, .int ik, .int wy, .int op, .int cl, .int cx0, .int cx1, .int cy0, .int cy1, .int ds, .ref m4, .ref m5, .ref m6, .ref m7, .ref m8, .ref m9, .int pn, .ref m10, .ref m11, .ref m12, .ref m13])), (m7, .inl (cI, 48, .inl px)), (m8, .inl (cI, 48, .inl py)), (m9, .inl (cZ, 48, .inl pf))] sz) := by
  refine Met.ofW (cc := cX9_inside) (maxL := 4) (ret := (some .int)) (by decide) rfl ?_
  intro p e s m args below meth c s₁ B hml hv
  obtain ⟨rfl, hsz, hP, hK, hD0, hN⟩ := hv
  have hx := B.exec
  have hb := B.bytes
  have hr := B.returns
  have hts0 := atoms_spec (ws := (wB yX9_inside cX9_inside 4 (some .int))) B.pre
  have hts : ∀ w ∈ bigW, w.before _ s = true := fun w h => hts0 w (List.mem_cons_of_mem _ h)
  have hown : s.vm.findClass RX9 = some m.cls := findClass_of_methodNamed B.named
  have hlocks := B.notSynchronized
  subst hsz
  have hD := hD0.self (sz := s.heap.size)
  generalize hAe : va_A [(h0, .inr (9, [.ref m1, .ref m2, .ref m3, .int ik, .int wy, .int op, .int cl, .int cx0, .int cx1, .int cy0, .int cy1, .int ds, .ref m4, .ref m5, .ref m6, .ref m7, .ref m8, .ref m9, .int pn, .ref m10, .ref m11, .ref m12, .ref m13])), (m7, .inl (cI, 48, .inl px)), (m8, .inl (cI, 48, .inl py)), (m9, .inl (cZ, 48, .inl pf))] s.heap.size = A at hD ⊢
  have hA : ∀ q : Nat, s.heap.size ≤ q → A q := fun q h => by rw [← hAe]; exact Or.inr h
  have hS : va_S A s.heap s.heap [] := va_S.rf
  have hP : va_P D vwCl [(h0, .inr (9, [.ref m1, .ref m2, .ref m3, .int ik, .int wy, .int op, .int cl, .int cx0, .int cx1, .int cy0, .int cy1, .int ds, .ref m4, .ref m5, .ref m6, .ref m7, .ref m8, .ref m9, .int pn, .ref m10, .ref m11, .ref m12, .ref m13])), (m7, .inl (cI, 48, .inl px)), (m8, .inl (cI, 48, .inl py)), (m9, .inl (cZ, 48, .inl pf))] s.heap := hP
  have hl := lv_entry ([.ref h0, .int u, .int v, .int ru]) (n := 4) (Nat.le_of_ble_eq_true rfl)
  rw [lg_entry_eq]
  generalize (lg_sl ([.ref h0, .int u, .int v, .int ru]) ++ List.replicate (4 - (lg_sl ([.ref h0, .int u, .int v, .int ru])).length) Slot.unset).toArray = ls at hl ⊢
  have hl : lv_has ls 4 [(0, .ref h0), (1, .int u), (2, .int v), (3, .int ru)] := hl
  clear hts0 hD0 hAe
  refine my_abs (fun R Q hR hQ => ?_)
  refine lv_iload_n hx hb dX9_inside_0 rfl (lv_at hl 3 rfl) ?_
  refine lv_if_lt (tgt := 9) hx hb dX9_inside_1 (by decide) (fun c_1 => ?_) (fun c_1 => ?_)
  · skip
    have f_2 : ru.toInt < 0 := f_lt rfl (by decide) c_1
    refine lv_iconst (v := (-1)) hx hb dX9_inside_9 (by decide) ?_
    have hP9 := hP.sub (ws' := [(h0, .inr (9, [.ref m1, .ref m2, .ref m3, .int ik, .int wy, .int op, .int cl, .int cx0, .int cx1, .int cy0, .int cy1, .int ds, .ref m4, .ref m5, .ref m6, .ref m7, .ref m8, .ref m9, .int pn, .ref m10, .ref m11, .ref m12, .ref m13])), (m7, .inl (cI, 48, .inl px)), (m8, .inl (cI, 48, .inl py)), (m9, .inl (cZ, 48, .inl pf))]) [0, 1, 2, 3] rfl
    have hD9 := hD.sub (ws' := [(h0, .inr (9, [.ref m1, .ref m2, .ref m3, .int ik, .int wy, .int op, .int cl, .int cx0, .int cx1, .int cy0, .int cy1, .int ds, .ref m4, .ref m5, .ref m6, .ref m7, .ref m8, .ref m9, .int pn, .ref m10, .ref m11, .ref m12, .ref m13])), (m7, .inl (cI, 48, .inl px)), (m8, .inl (cI, 48, .inl py)), (m9, .inl (cZ, 48, .inl pf))]) [0, 1, 2, 3] (by decide) rfl
    have hK9 := hK.sub (tys' := [(cI, .int), (cZ, .boolean)]) [0, 1] rfl
    refine hQ _ _ _ _ _ ?_
    exact W.iret (v := (-1)) hx hb hr (fun t ht hW => ⟨⟨(-1), (), rfl, (if_neg (by omega)).symm, ⟨by rw [ht]; exact hP9, va_K.moved hW.alike hK9, hD9⟩⟩, hS.F ht⟩) hS.2.2 dX9_inside_10
  · skip
    have f_2 : ¬ (ru.toInt < 0) := fn_lt rfl (by decide) c_1
    refine lv_iload_n hx hb dX9_inside_4 rfl (lv_at hl 3 rfl) ?_
    refine lv_iconst (v := 1) hx hb dX9_inside_5 (by decide) ?_
    refine lv_icmp_le (tgt := 11) hx hb dX9_inside_6 (by decide) (fun c_3 => ?_) (fun c_3 => ?_)
    · skip
      have f_4 : ru.toInt ≤ 1 := f_le rfl (by decide) c_3
      refine lv_aload_n hx hb dX9_inside_11 rfl (lv_at hl 0 rfl) ?_
      refine lv_iload_n hx hb dX9_inside_12 rfl (lv_at hl 1 rfl) ?_
      obtain ⟨y_5, ey_5⟩ : ∃ y : Int64, y = u.toInt64 := ⟨_, rfl⟩
      refine lv_i2l (v := y_5) hx hb dX9_inside_13 ey_5.symm ?_
      have hty_5 : y_5.toInt = u.toInt := by rw [ey_5]; exact Int32.toInt_toInt64 _
      refine lv_iload_n hx hb dX9_inside_14 rfl (lv_at hl 2 rfl) ?_
      obtain ⟨y_6, ey_6⟩ : ∃ y : Int64, y = v.toInt64 := ⟨_, rfl⟩
      refine lv_i2l (v := y_6) hx hb dX9_inside_15 ey_6.symm ?_
      have hty_6 : y_6.toInt = v.toInt := by rw [ey_6]; exact Int32.toInt_toInt64 _
      refine lv_iload_n hx hb dX9_inside_16 rfl (lv_at hl 3 rfl) ?_
      have hPc := hP.sub (ws' := [(h0, .inr (9, [.ref m1, .ref m2, .ref m3, .int ik, .int wy, .int op, .int cl, .int cx0, .int cx1, .int cy0, .int cy1, .int ds, .ref m4, .ref m5, .ref m6, .ref m7, .ref m8, .ref m9, .int pn, .ref m10, .ref m11, .ref m12, .ref m13])), (m7, .inl (cI, 48, .inl px)), (m8, .inl (cI, 48, .inl py)), (m9, .inl (cZ, 48, .inl pf))]) [0, 1, 2, 3] rfl
      have hDc := hD.sub (ws' := [(h0, .inr (9, [.ref m1, .ref m2, .ref m3, .int ik, .int wy, .int op, .int cl, .int cx0, .int cx1, .int cy0, .int cy1, .int ds, .ref m4, .ref m5, .ref m6, .ref m7, .ref m8, .ref m9, .int pn, .ref m10, .ref m11, .ref m12, .ref m13])), (m7, .inl (cI, 48, .inl px)), (m8, .inl (cI, 48, .inl py)), (m9, .inl (cZ, 48, .inl pf))]) [0, 1, 2, 3] (by decide) rfl
      have hKc := hK.sub (tys' := [(cI, .int), (cZ, .boolean)]) [0, 1] rfl
      have hFc := va_free (wc := [(h0, .inr (9, [.ref m1, .ref m2, .ref m3, .int ik, .int wy, .int op, .int cl, .int cx0, .int cx1, .int cy0, .int cy1, .int ds, .ref m4, .ref m5, .ref m6, .ref m7, .ref m8, .ref m9, .int pn, .ref m10, .ref m11, .ref m12, .ref m13])), (m7, .inl (cI, 48, .inl px)), (m8, .inl (cI, 48, .inl py)), (m9, .inl (cZ, 48, .inl pf))]) hD hS hA [0, 1, 2, 3] rfl
      refine va_calli (va_runV (As := [.long y_5, .long y_6, .int ru]) (rest := []) ⟨hx, hb, hml, hown, hts⟩ (k_X9_isInside l D s.heap.size h0 m1 m2 m3 m4 m5 m6 m7 m8 m9 m10 m11 m12 m13 ik wy op cl cx0 cx1 cy0 cy1 ds pn px py pf y_5 y_6 ru cI cZ (by first | assumption | omega | decide) (by first | assumption | omega | decide) (by rw [hty_5]; exact i32b _) (by rw [hty_6]; exact i32b _)) (cwV 3 hts (gV bw_523 bw_517 bw_518 bw_391 bw_516) rfl rfl rfl (by decide +kernel) ⟨(by rw [hR]; exact Nat.le_of_ble_eq_true rfl), (by rw [hR]; exact Nat.le_of_ble_eq_true rfl)⟩) ⟨cP_blind, va_recv hKc hPc (ci := 9) (q0 := 0) rfl rfl, cP_at hPc hKc hDc hN⟩ rfl rfl hl.1 rfl (lv_room (Nat.le_of_ble_eq_true rfl)) dX9_inside_17 ⟨(by rw [hR]; exact Nat.le_of_ble_eq_true rfl), (by rw [hR]; exact Nat.le_of_ble_eq_true rfl)⟩) hS (fun q _ h => hFc q h) hFc (fun r_7 u9 t9 H1 locs ht hvm hr_7 hB hz1 hk1 hS => ?_)
      try dsimp only at hr_7
      obtain ⟨hP1, hK1, hD1⟩ := hB
      rw [ht] at hP1
      obtain ⟨hP, hD⟩ := va_join (wr := []) (w1 := [(h0, .inr (9, [.ref m1, .ref m2, .ref m3, .int ik, .int wy, .int op, .int cl, .int cx0, .int cx1, .int cy0, .int cy1, .int ds, .ref m4, .ref m5, .ref m6, .ref m7, .ref m8, .ref m9, .int pn, .ref m10, .ref m11, .ref m12, .ref m13])), (m7, .inl (cI, 48, .inl px)), (m8, .inl (cI, 48, .inl py)), (m9, .inl (cZ, 48, .inl pf))]) hP hD [0, 1, 2, 3] [] rfl rfl (by decide) (by decide) hk1 hFc hP1 hD1
      clear hz1 hk1 hFc hKc hDc hPc
      generalize H1 = H at hP hS ⊢
      have hP : va_P D vwCl [(h0, .inr (9, [.ref m1, .ref m2, .ref m3, .int ik, .int wy, .int op, .int cl, .int cx0, .int cx1, .int cy0, .int cy1, .int ds, .ref m4, .ref m5, .ref m6, .ref m7, .ref m8, .ref m9, .int pn, .ref m10, .ref m11, .ref m12, .ref m13])), (m7, .inl (cI, 48, .inl px)), (m8, .inl (cI, 48, .inl py)), (m9, .inl (cZ, 48, .inl pf))] H := hP
      have hD : va_D A [(h0, .inr (9, [.ref m1, .ref m2, .ref m3, .int ik, .int wy, .int op, .int cl, .int cx0, .int cx1, .int cy0, .int cy1, .int ds, .ref m4, .ref m5, .ref m6, .ref m7, .ref m8, .ref m9, .int pn, .ref m10, .ref m11, .ref m12, .ref m13])), (m7, .inl (cI, 48, .inl px)), (m8, .inl (cI, 48, .inl py)), (m9, .inl (cZ, 48, .inl pf))] := hD
      rw [hty_5, hty_6] at hr_7
      refine lv_if_eq (tgt := 27) hx hb dX9_inside_20 (by decide) (fun c_8 => ?_) (fun c_8 => ?_)
      · skip
        have f_9 := bz0 hr_7 c_8
        refine lv_iconst (v := 0) hx hb dX9_inside_27 (by decide) ?_
        have hP9 := hP.sub (ws' := [(h0, .inr (9, [.ref m1, .ref m2, .ref m3, .int ik, .int wy, .int op, .int cl, .int cx0, .int cx1, .int cy0, .int cy1, .int ds, .ref m4, .ref m5, .ref m6, .ref m7, .ref m8, .ref m9, .int pn, .ref m10, .ref m11, .ref m12, .ref m13])), (m7, .inl (cI, 48, .inl px)), (m8, .inl (cI, 48, .inl py)), (m9, .inl (cZ, 48, .inl pf))]) [0, 1, 2, 3] rfl
        have hD9 := hD.sub (ws' := [(h0, .inr (9, [.ref m1, .ref m2, .ref m3, .int ik, .int wy, .int op, .int cl, .int cx0, .int cx1, .int cy0, .int cy1, .int ds, .ref m4, .ref m5, .ref m6, .ref m7, .ref m8, .ref m9, .int pn, .ref m10, .ref m11, .ref m12, .ref m13])), (m7, .inl (cI, 48, .inl px)), (m8, .inl (cI, 48, .inl py)), (m9, .inl (cZ, 48, .inl pf))]) [0, 1, 2, 3] (by decide) rfl
        have hK9 := hK.sub (tys' := [(cI, .int), (cZ, .boolean)]) [0, 1] rfl
        refine hQ _ _ _ _ _ ?_
        exact W.iret (v := 0) hx hb hr (fun t ht hW => ⟨⟨0, (), rfl, (by rw [if_pos (by omega), if_neg (by assumption)]), ⟨by rw [ht]; exact hP9, va_K.moved hW.alike hK9, hD9⟩⟩, hS.F ht⟩) hS.2.2 dX9_inside_28
      · skip
        have f_9 := bz1 hr_7 c_8
        refine lv_iconst (v := 1) hx hb dX9_inside_23 (by decide) ?_
        refine lv_goto (tgt := 28) hx hb dX9_inside_24 (by decide) ?_
        have hP9 := hP.sub (ws' := [(h0, .inr (9, [.ref m1, .ref m2, .ref m3, .int ik, .int wy, .int op, .int cl, .int cx0, .int cx1, .int cy0, .int cy1, .int ds, .ref m4, .ref m5, .ref m6, .ref m7, .ref m8, .ref m9, .int pn, .ref m10, .ref m11, .ref m12, .ref m13])), (m7, .inl (cI, 48, .inl px)), (m8, .inl (cI, 48, .inl py)), (m9, .inl (cZ, 48, .inl pf))]) [0, 1, 2, 3] rfl
        have hD9 := hD.sub (ws' := [(h0, .inr (9, [.ref m1, .ref m2, .ref m3, .int ik, .int wy, .int op, .int cl, .int cx0, .int cx1, .int cy0, .int cy1, .int ds, .ref m4, .ref m5, .ref m6, .ref m7, .ref m8, .ref m9, .int pn, .ref m10, .ref m11, .ref m12, .ref m13])), (m7, .inl (cI, 48, .inl px)), (m8, .inl (cI, 48, .inl py)), (m9, .inl (cZ, 48, .inl pf))]) [0, 1, 2, 3] (by decide) rfl
        have hK9 := hK.sub (tys' := [(cI, .int), (cZ, .boolean)]) [0, 1] rfl
        refine hQ _ _ _ _ _ ?_
        exact W.iret (v := 1) hx hb hr (fun t ht hW => ⟨⟨1, (), rfl, (by rw [if_pos (by omega), if_pos (by assumption)]), ⟨by rw [ht]; exact hP9, va_K.moved hW.alike hK9, hD9⟩⟩, hS.F ht⟩) hS.2.2 dX9_inside_28
    · skip
      have f_4 : ¬ (ru.toInt ≤ 1) := fn_le rfl (by decide) c_3
      refine lv_iconst (v := (-1)) hx hb dX9_inside_9 (by decide) ?_
      have hP9 := hP.sub (ws' := [(h0, .inr (9, [.ref m1, .ref m2, .ref m3, .int ik, .int wy, .int op, .int cl, .int cx0, .int cx1, .int cy0, .int cy1, .int ds, .ref m4, .ref m5, .ref m6, .ref m7, .ref m8, .ref m9, .int pn, .ref m10, .ref m11, .ref m12, .ref m13])), (m7, .inl (cI, 48, .inl px)), (m8, .inl (cI, 48, .inl py)), (m9, .inl (cZ, 48, .inl pf))]) [0, 1, 2, 3] rfl
      have hD9 := hD.sub (ws' := [(h0, .inr (9, [.ref m1, .ref m2, .ref m3, .int ik, .int wy, .int op, .int cl, .int cx0, .int cx1, .int cy0, .int cy1, .int ds, .ref m4, .ref m5, .ref m6, .ref m7, .ref m8, .ref m9, .int pn, .ref m10, .ref m11, .ref m12, .ref m13])), (m7, .inl (cI, 48, .inl px)), (m8, .inl (cI, 48, .inl py)), (m9, .inl (cZ, 48, .inl pf))]) [0, 1, 2, 3] (by decide) rfl
      have hK9 := hK.sub (tys' := [(cI, .int), (cZ, .boolean)]) [0, 1] rfl
      refine hQ _ _ _ _ _ ?_
      exact W.iret (v := (-1)) hx hb hr (fun t ht hW => ⟨⟨(-1), (), rfl, (if_neg (by omega)).symm, ⟨by rw [ht]; exact hP9, va_K.moved hW.alike hK9, hD9⟩⟩, hS.F ht⟩) hS.2.2 dX9_inside_10
