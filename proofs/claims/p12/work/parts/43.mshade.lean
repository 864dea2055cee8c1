set_option maxHeartbeats 4000000 in
set_option maxRecDepth 100000 in
theorem k_X9_corner_y (l : Launch) (D : va_G) (sz : Nat) (h0 m1 m2 m3 m4 m5 m6 m7 m8 m9 m10 m11 m12 m13 : Nat) (ik wy op cl cx0 cx1 cy0 cy1 ds pn : Int32) (kx : Nat → Int32) (ky : Nat → Int32) (ki : Nat → Int32) (i9 x y v : Int32) (cI : ClassId) (hcn : (0 ≤ i9.toInt ∧ i9.toInt ≤ 2) ∧ (-200 ≤ x.toInt ∧ x.toInt ≤ 200) ∧ (-200 ≤ y.toInt ∧ y.toInt ≤ 200)) : Met l yX9_corner (wB yX9_corner cX9_corner 5 (some .boolean)) ({ frames := 2, cells := 0, slots := 0, locals := 44 }) (cP D [(h0, .inr (9, [.ref m1, .ref m2, .ref m3, .int ik, .int wy, .int op, .int cl, .int cx0, .int cx1, .int cy0, .int cy1, .int ds, .ref m4, .ref m5, .ref m6, .ref m7, .ref m8, .ref m9, .int pn, .ref m10, .ref m11, .ref m12, .ref m13])), (m10, .inl (cI, 3, .inl kx)), (m11, .inl (cI, 3, .inl ky)), (m12, .inl (cI, 3, .inl ki))] [(cI, .int)] sz [.ref h0, .int i9, .int x, .int y, .int v]) (va_Qi (fun (r : Int32) (_ : Unit) => r = 1) (fun (_ : Unit) (t : State) => cB D (va_A [(h0, .inr (9, [.ref m1, .ref m2, .ref m3, .int ik, .int wy, .int op, .int cl, .int cx0, .int cx1, .int cy0, .int cy1, .int ds, .ref m4, .ref m5, .ref m6, .ref m7, .ref m8, .ref m9, .int pn, .ref m10, .ref m11, .ref m12, .ref m13])), (m10, .inl (cI, 3, .inl kx)), (m11, .inl (cI, 3, .inl ky)), (m12, .inl (cI, 3, .inl ki))] sz) [(h0, .inr (9, [.ref m1, .ref m2, .ref m3, .int ik, .int wy, .int op, .int cl, .int cx0, .int cx1, .int cy0, .int cy1, .int ds, .ref m4, .ref m5, .ref m6, .ref m7, .ref m8, .ref m9, .int pn, .ref m10, .ref m11, .ref m12, .ref m13])), (m10, .inl (cI, 3, .inl (upd kx i9.toNatClampNeg x))), (m11, .inl (cI, 3, .inl (upd ky i9.toNatClampNeg y))), (m12, .inl (cI, 3, .inl (upd ki i9.toNatClampNeg (inkP v))))] [(cI, .int)] t) (va_A [(h0, .inr (9, [.ref m1, .ref m2, .ref m3, .int ik, .int wy, .int op, .int cl, .int cx0, .int cx1, .int cy0, .int cy1, .int ds, .ref m4, .ref m5, .ref m6, .ref m7, .ref m8, .ref m9, .int pn, .ref m10, .ref m11, .ref m12, .ref m13])), (m10, .inl (cI, 3, .inl kx)), (m11, .inl (cI, 3, .inl ky)), (m12, .inl (cI, 3, .inl ki))] sz)) 0 0 (va_A [(h0, .inr (9, [.ref m1, .ref m2, .ref m3, .int ik, .int wy, .int op, .int cl, .int cx0, .int cx1, .int cy0, .int cy1, .int ds, .ref m4, .ref m5, .ref m6, .ref m7, .ref m8, .ref m9, .int pn, .ref m10, .ref m11, .ref m12, .ref m13])), (m10, .inl (cI, 3, .inl kx)), (m11, .inl (cI, 3, .inl ky)), (m12, .inl (cI, 3, .inl ki))] sz) := by
  refine Met.ofW (cc := cX9_corner) (maxL := 5) (ret := (some .boolean)) (by decide) rfl ?_
  intro p e s m args below meth c s₁ B hml hv
  obtain ⟨rfl, hsz, hP, hK, hD0, hN⟩ := hv
  have hx := B.exec
  have hb := B.bytes
  have hr := B.returns
  have hts0 := atoms_spec (ws := (wB yX9_corner cX9_corner 5 (some .boolean))) B.pre
  have hts : ∀ w ∈ bigW, w.before _ s = true := fun w h => hts0 w (List.mem_cons_of_mem _ h)
  have hown : s.vm.findClass RX9 = some m.cls := findClass_of_methodNamed B.named
  have hlocks := B.notSynchronized
  subst hsz
  have hD := hD0.self (sz := s.heap.size)
  generalize hAe : va_A [(h0, .inr (9, [.ref m1, .ref m2, .ref m3, .int ik, .int wy, .int op, .int cl, .int cx0, .int cx1, .int cy0, .int cy1, .int ds, .ref m4, .ref m5, .ref m6, .ref m7, .ref m8, .ref m9, .int pn, .ref m10, .ref m11, .ref m12, .ref m13])), (m10, .inl (cI, 3, .inl kx)), (m11, .inl (cI, 3, .inl ky)), (m12, .inl (cI, 3, .inl ki))] s.heap.size = A at hD ⊢
  have hA : ∀ q : Nat, s.heap.size ≤ q → A q := fun q h => by rw [← hAe]; exact Or.inr h
  have hS : va_S A s.heap s.heap [] := va_S.rf
  have hP : va_P D vwCl [(h0, .inr (9, [.ref m1, .ref m2, .ref m3, .int ik, .int wy, .int op, .int cl, .int cx0, .int cx1, .int cy0, .int cy1, .int ds, .ref m4, .ref m5, .ref m6, .ref m7, .ref m8, .ref m9, .int pn, .ref m10, .ref m11, .ref m12, .ref m13])), (m10, .inl (cI, 3, .inl kx)), (m11, .inl (cI, 3, .inl ky)), (m12, .inl (cI, 3, .inl ki))] s.heap := hP
  have hl := lv_entry ([.ref h0, .int i9, .int x, .int y, .int v]) (n := 5) (Nat.le_of_ble_eq_true rfl)
  rw [lg_entry_eq]
  generalize (lg_sl ([.ref h0, .int i9, .int x, .int y, .int v]) ++ List.replicate (5 - (lg_sl ([.ref h0, .int i9, .int x, .int y, .int v])).length) Slot.unset).toArray = ls at hl ⊢
  have hl : lv_has ls 5 [(0, .ref h0), (1, .int i9), (2, .int x), (3, .int y), (4, .int v)] := hl
  clear hts0 hD0 hAe
  refine my_abs (fun R Q hR hQ => ?_)
  refine lv_iload_n hx hb dX9_corner_0 rfl (lv_at hl 1 rfl) ?_
  refine lv_if_lt (tgt := 29) hx hb dX9_corner_1 (by decide) (fun c_1 => ?_) (fun c_1 => ?_)
  · skip
    have f_2 : i9.toInt < 0 := f_lt rfl (by decide) c_1
    exact False.elim (by omega)
  · skip
    have f_2 : ¬ (i9.toInt < 0) := fn_lt rfl (by decide) c_1
    refine lv_iload_n hx hb dX9_corner_4 rfl (lv_at hl 1 rfl) ?_
    refine lv_iconst (v := 2) hx hb dX9_corner_5 (by decide) ?_
    refine lv_icmp_gt (tgt := 29) hx hb dX9_corner_6 (by decide) (fun c_3 => ?_) (fun c_3 => ?_)
    · skip
      have f_4 : 2 < i9.toInt := f_lt (by decide) rfl c_3
      exact False.elim (by omega)
    · skip
      have f_4 : ¬ (2 < i9.toInt) := fn_lt (by decide) rfl c_3
      refine lv_iload_n hx hb dX9_corner_9 rfl (lv_at hl 2 rfl) ?_
      refine lv_sipush (v := 200) hx hb dX9_corner_10 (by decide) ?_
      have hPc := hP.sub (ws' := []) [] rfl
      have hDc := hD.sub (ws' := []) [] (by decide) rfl
      have hKc := hK.sub (tys' := []) [] rfl
      have hFc := va_free (wc := []) hD hS hA [] rfl
      refine va_calli (va_runS (As := [.int x, .int 200]) (rest := []) ⟨hx, hb, hml, hown, hts⟩ (k_X9_isNear l D s.heap.size x 200 (-200) 200 (by decide) (by decide)) (va_cwS 2 hts (gS bw_491 bw_482 bw_391 bw_481) rfl rfl rfl (by decide +kernel) ⟨(by rw [hR]; exact Nat.le_of_ble_eq_true rfl), (by rw [hR]; exact Nat.le_of_ble_eq_true rfl)⟩) ⟨cP_blind, cP_at hPc hKc hDc hN⟩ rfl rfl hl.1 rfl (lv_room (Nat.le_of_ble_eq_true rfl)) dX9_corner_13 ⟨(by rw [hR]; exact Nat.le_of_ble_eq_true rfl), (by rw [hR]; exact Nat.le_of_ble_eq_true rfl)⟩) hS (fun q _ h => hFc q h) hFc (fun r_5 u9 t9 H1 locs ht hvm hr_5 hB hz1 hk1 hS => ?_)
      try dsimp only at hr_5
      have hP1 : va_P D vwCl [] H1 := vP_nil
      have hD1 : va_D (va_A [] s.heap.size) [] := vD_nil
      obtain ⟨hP, hD⟩ := va_join (wr := [(h0, .inr (9, [.ref m1, .ref m2, .ref m3, .int ik, .int wy, .int op, .int cl, .int cx0, .int cx1, .int cy0, .int cy1, .int ds, .ref m4, .ref m5, .ref m6, .ref m7, .ref m8, .ref m9, .int pn, .ref m10, .ref m11, .ref m12, .ref m13])), (m10, .inl (cI, 3, .inl kx)), (m11, .inl (cI, 3, .inl ky)), (m12, .inl (cI, 3, .inl ki))]) (w1 := []) hP hD [] [0, 1, 2, 3] rfl rfl (by decide) (by decide) hk1 hFc hP1 hD1
      clear hz1 hk1 hFc hKc hDc hPc
      generalize H1 = H at hP hS ⊢
      have hP : va_P D vwCl [(h0, .inr (9, [.ref m1, .ref m2, .ref m3, .int ik, .int wy, .int op, .int cl, .int cx0, .int cx1, .int cy0, .int cy1, .int ds, .ref m4, .ref m5, .ref m6, .ref m7, .ref m8, .ref m9, .int pn, .ref m10, .ref m11, .ref m12, .ref m13])), (m10, .inl (cI, 3, .inl kx)), (m11, .inl (cI, 3, .inl ky)), (m12, .inl (cI, 3, .inl ki))] H := hP
      have hD : va_D A [(h0, .inr (9, [.ref m1, .ref m2, .ref m3, .int ik, .int wy, .int op, .int cl, .int cx0, .int cx1, .int cy0, .int cy1, .int ds, .ref m4, .ref m5, .ref m6, .ref m7, .ref m8, .ref m9, .int pn, .ref m10, .ref m11, .ref m12, .ref m13])), (m10, .inl (cI, 3, .inl kx)), (m11, .inl (cI, 3, .inl ky)), (m12, .inl (cI, 3, .inl ki))] := hD
      refine lv_if_eq (tgt := 29) hx hb dX9_corner_16 (by decide) (fun c_6 => ?_) (fun c_6 => ?_)
      · skip
        have f_7 := bz0 hr_5 c_6
        exact False.elim (by omega)
      · skip
        have f_7 := bz1 hr_5 c_6
        refine lv_iload_n hx hb dX9_corner_19 rfl (lv_at hl 3 rfl) ?_
        refine lv_sipush (v := 200) hx hb dX9_corner_20 (by decide) ?_
        have hPc := hP.sub (ws' := []) [] rfl
        have hDc := hD.sub (ws' := []) [] (by decide) rfl
        have hKc := hK.sub (tys' := []) [] rfl
        have hFc := va_free (wc := []) hD hS hA [] rfl
        refine va_calli (va_runS (As := [.int y, .int 200]) (rest := []) ⟨hx, hb, hml, hown, hts⟩ (k_X9_isNear l D H.size y 200 (-200) 200 (by decide) (by decide)) (va_cwS 2 hts (gS bw_491 bw_482 bw_391 bw_481) rfl rfl rfl (by decide +kernel) ⟨(by rw [hR]; exact Nat.le_of_ble_eq_true rfl), (by rw [hR]; exact Nat.le_of_ble_eq_true rfl)⟩) ⟨cP_blind, cP_at hPc hKc hDc hN⟩ rfl rfl hl.1 rfl (lv_room (Nat.le_of_ble_eq_true rfl)) dX9_corner_23 ⟨(by rw [hR]; exact Nat.le_of_ble_eq_true rfl), (by rw [hR]; exact Nat.le_of_ble_eq_true rfl)⟩) hS (fun q _ h => hFc q h) hFc (fun r_8 u9 t9 H1 locs ht hvm hr_8 hB hz1 hk1 hS => ?_)
        try dsimp only at hr_8
        have hP1 : va_P D vwCl [] H1 := vP_nil
        have hD1 : va_D (va_A [] H.size) [] := vD_nil
        obtain ⟨hP, hD⟩ := va_join (wr := [(h0, .inr (9, [.ref m1, .ref m2, .ref m3, .int ik, .int wy, .int op, .int cl, .int cx0, .int cx1, .int cy0, .int cy1, .int ds, .ref m4, .ref m5, .ref m6, .ref m7, .ref m8, .ref m9, .int pn, .ref m10, .ref m11, .ref m12, .ref m13])), (m10, .inl (cI, 3, .inl kx)), (m11, .inl (cI, 3, .inl ky)), (m12, .inl (cI, 3, .inl ki))]) (w1 := []) hP hD [] [0, 1, 2, 3] rfl rfl (by decide) (by decide) hk1 hFc hP1 hD1
        clear hz1 hk1 hFc hKc hDc hPc
        generalize H1 = H at hP hS ⊢
        have hP : va_P D vwCl [(h0, .inr (9, [.ref m1, .ref m2, .ref m3, .int ik, .int wy, .int op, .int cl, .int cx0, .int cx1, .int cy0, .int cy1, .int ds, .ref m4, .ref m5, .ref m6, .ref m7, .ref m8, .ref m9, .int pn, .ref m10, .ref m11, .ref m12, .ref m13])), (m10, .inl (cI, 3, .inl kx)), (m11, .inl (cI, 3, .inl ky)), (m12, .inl (cI, 3, .inl ki))] H := hP
        have hD : va_D A [(h0, .inr (9, [.ref m1, .ref m2, .ref m3, .int ik, .int wy, .int op, .int cl, .int cx0, .int cx1, .int cy0, .int cy1, .int ds, .ref m4, .ref m5, .ref m6, .ref m7, .ref m8, .ref m9, .int pn, .ref m10, .ref m11, .ref m12, .ref m13])), (m10, .inl (cI, 3, .inl kx)), (m11, .inl (cI, 3, .inl ky)), (m12, .inl (cI, 3, .inl ki))] := hD
        refine lv_if_ne (tgt := 31) hx hb dX9_corner_26 (by decide) (fun c_9 => ?_) (fun c_9 => ?_)
        · skip
          have f_10 := bz1 hr_8 c_9
          refine lv_aload_n hx hb dX9_corner_31 rfl (lv_at hl 0 rfl) ?_
          refine va_get (D := D) (ci := 9) (v := .ref m10) (C := RX9) (T := TX9) (N := 23) hx hb hts hi_X9 hown hK hP 0 rfl rfl 19 (by decide) (hts _ bw_410) (fun _ h9 => h9) rfl dX9_corner_32 ?_
          refine lv_iload_n hx hb dX9_corner_35 rfl (lv_at hl 1 rfl) ?_
          refine lv_iload_n hx hb dX9_corner_36 rfl (lv_at hl 2 rfl) ?_
          refine va_iast hx hb hK hP hD hS 1 0 rfl rfl (vp_in_iff.mpr ⟨by omega, by omega⟩) dX9_corner_37 (fun H locs hP hD hS => ?_)
          have hP : va_P D vwCl [(h0, .inr (9, [.ref m1, .ref m2, .ref m3, .int ik, .int wy, .int op, .int cl, .int cx0, .int cx1, .int cy0, .int cy1, .int ds, .ref m4, .ref m5, .ref m6, .ref m7, .ref m8, .ref m9, .int pn, .ref m10, .ref m11, .ref m12, .ref m13])), (m10, .inl (cI, 3, .inl (upd kx i9.toNatClampNeg x))), (m11, .inl (cI, 3, .inl ky)), (m12, .inl (cI, 3, .inl ki))] H := hP
          have hD : va_D A [(h0, .inr (9, [.ref m1, .ref m2, .ref m3, .int ik, .int wy, .int op, .int cl, .int cx0, .int cx1, .int cy0, .int cy1, .int ds, .ref m4, .ref m5, .ref m6, .ref m7, .ref m8, .ref m9, .int pn, .ref m10, .ref m11, .ref m12, .ref m13])), (m10, .inl (cI, 3, .inl (upd kx i9.toNatClampNeg x))), (m11, .inl (cI, 3, .inl ky)), (m12, .inl (cI, 3, .inl ki))] := hD
          generalize eg_11 : upd kx i9.toNatClampNeg x = g_11 at hP hD
          have hP : va_P D vwCl [(h0, .inr (9, [.ref m1, .ref m2, .ref m3, .int ik, .int wy, .int op, .int cl, .int cx0, .int cx1, .int cy0, .int cy1, .int ds, .ref m4, .ref m5, .ref m6, .ref m7, .ref m8, .ref m9, .int pn, .ref m10, .ref m11, .ref m12, .ref m13])), (m10, .inl (cI, 3, .inl g_11)), (m11, .inl (cI, 3, .inl ky)), (m12, .inl (cI, 3, .inl ki))] H := hP
          have hD : va_D A [(h0, .inr (9, [.ref m1, .ref m2, .ref m3, .int ik, .int wy, .int op, .int cl, .int cx0, .int cx1, .int cy0, .int cy1, .int ds, .ref m4, .ref m5, .ref m6, .ref m7, .ref m8, .ref m9, .int pn, .ref m10, .ref m11, .ref m12, .ref m13])), (m10, .inl (cI, 3, .inl g_11)), (m11, .inl (cI, 3, .inl ky)), (m12, .inl (cI, 3, .inl ki))] := hD
          refine lv_aload_n hx hb dX9_corner_38 rfl (lv_at hl 0 rfl) ?_
          refine va_get (D := D) (ci := 9) (v := .ref m11) (C := RX9) (T := TX9) (N := 23) hx hb hts hi_X9 hown hK hP 0 rfl rfl 20 (by decide) (hts _ bw_411) (fun _ h9 => h9) rfl dX9_corner_39 ?_
          refine lv_iload_n hx hb dX9_corner_42 rfl (lv_at hl 1 rfl) ?_
          refine lv_iload_n hx hb dX9_corner_43 rfl (lv_at hl 3 rfl) ?_
          refine va_iast hx hb hK hP hD hS 2 0 rfl rfl (vp_in_iff.mpr ⟨by omega, by omega⟩) dX9_corner_44 (fun H locs hP hD hS => ?_)
          have hP : va_P D vwCl [(h0, .inr (9, [.ref m1, .ref m2, .ref m3, .int ik, .int wy, .int op, .int cl, .int cx0, .int cx1, .int cy0, .int cy1, .int ds, .ref m4, .ref m5, .ref m6, .ref m7, .ref m8, .ref m9, .int pn, .ref m10, .ref m11, .ref m12, .ref m13])), (m10, .inl (cI, 3, .inl g_11)), (m11, .inl (cI, 3, .inl (upd ky i9.toNatClampNeg y))), (m12, .inl (cI, 3, .inl ki))] H := hP
          have hD : va_D A [(h0, .inr (9, [.ref m1, .ref m2, .ref m3, .int ik, .int wy, .int op, .int cl, .int cx0, .int cx1, .int cy0, .int cy1, .int ds, .ref m4, .ref m5, .ref m6, .ref m7, .ref m8, .ref m9, .int pn, .ref m10, .ref m11, .ref m12, .ref m13])), (m10, .inl (cI, 3, .inl g_11)), (m11, .inl (cI, 3, .inl (upd ky i9.toNatClampNeg y))), (m12, .inl (cI, 3, .inl ki))] := hD
          generalize eg_12 : upd ky i9.toNatClampNeg y = g_12 at hP hD
          have hP : va_P D vwCl [(h0, .inr (9, [.ref m1, .ref m2, .ref m3, .int ik, .int wy, .int op, .int cl, .int cx0, .int cx1, .int cy0, .int cy1, .int ds, .ref m4, .ref m5, .ref m6, .ref m7, .ref m8, .ref m9, .int pn, .ref m10, .ref m11, .ref m12, .ref m13])), (m10, .inl (cI, 3, .inl g_11)), (m11, .inl (cI, 3, .inl g_12)), (m12, .inl (cI, 3, .inl ki))] H := hP
          have hD : va_D A [(h0, .inr (9, [.ref m1, .ref m2, .ref m3, .int ik, .int wy, .int op, .int cl, .int cx0, .int cx1, .int cy0, .int cy1, .int ds, .ref m4, .ref m5, .ref m6, .ref m7, .ref m8, .ref m9, .int pn, .ref m10, .ref m11, .ref m12, .ref m13])), (m10, .inl (cI, 3, .inl g_11)), (m11, .inl (cI, 3, .inl g_12)), (m12, .inl (cI, 3, .inl ki))] := hD
          refine lv_aload_n hx hb dX9_corner_45 rfl (lv_at hl 0 rfl) ?_
          refine va_get (D := D) (ci := 9) (v := .ref m12) (C := RX9) (T := TX9) (N := 23) hx hb hts hi_X9 hown hK hP 0 rfl rfl 21 (by decide) (hts _ bw_412) (fun _ h9 => h9) rfl dX9_corner_46 ?_
          refine lv_iload_n hx hb dX9_corner_49 rfl (lv_at hl 1 rfl) ?_
          refine lv_iload hx hb dX9_corner_50 (lv_at hl 4 rfl) ?_
          have hPc := hP.sub (ws' := []) [] rfl
          have hDc := hD.sub (ws' := []) [] (by decide) rfl
          have hKc := hK.sub (tys' := []) [] rfl
          have hFc := va_free (wc := []) hD hS hA [] rfl
          refine va_calli (va_runS (As := [.int v]) (rest := [.int i9, .ref m12]) ⟨hx, hb, hml, hown, hts⟩ (k_X9_inkOf l D H.size v) (va_cwS 1 hts (gS bw_471 bw_440 bw_391 bw_439) rfl rfl rfl (by decide +kernel) ⟨(by rw [hR]; exact Nat.le_of_ble_eq_true rfl), (by rw [hR]; exact Nat.le_of_ble_eq_true rfl)⟩) ⟨cP_blind, cP_at hPc hKc hDc hN⟩ rfl rfl hl.1 rfl (lv_room (Nat.le_of_ble_eq_true rfl)) dX9_corner_52 ⟨(by rw [hR]; exact Nat.le_of_ble_eq_true rfl), (by rw [hR]; exact Nat.le_of_ble_eq_true rfl)⟩) hS (fun q _ h => hFc q h) hFc (fun r_13 u9 t9 H1 locs ht hvm hr_13 hB hz1 hk1 hS => ?_)
          try dsimp only at hr_13
          have hP1 : va_P D vwCl [] H1 := vP_nil
          have hD1 : va_D (va_A [] H.size) [] := vD_nil
          obtain ⟨hP, hD⟩ := va_join (wr := [(h0, .inr (9, [.ref m1, .ref m2, .ref m3, .int ik, .int wy, .int op, .int cl, .int cx0, .int cx1, .int cy0, .int cy1, .int ds, .ref m4, .ref m5, .ref m6, .ref m7, .ref m8, .ref m9, .int pn, .ref m10, .ref m11, .ref m12, .ref m13])), (m10, .inl (cI, 3, .inl g_11)), (m11, .inl (cI, 3, .inl g_12)), (m12, .inl (cI, 3, .inl ki))]) (w1 := []) hP hD [] [0, 1, 2, 3] rfl rfl (by decide) (by decide) hk1 hFc hP1 hD1
          clear hz1 hk1 hFc hKc hDc hPc
          generalize H1 = H at hP hS ⊢
          have hP : va_P D vwCl [(h0, .inr (9, [.ref m1, .ref m2, .ref m3, .int ik, .int wy, .int op, .int cl, .int cx0, .int cx1, .int cy0, .int cy1, .int ds, .ref m4, .ref m5, .ref m6, .ref m7, .ref m8, .ref m9, .int pn, .ref m10, .ref m11, .ref m12, .ref m13])), (m10, .inl (cI, 3, .inl g_11)), (m11, .inl (cI, 3, .inl g_12)), (m12, .inl (cI, 3, .inl ki))] H := hP
          have hD : va_D A [(h0, .inr (9, [.ref m1, .ref m2, .ref m3, .int ik, .int wy, .int op, .int cl, .int cx0, .int cx1, .int cy0, .int cy1, .int ds, .ref m4, .ref m5, .ref m6, .ref m7, .ref m8, .ref m9, .int pn, .ref m10, .ref m11, .ref m12, .ref m13])), (m10, .inl (cI, 3, .inl g_11)), (m11, .inl (cI, 3, .inl g_12)), (m12, .inl (cI, 3, .inl ki))] := hD
          refine va_iast hx hb hK hP hD hS 3 0 rfl rfl (vp_in_iff.mpr ⟨by omega, by omega⟩) dX9_corner_55 (fun H locs hP hD hS => ?_)
          have hP : va_P D vwCl [(h0, .inr (9, [.ref m1, .ref m2, .ref m3, .int ik, .int wy, .int op, .int cl, .int cx0, .int cx1, .int cy0, .int cy1, .int ds, .ref m4, .ref m5, .ref m6, .ref m7, .ref m8, .ref m9, .int pn, .ref m10, .ref m11, .ref m12, .ref m13])), (m10, .inl (cI, 3, .inl g_11)), (m11, .inl (cI, 3, .inl g_12)), (m12, .inl (cI, 3, .inl (upd ki i9.toNatClampNeg r_13)))] H := hP
          have hD : va_D A [(h0, .inr (9, [.ref m1, .ref m2, .ref m3, .int ik, .int wy, .int op, .int cl, .int cx0, .int cx1, .int cy0, .int cy1, .int ds, .ref m4, .ref m5, .ref m6, .ref m7, .ref m8, .ref m9, .int pn, .ref m10, .ref m11, .ref m12, .ref m13])), (m10, .inl (cI, 3, .inl g_11)), (m11, .inl (cI, 3, .inl g_12)), (m12, .inl (cI, 3, .inl (upd ki i9.toNatClampNeg r_13)))] := hD
          generalize eg_14 : upd ki i9.toNatClampNeg r_13 = g_14 at hP hD
          have hP : va_P D vwCl [(h0, .inr (9, [.ref m1, .ref m2, .ref m3, .int ik, .int wy, .int op, .int cl, .int cx0, .int cx1, .int cy0, .int cy1, .int ds, .ref m4, .ref m5, .ref m6, .ref m7, .ref m8, .ref m9, .int pn, .ref m10, .ref m11, .ref m12, .ref m13])), (m10, .inl (cI, 3, .inl g_11)), (m11, .inl (cI, 3, .inl g_12)), (m12, .inl (cI, 3, .inl g_14))] H := hP
          have hD : va_D A [(h0, .inr (9, [.ref m1, .ref m2, .ref m3, .int ik, .int wy, .int op, .int cl, .int cx0, .int cx1, .int cy0, .int cy1, .int ds, .ref m4, .ref m5, .ref m6, .ref m7, .ref m8, .ref m9, .int pn, .ref m10, .ref m11, .ref m12, .ref m13])), (m10, .inl (cI, 3, .inl g_11)), (m11, .inl (cI, 3, .inl g_12)), (m12, .inl (cI, 3, .inl g_14))] := hD
          refine lv_iconst (v := 1) hx hb dX9_corner_56 (by decide) ?_
          have hP : va_P D vwCl [(h0, .inr (9, [.ref m1, .ref m2, .ref m3, .int ik, .int wy, .int op, .int cl, .int cx0, .int cx1, .int cy0, .int cy1, .int ds, .ref m4, .ref m5, .ref m6, .ref m7, .ref m8, .ref m9, .int pn, .ref m10, .ref m11, .ref m12, .ref m13])), (m10, .inl (cI, 3, .inl (upd kx i9.toNatClampNeg x))), (m11, .inl (cI, 3, .inl (upd ky i9.toNatClampNeg y))), (m12, .inl (cI, 3, .inl (upd ki i9.toNatClampNeg (inkP v))))] H := by subst_vars; exact hP
          have hD : va_D A [(h0, .inr (9, [.ref m1, .ref m2, .ref m3, .int ik, .int wy, .int op, .int cl, .int cx0, .int cx1, .int cy0, .int cy1, .int ds, .ref m4, .ref m5, .ref m6, .ref m7, .ref m8, .ref m9, .int pn, .ref m10, .ref m11, .ref m12, .ref m13])), (m10, .inl (cI, 3, .inl (upd kx i9.toNatClampNeg x))), (m11, .inl (cI, 3, .inl (upd ky i9.toNatClampNeg y))), (m12, .inl (cI, 3, .inl (upd ki i9.toNatClampNeg (inkP v))))] := by subst_vars; exact hD
          have hP9 := hP.sub (ws' := [(h0, .inr (9, [.ref m1, .ref m2, .ref m3, .int ik, .int wy, .int op, .int cl, .int cx0, .int cx1, .int cy0, .int cy1, .int ds, .ref m4, .ref m5, .ref m6, .ref m7, .ref m8, .ref m9, .int pn, .ref m10, .ref m11, .ref m12, .ref m13])), (m10, .inl (cI, 3, .inl (upd kx i9.toNatClampNeg x))), (m11, .inl (cI, 3, .inl (upd ky i9.toNatClampNeg y))), (m12, .inl (cI, 3, .inl (upd ki i9.toNatClampNeg (inkP v))))]) [0, 1, 2, 3] rfl
          have hD9 := hD.sub (ws' := [(h0, .inr (9, [.ref m1, .ref m2, .ref m3, .int ik, .int wy, .int op, .int cl, .int cx0, .int cx1, .int cy0, .int cy1, .int ds, .ref m4, .ref m5, .ref m6, .ref m7, .ref m8, .ref m9, .int pn, .ref m10, .ref m11, .ref m12, .ref m13])), (m10, .inl (cI, 3, .inl (upd kx i9.toNatClampNeg x))), (m11, .inl (cI, 3, .inl (upd ky i9.toNatClampNeg y))), (m12, .inl (cI, 3, .inl (upd ki i9.toNatClampNeg (inkP v))))]) [0, 1, 2, 3] (by decide) rfl
          have hK9 := hK.sub (tys' := [(cI, .int)]) [0] rfl
          refine hQ _ _ _ _ _ ?_
          exact W.zret (v := 1) hx hb hr rfl (fun t ht hW => ⟨⟨1, (), rfl, rfl, ⟨by rw [ht]; exact hP9, va_K.moved hW.alike hK9, hD9⟩⟩, hS.F ht⟩) hS.2.2 dX9_corner_57
        · skip
          have f_10 := bz0 hr_8 c_9
          exact False.elim (by omega)

set_option maxHeartbeats 4000000 in
set_option maxRecDepth 100000 in
theorem k_X9_corner_r (l : Launch) (D : va_G) (sz : Nat) (h0 m1 m2 m3 m4 m5 m6 m7 m8 m9 m10 m11 m12 m13 : Nat) (ik wy op cl cx0 cx1 cy0 cy1 ds pn : Int32) (i9 x y v : Int32) (hcn : ¬ ((0 ≤ i9.toInt ∧ i9.toInt ≤ 2) ∧ (-200 ≤ x.toInt ∧ x.toInt ≤ 200) ∧ (-200 ≤ y.toInt ∧ y.toInt ≤ 200))) : Met l yX9_corner (wB yX9_corner cX9_corner 5 (some .boolean)) ({ frames := 1, cells := 0, slots := 0, locals := 21 }) (cP D [(h0, .inr (9, [.ref m1, .ref m2, .ref m3, .int ik, .int wy, .int op, .int cl, .int cx0, .int cx1, .int cy0, .int cy1, .int ds, .ref m4, .ref m5, .ref m6, .ref m7, .ref m8, .ref m9, .int pn, .ref m10, .ref m11, .ref m12, .ref m13]))] [] sz [.ref h0, .int i9, .int x, .int y, .int v]) (va_Qi (fun (r : Int32) (_ : Unit) => r = 0) (fun (_ : Unit) (t : State) => cB D (va_A [(h0, .inr (9, [.ref m1, .ref m2, .ref m3, .int ik, .int wy, .int op, .int cl, .int cx0, .int cx1, .int cy0, .int cy1, .int ds, .ref m4, .ref m5, .ref m6, .ref m7, .ref m8, .ref m9, .int pn, .ref m10, .ref m11, .ref m12, .ref m13]))] sz) [(h0, .inr (9, [.ref m1, .ref m2, .ref m3, .int ik, .int wy, .int op, .int cl, .int cx0, .int cx1, .int cy0, .int cy1, .int ds, .ref m4, .ref m5, .ref m6, .ref m7, .ref m8, .ref m9, .int pn, .ref m10, .ref m11, .ref m12, .ref m13]))] [] t) (va_A [(h0, .inr (9, [.ref m1, .ref m2, .ref m3, .int ik, .int wy, .int op, .int cl, .int cx0, .int cx1, .int cy0, .int cy1, .int ds, .ref m4, .ref m5, .ref m6, .ref m7, .ref m8, .ref m9, .int pn, .ref m10, .ref m11, .ref m12, .ref m13]))] sz)) 0 0 (va_A [(h0, .inr (9, [.ref m1, .ref m2, .ref m3, .int ik, .int wy, .int op, .int cl, .int cx0, .int cx1, .int cy0, .int cy1, .int ds, .ref m4, .ref m5, .ref m6, .ref m7, .ref m8, .ref m9, .int pn, .ref m10, .ref m11, .ref m12, .ref m13]))] sz) := by
  refine Met.ofW (cc := cX9_corner) (maxL := 5) (ret := (some .boolean)) (by decide) rfl ?_
  intro p e s m args below meth c s₁ B hml hv
  obtain ⟨rfl, hsz, hP, hK, hD0, hN⟩ := hv
  have hx := B.exec
  have hb := B.bytes
  have hr := B.returns
  have hts0 := atoms_spec (ws := (wB yX9_corner cX9_corner 5 (some .boolean))) B.pre
  have hts : ∀ w ∈ bigW, w.before _ s = true := fun w h => hts0 w (List.mem_cons_of_mem _ h)
  have hown : s.vm.findClass RX9 = some m.cls := findClass_of_methodNamed B.named
  have hlocks := B.notSynchronized
  subst hsz
  have hD := hD0.self (sz := s.heap.size)
  generalize hAe : va_A [(h0, .inr (9, [.ref m1, .ref m2, .ref m3, .int ik, .int wy, .int op, .int cl, .int cx0, .int cx1, .int cy0, .int cy1, .int ds, .ref m4, .ref m5, .ref m6, .ref m7, .ref m8, .ref m9, .int pn, .ref m10, .ref m11, .ref m12, .ref m13]))] s.heap.size = A at hD ⊢
  have hA : ∀ q : Nat, s.heap.size ≤ q → A q := fun q h => by rw [← hAe]; exact Or.inr h
  have hS : va_S A s.heap s.heap [] := va_S.rf
  have hP : va_P D vwCl [(h0, .inr (9, [.ref m1, .ref m2, .ref m3, .int ik, .int wy, .int op, .int cl, .int cx0, .int cx1, .int cy0, .int cy1, .int ds, .ref m4, .ref m5, .ref m6, .ref m7, .ref m8, .ref m9, .int pn, .ref m10, .ref m11, .ref m12, .ref m13]))] s.heap := hP
  have hl := lv_entry ([.ref h0, .int i9, .int x, .int y, .int v]) (n := 5) (Nat.le_of_ble_eq_true rfl)
  rw [lg_entry_eq]
  generalize (lg_sl ([.ref h0, .int i9, .int x, .int y, .int v]) ++ List.replicate (5 - (lg_sl ([.ref h0, .int i9, .int x, .int y, .int v])).length) Slot.unset).toArray = ls at hl ⊢
  have hl : lv_has ls 5 [(0, .ref h0), (1, .int i9), (2, .int x), (3, .int y), (4, .int v)] := hl
  clear hts0 hD0 hAe
  refine my_abs (fun R Q hR hQ => ?_)
  refine lv_iload_n hx hb dX9_corner_0 rfl (lv_at hl 1 rfl) ?_
  refine lv_if_lt (tgt := 29) hx hb dX9_corner_1 (by decide) (fun c_1 => ?_) (fun c_1 => ?_)
  · skip
    have f_2 : i9.toInt < 0 := f_lt rfl (by decide) c_1
    refine lv_iconst (v := 0) hx hb dX9_corner_29 (by decide) ?_
    have hP9 := hP.sub (ws' := [(h0, .inr (9, [.ref m1, .ref m2, .ref m3, .int ik, .int wy, .int op, .int cl, .int cx0, .int cx1, .int cy0, .int cy1, .int ds, .ref m4, .ref m5, .ref m6, .ref m7, .ref m8, .ref m9, .int pn, .ref m10, .ref m11, .ref m12, .ref m13]))]) [0] rfl
    have hD9 := hD.sub (ws' := [(h0, .inr (9, [.ref m1, .ref m2, .ref m3, .int ik, .int wy, .int op, .int cl, .int cx0, .int cx1, .int cy0, .int cy1, .int ds, .ref m4, .ref m5, .ref m6, .ref m7, .ref m8, .ref m9, .int pn, .ref m10, .ref m11, .ref m12, .ref m13]))]) [0] (by decide) rfl
    have hK9 := hK.sub (tys' := []) [] rfl
    refine hQ _ _ _ _ _ ?_
    exact W.zret (v := 0) hx hb hr rfl (fun t ht hW => ⟨⟨0, (), rfl, rfl, ⟨by rw [ht]; exact hP9, va_K.moved hW.alike hK9, hD9⟩⟩, hS.F ht⟩) hS.2.2 dX9_corner_30
  · skip
    have f_2 : ¬ (i9.toInt < 0) := fn_lt rfl (by decide) c_1
    refine lv_iload_n hx hb dX9_corner_4 rfl (lv_at hl 1 rfl) ?_
    refine lv_iconst (v := 2) hx hb dX9_corner_5 (by decide) ?_
    refine lv_icmp_gt (tgt := 29) hx hb dX9_corner_6 (by decide) (fun c_3 => ?_) (fun c_3 => ?_)
    · skip
      have f_4 : 2 < i9.toInt := f_lt (by decide) rfl c_3
      refine lv_iconst (v := 0) hx hb dX9_corner_29 (by decide) ?_
      have hP9 := hP.sub (ws' := [(h0, .inr (9, [.ref m1, .ref m2, .ref m3, .int ik, .int wy, .int op, .int cl, .int cx0, .int cx1, .int cy0, .int cy1, .int ds, .ref m4, .ref m5, .ref m6, .ref m7, .ref m8, .ref m9, .int pn, .ref m10, .ref m11, .ref m12, .ref m13]))]) [0] rfl
      have hD9 := hD.sub (ws' := [(h0, .inr (9, [.ref m1, .ref m2, .ref m3, .int ik, .int wy, .int op, .int cl, .int cx0, .int cx1, .int cy0, .int cy1, .int ds, .ref m4, .ref m5, .ref m6, .ref m7, .ref m8, .ref m9, .int pn, .ref m10, .ref m11, .ref m12, .ref m13]))]) [0] (by decide) rfl
      have hK9 := hK.sub (tys' := []) [] rfl
      refine hQ _ _ _ _ _ ?_
      exact W.zret (v := 0) hx hb hr rfl (fun t ht hW => ⟨⟨0, (), rfl, rfl, ⟨by rw [ht]; exact hP9, va_K.moved hW.alike hK9, hD9⟩⟩, hS.F ht⟩) hS.2.2 dX9_corner_30
    · skip
      have f_4 : ¬ (2 < i9.toInt) := fn_lt (by decide) rfl c_3
      refine lv_iload_n hx hb dX9_corner_9 rfl (lv_at hl 2 rfl) ?_
      refine lv_sipush (v := 200) hx hb dX9_corner_10 (by decide) ?_
      have hPc := hP.sub (ws' := []) [] rfl
      have hDc := hD.sub (ws' := []) [] (by decide) rfl
      have hKc := hK.sub (tys' := []) [] rfl
      have hFc := va_free (wc := []) hD hS hA [] rfl
      refine va_calli (va_runS (As := [.int x, .int 200]) (rest := []) ⟨hx, hb, hml, hown, hts⟩ (k_X9_isNear l D s.heap.size x 200 (-200) 200 (by decide) (by decide)) (va_cwS 2 hts (gS bw_491 bw_482 bw_391 bw_481) rfl rfl rfl (by decide +kernel) ⟨(by rw [hR]; exact Nat.le_of_ble_eq_true rfl), (by rw [hR]; exact Nat.le_of_ble_eq_true rfl)⟩) ⟨cP_blind, cP_at hPc hKc hDc hN⟩ rfl rfl hl.1 rfl (lv_room (Nat.le_of_ble_eq_true rfl)) dX9_corner_13 ⟨(by rw [hR]; exact Nat.le_of_ble_eq_true rfl), (by rw [hR]; exact Nat.le_of_ble_eq_true rfl)⟩) hS (fun q _ h => hFc q h) hFc (fun r_5 u9 t9 H1 locs ht hvm hr_5 hB hz1 hk1 hS => ?_)
      try dsimp only at hr_5
      have hP1 : va_P D vwCl [] H1 := vP_nil
      have hD1 : va_D (va_A [] s.heap.size) [] := vD_nil
      obtain ⟨hP, hD⟩ := va_join (wr := [(h0, .inr (9, [.ref m1, .ref m2, .ref m3, .int ik, .int wy, .int op, .int cl, .int cx0, .int cx1, .int cy0, .int cy1, .int ds, .ref m4, .ref m5, .ref m6, .ref m7, .ref m8, .ref m9, .int pn, .ref m10, .ref m11, .ref m12, .ref m13]))]) (w1 := []) hP hD [] [0] rfl rfl (by decide) (by decide) hk1 hFc hP1 hD1
      clear hz1 hk1 hFc hKc hDc hPc
      generalize H1 = H at hP hS ⊢
      have hP : va_P D vwCl [(h0, .inr (9, [.ref m1, .ref m2, .ref m3, .int ik, .int wy, .int op, .int cl, .int cx0, .int cx1, .int cy0, .int cy1, .int ds, .ref m4, .ref m5, .ref m6, .ref m7, .ref m8, .ref m9, .int pn, .ref m10, .ref m11, .ref m12, .ref m13]))] H := hP
      have hD : va_D A [(h0, .inr (9, [.ref m1, .ref m2, .ref m3, .int ik, .int wy, .int op, .int cl, .int cx0, .int cx1, .int cy0, .int cy1, .int ds, .ref m4, .ref m5, .ref m6, .ref m7, .ref m8, .ref m9, .int pn, .ref m10, .ref m11, .ref m12, .ref m13]))] := hD
      refine lv_if_eq (tgt := 29) hx hb dX9_corner_16 (by decide) (fun c_6 => ?_) (fun c_6 => ?_)
      · skip
        have f_7 := bz0 hr_5 c_6
        refine lv_iconst (v := 0) hx hb dX9_corner_29 (by decide) ?_
        have hP9 := hP.sub (ws' := [(h0, .inr (9, [.ref m1, .ref m2, .ref m3, .int ik, .int wy, .int op, .int cl, .int cx0, .int cx1, .int cy0, .int cy1, .int ds, .ref m4, .ref m5, .ref m6, .ref m7, .ref m8, .ref m9, .int pn, .ref m10, .ref m11, .ref m12, .ref m13]))]) [0] rfl
        have hD9 := hD.sub (ws' := [(h0, .inr (9, [.ref m1, .ref m2, .ref m3, .int ik, .int wy, .int op, .int cl, .int cx0, .int cx1, .int cy0, .int cy1, .int ds, .ref m4, .ref m5, .ref m6, .ref m7, .ref m8, .ref m9, .int pn, .ref m10, .ref m11, .ref m12, .ref m13]))]) [0] (by decide) rfl
        have hK9 := hK.sub (tys' := []) [] rfl
        refine hQ _ _ _ _ _ ?_
        exact W.zret (v := 0) hx hb hr rfl (fun t ht hW => ⟨⟨0, (), rfl, rfl, ⟨by rw [ht]; exact hP9, va_K.moved hW.alike hK9, hD9⟩⟩, hS.F ht⟩) hS.2.2 dX9_corner_30
      · skip
        have f_7 := bz1 hr_5 c_6
        refine lv_iload_n hx hb dX9_corner_19 rfl (lv_at hl 3 rfl) ?_
        refine lv_sipush (v := 200) hx hb dX9_corner_20 (by decide) ?_
        have hPc := hP.sub (ws' := []) [] rfl
        have hDc := hD.sub (ws' := []) [] (by decide) rfl
        have hKc := hK.sub (tys' := []) [] rfl
        have hFc := va_free (wc := []) hD hS hA [] rfl
        refine va_calli (va_runS (As := [.int y, .int 200]) (rest := []) ⟨hx, hb, hml, hown, hts⟩ (k_X9_isNear l D H.size y 200 (-200) 200 (by decide) (by decide)) (va_cwS 2 hts (gS bw_491 bw_482 bw_391 bw_481) rfl rfl rfl (by decide +kernel) ⟨(by rw [hR]; exact Nat.le_of_ble_eq_true rfl), (by rw [hR]; exact Nat.le_of_ble_eq_true rfl)⟩) ⟨cP_blind, cP_at hPc hKc hDc hN⟩ rfl rfl hl.1 rfl (lv_room (Nat.le_of_ble_eq_true rfl)) dX9_corner_23 ⟨(by rw [hR]; exact Nat.le_of_ble_eq_true rfl), (by rw [hR]; exact Nat.le_of_ble_eq_true rfl)⟩) hS (fun q _ h => hFc q h) hFc (fun r_8 u9 t9 H1 locs ht hvm hr_8 hB hz1 hk1 hS => ?_)
        try dsimp only at hr_8
        have hP1 : va_P D vwCl [] H1 := vP_nil
        have hD1 : va_D (va_A [] H.size) [] := vD_nil
        obtain ⟨hP, hD⟩ := va_join (wr := [(h0, .inr (9, [.ref m1, .ref m2, .ref m3, .int ik, .int wy, .int op, .int cl, .int cx0, .int cx1, .int cy0, .int cy1, .int ds, .ref m4, .ref m5, .ref m6, .ref m7, .ref m8, .ref m9, .int pn, .ref m10, .ref m11, .ref m12, .ref m13]))]) (w1 := []) hP hD [] [0] rfl rfl (by decide) (by decide) hk1 hFc hP1 hD1
        clear hz1 hk1 hFc hKc hDc hPc
        generalize H1 = H at hP hS ⊢
        have hP : va_P D vwCl [(h0, .inr (9, [.ref m1, .ref m2, .ref m3, .int ik, .int wy, .int op, .int cl, .int cx0, .int cx1, .int cy0, .int cy1, .int ds, .ref m4, .ref m5, .ref m6, .ref m7, .ref m8, .ref m9, .int pn, .ref m10, .ref m11, .ref m12, .ref m13]))] H := hP
        have hD : va_D A [(h0, .inr (9, [.ref m1, .ref m2, .ref m3, .int ik, .int wy, .int op, .int cl, .int cx0, .int cx1, .int cy0, .int cy1, .int ds, .ref m4, .ref m5, .ref m6, .ref m7, .ref m8, .ref m9, .int pn, .ref m10, .ref m11, .ref m12, .ref m13]))] := hD
        refine lv_if_ne (tgt := 31) hx hb dX9_corner_26 (by decide) (fun c_9 => ?_) (fun c_9 => ?_)
        · skip
          have f_10 := bz1 hr_8 c_9
          exact False.elim (by omega)
        · skip
          have f_10 := bz0 hr_8 c_9
          refine lv_iconst (v := 0) hx hb dX9_corner_29 (by decide) ?_
          have hP9 := hP.sub (ws' := [(h0, .inr (9, [.ref m1, .ref m2, .ref m3, .int ik, .int wy, .int op, .int cl, .int cx0, .int cx1, .int cy0, .int cy1, .int ds, .ref m4, .ref m5, .ref m6, .ref m7, .ref m8, .ref m9, .int pn, .ref m10, .ref m11, .ref m12, .ref m13]))]) [0] rfl
          have hD9 := hD.sub (ws' := [(h0, .inr (9, [.ref m1, .ref m2, .ref m3, .int ik, .int wy, .int op, .int cl, .int cx0, .int cx1, .int cy0, .int cy1, .int ds, .ref m4, .ref m5, .ref m6, .ref m7, .ref m8, .ref m9, .int pn, .ref m10, .ref m11, .ref m12, .ref m13]))]) [0] (by decide) rfl
          have hK9 := hK.sub (tys' := []) [] rfl
          refine hQ _ _ _ _ _ ?_
          exact W.zret (v := 0) hx hb hr rfl (fun t ht hW => ⟨⟨0, (), rfl, rfl, ⟨by rw [ht]; exact hP9, va_K.moved hW.alike hK9, hD9⟩⟩, hS.F ht⟩) hS.2.2 dX9_corner_30

set_option maxHeartbeats 4000000 in
set_option maxRecDepth 100000 in
theorem k_X9_area (l : Launch) (D : va_G) (sz : Nat) (xa ya xb yb xc yc : Int32) : Met l yX9_area (wB yX9_area cX9_area 7 (some .int)) ({ frames := 0, cells := 0, slots := 0, locals := 0 }) (cP D [] [] sz [.int xa, .int ya, .int xb, .int yb, .int xc, .int yc]) (va_Qi (fun (r : Int32) (_ : Unit) => True) (fun (_ : Unit) (_ : State) => True) (va_A [] sz)) 0 0 (va_A [] sz) := by
  refine Met.ofW (cc := cX9_area) (maxL := 7) (ret := (some .int)) (by decide) rfl ?_
  intro p e s m args below meth c s₁ B hml hv
  obtain ⟨rfl, hsz, hP, hK, hD0, hN⟩ := hv
  have hx := B.exec
  have hb := B.bytes
  have hr := B.returns
  have hts0 := atoms_spec (ws := (wB yX9_area cX9_area 7 (some .int))) B.pre
  have hts : ∀ w ∈ bigW, w.before _ s = true := fun w h => hts0 w (List.mem_cons_of_mem _ h)
  have hown : s.vm.findClass RX9 = some m.cls := findClass_of_methodNamed B.named
  have hlocks := B.notSynchronized
  subst hsz
  have hD := hD0.self (sz := s.heap.size)
  generalize hAe : va_A [] s.heap.size = A at hD ⊢
  have hA : ∀ q : Nat, s.heap.size ≤ q → A q := fun q h => by rw [← hAe]; exact Or.inr h
  have hS : va_S A s.heap s.heap [] := va_S.rf
  have hP : va_P D vwCl [] s.heap := hP
  have hl := lv_entry ([.int xa, .int ya, .int xb, .int yb, .int xc, .int yc]) (n := 7) (Nat.le_of_ble_eq_true rfl)
  rw [lg_entry_eq]
  generalize (lg_sl ([.int xa, .int ya, .int xb, .int yb, .int xc, .int yc]) ++ List.replicate (7 - (lg_sl ([.int xa, .int ya, .int xb, .int yb, .int xc, .int yc])).length) Slot.unset).toArray = ls at hl ⊢
  have hl : lv_has ls 7 [(0, .int xa), (1, .int ya), (2, .int xb), (3, .int yb), (4, .int xc), (5, .int yc)] := hl
  clear hts0 hD0 hAe
  refine my_abs (fun R Q hR hQ => ?_)
  refine lv_iload_n hx hb dX9_area_0 rfl (lv_at hl 2 rfl) ?_
  refine lv_iload_n hx hb dX9_area_1 rfl (lv_at hl 0 rfl) ?_
  refine lv_isub hx hb dX9_area_2 ?_
  refine lv_topi (fun y_1 ey_1 => ?_)
  refine lv_iload hx hb dX9_area_3 (lv_at hl 5 rfl) ?_
  refine lv_iload_n hx hb dX9_area_5 rfl (lv_at hl 1 rfl) ?_
  refine lv_isub hx hb dX9_area_6 ?_
  refine lv_topi (fun y_2 ey_2 => ?_)
  refine lv_imul hx hb dX9_area_7 ?_
  refine lv_topi (fun y_3 ey_3 => ?_)
  refine lv_iload hx hb dX9_area_8 (lv_at hl 4 rfl) ?_
  refine lv_iload_n hx hb dX9_area_10 rfl (lv_at hl 0 rfl) ?_
  refine lv_isub hx hb dX9_area_11 ?_
  refine lv_topi (fun y_4 ey_4 => ?_)
  refine lv_iload_n hx hb dX9_area_12 rfl (lv_at hl 3 rfl) ?_
  refine lv_iload_n hx hb dX9_area_13 rfl (lv_at hl 1 rfl) ?_
  refine lv_isub hx hb dX9_area_14 ?_
  refine lv_topi (fun y_5 ey_5 => ?_)
  refine lv_imul hx hb dX9_area_15 ?_
  refine lv_topi (fun y_6 ey_6 => ?_)
  refine lv_isub hx hb dX9_area_16 ?_
  refine lv_topi (fun y_7 ey_7 => ?_)
  refine lv_istore (lv' := [(6, .int y_7), (0, .int xa), (1, .int ya), (2, .int xb), (3, .int yb), (4, .int xc), (5, .int yc)]) hx hb dX9_area_17 hl (by decide) rfl (fun ls hl => ?_)
  refine lv_iload hx hb dX9_area_19 (lv_at hl 0 rfl) ?_
  refine lv_if_ge (tgt := 30) hx hb dX9_area_21 (by decide) (fun c_8 => ?_) (fun c_8 => ?_)
  · skip
    have f_9 : 0 ≤ y_7.toInt := f_le (by decide) rfl c_8
    refine lv_iload hx hb dX9_area_30 (lv_at hl 0 rfl) ?_
    refine hQ _ _ _ _ _ ?_
    exact W.iret (v := y_7) hx hb hr (fun t ht hW => ⟨⟨y_7, (), rfl, trivial, trivial⟩, hS.F ht⟩) hS.2.2 dX9_area_32
  · skip
    have f_9 : ¬ (0 ≤ y_7.toInt) := fn_le (by decide) rfl c_8
    refine lv_iload hx hb dX9_area_24 (lv_at hl 0 rfl) ?_
    refine lv_ineg hx hb dX9_area_26 ?_
    refine lv_topi (fun y_10 ey_10 => ?_)
    refine lv_goto (tgt := 32) hx hb dX9_area_27 (by decide) ?_
    refine hQ _ _ _ _ _ ?_
    exact W.iret (v := y_10) hx hb hr (fun t ht hW => ⟨⟨y_10, (), rfl, trivial, trivial⟩, hS.F ht⟩) hS.2.2 dX9_area_32

set_option maxHeartbeats 4000000 in
set_option maxRecDepth 100000 in
theorem k_X9_isInTriangle (l : Launch) (D : va_G) (sz : Nat) (h0 m1 m2 m3 m4 m5 m6 m7 m8 m9 m10 m11 m12 m13 : Nat) (ik wy op cl cx0 cx1 cy0 cy1 ds pn : Int32) (kx : Nat → Int32) (ky : Nat → Int32) (u v : Int32) (cI : ClassId) : Met l yX9_isInTriangle (wB yX9_isInTriangle cX9_isInTriangle 6 (some .boolean)) ({ frames := 1, cells := 0, slots := 0, locals := 31 }) (cP D [(h0, .inr (9, [.ref m1, .ref m2, .ref m3, .int ik, .int wy, .int op, .int cl, .int cx0, .int cx1, .int cy0, .int cy1, .int ds, .ref m4, .ref m5, .ref m6, .ref m7, .ref m8, .ref m9, .int pn, .ref m10, .ref m11, .ref m12, .ref m13])), (m10, .inl (cI, 3, .inl kx)), (m11, .inl (cI, 3, .inl ky))] [(cI, .int)] sz [.ref h0, .int u, .int v]) (va_Qi (fun (r : Int32) (_ : Unit) => r = 0 ∨ r = 1) (fun (_ : Unit) (t : State) => cB D (va_A [(h0, .inr (9, [.ref m1, .ref m2, .ref m3, .int ik, .int wy, .int op, .int cl, .int cx0, .int cx1, .int cy0, .int cy1, .int ds, .ref m4, .ref m5, .ref m6, .ref m7, .ref m8, .ref m9, .int pn, .ref m10, .ref m11, .ref m12, .ref m13])), (m10, .inl (cI, 3, .inl kx)), (m11, .inl (cI, 3, .inl ky))] sz) [(h0, .inr (9, [.ref m1, .ref m2, .ref m3, .int ik, .int wy, .int op, .int cl, .int cx0, .int cx1, .int cy0, .int cy1, .int ds, .ref m4, .ref m5, .ref m6, .ref m7, .ref m8, .ref m9, .int pn, .ref m10, .ref m11, .ref m12, .ref m13])), (m10, .inl (cI, 3, .inl kx)), (m11, .inl (cI, 3, .inl ky))] [(cI, .int)] t) (va_A [(h0, .inr (9, [.ref m1, .ref m2, .ref m3, .int ik, .int wy, .int op, .int cl, .int cx0, .int cx1, .int cy0, .int cy1, .int ds, .ref m4, .ref m5, .ref m6, .ref m7, .ref m8, .ref m9, .int pn, .ref m10, .ref m11, .ref m12, .ref m13])), (m10, .inl (cI, 3, .inl kx)), (m11, .inl (cI, 3, .inl ky))] sz)) 0 0 (va_A [(h0, .inr (9, [.ref m1, .ref m2, .ref m3, .int ik, .int wy, .int op, .int cl, .int cx0, .int cx1, .int cy0, .int cy1, .int ds, .ref m4, .ref m5, .ref m6, .ref m7, .ref m8, .ref m9, .int pn, .ref m10, .ref m11, .ref m12, .ref m13])), (m10, .inl (cI, 3, .inl kx)), (m11, .inl (cI, 3, .inl ky))] sz) := by
  refine Met.ofW (cc := cX9_isInTriangle) (maxL := 6) (ret := (some .boolean)) (by decide) rfl ?_
  intro p e s m args below meth c s₁ B hml hv
  obtain ⟨rfl, hsz, hP, hK, hD0, hN⟩ := hv
  have hx := B.exec
  have hb := B.bytes
  have hr := B.returns
  have hts0 := atoms_spec (ws := (wB yX9_isInTriangle cX9_isInTriangle 6 (some .boolean))) B.pre
  have hts : ∀ w ∈ bigW, w.before _ s = true := fun w h => hts0 w (List.mem_cons_of_mem _ h)
  have hown : s.vm.findClass RX9 = some m.cls := findClass_of_methodNamed B.named
  have hlocks := B.notSynchronized
  subst hsz
  have hD := hD0.self (sz := s.heap.size)
  generalize hAe : va_A [(h0, .inr (9, [.ref m1, .ref m2, .ref m3, .int ik, .int wy, .int op, .int cl, .int cx0, .int cx1, .int cy0, .int cy1, .int ds, .ref m4, .ref m5, .ref m6, .ref m7, .ref m8, .ref m9, .int pn, .ref m10, .ref m11, .ref m12, .ref m13])), (m10, .inl (cI, 3, .inl kx)), (m11, .inl (cI, 3, .inl ky))] s.heap.size = A at hD ⊢
  have hA : ∀ q : Nat, s.heap.size ≤ q → A q := fun q h => by rw [← hAe]; exact Or.inr h
  have hS : va_S A s.heap s.heap [] := va_S.rf
  have hP : va_P D vwCl [(h0, .inr (9, [.ref m1, .ref m2, .ref m3, .int ik, .int wy, .int op, .int cl, .int cx0, .int cx1, .int cy0, .int cy1, .int ds, .ref m4, .ref m5, .ref m6, .ref m7, .ref m8, .ref m9, .int pn, .ref m10, .ref m11, .ref m12, .ref m13])), (m10, .inl (cI, 3, .inl kx)), (m11, .inl (cI, 3, .inl ky))] s.heap := hP
  have hl := lv_entry ([.ref h0, .int u, .int v]) (n := 6) (Nat.le_of_ble_eq_true rfl)
  rw [lg_entry_eq]
  generalize (lg_sl ([.ref h0, .int u, .int v]) ++ List.replicate (6 - (lg_sl ([.ref h0, .int u, .int v])).length) Slot.unset).toArray = ls at hl ⊢
  have hl : lv_has ls 6 [(0, .ref h0), (1, .int u), (2, .int v)] := hl
  clear hts0 hD0 hAe
  refine my_abs (fun R Q hR hQ => ?_)
  refine lv_iconst (v := 0) hx hb dX9_isInTriangle_0 (by decide) ?_
  refine lv_istore_n (lv' := [(3, .int 0), (0, .ref h0), (1, .int u), (2, .int v)]) hx hb dX9_isInTriangle_1 rfl hl (by decide) rfl (fun ls hl => ?_)
  refine lv_iconst (v := 0) hx hb dX9_isInTriangle_2 (by decide) ?_
  refine lv_istore (lv' := [(4, .int 0), (3, .int 0), (0, .ref h0), (1, .int u), (2, .int v)]) hx hb dX9_isInTriangle_3 hl (by decide) rfl (fun ls hl => ?_)
  refine lv_iload hx hb dX9_isInTriangle_5 (lv_at hl 0 rfl) ?_
  refine lv_iconst (v := 3) hx hb dX9_isInTriangle_7 (by decide) ?_
  refine lv_icmp_ge (tgt := 75) hx hb dX9_isInTriangle_8 (by decide) (fun c_1 => ?_) (fun c_1 => ?_)
  · skip
    exact absurd c_1 (by decide)
  · skip
    refine lv_iload hx hb dX9_isInTriangle_11 (lv_at hl 0 rfl) ?_
    refine lv_iconst (v := 1) hx hb dX9_isInTriangle_13 (by decide) ?_
    refine lv_iadd hx hb dX9_isInTriangle_14 ?_
    refine my_fold (v := 1) (by decide) ?_
    refine lv_iconst (v := 3) hx hb dX9_isInTriangle_15 (by decide) ?_
    refine lv_irem hx hb dX9_isInTriangle_16 (by decide) ?_
    refine my_fold (v := 1) (by decide) ?_
    refine lv_istore (lv' := [(5, .int 1), (4, .int 0), (3, .int 0), (0, .ref h0), (1, .int u), (2, .int v)]) hx hb dX9_isInTriangle_17 hl (by decide) rfl (fun ls hl => ?_)
    refine lv_iload_n hx hb dX9_isInTriangle_19 rfl (lv_at hl 2 rfl) ?_
    refine lv_iconst (v := 2) hx hb dX9_isInTriangle_20 (by decide) ?_
    refine lv_aload_n hx hb dX9_isInTriangle_21 rfl (lv_at hl 3 rfl) ?_
    refine va_get (D := D) (ci := 9) (v := .ref m10) (C := RX9) (T := TX9) (N := 23) hx hb hts hi_X9 hown hK hP 0 rfl rfl 19 (by decide) (hts _ bw_410) (fun _ h9 => h9) rfl dX9_isInTriangle_22 ?_
    refine lv_iload hx hb dX9_isInTriangle_25 (lv_at hl 1 rfl) ?_
    refine va_iald hx hb hK hP 1 0 rfl rfl (my_in (by decide) (by decide)) dX9_isInTriangle_27 ?_
    refine lv_topi (fun y_3 ey_3 => ?_)
    refine lv_imul hx hb dX9_isInTriangle_28 ?_
    refine lv_topi (fun y_4 ey_4 => ?_)
    obtain ⟨y_5, ey_5⟩ : ∃ y : Int64, y = y_4.toInt64 := ⟨_, rfl⟩
    refine lv_i2l (v := y_5) hx hb dX9_isInTriangle_29 ey_5.symm ?_
    have hty_5 : y_5.toInt = y_4.toInt := by rw [ey_5]; exact Int32.toInt_toInt64 _
    refine lv_iconst (v := 2) hx hb dX9_isInTriangle_30 (by decide) ?_
    refine lv_aload_n hx hb dX9_isInTriangle_31 rfl (lv_at hl 3 rfl) ?_
    refine va_get (D := D) (ci := 9) (v := .ref m11) (C := RX9) (T := TX9) (N := 23) hx hb hts hi_X9 hown hK hP 0 rfl rfl 20 (by decide) (hts _ bw_411) (fun _ h9 => h9) rfl dX9_isInTriangle_32 ?_
    refine lv_iload hx hb dX9_isInTriangle_35 (lv_at hl 1 rfl) ?_
    refine va_iald hx hb hK hP 2 0 rfl rfl (my_in (by decide) (by decide)) dX9_isInTriangle_37 ?_
    refine lv_topi (fun y_6 ey_6 => ?_)
    refine lv_imul hx hb dX9_isInTriangle_38 ?_
    refine lv_topi (fun y_7 ey_7 => ?_)
    obtain ⟨y_8, ey_8⟩ : ∃ y : Int64, y = y_7.toInt64 := ⟨_, rfl⟩
    refine lv_i2l (v := y_8) hx hb dX9_isInTriangle_39 ey_8.symm ?_
    have hty_8 : y_8.toInt = y_7.toInt := by rw [ey_8]; exact Int32.toInt_toInt64 _
    refine lv_iconst (v := 2) hx hb dX9_isInTriangle_40 (by decide) ?_
    refine lv_aload_n hx hb dX9_isInTriangle_41 rfl (lv_at hl 3 rfl) ?_
    refine va_get (D := D) (ci := 9) (v := .ref m10) (C := RX9) (T := TX9) (N := 23) hx hb hts hi_X9 hown hK hP 0 rfl rfl 19 (by decide) (hts _ bw_410) (fun _ h9 => h9) rfl dX9_isInTriangle_42 ?_
    refine lv_iload hx hb dX9_isInTriangle_45 (lv_at hl 0 rfl) ?_
    refine va_iald hx hb hK hP 1 0 rfl rfl (my_in (by decide) (by decide)) dX9_isInTriangle_47 ?_
    refine lv_topi (fun y_9 ey_9 => ?_)
    refine lv_imul hx hb dX9_isInTriangle_48 ?_
    refine lv_topi (fun y_10 ey_10 => ?_)
    obtain ⟨y_11, ey_11⟩ : ∃ y : Int64, y = y_10.toInt64 := ⟨_, rfl⟩
    refine lv_i2l (v := y_11) hx hb dX9_isInTriangle_49 ey_11.symm ?_
    have hty_11 : y_11.toInt = y_10.toInt := by rw [ey_11]; exact Int32.toInt_toInt64 _
    refine lv_iconst (v := 2) hx hb dX9_isInTriangle_50 (by decide) ?_
    refine lv_aload_n hx hb dX9_isInTriangle_51 rfl (lv_at hl 3 rfl) ?_
    refine va_get (D := D) (ci := 9) (v := .ref m11) (C := RX9) (T := TX9) (N := 23) hx hb hts hi_X9 hown hK hP 0 rfl rfl 20 (by decide) (hts _ bw_411) (fun _ h9 => h9) rfl dX9_isInTriangle_52 ?_
    refine lv_iload hx hb dX9_isInTriangle_55 (lv_at hl 0 rfl) ?_
    refine va_iald hx hb hK hP 2 0 rfl rfl (my_in (by decide) (by decide)) dX9_isInTriangle_57 ?_
    refine lv_topi (fun y_12 ey_12 => ?_)
    refine lv_imul hx hb dX9_isInTriangle_58 ?_
    refine lv_topi (fun y_13 ey_13 => ?_)
    obtain ⟨y_14, ey_14⟩ : ∃ y : Int64, y = y_13.toInt64 := ⟨_, rfl⟩
    refine lv_i2l (v := y_14) hx hb dX9_isInTriangle_59 ey_14.symm ?_
    have hty_14 : y_14.toInt = y_13.toInt := by rw [ey_14]; exact Int32.toInt_toInt64 _
    refine lv_iload_n hx hb dX9_isInTriangle_60 rfl (lv_at hl 4 rfl) ?_
    obtain ⟨y_15, ey_15⟩ : ∃ y : Int64, y = u.toInt64 := ⟨_, rfl⟩
    refine lv_i2l (v := y_15) hx hb dX9_isInTriangle_61 ey_15.symm ?_
    have hty_15 : y_15.toInt = u.toInt := by rw [ey_15]; exact Int32.toInt_toInt64 _
    refine lv_iload_n hx hb dX9_isInTriangle_62 rfl (lv_at hl 5 rfl) ?_
    obtain ⟨y_16, ey_16⟩ : ∃ y : Int64, y = v.toInt64 := ⟨_, rfl⟩
    refine lv_i2l (v := y_16) hx hb dX9_isInTriangle_63 ey_16.symm ?_
    have hty_16 : y_16.toInt = v.toInt := by rw [ey_16]; exact Int32.toInt_toInt64 _
    have hPc := hP.sub (ws' := []) [] rfl
    have hDc := hD.sub (ws' := []) [] (by decide) rfl
    have hKc := hK.sub (tys' := []) [] rfl
    have hFc := va_free (wc := []) hD hS hA [] rfl
    refine va_calli (va_runS (As := [.long y_5, .long y_8, .long y_11, .long y_14, .long y_15, .long y_16]) (rest := [.int 0]) ⟨hx, hb, hml, hown, hts⟩ (k_X9_edge_l l D s.heap.size y_5 y_8 y_11 y_14 y_15 y_16) (va_cwS 6 hts (gS bw_515 bw_511 bw_391 bw_510) rfl rfl rfl (by decide +kernel) ⟨(by rw [hR]; exact Nat.le_of_ble_eq_true rfl), (by rw [hR]; exact Nat.le_of_ble_eq_true rfl)⟩) ⟨cP_blind, cP_at hPc hKc hDc hN⟩ rfl rfl hl.1 rfl (lv_room (Nat.le_of_ble_eq_true rfl)) dX9_isInTriangle_64 ⟨(by rw [hR]; exact Nat.le_of_ble_eq_true rfl), (by rw [hR]; exact Nat.le_of_ble_eq_true rfl)⟩) hS (fun q _ h => hFc q h) hFc (fun r_17 u9 t9 H1 locs ht hvm hr_17 hB hz1 hk1 hS => ?_)
    try dsimp only at hr_17
    have hP1 : va_P D vwCl [] H1 := vP_nil
    have hD1 : va_D (va_A [] s.heap.size) [] := vD_nil
    obtain ⟨hP, hD⟩ := va_join (wr := [(h0, .inr (9, [.ref m1, .ref m2, .ref m3, .int ik, .int wy, .int op, .int cl, .int cx0, .int cx1, .int cy0, .int cy1, .int ds, .ref m4, .ref m5, .ref m6, .ref m7, .ref m8, .ref m9, .int pn, .ref m10, .ref m11, .ref m12, .ref m13])), (m10, .inl (cI, 3, .inl kx)), (m11, .inl (cI, 3, .inl ky))]) (w1 := []) hP hD [] [0, 1, 2] rfl rfl (by decide) (by decide) hk1 hFc hP1 hD1
    clear hz1 hk1 hFc hKc hDc hPc
    generalize H1 = H at hP hS ⊢
    have hP : va_P D vwCl [(h0, .inr (9, [.ref m1, .ref m2, .ref m3, .int ik, .int wy, .int op, .int cl, .int cx0, .int cx1, .int cy0, .int cy1, .int ds, .ref m4, .ref m5, .ref m6, .ref m7, .ref m8, .ref m9, .int pn, .ref m10, .ref m11, .ref m12, .ref m13])), (m10, .inl (cI, 3, .inl kx)), (m11, .inl (cI, 3, .inl ky))] H := hP
    have hD : va_D A [(h0, .inr (9, [.ref m1, .ref m2, .ref m3, .int ik, .int wy, .int op, .int cl, .int cx0, .int cx1, .int cy0, .int cy1, .int ds, .ref m4, .ref m5, .ref m6, .ref m7, .ref m8, .ref m9, .int pn, .ref m10, .ref m11, .ref m12, .ref m13])), (m10, .inl (cI, 3, .inl kx)), (m11, .inl (cI, 3, .inl ky))] := hD
    refine lv_iadd hx hb dX9_isInTriangle_67 ?_
    refine lv_topi (fun y_18 ey_18 => ?_)
    refine lv_istore_n (lv' := [(3, .int y_18), (5, .int 1), (4, .int 0), (0, .ref h0), (1, .int u), (2, .int v)]) hx hb dX9_isInTriangle_68 rfl hl (by decide) rfl (fun ls hl => ?_)
    refine lv_iinc (v := 1) (lv' := [(4, .int 1), (3, .int y_18), (5, .int 1), (0, .ref h0), (1, .int u), (2, .int v)]) hx hb dX9_isInTriangle_69 hl (k := 2) rfl (by decide) (by decide) rfl (fun ls hl => ?_)
    refine lv_goto (tgt := 5) hx hb dX9_isInTriangle_72 (by decide) ?_
    refine lv_iload hx hb dX9_isInTriangle_5 (lv_at hl 0 rfl) ?_
    refine lv_iconst (v := 3) hx hb dX9_isInTriangle_7 (by decide) ?_
    refine lv_icmp_ge (tgt := 75) hx hb dX9_isInTriangle_8 (by decide) (fun c_19 => ?_) (fun c_19 => ?_)
    · skip
      exact absurd c_19 (by decide)
    · skip
      refine lv_iload hx hb dX9_isInTriangle_11 (lv_at hl 0 rfl) ?_
      refine lv_iconst (v := 1) hx hb dX9_isInTriangle_13 (by decide) ?_
      refine lv_iadd hx hb dX9_isInTriangle_14 ?_
      refine my_fold (v := 2) (by decide) ?_
      refine lv_iconst (v := 3) hx hb dX9_isInTriangle_15 (by decide) ?_
      refine lv_irem hx hb dX9_isInTriangle_16 (by decide) ?_
      refine my_fold (v := 2) (by decide) ?_
      refine lv_istore (lv' := [(5, .int 2), (4, .int 1), (3, .int y_18), (0, .ref h0), (1, .int u), (2, .int v)]) hx hb dX9_isInTriangle_17 hl (by decide) rfl (fun ls hl => ?_)
      refine lv_iload_n hx hb dX9_isInTriangle_19 rfl (lv_at hl 2 rfl) ?_
      refine lv_iconst (v := 2) hx hb dX9_isInTriangle_20 (by decide) ?_
      refine lv_aload_n hx hb dX9_isInTriangle_21 rfl (lv_at hl 3 rfl) ?_
      refine va_get (D := D) (ci := 9) (v := .ref m10) (C := RX9) (T := TX9) (N := 23) hx hb hts hi_X9 hown hK hP 0 rfl rfl 19 (by decide) (hts _ bw_410) (fun _ h9 => h9) rfl dX9_isInTriangle_22 ?_
      refine lv_iload hx hb dX9_isInTriangle_25 (lv_at hl 1 rfl) ?_
      refine va_iald hx hb hK hP 1 0 rfl rfl (my_in (by decide) (by decide)) dX9_isInTriangle_27 ?_
      refine lv_topi (fun y_21 ey_21 => ?_)
      refine lv_imul hx hb dX9_isInTriangle_28 ?_
      refine lv_topi (fun y_22 ey_22 => ?_)
      obtain ⟨y_23, ey_23⟩ : ∃ y : Int64, y = y_22.toInt64 := ⟨_, rfl⟩
      refine lv_i2l (v := y_23) hx hb dX9_isInTriangle_29 ey_23.symm ?_
      have hty_23 : y_23.toInt = y_22.toInt := by rw [ey_23]; exact Int32.toInt_toInt64 _
      refine lv_iconst (v := 2) hx hb dX9_isInTriangle_30 (by decide) ?_
      refine lv_aload_n hx hb dX9_isInTriangle_31 rfl (lv_at hl 3 rfl) ?_
      refine va_get (D := D) (ci := 9) (v := .ref m11) (C := RX9) (T := TX9) (N := 23) hx hb hts hi_X9 hown hK hP 0 rfl rfl 20 (by decide) (hts _ bw_411) (fun _ h9 => h9) rfl dX9_isInTriangle_32 ?_
      refine lv_iload hx hb dX9_isInTriangle_35 (lv_at hl 1 rfl) ?_
      refine va_iald hx hb hK hP 2 0 rfl rfl (my_in (by decide) (by decide)) dX9_isInTriangle_37 ?_
      refine lv_topi (fun y_24 ey_24 => ?_)
      refine lv_imul hx hb dX9_isInTriangle_38 ?_
      refine lv_topi (fun y_25 ey_25 => ?_)
      obtain ⟨y_26, ey_26⟩ : ∃ y : Int64, y = y_25.toInt64 := ⟨_, rfl⟩
      refine lv_i2l (v := y_26) hx hb dX9_isInTriangle_39 ey_26.symm ?_
      have hty_26 : y_26.toInt = y_25.toInt := by rw [ey_26]; exact Int32.toInt_toInt64 _
      refine lv_iconst (v := 2) hx hb dX9_isInTriangle_40 (by decide) ?_
      refine lv_aload_n hx hb dX9_isInTriangle_41 rfl (lv_at hl 3 rfl) ?_
      refine va_get (D := D) (ci := 9) (v := .ref m10) (C := RX9) (T := TX9) (N := 23) hx hb hts hi_X9 hown hK hP 0 rfl rfl 19 (by decide) (hts _ bw_410) (fun _ h9 => h9) rfl dX9_isInTriangle_42 ?_
      refine lv_iload hx hb dX9_isInTriangle_45 (lv_at hl 0 rfl) ?_
      refine va_iald hx hb hK hP 1 0 rfl rfl (my_in (by decide) (by decide)) dX9_isInTriangle_47 ?_
      refine lv_topi (fun y_27 ey_27 => ?_)
      refine lv_imul hx hb dX9_isInTriangle_48 ?_
      refine lv_topi (fun y_28 ey_28 => ?_)
      obtain ⟨y_29, ey_29⟩ : ∃ y : Int64, y = y_28.toInt64 := ⟨_, rfl⟩
      refine lv_i2l (v := y_29) hx hb dX9_isInTriangle_49 ey_29.symm ?_
      have hty_29 : y_29.toInt = y_28.toInt := by rw [ey_29]; exact Int32.toInt_toInt64 _
      refine lv_iconst (v := 2) hx hb dX9_isInTriangle_50 (by decide) ?_
      refine lv_aload_n hx hb dX9_isInTriangle_51 rfl (lv_at hl 3 rfl) ?_
      refine va_get (D := D) (ci := 9) (v := .ref m11) (C := RX9) (T := TX9) (N := 23) hx hb hts hi_X9 hown hK hP 0 rfl rfl 20 (by decide) (hts _ bw_411) (fun _ h9 => h9) rfl dX9_isInTriangle_52 ?_
      refine lv_iload hx hb dX9_isInTriangle_55 (lv_at hl 0 rfl) ?_
      refine va_iald hx hb hK hP 2 0 rfl rfl (my_in (by decide) (by decide)) dX9_isInTriangle_57 ?_
      refine lv_topi (fun y_30 ey_30 => ?_)
      refine lv_imul hx hb dX9_isInTriangle_58 ?_
      refine lv_topi (fun y_31 ey_31 => ?_)
      obtain ⟨y_32, ey_32⟩ : ∃ y : Int64, y = y_31.toInt64 := ⟨_, rfl⟩
      refine lv_i2l (v := y_32) hx hb dX9_isInTriangle_59 ey_32.symm ?_
      have hty_32 : y_32.toInt = y_31.toInt := by rw [ey_32]; exact Int32.toInt_toInt64 _
      refine lv_iload_n hx hb dX9_isInTriangle_60 rfl (lv_at hl 4 rfl) ?_
      obtain ⟨y_33, ey_33⟩ : ∃ y : Int64, y = u.toInt64 := ⟨_, rfl⟩
      refine lv_i2l (v := y_33) hx hb dX9_isInTriangle_61 ey_33.symm ?_
      have hty_33 : y_33.toInt = u.toInt := by rw [ey_33]; exact Int32.toInt_toInt64 _
      refine lv_iload_n hx hb dX9_isInTriangle_62 rfl (lv_at hl 5 rfl) ?_
      obtain ⟨y_34, ey_34⟩ : ∃ y : Int64, y = v.toInt64 := ⟨_, rfl⟩
      refine lv_i2l (v := y_34) hx hb dX9_isInTriangle_63 ey_34.symm ?_
      have hty_34 : y_34.toInt = v.toInt := by rw [ey_34]; exact Int32.toInt_toInt64 _
      have hPc := hP.sub (ws' := []) [] rfl
      have hDc := hD.sub (ws' := []) [] (by decide) rfl
      have hKc := hK.sub (tys' := []) [] rfl
      have hFc := va_free (wc := []) hD hS hA [] rfl
      refine va_calli (va_runS (As := [.long y_23, .long y_26, .long y_29, .long y_32, .long y_33, .long y_34]) (rest := [.int y_18]) ⟨hx, hb, hml, hown, hts⟩ (k_X9_edge_l l D H.size y_23 y_26 y_29 y_32 y_33 y_34) (va_cwS 6 hts (gS bw_515 bw_511 bw_391 bw_510) rfl rfl rfl (by decide +kernel) ⟨(by rw [hR]; exact Nat.le_of_ble_eq_true rfl), (by rw [hR]; exact Nat.le_of_ble_eq_true rfl)⟩) ⟨cP_blind, cP_at hPc hKc hDc hN⟩ rfl rfl hl.1 rfl (lv_room (Nat.le_of_ble_eq_true rfl)) dX9_isInTriangle_64 ⟨(by rw [hR]; exact Nat.le_of_ble_eq_true rfl), (by rw [hR]; exact Nat.le_of_ble_eq_true rfl)⟩) hS (fun q _ h => hFc q h) hFc (fun r_35 u9 t9 H1 locs ht hvm hr_35 hB hz1 hk1 hS => ?_)
      try dsimp only at hr_35
      have hP1 : va_P D vwCl [] H1 := vP_nil
      have hD1 : va_D (va_A [] H.size) [] := vD_nil
      obtain ⟨hP, hD⟩ := va_join (wr := [(h0, .inr (9, [.ref m1, .ref m2, .ref m3, .int ik, .int wy, .int op, .int cl, .int cx0, .int cx1, .int cy0, .int cy1, .int ds, .ref m4, .ref m5, .ref m6, .ref m7, .ref m8, .ref m9, .int pn, .ref m10, .ref m11, .ref m12, .ref m13])), (m10, .inl (cI, 3, .inl kx)), (m11, .inl (cI, 3, .inl ky))]) (w1 := []) hP hD [] [0, 1, 2] rfl rfl (by decide) (by decide) hk1 hFc hP1 hD1
      clear hz1 hk1 hFc hKc hDc hPc
      generalize H1 = H at hP hS ⊢
      have hP : va_P D vwCl [(h0, .inr (9, [.ref m1, .ref m2, .ref m3, .int ik, .int wy, .int op, .int cl, .int cx0, .int cx1, .int cy0, .int cy1, .int ds, .ref m4, .ref m5, .ref m6, .ref m7, .ref m8, .ref m9, .int pn, .ref m10, .ref m11, .ref m12, .ref m13])), (m10, .inl (cI, 3, .inl kx)), (m11, .inl (cI, 3, .inl ky))] H := hP
      have hD : va_D A [(h0, .inr (9, [.ref m1, .ref m2, .ref m3, .int ik, .int wy, .int op, .int cl, .int cx0, .int cx1, .int cy0, .int cy1, .int ds, .ref m4, .ref m5, .ref m6, .ref m7, .ref m8, .ref m9, .int pn, .ref m10, .ref m11, .ref m12, .ref m13])), (m10, .inl (cI, 3, .inl kx)), (m11, .inl (cI, 3, .inl ky))] := hD
      refine lv_iadd hx hb dX9_isInTriangle_67 ?_
      refine lv_topi (fun y_36 ey_36 => ?_)
      refine lv_istore_n (lv' := [(3, .int y_36), (5, .int 2), (4, .int 1), (0, .ref h0), (1, .int u), (2, .int v)]) hx hb dX9_isInTriangle_68 rfl hl (by decide) rfl (fun ls hl => ?_)
      refine lv_iinc (v := 2) (lv' := [(4, .int 2), (3, .int y_36), (5, .int 2), (0, .ref h0), (1, .int u), (2, .int v)]) hx hb dX9_isInTriangle_69 hl (k := 2) rfl (by decide) (by decide) rfl (fun ls hl => ?_)
      refine lv_goto (tgt := 5) hx hb dX9_isInTriangle_72 (by decide) ?_
      refine lv_iload hx hb dX9_isInTriangle_5 (lv_at hl 0 rfl) ?_
      refine lv_iconst (v := 3) hx hb dX9_isInTriangle_7 (by decide) ?_
      refine lv_icmp_ge (tgt := 75) hx hb dX9_isInTriangle_8 (by decide) (fun c_37 => ?_) (fun c_37 => ?_)
      · skip
        exact absurd c_37 (by decide)
      · skip
        refine lv_iload hx hb dX9_isInTriangle_11 (lv_at hl 0 rfl) ?_
        refine lv_iconst (v := 1) hx hb dX9_isInTriangle_13 (by decide) ?_
        refine lv_iadd hx hb dX9_isInTriangle_14 ?_
        refine my_fold (v := 3) (by decide) ?_
        refine lv_iconst (v := 3) hx hb dX9_isInTriangle_15 (by decide) ?_
        refine lv_irem hx hb dX9_isInTriangle_16 (by decide) ?_
        refine my_fold (v := 0) (by decide) ?_
        refine lv_istore (lv' := [(5, .int 0), (4, .int 2), (3, .int y_36), (0, .ref h0), (1, .int u), (2, .int v)]) hx hb dX9_isInTriangle_17 hl (by decide) rfl (fun ls hl => ?_)
        refine lv_iload_n hx hb dX9_isInTriangle_19 rfl (lv_at hl 2 rfl) ?_
        refine lv_iconst (v := 2) hx hb dX9_isInTriangle_20 (by decide) ?_
        refine lv_aload_n hx hb dX9_isInTriangle_21 rfl (lv_at hl 3 rfl) ?_
        refine va_get (D := D) (ci := 9) (v := .ref m10) (C := RX9) (T := TX9) (N := 23) hx hb hts hi_X9 hown hK hP 0 rfl rfl 19 (by decide) (hts _ bw_410) (fun _ h9 => h9) rfl dX9_isInTriangle_22 ?_
        refine lv_iload hx hb dX9_isInTriangle_25 (lv_at hl 1 rfl) ?_
        refine va_iald hx hb hK hP 1 0 rfl rfl (my_in (by decide) (by decide)) dX9_isInTriangle_27 ?_
        refine lv_topi (fun y_39 ey_39 => ?_)
        refine lv_imul hx hb dX9_isInTriangle_28 ?_
        refine lv_topi (fun y_40 ey_40 => ?_)
        obtain ⟨y_41, ey_41⟩ : ∃ y : Int64, y = y_40.toInt64 := ⟨_, rfl⟩
        refine lv_i2l (v := y_41) hx hb dX9_isInTriangle_29 ey_41.symm ?_
        have hty_41 : y_41.toInt = y_40.toInt := by rw [ey_41]; exact Int32.toInt_toInt64 _
        refine lv_iconst (v := 2) hx hb dX9_isInTriangle_30 (by decide) ?_
        refine lv_aload_n hx hb dX9_isInTriangle_31 rfl (lv_at hl 3 rfl) ?_
        refine va_get (D := D) (ci := 9) (v := .ref m11) (C := RX9) (T := TX9) (N := 23) hx hb hts hi_X9 hown hK hP 0 rfl rfl 20 (by decide) (hts _ bw_411) (fun _ h9 => h9) rfl dX9_isInTriangle_32 ?_
        refine lv_iload hx hb dX9_isInTriangle_35 (lv_at hl 1 rfl) ?_
        refine va_iald hx hb hK hP 2 0 rfl rfl (my_in (by decide) (by decide)) dX9_isInTriangle_37 ?_
        refine lv_topi (fun y_42 ey_42 => ?_)
        refine lv_imul hx hb dX9_isInTriangle_38 ?_
        refine lv_topi (fun y_43 ey_43 => ?_)
        obtain ⟨y_44, ey_44⟩ : ∃ y : Int64, y = y_43.toInt64 := ⟨_, rfl⟩
        refine lv_i2l (v := y_44) hx hb dX9_isInTriangle_39 ey_44.symm ?_
        have hty_44 : y_44.toInt = y_43.toInt := by rw [ey_44]; exact Int32.toInt_toInt64 _
        refine lv_iconst (v := 2) hx hb dX9_isInTriangle_40 (by decide) ?_
        refine lv_aload_n hx hb dX9_isInTriangle_41 rfl (lv_at hl 3 rfl) ?_
        refine va_get (D := D) (ci := 9) (v := .ref m10) (C := RX9) (T := TX9) (N := 23) hx hb hts hi_X9 hown hK hP 0 rfl rfl 19 (by decide) (hts _ bw_410) (fun _ h9 => h9) rfl dX9_isInTriangle_42 ?_
        refine lv_iload hx hb dX9_isInTriangle_45 (lv_at hl 0 rfl) ?_
        refine va_iald hx hb hK hP 1 0 rfl rfl (my_in (by decide) (by decide)) dX9_isInTriangle_47 ?_
        refine lv_topi (fun y_45 ey_45 => ?_)
        refine lv_imul hx hb dX9_isInTriangle_48 ?_
        refine lv_topi (fun y_46 ey_46 => ?_)
        obtain ⟨y_47, ey_47⟩ : ∃ y : Int64, y = y_46.toInt64 := ⟨_, rfl⟩
        refine lv_i2l (v := y_47) hx hb dX9_isInTriangle_49 ey_47.symm ?_
        have hty_47 : y_47.toInt = y_46.toInt := by rw [ey_47]; exact Int32.toInt_toInt64 _
        refine lv_iconst (v := 2) hx hb dX9_isInTriangle_50 (by decide) ?_
        refine lv_aload_n hx hb dX9_isInTriangle_51 rfl (lv_at hl 3 rfl) ?_
        refine va_get (D := D) (ci := 9) (v := .ref m11) (C := RX9) (T := TX9) (N := 23) hx hb hts hi_X9 hown hK hP 0 rfl rfl 20 (by decide) (hts _ bw_411) (fun _ h9 => h9) rfl dX9_isInTriangle_52 ?_
        refine lv_iload hx hb dX9_isInTriangle_55 (lv_at hl 0 rfl) ?_
        refine va_iald hx hb hK hP 2 0 rfl rfl (my_in (by decide) (by decide)) dX9_isInTriangle_57 ?_
        refine lv_topi (fun y_48 ey_48 => ?_)
        refine lv_imul hx hb dX9_isInTriangle_58 ?_
        refine lv_topi (fun y_49 ey_49 => ?_)
        obtain ⟨y_50, ey_50⟩ : ∃ y : Int64, y = y_49.toInt64 := ⟨_, rfl⟩
        refine lv_i2l (v := y_50) hx hb dX9_isInTriangle_59 ey_50.symm ?_
        have hty_50 : y_50.toInt = y_49.toInt := by rw [ey_50]; exact Int32.toInt_toInt64 _
        refine lv_iload_n hx hb dX9_isInTriangle_60 rfl (lv_at hl 4 rfl) ?_
        obtain ⟨y_51, ey_51⟩ : ∃ y : Int64, y = u.toInt64 := ⟨_, rfl⟩
        refine lv_i2l (v := y_51) hx hb dX9_isInTriangle_61 ey_51.symm ?_
        have hty_51 : y_51.toInt = u.toInt := by rw [ey_51]; exact Int32.toInt_toInt64 _
        refine lv_iload_n hx hb dX9_isInTriangle_62 rfl (lv_at hl 5 rfl) ?_
        obtain ⟨y_52, ey_52⟩ : ∃ y : Int64, y = v.toInt64 := ⟨_, rfl⟩
        refine lv_i2l (v := y_52) hx hb dX9_isInTriangle_63 ey_52.symm ?_
        have hty_52 : y_52.toInt = v.toInt := by rw [ey_52]; exact Int32.toInt_toInt64 _
        have hPc := hP.sub (ws' := []) [] rfl
        have hDc := hD.sub (ws' := []) [] (by decide) rfl
        have hKc := hK.sub (tys' := []) [] rfl
        have hFc := va_free (wc := []) hD hS hA [] rfl
        refine va_calli (va_runS (As := [.long y_41, .long y_44, .long y_47, .long y_50, .long y_51, .long y_52]) (rest := [.int y_36]) ⟨hx, hb, hml, hown, hts⟩ (k_X9_edge_l l D H.size y_41 y_44 y_47 y_50 y_51 y_52) (va_cwS 6 hts (gS bw_515 bw_511 bw_391 bw_510) rfl rfl rfl (by decide +kernel) ⟨(by rw [hR]; exact Nat.le_of_ble_eq_true rfl), (by rw [hR]; exact Nat.le_of_ble_eq_true rfl)⟩) ⟨cP_blind, cP_at hPc hKc hDc hN⟩ rfl rfl hl.1 rfl (lv_room (Nat.le_of_ble_eq_true rfl)) dX9_isInTriangle_64 ⟨(by rw [hR]; exact Nat.le_of_ble_eq_true rfl), (by rw [hR]; exact Nat.le_of_ble_eq_true rfl)⟩) hS (fun q _ h => hFc q h) hFc (fun r_53 u9 t9 H1 locs ht hvm hr_53 hB hz1 hk1 hS => ?_)
        try dsimp only at hr_53
        have hP1 : va_P D vwCl [] H1 := vP_nil
        have hD1 : va_D (va_A [] H.size) [] := vD_nil
        obtain ⟨hP, hD⟩ := va_join (wr := [(h0, .inr (9, [.ref m1, .ref m2, .ref m3, .int ik, .int wy, .int op, .int cl, .int cx0, .int cx1, .int cy0, .int cy1, .int ds, .ref m4, .ref m5, .ref m6, .ref m7, .ref m8, .ref m9, .int pn, .ref m10, .ref m11, .ref m12, .ref m13])), (m10, .inl (cI, 3, .inl kx)), (m11, .inl (cI, 3, .inl ky))]) (w1 := []) hP hD [] [0, 1, 2] rfl rfl (by decide) (by decide) hk1 hFc hP1 hD1
        clear hz1 hk1 hFc hKc hDc hPc
        generalize H1 = H at hP hS ⊢
        have hP : va_P D vwCl [(h0, .inr (9, [.ref m1, .ref m2, .ref m3, .int ik, .int wy, .int op, .int cl, .int cx0, .int cx1, .int cy0, .int cy1, .int ds, .ref m4, .ref m5, .ref m6, .ref m7, .ref m8, .ref m9, .int pn, .ref m10, .ref m11, .ref m12, .ref m13])), (m10, .inl (cI, 3, .inl kx)), (m11, .inl (cI, 3, .inl ky))] H := hP
        have hD : va_D A [(h0, .inr (9, [.ref m1, .ref m2, .ref m3, .int ik, .int wy, .int op, .int cl, .int cx0, .int cx1, .int cy0, .int cy1, .int ds, .ref m4, .ref m5, .ref m6, .ref m7, .ref m8, .ref m9, .int pn, .ref m10, .ref m11, .ref m12, .ref m13])), (m10, .inl (cI, 3, .inl kx)), (m11, .inl (cI, 3, .inl ky))] := hD
        refine lv_iadd hx hb dX9_isInTriangle_67 ?_
        refine lv_topi (fun y_54 ey_54 => ?_)
        refine lv_istore_n (lv' := [(3, .int y_54), (5, .int 0), (4, .int 2), (0, .ref h0), (1, .int u), (2, .int v)]) hx hb dX9_isInTriangle_68 rfl hl (by decide) rfl (fun ls hl => ?_)
        refine lv_iinc (v := 3) (lv' := [(4, .int 3), (3, .int y_54), (5, .int 0), (0, .ref h0), (1, .int u), (2, .int v)]) hx hb dX9_isInTriangle_69 hl (k := 2) rfl (by decide) (by decide) rfl (fun ls hl => ?_)
        refine lv_goto (tgt := 5) hx hb dX9_isInTriangle_72 (by decide) ?_
        refine lv_iload hx hb dX9_isInTriangle_5 (lv_at hl 0 rfl) ?_
        refine lv_iconst (v := 3) hx hb dX9_isInTriangle_7 (by decide) ?_
        refine lv_icmp_ge (tgt := 75) hx hb dX9_isInTriangle_8 (by decide) (fun c_55 => ?_) (fun c_55 => ?_)
        · skip
          refine lv_iload_n hx hb dX9_isInTriangle_75 rfl (lv_at hl 1 rfl) ?_
          refine lv_if_eq (tgt := 83) hx hb dX9_isInTriangle_76 (by decide) (fun c_57 => ?_) (fun c_57 => ?_)
          · skip
            have f_58 : y_54.toInt = 0 := f_eq rfl (by decide) c_57
            refine lv_iconst (v := 0) hx hb dX9_isInTriangle_83 (by decide) ?_
            have hP9 := hP.sub (ws' := [(h0, .inr (9, [.ref m1, .ref m2, .ref m3, .int ik, .int wy, .int op, .int cl, .int cx0, .int cx1, .int cy0, .int cy1, .int ds, .ref m4, .ref m5, .ref m6, .ref m7, .ref m8, .ref m9, .int pn, .ref m10, .ref m11, .ref m12, .ref m13])), (m10, .inl (cI, 3, .inl kx)), (m11, .inl (cI, 3, .inl ky))]) [0, 1, 2] rfl
            have hD9 := hD.sub (ws' := [(h0, .inr (9, [.ref m1, .ref m2, .ref m3, .int ik, .int wy, .int op, .int cl, .int cx0, .int cx1, .int cy0, .int cy1, .int ds, .ref m4, .ref m5, .ref m6, .ref m7, .ref m8, .ref m9, .int pn, .ref m10, .ref m11, .ref m12, .ref m13])), (m10, .inl (cI, 3, .inl kx)), (m11, .inl (cI, 3, .inl ky))]) [0, 1, 2] (by decide) rfl
            have hK9 := hK.sub (tys' := [(cI, .int)]) [0] rfl
            refine hQ _ _ _ _ _ ?_
            exact W.zret (v := 0) hx hb hr rfl (fun t ht hW => ⟨⟨0, (), rfl, Or.inl rfl, ⟨by rw [ht]; exact hP9, va_K.moved hW.alike hK9, hD9⟩⟩, hS.F ht⟩) hS.2.2 dX9_isInTriangle_84
          · skip
            have f_58 : ¬ (y_54.toInt = 0) := fn_eq rfl (by decide) c_57
            refine lv_iconst (v := 1) hx hb dX9_isInTriangle_79 (by decide) ?_
            refine lv_goto (tgt := 84) hx hb dX9_isInTriangle_80 (by decide) ?_
            have hP9 := hP.sub (ws' := [(h0, .inr (9, [.ref m1, .ref m2, .ref m3, .int ik, .int wy, .int op, .int cl, .int cx0, .int cx1, .int cy0, .int cy1, .int ds, .ref m4, .ref m5, .ref m6, .ref m7, .ref m8, .ref m9, .int pn, .ref m10, .ref m11, .ref m12, .ref m13])), (m10, .inl (cI, 3, .inl kx)), (m11, .inl (cI, 3, .inl ky))]) [0, 1, 2] rfl
            have hD9 := hD.sub (ws' := [(h0, .inr (9, [.ref m1, .ref m2, .ref m3, .int ik, .int wy, .int op, .int cl, .int cx0, .int cx1, .int cy0, .int cy1, .int ds, .ref m4, .ref m5, .ref m6, .ref m7, .ref m8, .ref m9, .int pn, .ref m10, .ref m11, .ref m12, .ref m13])), (m10, .inl (cI, 3, .inl kx)), (m11, .inl (cI, 3, .inl ky))]) [0, 1, 2] (by decide) rfl
            have hK9 := hK.sub (tys' := [(cI, .int)]) [0] rfl
            refine hQ _ _ _ _ _ ?_
            exact W.zret (v := 1) hx hb hr rfl (fun t ht hW => ⟨⟨1, (), rfl, Or.inr rfl, ⟨by rw [ht]; exact hP9, va_K.moved hW.alike hK9, hD9⟩⟩, hS.F ht⟩) hS.2.2 dX9_isInTriangle_84
        · skip
          exact absurd c_55 (by decide)

set_option maxHeartbeats 4000000 in
set_option maxRecDepth 100000 in
theorem k_X9_mixed (l : Launch) (D : va_G) (sz : Nat) (h0 m1 m2 m3 m4 m5 m6 m7 m8 m9 m10 m11 m12 m13 : Nat) (ik wy op cl cx0 cx1 cy0 cy1 ds pn : Int32) (kx : Nat → Int32) (ky : Nat → Int32) (ki : Nat → Int32) (u v w9 : Int32) (cI : ClassId) (hw9 : ¬ w9 = 0) : Met l yX9_mixed (wB yX9_mixed cX9_mixed 9 (some .int)) ({ frames := 1, cells := 0, slots := 0, locals := 26 }) (cP D [(h0, .inr (9, [.ref m1, .ref m2, .ref m3, .int ik, .int wy, .int op, .int cl, .int cx0, .int cx1, .int cy0, .int cy1, .int ds, .ref m4, .ref m5, .ref m6, .ref m7, .ref m8, .ref m9, .int pn, .ref m10, .ref m11, .ref m12, .ref m13])), (m10, .inl (cI, 3, .inl kx)), (m11, .inl (cI, 3, .inl ky)), (m12, .inl (cI, 3, .inl ki))] [(cI, .int)] sz [.ref h0, .int u, .int v, .int w9]) (va_Qi (fun (r : Int32) (_ : Unit) => True) (fun (_ : Unit) (t : State) => cB D (va_A [(h0, .inr (9, [.ref m1, .ref m2, .ref m3, .int ik, .int wy, .int op, .int cl, .int cx0, .int cx1, .int cy0, .int cy1, .int ds, .ref m4, .ref m5, .ref m6, .ref m7, .ref m8, .ref m9, .int pn, .ref m10, .ref m11, .ref m12, .ref m13])), (m10, .inl (cI, 3, .inl kx)), (m11, .inl (cI, 3, .inl ky)), (m12, .inl (cI, 3, .inl ki))] sz) [(h0, .inr (9, [.ref m1, .ref m2, .ref m3, .int ik, .int wy, .int op, .int cl, .int cx0, .int cx1, .int cy0, .int cy1, .int ds, .ref m4, .ref m5, .ref m6, .ref m7, .ref m8, .ref m9, .int pn, .ref m10, .ref m11, .ref m12, .ref m13])), (m10, .inl (cI, 3, .inl kx)), (m11, .inl (cI, 3, .inl ky)), (m12, .inl (cI, 3, .inl ki))] [(cI, .int)] t) (va_A [(h0, .inr (9, [.ref m1, .ref m2, .ref m3, .int ik, .int wy, .int op, .int cl, .int cx0, .int cx1, .int cy0, .int cy1, .int ds, .ref m4, .ref m5, .ref m6, .ref m7, .ref m8, .ref m9, .int pn, .ref m10, .ref m11, .ref m12, .ref m13])), (m10, .inl (cI, 3, .inl kx)), (m11, .inl (cI, 3, .inl ky)), (m12, .inl (cI, 3, .inl ki))] sz)) 0 0 (va_A [(h0, .inr (9, [.ref m1, .ref m2, .ref m3, .int ik, .int wy, .int op, .int cl, .int cx0, .int cx1, .int cy0, .int cy1, .int ds, .ref m4, .ref m5, .ref m6, .ref m7, .ref m8, .ref m9, .int pn, .ref m10, .ref m11, .ref m12, .ref m13])), (m10, .inl (cI, 3, .inl kx)), (m11, .inl (cI, 3, .inl ky)), (m12, .inl (cI, 3, .inl ki))] sz) := by
  refine Met.ofW (cc := cX9_mixed) (maxL := 9) (ret := (some .int)) (by decide) rfl ?_
  intro p e s m args below meth c s₁ B hml hv
  obtain ⟨rfl, hsz, hP, hK, hD0, hN⟩ := hv
  have hx := B.exec
  have hb := B.bytes
  have hr := B.returns
  have hts0 := atoms_spec (ws := (wB yX9_mixed cX9_mixed 9 (some .int))) B.pre
  have hts : ∀ w ∈ bigW, w.before _ s = true := fun w h => hts0 w (List.mem_cons_of_mem _ h)
  have hown : s.vm.findClass RX9 = some m.cls := findClass_of_methodNamed B.named
  have hlocks := B.notSynchronized
  subst hsz
  have hD := hD0.self (sz := s.heap.size)
  generalize hAe : va_A [(h0, .inr (9, [.ref m1, .ref m2, .ref m3, .int ik, .int wy, .int op, .int cl, .int cx0, .int cx1, .int cy0, .int cy1, .int ds, .ref m4, .ref m5, .ref m6, .ref m7, .ref m8, .ref m9, .int pn, .ref m10, .ref m11, .ref m12, .ref m13])), (m10, .inl (cI, 3, .inl kx)), (m11, .inl (cI, 3, .inl ky)), (m12, .inl (cI, 3, .inl ki))] s.heap.size = A at hD ⊢
  have hA : ∀ q : Nat, s.heap.size ≤ q → A q := fun q h => by rw [← hAe]; exact Or.inr h
  have hS : va_S A s.heap s.heap [] := va_S.rf
  have hP : va_P D vwCl [(h0, .inr (9, [.ref m1, .ref m2, .ref m3, .int ik, .int wy, .int op, .int cl, .int cx0, .int cx1, .int cy0, .int cy1, .int ds, .ref m4, .ref m5, .ref m6, .ref m7, .ref m8, .ref m9, .int pn, .ref m10, .ref m11, .ref m12, .ref m13])), (m10, .inl (cI, 3, .inl kx)), (m11, .inl (cI, 3, .inl ky)), (m12, .inl (cI, 3, .inl ki))] s.heap := hP
  have hl := lv_entry ([.ref h0, .int u, .int v, .int w9]) (n := 9) (Nat.le_of_ble_eq_true rfl)
  rw [lg_entry_eq]
  generalize (lg_sl ([.ref h0, .int u, .int v, .int w9]) ++ List.replicate (9 - (lg_sl ([.ref h0, .int u, .int v, .int w9])).length) Slot.unset).toArray = ls at hl ⊢
  have hl : lv_has ls 9 [(0, .ref h0), (1, .int u), (2, .int v), (3, .int w9)] := hl
  clear hts0 hD0 hAe
  refine my_abs (fun R Q hR hQ => ?_)
  refine lv_iload_n hx hb dX9_mixed_0 rfl (lv_at hl 1 rfl) ?_
  refine lv_iload_n hx hb dX9_mixed_1 rfl (lv_at hl 2 rfl) ?_
  refine lv_iconst (v := 2) hx hb dX9_mixed_2 (by decide) ?_
  refine lv_aload_n hx hb dX9_mixed_3 rfl (lv_at hl 0 rfl) ?_
  refine va_get (D := D) (ci := 9) (v := .ref m10) (C := RX9) (T := TX9) (N := 23) hx hb hts hi_X9 hown hK hP 0 rfl rfl 19 (by decide) (hts _ bw_410) (fun _ h9 => h9) rfl dX9_mixed_4 ?_
  refine lv_iconst (v := 1) hx hb dX9_mixed_7 (by decide) ?_
  refine va_iald hx hb hK hP 1 0 rfl rfl (my_in (by decide) (by decide)) dX9_mixed_8 ?_
  refine lv_topi (fun y_1 ey_1 => ?_)
  refine lv_imul hx hb dX9_mixed_9 ?_
  refine lv_topi (fun y_2 ey_2 => ?_)
  refine lv_iconst (v := 2) hx hb dX9_mixed_10 (by decide) ?_
  refine lv_aload_n hx hb dX9_mixed_11 rfl (lv_at hl 0 rfl) ?_
  refine va_get (D := D) (ci := 9) (v := .ref m11) (C := RX9) (T := TX9) (N := 23) hx hb hts hi_X9 hown hK hP 0 rfl rfl 20 (by decide) (hts _ bw_411) (fun _ h9 => h9) rfl dX9_mixed_12 ?_
  refine lv_iconst (v := 1) hx hb dX9_mixed_15 (by decide) ?_
  refine va_iald hx hb hK hP 2 0 rfl rfl (my_in (by decide) (by decide)) dX9_mixed_16 ?_
  refine lv_topi (fun y_3 ey_3 => ?_)
  refine lv_imul hx hb dX9_mixed_17 ?_
  refine lv_topi (fun y_4 ey_4 => ?_)
  refine lv_iconst (v := 2) hx hb dX9_mixed_18 (by decide) ?_
  refine lv_aload_n hx hb dX9_mixed_19 rfl (lv_at hl 0 rfl) ?_
  refine va_get (D := D) (ci := 9) (v := .ref m10) (C := RX9) (T := TX9) (N := 23) hx hb hts hi_X9 hown hK hP 0 rfl rfl 19 (by decide) (hts _ bw_410) (fun _ h9 => h9) rfl dX9_mixed_20 ?_
  refine lv_iconst (v := 2) hx hb dX9_mixed_23 (by decide) ?_
  refine va_iald hx hb hK hP 1 0 rfl rfl (my_in (by decide) (by decide)) dX9_mixed_24 ?_
  refine lv_topi (fun y_5 ey_5 => ?_)
  refine lv_imul hx hb dX9_mixed_25 ?_
  refine lv_topi (fun y_6 ey_6 => ?_)
  refine lv_iconst (v := 2) hx hb dX9_mixed_26 (by decide) ?_
  refine lv_aload_n hx hb dX9_mixed_27 rfl (lv_at hl 0 rfl) ?_
  refine va_get (D := D) (ci := 9) (v := .ref m11) (C := RX9) (T := TX9) (N := 23) hx hb hts hi_X9 hown hK hP 0 rfl rfl 20 (by decide) (hts _ bw_411) (fun _ h9 => h9) rfl dX9_mixed_28 ?_
  refine lv_iconst (v := 2) hx hb dX9_mixed_31 (by decide) ?_
  refine va_iald hx hb hK hP 2 0 rfl rfl (my_in (by decide) (by decide)) dX9_mixed_32 ?_
  refine lv_topi (fun y_7 ey_7 => ?_)
  refine lv_imul hx hb dX9_mixed_33 ?_
  refine lv_topi (fun y_8 ey_8 => ?_)
  have hPc := hP.sub (ws' := []) [] rfl
  have hDc := hD.sub (ws' := []) [] (by decide) rfl
  have hKc := hK.sub (tys' := []) [] rfl
  have hFc := va_free (wc := []) hD hS hA [] rfl
  refine va_calli (va_runS (As := [.int u, .int v, .int y_2, .int y_4, .int y_6, .int y_8]) (rest := []) ⟨hx, hb, hml, hown, hts⟩ (k_X9_area l D s.heap.size u v y_2 y_4 y_6 y_8) (va_cwS 6 hts (gS bw_542 bw_535 bw_391 bw_534) rfl rfl rfl (by decide +kernel) ⟨(by rw [hR]; exact Nat.le_of_ble_eq_true rfl), (by rw [hR]; exact Nat.le_of_ble_eq_true rfl)⟩) ⟨cP_blind, cP_at hPc hKc hDc hN⟩ rfl rfl hl.1 rfl (lv_room (Nat.le_of_ble_eq_true rfl)) dX9_mixed_34 ⟨(by rw [hR]; exact Nat.le_of_ble_eq_true rfl), (by rw [hR]; exact Nat.le_of_ble_eq_true rfl)⟩) hS (fun q _ h => hFc q h) hFc (fun r_9 u9 t9 H1 locs ht hvm hr_9 hB hz1 hk1 hS => ?_)
  try dsimp only at hr_9
  have hP1 : va_P D vwCl [] H1 := vP_nil
  have hD1 : va_D (va_A [] s.heap.size) [] := vD_nil
  obtain ⟨hP, hD⟩ := va_join (wr := [(h0, .inr (9, [.ref m1, .ref m2, .ref m3, .int ik, .int wy, .int op, .int cl, .int cx0, .int cx1, .int cy0, .int cy1, .int ds, .ref m4, .ref m5, .ref m6, .ref m7, .ref m8, .ref m9, .int pn, .ref m10, .ref m11, .ref m12, .ref m13])), (m10, .inl (cI, 3, .inl kx)), (m11, .inl (cI, 3, .inl ky)), (m12, .inl (cI, 3, .inl ki))]) (w1 := []) hP hD [] [0, 1, 2, 3] rfl rfl (by decide) (by decide) hk1 hFc hP1 hD1
  clear hz1 hk1 hFc hKc hDc hPc
  generalize H1 = H at hP hS ⊢
  have hP : va_P D vwCl [(h0, .inr (9, [.ref m1, .ref m2, .ref m3, .int ik, .int wy, .int op, .int cl, .int cx0, .int cx1, .int cy0, .int cy1, .int ds, .ref m4, .ref m5, .ref m6, .ref m7, .ref m8, .ref m9, .int pn, .ref m10, .ref m11, .ref m12, .ref m13])), (m10, .inl (cI, 3, .inl kx)), (m11, .inl (cI, 3, .inl ky)), (m12, .inl (cI, 3, .inl ki))] H := hP
  have hD : va_D A [(h0, .inr (9, [.ref m1, .ref m2, .ref m3, .int ik, .int wy, .int op, .int cl, .int cx0, .int cx1, .int cy0, .int cy1, .int ds, .ref m4, .ref m5, .ref m6, .ref m7, .ref m8, .ref m9, .int pn, .ref m10, .ref m11, .ref m12, .ref m13])), (m10, .inl (cI, 3, .inl kx)), (m11, .inl (cI, 3, .inl ky)), (m12, .inl (cI, 3, .inl ki))] := hD
  refine lv_istore (lv' := [(4, .int r_9), (0, .ref h0), (1, .int u), (2, .int v), (3, .int w9)]) hx hb dX9_mixed_37 hl (by decide) rfl (fun ls hl => ?_)
  refine lv_iload_n hx hb dX9_mixed_39 rfl (lv_at hl 2 rfl) ?_
  refine lv_iload_n hx hb dX9_mixed_40 rfl (lv_at hl 3 rfl) ?_
  refine lv_iconst (v := 2) hx hb dX9_mixed_41 (by decide) ?_
  refine lv_aload_n hx hb dX9_mixed_42 rfl (lv_at hl 1 rfl) ?_
  refine va_get (D := D) (ci := 9) (v := .ref m10) (C := RX9) (T := TX9) (N := 23) hx hb hts hi_X9 hown hK hP 0 rfl rfl 19 (by decide) (hts _ bw_410) (fun _ h9 => h9) rfl dX9_mixed_43 ?_
  refine lv_iconst (v := 2) hx hb dX9_mixed_46 (by decide) ?_
  refine va_iald hx hb hK hP 1 0 rfl rfl (my_in (by decide) (by decide)) dX9_mixed_47 ?_
  refine lv_topi (fun y_10 ey_10 => ?_)
  refine lv_imul hx hb dX9_mixed_48 ?_
  refine lv_topi (fun y_11 ey_11 => ?_)
  refine lv_iconst (v := 2) hx hb dX9_mixed_49 (by decide) ?_
  refine lv_aload_n hx hb dX9_mixed_50 rfl (lv_at hl 1 rfl) ?_
  refine va_get (D := D) (ci := 9) (v := .ref m11) (C := RX9) (T := TX9) (N := 23) hx hb hts hi_X9 hown hK hP 0 rfl rfl 20 (by decide) (hts _ bw_411) (fun _ h9 => h9) rfl dX9_mixed_51 ?_
  refine lv_iconst (v := 2) hx hb dX9_mixed_54 (by decide) ?_
  refine va_iald hx hb hK hP 2 0 rfl rfl (my_in (by decide) (by decide)) dX9_mixed_55 ?_
  refine lv_topi (fun y_12 ey_12 => ?_)
  refine lv_imul hx hb dX9_mixed_56 ?_
  refine lv_topi (fun y_13 ey_13 => ?_)
  refine lv_iconst (v := 2) hx hb dX9_mixed_57 (by decide) ?_
  refine lv_aload_n hx hb dX9_mixed_58 rfl (lv_at hl 1 rfl) ?_
  refine va_get (D := D) (ci := 9) (v := .ref m10) (C := RX9) (T := TX9) (N := 23) hx hb hts hi_X9 hown hK hP 0 rfl rfl 19 (by decide) (hts _ bw_410) (fun _ h9 => h9) rfl dX9_mixed_59 ?_
  refine lv_iconst (v := 0) hx hb dX9_mixed_62 (by decide) ?_
  refine va_iald hx hb hK hP 1 0 rfl rfl (my_in (by decide) (by decide)) dX9_mixed_63 ?_
  refine lv_topi (fun y_14 ey_14 => ?_)
  refine lv_imul hx hb dX9_mixed_64 ?_
  refine lv_topi (fun y_15 ey_15 => ?_)
  refine lv_iconst (v := 2) hx hb dX9_mixed_65 (by decide) ?_
  refine lv_aload_n hx hb dX9_mixed_66 rfl (lv_at hl 1 rfl) ?_
  refine va_get (D := D) (ci := 9) (v := .ref m11) (C := RX9) (T := TX9) (N := 23) hx hb hts hi_X9 hown hK hP 0 rfl rfl 20 (by decide) (hts _ bw_411) (fun _ h9 => h9) rfl dX9_mixed_67 ?_
  refine lv_iconst (v := 0) hx hb dX9_mixed_70 (by decide) ?_
  refine va_iald hx hb hK hP 2 0 rfl rfl (my_in (by decide) (by decide)) dX9_mixed_71 ?_
  refine lv_topi (fun y_16 ey_16 => ?_)
  refine lv_imul hx hb dX9_mixed_72 ?_
  refine lv_topi (fun y_17 ey_17 => ?_)
  have hPc := hP.sub (ws' := []) [] rfl
  have hDc := hD.sub (ws' := []) [] (by decide) rfl
  have hKc := hK.sub (tys' := []) [] rfl
  have hFc := va_free (wc := []) hD hS hA [] rfl
  refine va_calli (va_runS (As := [.int u, .int v, .int y_11, .int y_13, .int y_15, .int y_17]) (rest := []) ⟨hx, hb, hml, hown, hts⟩ (k_X9_area l D H.size u v y_11 y_13 y_15 y_17) (va_cwS 6 hts (gS bw_542 bw_535 bw_391 bw_534) rfl rfl rfl (by decide +kernel) ⟨(by rw [hR]; exact Nat.le_of_ble_eq_true rfl), (by rw [hR]; exact Nat.le_of_ble_eq_true rfl)⟩) ⟨cP_blind, cP_at hPc hKc hDc hN⟩ rfl rfl hl.1 rfl (lv_room (Nat.le_of_ble_eq_true rfl)) dX9_mixed_73 ⟨(by rw [hR]; exact Nat.le_of_ble_eq_true rfl), (by rw [hR]; exact Nat.le_of_ble_eq_true rfl)⟩) hS (fun q _ h => hFc q h) hFc (fun r_18 u9 t9 H1 locs ht hvm hr_18 hB hz1 hk1 hS => ?_)
  try dsimp only at hr_18
  have hP1 : va_P D vwCl [] H1 := vP_nil
  have hD1 : va_D (va_A [] H.size) [] := vD_nil
  obtain ⟨hP, hD⟩ := va_join (wr := [(h0, .inr (9, [.ref m1, .ref m2, .ref m3, .int ik, .int wy, .int op, .int cl, .int cx0, .int cx1, .int cy0, .int cy1, .int ds, .ref m4, .ref m5, .ref m6, .ref m7, .ref m8, .ref m9, .int pn, .ref m10, .ref m11, .ref m12, .ref m13])), (m10, .inl (cI, 3, .inl kx)), (m11, .inl (cI, 3, .inl ky)), (m12, .inl (cI, 3, .inl ki))]) (w1 := []) hP hD [] [0, 1, 2, 3] rfl rfl (by decide) (by decide) hk1 hFc hP1 hD1
  clear hz1 hk1 hFc hKc hDc hPc
  generalize H1 = H at hP hS ⊢
  have hP : va_P D vwCl [(h0, .inr (9, [.ref m1, .ref m2, .ref m3, .int ik, .int wy, .int op, .int cl, .int cx0, .int cx1, .int cy0, .int cy1, .int ds, .ref m4, .ref m5, .ref m6, .ref m7, .ref m8, .ref m9, .int pn, .ref m10, .ref m11, .ref m12, .ref m13])), (m10, .inl (cI, 3, .inl kx)), (m11, .inl (cI, 3, .inl ky)), (m12, .inl (cI, 3, .inl ki))] H := hP
  have hD : va_D A [(h0, .inr (9, [.ref m1, .ref m2, .ref m3, .int ik, .int wy, .int op, .int cl, .int cx0, .int cx1, .int cy0, .int cy1, .int ds, .ref m4, .ref m5, .ref m6, .ref m7, .ref m8, .ref m9, .int pn, .ref m10, .ref m11, .ref m12, .ref m13])), (m10, .inl (cI, 3, .inl kx)), (m11, .inl (cI, 3, .inl ky)), (m12, .inl (cI, 3, .inl ki))] := hD
  refine lv_istore (lv' := [(5, .int r_18), (4, .int r_9), (0, .ref h0), (1, .int u), (2, .int v), (3, .int w9)]) hx hb dX9_mixed_76 hl (by decide) rfl (fun ls hl => ?_)
  refine lv_iload_n hx hb dX9_mixed_78 rfl (lv_at hl 3 rfl) ?_
  refine lv_iload_n hx hb dX9_mixed_79 rfl (lv_at hl 4 rfl) ?_
  refine lv_iconst (v := 2) hx hb dX9_mixed_80 (by decide) ?_
  refine lv_aload_n hx hb dX9_mixed_81 rfl (lv_at hl 2 rfl) ?_
  refine va_get (D := D) (ci := 9) (v := .ref m10) (C := RX9) (T := TX9) (N := 23) hx hb hts hi_X9 hown hK hP 0 rfl rfl 19 (by decide) (hts _ bw_410) (fun _ h9 => h9) rfl dX9_mixed_82 ?_
  refine lv_iconst (v := 0) hx hb dX9_mixed_85 (by decide) ?_
  refine va_iald hx hb hK hP 1 0 rfl rfl (my_in (by decide) (by decide)) dX9_mixed_86 ?_
  refine lv_topi (fun y_19 ey_19 => ?_)
  refine lv_imul hx hb dX9_mixed_87 ?_
  refine lv_topi (fun y_20 ey_20 => ?_)
  refine lv_iconst (v := 2) hx hb dX9_mixed_88 (by decide) ?_
  refine lv_aload_n hx hb dX9_mixed_89 rfl (lv_at hl 2 rfl) ?_
  refine va_get (D := D) (ci := 9) (v := .ref m11) (C := RX9) (T := TX9) (N := 23) hx hb hts hi_X9 hown hK hP 0 rfl rfl 20 (by decide) (hts _ bw_411) (fun _ h9 => h9) rfl dX9_mixed_90 ?_
  refine lv_iconst (v := 0) hx hb dX9_mixed_93 (by decide) ?_
  refine va_iald hx hb hK hP 2 0 rfl rfl (my_in (by decide) (by decide)) dX9_mixed_94 ?_
  refine lv_topi (fun y_21 ey_21 => ?_)
  refine lv_imul hx hb dX9_mixed_95 ?_
  refine lv_topi (fun y_22 ey_22 => ?_)
  refine lv_iconst (v := 2) hx hb dX9_mixed_96 (by decide) ?_
  refine lv_aload_n hx hb dX9_mixed_97 rfl (lv_at hl 2 rfl) ?_
  refine va_get (D := D) (ci := 9) (v := .ref m10) (C := RX9) (T := TX9) (N := 23) hx hb hts hi_X9 hown hK hP 0 rfl rfl 19 (by decide) (hts _ bw_410) (fun _ h9 => h9) rfl dX9_mixed_98 ?_
  refine lv_iconst (v := 1) hx hb dX9_mixed_101 (by decide) ?_
  refine va_iald hx hb hK hP 1 0 rfl rfl (my_in (by decide) (by decide)) dX9_mixed_102 ?_
  refine lv_topi (fun y_23 ey_23 => ?_)
  refine lv_imul hx hb dX9_mixed_103 ?_
  refine lv_topi (fun y_24 ey_24 => ?_)
  refine lv_iconst (v := 2) hx hb dX9_mixed_104 (by decide) ?_
  refine lv_aload_n hx hb dX9_mixed_105 rfl (lv_at hl 2 rfl) ?_
  refine va_get (D := D) (ci := 9) (v := .ref m11) (C := RX9) (T := TX9) (N := 23) hx hb hts hi_X9 hown hK hP 0 rfl rfl 20 (by decide) (hts _ bw_411) (fun _ h9 => h9) rfl dX9_mixed_106 ?_
  refine lv_iconst (v := 1) hx hb dX9_mixed_109 (by decide) ?_
  refine va_iald hx hb hK hP 2 0 rfl rfl (my_in (by decide) (by decide)) dX9_mixed_110 ?_
  refine lv_topi (fun y_25 ey_25 => ?_)
  refine lv_imul hx hb dX9_mixed_111 ?_
  refine lv_topi (fun y_26 ey_26 => ?_)
  have hPc := hP.sub (ws' := []) [] rfl
  have hDc := hD.sub (ws' := []) [] (by decide) rfl
  have hKc := hK.sub (tys' := []) [] rfl
  have hFc := va_free (wc := []) hD hS hA [] rfl
  refine va_calli (va_runS (As := [.int u, .int v, .int y_20, .int y_22, .int y_24, .int y_26]) (rest := []) ⟨hx, hb, hml, hown, hts⟩ (k_X9_area l D H.size u v y_20 y_22 y_24 y_26) (va_cwS 6 hts (gS bw_542 bw_535 bw_391 bw_534) rfl rfl rfl (by decide +kernel) ⟨(by rw [hR]; exact Nat.le_of_ble_eq_true rfl), (by rw [hR]; exact Nat.le_of_ble_eq_true rfl)⟩) ⟨cP_blind, cP_at hPc hKc hDc hN⟩ rfl rfl hl.1 rfl (lv_room (Nat.le_of_ble_eq_true rfl)) dX9_mixed_112 ⟨(by rw [hR]; exact Nat.le_of_ble_eq_true rfl), (by rw [hR]; exact Nat.le_of_ble_eq_true rfl)⟩) hS (fun q _ h => hFc q h) hFc (fun r_27 u9 t9 H1 locs ht hvm hr_27 hB hz1 hk1 hS => ?_)
  try dsimp only at hr_27
  have hP1 : va_P D vwCl [] H1 := vP_nil
  have hD1 : va_D (va_A [] H.size) [] := vD_nil
  obtain ⟨hP, hD⟩ := va_join (wr := [(h0, .inr (9, [.ref m1, .ref m2, .ref m3, .int ik, .int wy, .int op, .int cl, .int cx0, .int cx1, .int cy0, .int cy1, .int ds, .ref m4, .ref m5, .ref m6, .ref m7, .ref m8, .ref m9, .int pn, .ref m10, .ref m11, .ref m12, .ref m13])), (m10, .inl (cI, 3, .inl kx)), (m11, .inl (cI, 3, .inl ky)), (m12, .inl (cI, 3, .inl ki))]) (w1 := []) hP hD [] [0, 1, 2, 3] rfl rfl (by decide) (by decide) hk1 hFc hP1 hD1
  clear hz1 hk1 hFc hKc hDc hPc
  generalize H1 = H at hP hS ⊢
  have hP : va_P D vwCl [(h0, .inr (9, [.ref m1, .ref m2, .ref m3, .int ik, .int wy, .int op, .int cl, .int cx0, .int cx1, .int cy0, .int cy1, .int ds, .ref m4, .ref m5, .ref m6, .ref m7, .ref m8, .ref m9, .int pn, .ref m10, .ref m11, .ref m12, .ref m13])), (m10, .inl (cI, 3, .inl kx)), (m11, .inl (cI, 3, .inl ky)), (m12, .inl (cI, 3, .inl ki))] H := hP
  have hD : va_D A [(h0, .inr (9, [.ref m1, .ref m2, .ref m3, .int ik, .int wy, .int op, .int cl, .int cx0, .int cx1, .int cy0, .int cy1, .int ds, .ref m4, .ref m5, .ref m6, .ref m7, .ref m8, .ref m9, .int pn, .ref m10, .ref m11, .ref m12, .ref m13])), (m10, .inl (cI, 3, .inl kx)), (m11, .inl (cI, 3, .inl ky)), (m12, .inl (cI, 3, .inl ki))] := hD
  refine lv_istore (lv' := [(6, .int r_27), (5, .int r_18), (4, .int r_9), (0, .ref h0), (1, .int u), (2, .int v), (3, .int w9)]) hx hb dX9_mixed_115 hl (by decide) rfl (fun ls hl => ?_)
  refine lv_iconst (v := 0) hx hb dX9_mixed_117 (by decide) ?_
  refine lv_istore (lv' := [(7, .int 0), (6, .int r_27), (5, .int r_18), (4, .int r_9), (0, .ref h0), (1, .int u), (2, .int v), (3, .int w9)]) hx hb dX9_mixed_118 hl (by decide) rfl (fun ls hl => ?_)
  refine lv_iconst (v := 0) hx hb dX9_mixed_120 (by decide) ?_
  refine lv_istore (lv' := [(8, .int 0), (7, .int 0), (6, .int r_27), (5, .int r_18), (4, .int r_9), (0, .ref h0), (1, .int u), (2, .int v), (3, .int w9)]) hx hb dX9_mixed_121 hl (by decide) rfl (fun ls hl => ?_)
  refine lv_iload hx hb dX9_mixed_123 (lv_at hl 0 rfl) ?_
  refine lv_iconst (v := 4) hx hb dX9_mixed_125 (by decide) ?_
  refine lv_icmp_ge (tgt := 189) hx hb dX9_mixed_126 (by decide) (fun c_28 => ?_) (fun c_28 => ?_)
  · skip
    exact absurd c_28 (by decide)
  · skip
    refine lv_iload hx hb dX9_mixed_129 (lv_at hl 1 rfl) ?_
    refine lv_bipush (v := 8) hx hb dX9_mixed_131 (by decide) ?_
    refine lv_ishl hx hb dX9_mixed_133 ?_
    refine my_fold (v := 0) (by decide) ?_
    refine lv_iload hx hb dX9_mixed_134 (lv_at hl 4 rfl) ?_
    refine lv_aload_n hx hb dX9_mixed_136 rfl (lv_at hl 5 rfl) ?_
    refine va_get (D := D) (ci := 9) (v := .ref m12) (C := RX9) (T := TX9) (N := 23) hx hb hts hi_X9 hown hK hP 0 rfl rfl 21 (by decide) (hts _ bw_412) (fun _ h9 => h9) rfl dX9_mixed_137 ?_
    refine lv_iconst (v := 0) hx hb dX9_mixed_140 (by decide) ?_
    refine va_iald hx hb hK hP 3 0 rfl rfl (my_in (by decide) (by decide)) dX9_mixed_141 ?_
    refine lv_topi (fun y_30 ey_30 => ?_)
    refine lv_iload hx hb dX9_mixed_142 (lv_at hl 0 rfl) ?_
    have hPc := hP.sub (ws' := []) [] rfl
    have hDc := hD.sub (ws' := []) [] (by decide) rfl
    have hKc := hK.sub (tys' := []) [] rfl
    have hFc := va_free (wc := []) hD hS hA [] rfl
    refine va_calli (va_runS (As := [.int y_30, .int 0]) (rest := [.int r_9, .int 0]) ⟨hx, hb, hml, hown, hts⟩ (k_X9_channel_0 l D H.size y_30) (va_cwS 2 hts (gS bw_441 bw_438 bw_391 bw_437) rfl rfl rfl (by decide +kernel) ⟨(by rw [hR]; exact Nat.le_of_ble_eq_true rfl), (by rw [hR]; exact Nat.le_of_ble_eq_true rfl)⟩) ⟨cP_blind, cP_at hPc hKc hDc hN⟩ rfl rfl hl.1 rfl (lv_room (Nat.le_of_ble_eq_true rfl)) dX9_mixed_144 ⟨(by rw [hR]; exact Nat.le_of_ble_eq_true rfl), (by rw [hR]; exact Nat.le_of_ble_eq_true rfl)⟩) hS (fun q _ h => hFc q h) hFc (fun r_31 u9 t9 H1 locs ht hvm hr_31 hB hz1 hk1 hS => ?_)
    try dsimp only at hr_31
    have hP1 : va_P D vwCl [] H1 := vP_nil
    have hD1 : va_D (va_A [] H.size) [] := vD_nil
    obtain ⟨hP, hD⟩ := va_join (wr := [(h0, .inr (9, [.ref m1, .ref m2, .ref m3, .int ik, .int wy, .int op, .int cl, .int cx0, .int cx1, .int cy0, .int cy1, .int ds, .ref m4, .ref m5, .ref m6, .ref m7, .ref m8, .ref m9, .int pn, .ref m10, .ref m11, .ref m12, .ref m13])), (m10, .inl (cI, 3, .inl kx)), (m11, .inl (cI, 3, .inl ky)), (m12, .inl (cI, 3, .inl ki))]) (w1 := []) hP hD [] [0, 1, 2, 3] rfl rfl (by decide) (by decide) hk1 hFc hP1 hD1
    clear hz1 hk1 hFc hKc hDc hPc
    generalize H1 = H at hP hS ⊢
    have hP : va_P D vwCl [(h0, .inr (9, [.ref m1, .ref m2, .ref m3, .int ik, .int wy, .int op, .int cl, .int cx0, .int cx1, .int cy0, .int cy1, .int ds, .ref m4, .ref m5, .ref m6, .ref m7, .ref m8, .ref m9, .int pn, .ref m10, .ref m11, .ref m12, .ref m13])), (m10, .inl (cI, 3, .inl kx)), (m11, .inl (cI, 3, .inl ky)), (m12, .inl (cI, 3, .inl ki))] H := hP
    have hD : va_D A [(h0, .inr (9, [.ref m1, .ref m2, .ref m3, .int ik, .int wy, .int op, .int cl, .int cx0, .int cx1, .int cy0, .int cy1, .int ds, .ref m4, .ref m5, .ref m6, .ref m7, .ref m8, .ref m9, .int pn, .ref m10, .ref m11, .ref m12, .ref m13])), (m10, .inl (cI, 3, .inl kx)), (m11, .inl (cI, 3, .inl ky)), (m12, .inl (cI, 3, .inl ki))] := hD
    refine lv_imul hx hb dX9_mixed_147 ?_
    refine lv_topi (fun y_32 ey_32 => ?_)
    refine lv_iload hx hb dX9_mixed_148 (lv_at hl 3 rfl) ?_
    refine lv_aload_n hx hb dX9_mixed_150 rfl (lv_at hl 5 rfl) ?_
    refine va_get (D := D) (ci := 9) (v := .ref m12) (C := RX9) (T := TX9) (N := 23) hx hb hts hi_X9 hown hK hP 0 rfl rfl 21 (by decide) (hts _ bw_412) (fun _ h9 => h9) rfl dX9_mixed_151 ?_
    refine lv_iconst (v := 1) hx hb dX9_mixed_154 (by decide) ?_
    refine va_iald hx hb hK hP 3 0 rfl rfl (my_in (by decide) (by decide)) dX9_mixed_155 ?_
    refine lv_topi (fun y_33 ey_33 => ?_)
    refine lv_iload hx hb dX9_mixed_156 (lv_at hl 0 rfl) ?_
    have hPc := hP.sub (ws' := []) [] rfl
    have hDc := hD.sub (ws' := []) [] (by decide) rfl
    have hKc := hK.sub (tys' := []) [] rfl
    have hFc := va_free (wc := []) hD hS hA [] rfl
    refine va_calli (va_runS (As := [.int y_33, .int 0]) (rest := [.int r_18, .int y_32, .int 0]) ⟨hx, hb, hml, hown, hts⟩ (k_X9_channel_0 l D H.size y_33) (va_cwS 2 hts (gS bw_441 bw_438 bw_391 bw_437) rfl rfl rfl (by decide +kernel) ⟨(by rw [hR]; exact Nat.le_of_ble_eq_true rfl), (by rw [hR]; exact Nat.le_of_ble_eq_true rfl)⟩) ⟨cP_blind, cP_at hPc hKc hDc hN⟩ rfl rfl hl.1 rfl (lv_room (Nat.le_of_ble_eq_true rfl)) dX9_mixed_158 ⟨(by rw [hR]; exact Nat.le_of_ble_eq_true rfl), (by rw [hR]; exact Nat.le_of_ble_eq_true rfl)⟩) hS (fun q _ h => hFc q h) hFc (fun r_34 u9 t9 H1 locs ht hvm hr_34 hB hz1 hk1 hS => ?_)
    try dsimp only at hr_34
    have hP1 : va_P D vwCl [] H1 := vP_nil
    have hD1 : va_D (va_A [] H.size) [] := vD_nil
    obtain ⟨hP, hD⟩ := va_join (wr := [(h0, .inr (9, [.ref m1, .ref m2, .ref m3, .int ik, .int wy, .int op, .int cl, .int cx0, .int cx1, .int cy0, .int cy1, .int ds, .ref m4, .ref m5, .ref m6, .ref m7, .ref m8, .ref m9, .int pn, .ref m10, .ref m11, .ref m12, .ref m13])), (m10, .inl (cI, 3, .inl kx)), (m11, .inl (cI, 3, .inl ky)), (m12, .inl (cI, 3, .inl ki))]) (w1 := []) hP hD [] [0, 1, 2, 3] rfl rfl (by decide) (by decide) hk1 hFc hP1 hD1
    clear hz1 hk1 hFc hKc hDc hPc
    generalize H1 = H at hP hS ⊢
    have hP : va_P D vwCl [(h0, .inr (9, [.ref m1, .ref m2, .ref m3, .int ik, .int wy, .int op, .int cl, .int cx0, .int cx1, .int cy0, .int cy1, .int ds, .ref m4, .ref m5, .ref m6, .ref m7, .ref m8, .ref m9, .int pn, .ref m10, .ref m11, .ref m12, .ref m13])), (m10, .inl (cI, 3, .inl kx)), (m11, .inl (cI, 3, .inl ky)), (m12, .inl (cI, 3, .inl ki))] H := hP
    have hD : va_D A [(h0, .inr (9, [.ref m1, .ref m2, .ref m3, .int ik, .int wy, .int op, .int cl, .int cx0, .int cx1, .int cy0, .int cy1, .int ds, .ref m4, .ref m5, .ref m6, .ref m7, .ref m8, .ref m9, .int pn, .ref m10, .ref m11, .ref m12, .ref m13])), (m10, .inl (cI, 3, .inl kx)), (m11, .inl (cI, 3, .inl ky)), (m12, .inl (cI, 3, .inl ki))] := hD
    refine lv_imul hx hb dX9_mixed_161 ?_
    refine lv_topi (fun y_35 ey_35 => ?_)
    refine lv_iadd hx hb dX9_mixed_162 ?_
    refine lv_topi (fun y_36 ey_36 => ?_)
    refine lv_iload hx hb dX9_mixed_163 (lv_at hl 2 rfl) ?_
    refine lv_aload_n hx hb dX9_mixed_165 rfl (lv_at hl 5 rfl) ?_
    refine va_get (D := D) (ci := 9) (v := .ref m12) (C := RX9) (T := TX9) (N := 23) hx hb hts hi_X9 hown hK hP 0 rfl rfl 21 (by decide) (hts _ bw_412) (fun _ h9 => h9) rfl dX9_mixed_166 ?_
    refine lv_iconst (v := 2) hx hb dX9_mixed_169 (by decide) ?_
    refine va_iald hx hb hK hP 3 0 rfl rfl (my_in (by decide) (by decide)) dX9_mixed_170 ?_
    refine lv_topi (fun y_37 ey_37 => ?_)
    refine lv_iload hx hb dX9_mixed_171 (lv_at hl 0 rfl) ?_
    have hPc := hP.sub (ws' := []) [] rfl
    have hDc := hD.sub (ws' := []) [] (by decide) rfl
    have hKc := hK.sub (tys' := []) [] rfl
    have hFc := va_free (wc := []) hD hS hA [] rfl
    refine va_calli (va_runS (As := [.int y_37, .int 0]) (rest := [.int r_27, .int y_36, .int 0]) ⟨hx, hb, hml, hown, hts⟩ (k_X9_channel_0 l D H.size y_37) (va_cwS 2 hts (gS bw_441 bw_438 bw_391 bw_437) rfl rfl rfl (by decide +kernel) ⟨(by rw [hR]; exact Nat.le_of_ble_eq_true rfl), (by rw [hR]; exact Nat.le_of_ble_eq_true rfl)⟩) ⟨cP_blind, cP_at hPc hKc hDc hN⟩ rfl rfl hl.1 rfl (lv_room (Nat.le_of_ble_eq_true rfl)) dX9_mixed_173 ⟨(by rw [hR]; exact Nat.le_of_ble_eq_true rfl), (by rw [hR]; exact Nat.le_of_ble_eq_true rfl)⟩) hS (fun q _ h => hFc q h) hFc (fun r_38 u9 t9 H1 locs ht hvm hr_38 hB hz1 hk1 hS => ?_)
    try dsimp only at hr_38
    have hP1 : va_P D vwCl [] H1 := vP_nil
    have hD1 : va_D (va_A [] H.size) [] := vD_nil
    obtain ⟨hP, hD⟩ := va_join (wr := [(h0, .inr (9, [.ref m1, .ref m2, .ref m3, .int ik, .int wy, .int op, .int cl, .int cx0, .int cx1, .int cy0, .int cy1, .int ds, .ref m4, .ref m5, .ref m6, .ref m7, .ref m8, .ref m9, .int pn, .ref m10, .ref m11, .ref m12, .ref m13])), (m10, .inl (cI, 3, .inl kx)), (m11, .inl (cI, 3, .inl ky)), (m12, .inl (cI, 3, .inl ki))]) (w1 := []) hP hD [] [0, 1, 2, 3] rfl rfl (by decide) (by decide) hk1 hFc hP1 hD1
    clear hz1 hk1 hFc hKc hDc hPc
    generalize H1 = H at hP hS ⊢
    have hP : va_P D vwCl [(h0, .inr (9, [.ref m1, .ref m2, .ref m3, .int ik, .int wy, .int op, .int cl, .int cx0, .int cx1, .int cy0, .int cy1, .int ds, .ref m4, .ref m5, .ref m6, .ref m7, .ref m8, .ref m9, .int pn, .ref m10, .ref m11, .ref m12, .ref m13])), (m10, .inl (cI, 3, .inl kx)), (m11, .inl (cI, 3, .inl ky)), (m12, .inl (cI, 3, .inl ki))] H := hP
    have hD : va_D A [(h0, .inr (9, [.ref m1, .ref m2, .ref m3, .int ik, .int wy, .int op, .int cl, .int cx0, .int cx1, .int cy0, .int cy1, .int ds, .ref m4, .ref m5, .ref m6, .ref m7, .ref m8, .ref m9, .int pn, .ref m10, .ref m11, .ref m12, .ref m13])), (m10, .inl (cI, 3, .inl kx)), (m11, .inl (cI, 3, .inl ky)), (m12, .inl (cI, 3, .inl ki))] := hD
    refine lv_imul hx hb dX9_mixed_176 ?_
    refine lv_topi (fun y_39 ey_39 => ?_)
    refine lv_iadd hx hb dX9_mixed_177 ?_
    refine lv_topi (fun y_40 ey_40 => ?_)
    refine lv_iload_n hx hb dX9_mixed_178 rfl (lv_at hl 8 rfl) ?_
    refine lv_idiv hx hb dX9_mixed_179 hw9 ?_
    refine lv_topi (fun y_41 ey_41 => ?_)
    refine lv_ior hx hb dX9_mixed_180 ?_
    refine lv_topi (fun y_42 ey_42 => ?_)
    refine lv_istore (lv' := [(7, .int y_42), (8, .int 0), (6, .int r_27), (5, .int r_18), (4, .int r_9), (0, .ref h0), (1, .int u), (2, .int v), (3, .int w9)]) hx hb dX9_mixed_181 hl (by decide) rfl (fun ls hl => ?_)
    refine lv_iinc (v := 1) (lv' := [(8, .int 1), (7, .int y_42), (6, .int r_27), (5, .int r_18), (4, .int r_9), (0, .ref h0), (1, .int u), (2, .int v), (3, .int w9)]) hx hb dX9_mixed_183 hl (k := 1) rfl (by decide) (by decide) rfl (fun ls hl => ?_)
    refine lv_goto (tgt := 123) hx hb dX9_mixed_186 (by decide) ?_
    refine lv_iload hx hb dX9_mixed_123 (lv_at hl 0 rfl) ?_
    refine lv_iconst (v := 4) hx hb dX9_mixed_125 (by decide) ?_
    refine lv_icmp_ge (tgt := 189) hx hb dX9_mixed_126 (by decide) (fun c_43 => ?_) (fun c_43 => ?_)
    · skip
      exact absurd c_43 (by decide)
    · skip
      refine lv_iload hx hb dX9_mixed_129 (lv_at hl 1 rfl) ?_
      refine lv_bipush (v := 8) hx hb dX9_mixed_131 (by decide) ?_
      refine lv_ishl hx hb dX9_mixed_133 ?_
      refine lv_topi (fun y_45 ey_45 => ?_)
      refine lv_iload hx hb dX9_mixed_134 (lv_at hl 4 rfl) ?_
      refine lv_aload_n hx hb dX9_mixed_136 rfl (lv_at hl 5 rfl) ?_
      refine va_get (D := D) (ci := 9) (v := .ref m12) (C := RX9) (T := TX9) (N := 23) hx hb hts hi_X9 hown hK hP 0 rfl rfl 21 (by decide) (hts _ bw_412) (fun _ h9 => h9) rfl dX9_mixed_137 ?_
      refine lv_iconst (v := 0) hx hb dX9_mixed_140 (by decide) ?_
      refine va_iald hx hb hK hP 3 0 rfl rfl (my_in (by decide) (by decide)) dX9_mixed_141 ?_
      refine lv_topi (fun y_46 ey_46 => ?_)
      refine lv_iload hx hb dX9_mixed_142 (lv_at hl 0 rfl) ?_
      have hPc := hP.sub (ws' := []) [] rfl
      have hDc := hD.sub (ws' := []) [] (by decide) rfl
      have hKc := hK.sub (tys' := []) [] rfl
      have hFc := va_free (wc := []) hD hS hA [] rfl
      refine va_calli (va_runS (As := [.int y_46, .int 1]) (rest := [.int r_9, .int y_45]) ⟨hx, hb, hml, hown, hts⟩ (k_X9_channel_1 l D H.size y_46) (va_cwS 2 hts (gS bw_441 bw_438 bw_391 bw_437) rfl rfl rfl (by decide +kernel) ⟨(by rw [hR]; exact Nat.le_of_ble_eq_true rfl), (by rw [hR]; exact Nat.le_of_ble_eq_true rfl)⟩) ⟨cP_blind, cP_at hPc hKc hDc hN⟩ rfl rfl hl.1 rfl (lv_room (Nat.le_of_ble_eq_true rfl)) dX9_mixed_144 ⟨(by rw [hR]; exact Nat.le_of_ble_eq_true rfl), (by rw [hR]; exact Nat.le_of_ble_eq_true rfl)⟩) hS (fun q _ h => hFc q h) hFc (fun r_47 u9 t9 H1 locs ht hvm hr_47 hB hz1 hk1 hS => ?_)
      try dsimp only at hr_47
      have hP1 : va_P D vwCl [] H1 := vP_nil
      have hD1 : va_D (va_A [] H.size) [] := vD_nil
      obtain ⟨hP, hD⟩ := va_join (wr := [(h0, .inr (9, [.ref m1, .ref m2, .ref m3, .int ik, .int wy, .int op, .int cl, .int cx0, .int cx1, .int cy0, .int cy1, .int ds, .ref m4, .ref m5, .ref m6, .ref m7, .ref m8, .ref m9, .int pn, .ref m10, .ref m11, .ref m12, .ref m13])), (m10, .inl (cI, 3, .inl kx)), (m11, .inl (cI, 3, .inl ky)), (m12, .inl (cI, 3, .inl ki))]) (w1 := []) hP hD [] [0, 1, 2, 3] rfl rfl (by decide) (by decide) hk1 hFc hP1 hD1
      clear hz1 hk1 hFc hKc hDc hPc
      generalize H1 = H at hP hS ⊢
      have hP : va_P D vwCl [(h0, .inr (9, [.ref m1, .ref m2, .ref m3, .int ik, .int wy, .int op, .int cl, .int cx0, .int cx1, .int cy0, .int cy1, .int ds, .ref m4, .ref m5, .ref m6, .ref m7, .ref m8, .ref m9, .int pn, .ref m10, .ref m11, .ref m12, .ref m13])), (m10, .inl (cI, 3, .inl kx)), (m11, .inl (cI, 3, .inl ky)), (m12, .inl (cI, 3, .inl ki))] H := hP
      have hD : va_D A [(h0, .inr (9, [.ref m1, .ref m2, .ref m3, .int ik, .int wy, .int op, .int cl, .int cx0, .int cx1, .int cy0, .int cy1, .int ds, .ref m4, .ref m5, .ref m6, .ref m7, .ref m8, .ref m9, .int pn, .ref m10, .ref m11, .ref m12, .ref m13])), (m10, .inl (cI, 3, .inl kx)), (m11, .inl (cI, 3, .inl ky)), (m12, .inl (cI, 3, .inl ki))] := hD
      refine lv_imul hx hb dX9_mixed_147 ?_
      refine lv_topi (fun y_48 ey_48 => ?_)
      refine lv_iload hx hb dX9_mixed_148 (lv_at hl 3 rfl) ?_
      refine lv_aload_n hx hb dX9_mixed_150 rfl (lv_at hl 5 rfl) ?_
      refine va_get (D := D) (ci := 9) (v := .ref m12) (C := RX9) (T := TX9) (N := 23) hx hb hts hi_X9 hown hK hP 0 rfl rfl 21 (by decide) (hts _ bw_412) (fun _ h9 => h9) rfl dX9_mixed_151 ?_
      refine lv_iconst (v := 1) hx hb dX9_mixed_154 (by decide) ?_
      refine va_iald hx hb hK hP 3 0 rfl rfl (my_in (by decide) (by decide)) dX9_mixed_155 ?_
      refine lv_topi (fun y_49 ey_49 => ?_)
      refine lv_iload hx hb dX9_mixed_156 (lv_at hl 0 rfl) ?_
      have hPc := hP.sub (ws' := []) [] rfl
      have hDc := hD.sub (ws' := []) [] (by decide) rfl
      have hKc := hK.sub (tys' := []) [] rfl
      have hFc := va_free (wc := []) hD hS hA [] rfl
      refine va_calli (va_runS (As := [.int y_49, .int 1]) (rest := [.int r_18, .int y_48, .int y_45]) ⟨hx, hb, hml, hown, hts⟩ (k_X9_channel_1 l D H.size y_49) (va_cwS 2 hts (gS bw_441 bw_438 bw_391 bw_437) rfl rfl rfl (by decide +kernel) ⟨(by rw [hR]; exact Nat.le_of_ble_eq_true rfl), (by rw [hR]; exact Nat.le_of_ble_eq_true rfl)⟩) ⟨cP_blind, cP_at hPc hKc hDc hN⟩ rfl rfl hl.1 rfl (lv_room (Nat.le_of_ble_eq_true rfl)) dX9_mixed_158 ⟨(by rw [hR]; exact Nat.le_of_ble_eq_true rfl), (by rw [hR]; exact Nat.le_of_ble_eq_true rfl)⟩) hS (fun q _ h => hFc q h) hFc (fun r_50 u9 t9 H1 locs ht hvm hr_50 hB hz1 hk1 hS => ?_)
      try dsimp only at hr_50
      have hP1 : va_P D vwCl [] H1 := vP_nil
      have hD1 : va_D (va_A [] H.size) [] := vD_nil
      obtain ⟨hP, hD⟩ := va_join (wr := [(h0, .inr (9, [.ref m1, .ref m2, .ref m3, .int ik, .int wy, .int op, .int cl, .int cx0, .int cx1, .int cy0, .int cy1, .int ds, .ref m4, .ref m5, .ref m6, .ref m7, .ref m8, .ref m9, .int pn, .ref m10, .ref m11, .ref m12, .ref m13])), (m10, .inl (cI, 3, .inl kx)), (m11, .inl (cI, 3, .inl ky)), (m12, .inl (cI, 3, .inl ki))]) (w1 := []) hP hD [] [0, 1, 2, 3] rfl rfl (by decide) (by decide) hk1 hFc hP1 hD1
      clear hz1 hk1 hFc hKc hDc hPc
      generalize H1 = H at hP hS ⊢
      have hP : va_P D vwCl [(h0, .inr (9, [.ref m1, .ref m2, .ref m3, .int ik, .int wy, .int op, .int cl, .int cx0, .int cx1, .int cy0, .int cy1, .int ds, .ref m4, .ref m5, .ref m6, .ref m7, .ref m8, .ref m9, .int pn, .ref m10, .ref m11, .ref m12, .ref m13])), (m10, .inl (cI, 3, .inl kx)), (m11, .inl (cI, 3, .inl ky)), (m12, .inl (cI, 3, .inl ki))] H := hP
      have hD : va_D A [(h0, .inr (9, [.ref m1, .ref m2, .ref m3, .int ik, .int wy, .int op, .int cl, .int cx0, .int cx1, .int cy0, .int cy1, .int ds, .ref m4, .ref m5, .ref m6, .ref m7, .ref m8, .ref m9, .int pn, .ref m10, .ref m11, .ref m12, .ref m13])), (m10, .inl (cI, 3, .inl kx)), (m11, .inl (cI, 3, .inl ky)), (m12, .inl (cI, 3, .inl ki))] := hD
      refine lv_imul hx hb dX9_mixed_161 ?_
      refine lv_topi (fun y_51 ey_51 => ?_)
      refine lv_iadd hx hb dX9_mixed_162 ?_
      refine lv_topi (fun y_52 ey_52 => ?_)
      refine lv_iload hx hb dX9_mixed_163 (lv_at hl 2 rfl) ?_
      refine lv_aload_n hx hb dX9_mixed_165 rfl (lv_at hl 5 rfl) ?_
      refine va_get (D := D) (ci := 9) (v := .ref m12) (C := RX9) (T := TX9) (N := 23) hx hb hts hi_X9 hown hK hP 0 rfl rfl 21 (by decide) (hts _ bw_412) (fun _ h9 => h9) rfl dX9_mixed_166 ?_
      refine lv_iconst (v := 2) hx hb dX9_mixed_169 (by decide) ?_
      refine va_iald hx hb hK hP 3 0 rfl rfl (my_in (by decide) (by decide)) dX9_mixed_170 ?_
      refine lv_topi (fun y_53 ey_53 => ?_)
      refine lv_iload hx hb dX9_mixed_171 (lv_at hl 0 rfl) ?_
      have hPc := hP.sub (ws' := []) [] rfl
      have hDc := hD.sub (ws' := []) [] (by decide) rfl
      have hKc := hK.sub (tys' := []) [] rfl
      have hFc := va_free (wc := []) hD hS hA [] rfl
      refine va_calli (va_runS (As := [.int y_53, .int 1]) (rest := [.int r_27, .int y_52, .int y_45]) ⟨hx, hb, hml, hown, hts⟩ (k_X9_channel_1 l D H.size y_53) (va_cwS 2 hts (gS bw_441 bw_438 bw_391 bw_437) rfl rfl rfl (by decide +kernel) ⟨(by rw [hR]; exact Nat.le_of_ble_eq_true rfl), (by rw [hR]; exact Nat.le_of_ble_eq_true rfl)⟩) ⟨cP_blind, cP_at hPc hKc hDc hN⟩ rfl rfl hl.1 rfl (lv_room (Nat.le_of_ble_eq_true rfl)) dX9_mixed_173 ⟨(by rw [hR]; exact Nat.le_of_ble_eq_true rfl), (by rw [hR]; exact Nat.le_of_ble_eq_true rfl)⟩) hS (fun q _ h => hFc q h) hFc (fun r_54 u9 t9 H1 locs ht hvm hr_54 hB hz1 hk1 hS => ?_)
      try dsimp only at hr_54
      have hP1 : va_P D vwCl [] H1 := vP_nil
      have hD1 : va_D (va_A [] H.size) [] := vD_nil
      obtain ⟨hP, hD⟩ := va_join (wr := [(h0, .inr (9, [.ref m1, .ref m2, .ref m3, .int ik, .int wy, .int op, .int cl, .int cx0, .int cx1, .int cy0, .int cy1, .int ds, .ref m4, .ref m5, .ref m6, .ref m7, .ref m8, .ref m9, .int pn, .ref m10, .ref m11, .ref m12, .ref m13])), (m10, .inl (cI, 3, .inl kx)), (m11, .inl (cI, 3, .inl ky)), (m12, .inl (cI, 3, .inl ki))]) (w1 := []) hP hD [] [0, 1, 2, 3] rfl rfl (by decide) (by decide) hk1 hFc hP1 hD1
      clear hz1 hk1 hFc hKc hDc hPc
      generalize H1 = H at hP hS ⊢
      have hP : va_P D vwCl [(h0, .inr (9, [.ref m1, .ref m2, .ref m3, .int ik, .int wy, .int op, .int cl, .int cx0, .int cx1, .int cy0, .int cy1, .int ds, .ref m4, .ref m5, .ref m6, .ref m7, .ref m8, .ref m9, .int pn, .ref m10, .ref m11, .ref m12, .ref m13])), (m10, .inl (cI, 3, .inl kx)), (m11, .inl (cI, 3, .inl ky)), (m12, .inl (cI, 3, .inl ki))] H := hP
      have hD : va_D A [(h0, .inr (9, [.ref m1, .ref m2, .ref m3, .int ik, .int wy, .int op, .int cl, .int cx0, .int cx1, .int cy0, .int cy1, .int ds, .ref m4, .ref m5, .ref m6, .ref m7, .ref m8, .ref m9, .int pn, .ref m10, .ref m11, .ref m12, .ref m13])), (m10, .inl (cI, 3, .inl kx)), (m11, .inl (cI, 3, .inl ky)), (m12, .inl (cI, 3, .inl ki))] := hD
      refine lv_imul hx hb dX9_mixed_176 ?_
      refine lv_topi (fun y_55 ey_55 => ?_)
      refine lv_iadd hx hb dX9_mixed_177 ?_
      refine lv_topi (fun y_56 ey_56 => ?_)
      refine lv_iload_n hx hb dX9_mixed_178 rfl (lv_at hl 8 rfl) ?_
      refine lv_idiv hx hb dX9_mixed_179 hw9 ?_
      refine lv_topi (fun y_57 ey_57 => ?_)
      refine lv_ior hx hb dX9_mixed_180 ?_
      refine lv_topi (fun y_58 ey_58 => ?_)
      refine lv_istore (lv' := [(7, .int y_58), (8, .int 1), (6, .int r_27), (5, .int r_18), (4, .int r_9), (0, .ref h0), (1, .int u), (2, .int v), (3, .int w9)]) hx hb dX9_mixed_181 hl (by decide) rfl (fun ls hl => ?_)
      refine lv_iinc (v := 2) (lv' := [(8, .int 2), (7, .int y_58), (6, .int r_27), (5, .int r_18), (4, .int r_9), (0, .ref h0), (1, .int u), (2, .int v), (3, .int w9)]) hx hb dX9_mixed_183 hl (k := 1) rfl (by decide) (by decide) rfl (fun ls hl => ?_)
      refine lv_goto (tgt := 123) hx hb dX9_mixed_186 (by decide) ?_
      refine lv_iload hx hb dX9_mixed_123 (lv_at hl 0 rfl) ?_
      refine lv_iconst (v := 4) hx hb dX9_mixed_125 (by decide) ?_
      refine lv_icmp_ge (tgt := 189) hx hb dX9_mixed_126 (by decide) (fun c_59 => ?_) (fun c_59 => ?_)
      · skip
        exact absurd c_59 (by decide)
      · skip
        refine lv_iload hx hb dX9_mixed_129 (lv_at hl 1 rfl) ?_
        refine lv_bipush (v := 8) hx hb dX9_mixed_131 (by decide) ?_
        refine lv_ishl hx hb dX9_mixed_133 ?_
        refine lv_topi (fun y_61 ey_61 => ?_)
        refine lv_iload hx hb dX9_mixed_134 (lv_at hl 4 rfl) ?_
        refine lv_aload_n hx hb dX9_mixed_136 rfl (lv_at hl 5 rfl) ?_
        refine va_get (D := D) (ci := 9) (v := .ref m12) (C := RX9) (T := TX9) (N := 23) hx hb hts hi_X9 hown hK hP 0 rfl rfl 21 (by decide) (hts _ bw_412) (fun _ h9 => h9) rfl dX9_mixed_137 ?_
        refine lv_iconst (v := 0) hx hb dX9_mixed_140 (by decide) ?_
        refine va_iald hx hb hK hP 3 0 rfl rfl (my_in (by decide) (by decide)) dX9_mixed_141 ?_
        refine lv_topi (fun y_62 ey_62 => ?_)
        refine lv_iload hx hb dX9_mixed_142 (lv_at hl 0 rfl) ?_
        have hPc := hP.sub (ws' := []) [] rfl
        have hDc := hD.sub (ws' := []) [] (by decide) rfl
        have hKc := hK.sub (tys' := []) [] rfl
        have hFc := va_free (wc := []) hD hS hA [] rfl
        refine va_calli (va_runS (As := [.int y_62, .int 2]) (rest := [.int r_9, .int y_61]) ⟨hx, hb, hml, hown, hts⟩ (k_X9_channel_2 l D H.size y_62) (va_cwS 2 hts (gS bw_441 bw_438 bw_391 bw_437) rfl rfl rfl (by decide +kernel) ⟨(by rw [hR]; exact Nat.le_of_ble_eq_true rfl), (by rw [hR]; exact Nat.le_of_ble_eq_true rfl)⟩) ⟨cP_blind, cP_at hPc hKc hDc hN⟩ rfl rfl hl.1 rfl (lv_room (Nat.le_of_ble_eq_true rfl)) dX9_mixed_144 ⟨(by rw [hR]; exact Nat.le_of_ble_eq_true rfl), (by rw [hR]; exact Nat.le_of_ble_eq_true rfl)⟩) hS (fun q _ h => hFc q h) hFc (fun r_63 u9 t9 H1 locs ht hvm hr_63 hB hz1 hk1 hS => ?_)
        try dsimp only at hr_63
        have hP1 : va_P D vwCl [] H1 := vP_nil
        have hD1 : va_D (va_A [] H.size) [] := vD_nil
        obtain ⟨hP, hD⟩ := va_join (wr := [(h0, .inr (9, [.ref m1, .ref m2, .ref m3, .int ik, .int wy, .int op, .int cl, .int cx0, .int cx1, .int cy0, .int cy1, .int ds, .ref m4, .ref m5, .ref m6, .ref m7, .ref m8, .ref m9, .int pn, .ref m10, .ref m11, .ref m12, .ref m13])), (m10, .inl (cI, 3, .inl kx)), (m11, .inl (cI, 3, .inl ky)), (m12, .inl (cI, 3, .inl ki))]) (w1 := []) hP hD [] [0, 1, 2, 3] rfl rfl (by decide) (by decide) hk1 hFc hP1 hD1
        clear hz1 hk1 hFc hKc hDc hPc
        generalize H1 = H at hP hS ⊢
        have hP : va_P D vwCl [(h0, .inr (9, [.ref m1, .ref m2, .ref m3, .int ik, .int wy, .int op, .int cl, .int cx0, .int cx1, .int cy0, .int cy1, .int ds, .ref m4, .ref m5, .ref m6, .ref m7, .ref m8, .ref m9, .int pn, .ref m10, .ref m11, .ref m12, .ref m13])), (m10, .inl (cI, 3, .inl kx)), (m11, .inl (cI, 3, .inl ky)), (m12, .inl (cI, 3, .inl ki))] H := hP
        have hD : va_D A [(h0, .inr (9, [.ref m1, .ref m2, .ref m3, .int ik, .int wy, .int op, .int cl, .int cx0, .int cx1, .int cy0, .int cy1, .int ds, .ref m4, .ref m5, .ref m6, .ref m7, .ref m8, .ref m9, .int pn, .ref m10, .ref m11, .ref m12, .ref m13])), (m10, .inl (cI, 3, .inl kx)), (m11, .inl (cI, 3, .inl ky)), (m12, .inl (cI, 3, .inl ki))] := hD
        refine lv_imul hx hb dX9_mixed_147 ?_
        refine lv_topi (fun y_64 ey_64 => ?_)
        refine lv_iload hx hb dX9_mixed_148 (lv_at hl 3 rfl) ?_
        refine lv_aload_n hx hb dX9_mixed_150 rfl (lv_at hl 5 rfl) ?_
        refine va_get (D := D) (ci := 9) (v := .ref m12) (C := RX9) (T := TX9) (N := 23) hx hb hts hi_X9 hown hK hP 0 rfl rfl 21 (by decide) (hts _ bw_412) (fun _ h9 => h9) rfl dX9_mixed_151 ?_
        refine lv_iconst (v := 1) hx hb dX9_mixed_154 (by decide) ?_
        refine va_iald hx hb hK hP 3 0 rfl rfl (my_in (by decide) (by decide)) dX9_mixed_155 ?_
        refine lv_topi (fun y_65 ey_65 => ?_)
        refine lv_iload hx hb dX9_mixed_156 (lv_at hl 0 rfl) ?_
        have hPc := hP.sub (ws' := []) [] rfl
        have hDc := hD.sub (ws' := []) [] (by decide) rfl
        have hKc := hK.sub (tys' := []) [] rfl
        have hFc := va_free (wc := []) hD hS hA [] rfl
        refine va_calli (va_runS (As := [.int y_65, .int 2]) (rest := [.int r_18, .int y_64, .int y_61]) ⟨hx, hb, hml, hown, hts⟩ (k_X9_channel_2 l D H.size y_65) (va_cwS 2 hts (gS bw_441 bw_438 bw_391 bw_437) rfl rfl rfl (by decide +kernel) ⟨(by rw [hR]; exact Nat.le_of_ble_eq_true rfl), (by rw [hR]; exact Nat.le_of_ble_eq_true rfl)⟩) ⟨cP_blind, cP_at hPc hKc hDc hN⟩ rfl rfl hl.1 rfl (lv_room (Nat.le_of_ble_eq_true rfl)) dX9_mixed_158 ⟨(by rw [hR]; exact Nat.le_of_ble_eq_true rfl), (by rw [hR]; exact Nat.le_of_ble_eq_true rfl)⟩) hS (fun q _ h => hFc q h) hFc (fun r_66 u9 t9 H1 locs ht hvm hr_66 hB hz1 hk1 hS => ?_)
        try dsimp only at hr_66
        have hP1 : va_P D vwCl [] H1 := vP_nil
        have hD1 : va_D (va_A [] H.size) [] := vD_nil
        obtain ⟨hP, hD⟩ := va_join (wr := [(h0, .inr (9, [.ref m1, .ref m2, .ref m3, .int ik, .int wy, .int op, .int cl, .int cx0, .int cx1, .int cy0, .int cy1, .int ds, .ref m4, .ref m5, .ref m6, .ref m7, .ref m8, .ref m9, .int pn, .ref m10, .ref m11, .ref m12, .ref m13])), (m10, .inl (cI, 3, .inl kx)), (m11, .inl (cI, 3, .inl ky)), (m12, .inl (cI, 3, .inl ki))]) (w1 := []) hP hD [] [0, 1, 2, 3] rfl rfl (by decide) (by decide) hk1 hFc hP1 hD1
        clear hz1 hk1 hFc hKc hDc hPc
        generalize H1 = H at hP hS ⊢
        have hP : va_P D vwCl [(h0, .inr (9, [.ref m1, .ref m2, .ref m3, .int ik, .int wy, .int op, .int cl, .int cx0, .int cx1, .int cy0, .int cy1, .int ds, .ref m4, .ref m5, .ref m6, .ref m7, .ref m8, .ref m9, .int pn, .ref m10, .ref m11, .ref m12, .ref m13])), (m10, .inl (cI, 3, .inl kx)), (m11, .inl (cI, 3, .inl ky)), (m12, .inl (cI, 3, .inl ki))] H := hP
        have hD : va_D A [(h0, .inr (9, [.ref m1, .ref m2, .ref m3, .int ik, .int wy, .int op, .int cl, .int cx0, .int cx1, .int cy0, .int cy1, .int ds, .ref m4, .ref m5, .ref m6, .ref m7, .ref m8, .ref m9, .int pn, .ref m10, .ref m11, .ref m12, .ref m13])), (m10, .inl (cI, 3, .inl kx)), (m11, .inl (cI, 3, .inl ky)), (m12, .inl (cI, 3, .inl ki))] := hD
        refine lv_imul hx hb dX9_mixed_161 ?_
        refine lv_topi (fun y_67 ey_67 => ?_)
        refine lv_iadd hx hb dX9_mixed_162 ?_
        refine lv_topi (fun y_68 ey_68 => ?_)
        refine lv_iload hx hb dX9_mixed_163 (lv_at hl 2 rfl) ?_
        refine lv_aload_n hx hb dX9_mixed_165 rfl (lv_at hl 5 rfl) ?_
        refine va_get (D := D) (ci := 9) (v := .ref m12) (C := RX9) (T := TX9) (N := 23) hx hb hts hi_X9 hown hK hP 0 rfl rfl 21 (by decide) (hts _ bw_412) (fun _ h9 => h9) rfl dX9_mixed_166 ?_
        refine lv_iconst (v := 2) hx hb dX9_mixed_169 (by decide) ?_
        refine va_iald hx hb hK hP 3 0 rfl rfl (my_in (by decide) (by decide)) dX9_mixed_170 ?_
        refine lv_topi (fun y_69 ey_69 => ?_)
        refine lv_iload hx hb dX9_mixed_171 (lv_at hl 0 rfl) ?_
        have hPc := hP.sub (ws' := []) [] rfl
        have hDc := hD.sub (ws' := []) [] (by decide) rfl
        have hKc := hK.sub (tys' := []) [] rfl
        have hFc := va_free (wc := []) hD hS hA [] rfl
        refine va_calli (va_runS (As := [.int y_69, .int 2]) (rest := [.int r_27, .int y_68, .int y_61]) ⟨hx, hb, hml, hown, hts⟩ (k_X9_channel_2 l D H.size y_69) (va_cwS 2 hts (gS bw_441 bw_438 bw_391 bw_437) rfl rfl rfl (by decide +kernel) ⟨(by rw [hR]; exact Nat.le_of_ble_eq_true rfl), (by rw [hR]; exact Nat.le_of_ble_eq_true rfl)⟩) ⟨cP_blind, cP_at hPc hKc hDc hN⟩ rfl rfl hl.1 rfl (lv_room (Nat.le_of_ble_eq_true rfl)) dX9_mixed_173 ⟨(by rw [hR]; exact Nat.le_of_ble_eq_true rfl), (by rw [hR]; exact Nat.le_of_ble_eq_true rfl)⟩) hS (fun q _ h => hFc q h) hFc (fun r_70 u9 t9 H1 locs ht hvm hr_70 hB hz1 hk1 hS => ?_)
        try dsimp only at hr_70
        have hP1 : va_P D vwCl [] H1 := vP_nil
        have hD1 : va_D (va_A [] H.size) [] := vD_nil
        obtain ⟨hP, hD⟩ := va_join (wr := [(h0, .inr (9, [.ref m1, .ref m2, .ref m3, .int ik, .int wy, .int op, .int cl, .int cx0, .int cx1, .int cy0, .int cy1, .int ds, .ref m4, .ref m5, .ref m6, .ref m7, .ref m8, .ref m9, .int pn, .ref m10, .ref m11, .ref m12, .ref m13])), (m10, .inl (cI, 3, .inl kx)), (m11, .inl (cI, 3, .inl ky)), (m12, .inl (cI, 3, .inl ki))]) (w1 := []) hP hD [] [0, 1, 2, 3] rfl rfl (by decide) (by decide) hk1 hFc hP1 hD1
        clear hz1 hk1 hFc hKc hDc hPc
        generalize H1 = H at hP hS ⊢
        have hP : va_P D vwCl [(h0, .inr (9, [.ref m1, .ref m2, .ref m3, .int ik, .int wy, .int op, .int cl, .int cx0, .int cx1, .int cy0, .int cy1, .int ds, .ref m4, .ref m5, .ref m6, .ref m7, .ref m8, .ref m9, .int pn, .ref m10, .ref m11, .ref m12, .ref m13])), (m10, .inl (cI, 3, .inl kx)), (m11, .inl (cI, 3, .inl ky)), (m12, .inl (cI, 3, .inl ki))] H := hP
        have hD : va_D A [(h0, .inr (9, [.ref m1, .ref m2, .ref m3, .int ik, .int wy, .int op, .int cl, .int cx0, .int cx1, .int cy0, .int cy1, .int ds, .ref m4, .ref m5, .ref m6, .ref m7, .ref m8, .ref m9, .int pn, .ref m10, .ref m11, .ref m12, .ref m13])), (m10, .inl (cI, 3, .inl kx)), (m11, .inl (cI, 3, .inl ky)), (m12, .inl (cI, 3, .inl ki))] := hD
        refine lv_imul hx hb dX9_mixed_176 ?_
        refine lv_topi (fun y_71 ey_71 => ?_)
        refine lv_iadd hx hb dX9_mixed_177 ?_
        refine lv_topi (fun y_72 ey_72 => ?_)
        refine lv_iload_n hx hb dX9_mixed_178 rfl (lv_at hl 8 rfl) ?_
        refine lv_idiv hx hb dX9_mixed_179 hw9 ?_
        refine lv_topi (fun y_73 ey_73 => ?_)
        refine lv_ior hx hb dX9_mixed_180 ?_
        refine lv_topi (fun y_74 ey_74 => ?_)
        refine lv_istore (lv' := [(7, .int y_74), (8, .int 2), (6, .int r_27), (5, .int r_18), (4, .int r_9), (0, .ref h0), (1, .int u), (2, .int v), (3, .int w9)]) hx hb dX9_mixed_181 hl (by decide) rfl (fun ls hl => ?_)
        refine lv_iinc (v := 3) (lv' := [(8, .int 3), (7, .int y_74), (6, .int r_27), (5, .int r_18), (4, .int r_9), (0, .ref h0), (1, .int u), (2, .int v), (3, .int w9)]) hx hb dX9_mixed_183 hl (k := 1) rfl (by decide) (by decide) rfl (fun ls hl => ?_)
        refine lv_goto (tgt := 123) hx hb dX9_mixed_186 (by decide) ?_
        refine lv_iload hx hb dX9_mixed_123 (lv_at hl 0 rfl) ?_
        refine lv_iconst (v := 4) hx hb dX9_mixed_125 (by decide) ?_
        refine lv_icmp_ge (tgt := 189) hx hb dX9_mixed_126 (by decide) (fun c_75 => ?_) (fun c_75 => ?_)
        · skip
          exact absurd c_75 (by decide)
        · skip
          refine lv_iload hx hb dX9_mixed_129 (lv_at hl 1 rfl) ?_
          refine lv_bipush (v := 8) hx hb dX9_mixed_131 (by decide) ?_
          refine lv_ishl hx hb dX9_mixed_133 ?_
          refine lv_topi (fun y_77 ey_77 => ?_)
          refine lv_iload hx hb dX9_mixed_134 (lv_at hl 4 rfl) ?_
          refine lv_aload_n hx hb dX9_mixed_136 rfl (lv_at hl 5 rfl) ?_
          refine va_get (D := D) (ci := 9) (v := .ref m12) (C := RX9) (T := TX9) (N := 23) hx hb hts hi_X9 hown hK hP 0 rfl rfl 21 (by decide) (hts _ bw_412) (fun _ h9 => h9) rfl dX9_mixed_137 ?_
          refine lv_iconst (v := 0) hx hb dX9_mixed_140 (by decide) ?_
          refine va_iald hx hb hK hP 3 0 rfl rfl (my_in (by decide) (by decide)) dX9_mixed_141 ?_
          refine lv_topi (fun y_78 ey_78 => ?_)
          refine lv_iload hx hb dX9_mixed_142 (lv_at hl 0 rfl) ?_
          have hPc := hP.sub (ws' := []) [] rfl
          have hDc := hD.sub (ws' := []) [] (by decide) rfl
          have hKc := hK.sub (tys' := []) [] rfl
          have hFc := va_free (wc := []) hD hS hA [] rfl
          refine va_calli (va_runS (As := [.int y_78, .int 3]) (rest := [.int r_9, .int y_77]) ⟨hx, hb, hml, hown, hts⟩ (k_X9_channel_3 l D H.size y_78) (va_cwS 2 hts (gS bw_441 bw_438 bw_391 bw_437) rfl rfl rfl (by decide +kernel) ⟨(by rw [hR]; exact Nat.le_of_ble_eq_true rfl), (by rw [hR]; exact Nat.le_of_ble_eq_true rfl)⟩) ⟨cP_blind, cP_at hPc hKc hDc hN⟩ rfl rfl hl.1 rfl (lv_room (Nat.le_of_ble_eq_true rfl)) dX9_mixed_144 ⟨(by rw [hR]; exact Nat.le_of_ble_eq_true rfl), (by rw [hR]; exact Nat.le_of_ble_eq_true rfl)⟩) hS (fun q _ h => hFc q h) hFc (fun r_79 u9 t9 H1 locs ht hvm hr_79 hB hz1 hk1 hS => ?_)
          try dsimp only at hr_79
          have hP1 : va_P D vwCl [] H1 := vP_nil
          have hD1 : va_D (va_A [] H.size) [] := vD_nil
          obtain ⟨hP, hD⟩ := va_join (wr := [(h0, .inr (9, [.ref m1, .ref m2, .ref m3, .int ik, .int wy, .int op, .int cl, .int cx0, .int cx1, .int cy0, .int cy1, .int ds, .ref m4, .ref m5, .ref m6, .ref m7, .ref m8, .ref m9, .int pn, .ref m10, .ref m11, .ref m12, .ref m13])), (m10, .inl (cI, 3, .inl kx)), (m11, .inl (cI, 3, .inl ky)), (m12, .inl (cI, 3, .inl ki))]) (w1 := []) hP hD [] [0, 1, 2, 3] rfl rfl (by decide) (by decide) hk1 hFc hP1 hD1
          clear hz1 hk1 hFc hKc hDc hPc
          generalize H1 = H at hP hS ⊢
          have hP : va_P D vwCl [(h0, .inr (9, [.ref m1, .ref m2, .ref m3, .int ik, .int wy, .int op, .int cl, .int cx0, .int cx1, .int cy0, .int cy1, .int ds, .ref m4, .ref m5, .ref m6, .ref m7, .ref m8, .ref m9, .int pn, .ref m10, .ref m11, .ref m12, .ref m13])), (m10, .inl (cI, 3, .inl kx)), (m11, .inl (cI, 3, .inl ky)), (m12, .inl (cI, 3, .inl ki))] H := hP
          have hD : va_D A [(h0, .inr (9, [.ref m1, .ref m2, .ref m3, .int ik, .int wy, .int op, .int cl, .int cx0, .int cx1, .int cy0, .int cy1, .int ds, .ref m4, .ref m5, .ref m6, .ref m7, .ref m8, .ref m9, .int pn, .ref m10, .ref m11, .ref m12, .ref m13])), (m10, .inl (cI, 3, .inl kx)), (m11, .inl (cI, 3, .inl ky)), (m12, .inl (cI, 3, .inl ki))] := hD
          refine lv_imul hx hb dX9_mixed_147 ?_
          refine lv_topi (fun y_80 ey_80 => ?_)
          refine lv_iload hx hb dX9_mixed_148 (lv_at hl 3 rfl) ?_
          refine lv_aload_n hx hb dX9_mixed_150 rfl (lv_at hl 5 rfl) ?_
          refine va_get (D := D) (ci := 9) (v := .ref m12) (C := RX9) (T := TX9) (N := 23) hx hb hts hi_X9 hown hK hP 0 rfl rfl 21 (by decide) (hts _ bw_412) (fun _ h9 => h9) rfl dX9_mixed_151 ?_
          refine lv_iconst (v := 1) hx hb dX9_mixed_154 (by decide) ?_
          refine va_iald hx hb hK hP 3 0 rfl rfl (my_in (by decide) (by decide)) dX9_mixed_155 ?_
          refine lv_topi (fun y_81 ey_81 => ?_)
          refine lv_iload hx hb dX9_mixed_156 (lv_at hl 0 rfl) ?_
          have hPc := hP.sub (ws' := []) [] rfl
          have hDc := hD.sub (ws' := []) [] (by decide) rfl
          have hKc := hK.sub (tys' := []) [] rfl
          have hFc := va_free (wc := []) hD hS hA [] rfl
          refine va_calli (va_runS (As := [.int y_81, .int 3]) (rest := [.int r_18, .int y_80, .int y_77]) ⟨hx, hb, hml, hown, hts⟩ (k_X9_channel_3 l D H.size y_81) (va_cwS 2 hts (gS bw_441 bw_438 bw_391 bw_437) rfl rfl rfl (by decide +kernel) ⟨(by rw [hR]; exact Nat.le_of_ble_eq_true rfl), (by rw [hR]; exact Nat.le_of_ble_eq_true rfl)⟩) ⟨cP_blind, cP_at hPc hKc hDc hN⟩ rfl rfl hl.1 rfl (lv_room (Nat.le_of_ble_eq_true rfl)) dX9_mixed_158 ⟨(by rw [hR]; exact Nat.le_of_ble_eq_true rfl), (by rw [hR]; exact Nat.le_of_ble_eq_true rfl)⟩) hS (fun q _ h => hFc q h) hFc (fun r_82 u9 t9 H1 locs ht hvm hr_82 hB hz1 hk1 hS => ?_)
          try dsimp only at hr_82
          have hP1 : va_P D vwCl [] H1 := vP_nil
          have hD1 : va_D (va_A [] H.size) [] := vD_nil
          obtain ⟨hP, hD⟩ := va_join (wr := [(h0, .inr (9, [.ref m1, .ref m2, .ref m3, .int ik, .int wy, .int op, .int cl, .int cx0, .int cx1, .int cy0, .int cy1, .int ds, .ref m4, .ref m5, .ref m6, .ref m7, .ref m8, .ref m9, .int pn, .ref m10, .ref m11, .ref m12, .ref m13])), (m10, .inl (cI, 3, .inl kx)), (m11, .inl (cI, 3, .inl ky)), (m12, .inl (cI, 3, .inl ki))]) (w1 := []) hP hD [] [0, 1, 2, 3] rfl rfl (by decide) (by decide) hk1 hFc hP1 hD1
          clear hz1 hk1 hFc hKc hDc hPc
          generalize H1 = H at hP hS ⊢
          have hP : va_P D vwCl [(h0, .inr (9, [.ref m1, .ref m2, .ref m3, .int ik, .int wy, .int op, .int cl, .int cx0, .int cx1, .int cy0, .int cy1, .int ds, .ref m4, .ref m5, .ref m6, .ref m7, .ref m8, .ref m9, .int pn, .ref m10, .ref m11, .ref m12, .ref m13])), (m10, .inl (cI, 3, .inl kx)), (m11, .inl (cI, 3, .inl ky)), (m12, .inl (cI, 3, .inl ki))] H := hP
          have hD : va_D A [(h0, .inr (9, [.ref m1, .ref m2, .ref m3, .int ik, .int wy, .int op, .int cl, .int cx0, .int cx1, .int cy0, .int cy1, .int ds, .ref m4, .ref m5, .ref m6, .ref m7, .ref m8, .ref m9, .int pn, .ref m10, .ref m11, .ref m12, .ref m13])), (m10, .inl (cI, 3, .inl kx)), (m11, .inl (cI, 3, .inl ky)), (m12, .inl (cI, 3, .inl ki))] := hD
          refine lv_imul hx hb dX9_mixed_161 ?_
          refine lv_topi (fun y_83 ey_83 => ?_)
          refine lv_iadd hx hb dX9_mixed_162 ?_
          refine lv_topi (fun y_84 ey_84 => ?_)
          refine lv_iload hx hb dX9_mixed_163 (lv_at hl 2 rfl) ?_
          refine lv_aload_n hx hb dX9_mixed_165 rfl (lv_at hl 5 rfl) ?_
          refine va_get (D := D) (ci := 9) (v := .ref m12) (C := RX9) (T := TX9) (N := 23) hx hb hts hi_X9 hown hK hP 0 rfl rfl 21 (by decide) (hts _ bw_412) (fun _ h9 => h9) rfl dX9_mixed_166 ?_
          refine lv_iconst (v := 2) hx hb dX9_mixed_169 (by decide) ?_
          refine va_iald hx hb hK hP 3 0 rfl rfl (my_in (by decide) (by decide)) dX9_mixed_170 ?_
          refine lv_topi (fun y_85 ey_85 => ?_)
          refine lv_iload hx hb dX9_mixed_171 (lv_at hl 0 rfl) ?_
          have hPc := hP.sub (ws' := []) [] rfl
          have hDc := hD.sub (ws' := []) [] (by decide) rfl
          have hKc := hK.sub (tys' := []) [] rfl
          have hFc := va_free (wc := []) hD hS hA [] rfl
          refine va_calli (va_runS (As := [.int y_85, .int 3]) (rest := [.int r_27, .int y_84, .int y_77]) ⟨hx, hb, hml, hown, hts⟩ (k_X9_channel_3 l D H.size y_85) (va_cwS 2 hts (gS bw_441 bw_438 bw_391 bw_437) rfl rfl rfl (by decide +kernel) ⟨(by rw [hR]; exact Nat.le_of_ble_eq_true rfl), (by rw [hR]; exact Nat.le_of_ble_eq_true rfl)⟩) ⟨cP_blind, cP_at hPc hKc hDc hN⟩ rfl rfl hl.1 rfl (lv_room (Nat.le_of_ble_eq_true rfl)) dX9_mixed_173 ⟨(by rw [hR]; exact Nat.le_of_ble_eq_true rfl), (by rw [hR]; exact Nat.le_of_ble_eq_true rfl)⟩) hS (fun q _ h => hFc q h) hFc (fun r_86 u9 t9 H1 locs ht hvm hr_86 hB hz1 hk1 hS => ?_)
          try dsimp only at hr_86
          have hP1 : va_P D vwCl [] H1 := vP_nil
          have hD1 : va_D (va_A [] H.size) [] := vD_nil
          obtain ⟨hP, hD⟩ := va_join (wr := [(h0, .inr (9, [.ref m1, .ref m2, .ref m3, .int ik, .int wy, .int op, .int cl, .int cx0, .int cx1, .int cy0, .int cy1, .int ds, .ref m4, .ref m5, .ref m6, .ref m7, .ref m8, .ref m9, .int pn, .ref m10, .ref m11, .ref m12, .ref m13])), (m10, .inl (cI, 3, .inl kx)), (m11, .inl (cI, 3, .inl ky)), (m12, .inl (cI, 3, .inl ki))]) (w1 := []) hP hD [] [0, 1, 2, 3] rfl rfl (by decide) (by decide) hk1 hFc hP1 hD1
          clear hz1 hk1 hFc hKc hDc hPc
          generalize H1 = H at hP hS ⊢
          have hP : va_P D vwCl [(h0, .inr (9, [.ref m1, .ref m2, .ref m3, .int ik, .int wy, .int op, .int cl, .int cx0, .int cx1, .int cy0, .int cy1, .int ds, .ref m4, .ref m5, .ref m6, .ref m7, .ref m8, .ref m9, .int pn, .ref m10, .ref m11, .ref m12, .ref m13])), (m10, .inl (cI, 3, .inl kx)), (m11, .inl (cI, 3, .inl ky)), (m12, .inl (cI, 3, .inl ki))] H := hP
          have hD : va_D A [(h0, .inr (9, [.ref m1, .ref m2, .ref m3, .int ik, .int wy, .int op, .int cl, .int cx0, .int cx1, .int cy0, .int cy1, .int ds, .ref m4, .ref m5, .ref m6, .ref m7, .ref m8, .ref m9, .int pn, .ref m10, .ref m11, .ref m12, .ref m13])), (m10, .inl (cI, 3, .inl kx)), (m11, .inl (cI, 3, .inl ky)), (m12, .inl (cI, 3, .inl ki))] := hD
          refine lv_imul hx hb dX9_mixed_176 ?_
          refine lv_topi (fun y_87 ey_87 => ?_)
          refine lv_iadd hx hb dX9_mixed_177 ?_
          refine lv_topi (fun y_88 ey_88 => ?_)
          refine lv_iload_n hx hb dX9_mixed_178 rfl (lv_at hl 8 rfl) ?_
          refine lv_idiv hx hb dX9_mixed_179 hw9 ?_
          refine lv_topi (fun y_89 ey_89 => ?_)
          refine lv_ior hx hb dX9_mixed_180 ?_
          refine lv_topi (fun y_90 ey_90 => ?_)
          refine lv_istore (lv' := [(7, .int y_90), (8, .int 3), (6, .int r_27), (5, .int r_18), (4, .int r_9), (0, .ref h0), (1, .int u), (2, .int v), (3, .int w9)]) hx hb dX9_mixed_181 hl (by decide) rfl (fun ls hl => ?_)
          refine lv_iinc (v := 4) (lv' := [(8, .int 4), (7, .int y_90), (6, .int r_27), (5, .int r_18), (4, .int r_9), (0, .ref h0), (1, .int u), (2, .int v), (3, .int w9)]) hx hb dX9_mixed_183 hl (k := 1) rfl (by decide) (by decide) rfl (fun ls hl => ?_)
          refine lv_goto (tgt := 123) hx hb dX9_mixed_186 (by decide) ?_
          refine lv_iload hx hb dX9_mixed_123 (lv_at hl 0 rfl) ?_
          refine lv_iconst (v := 4) hx hb dX9_mixed_125 (by decide) ?_
          refine lv_icmp_ge (tgt := 189) hx hb dX9_mixed_126 (by decide) (fun c_91 => ?_) (fun c_91 => ?_)
          · skip
            refine lv_iload hx hb dX9_mixed_189 (lv_at hl 1 rfl) ?_
            have hP9 := hP.sub (ws' := [(h0, .inr (9, [.ref m1, .ref m2, .ref m3, .int ik, .int wy, .int op, .int cl, .int cx0, .int cx1, .int cy0, .int cy1, .int ds, .ref m4, .ref m5, .ref m6, .ref m7, .ref m8, .ref m9, .int pn, .ref m10, .ref m11, .ref m12, .ref m13])), (m10, .inl (cI, 3, .inl kx)), (m11, .inl (cI, 3, .inl ky)), (m12, .inl (cI, 3, .inl ki))]) [0, 1, 2, 3] rfl
            have hD9 := hD.sub (ws' := [(h0, .inr (9, [.ref m1, .ref m2, .ref m3, .int ik, .int wy, .int op, .int cl, .int cx0, .int cx1, .int cy0, .int cy1, .int ds, .ref m4, .ref m5, .ref m6, .ref m7, .ref m8, .ref m9, .int pn, .ref m10, .ref m11, .ref m12, .ref m13])), (m10, .inl (cI, 3, .inl kx)), (m11, .inl (cI, 3, .inl ky)), (m12, .inl (cI, 3, .inl ki))]) [0, 1, 2, 3] (by decide) rfl
            have hK9 := hK.sub (tys' := [(cI, .int)]) [0] rfl
            refine hQ _ _ _ _ _ ?_
            exact W.iret (v := y_90) hx hb hr (fun t ht hW => ⟨⟨y_90, (), rfl, trivial, ⟨by rw [ht]; exact hP9, va_K.moved hW.alike hK9, hD9⟩⟩, hS.F ht⟩) hS.2.2 dX9_mixed_191
          · skip
            exact absurd c_91 (by decide)

set_option maxHeartbeats 4000000 in
set_option maxRecDepth 100000 in
theorem k_X9_shade (l : Launch) (D : va_G) (sz : Nat) (h0 m1 m2 m3 m4 m5 m6 m7 m8 m9 m10 m11 m12 m13 : Nat) (ik wy op cl cx0 cx1 cy0 cy1 ds pn : Int32) (gw : Nat → Int32) (gh : Nat → Int32) (gd : Nat → Int32) (gm : Nat → Int32) (ge : Nat → Int32) (gv : Nat → Int32) (kx : Nat → Int32) (ky : Nat → Int32) (ki : Nat → Int32) (k : Int32) (cI : ClassId) (cZ : ClassId) (hG : ∀ j : Nat, j < 4 → (gw j).toInt ≤ 64 ∧ (gh j).toInt ≤ 64) (hwy : 0 ≤ wy.toInt ∧ wy.toInt ≤ 12) : Met l yX9_shade (wB yX9_shade cX9_shade 5 (some .int)) ({ frames := 3, cells := 0, slots := 0, locals := 73 }) (cP D [(h0, .inr (9, [.ref m1, .ref m2, .ref m3, .int ik, .int wy, .int op, .int cl, .int cx0, .int cx1, .int cy0, .int cy1, .int ds, .ref m4, .ref m5, .ref m6, .ref m7, .ref m8, .ref m9, .int pn, .ref m10, .ref m11, .ref m12, .ref m13])), (m1, .inl (cI, 4, .inl gw)), (m2, .inl (cI, 4, .inl gh)), (m3, .inl (cI, 16384, .inl gd)), (m4, .inl (cZ, 4096, .inl gm)), (m5, .inl (cI, 4096, .inl ge)), (m6, .inl (cI, 4096, .inl gv)), (m10, .inl (cI, 3, .inl kx)), (m11, .inl (cI, 3, .inl ky)), (m12, .inl (cI, 3, .inl ki))] [(cI, .int), (cZ, .boolean)] sz [.ref h0, .int k]) (va_Qi (fun (r : Int32) (_ : Unit) => True) (fun (_ : Unit) (t : State) => ∃ (g2 g3 g4 g5 : Nat → Int32), cB D (va_A [(h0, .inr (9, [.ref m1, .ref m2, .ref m3, .int ik, .int wy, .int op, .int cl, .int cx0, .int cx1, .int cy0, .int cy1, .int ds, .ref m4, .ref m5, .ref m6, .ref m7, .ref m8, .ref m9, .int pn, .ref m10, .ref m11, .ref m12, .ref m13])), (m1, .inl (cI, 4, .inl gw)), (m2, .inl (cI, 4, .inl gh)), (m3, .inl (cI, 16384, .inl gd)), (m4, .inl (cZ, 4096, .inl gm)), (m5, .inl (cI, 4096, .inl ge)), (m6, .inl (cI, 4096, .inl gv)), (m10, .inl (cI, 3, .inl kx)), (m11, .inl (cI, 3, .inl ky)), (m12, .inl (cI, 3, .inl ki))] sz) [(h0, .inr (9, [.ref m1, .ref m2, .ref m3, .int ik, .int wy, .int op, .int cl, .int cx0, .int cx1, .int cy0, .int cy1, .int ds, .ref m4, .ref m5, .ref m6, .ref m7, .ref m8, .ref m9, .int pn, .ref m10, .ref m11, .ref m12, .ref m13])), (m1, .inl (cI, 4, .inl gw)), (m2, .inl (cI, 4, .inl gh)), (m3, .inl (cI, 16384, .inl g2)), (m4, .inl (cZ, 4096, .inl g3)), (m5, .inl (cI, 4096, .inl g4)), (m6, .inl (cI, 4096, .inl g5)), (m10, .inl (cI, 3, .inl kx)), (m11, .inl (cI, 3, .inl ky)), (m12, .inl (cI, 3, .inl ki))] [(cI, .int), (cZ, .boolean)] t) (va_A [(h0, .inr (9, [.ref m1, .ref m2, .ref m3, .int ik, .int wy, .int op, .int cl, .int cx0, .int cx1, .int cy0, .int cy1, .int ds, .ref m4, .ref m5, .ref m6, .ref m7, .ref m8, .ref m9, .int pn, .ref m10, .ref m11, .ref m12, .ref m13])), (m1, .inl (cI, 4, .inl gw)), (m2, .inl (cI, 4, .inl gh)), (m3, .inl (cI, 16384, .inl gd)), (m4, .inl (cZ, 4096, .inl gm)), (m5, .inl (cI, 4096, .inl ge)), (m6, .inl (cI, 4096, .inl gv)), (m10, .inl (cI, 3, .inl kx)), (m11, .inl (cI, 3, .inl ky)), (m12, .inl (cI, 3, .inl ki))] sz)) 0 0 (va_A [(h0, .inr (9, [.ref m1, .ref m2, .ref m3, .int ik, .int wy, .int op, .int cl, .int cx0, .int cx1, .int cy0, .int cy1, .int ds, .ref m4, .ref m5, .ref m6, .ref m7, .ref m8, .ref m9, .int pn, .ref m10, .ref m11, .ref m12, .ref m13])), (m1, .inl (cI, 4, .inl gw)), (m2, .inl (cI, 4, .inl gh)), (m3, .inl (cI, 16384, .inl gd)), (m4, .inl (cZ, 4096, .inl gm)), (m5, .inl (cI, 4096, .inl ge)), (m6, .inl (cI, 4096, .inl gv)), (m10, .inl (cI, 3, .inl kx)), (m11, .inl (cI, 3, .inl ky)), (m12, .inl (cI, 3, .inl ki))] sz) := by
  refine Met.ofW (cc := cX9_shade) (maxL := 5) (ret := (some .int)) (by decide) rfl ?_
  intro p e s m args below meth c s₁ B hml hv
  obtain ⟨rfl, hsz, hP, hK, hD0, hN⟩ := hv
  have hx := B.exec
  have hb := B.bytes
  have hr := B.returns
  have hts0 := atoms_spec (ws := (wB yX9_shade cX9_shade 5 (some .int))) B.pre
  have hts : ∀ w ∈ bigW, w.before _ s = true := fun w h => hts0 w (List.mem_cons_of_mem _ h)
  have hown : s.vm.findClass RX9 = some m.cls := findClass_of_methodNamed B.named
  have hlocks := B.notSynchronized
  subst hsz
  have hD := hD0.self (sz := s.heap.size)
  generalize hAe : va_A [(h0, .inr (9, [.ref m1, .ref m2, .ref m3, .int ik, .int wy, .int op, .int cl, .int cx0, .int cx1, .int cy0, .int cy1, .int ds, .ref m4, .ref m5, .ref m6, .ref m7, .ref m8, .ref m9, .int pn, .ref m10, .ref m11, .ref m12, .ref m13])), (m1, .inl (cI, 4, .inl gw)), (m2, .inl (cI, 4, .inl gh)), (m3, .inl (cI, 16384, .inl gd)), (m4, .inl (cZ, 4096, .inl gm)), (m5, .inl (cI, 4096, .inl ge)), (m6, .inl (cI, 4096, .inl gv)), (m10, .inl (cI, 3, .inl kx)), (m11, .inl (cI, 3, .inl ky)), (m12, .inl (cI, 3, .inl ki))] s.heap.size = A at hD ⊢
  have hA : ∀ q : Nat, s.heap.size ≤ q → A q := fun q h => by rw [← hAe]; exact Or.inr h
  have hS : va_S A s.heap s.heap [] := va_S.rf
  have hP : va_P D vwCl [(h0, .inr (9, [.ref m1, .ref m2, .ref m3, .int ik, .int wy, .int op, .int cl, .int cx0, .int cx1, .int cy0, .int cy1, .int ds, .ref m4, .ref m5, .ref m6, .ref m7, .ref m8, .ref m9, .int pn, .ref m10, .ref m11, .ref m12, .ref m13])), (m1, .inl (cI, 4, .inl gw)), (m2, .inl (cI, 4, .inl gh)), (m3, .inl (cI, 16384, .inl gd)), (m4, .inl (cZ, 4096, .inl gm)), (m5, .inl (cI, 4096, .inl ge)), (m6, .inl (cI, 4096, .inl gv)), (m10, .inl (cI, 3, .inl kx)), (m11, .inl (cI, 3, .inl ky)), (m12, .inl (cI, 3, .inl ki))] s.heap := hP
  have hl := lv_entry ([.ref h0, .int k]) (n := 5) (Nat.le_of_ble_eq_true rfl)
  rw [lg_entry_eq]
  generalize (lg_sl ([.ref h0, .int k]) ++ List.replicate (5 - (lg_sl ([.ref h0, .int k])).length) Slot.unset).toArray = ls at hl ⊢
  have hl : lv_has ls 5 [(0, .ref h0), (1, .int k)] := hl
  clear hts0 hD0 hAe
  refine my_abs (fun R Q hR hQ => ?_)
  refine lv_aload_n hx hb dX9_shade_0 rfl (lv_at hl 0 rfl) ?_
  refine lv_iload_n hx hb dX9_shade_1 rfl (lv_at hl 1 rfl) ?_
  have hPc := hP.sub (ws' := [(h0, .inr (9, [.ref m1, .ref m2, .ref m3, .int ik, .int wy, .int op, .int cl, .int cx0, .int cx1, .int cy0, .int cy1, .int ds, .ref m4, .ref m5, .ref m6, .ref m7, .ref m8, .ref m9, .int pn, .ref m10, .ref m11, .ref m12, .ref m13])), (m1, .inl (cI, 4, .inl gw))]) [0, 1] rfl
  have hDc := hD.sub (ws' := [(h0, .inr (9, [.ref m1, .ref m2, .ref m3, .int ik, .int wy, .int op, .int cl, .int cx0, .int cx1, .int cy0, .int cy1, .int ds, .ref m4, .ref m5, .ref m6, .ref m7, .ref m8, .ref m9, .int pn, .ref m10, .ref m11, .ref m12, .ref m13])), (m1, .inl (cI, 4, .inl gw))]) [0, 1] (by decide) rfl
  have hKc := hK.sub (tys' := [(cI, .int)]) [0] rfl
  have hFc := va_free (wc := [(h0, .inr (9, [.ref m1, .ref m2, .ref m3, .int ik, .int wy, .int op, .int cl, .int cx0, .int cx1, .int cy0, .int cy1, .int ds, .ref m4, .ref m5, .ref m6, .ref m7, .ref m8, .ref m9, .int pn, .ref m10, .ref m11, .ref m12, .ref m13])), (m1, .inl (cI, 4, .inl gw))]) hD hS hA [0, 1] rfl
  refine va_calli (va_runV (As := [.int k]) (rest := []) ⟨hx, hb, hml, hown, hts⟩ (k_X9_isSheet l D s.heap.size h0 m1 m2 m3 m4 m5 m6 m7 m8 m9 m10 m11 m12 m13 ik wy op cl cx0 cx1 cy0 cy1 ds pn gw k cI) (cwV 1 hts (gV bw_490 bw_415 bw_416 bw_391 bw_414) rfl rfl rfl (by decide +kernel) ⟨(by rw [hR]; exact Nat.le_of_ble_eq_true rfl), (by rw [hR]; exact Nat.le_of_ble_eq_true rfl)⟩) ⟨cP_blind, va_recv hKc hPc (ci := 9) (q0 := 0) rfl rfl, cP_at hPc hKc hDc hN⟩ rfl rfl hl.1 rfl (lv_room (Nat.le_of_ble_eq_true rfl)) dX9_shade_2 ⟨(by rw [hR]; exact Nat.le_of_ble_eq_true rfl), (by rw [hR]; exact Nat.le_of_ble_eq_true rfl)⟩) hS (fun q _ h => hFc q h) hFc (fun r_1 u9 t9 H1 locs ht hvm hr_1 hB hz1 hk1 hS => ?_)
  try dsimp only at hr_1
  obtain ⟨hP1, hK1, hD1⟩ := hB
  rw [ht] at hP1
  obtain ⟨hP, hD⟩ := va_join (wr := [(m2, .inl (cI, 4, .inl gh)), (m3, .inl (cI, 16384, .inl gd)), (m4, .inl (cZ, 4096, .inl gm)), (m5, .inl (cI, 4096, .inl ge)), (m6, .inl (cI, 4096, .inl gv)), (m10, .inl (cI, 3, .inl kx)), (m11, .inl (cI, 3, .inl ky)), (m12, .inl (cI, 3, .inl ki))]) (w1 := [(h0, .inr (9, [.ref m1, .ref m2, .ref m3, .int ik, .int wy, .int op, .int cl, .int cx0, .int cx1, .int cy0, .int cy1, .int ds, .ref m4, .ref m5, .ref m6, .ref m7, .ref m8, .ref m9, .int pn, .ref m10, .ref m11, .ref m12, .ref m13])), (m1, .inl (cI, 4, .inl gw))]) hP hD [0, 1] [2, 3, 4, 5, 6, 7, 8, 9] rfl rfl (by decide) (by decide) hk1 hFc hP1 hD1
  clear hz1 hk1 hFc hKc hDc hPc
  generalize H1 = H at hP hS ⊢
  have hP : va_P D vwCl [(m2, .inl (cI, 4, .inl gh)), (m3, .inl (cI, 16384, .inl gd)), (m4, .inl (cZ, 4096, .inl gm)), (m5, .inl (cI, 4096, .inl ge)), (m6, .inl (cI, 4096, .inl gv)), (m10, .inl (cI, 3, .inl kx)), (m11, .inl (cI, 3, .inl ky)), (m12, .inl (cI, 3, .inl ki)), (h0, .inr (9, [.ref m1, .ref m2, .ref m3, .int ik, .int wy, .int op, .int cl, .int cx0, .int cx1, .int cy0, .int cy1, .int ds, .ref m4, .ref m5, .ref m6, .ref m7, .ref m8, .ref m9, .int pn, .ref m10, .ref m11, .ref m12, .ref m13])), (m1, .inl (cI, 4, .inl gw))] H := hP
  have hD : va_D A [(m2, .inl (cI, 4, .inl gh)), (m3, .inl (cI, 16384, .inl gd)), (m4, .inl (cZ, 4096, .inl gm)), (m5, .inl (cI, 4096, .inl ge)), (m6, .inl (cI, 4096, .inl gv)), (m10, .inl (cI, 3, .inl kx)), (m11, .inl (cI, 3, .inl ky)), (m12, .inl (cI, 3, .inl ki)), (h0, .inr (9, [.ref m1, .ref m2, .ref m3, .int ik, .int wy, .int op, .int cl, .int cx0, .int cx1, .int cy0, .int cy1, .int ds, .ref m4, .ref m5, .ref m6, .ref m7, .ref m8, .ref m9, .int pn, .ref m10, .ref m11, .ref m12, .ref m13])), (m1, .inl (cI, 4, .inl gw))] := hD
  refine lv_if_ne (tgt := 10) hx hb dX9_shade_5 (by decide) (fun c_2 => ?_) (fun c_2 => ?_)
  · skip
    have f_3 := bz1 hr_1 c_2
    have hkn_k : k.toNatClampNeg < 4 := cl_lt (by omega) (by omega)
    have hgk_k := hG _ hkn_k
    refine lv_aload_n hx hb dX9_shade_10 rfl (lv_at hl 0 rfl) ?_
    have hPc := hP.sub (ws' := [(h0, .inr (9, [.ref m1, .ref m2, .ref m3, .int ik, .int wy, .int op, .int cl, .int cx0, .int cx1, .int cy0, .int cy1, .int ds, .ref m4, .ref m5, .ref m6, .ref m7, .ref m8, .ref m9, .int pn, .ref m10, .ref m11, .ref m12, .ref m13])), (m4, .inl (cZ, 4096, .inl gm))]) [8, 2] rfl
    have hDc := hD.sub (ws' := [(h0, .inr (9, [.ref m1, .ref m2, .ref m3, .int ik, .int wy, .int op, .int cl, .int cx0, .int cx1, .int cy0, .int cy1, .int ds, .ref m4, .ref m5, .ref m6, .ref m7, .ref m8, .ref m9, .int pn, .ref m10, .ref m11, .ref m12, .ref m13])), (m4, .inl (cZ, 4096, .inl gm))]) [8, 2] (by decide) rfl
    have hKc := hK.sub (tys' := [(cZ, .boolean)]) [1] rfl
    have hFc := va_free (wc := [(h0, .inr (9, [.ref m1, .ref m2, .ref m3, .int ik, .int wy, .int op, .int cl, .int cx0, .int cx1, .int cy0, .int cy1, .int ds, .ref m4, .ref m5, .ref m6, .ref m7, .ref m8, .ref m9, .int pn, .ref m10, .ref m11, .ref m12, .ref m13])), (m4, .inl (cZ, 4096, .inl gm))]) hD hS hA [8, 2] rfl
    refine va_callv (va_runV (As := []) (rest := []) ⟨hx, hb, hml, hown, hts⟩ (k_X9_begins l D H.size h0 m1 m2 m3 m4 m5 m6 m7 m8 m9 m10 m11 m12 m13 ik wy op cl cx0 cx1 cy0 cy1 ds pn gm cZ) (cwV 0 hts (gV bw_493 bw_455 bw_456 bw_391 bw_454) rfl rfl rfl (by decide +kernel) ⟨(by rw [hR]; exact Nat.le_of_ble_eq_true rfl), (by rw [hR]; exact Nat.le_of_ble_eq_true rfl)⟩) ⟨cP_blind, va_recv hKc hPc (ci := 9) (q0 := 0) rfl rfl, cP_at hPc hKc hDc hN⟩ rfl rfl hl.1 rfl (lv_room (Nat.le_of_ble_eq_true rfl)) dX9_shade_11 ⟨(by rw [hR]; exact Nat.le_of_ble_eq_true rfl), (by rw [hR]; exact Nat.le_of_ble_eq_true rfl)⟩) hS (fun q _ h => hFc q h) hFc (fun u9 t9 H1 locs ht hvm hr_4 hB hz1 hk1 hS => ?_)
    try dsimp only at hr_4
    obtain ⟨hP1, hK1, hD1⟩ := hB
    rw [ht] at hP1
    obtain ⟨hP, hD⟩ := va_join (wr := [(m2, .inl (cI, 4, .inl gh)), (m3, .inl (cI, 16384, .inl gd)), (m5, .inl (cI, 4096, .inl ge)), (m6, .inl (cI, 4096, .inl gv)), (m10, .inl (cI, 3, .inl kx)), (m11, .inl (cI, 3, .inl ky)), (m12, .inl (cI, 3, .inl ki)), (m1, .inl (cI, 4, .inl gw))]) (w1 := [(h0, .inr (9, [.ref m1, .ref m2, .ref m3, .int ik, .int wy, .int op, .int cl, .int cx0, .int cx1, .int cy0, .int cy1, .int ds, .ref m4, .ref m5, .ref m6, .ref m7, .ref m8, .ref m9, .int pn, .ref m10, .ref m11, .ref m12, .ref m13])), (m4, .inl (cZ, 4096, .inl (zrN gm 4096)))]) hP hD [8, 2] [0, 1, 3, 4, 5, 6, 7, 9] rfl rfl (by decide) (by decide) hk1 hFc hP1 hD1
    clear hz1 hk1 hFc hKc hDc hPc
    generalize H1 = H at hP hS ⊢
    have hP : va_P D vwCl [(m2, .inl (cI, 4, .inl gh)), (m3, .inl (cI, 16384, .inl gd)), (m5, .inl (cI, 4096, .inl ge)), (m6, .inl (cI, 4096, .inl gv)), (m10, .inl (cI, 3, .inl kx)), (m11, .inl (cI, 3, .inl ky)), (m12, .inl (cI, 3, .inl ki)), (m1, .inl (cI, 4, .inl gw)), (h0, .inr (9, [.ref m1, .ref m2, .ref m3, .int ik, .int wy, .int op, .int cl, .int cx0, .int cx1, .int cy0, .int cy1, .int ds, .ref m4, .ref m5, .ref m6, .ref m7, .ref m8, .ref m9, .int pn, .ref m10, .ref m11, .ref m12, .ref m13])), (m4, .inl (cZ, 4096, .inl (zrN gm 4096)))] H := hP
    have hD : va_D A [(m2, .inl (cI, 4, .inl gh)), (m3, .inl (cI, 16384, .inl gd)), (m5, .inl (cI, 4096, .inl ge)), (m6, .inl (cI, 4096, .inl gv)), (m10, .inl (cI, 3, .inl kx)), (m11, .inl (cI, 3, .inl ky)), (m12, .inl (cI, 3, .inl ki)), (m1, .inl (cI, 4, .inl gw)), (h0, .inr (9, [.ref m1, .ref m2, .ref m3, .int ik, .int wy, .int op, .int cl, .int cx0, .int cx1, .int cy0, .int cy1, .int ds, .ref m4, .ref m5, .ref m6, .ref m7, .ref m8, .ref m9, .int pn, .ref m10, .ref m11, .ref m12, .ref m13])), (m4, .inl (cZ, 4096, .inl (zrN gm 4096)))] := hD
    refine lv_iconst (v := 2) hx hb dX9_shade_14 (by decide) ?_
    refine lv_aload_n hx hb dX9_shade_15 rfl (lv_at hl 0 rfl) ?_
    refine va_get (D := D) (ci := 9) (v := .ref m10) (C := RX9) (T := TX9) (N := 23) hx hb hts hi_X9 hown hK hP 8 rfl rfl 19 (by decide) (hts _ bw_410) (fun _ h9 => h9) rfl dX9_shade_16 ?_
    refine lv_iconst (v := 0) hx hb dX9_shade_19 (by decide) ?_
    refine va_iald hx hb hK hP 4 0 rfl rfl (my_in (by decide) (by decide)) dX9_shade_20 ?_
    refine lv_topi (fun y_5 ey_5 => ?_)
    refine lv_imul hx hb dX9_shade_21 ?_
    refine lv_topi (fun y_6 ey_6 => ?_)
    refine lv_iconst (v := 2) hx hb dX9_shade_22 (by decide) ?_
    refine lv_aload_n hx hb dX9_shade_23 rfl (lv_at hl 0 rfl) ?_
    refine va_get (D := D) (ci := 9) (v := .ref m11) (C := RX9) (T := TX9) (N := 23) hx hb hts hi_X9 hown hK hP 8 rfl rfl 20 (by decide) (hts _ bw_411) (fun _ h9 => h9) rfl dX9_shade_24 ?_
    refine lv_iconst (v := 0) hx hb dX9_shade_27 (by decide) ?_
    refine va_iald hx hb hK hP 5 0 rfl rfl (my_in (by decide) (by decide)) dX9_shade_28 ?_
    refine lv_topi (fun y_7 ey_7 => ?_)
    refine lv_imul hx hb dX9_shade_29 ?_
    refine lv_topi (fun y_8 ey_8 => ?_)
    refine lv_iconst (v := 2) hx hb dX9_shade_30 (by decide) ?_
    refine lv_aload_n hx hb dX9_shade_31 rfl (lv_at hl 0 rfl) ?_
    refine va_get (D := D) (ci := 9) (v := .ref m10) (C := RX9) (T := TX9) (N := 23) hx hb hts hi_X9 hown hK hP 8 rfl rfl 19 (by decide) (hts _ bw_410) (fun _ h9 => h9) rfl dX9_shade_32 ?_
    refine lv_iconst (v := 1) hx hb dX9_shade_35 (by decide) ?_
    refine va_iald hx hb hK hP 4 0 rfl rfl (my_in (by decide) (by decide)) dX9_shade_36 ?_
    refine lv_topi (fun y_9 ey_9 => ?_)
    refine lv_imul hx hb dX9_shade_37 ?_
    refine lv_topi (fun y_10 ey_10 => ?_)
    refine lv_iconst (v := 2) hx hb dX9_shade_38 (by decide) ?_
    refine lv_aload_n hx hb dX9_shade_39 rfl (lv_at hl 0 rfl) ?_
    refine va_get (D := D) (ci := 9) (v := .ref m11) (C := RX9) (T := TX9) (N := 23) hx hb hts hi_X9 hown hK hP 8 rfl rfl 20 (by decide) (hts _ bw_411) (fun _ h9 => h9) rfl dX9_shade_40 ?_
    refine lv_iconst (v := 1) hx hb dX9_shade_43 (by decide) ?_
    refine va_iald hx hb hK hP 5 0 rfl rfl (my_in (by decide) (by decide)) dX9_shade_44 ?_
    refine lv_topi (fun y_11 ey_11 => ?_)
    refine lv_imul hx hb dX9_shade_45 ?_
    refine lv_topi (fun y_12 ey_12 => ?_)
    refine lv_iconst (v := 2) hx hb dX9_shade_46 (by decide) ?_
    refine lv_aload_n hx hb dX9_shade_47 rfl (lv_at hl 0 rfl) ?_
    refine va_get (D := D) (ci := 9) (v := .ref m10) (C := RX9) (T := TX9) (N := 23) hx hb hts hi_X9 hown hK hP 8 rfl rfl 19 (by decide) (hts _ bw_410) (fun _ h9 => h9) rfl dX9_shade_48 ?_
    refine lv_iconst (v := 2) hx hb dX9_shade_51 (by decide) ?_
    refine va_iald hx hb hK hP 4 0 rfl rfl (my_in (by decide) (by decide)) dX9_shade_52 ?_
    refine lv_topi (fun y_13 ey_13 => ?_)
    refine lv_imul hx hb dX9_shade_53 ?_
    refine lv_topi (fun y_14 ey_14 => ?_)
    refine lv_iconst (v := 2) hx hb dX9_shade_54 (by decide) ?_
    refine lv_aload_n hx hb dX9_shade_55 rfl (lv_at hl 0 rfl) ?_
    refine va_get (D := D) (ci := 9) (v := .ref m11) (C := RX9) (T := TX9) (N := 23) hx hb hts hi_X9 hown hK hP 8 rfl rfl 20 (by decide) (hts _ bw_411) (fun _ h9 => h9) rfl dX9_shade_56 ?_
    refine lv_iconst (v := 2) hx hb dX9_shade_59 (by decide) ?_
    refine va_iald hx hb hK hP 5 0 rfl rfl (my_in (by decide) (by decide)) dX9_shade_60 ?_
    refine lv_topi (fun y_15 ey_15 => ?_)
    refine lv_imul hx hb dX9_shade_61 ?_
    refine lv_topi (fun y_16 ey_16 => ?_)
    have hPc := hP.sub (ws' := []) [] rfl
    have hDc := hD.sub (ws' := []) [] (by decide) rfl
    have hKc := hK.sub (tys' := []) [] rfl
    have hFc := va_free (wc := []) hD hS hA [] rfl
    refine va_calli (va_runS (As := [.int y_6, .int y_8, .int y_10, .int y_12, .int y_14, .int y_16]) (rest := []) ⟨hx, hb, hml, hown, hts⟩ (k_X9_area l D H.size y_6 y_8 y_10 y_12 y_14 y_16) (va_cwS 6 hts (gS bw_542 bw_535 bw_391 bw_534) rfl rfl rfl (by decide +kernel) ⟨(by rw [hR]; exact Nat.le_of_ble_eq_true rfl), (by rw [hR]; exact Nat.le_of_ble_eq_true rfl)⟩) ⟨cP_blind, cP_at hPc hKc hDc hN⟩ rfl rfl hl.1 rfl (lv_room (Nat.le_of_ble_eq_true rfl)) dX9_shade_62 ⟨(by rw [hR]; exact Nat.le_of_ble_eq_true rfl), (by rw [hR]; exact Nat.le_of_ble_eq_true rfl)⟩) hS (fun q _ h => hFc q h) hFc (fun r_17 u9 t9 H1 locs ht hvm hr_17 hB hz1 hk1 hS => ?_)
    try dsimp only at hr_17
    have hP1 : va_P D vwCl [] H1 := vP_nil
    have hD1 : va_D (va_A [] H.size) [] := vD_nil
    obtain ⟨hP, hD⟩ := va_join (wr := [(m2, .inl (cI, 4, .inl gh)), (m3, .inl (cI, 16384, .inl gd)), (m5, .inl (cI, 4096, .inl ge)), (m6, .inl (cI, 4096, .inl gv)), (m10, .inl (cI, 3, .inl kx)), (m11, .inl (cI, 3, .inl ky)), (m12, .inl (cI, 3, .inl ki)), (m1, .inl (cI, 4, .inl gw)), (h0, .inr (9, [.ref m1, .ref m2, .ref m3, .int ik, .int wy, .int op, .int cl, .int cx0, .int cx1, .int cy0, .int cy1, .int ds, .ref m4, .ref m5, .ref m6, .ref m7, .ref m8, .ref m9, .int pn, .ref m10, .ref m11, .ref m12, .ref m13])), (m4, .inl (cZ, 4096, .inl (zrN gm 4096)))]) (w1 := []) hP hD [] [0, 1, 2, 3, 4, 5, 6, 7, 8, 9] rfl rfl (by decide) (by decide) hk1 hFc hP1 hD1
    clear hz1 hk1 hFc hKc hDc hPc
    generalize H1 = H at hP hS ⊢
    have hP : va_P D vwCl [(m2, .inl (cI, 4, .inl gh)), (m3, .inl (cI, 16384, .inl gd)), (m5, .inl (cI, 4096, .inl ge)), (m6, .inl (cI, 4096, .inl gv)), (m10, .inl (cI, 3, .inl kx)), (m11, .inl (cI, 3, .inl ky)), (m12, .inl (cI, 3, .inl ki)), (m1, .inl (cI, 4, .inl gw)), (h0, .inr (9, [.ref m1, .ref m2, .ref m3, .int ik, .int wy, .int op, .int cl, .int cx0, .int cx1, .int cy0, .int cy1, .int ds, .ref m4, .ref m5, .ref m6, .ref m7, .ref m8, .ref m9, .int pn, .ref m10, .ref m11, .ref m12, .ref m13])), (m4, .inl (cZ, 4096, .inl (zrN gm 4096)))] H := hP
    have hD : va_D A [(m2, .inl (cI, 4, .inl gh)), (m3, .inl (cI, 16384, .inl gd)), (m5, .inl (cI, 4096, .inl ge)), (m6, .inl (cI, 4096, .inl gv)), (m10, .inl (cI, 3, .inl kx)), (m11, .inl (cI, 3, .inl ky)), (m12, .inl (cI, 3, .inl ki)), (m1, .inl (cI, 4, .inl gw)), (h0, .inr (9, [.ref m1, .ref m2, .ref m3, .int ik, .int wy, .int op, .int cl, .int cx0, .int cx1, .int cy0, .int cy1, .int ds, .ref m4, .ref m5, .ref m6, .ref m7, .ref m8, .ref m9, .int pn, .ref m10, .ref m11, .ref m12, .ref m13])), (m4, .inl (cZ, 4096, .inl (zrN gm 4096)))] := hD
    refine lv_istore_n (lv' := [(2, .int r_17), (0, .ref h0), (1, .int k)]) hx hb dX9_shade_65 rfl hl (by decide) rfl (fun ls hl => ?_)
    refine lv_iload_n hx hb dX9_shade_66 rfl (lv_at hl 0 rfl) ?_
    refine lv_if_ne (tgt := 72) hx hb dX9_shade_67 (by decide) (fun c_18 => ?_) (fun c_18 => ?_)
    · skip
      have f_19 : ¬ (r_17.toInt = 0) := fn_eq rfl (by decide) c_18
      refine lv_iconst (v := 0) hx hb dX9_shade_72 (by decide) ?_
      refine lv_istore_n (lv' := [(3, .int 0), (2, .int r_17), (0, .ref h0), (1, .int k)]) hx hb dX9_shade_73 rfl hl (by decide) rfl (fun ls hl => ?_)
      have loop_20 : ∀ (n : Nat) (j : Nat) (x3 : Int32) (ga : Nat → Int32) (gb : Nat → Int32) (gc : Nat → Int32) (H : Heap) (locs : List Loc) (ls : Array Slot), (j ≤ 64) → (64 + 1 ≤ j + n) → (x3 = nI j) → va_P D vwCl [(m2, .inl (cI, 4, .inl gh)), (m3, .inl (cI, 16384, .inl gd)), (m5, .inl (cI, 4096, .inl gb)), (m6, .inl (cI, 4096, .inl gc)), (m10, .inl (cI, 3, .inl kx)), (m11, .inl (cI, 3, .inl ky)), (m12, .inl (cI, 3, .inl ki)), (m1, .inl (cI, 4, .inl gw)), (h0, .inr (9, [.ref m1, .ref m2, .ref m3, .int ik, .int wy, .int op, .int cl, .int cx0, .int cx1, .int cy0, .int cy1, .int ds, .ref m4, .ref m5, .ref m6, .ref m7, .ref m8, .ref m9, .int pn, .ref m10, .ref m11, .ref m12, .ref m13])), (m4, .inl (cZ, 4096, .inl ga))] H → va_D A [(m2, .inl (cI, 4, .inl gh)), (m3, .inl (cI, 16384, .inl gd)), (m5, .inl (cI, 4096, .inl gb)), (m6, .inl (cI, 4096, .inl gc)), (m10, .inl (cI, 3, .inl kx)), (m11, .inl (cI, 3, .inl ky)), (m12, .inl (cI, 3, .inl ki)), (m1, .inl (cI, 4, .inl gw)), (h0, .inr (9, [.ref m1, .ref m2, .ref m3, .int ik, .int wy, .int op, .int cl, .int cx0, .int cx1, .int cy0, .int cy1, .int ds, .ref m4, .ref m5, .ref m6, .ref m7, .ref m8, .ref m9, .int pn, .ref m10, .ref m11, .ref m12, .ref m13])), (m4, .inl (cZ, 4096, .inl ga))] → va_S A s.heap H locs → lv_has ls 5 [(3, .int x3), (2, .int r_17), (0, .ref h0), (1, .int k)] → W p l e R s m ([.ref h0, .int k] : List Value).toArray below meth c H locs 0 0 Q (F0 m 74 ls []) := by
        intro n
        induction n with
        | zero =>
          intro j x3 ga gb gc H locs ls hi_j hm_j ex_j hP hD hS hl
          exact absurd (show False by omega) not_false
        | succ n ih_21 =>
          intro j x3 ga gb gc H locs ls hi_j hm_j ex_j hP hD hS hl
          have hx_j : x3.toInt = (j : Int) := by rw [ex_j]; exact nI_toInt (by omega)
          have hc_j : x3.toNatClampNeg = j := by rw [ex_j]; exact nI_clamp (by omega)
          refine lv_iload_n hx hb dX9_shade_74 rfl (lv_at hl 0 rfl) ?_
          refine lv_aload_n hx hb dX9_shade_75 rfl (lv_at hl 2 rfl) ?_
          refine va_get (D := D) (ci := 9) (v := .ref m2) (C := RX9) (T := TX9) (N := 23) hx hb hts hi_X9 hown hK hP 8 rfl rfl 1 (by decide) (hts _ bw_397) (fun _ h9 => h9) rfl dX9_shade_76 ?_
          refine lv_iload_n hx hb dX9_shade_79 rfl (lv_at hl 3 rfl) ?_
          refine va_iald hx hb hK hP 0 0 rfl rfl (vp_in_iff.mpr ⟨by omega, by omega⟩) dX9_shade_80 ?_
          refine lv_icmp_ge (tgt := 156) hx hb dX9_shade_81 (by decide) (fun c_22 => ?_) (fun c_22 => ?_)
          · skip
            have f_23 : (gh k.toNatClampNeg).toInt ≤ (j : Int) := f_le rfl hx_j c_22
            refine lv_aload_n hx hb dX9_shade_156 rfl (lv_at hl 2 rfl) ?_
            refine lv_iload_n hx hb dX9_shade_157 rfl (lv_at hl 3 rfl) ?_
            have hPc := hP.sub (ws' := [(h0, .inr (9, [.ref m1, .ref m2, .ref m3, .int ik, .int wy, .int op, .int cl, .int cx0, .int cx1, .int cy0, .int cy1, .int ds, .ref m4, .ref m5, .ref m6, .ref m7, .ref m8, .ref m9, .int pn, .ref m10, .ref m11, .ref m12, .ref m13])), (m3, .inl (cI, 16384, .inl gd)), (m4, .inl (cZ, 4096, .inl ga)), (m5, .inl (cI, 4096, .inl gb)), (m6, .inl (cI, 4096, .inl gc))]) [8, 1, 9, 2, 3] rfl
            have hDc := hD.sub (ws' := [(h0, .inr (9, [.ref m1, .ref m2, .ref m3, .int ik, .int wy, .int op, .int cl, .int cx0, .int cx1, .int cy0, .int cy1, .int ds, .ref m4, .ref m5, .ref m6, .ref m7, .ref m8, .ref m9, .int pn, .ref m10, .ref m11, .ref m12, .ref m13])), (m3, .inl (cI, 16384, .inl gd)), (m4, .inl (cZ, 4096, .inl ga)), (m5, .inl (cI, 4096, .inl gb)), (m6, .inl (cI, 4096, .inl gc))]) [8, 1, 9, 2, 3] (by decide) rfl
            have hKc := hK.sub (tys' := [(cI, .int), (cZ, .boolean)]) [0, 1] rfl
            have hFc := va_free (wc := [(h0, .inr (9, [.ref m1, .ref m2, .ref m3, .int ik, .int wy, .int op, .int cl, .int cx0, .int cx1, .int cy0, .int cy1, .int ds, .ref m4, .ref m5, .ref m6, .ref m7, .ref m8, .ref m9, .int pn, .ref m10, .ref m11, .ref m12, .ref m13])), (m3, .inl (cI, 16384, .inl gd)), (m4, .inl (cZ, 4096, .inl ga)), (m5, .inl (cI, 4096, .inl gb)), (m6, .inl (cI, 4096, .inl gc))]) hD hS hA [8, 1, 9, 2, 3] rfl
            refine va_calli (va_runV (As := [.int k]) (rest := []) ⟨hx, hb, hml, hown, hts⟩ (k_X9_lays l D H.size h0 m1 m2 m3 m4 m5 m6 m7 m8 m9 m10 m11 m12 m13 ik wy op cl cx0 cx1 cy0 cy1 ds pn gd ga gb gc k cI cZ (by omega) (by first | assumption | omega | decide)) (cwV 1 hts (gV bw_496 bw_462 bw_463 bw_391 bw_461) rfl rfl rfl (by decide +kernel) ⟨(by rw [hR]; exact Nat.le_of_ble_eq_true rfl), (by rw [hR]; exact Nat.le_of_ble_eq_true rfl)⟩) ⟨cP_blind, va_recv hKc hPc (ci := 9) (q0 := 0) rfl rfl, cP_at hPc hKc hDc hN⟩ rfl rfl hl.1 rfl (lv_room (Nat.le_of_ble_eq_true rfl)) dX9_shade_158 ⟨(by rw [hR]; exact Nat.le_of_ble_eq_true rfl), (by rw [hR]; exact Nat.le_of_ble_eq_true rfl)⟩) hS (fun q _ h => hFc q h) hFc (fun r_24 u9 t9 H1 locs ht hvm hr_24 hB hz1 hk1 hS => ?_)
            try dsimp only at hr_24
            obtain ⟨hP1, hK1, hD1⟩ := hB
            rw [ht] at hP1
            obtain ⟨hP, hD⟩ := va_join (wr := [(m2, .inl (cI, 4, .inl gh)), (m10, .inl (cI, 3, .inl kx)), (m11, .inl (cI, 3, .inl ky)), (m12, .inl (cI, 3, .inl ki)), (m1, .inl (cI, 4, .inl gw))]) (w1 := [(h0, .inr (9, [.ref m1, .ref m2, .ref m3, .int ik, .int wy, .int op, .int cl, .int cx0, .int cx1, .int cy0, .int cy1, .int ds, .ref m4, .ref m5, .ref m6, .ref m7, .ref m8, .ref m9, .int pn, .ref m10, .ref m11, .ref m12, .ref m13])), (m3, .inl (cI, 16384, .inl (lysN wy gd ga gb gc k.toNatClampNeg 4096))), (m4, .inl (cZ, 4096, .inl ga)), (m5, .inl (cI, 4096, .inl gb)), (m6, .inl (cI, 4096, .inl gc))]) hP hD [8, 1, 9, 2, 3] [0, 4, 5, 6, 7] rfl rfl (by decide) (by decide) hk1 hFc hP1 hD1
            clear hz1 hk1 hFc hKc hDc hPc
            generalize H1 = H at hP hS ⊢
            have hP : va_P D vwCl [(m2, .inl (cI, 4, .inl gh)), (m10, .inl (cI, 3, .inl kx)), (m11, .inl (cI, 3, .inl ky)), (m12, .inl (cI, 3, .inl ki)), (m1, .inl (cI, 4, .inl gw)), (h0, .inr (9, [.ref m1, .ref m2, .ref m3, .int ik, .int wy, .int op, .int cl, .int cx0, .int cx1, .int cy0, .int cy1, .int ds, .ref m4, .ref m5, .ref m6, .ref m7, .ref m8, .ref m9, .int pn, .ref m10, .ref m11, .ref m12, .ref m13])), (m3, .inl (cI, 16384, .inl (lysN wy gd ga gb gc k.toNatClampNeg 4096))), (m4, .inl (cZ, 4096, .inl ga)), (m5, .inl (cI, 4096, .inl gb)), (m6, .inl (cI, 4096, .inl gc))] H := hP
            have hD : va_D A [(m2, .inl (cI, 4, .inl gh)), (m10, .inl (cI, 3, .inl kx)), (m11, .inl (cI, 3, .inl ky)), (m12, .inl (cI, 3, .inl ki)), (m1, .inl (cI, 4, .inl gw)), (h0, .inr (9, [.ref m1, .ref m2, .ref m3, .int ik, .int wy, .int op, .int cl, .int cx0, .int cx1, .int cy0, .int cy1, .int ds, .ref m4, .ref m5, .ref m6, .ref m7, .ref m8, .ref m9, .int pn, .ref m10, .ref m11, .ref m12, .ref m13])), (m3, .inl (cI, 16384, .inl (lysN wy gd ga gb gc k.toNatClampNeg 4096))), (m4, .inl (cZ, 4096, .inl ga)), (m5, .inl (cI, 4096, .inl gb)), (m6, .inl (cI, 4096, .inl gc))] := hD
            have hP9 := hP.sub (ws' := [(h0, .inr (9, [.ref m1, .ref m2, .ref m3, .int ik, .int wy, .int op, .int cl, .int cx0, .int cx1, .int cy0, .int cy1, .int ds, .ref m4, .ref m5, .ref m6, .ref m7, .ref m8, .ref m9, .int pn, .ref m10, .ref m11, .ref m12, .ref m13])), (m1, .inl (cI, 4, .inl gw)), (m2, .inl (cI, 4, .inl gh)), (m3, .inl (cI, 16384, .inl (lysN wy gd ga gb gc k.toNatClampNeg 4096))), (m4, .inl (cZ, 4096, .inl ga)), (m5, .inl (cI, 4096, .inl gb)), (m6, .inl (cI, 4096, .inl gc)), (m10, .inl (cI, 3, .inl kx)), (m11, .inl (cI, 3, .inl ky)), (m12, .inl (cI, 3, .inl ki))]) [5, 4, 0, 6, 7, 8, 9, 1, 2, 3] rfl
            have hD9 := hD.sub (ws' := [(h0, .inr (9, [.ref m1, .ref m2, .ref m3, .int ik, .int wy, .int op, .int cl, .int cx0, .int cx1, .int cy0, .int cy1, .int ds, .ref m4, .ref m5, .ref m6, .ref m7, .ref m8, .ref m9, .int pn, .ref m10, .ref m11, .ref m12, .ref m13])), (m1, .inl (cI, 4, .inl gw)), (m2, .inl (cI, 4, .inl gh)), (m3, .inl (cI, 16384, .inl (lysN wy gd ga gb gc k.toNatClampNeg 4096))), (m4, .inl (cZ, 4096, .inl ga)), (m5, .inl (cI, 4096, .inl gb)), (m6, .inl (cI, 4096, .inl gc)), (m10, .inl (cI, 3, .inl kx)), (m11, .inl (cI, 3, .inl ky)), (m12, .inl (cI, 3, .inl ki))]) [5, 4, 0, 6, 7, 8, 9, 1, 2, 3] (by decide) rfl
            have hK9 := hK.sub (tys' := [(cI, .int), (cZ, .boolean)]) [0, 1] rfl
            refine hQ _ _ _ _ _ ?_
            exact W.iret (v := r_24) hx hb hr (fun t ht hW => ⟨⟨r_24, (), rfl, trivial, ⟨(lysN wy gd ga gb gc k.toNatClampNeg 4096), ga, gb, gc, by rw [ht]; exact hP9, va_K.moved hW.alike hK9, hD9⟩⟩, hS.F ht⟩) hS.2.2 dX9_shade_161
          · skip
            have f_23 : ¬ ((gh k.toNatClampNeg).toInt ≤ (j : Int)) := fn_le rfl hx_j c_22
            refine lv_iconst (v := 0) hx hb dX9_shade_84 (by decide) ?_
            refine lv_istore (lv' := [(4, .int 0), (3, .int x3), (2, .int r_17), (0, .ref h0), (1, .int k)]) hx hb dX9_shade_85 hl (by decide) rfl (fun ls hl => ?_)
            have loop_25 : ∀ (n : Nat) (i : Nat) (x4 : Int32) (gj : Nat → Int32) (gk : Nat → Int32) (gl : Nat → Int32) (H : Heap) (locs : List Loc) (ls : Array Slot), (i ≤ 64) → (64 + 1 ≤ i + n) → (x4 = nI i) → va_P D vwCl [(m2, .inl (cI, 4, .inl gh)), (m3, .inl (cI, 16384, .inl gd)), (m5, .inl (cI, 4096, .inl gk)), (m6, .inl (cI, 4096, .inl gl)), (m10, .inl (cI, 3, .inl kx)), (m11, .inl (cI, 3, .inl ky)), (m12, .inl (cI, 3, .inl ki)), (m1, .inl (cI, 4, .inl gw)), (h0, .inr (9, [.ref m1, .ref m2, .ref m3, .int ik, .int wy, .int op, .int cl, .int cx0, .int cx1, .int cy0, .int cy1, .int ds, .ref m4, .ref m5, .ref m6, .ref m7, .ref m8, .ref m9, .int pn, .ref m10, .ref m11, .ref m12, .ref m13])), (m4, .inl (cZ, 4096, .inl gj))] H → va_D A [(m2, .inl (cI, 4, .inl gh)), (m3, .inl (cI, 16384, .inl gd)), (m5, .inl (cI, 4096, .inl gk)), (m6, .inl (cI, 4096, .inl gl)), (m10, .inl (cI, 3, .inl kx)), (m11, .inl (cI, 3, .inl ky)), (m12, .inl (cI, 3, .inl ki)), (m1, .inl (cI, 4, .inl gw)), (h0, .inr (9, [.ref m1, .ref m2, .ref m3, .int ik, .int wy, .int op, .int cl, .int cx0, .int cx1, .int cy0, .int cy1, .int ds, .ref m4, .ref m5, .ref m6, .ref m7, .ref m8, .ref m9, .int pn, .ref m10, .ref m11, .ref m12, .ref m13])), (m4, .inl (cZ, 4096, .inl gj))] → va_S A s.heap H locs → lv_has ls 5 [(4, .int x4), (3, .int x3), (2, .int r_17), (0, .ref h0), (1, .int k)] → W p l e R s m ([.ref h0, .int k] : List Value).toArray below meth c H locs 0 0 Q (F0 m 87 ls []) := by
              intro n
              induction n with
              | zero =>
                intro i x4 gj gk gl H locs ls hi_i hm_i ex_i hP hD hS hl
                exact absurd (show False by omega) not_false
              | succ n ih_26 =>
                intro i x4 gj gk gl H locs ls hi_i hm_i ex_i hP hD hS hl
                have hx_i : x4.toInt = (i : Int) := by rw [ex_i]; exact nI_toInt (by omega)
                have hc_i : x4.toNatClampNeg = i := by rw [ex_i]; exact nI_clamp (by omega)
                refine lv_iload hx hb dX9_shade_87 (lv_at hl 0 rfl) ?_
                refine lv_aload_n hx hb dX9_shade_89 rfl (lv_at hl 3 rfl) ?_
                refine va_get (D := D) (ci := 9) (v := .ref m1) (C := RX9) (T := TX9) (N := 23) hx hb hts hi_X9 hown hK hP 8 rfl rfl 0 (by decide) (hts _ bw_396) (fun _ h9 => h9) rfl dX9_shade_90 ?_
                refine lv_iload_n hx hb dX9_shade_93 rfl (lv_at hl 4 rfl) ?_
                refine va_iald hx hb hK hP 7 0 rfl rfl (vp_in_iff.mpr ⟨by omega, by omega⟩) dX9_shade_94 ?_
                refine lv_icmp_ge (tgt := 150) hx hb dX9_shade_95 (by decide) (fun c_27 => ?_) (fun c_27 => ?_)
                · skip
                  have f_28 : (gw k.toNatClampNeg).toInt ≤ (i : Int) := f_le rfl hx_i c_27
                  obtain ⟨y_29, ey_29⟩ : ∃ y : Int32, y = x3 + 1 := ⟨_, rfl⟩
                  refine lv_iinc (v := y_29) (lv' := [(3, .int y_29), (4, .int x4), (2, .int r_17), (0, .ref h0), (1, .int k)]) hx hb dX9_shade_150 hl (k := 1) rfl (by rw [ey_29]; rfl) (by decide) rfl (fun ls hl => ?_)
                  refine lv_goto (tgt := 74) hx hb dX9_shade_153 (by decide) ?_
                  exact ih_21 (j + 1) y_29 gj gk gl _ _ _ (by omega) (by omega) (by rw [ey_29, ex_j]; exact nI_1 j) (hP.sub (ws' := [(m2, .inl (cI, 4, .inl gh)), (m3, .inl (cI, 16384, .inl gd)), (m5, .inl (cI, 4096, .inl gk)), (m6, .inl (cI, 4096, .inl gl)), (m10, .inl (cI, 3, .inl kx)), (m11, .inl (cI, 3, .inl ky)), (m12, .inl (cI, 3, .inl ki)), (m1, .inl (cI, 4, .inl gw)), (h0, .inr (9, [.ref m1, .ref m2, .ref m3, .int ik, .int wy, .int op, .int cl, .int cx0, .int cx1, .int cy0, .int cy1, .int ds, .ref m4, .ref m5, .ref m6, .ref m7, .ref m8, .ref m9, .int pn, .ref m10, .ref m11, .ref m12, .ref m13])), (m4, .inl (cZ, 4096, .inl gj))]) [0, 1, 2, 3, 4, 5, 6, 7, 8, 9] rfl) (hD.sub (ws' := [(m2, .inl (cI, 4, .inl gh)), (m3, .inl (cI, 16384, .inl gd)), (m5, .inl (cI, 4096, .inl gk)), (m6, .inl (cI, 4096, .inl gl)), (m10, .inl (cI, 3, .inl kx)), (m11, .inl (cI, 3, .inl ky)), (m12, .inl (cI, 3, .inl ki)), (m1, .inl (cI, 4, .inl gw)), (h0, .inr (9, [.ref m1, .ref m2, .ref m3, .int ik, .int wy, .int op, .int cl, .int cx0, .int cx1, .int cy0, .int cy1, .int ds, .ref m4, .ref m5, .ref m6, .ref m7, .ref m8, .ref m9, .int pn, .ref m10, .ref m11, .ref m12, .ref m13])), (m4, .inl (cZ, 4096, .inl gj))]) [0, 1, 2, 3, 4, 5, 6, 7, 8, 9] (by decide) rfl) hS (lv_sub hl [0, 2, 3, 4] rfl)
                · skip
                  have f_28 : ¬ ((gw k.toNatClampNeg).toInt ≤ (i : Int)) := fn_le rfl hx_i c_27
                  refine lv_aload_n hx hb dX9_shade_98 rfl (lv_at hl 3 rfl) ?_
                  refine lv_iconst (v := 2) hx hb dX9_shade_99 (by decide) ?_
                  refine lv_iload hx hb dX9_shade_100 (lv_at hl 0 rfl) ?_
                  refine lv_imul hx hb dX9_shade_102 ?_
                  refine lv_topi (fun y_30 ey_30 => ?_)
                  refine lv_iconst (v := 1) hx hb dX9_shade_103 (by decide) ?_
                  refine lv_iadd hx hb dX9_shade_104 ?_
                  refine lv_topi (fun y_31 ey_31 => ?_)
                  refine lv_iconst (v := 2) hx hb dX9_shade_105 (by decide) ?_
                  refine lv_iload_n hx hb dX9_shade_106 rfl (lv_at hl 1 rfl) ?_
                  refine lv_imul hx hb dX9_shade_107 ?_
                  refine lv_topi (fun y_32 ey_32 => ?_)
                  refine lv_iconst (v := 1) hx hb dX9_shade_108 (by decide) ?_
                  refine lv_iadd hx hb dX9_shade_109 ?_
                  refine lv_topi (fun y_33 ey_33 => ?_)
                  have hPc := hP.sub (ws' := [(h0, .inr (9, [.ref m1, .ref m2, .ref m3, .int ik, .int wy, .int op, .int cl, .int cx0, .int cx1, .int cy0, .int cy1, .int ds, .ref m4, .ref m5, .ref m6, .ref m7, .ref m8, .ref m9, .int pn, .ref m10, .ref m11, .ref m12, .ref m13])), (m10, .inl (cI, 3, .inl kx)), (m11, .inl (cI, 3, .inl ky))]) [8, 4, 5] rfl
                  have hDc := hD.sub (ws' := [(h0, .inr (9, [.ref m1, .ref m2, .ref m3, .int ik, .int wy, .int op, .int cl, .int cx0, .int cx1, .int cy0, .int cy1, .int ds, .ref m4, .ref m5, .ref m6, .ref m7, .ref m8, .ref m9, .int pn, .ref m10, .ref m11, .ref m12, .ref m13])), (m10, .inl (cI, 3, .inl kx)), (m11, .inl (cI, 3, .inl ky))]) [8, 4, 5] (by decide) rfl
                  have hKc := hK.sub (tys' := [(cI, .int)]) [0] rfl
                  have hFc := va_free (wc := [(h0, .inr (9, [.ref m1, .ref m2, .ref m3, .int ik, .int wy, .int op, .int cl, .int cx0, .int cx1, .int cy0, .int cy1, .int ds, .ref m4, .ref m5, .ref m6, .ref m7, .ref m8, .ref m9, .int pn, .ref m10, .ref m11, .ref m12, .ref m13])), (m10, .inl (cI, 3, .inl kx)), (m11, .inl (cI, 3, .inl ky))]) hD hS hA [8, 4, 5] rfl
                  refine va_calli (va_runV (As := [.int y_31, .int y_33]) (rest := []) ⟨hx, hb, hml, hown, hts⟩ (k_X9_isInTriangle l D H.size h0 m1 m2 m3 m4 m5 m6 m7 m8 m9 m10 m11 m12 m13 ik wy op cl cx0 cx1 cy0 cy1 ds pn kx ky y_31 y_33 cI) (cwV 2 hts (gV bw_543 bw_537 bw_538 bw_391 bw_536) rfl rfl rfl (by decide +kernel) ⟨(by rw [hR]; exact Nat.le_of_ble_eq_true rfl), (by rw [hR]; exact Nat.le_of_ble_eq_true rfl)⟩) ⟨cP_blind, va_recv hKc hPc (ci := 9) (q0 := 0) rfl rfl, cP_at hPc hKc hDc hN⟩ rfl rfl hl.1 rfl (lv_room (Nat.le_of_ble_eq_true rfl)) dX9_shade_110 ⟨(by rw [hR]; exact Nat.le_of_ble_eq_true rfl), (by rw [hR]; exact Nat.le_of_ble_eq_true rfl)⟩) hS (fun q _ h => hFc q h) hFc (fun r_34 u9 t9 H1 locs ht hvm hr_34 hB hz1 hk1 hS => ?_)
                  try dsimp only at hr_34
                  obtain ⟨hP1, hK1, hD1⟩ := hB
                  rw [ht] at hP1
                  obtain ⟨hP, hD⟩ := va_join (wr := [(m2, .inl (cI, 4, .inl gh)), (m3, .inl (cI, 16384, .inl gd)), (m5, .inl (cI, 4096, .inl gk)), (m6, .inl (cI, 4096, .inl gl)), (m12, .inl (cI, 3, .inl ki)), (m1, .inl (cI, 4, .inl gw)), (m4, .inl (cZ, 4096, .inl gj))]) (w1 := [(h0, .inr (9, [.ref m1, .ref m2, .ref m3, .int ik, .int wy, .int op, .int cl, .int cx0, .int cx1, .int cy0, .int cy1, .int ds, .ref m4, .ref m5, .ref m6, .ref m7, .ref m8, .ref m9, .int pn, .ref m10, .ref m11, .ref m12, .ref m13])), (m10, .inl (cI, 3, .inl kx)), (m11, .inl (cI, 3, .inl ky))]) hP hD [8, 4, 5] [0, 1, 2, 3, 6, 7, 9] rfl rfl (by decide) (by decide) hk1 hFc hP1 hD1
                  clear hz1 hk1 hFc hKc hDc hPc
                  generalize H1 = H at hP hS ⊢
                  have hP : va_P D vwCl [(m2, .inl (cI, 4, .inl gh)), (m3, .inl (cI, 16384, .inl gd)), (m5, .inl (cI, 4096, .inl gk)), (m6, .inl (cI, 4096, .inl gl)), (m12, .inl (cI, 3, .inl ki)), (m1, .inl (cI, 4, .inl gw)), (m4, .inl (cZ, 4096, .inl gj)), (h0, .inr (9, [.ref m1, .ref m2, .ref m3, .int ik, .int wy, .int op, .int cl, .int cx0, .int cx1, .int cy0, .int cy1, .int ds, .ref m4, .ref m5, .ref m6, .ref m7, .ref m8, .ref m9, .int pn, .ref m10, .ref m11, .ref m12, .ref m13])), (m10, .inl (cI, 3, .inl kx)), (m11, .inl (cI, 3, .inl ky))] H := hP
                  have hD : va_D A [(m2, .inl (cI, 4, .inl gh)), (m3, .inl (cI, 16384, .inl gd)), (m5, .inl (cI, 4096, .inl gk)), (m6, .inl (cI, 4096, .inl gl)), (m12, .inl (cI, 3, .inl ki)), (m1, .inl (cI, 4, .inl gw)), (m4, .inl (cZ, 4096, .inl gj)), (h0, .inr (9, [.ref m1, .ref m2, .ref m3, .int ik, .int wy, .int op, .int cl, .int cx0, .int cx1, .int cy0, .int cy1, .int ds, .ref m4, .ref m5, .ref m6, .ref m7, .ref m8, .ref m9, .int pn, .ref m10, .ref m11, .ref m12, .ref m13])), (m10, .inl (cI, 3, .inl kx)), (m11, .inl (cI, 3, .inl ky))] := hD
                  refine lv_if_eq (tgt := 144) hx hb dX9_shade_113 (by decide) (fun c_35 => ?_) (fun c_35 => ?_)
                  · skip
                    have f_36 : r_34.toInt = 0 := f_eq rfl (by decide) c_35
                    obtain ⟨y_37, ey_37⟩ : ∃ y : Int32, y = x4 + 1 := ⟨_, rfl⟩
                    refine lv_iinc (v := y_37) (lv' := [(4, .int y_37), (3, .int x3), (2, .int r_17), (0, .ref h0), (1, .int k)]) hx hb dX9_shade_144 hl (k := 0) rfl (by rw [ey_37]; rfl) (by decide) rfl (fun ls hl => ?_)
                    refine lv_goto (tgt := 87) hx hb dX9_shade_147 (by decide) ?_
                    exact ih_26 (i + 1) y_37 gj gk gl _ _ _ (by omega) (by omega) (by rw [ey_37, ex_i]; exact nI_1 i) (hP.sub (ws' := [(m2, .inl (cI, 4, .inl gh)), (m3, .inl (cI, 16384, .inl gd)), (m5, .inl (cI, 4096, .inl gk)), (m6, .inl (cI, 4096, .inl gl)), (m10, .inl (cI, 3, .inl kx)), (m11, .inl (cI, 3, .inl ky)), (m12, .inl (cI, 3, .inl ki)), (m1, .inl (cI, 4, .inl gw)), (h0, .inr (9, [.ref m1, .ref m2, .ref m3, .int ik, .int wy, .int op, .int cl, .int cx0, .int cx1, .int cy0, .int cy1, .int ds, .ref m4, .ref m5, .ref m6, .ref m7, .ref m8, .ref m9, .int pn, .ref m10, .ref m11, .ref m12, .ref m13])), (m4, .inl (cZ, 4096, .inl gj))]) [0, 1, 2, 3, 8, 9, 4, 5, 7, 6] rfl) (hD.sub (ws' := [(m2, .inl (cI, 4, .inl gh)), (m3, .inl (cI, 16384, .inl gd)), (m5, .inl (cI, 4096, .inl gk)), (m6, .inl (cI, 4096, .inl gl)), (m10, .inl (cI, 3, .inl kx)), (m11, .inl (cI, 3, .inl ky)), (m12, .inl (cI, 3, .inl ki)), (m1, .inl (cI, 4, .inl gw)), (h0, .inr (9, [.ref m1, .ref m2, .ref m3, .int ik, .int wy, .int op, .int cl, .int cx0, .int cx1, .int cy0, .int cy1, .int ds, .ref m4, .ref m5, .ref m6, .ref m7, .ref m8, .ref m9, .int pn, .ref m10, .ref m11, .ref m12, .ref m13])), (m4, .inl (cZ, 4096, .inl gj))]) [0, 1, 2, 3, 8, 9, 4, 5, 7, 6] (by decide) rfl) hS (lv_sub hl [0, 1, 2, 3, 4] rfl)
                  · skip
                    have f_36 : ¬ (r_34.toInt = 0) := fn_eq rfl (by decide) c_35
                    refine lv_aload_n hx hb dX9_shade_116 rfl (lv_at hl 3 rfl) ?_
                    refine lv_iload_n hx hb dX9_shade_117 rfl (lv_at hl 4 rfl) ?_
                    refine lv_iload hx hb dX9_shade_118 (lv_at hl 0 rfl) ?_
                    refine lv_iload_n hx hb dX9_shade_120 rfl (lv_at hl 1 rfl) ?_
                    refine lv_aload_n hx hb dX9_shade_121 rfl (lv_at hl 3 rfl) ?_
                    refine lv_iconst (v := 2) hx hb dX9_shade_122 (by decide) ?_
                    refine lv_iload hx hb dX9_shade_123 (lv_at hl 0 rfl) ?_
                    refine lv_imul hx hb dX9_shade_125 ?_
                    refine lv_topi (fun y_38 ey_38 => ?_)
                    refine lv_iconst (v := 1) hx hb dX9_shade_126 (by decide) ?_
                    refine lv_iadd hx hb dX9_shade_127 ?_
                    refine lv_topi (fun y_39 ey_39 => ?_)
                    refine lv_iconst (v := 2) hx hb dX9_shade_128 (by decide) ?_
                    refine lv_iload_n hx hb dX9_shade_129 rfl (lv_at hl 1 rfl) ?_
                    refine lv_imul hx hb dX9_shade_130 ?_
                    refine lv_topi (fun y_40 ey_40 => ?_)
                    refine lv_iconst (v := 1) hx hb dX9_shade_131 (by decide) ?_
                    refine lv_iadd hx hb dX9_shade_132 ?_
                    refine lv_topi (fun y_41 ey_41 => ?_)
                    refine lv_iload_n hx hb dX9_shade_133 rfl (lv_at hl 2 rfl) ?_
                    have hPc := hP.sub (ws' := [(h0, .inr (9, [.ref m1, .ref m2, .ref m3, .int ik, .int wy, .int op, .int cl, .int cx0, .int cx1, .int cy0, .int cy1, .int ds, .ref m4, .ref m5, .ref m6, .ref m7, .ref m8, .ref m9, .int pn, .ref m10, .ref m11, .ref m12, .ref m13])), (m10, .inl (cI, 3, .inl kx)), (m11, .inl (cI, 3, .inl ky)), (m12, .inl (cI, 3, .inl ki))]) [7, 8, 9, 4] rfl
                    have hDc := hD.sub (ws' := [(h0, .inr (9, [.ref m1, .ref m2, .ref m3, .int ik, .int wy, .int op, .int cl, .int cx0, .int cx1, .int cy0, .int cy1, .int ds, .ref m4, .ref m5, .ref m6, .ref m7, .ref m8, .ref m9, .int pn, .ref m10, .ref m11, .ref m12, .ref m13])), (m10, .inl (cI, 3, .inl kx)), (m11, .inl (cI, 3, .inl ky)), (m12, .inl (cI, 3, .inl ki))]) [7, 8, 9, 4] (by decide) rfl
                    have hKc := hK.sub (tys' := [(cI, .int)]) [0] rfl
                    have hFc := va_free (wc := [(h0, .inr (9, [.ref m1, .ref m2, .ref m3, .int ik, .int wy, .int op, .int cl, .int cx0, .int cx1, .int cy0, .int cy1, .int ds, .ref m4, .ref m5, .ref m6, .ref m7, .ref m8, .ref m9, .int pn, .ref m10, .ref m11, .ref m12, .ref m13])), (m10, .inl (cI, 3, .inl kx)), (m11, .inl (cI, 3, .inl ky)), (m12, .inl (cI, 3, .inl ki))]) hD hS hA [7, 8, 9, 4] rfl
                    refine va_calli (va_runV (As := [.int y_39, .int y_41, .int r_17]) (rest := [.int x3, .int x4, .int k, .ref h0]) ⟨hx, hb, hml, hown, hts⟩ (k_X9_mixed l D H.size h0 m1 m2 m3 m4 m5 m6 m7 m8 m9 m10 m11 m12 m13 ik wy op cl cx0 cx1 cy0 cy1 ds pn kx ky ki y_39 y_41 r_17 cI c_18) (cwV 3 hts (gV bw_544 bw_546 bw_547 bw_391 bw_545) rfl rfl rfl (by decide +kernel) ⟨(by rw [hR]; exact Nat.le_of_ble_eq_true rfl), (by rw [hR]; exact Nat.le_of_ble_eq_true rfl)⟩) ⟨cP_blind, va_recv hKc hPc (ci := 9) (q0 := 0) rfl rfl, cP_at hPc hKc hDc hN⟩ rfl rfl hl.1 rfl (lv_room (Nat.le_of_ble_eq_true rfl)) dX9_shade_134 ⟨(by rw [hR]; exact Nat.le_of_ble_eq_true rfl), (by rw [hR]; exact Nat.le_of_ble_eq_true rfl)⟩) hS (fun q _ h => hFc q h) hFc (fun r_42 u9 t9 H1 locs ht hvm hr_42 hB hz1 hk1 hS => ?_)
                    try dsimp only at hr_42
                    obtain ⟨hP1, hK1, hD1⟩ := hB
                    rw [ht] at hP1
                    obtain ⟨hP, hD⟩ := va_join (wr := [(m2, .inl (cI, 4, .inl gh)), (m3, .inl (cI, 16384, .inl gd)), (m5, .inl (cI, 4096, .inl gk)), (m6, .inl (cI, 4096, .inl gl)), (m1, .inl (cI, 4, .inl gw)), (m4, .inl (cZ, 4096, .inl gj))]) (w1 := [(h0, .inr (9, [.ref m1, .ref m2, .ref m3, .int ik, .int wy, .int op, .int cl, .int cx0, .int cx1, .int cy0, .int cy1, .int ds, .ref m4, .ref m5, .ref m6, .ref m7, .ref m8, .ref m9, .int pn, .ref m10, .ref m11, .ref m12, .ref m13])), (m10, .inl (cI, 3, .inl kx)), (m11, .inl (cI, 3, .inl ky)), (m12, .inl (cI, 3, .inl ki))]) hP hD [7, 8, 9, 4] [0, 1, 2, 3, 5, 6] rfl rfl (by decide) (by decide) hk1 hFc hP1 hD1
                    clear hz1 hk1 hFc hKc hDc hPc
                    generalize H1 = H at hP hS ⊢
                    have hP : va_P D vwCl [(m2, .inl (cI, 4, .inl gh)), (m3, .inl (cI, 16384, .inl gd)), (m5, .inl (cI, 4096, .inl gk)), (m6, .inl (cI, 4096, .inl gl)), (m1, .inl (cI, 4, .inl gw)), (m4, .inl (cZ, 4096, .inl gj)), (h0, .inr (9, [.ref m1, .ref m2, .ref m3, .int ik, .int wy, .int op, .int cl, .int cx0, .int cx1, .int cy0, .int cy1, .int ds, .ref m4, .ref m5, .ref m6, .ref m7, .ref m8, .ref m9, .int pn, .ref m10, .ref m11, .ref m12, .ref m13])), (m10, .inl (cI, 3, .inl kx)), (m11, .inl (cI, 3, .inl ky)), (m12, .inl (cI, 3, .inl ki))] H := hP
                    have hD : va_D A [(m2, .inl (cI, 4, .inl gh)), (m3, .inl (cI, 16384, .inl gd)), (m5, .inl (cI, 4096, .inl gk)), (m6, .inl (cI, 4096, .inl gl)), (m1, .inl (cI, 4, .inl gw)), (m4, .inl (cZ, 4096, .inl gj)), (h0, .inr (9, [.ref m1, .ref m2, .ref m3, .int ik, .int wy, .int op, .int cl, .int cx0, .int cx1, .int cy0, .int cy1, .int ds, .ref m4, .ref m5, .ref m6, .ref m7, .ref m8, .ref m9, .int pn, .ref m10, .ref m11, .ref m12, .ref m13])), (m10, .inl (cI, 3, .inl kx)), (m11, .inl (cI, 3, .inl ky)), (m12, .inl (cI, 3, .inl ki))] := hD
                    refine lv_aload_n hx hb dX9_shade_137 rfl (lv_at hl 3 rfl) ?_
                    refine va_get (D := D) (ci := 9) (v := .int op) (C := RX9) (T := TX9) (N := 23) hx hb hts hi_X9 hown hK hP 6 rfl rfl 5 (by decide) (hts _ bw_401) (fun _ h9 => h9) rfl dX9_shade_138 ?_
                    have hPc := hP.sub (ws' := [(h0, .inr (9, [.ref m1, .ref m2, .ref m3, .int ik, .int wy, .int op, .int cl, .int cx0, .int cx1, .int cy0, .int cy1, .int ds, .ref m4, .ref m5, .ref m6, .ref m7, .ref m8, .ref m9, .int pn, .ref m10, .ref m11, .ref m12, .ref m13])), (m1, .inl (cI, 4, .inl gw)), (m2, .inl (cI, 4, .inl gh)), (m4, .inl (cZ, 4096, .inl gj)), (m5, .inl (cI, 4096, .inl gk)), (m6, .inl (cI, 4096, .inl gl))]) [6, 4, 0, 5, 2, 3] rfl
                    have hDc := hD.sub (ws' := [(h0, .inr (9, [.ref m1, .ref m2, .ref m3, .int ik, .int wy, .int op, .int cl, .int cx0, .int cx1, .int cy0, .int cy1, .int ds, .ref m4, .ref m5, .ref m6, .ref m7, .ref m8, .ref m9, .int pn, .ref m10, .ref m11, .ref m12, .ref m13])), (m1, .inl (cI, 4, .inl gw)), (m2, .inl (cI, 4, .inl gh)), (m4, .inl (cZ, 4096, .inl gj)), (m5, .inl (cI, 4096, .inl gk)), (m6, .inl (cI, 4096, .inl gl))]) [6, 4, 0, 5, 2, 3] (by decide) rfl
                    have hKc := hK.sub (tys' := [(cI, .int), (cZ, .boolean)]) [0, 1] rfl
                    have hFc := va_free (wc := [(h0, .inr (9, [.ref m1, .ref m2, .ref m3, .int ik, .int wy, .int op, .int cl, .int cx0, .int cx1, .int cy0, .int cy1, .int ds, .ref m4, .ref m5, .ref m6, .ref m7, .ref m8, .ref m9, .int pn, .ref m10, .ref m11, .ref m12, .ref m13])), (m1, .inl (cI, 4, .inl gw)), (m2, .inl (cI, 4, .inl gh)), (m4, .inl (cZ, 4096, .inl gj)), (m5, .inl (cI, 4096, .inl gk)), (m6, .inl (cI, 4096, .inl gl))]) hD hS hA [6, 4, 0, 5, 2, 3] rfl
                    refine va_callv (va_runV (As := [.int k, .int x4, .int x3, .int r_42, .int op]) (rest := []) ⟨hx, hb, hml, hown, hts⟩ (k_X9_marks l D H.size h0 m1 m2 m3 m4 m5 m6 m7 m8 m9 m10 m11 m12 m13 ik wy op cl cx0 cx1 cy0 cy1 ds pn gw gh gj gk gl k x4 x3 r_42 op cI cZ (by omega) hgk_k.1 hgk_k.2) (cwV 5 hts (gV bw_495 bw_458 bw_459 bw_391 bw_457) rfl rfl rfl (by decide +kernel) ⟨(by rw [hR]; exact Nat.le_of_ble_eq_true rfl), (by rw [hR]; exact Nat.le_of_ble_eq_true rfl)⟩) ⟨cP_blind, va_recv hKc hPc (ci := 9) (q0 := 0) rfl rfl, cP_at hPc hKc hDc hN⟩ rfl rfl hl.1 rfl (lv_room (Nat.le_of_ble_eq_true rfl)) dX9_shade_141 ⟨(by rw [hR]; exact Nat.le_of_ble_eq_true rfl), (by rw [hR]; exact Nat.le_of_ble_eq_true rfl)⟩) hS (fun q _ h => hFc q h) hFc (fun u9 t9 H1 locs ht hvm hr_43 hB hz1 hk1 hS => ?_)
                    try dsimp only at hr_43
                    obtain ⟨hP1, hK1, hD1⟩ := hB
                    rw [ht] at hP1
                    obtain ⟨hP, hD⟩ := va_join (wr := [(m3, .inl (cI, 16384, .inl gd)), (m10, .inl (cI, 3, .inl kx)), (m11, .inl (cI, 3, .inl ky)), (m12, .inl (cI, 3, .inl ki))]) (w1 := [(h0, .inr (9, [.ref m1, .ref m2, .ref m3, .int ik, .int wy, .int op, .int cl, .int cx0, .int cx1, .int cy0, .int cy1, .int ds, .ref m4, .ref m5, .ref m6, .ref m7, .ref m8, .ref m9, .int pn, .ref m10, .ref m11, .ref m12, .ref m13])), (m1, .inl (cI, 4, .inl gw)), (m2, .inl (cI, 4, .inl gh)), (m4, .inl (cZ, 4096, .inl (if (0 ≤ x4.toInt ∧ x4.toInt < (gw k.toNatClampNeg).toInt ∧ 0 ≤ x3.toInt ∧ x3.toInt < (gh k.toNatClampNeg).toInt) ∧ (cl.toInt = 0 ∨ (cx0.toInt ≤ x4.toInt ∧ x4.toInt ≤ cx1.toInt ∧ cy0.toInt ≤ x3.toInt ∧ x3.toInt ≤ cy1.toInt)) then upd gj (ixP x4 x3) 1 else gj))), (m5, .inl (cI, 4096, .inl (if (0 ≤ x4.toInt ∧ x4.toInt < (gw k.toNatClampNeg).toInt ∧ 0 ≤ x3.toInt ∧ x3.toInt < (gh k.toNatClampNeg).toInt) ∧ (cl.toInt = 0 ∨ (cx0.toInt ≤ x4.toInt ∧ x4.toInt ≤ cx1.toInt ∧ cy0.toInt ≤ x3.toInt ∧ x3.toInt ≤ cy1.toInt)) then upd gk (ixP x4 x3) op else gk))), (m6, .inl (cI, 4096, .inl (if (0 ≤ x4.toInt ∧ x4.toInt < (gw k.toNatClampNeg).toInt ∧ 0 ≤ x3.toInt ∧ x3.toInt < (gh k.toNatClampNeg).toInt) ∧ (cl.toInt = 0 ∨ (cx0.toInt ≤ x4.toInt ∧ x4.toInt ≤ cx1.toInt ∧ cy0.toInt ≤ x3.toInt ∧ x3.toInt ≤ cy1.toInt)) then upd gl (ixP x4 x3) r_42 else gl)))]) hP hD [6, 4, 0, 5, 2, 3] [1, 7, 8, 9] rfl rfl (by decide) (by decide) hk1 hFc hP1 hD1
                    clear hz1 hk1 hFc hKc hDc hPc
                    generalize H1 = H at hP hS ⊢
                    have hP : va_P D vwCl [(m3, .inl (cI, 16384, .inl gd)), (m10, .inl (cI, 3, .inl kx)), (m11, .inl (cI, 3, .inl ky)), (m12, .inl (cI, 3, .inl ki)), (h0, .inr (9, [.ref m1, .ref m2, .ref m3, .int ik, .int wy, .int op, .int cl, .int cx0, .int cx1, .int cy0, .int cy1, .int ds, .ref m4, .ref m5, .ref m6, .ref m7, .ref m8, .ref m9, .int pn, .ref m10, .ref m11, .ref m12, .ref m13])), (m1, .inl (cI, 4, .inl gw)), (m2, .inl (cI, 4, .inl gh)), (m4, .inl (cZ, 4096, .inl (if (0 ≤ x4.toInt ∧ x4.toInt < (gw k.toNatClampNeg).toInt ∧ 0 ≤ x3.toInt ∧ x3.toInt < (gh k.toNatClampNeg).toInt) ∧ (cl.toInt = 0 ∨ (cx0.toInt ≤ x4.toInt ∧ x4.toInt ≤ cx1.toInt ∧ cy0.toInt ≤ x3.toInt ∧ x3.toInt ≤ cy1.toInt)) then upd gj (ixP x4 x3) 1 else gj))), (m5, .inl (cI, 4096, .inl (if (0 ≤ x4.toInt ∧ x4.toInt < (gw k.toNatClampNeg).toInt ∧ 0 ≤ x3.toInt ∧ x3.toInt < (gh k.toNatClampNeg).toInt) ∧ (cl.toInt = 0 ∨ (cx0.toInt ≤ x4.toInt ∧ x4.toInt ≤ cx1.toInt ∧ cy0.toInt ≤ x3.toInt ∧ x3.toInt ≤ cy1.toInt)) then upd gk (ixP x4 x3) op else gk))), (m6, .inl (cI, 4096, .inl (if (0 ≤ x4.toInt ∧ x4.toInt < (gw k.toNatClampNeg).toInt ∧ 0 ≤ x3.toInt ∧ x3.toInt < (gh k.toNatClampNeg).toInt) ∧ (cl.toInt = 0 ∨ (cx0.toInt ≤ x4.toInt ∧ x4.toInt ≤ cx1.toInt ∧ cy0.toInt ≤ x3.toInt ∧ x3.toInt ≤ cy1.toInt)) then upd gl (ixP x4 x3) r_42 else gl)))] H := hP
                    have hD : va_D A [(m3, .inl (cI, 16384, .inl gd)), (m10, .inl (cI, 3, .inl kx)), (m11, .inl (cI, 3, .inl ky)), (m12, .inl (cI, 3, .inl ki)), (h0, .inr (9, [.ref m1, .ref m2, .ref m3, .int ik, .int wy, .int op, .int cl, .int cx0, .int cx1, .int cy0, .int cy1, .int ds, .ref m4, .ref m5, .ref m6, .ref m7, .ref m8, .ref m9, .int pn, .ref m10, .ref m11, .ref m12, .ref m13])), (m1, .inl (cI, 4, .inl gw)), (m2, .inl (cI, 4, .inl gh)), (m4, .inl (cZ, 4096, .inl (if (0 ≤ x4.toInt ∧ x4.toInt < (gw k.toNatClampNeg).toInt ∧ 0 ≤ x3.toInt ∧ x3.toInt < (gh k.toNatClampNeg).toInt) ∧ (cl.toInt = 0 ∨ (cx0.toInt ≤ x4.toInt ∧ x4.toInt ≤ cx1.toInt ∧ cy0.toInt ≤ x3.toInt ∧ x3.toInt ≤ cy1.toInt)) then upd gj (ixP x4 x3) 1 else gj))), (m5, .inl (cI, 4096, .inl (if (0 ≤ x4.toInt ∧ x4.toInt < (gw k.toNatClampNeg).toInt ∧ 0 ≤ x3.toInt ∧ x3.toInt < (gh k.toNatClampNeg).toInt) ∧ (cl.toInt = 0 ∨ (cx0.toInt ≤ x4.toInt ∧ x4.toInt ≤ cx1.toInt ∧ cy0.toInt ≤ x3.toInt ∧ x3.toInt ≤ cy1.toInt)) then upd gk (ixP x4 x3) op else gk))), (m6, .inl (cI, 4096, .inl (if (0 ≤ x4.toInt ∧ x4.toInt < (gw k.toNatClampNeg).toInt ∧ 0 ≤ x3.toInt ∧ x3.toInt < (gh k.toNatClampNeg).toInt) ∧ (cl.toInt = 0 ∨ (cx0.toInt ≤ x4.toInt ∧ x4.toInt ≤ cx1.toInt ∧ cy0.toInt ≤ x3.toInt ∧ x3.toInt ≤ cy1.toInt)) then upd gl (ixP x4 x3) r_42 else gl)))] := hD
                    obtain ⟨y_44, ey_44⟩ : ∃ y : Int32, y = x4 + 1 := ⟨_, rfl⟩
                    refine lv_iinc (v := y_44) (lv' := [(4, .int y_44), (3, .int x3), (2, .int r_17), (0, .ref h0), (1, .int k)]) hx hb dX9_shade_144 hl (k := 0) rfl (by rw [ey_44]; rfl) (by decide) rfl (fun ls hl => ?_)
                    refine lv_goto (tgt := 87) hx hb dX9_shade_147 (by decide) ?_
                    exact ih_26 (i + 1) y_44 (if (0 ≤ x4.toInt ∧ x4.toInt < (gw k.toNatClampNeg).toInt ∧ 0 ≤ x3.toInt ∧ x3.toInt < (gh k.toNatClampNeg).toInt) ∧ (cl.toInt = 0 ∨ (cx0.toInt ≤ x4.toInt ∧ x4.toInt ≤ cx1.toInt ∧ cy0.toInt ≤ x3.toInt ∧ x3.toInt ≤ cy1.toInt)) then upd gj (ixP x4 x3) 1 else gj) (if (0 ≤ x4.toInt ∧ x4.toInt < (gw k.toNatClampNeg).toInt ∧ 0 ≤ x3.toInt ∧ x3.toInt < (gh k.toNatClampNeg).toInt) ∧ (cl.toInt = 0 ∨ (cx0.toInt ≤ x4.toInt ∧ x4.toInt ≤ cx1.toInt ∧ cy0.toInt ≤ x3.toInt ∧ x3.toInt ≤ cy1.toInt)) then upd gk (ixP x4 x3) op else gk) (if (0 ≤ x4.toInt ∧ x4.toInt < (gw k.toNatClampNeg).toInt ∧ 0 ≤ x3.toInt ∧ x3.toInt < (gh k.toNatClampNeg).toInt) ∧ (cl.toInt = 0 ∨ (cx0.toInt ≤ x4.toInt ∧ x4.toInt ≤ cx1.toInt ∧ cy0.toInt ≤ x3.toInt ∧ x3.toInt ≤ cy1.toInt)) then upd gl (ixP x4 x3) r_42 else gl) _ _ _ (by omega) (by omega) (by rw [ey_44, ex_i]; exact nI_1 i) (hP.sub (ws' := [(m2, .inl (cI, 4, .inl gh)), (m3, .inl (cI, 16384, .inl gd)), (m5, .inl (cI, 4096, .inl (if (0 ≤ x4.toInt ∧ x4.toInt < (gw k.toNatClampNeg).toInt ∧ 0 ≤ x3.toInt ∧ x3.toInt < (gh k.toNatClampNeg).toInt) ∧ (cl.toInt = 0 ∨ (cx0.toInt ≤ x4.toInt ∧ x4.toInt ≤ cx1.toInt ∧ cy0.toInt ≤ x3.toInt ∧ x3.toInt ≤ cy1.toInt)) then upd gk (ixP x4 x3) op else gk))), (m6, .inl (cI, 4096, .inl (if (0 ≤ x4.toInt ∧ x4.toInt < (gw k.toNatClampNeg).toInt ∧ 0 ≤ x3.toInt ∧ x3.toInt < (gh k.toNatClampNeg).toInt) ∧ (cl.toInt = 0 ∨ (cx0.toInt ≤ x4.toInt ∧ x4.toInt ≤ cx1.toInt ∧ cy0.toInt ≤ x3.toInt ∧ x3.toInt ≤ cy1.toInt)) then upd gl (ixP x4 x3) r_42 else gl))), (m10, .inl (cI, 3, .inl kx)), (m11, .inl (cI, 3, .inl ky)), (m12, .inl (cI, 3, .inl ki)), (m1, .inl (cI, 4, .inl gw)), (h0, .inr (9, [.ref m1, .ref m2, .ref m3, .int ik, .int wy, .int op, .int cl, .int cx0, .int cx1, .int cy0, .int cy1, .int ds, .ref m4, .ref m5, .ref m6, .ref m7, .ref m8, .ref m9, .int pn, .ref m10, .ref m11, .ref m12, .ref m13])), (m4, .inl (cZ, 4096, .inl (if (0 ≤ x4.toInt ∧ x4.toInt < (gw k.toNatClampNeg).toInt ∧ 0 ≤ x3.toInt ∧ x3.toInt < (gh k.toNatClampNeg).toInt) ∧ (cl.toInt = 0 ∨ (cx0.toInt ≤ x4.toInt ∧ x4.toInt ≤ cx1.toInt ∧ cy0.toInt ≤ x3.toInt ∧ x3.toInt ≤ cy1.toInt)) then upd gj (ixP x4 x3) 1 else gj)))]) [6, 0, 8, 9, 1, 2, 3, 5, 4, 7] rfl) (hD.sub (ws' := [(m2, .inl (cI, 4, .inl gh)), (m3, .inl (cI, 16384, .inl gd)), (m5, .inl (cI, 4096, .inl (if (0 ≤ x4.toInt ∧ x4.toInt < (gw k.toNatClampNeg).toInt ∧ 0 ≤ x3.toInt ∧ x3.toInt < (gh k.toNatClampNeg).toInt) ∧ (cl.toInt = 0 ∨ (cx0.toInt ≤ x4.toInt ∧ x4.toInt ≤ cx1.toInt ∧ cy0.toInt ≤ x3.toInt ∧ x3.toInt ≤ cy1.toInt)) then upd gk (ixP x4 x3) op else gk))), (m6, .inl (cI, 4096, .inl (if (0 ≤ x4.toInt ∧ x4.toInt < (gw k.toNatClampNeg).toInt ∧ 0 ≤ x3.toInt ∧ x3.toInt < (gh k.toNatClampNeg).toInt) ∧ (cl.toInt = 0 ∨ (cx0.toInt ≤ x4.toInt ∧ x4.toInt ≤ cx1.toInt ∧ cy0.toInt ≤ x3.toInt ∧ x3.toInt ≤ cy1.toInt)) then upd gl (ixP x4 x3) r_42 else gl))), (m10, .inl (cI, 3, .inl kx)), (m11, .inl (cI, 3, .inl ky)), (m12, .inl (cI, 3, .inl ki)), (m1, .inl (cI, 4, .inl gw)), (h0, .inr (9, [.ref m1, .ref m2, .ref m3, .int ik, .int wy, .int op, .int cl, .int cx0, .int cx1, .int cy0, .int cy1, .int ds, .ref m4, .ref m5, .ref m6, .ref m7, .ref m8, .ref m9, .int pn, .ref m10, .ref m11, .ref m12, .ref m13])), (m4, .inl (cZ, 4096, .inl (if (0 ≤ x4.toInt ∧ x4.toInt < (gw k.toNatClampNeg).toInt ∧ 0 ≤ x3.toInt ∧ x3.toInt < (gh k.toNatClampNeg).toInt) ∧ (cl.toInt = 0 ∨ (cx0.toInt ≤ x4.toInt ∧ x4.toInt ≤ cx1.toInt ∧ cy0.toInt ≤ x3.toInt ∧ x3.toInt ≤ cy1.toInt)) then upd gj (ixP x4 x3) 1 else gj)))]) [6, 0, 8, 9, 1, 2, 3, 5, 4, 7] (by decide) rfl) hS (lv_sub hl [0, 1, 2, 3, 4] rfl)
            exact loop_25 (64 + 1) 0 0 ga gb gc _ _ _ (by omega) (by omega) nI_0.symm hP hD hS (lv_sub hl [0, 1, 2, 3, 4] rfl)
      exact loop_20 (64 + 1) 0 0 (zrN gm 4096) ge gv _ _ _ (by omega) (by omega) nI_0.symm hP hD hS (lv_sub hl [0, 1, 2, 3] rfl)
    · skip
      have f_19 : r_17.toInt = 0 := f_eq rfl (by decide) c_18
      refine lv_iconst (v := 0) hx hb dX9_shade_70 (by decide) ?_
      have hP9 := hP.sub (ws' := [(h0, .inr (9, [.ref m1, .ref m2, .ref m3, .int ik, .int wy, .int op, .int cl, .int cx0, .int cx1, .int cy0, .int cy1, .int ds, .ref m4, .ref m5, .ref m6, .ref m7, .ref m8, .ref m9, .int pn, .ref m10, .ref m11, .ref m12, .ref m13])), (m1, .inl (cI, 4, .inl gw)), (m2, .inl (cI, 4, .inl gh)), (m3, .inl (cI, 16384, .inl gd)), (m4, .inl (cZ, 4096, .inl (zrN gm 4096))), (m5, .inl (cI, 4096, .inl ge)), (m6, .inl (cI, 4096, .inl gv)), (m10, .inl (cI, 3, .inl kx)), (m11, .inl (cI, 3, .inl ky)), (m12, .inl (cI, 3, .inl ki))]) [8, 7, 0, 1, 9, 2, 3, 4, 5, 6] rfl
      have hD9 := hD.sub (ws' := [(h0, .inr (9, [.ref m1, .ref m2, .ref m3, .int ik, .int wy, .int op, .int cl, .int cx0, .int cx1, .int cy0, .int cy1, .int ds, .ref m4, .ref m5, .ref m6, .ref m7, .ref m8, .ref m9, .int pn, .ref m10, .ref m11, .ref m12, .ref m13])), (m1, .inl (cI, 4, .inl gw)), (m2, .inl (cI, 4, .inl gh)), (m3, .inl (cI, 16384, .inl gd)), (m4, .inl (cZ, 4096, .inl (zrN gm 4096))), (m5, .inl (cI, 4096, .inl ge)), (m6, .inl (cI, 4096, .inl gv)), (m10, .inl (cI, 3, .inl kx)), (m11, .inl (cI, 3, .inl ky)), (m12, .inl (cI, 3, .inl ki))]) [8, 7, 0, 1, 9, 2, 3, 4, 5, 6] (by decide) rfl
      have hK9 := hK.sub (tys' := [(cI, .int), (cZ, .boolean)]) [0, 1] rfl
      refine hQ _ _ _ _ _ ?_
      exact W.iret (v := 0) hx hb hr (fun t ht hW => ⟨⟨0, (), rfl, trivial, ⟨gd, (zrN gm 4096), ge, gv, by rw [ht]; exact hP9, va_K.moved hW.alike hK9, hD9⟩⟩, hS.F ht⟩) hS.2.2 dX9_shade_71
  · skip
    have f_3 := bz0 hr_1 c_2
    refine lv_iconst (v := (-1)) hx hb dX9_shade_8 (by decide) ?_
    have hP9 := hP.sub (ws' := [(h0, .inr (9, [.ref m1, .ref m2, .ref m3, .int ik, .int wy, .int op, .int cl, .int cx0, .int cx1, .int cy0, .int cy1, .int ds, .ref m4, .ref m5, .ref m6, .ref m7, .ref m8, .ref m9, .int pn, .ref m10, .ref m11, .ref m12, .ref m13])), (m1, .inl (cI, 4, .inl gw)), (m2, .inl (cI, 4, .inl gh)), (m3, .inl (cI, 16384, .inl gd)), (m4, .inl (cZ, 4096, .inl gm)), (m5, .inl (cI, 4096, .inl ge)), (m6, .inl (cI, 4096, .inl gv)), (m10, .inl (cI, 3, .inl kx)), (m11, .inl (cI, 3, .inl ky)), (m12, .inl (cI, 3, .inl ki))]) [8, 9, 0, 1, 2, 3, 4, 5, 6, 7] rfl
    have hD9 := hD.sub (ws' := [(h0, .inr (9, [.ref m1, .ref m2, .ref m3, .int ik, .int wy, .int op, .int cl, .int cx0, .int cx1, .int cy0, .int cy1, .int ds, .ref m4, .ref m5, .ref m6, .ref m7, .ref m8, .ref m9, .int pn, .ref m10, .ref m11, .ref m12, .ref m13])), (m1, .inl (cI, 4, .inl gw)), (m2, .inl (cI, 4, .inl gh)), (m3, .inl (cI, 16384, .inl gd)), (m4, .inl (cZ, 4096, .inl gm)), (m5, .inl (cI, 4096, .inl ge)), (m6, .inl (cI, 4096, .inl gv)), (m10, .inl (cI, 3, .inl kx)), (m11, .inl (cI, 3, .inl ky)), (m12, .inl (cI, 3, .inl ki))]) [8, 9, 0, 1, 2, 3, 4, 5, 6, 7] (by decide) rfl
    have hK9 := hK.sub (tys' := [(cI, .int), (cZ, .boolean)]) [0, 1] rfl
    refine hQ _ _ _ _ _ ?_
    exact W.iret (v := (-1)) hx hb hr (fun t ht hW => ⟨⟨(-1), (), rfl, trivial, ⟨gd, gm, ge, gv, by rw [ht]; exact hP9, va_K.moved hW.alike hK9, hD9⟩⟩, hS.F ht⟩) hS.2.2 dX9_shade_9
