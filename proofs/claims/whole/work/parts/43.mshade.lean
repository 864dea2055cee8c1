set_option maxHeartbeats 4000000 in
set_option maxRecDepth 100000 in
theorem k_X9_corner_y (l : Launch) (D : va_G) (sz : Nat) (h0 m1 m2 m3 m4 m5 m6 m7 m8 m9 m10 m11 m12 m13 : Nat) (ik wy op cl cx0 cx1 cy0 cy1 ds pn : Int32) (kx : Nat → Int32) (ky : Nat → Int32) (ki : Nat → Int32) (i9 x y v : Int32) (cI : ClassId) (hcn : (0 ≤ i9.toInt ∧ i9.toInt ≤ 2) ∧ (-200 ≤ x.toInt ∧ x.toInt ≤ 200) ∧ (-200 ≤ y.toInt ∧ y.toInt ≤ 200)) : Met l yX9_corner (wB yX9_corner cX9_corner 5 (some .boolean)) ({ frames := 2, cells := 0, slots := 0, locals := 44 }) (cP D [(h0, .inr (9, [.ref m1, .ref m2, .ref m3, .int ik, .int wy, .int op, .int cl, .int cx0, .int cx1, .int cy0, .int cy1, .int ds, .ref m4, .ref m5, .ref m6, .ref m7, .ref m8, .ref m9, .int pn, .ref m10, .ref m11, .ref m12, .ref m13])), (m10, .inl (cI, 3, .inl kx)), (m11, .inl (cI, 3, .inl ky)), (m12, .inl (cI, 3, .inl ki))] [(cI, .int)] sz [.ref h0, .int i9, .int x, .int y, .int v]) (va_Qi (fun (r : Int32) (_ : Unit) => r = 1) (fun (_ : Unit) (t : State) => cB D (va_A [(h0, .inr (9, [.ref m1, .ref m2, .ref m3, .int ik, .int wy, .int op, .int cl, .int cx0, .int cx1, .int cy0, .int cy1, .int ds, .ref m4, .ref m5, .ref m6, .ref m7, .ref m8, .ref m9, .int pn, .ref m10, .ref m11, .ref m12, .ref m13])), (m10, .inl (cI, 3, .inl kx)), (m11, .inl (cI, 3, .inl ky)), (m12, .inl (cI, 3, .inl ki))] sz) [(h0, .inr (9, [.ref m1, .ref m2, .ref m3, .int ik, .int wy, .int op, .int cl, .int cx0, .int cx1, .int cy0, .int cy1, .int ds, .ref m4, .ref m5, .ref m6, .ref m7, .ref m8, .ref m9, .int pn, .ref m10, .ref m11, .ref m12, .ref m13])), (m10, .inl (cI, 3, .inl (upd kx i9.toNatClampNeg x))), (m11, .inl (cI, 3, .inl (upd ky i9.toNatClampNeg y))), (m12, .inl (cI, 3, .inl (upd ki i9.toNatClampNeg (inkP v))))] [(cI, .int)] t) (va_A [(h0, .inr (9, [.ref m1, .ref m2, .ref m3, .int ik, .int wy, .int op, .int cl, .int cx0, .int cx1, .int cy0, .int cy1, .int ds, .ref m4, .ref m5, .ref m6, .ref m7, .ref m8, .ref m9, .int pn, .ref m10, .ref m11, .ref m12, .ref m13])), (m10, .inl (cI, 3, .inl kx)), (m11, .inl (cI, 3, .inl ky)), (m12, .inl (cI, 3, .inl ki))] sz)) 0 0 (va_A [(h0, .inr (9, [.ref m1, .ref m2, .ref m3, .int ik, .int wy, .int op, .int cl, .int cx0, .int cx1, .int cy0, .int cy1, .int ds, .ref m4, .ref m5, .ref m6, .ref m7, .ref m8, .ref m9, .int pn, .ref m10, .ref m11, .ref m12, .ref m13])), (m10, .inl (cI, 3, .inl kx)), (m11, .inl (cI, 3, .inl ky)), (m12, .inl (cI, 3, .inl ki))] sz) := by
  refine Met.ofW (cc := cX9_corner) (maxL := 5) (ret := (some .boolean)) (by decide) rfl ?_
  intro p e s m args below meth c s₁ B hml hv
  obtain ⟨rfl, hsz, hP, hK, hD0, hN⟩ := hv
  have hx := B.exec
  have hb := B.bytes
  have hr := B.returns
  have hts0 := atoms_spec (ws := (wB yX9_corner cX9_corner 5 (some .boolean))) B.pre
  have hts : ∀ w ∈ bigW, w.before _ s = true := fun w h => hts0 w (List.mem_cons_of_mem _ h)
  have hown : s.vm.findClass RX9 = some m.cls := findClass_of_methodNamed B.named
  have hlocks := B.notSynchronized
  subst hsz
  have hD := hD0.self (sz := s.heap.size)
  generalize hAe : va_A [(h0, .inr (9, [.ref m1, .ref m2, .ref m3, .int ik, .int wy, .int op, .int cl, .int cx0, .int cx1, .int cy0, .int cy1, .int ds, .ref m4, .ref m5, .ref m6, .ref m7, .ref m8, .ref m9, .int pn, .ref m10, .ref m11, .ref m12, .ref m13])), (m10, .inl (cI, 3, .inl kx)), (m11, .inl (cI, 3, .inl ky)), (m12, .inl (cI, 3, .inl ki))] s.heap.size = A at hD ⊢
  have hA : ∀ q : Nat, s.heap.size ≤ q → A q := fun q h => by rw [← hAe]; exact Or.inr h
  have hS : va_S A s.heap s.heap [] := va_S.rf
  have hP : va_P D vwCl [(h0, .inr (9, [.ref m1, .ref m2, .ref m3, .int ik, .int wy, .int op, .int cl, .int cx0, .int cx1, .int cy0, .int cy1, .int ds, .ref m4, .ref m5, .ref m6, .ref m7, .ref m8, .ref m9, .int pn, .ref m10, .ref m11, .ref m12, .ref m13])), (m10, .inl (cI, 3, .inl kx)), (m11, .inl (cI, 3, .inl ky)), (m12, .inl (cI, 3, .inl ki))] s.heap := hP
  have hl := lv_entry ([.ref h0, .int i9, .int x, .int y, .int v]) (n := 5) (Nat.le_of_ble_eq_true rfl)
  rw [lg_entry_eq]
  generalize (lg_sl ([.ref h0, .int i9, .int x, .int y, .int v]) ++ List.replicate (5 - (lg_sl ([.ref h0, .int i9, .int x, .int y, .int v])).length) Slot.unset).toArray = ls at hl ⊢
  have hl : lv_has ls 5 [(0, .ref h0), (1, .int i9), (2, .int x), (3, .int y), (4, .int v)] := hl
  clear hts0 hD0 hAe
  refine my_abs (fun R Q hR hQ => ?_)
  refine lv_iload_n hx hb dX9_corner_0 rfl (lv_at hl 1 rfl) ?_
  refine lv_if_lt (tgt := 29) hx hb dX9_corner_1 (by decide) (fun c_1 => ?_) (fun c_1 => ?_)
  · skip
    have f_2 : i9.toInt < 0 := f_lt rfl (by decide) c_1
    exact False.elim (by omega)
  · skip
    have f_2 : ¬ (i9.toInt < 0) := fn_lt rfl (by decide) c_1
    refine lv_iload_n hx hb dX9_corner_4 rfl (lv_at hl 1 rfl) ?_
    refine lv_iconst (v := 2) hx hb dX9_corner_5 (by decide) ?_
    refine lv_icmp_gt (tgt := 29) hx hb dX9_corner_6 (by decide) (fun c_3 => ?_) (fun c_3 => ?_)
    · skip
      have f_4 : 2 < i9.toInt := f_lt (by decide) rfl c_3
      exact False.elim (by omega)
    · skip
      have f_4 : ¬ (2 < i9.toInt) := fn_lt (by decide) rfl c_3
      refine lv_iload_n hx hb dX9_corner_9 rfl (lv_at hl 2 rfl) ?_
      refine lv_sipush (v := 200) hx hb dX9_corner_10 (by decide) ?_
      have hPc := hP.sub (ws' := []) [] rfl
      have hDc := hD.sub (ws' := []) [] (by decide) rfl
      have hKc := hK.sub (tys' := []) [] rfl
      have hFc := va_free (wc := []) hD hS hA [] rfl
      refine va_calli (va_runS (As := [.int x, .int 200]) (rest := []) ⟨hx, hb, hml, hown, hts⟩ (k_X9_isNear l D s.heap.size x 200 (-200) 200 (by decide) (by decide)) (va_cwS 2 hts (gS bw_491 bw_482 bw_391 bw_481) rfl rfl rfl (by decide +kernel) ⟨(by rw [hR]; exact Nat.le_of_ble_eq_true rfl), (by rw [hR]; exact Nat.le_of_ble_eq_true rfl)⟩) ⟨cP_blind, cP_at hPc hKc hDc hN⟩ rfl rfl hl.1 rfl (lv_room (Nat.le_of_ble_eq_true rfl)) dX9_corner_13 ⟨(by rw [hR]; exact Nat.le_of_ble_eq_true rfl), (by rw [hR]; exact Nat.le_of_ble_eq_true rfl)⟩) hS (fun q _ h => hFc q h) hFc (fun r_5 u9 t9 H1 locs ht hvm hr_5 hB hz1 hk1 hS => ?_)
      try dsimp only at hr_5
      have hP1 : va_P D vwCl [] H1 := vP_nil
      have hD1 : va_D (va_A [] s.heap.size) [] := vD_nil
      obtain ⟨hP, hD⟩ := va_join (wr := [(h0, .inr (9, [.ref m1, .ref m2, .ref m3, .int ik, .int wy, .int op, .int cl, .int cx0, .int cx1, .int cy0, .int cy1, .int ds, .ref m4, .ref m5, .ref m6, .ref m7, .ref m8, .ref m9, .int pn, .ref m10, .ref m11, .ref m12, .ref m13])), (m10, .inl (cI, 3, .inl kx)), (m11, .inl (cI, 3, .inl ky)), (m12, .inl (cI, 3, .inl ki))]) (w1 := []) hP hD [] [0, 1, 2, 3] rfl rfl (by decide) (by decide) hk1 hFc hP1 hD1
      clear hz1 hk1 hFc hKc hDc hPc
      generalize H1 = H at hP hS ⊢
      have hP : va_P D vwCl [(h0, .inr (9, [.ref m1, .ref m2, .ref m3, .int ik, .int wy, .int op, .int cl, .int cx0, .int cx1, .int cy0, .int cy1, .int ds, .ref m4, .ref m5, .ref m6, .ref m7, .ref m8, .ref m9, .int pn, .ref m10, .ref m11, .ref m12, .ref m13])), (m10, .inl (cI, 3, .inl kx)), (m11, .inl (cI, 3, .inl ky)), (m12, .inl (cI, 3, .inl ki))] H := hP
      have hD : va_D A [(h0, .inr (9, [.ref m1, .ref m2, .ref m3, .int ik, .int wy, .int op, .int cl, .int cx0, .int cx1, .int cy0, .int cy1, .int ds, .ref m4, .ref m5, .ref m6, .ref m7, .ref m8, .ref m9, .int pn, .ref m10, .ref m11, .ref m12, .ref m13])), (m10, .inl (cI, 3, .inl kx)), (m11, .inl (cI, 3, .inl ky)), (m12, .inl (cI, 3, .inl ki))] := hD
      refine lv_if_eq (tgt := 29) hx hb dX9_corner_16 (by decide) (fun c_6 => ?_) (fun c_6 => ?_)
      · skip
        have f_7 := bz0 hr_5 c_6
        exact False.elim (by omega)
      · skip
        have f_7 := bz1 hr_5 c_6
        refine lv_iload_n hx hb dX9_corner_19 rfl (lv_at hl 3 rfl) ?_
        refine lv_sipush (v := 200) hx hb dX9_corner_20 (by decide) ?_
        have hPc := hP.sub (ws' := []) [] rfl
        have hDc := hD.sub (ws' := []) [] (by decide) rfl
        have hKc := hK.sub (tys' := []) [] rfl
        have hFc := va_free (wc := []) hD hS hA [] rfl
        refine va_calli (va_runS (As := [.int y, .int 200]) (rest := []) ⟨hx, hb, hml, hown, hts⟩ (k_X9_isNear l D H.size y 200 (-200) 200 (by decide) (by decide)) (va_cwS 2 hts (gS bw_491 bw_482 bw_391 bw_481) rfl rfl rfl (by decide +kernel) ⟨(by rw [hR]; exact Nat.le_of_ble_eq_true rfl), (by rw [hR]; exact Nat.le_of_ble_eq_true rfl)⟩) ⟨cP_blind, cP_at hPc hKc hDc hN⟩ rfl rfl hl.1 rfl (lv_room (Nat.le_of_ble_eq_true rfl)) dX9_corner_23 ⟨(by rw [hR]; exact Nat.le_of_ble_eq_true rfl), (by rw [hR]; exact Nat.le_of_ble_eq_true rfl)⟩) hS (fun q _ h => hFc q h) hFc (fun r_8 u9 t9 H1 locs ht hvm hr_8 hB hz1 hk1 hS => ?_)
        try dsimp only at hr_8
        have hP1 : va_P D vwCl [] H1 := vP_nil
        have hD1 : va_D (va_A [] H.size) [] := vD_nil
        obtain ⟨hP, hD⟩ := va_join (wr := [(h0, .inr (9, [.ref m1, .ref m2, .ref m3, .int ik, .int wy, .int op, .int cl, .int cx0, .int cx1, .int cy0, .int cy1, .int ds, .ref m4, .ref m5, .ref m6, .ref m7, .ref m8, .ref m9, .int pn, .ref m10, .ref m11, .ref m12, .ref m13])), (m10, .inl (cI, 3, .inl kx)), (m11, .inl (cI, 3, .inl ky)), (m12, .inl (cI, 3, .inl ki))]) (w1 := []) hP hD [] [0, 1, 2, 3] rfl rfl (by decide) (by decide) hk1 hFc hP1 hD1
        clear hz1 hk1 hFc hKc hDc hPc
        generalize H1 = H at hP hS ⊢
        have hP : va_P D vwCl [(h0, .inr (9, [.ref m1, .ref m2, .ref m3, .int ik, .int wy, .int op, .int cl, .int cx0, .int cx1, .int cy0, .int cy1, .int ds, .ref m4, .ref m5, .ref m6, .ref m7, .ref m8, .ref m9, .int pn, .ref m10, .ref m11, .ref m12, .ref m13])), (m10, .inl (cI, 3, .inl kx)), (m11, .inl (cI, 3, .inl ky)), (m12, .inl (cI, 3, .inl ki))] H := hP
        have hD : va_D A [(h0, .inr (9, [.ref m1, .ref m2, .ref m3, .int ik, .int wy, .int op, .int cl, .int cx0, .int cx1, .int cy0, .int cy1, .int ds, .ref m4, .ref m5, .ref m6, .ref m7, .ref m8, .ref m9, .int pn, .ref m10, .ref m11, .ref m12, .ref m13])), (m10, .inl (cI, 3, .inl kx)), (m11, .inl (cI, 3, .inl ky)), (m12, .inl (cI, 3, .inl ki))] := hD
        refine lv_if_ne (tgt := 31) hx hb dX9_corner_26 (by decide) (fun c_9 => ?_) (fun c_9 => ?_)
        · skip
          have f_10 := bz1 hr_8 c_9
          refine lv_aload_n hx hb dX9_corner_31 rfl (lv_at hl 0 rfl) ?_
          refine va_get (D := D) (ci := 9) (v := .ref m10) (C := RX9) (T := TX9) (N := 23) hx hb hts hi_X9 hown hK hP 0 rfl rfl 19 (by decide) (hts _ bw_410) (fun _ h9 => h9) rfl dX9_corner_32 ?_
          refine lv_iload_n hx hb dX9_corner_35 rfl (lv_at hl 1 rfl) ?_
          refine lv_iload_n hx hb dX9_corner_36 rfl (lv_at hl 2 rfl) ?_
          refine va_iast hx hb hK hP hD hS 1 0 rfl rfl (vp_in_iff.mpr ⟨by omega, by omega⟩) dX9_corner_37 (fun H locs hP hD hS => ?_)
          have hP : va_P D vwCl [(h0, .inr (9, [.ref m1, .ref m2, .ref m3, .int ik, .int wy, .int op, .int cl, .int cx0, .int cx1, .int cy0, .int cy1, .int ds, .ref m4, .ref m5, .ref m6, .ref m7, .ref m8, .ref m9, .int pn, .ref m10, .ref m11, .ref m12, .ref m13])), (m10, .inl (cI, 3, .inl (upd kx i9.toNatClampNeg x))), (m11, .inl (cI, 3, .inl ky)), (m12, .inl (cI, 3, .inl ki))] H := hP
          have hD : va_D A [(h0, .inr (9, [.ref m1, .ref m2, .ref m3, .int ik, .int wy, .int op, .int cl, .int cx0, .int cx1, .int cy0, .int cy1, .int ds, .ref m4, .ref m5, .ref m6, .ref m7, .ref m8, .ref m9, .int pn, .ref m10, .ref m11, .ref m12, .ref m13])), (m10, .inl (cI, 3, .inl (upd kx i9.toNatClampNeg x))), (m11, .inl (cI, 3, .inl ky)), (m12, .inl (cI, 3, .inl ki))] := hD
          generalize eg_11 : upd kx i9.toNatClampNeg x = g_11 at hP hD
          have hP : va_P D vwCl [(h0, .inr (9, [.ref m1, .ref m2, .ref m3, .int ik, .int wy, .int op, .int cl, .int cx0, .int cx1, .int cy0, .int cy1, .int ds, .ref m4, .ref m5, .ref m6, .ref m7, .ref m8, .ref m9, .int pn, .ref m10, .ref m11, .ref m12, .ref m13])), (m10, .inl (cI, 3, .inl g_11)), (m11, .inl (cI, 3, .inl ky)), (m12, .inl (cI, 3, .inl ki))] H := hP
          have hD : va_D A [(h0, .inr (9, [.ref m1, .ref m2, .ref m3, .int ik, .int wy, .int op, .int cl, .int cx0, .int cx1, .int cy0, .int cy1, .int ds, .ref m4, .ref m5, .ref m6, .ref m7, .ref m8, .ref m9, .int pn, .ref m10, .ref m11, .ref m12, .ref m13])), (m10, .inl (cI, 3, .inl g_11)), (m11, .inl (cI, 3, .inl ky)), (m12, .inl (cI, 3, .inl ki))] := hD
          refine lv_aload_n hx hb dX9_corner_38 rfl (lv_at hl 0 rfl) ?_
          refine va_get (D := D) (ci := 9) (v := .ref m11) (C := RX9) (T := TX9) (N := 23) hx hb hts hi_X9 hown hK hP 0 rfl rfl 20 (by decide) (hts _ bw_411) (fun _ h9 => h9) rfl dX9_corner_39 ?_
          refine lv_iload_n hx hb dX9_corner_42 rfl (lv_at hl 1 rfl) ?_
          refine lv_iload_n hx hb dX9_corner_43 rfl (lv_at hl 3 rfl) ?_
          refine va_iast hx hb hK hP hD hS 2 0 rfl rfl (vp_in_iff.mpr ⟨by omega, by omega⟩) dX9_corner_44 (fun H locs hP hD hS => ?_)
          have hP : va_P D vwCl [(h0, .inr (9, [.ref m1, .ref m2, .ref m3, .int ik, .int wy, .int op, .int cl, .int cx0, .int cx1, .int cy0, .int cy1, .int ds, .ref m4, .ref m5, .ref m6, .ref m7, .ref m8, .ref m9, .int pn, .ref m10, .ref m11, .ref m12, .ref m13])), (m10, .inl (cI, 3, .inl g_11)), (m11, .inl (cI, 3, .inl (upd ky i9.toNatClampNeg y))), (m12, .inl (cI, 3, .inl ki))] H := hP
          have hD : va_D A [(h0, .inr (9, [.ref m1, .ref m2, .ref m3, .int ik, .int wy, .int op, .int cl, .int cx0, .int cx1, .int cy0, .int cy1, .int ds, .ref m4, .ref m5, .ref m6, .ref m7, .ref m8, .ref m9, .int pn, .ref m10, .ref m11, .ref m12, .ref m13])), (m10, .inl (cI, 3, .inl g_11)), (m11, .inl (cI, 3, .inl (upd ky i9.toNatClampNeg y))), (m12, .inl (cI, 3, .inl ki))] := hD
          generalize eg_12 : upd ky i9.toNatClampNeg y = g_12 at hP hD
          have hP : va_P D vwCl [(h0, .inr (9, [.ref m1, .ref m2, .ref m3, .int ik, .int wy, .int op, .int cl, .int cx0, .int cx1, .int cy0, .int cy1, .int ds, .ref m4, .ref m5, .ref m6, .ref m7, .ref m8, .ref m9, .int pn, .ref m10, .ref m11, .ref m12, .ref m13])), (m10, .inl (cI, 3, .inl g_11)), (m11, .inl (cI, 3, .inl g_12)), (m12, .inl (cI, 3, .inl ki))] H := hP
          have hD : va_D A [(h0, .inr (9, [.ref m1, .ref m2, .ref m3, .int ik, .int wy, .int op, .int cl, .int cx0, .int cx1, .int cy0, .int cy1, .int ds, .ref m4, .ref m5, .ref m6, .ref m7, .ref m8, .ref m9, .int pn, .ref m10, .ref m11, .ref m12, .ref m13])), (m10, .inl (cI, 3, .inl g_11)), (m11, .inl (cI, 3, .inl g_12)), (m12, .inl (cI, 3, .inl ki))] := hD
          refine lv_aload_n hx hb dX9_corner_45 rfl (lv_at hl 0 rfl) ?_
          refine va_get (D := D) (ci := 9) (v := .ref m12) (C := RX9) (T := TX9) (N := 23) hx hb hts hi_X9 hown hK hP 0 rfl rfl 21 (by decide) (hts _ bw_412) (fun _ h9 => h9) rfl dX9_corner_46 ?_
          refine lv_iload_n hx hb dX9_corner_49 rfl (lv_at hl 1 rfl) ?_
          refine lv_iload hx hb dX9_corner_50 (lv_at hl 4 rfl) ?_
          have hPc := hP.sub (ws' := []) [] rfl
          have hDc := hD.sub (ws' := []) [] (by decide) rfl
          have hKc := hK.sub (tys' := []) [] rfl
          have hFc := va_free (wc := []) hD hS hA [] rfl
          refine va_calli (va_runS (As := [.int v]) (rest := [.int i9, .ref m12]) ⟨hx, hb, hml, hown, hts⟩ (k_X9_inkOf l D H.size v) (va_cwS 1 hts (gS bw_471 bw_440 bw_391 bw_439) rfl rfl rfl (by decide +kernel) ⟨(by rw [hR]; exact Nat.le_of_ble_eq_true rfl), (by rw [hR]; exact Nat.le_of_ble_eq_true rfl)⟩) ⟨cP_blind, cP_at hPc hKc hDc hN⟩ rfl rfl hl.1 rfl (lv_room (Nat.le_of_ble_eq_true rfl)) dX9_corner_52 ⟨(by rw [hR]; exact Nat.le_of_ble_eq_true rfl), (by rw [hR]; exact Nat.le_of_ble_eq_true rfl)⟩) hS (fun q _ h => hFc q h) hFc (fun r_13 u9 t9 H1 locs ht hvm hr_13 hB hz1 hk1 hS => ?_)
          try dsimp only at hr_13
          have hP1 : va_P D vwCl [] H1 := vP_nil
          have hD1 : va_D (va_A [] H.size) [] := vD_nil
          obtain ⟨hP, hD⟩ := va_join (wr := [(h0, .inr (9, [.ref m1, .ref m2, .ref m3, .int ik, .int wy, .int op, .int cl, .int cx0, .int cx1, .int cy0, .int cy1, .int ds, .ref m4, .ref m5, .ref m6, .ref m7, .ref m8, .ref m9, .int pn, .ref m10, .ref m11, .ref m12, .ref m13])), (m10, .inl (cI, 3, .inl g_11)), (m11, .inl (cI, 3, .inl g_12)), (m12, .inl (cI, 3, .inl ki))]) (w1 := []) hP hD [] [0, 1, 2, 3] rfl rfl (by decide) (by decide) hk1 hFc hP1 hD1
          clear hz1 hk1 hFc hKc hDc hPc
          generalize H1 = H at hP hS ⊢
          have hP : va_P D vwCl [(h0, .inr (9, [.ref m1, .ref m2, .ref m3, .int ik, .int wy, .int op, .int cl, .int cx0, .int cx1, .int cy0, .int cy1, .int ds, .ref m4, .ref m5, .ref m6, .ref m7, .ref m8, .ref m9, .int pn, .ref m10, .ref m11, .ref m12, .ref m13])), (m10, .inl (cI, 3, .inl g_11)), (m11, .inl (cI, 3, .inl g_12)), (m12, .inl (cI, 3, .inl ki))] H := hP
          have hD : va_D A [(h0, .inr (9, [.ref m1, .ref m2, .ref m3, .int ik, .int wy, .int op, .int cl, .int cx0, .int cx1, .int cy0, .int cy1, .int ds, .ref m4, .ref m5, .ref m6, .ref m7, .ref m8, .ref m9, .int pn, .ref m10, .ref m11, .ref m12, .ref m13])), (m10, .inl (cI, 3, .inl g_11)), (m11, .inl (cI, 3, .inl g_12)), (m12, .inl (cI, 3, .inl ki))] := hD
          refine va_iast hx hb hK hP hD hS 3 0 rfl rfl (vp_in_iff.mpr ⟨by omega, by omega⟩) dX9_corner_55 (fun H locs hP hD hS => ?_)
          have hP : va_P D vwCl [(h0, .inr (9, [.ref m1, .ref m2, .ref m3, .int ik, .int wy, .int op, .int cl, .int cx0, .int cx1, .int cy0, .int cy1, .int ds, .ref m4, .ref m5, .ref m6, .ref m7, .ref m8, .ref m9, .int pn, .ref m10, .ref m11, .ref m12, .ref m13])), (m10, .inl (cI, 3, .inl g_11)), (m11, .inl (cI, 3, .inl g_12)), (m12, .inl (cI, 3, .inl (upd ki i9.toNatClampNeg r_13)))] H := hP
          have hD : va_D A [(h0, .inr (9, [.ref m1, .ref m2, .ref m3, .int ik, .int wy, .int op, .int cl, .int cx0, .int cx1, .int cy0, .int cy1, .int ds, .ref m4, .ref m5, .ref m6, .ref m7, .ref m8, .ref m9, .int pn, .ref m10, .ref m11, .ref m12, .ref m13])), (m10, .inl (cI, 3, .inl g_11)), (m11, .inl (cI, 3, .inl g_12)), (m12, .inl (cI, 3, .inl (upd ki i9.toNatClampNeg r_13)))] := hD
          generalize eg_14 : upd ki i9.toNatClampNeg r_13 = g_14 at hP hD
          have hP : va_P D vwCl [(h0, .inr (9, [.ref m1, .ref m2, .ref m3, .int ik, .int wy, .int op, .int cl, .int cx0, .int cx1, .int cy0, .int cy1, .int ds, .ref m4, .ref m5, .ref m6, .ref m7, .ref m8, .ref m9, .int pn, .ref m10, .ref m11, .ref m12, .ref m13])), (m10, .inl (cI, 3, .inl g_11)), (m11, .inl (cI, 3, .inl g_12)), (m12, .inl (cI, 3, .inl g_14))] H := hP
          have hD : va_D A [(h0, .inr (9, [.ref m1, .ref m2, .ref m3, .int ik, .int wy, .int op, .int cl, .int cx0, .int cx1, .int cy0, .int cy1, .int ds, .ref m4, .ref m5, .ref m6, .ref m7, .ref m8, .ref m9, .int pn, .ref m10, .ref m11, .ref m12, .ref m13])), (m10, .inl (cI, 3, .inl g_11)), (m11, .inl (cI, 3, .inl g_12)), (m12, .inl (cI, 3, .inl g_14))] := hD
          refine lv_iconst (v := 1) hx hb dX9_corner_56 (by decide) ?_
          have hP : va_P D vwCl [(h0, .inr (9, [.ref m1, .ref m2, .ref m3, .int ik, .int wy, .int op, .int cl, .int cx0, .int cx1, .int cy0, .int cy1, .int ds, .ref m4, .ref m5, .ref m6, .ref m7, .ref m8, .ref m9, .int pn, .ref m10, .ref m11, .ref m12, .ref m13])), (m10, .inl (cI, 3, .inl (upd kx i9.toNatClampNeg x))), (m11, .inl (cI, 3, .inl (upd ky i9.toNatClampNeg y))), (m12, .inl (cI, 3, .inl (upd ki i9.toNatClampNeg (inkP v))))] H := by subst_vars; exact hP
          have hD : va_D A [(h0, .inr (9, [.ref m1, .ref m2, .ref m3, .int ik, .int wy, .int op, .int cl, .int cx0, .int cx1, .int cy0, .int cy1, .int ds, .ref m4, .ref m5, .ref m6, .ref m7, .ref m8, .ref m9, .int pn, .ref m10, .ref m11, .ref m12, .ref m13])), (m10, .inl (cI, 3, .inl (upd kx i9.toNatClampNeg x))), (m11, .inl (cI, 3, .inl (upd ky i9.toNatClampNeg y))), (m12, .inl (cI, 3, .inl (upd ki i9.toNatClampNeg (inkP v))))] := by subst_vars; exact hD
          have hP9 := hP.sub (ws' := [(h0, .inr (9, [.ref m1, .ref m2, .ref m3, .int ik, .int wy, .int op, .int cl, .int cx0, .int cx1, .int cy0, .int cy1, .int ds, .ref m4, .ref m5, .ref m6, .ref m7, .ref m8, .ref m9, .int pn, .ref m10, .ref m11, .ref m12, .ref m13])), (m10, .inl (cI, 3, .inl (upd kx i9.toNatClampNeg x))), (m11, .inl (cI, 3, .inl (upd ky i9.toNatClampNeg y))), (m12, .inl (cI, 3, .inl (upd ki i9.toNatClampNeg (inkP v))))]) [0, 1, 2, 3] rfl
          have hD9 := hD.sub (ws' := [(h0, .inr (9, [.ref m1, .ref m2, .ref m3, .int ik, .int wy, .int op, .int cl, .int cx0, .int cx1, .int cy0, .int cy1, .int ds, .ref m4, .ref m5, .ref m6, .ref m7, .ref m8, .ref m9, .int pn, .ref m10, .ref m11, .ref m12, .ref m13])), (m10, .inl (cI, 3, .inl (upd kx i9.toNatClampNeg x))), (m11, .inl (cI, 3, .inl (upd ky i9.toNatClampNeg y))), (m12, .inl (cI, 3, .inl (upd ki i9.toNatClampNeg (inkP v))))]) [0, 1, 2, 3] (by decide) rfl
          have hK9 := hK.sub (tys' := [(cI, .int)]) [0] rfl
          refine hQ _ _ _ _ _ ?_
          exact W.zret (v := 1) hx hb hr rfl (fun t ht hW => ⟨⟨1, (), rfl, rfl, ⟨by rw [ht]; exact hP9, va_K.moved hW.alike hK9, hD9⟩⟩, hS.F ht⟩) hS.2.2 dX9_corner_57
        · skip
          have f_10 := bz0 hr_8 c_9
          exact False.elim (by omega)

set_option maxHeartbeats 4000000 in
set_option maxRecDepth 100000 in
theorem k_X9_corner_r (l : Launch) (D : va_G) (sz : Nat) (h0 m1 m2 m3 m4 m5 m6 m7 m8 m9 m10 m11 m12 m13 : Nat) (ik wy op cl cx0 cx1 cy0 cy1 ds pn : Int32) (i9 x y v : Int32) (hcn : ¬ ((0 ≤ i9.toInt ∧ i9.toInt ≤ 2) ∧ (-200 ≤ x.toInt ∧ x.toInt ≤ 200) ∧ (-200 ≤ y.toInt ∧ y.toInt ≤ 200))) : Met l yX9_corner (wB yX9_corner cX9_corner 5 (some .boolean)) ({ frames := 1, cells := 0, slots := 0, locals := 21 }) (cP D [(h0, .inr (9, [.ref m1, .ref m2, .ref m3, .int ik, .int wy, .int op, .int cl, .int cx0, .int cx1, .int cy0, .int cy1, .int ds, .ref m4, .ref m5, .ref m6, .ref m7, .ref m8, .ref m9, .int pn, .ref m10, .ref m11, .ref m12, .ref m13]))] [] sz [.ref h0, .int i9, .int x, .int y, .int v]) (va_Qi (fun (r : Int32) (_ : Unit) => r = 0) (fun (_ : Unit) (t : State) => cB D (va_A [(h0, .inr (9, [.ref m1, .ref m2, .ref m3, .int ik, .int wy, .int op, .int cl, .int cx0, .int cx1, .int cy0, .int cy1, .int ds, .ref m4, .ref m5, .ref m6, .ref m7, .ref m8, .ref m9, .int pn, .ref m10, .ref m11, .ref m12, .ref m13]))] sz) [(h0, .inr (9, [.ref m1, .ref m2, .ref m3, .int ik, .int wy, .int op, .int cl, .int cx0, .int cx1, .int cy0, .int cy1, .int ds, .ref m4, .ref m5, .ref m6, .ref m7, .ref m8, .ref m9, .int pn, .ref m10, .ref m11, .ref m12, .ref m13]))] [] t) (va_A [(h0, .inr (9, [.ref m1, .ref m2, .ref m3, .int ik, .int wy, .int op, .int cl, .int cx0, .int cx1, .int cy0, .int cy1, .int ds, .ref m4, .ref m5, .ref m6, .ref m7, .ref m8, .ref m9, .int pn, .ref m10, .ref m11, .ref m12, .ref m13]))] sz)) 0 0 (va_A [(h0, .inr (9, [.ref m1, .ref m2, .ref m3, .int ik, .int wy, .int op, .int cl, .int cx0, .int cx1, .int cy0, .int cy1, .int ds, .ref m4, .ref m5, .ref m6, .ref m7, .ref m8, .ref m9, .int pn, .ref m10, .ref m11, .ref m12, .ref m13]))] sz) := by
  refine Met.ofW (cc := cX9_corner) (maxL := 5) (ret := (some .boolean)) (by decide) rfl ?_
  intro p e s m args below meth c s₁ B hml hv
  obtain ⟨rfl, hsz, hP, hK, hD0, hN⟩ := hv
  have hx := B.exec
  have hb := B.bytes
  have hr := B.returns
  have hts0 := atoms_spec (ws := (wB yX9_corner cX9_corner 5 (some .boolean))) B.pre
  have hts : ∀ w ∈ bigW, w.before _ s = true := fun w h => hts0 w (List.mem_cons_of_mem _ h)
  have hown : s.vm.findClass RX9 = some m.cls := findClass_of_methodNamed B.named
  have hlocks := B.notSynchronized
  subst hsz
  have hD := hD0.self (sz := s.heap.size)
  generalize hAe : va_A [(h0, .inr (9, [.ref m1, .ref m2, .ref m3, .int ik, .int wy, .int op, .int cl, .int cx0, .int cx1, .int cy0, .int cy1, .int ds, .ref m4, .ref m5, .ref m6, .ref m7, .ref m8, .ref m9, .int pn, .ref m10, .ref m11, .ref m12, .ref m13]))] s.heap.size = A at hD ⊢
  have hA : ∀ q : Nat, s.heap.size ≤ q → A q := fun q h => by rw [← hAe]; exact Or.inr h
  have hS : va_S A s.heap s.heap [] := va_S.rf
  have hP : va_P D vwCl [(h0, .inr (9, [.ref m1, .ref m2, .ref m3, .int ik, .int wy, .int op, .int cl, .int cx0, .int cx1, .int cy0, .int cy1, .int ds, .ref m4, .ref m5, .ref m6, .ref m7, .ref m8, .ref m9, .int pn, .ref m10, .ref m11, .ref m12, .ref m13]))] s.heap := hP
  have hl := lv_entry ([.ref h0, .int i9, .int x, .int y, .int v]) (n := 5) (Nat.le_of_ble_eq_true rfl)
  rw [lg_entry_eq]
  generalize (lg_sl ([.ref h0, .int i9, .int x, .int y, .int v]) ++ List.replicate (5 - (lg_sl ([.ref h0, .int i9, .int x, .int y, .int v])).length) Slot.unset).toArray = ls at hl ⊢
  have hl : lv_has ls 5 [(0, .ref h0), (1, .int i9), (2, .int x), (3, .int y), (4, .int v)] := hl
  clear hts0 hD0 hAe
  refine my_abs (fun R Q hR hQ => ?_)
  refine lv_iload_n hx hb dX9_corner_0 rfl (lv_at hl 1 rfl) ?_
  refine lv_if_lt (tgt := 29) hx hb dX9_corner_1 (by decide) (fun c_1 => ?_) (fun c_1 => ?_)
  · skip
    have f_2 : i9.toInt < 0 := f_lt rfl (by decide) c_1
    refine lv_iconst (v := 0) hx hb dX9_corner_29 (by decide) ?_
    have hP9 := hP.sub (ws' := [(h0, .inr (9, [.ref m1, .ref m2, .ref m3, .int ik, .int wy, .int op, .int cl, .int cx0, .int cx1, .int cy0, .int cy1, .int ds, .ref m4, .ref m5, .ref m6, .ref m7, .ref m8, .ref m9, .int pn, .ref m10, .ref m11, .ref m12, .ref m13]))]) [0] rfl
    have hD9 := hD.sub (ws' := [(h0, .inr (9, [.ref m1, .ref m2, .ref m3, .int ik, .int wy, .int op, .int cl, .int cx0, .int cx1, .int cy0, .int cy1, .int ds, .ref m4, .ref m5, .ref m6, .ref m7, .ref m8, .ref m9, .int pn, .ref m10, .ref m11, .ref m12, .ref m13]))]) [0] (by decide) rfl
    have hK9 := hK.sub (tys' := []) [] rfl
    refine hQ _ _ _ _ _ ?_
    exact W.zret (v := 0) hx hb hr rfl (fun t ht hW => ⟨⟨0, (), rfl, rfl, ⟨by rw [ht]; exact hP9, va_K.moved hW.alike hK9, hD9⟩⟩, hS.F ht⟩) hS.2.2 dX9_corner_30
  · skip
    have f_2 : ¬ (i9.toInt < 0) := fn_lt rfl (by decide) c_1
    refine lv_iload_n hx hb dX9_corner_4 rfl (lv_at hl 1 rfl) ?_
    refine lv_iconst (v := 2) hx hb dX9_corner_5 (by decide) ?_
    refine lv_icmp_gt (tgt := 29) hx hb dX9_corner_6 (by decide) (fun c_3 => ?_) (fun c_3 => ?_)
    · skip
      have f_4 : 2 < i9.toInt := f_lt (by decide) rfl c_3
      refine lv_iconst (v := 0) hx hb dX9_corner_29 (by decide) ?_
      have hP9 := hP.sub (ws' := [(h0, .inr (9, [.ref m1, .ref m2, .ref m3, .int ik, .int wy, .int op, .int cl, .int cx0, .int cx1, .int cy0, .int cy1, .int ds, .ref m4, .ref m5, .ref m6, .ref m7, .ref m8, .ref m9, .int pn, .ref m10, .ref m11, .ref m12, .ref m13]))]) [0] rfl
      have hD9 := hD.sub (ws' := [(h0, .inr (9, [.ref m1, .ref m2, .ref m3, .int ik, .int wy, .int op, .int cl, .int cx0, .int cx1, .int cy0, .int cy1, .int ds, .ref m4, .ref m5, .ref m6, .ref m7, .ref m8, .ref m9, .int pn, .ref m10, .ref m11, .ref m12, .ref m13]))]) [0] (by decide) rfl
      have hK9 := hK.sub (tys' := []) [] rfl
      refine hQ _ _ _ _ _ ?_
      exact W.zret (v := 0) hx hb hr rfl (fun t ht hW => ⟨⟨0, (), rfl, rfl, ⟨by rw [ht]; exact hP9, va_K.moved hW.alike hK9, hD9⟩⟩, hS.F ht⟩) hS.2.2 dX9_corner_30
    · skip
      have f_4 : ¬ (2 < i9.toInt) := fn_lt (by decide) rfl c_3
      refine lv_iload_n hx hb dX9_corner_9 rfl (lv_at hl 2 rfl) ?_
      refine lv_sipush (v := 200) hx hb dX9_corner_10 (by decide) ?_
      have hPc := hP.sub (ws' := []) [] rfl
      have hDc := hD.sub (ws' := []) [] (by decide) rfl
      have hKc := hK.sub (tys' := []) [] rfl
      have hFc := va_free (wc := []) hD hS hA [] rfl
      refine va_calli (va_runS (As := [.int x, .int 200]) (rest := []) ⟨hx, hb, hml, hown, hts⟩ (k_X9_isNear l D s.heap.size x 200 (-200) 200 (by decide) (by decide)) (va_cwS 2 hts (gS bw_491 bw_482 bw_391 bw_481) rfl rfl rfl (by decide +kernel) ⟨(by rw [hR]; exact Nat.le_of_ble_eq_true rfl), (by rw [hR]; exact Nat.le_of_ble_eq_true rfl)⟩) ⟨cP_blind, cP_at hPc hKc hDc hN⟩ rfl rfl hl.1 rfl (lv_room (Nat.le_of_ble_eq_true rfl)) dX9_corner_13 ⟨(by rw [hR]; exact Nat.le_of_ble_eq_true rfl), (by rw [hR]; exact Nat.le_of_ble_eq_true rfl)⟩) hS (fun q _ h => hFc q h) hFc (fun r_5 u9 t9 H1 locs ht hvm hr_5 hB hz1 hk1 hS => ?_)
      try dsimp only at hr_5
      have hP1 : va_P D vwCl [] H1 := vP_nil
      have hD1 : va_D (va_A [] s.heap.size) [] := vD_nil
      obtain ⟨hP, hD⟩ := va_join (wr := [(h0, .inr (9, [.ref m1, .ref m2, .ref m3, .int ik, .int wy, .int op, .int cl, .int cx0, .int cx1, .int cy0, .int cy1, .int ds, .ref m4, .ref m5, .ref m6, .ref m7, .ref m8, .ref m9, .int pn, .ref m10, .ref m11, .ref m12, .ref m13]))]) (w1 := []) hP hD [] [0] rfl rfl (by decide) (by decide) hk1 hFc hP1 hD1
      clear hz1 hk1 hFc hKc hDc hPc
      generalize H1 = H at hP hS ⊢
      have hP : va_P D vwCl [(h0, .inr (9, [.ref m1, .ref m2, .ref m3, .int ik, .int wy, .int op, .int cl, .int cx0, .int cx1, .int cy0, .int cy1, .int ds, .ref m4, .ref m5, .ref m6, .ref m7, .ref m8, .ref m9, .int pn, .ref m10, .ref m11, .ref m12, .ref m13]))] H := hP
      have hD : va_D A [(h0, .inr (9, [.ref m1, .ref m2, .ref m3, .int ik, .int wy, .int op, .int cl, .int cx0, .int cx1, .int cy0, .int cy1, .int ds, .ref m4, .ref m5, .ref m6, .ref m7, .ref m8, .ref m9, .int pn, .ref m10, .ref m11, .ref m12, .ref m13]))] := hD
      refine lv_if_eq (tgt := 29) hx hb dX9_corner_16 (by decide) (fun c_6 => ?_) (fun c_6 => ?_)
      · skip
        have f_7 := bz0 hr_5 c_6
        refine lv_iconst (v := 0) hx hb dX9_corner_29 (by decide) ?_
        have hP9 := hP.sub (ws' := [(h0, .inr (9, [.ref m1, .ref m2, .ref m3, .int ik, .int wy, .int op, .int cl, .int cx0, .int cx1, .int cy0, .int cy1, .int ds, .ref m4, .ref m5, .ref m6, .ref m7, .ref m8, .ref m9, .int pn, .ref m10, .ref m11, .ref m12, .ref m13]))]) [0] rfl
        have hD9 := hD.sub (ws' := [(h0, .inr (9, [.ref m1, .ref m2, .ref m3, .int ik, .int wy, .int op, .int cl, .int cx0, .int cx1, .int cy0, .int cy1, .int ds, .ref m4, .ref m5, .ref m6, .ref m7, .ref m8, .ref m9, .int pn, .ref m10, .ref m11, .ref m12, .ref m13]))]) [0] (by decide) rfl
        have hK9 := hK.sub (tys' := []) [] rfl
        refine hQ _ _ _ _ _ ?_
        exact W.zret (v := 0) hx hb hr rfl (fun t ht hW => ⟨⟨0, (), rfl, rfl, ⟨by rw [ht]; exact hP9, va_K.moved hW.alike hK9, hD9⟩⟩, hS.F ht⟩) hS.2.2 dX9_corner_30
      · skip
        have f_7 := bz1 hr_5 c_6
        refine lv_iload_n hx hb dX9_corner_19 rfl (lv_at hl 3 rfl) ?_
        refine lv_sipush (v := 200) hx hb dX9_corner_20 (by decide) ?_
        have hPc := hP.sub (ws' := []) [] rfl
        have hDc := hD.sub (ws' := []) [] (by decide) rfl
        have hKc := hK.sub (tys' := []) [] rfl
        have hFc := va_free (wc := []) hD hS hA [] rfl
        refine va_calli (va_runS (As := [.int y, .int 200]) (rest := []) ⟨hx, hb, hml, hown, hts⟩ (k_X9_isNear l D H.size y 200 (-200) 200 (by decide) (by decide)) (va_cwS 2 hts (gS bw_491 bw_482 bw_391 bw_481) rfl rfl rfl (by decide +kernel) ⟨(by rw [hR]; exact Nat.le_of_ble_eq_true rfl), (by rw [hR]; exact Nat.le_of_ble_eq_true rfl)⟩) ⟨cP_blind, cP_at hPc hKc hDc hN⟩ rfl rfl hl.1 rfl (lv_room (Nat.le_of_ble_eq_true rfl)) dX9_corner_23 ⟨(by rw [hR]; exact Nat.le_of_ble_eq_true rfl), (by rw [hR]; exact Nat.le_of_ble_eq_true rfl)⟩) hS (fun q _ h => hFc q h) hFc (fun r_8 u9 t9 H1 locs ht hvm hr_8 hB hz1 hk1 hS => ?_)
        try dsimp only at hr_8
        have hP1 : va_P D vwCl [] H1 := vP_nil
        have hD1 : va_D (va_A [] H.size) [] := vD_nil
        obtain ⟨hP, hD⟩ := va_join (wr := [(h0, .inr (9, [.ref m1, .ref m2, .ref m3, .int ik, .int wy, .int op, .int cl, .int cx0, .int cx1, .int cy0, .int cy1, .int ds, .ref m4, .ref m5, .ref m6, .ref m7, .ref m8, .ref m9, .int pn, .ref m10, .ref m11, .ref m12, .ref m13]))]) (w1 := []) hP hD [] [0] rfl rfl (by decide) (by decide) hk1 hFc hP1 hD1
        clear hz1 hk1 hFc hKc hDc hPc
        generalize H1 = H at hP hS ⊢
        have hP : va_P D vwCl [(h0, .inr (9, [.ref m1, .ref m2, .ref m3, .int ik, .int wy, .int op, .int cl, .int cx0, .int cx1, .int cy0, .int cy1, .int ds, .ref m4, .ref m5, .ref m6, .ref m7, .ref m8, .ref m9, .int pn, .ref m10, .ref m11, .ref m12, .ref m13]))] H := hP
        have hD : va_D A [(h0, .inr (9, [.ref m1, .ref m2, .ref m3, .int ik, .int wy, .int op, .int cl, .int cx0, .int cx1, .int cy0, .int cy1, .int ds, .ref m4, .ref m5, .ref m6, .ref m7, .ref m8, .ref m9, .int pn, .ref m10, .ref m11, .ref m12, .ref m13]))] := hD
        refine lv_if_ne (tgt := 31) hx hb dX9_corner_26 (by decide) (fun c_9 => ?_) (fun c_9 => ?_)
        · skip
          have f_10 := bz1 hr_8 c_9
          exact False.elim (by omega)
        · skip
          have f_10 := bz0 hr_8 c_9
          refine lv_iconst (v := 0) hx hb dX9_corner_29 (by decide) ?_
          have hP9 := hP.sub (ws' := [(h0, .inr (9, [.ref m1, .ref m2, .ref m3, .int ik, .int wy, .int op, .int cl, .int cx0, .int cx1, .int cy0, .int cy1, .int ds, .ref m4, .ref m5, .ref m6, .ref m7, .ref m8, .ref m9, .int pn, .ref m10, .ref m11, .ref m12, .ref m13]))]) [0] rfl
          have hD9 := hD.sub (ws' := [(h0, .inr (9, [.ref m1, .ref m2, .ref m3, .int ik, .int wy, .int op, .int cl, .int cx0, .int cx1, .int cy0, .int cy1, .int ds, .ref m4, .ref m5, .ref m6, .ref m7, .ref m8, .ref m9, .int pn, .ref m10, .ref m11, .ref m12, .ref m13]))]) [0] (by decide) rfl
          have hK9 := hK.sub (tys' := []) [] rfl
          refine hQ _ _ _ _ _ ?_
          exact W.zret (v := 0) hx hb hr rfl (fun t ht hW => ⟨⟨0, (), rfl, rfl, ⟨by rw [ht]; exact hP9, va_K.moved hW.alike hK9, hD9⟩⟩, hS.F ht⟩) hS.2.2 dX9_corner_30
