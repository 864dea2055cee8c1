set_option maxHeartbeats 4000000 in
set_option maxRecDepth 100000 in
theorem k_X9_dot (l : Launch) (D : va_G) (sz : Nat) (h0 m1 m2 m3 m4 m5 m6 m7 m8 m9 m10 m11 m12 m13 : Nat) (ik wy op cl cx0 cx1 cy0 cy1 ds pn : Int32) (gw : Nat → Int32) (gh : Nat → Int32) (gd : Nat → Int32) (k x y : Int32) (cI : ClassId) (hG : ∀ j : Nat, j < 4 → (gw j).toInt ≤ 64 ∧ (gh j).toInt ≤ 64) : Met l yX9_dot (wB yX9_dot cX9_dot 4 (some .int)) ({ frames := 1, cells := 0, slots := 0, locals := 23 }) (cP D [(h0, .inr (9, [.ref m1, .ref m2, .ref m3, .int ik, .int wy, .int op, .int cl, .int cx0, .int cx1, .int cy0, .int cy1, .int ds, .ref m4, .ref m5, .ref m6, .ref m7, .ref m8, .ref m9, .int pn, .ref m10, .ref m11, .ref m12, .ref m13])), (m1, .inl (cI, 4, .inl gw)), (m2, .inl (cI, 4, .inl gh)), (m3, .inl (cI, 16384, .inl gd))] [(cI, .int)] sz [.ref h0, .int k, .int x, .int y]) (va_Qi (fun (r : Int32) (_ : Unit) => r = if (0 ≤ k.toInt ∧ k.toInt ≤ 3 ∧ 0 < (gw k.toNatClampNeg).toInt) ∧ (0 ≤ x.toInt ∧ x.toInt < (gw k.toNatClampNeg).toInt ∧ 0 ≤ y.toInt ∧ y.toInt < (gh k.toNatClampNeg).toInt) then gd (4096 * k.toNatClampNeg + ixP x y) else 0) (fun (_ : Unit) (t : State) => cB D (va_A [(h0, .inr (9, [.ref m1, .ref m2, .ref m3, .int ik, .int wy, .int op, .int cl, .int cx0, .int cx1, .int cy0, .int cy1, .int ds, .ref m4, .ref m5, .ref m6, .ref m7, .ref m8, .ref m9, .int pn, .ref m10, .ref m11, .ref m12, .ref m13])), (m1, .inl (cI, 4, .inl gw)), (m2, .inl (cI, 4, .inl gh)), (m3, .inl (cI, 16384, .inl gd))] sz) [(h0, .inr (9, [.ref m1, .ref m2, .ref m3, .int ik, .int wy, .int op, .int cl, .int cx0, .int cx1, .int cy0, .int cy1, .int ds, .ref m4, .ref m5, .ref m6, .ref m7, .ref m8, .ref m9, .int pn, .ref m10, .ref m11, .ref m12, .ref m13])), (m1, .inl (cI, 4, .inl gw)), (m2, .inl (cI, 4, .inl gh)), (m3, .inl (cI, 16384, .inl gd))] [(cI, .int)] t) (va_A [(h0, .inr (9, [.ref m1, .ref m2, .ref m3, .int ik, .int wy, .int op, .int cl, .int cx0, .int cx1, .int cy0, .int cy1, .int ds, .ref m4, .ref m5, .ref m6, .ref m7, .ref m8, .ref m9, .int pn, .ref m10, .ref m11, .ref m12, .ref m13])), (m1, .inl (cI, 4, .inl gw)), (m2, .inl (cI, 4, .inl gh)), (m3, .inl (cI, 16384, .inl gd))] sz)) 0 0 (va_A [(h0, .inr (9, [.ref m1, .ref m2, .ref m3, .int ik, .int wy, .int op, .int cl, .int cx0, .int cx1, .int cy0, .int cy1, .int ds, .ref m4, .ref m5, .ref m6, .ref m7, .ref m8, .ref m9, .int pn, .ref m10, .ref m11, .ref m12, .ref m13])), (m1, .inl (cI, 4, .inl gw)), (m2, .inl (cI, 4, .inl gh)), (m3, .inl (cI, 16384, .inl gd))] sz) := by
  refine Met.ofW (cc := cX9_dot) (maxL := 4) (ret := (some .int)) (by decide) rfl ?_
  intro p e s m args below meth c s₁ B hml hv
  obtain ⟨rfl, hsz, hP, hK, hD0, hN⟩ := hv
  have hx := B.exec
  have hb := B.bytes
  have hr := B.returns
  have hts0 := atoms_spec (ws := (wB yX9_dot cX9_dot 4 (some .int))) B.pre
  have hts : ∀ w ∈ bigW, w.before _ s = true := fun w h => hts0 w (List.mem_cons_of_mem _ h)
  have hown : s.vm.findClass RX9 = some m.cls := findClass_of_methodNamed B.named
  have hlocks := B.notSynchronized
  subst hsz
  have hD := hD0.self (sz := s.heap.size)
  generalize hAe : va_A [(h0, .inr (9, [.ref m1, .ref m2, .ref m3, .int ik, .int wy, .int op, .int cl, .int cx0, .int cx1, .int cy0, .int cy1, .int ds, .ref m4, .ref m5, .ref m6, .ref m7, .ref m8, .ref m9, .int pn, .ref m10, .ref m11, .ref m12, .ref m13])), (m1, .inl (cI, 4, .inl gw)), (m2, .inl (cI, 4, .inl gh)), (m3, .inl (cI, 16384, .inl gd))] s.heap.size = A at hD ⊢
  have hA : ∀ q : Nat, s.heap.size ≤ q → A q := fun q h => by rw [← hAe]; exact Or.inr h
  have hS : va_S A s.heap s.heap [] := va_S.rf
  have hP : va_P D vwCl [(h0, .inr (9, [.ref m1, .ref m2, .ref m3, .int ik, .int wy, .int op, .int cl, .int cx0, .int cx1, .int cy0, .int cy1, .int ds, .ref m4, .ref m5, .ref m6, .ref m7, .ref m8, .ref m9, .int pn, .ref m10, .ref m11, .ref m12, .ref m13])), (m1, .inl (cI, 4, .inl gw)), (m2, .inl (cI, 4, .inl gh)), (m3, .inl (cI, 16384, .inl gd))] s.heap := hP
  have hl := lv_entry ([.ref h0, .int k, .int x, .int y]) (n := 4) (Nat.le_of_ble_eq_true rfl)
  rw [lg_entry_eq]
  generalize (lg_sl ([.ref h0, .int k, .int x, .int y]) ++ List.replicate (4 - (lg_sl ([.ref h0, .int k, .int x, .int y])).length) Slot.unset).toArray = ls at hl ⊢
  have hl : lv_has ls 4 [(0, .ref h0), (1, .int k), (2, .int x), (3, .int y)] := hl
  clear hts0 hD0 hAe
  refine my_abs (fun R Q hR hQ => ?_)
  refine lv_aload_n hx hb dX9_dot_0 rfl (lv_at hl 0 rfl) ?_
  refine lv_iload_n hx hb dX9_dot_1 rfl (lv_at hl 1 rfl) ?_
  have hPc := hP.sub (ws' := [(h0, .inr (9, [.ref m1, .ref m2, .ref m3, .int ik, .int wy, .int op, .int cl, .int cx0, .int cx1, .int cy0, .int cy1, .int ds, .ref m4, .ref m5, .ref m6, .ref m7, .ref m8, .ref m9, .int pn, .ref m10, .ref m11, .ref m12, .ref m13])), (m1, .inl (cI, 4, .inl gw))]) [0, 1] rfl
  have hDc := hD.sub (ws' := [(h0, .inr (9, [.ref m1, .ref m2, .ref m3, .int ik, .int wy, .int op, .int cl, .int cx0, .int cx1, .int cy0, .int cy1, .int ds, .ref m4, .ref m5, .ref m6, .ref m7, .ref m8, .ref m9, .int pn, .ref m10, .ref m11, .ref m12, .ref m13])), (m1, .inl (cI, 4, .inl gw))]) [0, 1] (by decide) rfl
  have hKc := hK.sub (tys' := [(cI, .int)]) [0] rfl
  have hFc := va_free (wc := [(h0, .inr (9, [.ref m1, .ref m2, .ref m3, .int ik, .int wy, .int op, .int cl, .int cx0, .int cx1, .int cy0, .int cy1, .int ds, .ref m4, .ref m5, .ref m6, .ref m7, .ref m8, .ref m9, .int pn, .ref m10, .ref m11, .ref m12, .ref m13])), (m1, .inl (cI, 4, .inl gw))]) hD hS hA [0, 1] rfl
  refine va_calli (va_runV (As := [.int k]) (rest := []) ⟨hx, hb, hml, hown, hts⟩ (k_X9_isSheet l D s.heap.size h0 m1 m2 m3 m4 m5 m6 m7 m8 m9 m10 m11 m12 m13 ik wy op cl cx0 cx1 cy0 cy1 ds pn gw k cI) (cwV 1 hts (gV bw_490 bw_415 bw_416 bw_391 bw_414) rfl rfl rfl (by decide +kernel) ⟨(by rw [hR]; exact Nat.le_of_ble_eq_true rfl), (by rw [hR]; exact Nat.le_of_ble_eq_true rfl)⟩) ⟨cP_blind, va_recv hKc hPc (ci := 9) (q0 := 0) rfl rfl, cP_at hPc hKc hDc hN⟩ rfl rfl hl.1 rfl (lv_room (Nat.le_of_ble_eq_true rfl)) dX9_dot_2 ⟨(by rw [hR]; exact Nat.le_of_ble_eq_true rfl), (by rw [hR]; exact Nat.le_of_ble_eq_true rfl)⟩) hS (fun q _ h => hFc q h) hFc (fun r_1 u9 t9 H1 locs ht hvm hr_1 hB hz1 hk1 hS => ?_)
  try dsimp only at hr_1
  obtain ⟨hP1, hK1, hD1⟩ := hB
  rw [ht] at hP1
  obtain ⟨hP, hD⟩ := va_join (wr := [(m2, .inl (cI, 4, .inl gh)), (m3, .inl (cI, 16384, .inl gd))]) (w1 := [(h0, .inr (9, [.ref m1, .ref m2, .ref m3, .int ik, .int wy, .int op, .int cl, .int cx0, .int cx1, .int cy0, .int cy1, .int ds, .ref m4, .ref m5, .ref m6, .ref m7, .ref m8, .ref m9, .int pn, .ref m10, .ref m11, .ref m12, .ref m13])), (m1, .inl (cI, 4, .inl gw))]) hP hD [0, 1] [2, 3] rfl rfl (by decide) (by decide) hk1 hFc hP1 hD1
  clear hz1 hk1 hFc hKc hDc hPc
  generalize H1 = H at hP hS ⊢
  have hP : va_P D vwCl [(m2, .inl (cI, 4, .inl gh)), (m3, .inl (cI, 16384, .inl gd)), (h0, .inr (9, [.ref m1, .ref m2, .ref m3, .int ik, .int wy, .int op, .int cl, .int cx0, .int cx1, .int cy0, .int cy1, .int ds, .ref m4, .ref m5, .ref m6, .ref m7, .ref m8, .ref m9, .int pn, .ref m10, .ref m11, .ref m12, .ref m13])), (m1, .inl (cI, 4, .inl gw))] H := hP
  have hD : va_D A [(m2, .inl (cI, 4, .inl gh)), (m3, .inl (cI, 16384, .inl gd)), (h0, .inr (9, [.ref m1, .ref m2, .ref m3, .int ik, .int wy, .int op, .int cl, .int cx0, .int cx1, .int cy0, .int cy1, .int ds, .ref m4, .ref m5, .ref m6, .ref m7, .ref m8, .ref m9, .int pn, .ref m10, .ref m11, .ref m12, .ref m13])), (m1, .inl (cI, 4, .inl gw))] := hD
  refine lv_if_eq (tgt := 32) hx hb dX9_dot_5 (by decide) (fun c_2 => ?_) (fun c_2 => ?_)
  · skip
    have f_3 := bz0 hr_1 c_2
    refine lv_iconst (v := 0) hx hb dX9_dot_32 (by decide) ?_
    have hP9 := hP.sub (ws' := [(h0, .inr (9, [.ref m1, .ref m2, .ref m3, .int ik, .int wy, .int op, .int cl, .int cx0, .int cx1, .int cy0, .int cy1, .int ds, .ref m4, .ref m5, .ref m6, .ref m7, .ref m8, .ref m9, .int pn, .ref m10, .ref m11, .ref m12, .ref m13])), (m1, .inl (cI, 4, .inl gw)), (m2, .inl (cI, 4, .inl gh)), (m3, .inl (cI, 16384, .inl gd))]) [2, 3, 0, 1] rfl
    have hD9 := hD.sub (ws' := [(h0, .inr (9, [.ref m1, .ref m2, .ref m3, .int ik, .int wy, .int op, .int cl, .int cx0, .int cx1, .int cy0, .int cy1, .int ds, .ref m4, .ref m5, .ref m6, .ref m7, .ref m8, .ref m9, .int pn, .ref m10, .ref m11, .ref m12, .ref m13])), (m1, .inl (cI, 4, .inl gw)), (m2, .inl (cI, 4, .inl gh)), (m3, .inl (cI, 16384, .inl gd))]) [2, 3, 0, 1] (by decide) rfl
    have hK9 := hK.sub (tys' := [(cI, .int)]) [0] rfl
    refine hQ _ _ _ _ _ ?_
    exact W.iret (v := 0) hx hb hr (fun t ht hW => ⟨⟨0, (), rfl, (if_neg (by omega)).symm, ⟨by rw [ht]; exact hP9, va_K.moved hW.alike hK9, hD9⟩⟩, hS.F ht⟩) hS.2.2 dX9_dot_33
  · skip
    have f_3 := bz1 hr_1 c_2
    have hkn_k : k.toNatClampNeg < 4 := cl_lt (by omega) (by omega)
    have hgk_k := hG _ hkn_k
    refine lv_aload_n hx hb dX9_dot_8 rfl (lv_at hl 0 rfl) ?_
    refine lv_iload_n hx hb dX9_dot_9 rfl (lv_at hl 1 rfl) ?_
    refine lv_iload_n hx hb dX9_dot_10 rfl (lv_at hl 2 rfl) ?_
    refine lv_iload_n hx hb dX9_dot_11 rfl (lv_at hl 3 rfl) ?_
    have hPc := hP.sub (ws' := [(h0, .inr (9, [.ref m1, .ref m2, .ref m3, .int ik, .int wy, .int op, .int cl, .int cx0, .int cx1, .int cy0, .int cy1, .int ds, .ref m4, .ref m5, .ref m6, .ref m7, .ref m8, .ref m9, .int pn, .ref m10, .ref m11, .ref m12, .ref m13])), (m1, .inl (cI, 4, .inl gw)), (m2, .inl (cI, 4, .inl gh))]) [2, 3, 0] rfl
    have hDc := hD.sub (ws' := [(h0, .inr (9, [.ref m1, .ref m2, .ref m3, .int ik, .int wy, .int op, .int cl, .int cx0, .int cx1, .int cy0, .int cy1, .int ds, .ref m4, .ref m5, .ref m6, .ref m7, .ref m8, .ref m9, .int pn, .ref m10, .ref m11, .ref m12, .ref m13])), (m1, .inl (cI, 4, .inl gw)), (m2, .inl (cI, 4, .inl gh))]) [2, 3, 0] (by decide) rfl
    have hKc := hK.sub (tys' := [(cI, .int)]) [0] rfl
    have hFc := va_free (wc := [(h0, .inr (9, [.ref m1, .ref m2, .ref m3, .int ik, .int wy, .int op, .int cl, .int cx0, .int cx1, .int cy0, .int cy1, .int ds, .ref m4, .ref m5, .ref m6, .ref m7, .ref m8, .ref m9, .int pn, .ref m10, .ref m11, .ref m12, .ref m13])), (m1, .inl (cI, 4, .inl gw)), (m2, .inl (cI, 4, .inl gh))]) hD hS hA [2, 3, 0] rfl
    refine va_calli (va_runV (As := [.int k, .int x, .int y]) (rest := []) ⟨hx, hb, hml, hown, hts⟩ (k_X9_isOn l D H.size h0 m1 m2 m3 m4 m5 m6 m7 m8 m9 m10 m11 m12 m13 ik wy op cl cx0 cx1 cy0 cy1 ds pn gw gh k x y cI (by omega)) (cwV 3 hts (gV bw_433 bw_418 bw_419 bw_391 bw_417) rfl rfl rfl (by decide +kernel) ⟨(by rw [hR]; exact Nat.le_of_ble_eq_true rfl), (by rw [hR]; exact Nat.le_of_ble_eq_true rfl)⟩) ⟨cP_blind, va_recv hKc hPc (ci := 9) (q0 := 0) rfl rfl, cP_at hPc hKc hDc hN⟩ rfl rfl hl.1 rfl (lv_room (Nat.le_of_ble_eq_true rfl)) dX9_dot_12 ⟨(by rw [hR]; exact Nat.le_of_ble_eq_true rfl), (by rw [hR]; exact Nat.le_of_ble_eq_true rfl)⟩) hS (fun q _ h => hFc q h) hFc (fun r_4 u9 t9 H1 locs ht hvm hr_4 hB hz1 hk1 hS => ?_)
    try dsimp only at hr_4
    obtain ⟨hP1, hK1, hD1⟩ := hB
    rw [ht] at hP1
    obtain ⟨hP, hD⟩ := va_join (wr := [(m3, .inl (cI, 16384, .inl gd))]) (w1 := [(h0, .inr (9, [.ref m1, .ref m2, .ref m3, .int ik, .int wy, .int op, .int cl, .int cx0, .int cx1, .int cy0, .int cy1, .int ds, .ref m4, .ref m5, .ref m6, .ref m7, .ref m8, .ref m9, .int pn, .ref m10, .ref m11, .ref m12, .ref m13])), (m1, .inl (cI, 4, .inl gw)), (m2, .inl (cI, 4, .inl gh))]) hP hD [2, 3, 0] [1] rfl rfl (by decide) (by decide) hk1 hFc hP1 hD1
    clear hz1 hk1 hFc hKc hDc hPc
    generalize H1 = H at hP hS ⊢
    have hP : va_P D vwCl [(m3, .inl (cI, 16384, .inl gd)), (h0, .inr (9, [.ref m1, .ref m2, .ref m3, .int ik, .int wy, .int op, .int cl, .int cx0, .int cx1, .int cy0, .int cy1, .int ds, .ref m4, .ref m5, .ref m6, .ref m7, .ref m8, .ref m9, .int pn, .ref m10, .ref m11, .ref m12, .ref m13])), (m1, .inl (cI, 4, .inl gw)), (m2, .inl (cI, 4, .inl gh))] H := hP
    have hD : va_D A [(m3, .inl (cI, 16384, .inl gd)), (h0, .inr (9, [.ref m1, .ref m2, .ref m3, .int ik, .int wy, .int op, .int cl, .int cx0, .int cx1, .int cy0, .int cy1, .int ds, .ref m4, .ref m5, .ref m6, .ref m7, .ref m8, .ref m9, .int pn, .ref m10, .ref m11, .ref m12, .ref m13])), (m1, .inl (cI, 4, .inl gw)), (m2, .inl (cI, 4, .inl gh))] := hD
    refine lv_if_eq (tgt := 32) hx hb dX9_dot_15 (by decide) (fun c_5 => ?_) (fun c_5 => ?_)
    · skip
      have f_6 := bz0 hr_4 c_5
      refine lv_iconst (v := 0) hx hb dX9_dot_32 (by decide) ?_
      have hP9 := hP.sub (ws' := [(h0, .inr (9, [.ref m1, .ref m2, .ref m3, .int ik, .int wy, .int op, .int cl, .int cx0, .int cx1, .int cy0, .int cy1, .int ds, .ref m4, .ref m5, .ref m6, .ref m7, .ref m8, .ref m9, .int pn, .ref m10, .ref m11, .ref m12, .ref m13])), (m1, .inl (cI, 4, .inl gw)), (m2, .inl (cI, 4, .inl gh)), (m3, .inl (cI, 16384, .inl gd))]) [1, 2, 3, 0] rfl
      have hD9 := hD.sub (ws' := [(h0, .inr (9, [.ref m1, .ref m2, .ref m3, .int ik, .int wy, .int op, .int cl, .int cx0, .int cx1, .int cy0, .int cy1, .int ds, .ref m4, .ref m5, .ref m6, .ref m7, .ref m8, .ref m9, .int pn, .ref m10, .ref m11, .ref m12, .ref m13])), (m1, .inl (cI, 4, .inl gw)), (m2, .inl (cI, 4, .inl gh)), (m3, .inl (cI, 16384, .inl gd))]) [1, 2, 3, 0] (by decide) rfl
      have hK9 := hK.sub (tys' := [(cI, .int)]) [0] rfl
      refine hQ _ _ _ _ _ ?_
      exact W.iret (v := 0) hx hb hr (fun t ht hW => ⟨⟨0, (), rfl, (if_neg (by omega)).symm, ⟨by rw [ht]; exact hP9, va_K.moved hW.alike hK9, hD9⟩⟩, hS.F ht⟩) hS.2.2 dX9_dot_33
    · skip
      have f_6 := bz1 hr_4 c_5
      refine lv_aload_n hx hb dX9_dot_18 rfl (lv_at hl 0 rfl) ?_
      refine va_get (D := D) (ci := 9) (v := .ref m3) (C := RX9) (T := TX9) (N := 23) hx hb hts hi_X9 hown hK hP 1 rfl rfl 2 (by decide) (hts _ bw_398) (fun _ h9 => h9) rfl dX9_dot_19 ?_
      refine lv_iload_n hx hb dX9_dot_22 rfl (lv_at hl 1 rfl) ?_
      refine lv_iload_n hx hb dX9_dot_23 rfl (lv_at hl 2 rfl) ?_
      refine lv_iload_n hx hb dX9_dot_24 rfl (lv_at hl 3 rfl) ?_
      have hPc := hP.sub (ws' := []) [] rfl
      have hDc := hD.sub (ws' := []) [] (by decide) rfl
      have hKc := hK.sub (tys' := []) [] rfl
      have hFc := va_free (wc := []) hD hS hA [] rfl
      refine va_calli (va_runS (As := [.int k, .int x, .int y]) (rest := [.ref m3]) ⟨hx, hb, hml, hown, hts⟩ (k_X9_spot l D H.size k x y) (va_cwS 3 hts (gS bw_551 bw_421 bw_391 bw_420) rfl rfl rfl (by decide +kernel) ⟨(by rw [hR]; exact Nat.le_of_ble_eq_true rfl), (by rw [hR]; exact Nat.le_of_ble_eq_true rfl)⟩) ⟨cP_blind, cP_at hPc hKc hDc hN⟩ rfl rfl hl.1 rfl (lv_room (Nat.le_of_ble_eq_true rfl)) dX9_dot_25 ⟨(by rw [hR]; exact Nat.le_of_ble_eq_true rfl), (by rw [hR]; exact Nat.le_of_ble_eq_true rfl)⟩) hS (fun q _ h => hFc q h) hFc (fun r_7 u9 t9 H1 locs ht hvm hr_7 hB hz1 hk1 hS => ?_)
      try dsimp only at hr_7
      have hP1 : va_P D vwCl [] H1 := vP_nil
      have hD1 : va_D (va_A [] H.size) [] := vD_nil
      obtain ⟨hP, hD⟩ := va_join (wr := [(m3, .inl (cI, 16384, .inl gd)), (h0, .inr (9, [.ref m1, .ref m2, .ref m3, .int ik, .int wy, .int op, .int cl, .int cx0, .int cx1, .int cy0, .int cy1, .int ds, .ref m4, .ref m5, .ref m6, .ref m7, .ref m8, .ref m9, .int pn, .ref m10, .ref m11, .ref m12, .ref m13])), (m1, .inl (cI, 4, .inl gw)), (m2, .inl (cI, 4, .inl gh))]) (w1 := []) hP hD [] [0, 1, 2, 3] rfl rfl (by decide) (by decide) hk1 hFc hP1 hD1
      clear hz1 hk1 hFc hKc hDc hPc
      generalize H1 = H at hP hS ⊢
      have hP : va_P D vwCl [(m3, .inl (cI, 16384, .inl gd)), (h0, .inr (9, [.ref m1, .ref m2, .ref m3, .int ik, .int wy, .int op, .int cl, .int cx0, .int cx1, .int cy0, .int cy1, .int ds, .ref m4, .ref m5, .ref m6, .ref m7, .ref m8, .ref m9, .int pn, .ref m10, .ref m11, .ref m12, .ref m13])), (m1, .inl (cI, 4, .inl gw)), (m2, .inl (cI, 4, .inl gh))] H := hP
      have hD : va_D A [(m3, .inl (cI, 16384, .inl gd)), (h0, .inr (9, [.ref m1, .ref m2, .ref m3, .int ik, .int wy, .int op, .int cl, .int cx0, .int cx1, .int cy0, .int cy1, .int ds, .ref m4, .ref m5, .ref m6, .ref m7, .ref m8, .ref m9, .int pn, .ref m10, .ref m11, .ref m12, .ref m13])), (m1, .inl (cI, 4, .inl gw)), (m2, .inl (cI, 4, .inl gh))] := hD
      refine va_iald hx hb hK hP 0 0 rfl rfl (by rw [hr_7]; exact sp_in (by omega) (by omega) (by omega) (by omega) (by omega) (by omega)) dX9_dot_28 ?_
      refine my_fold (v := gd (4096 * k.toNatClampNeg + ixP x y)) (congrArg gd (by rw [hr_7]; exact sp_cl (by omega) (by omega) (by omega) (by omega) (by omega) (by omega))) ?_
      refine lv_goto (tgt := 33) hx hb dX9_dot_29 (by decide) ?_
      have hP9 := hP.sub (ws' := [(h0, .inr (9, [.ref m1, .ref m2, .ref m3, .int ik, .int wy, .int op, .int cl, .int cx0, .int cx1, .int cy0, .int cy1, .int ds, .ref m4, .ref m5, .ref m6, .ref m7, .ref m8, .ref m9, .int pn, .ref m10, .ref m11, .ref m12, .ref m13])), (m1, .inl (cI, 4, .inl gw)), (m2, .inl (cI, 4, .inl gh)), (m3, .inl (cI, 16384, .inl gd))]) [1, 2, 3, 0] rfl
      have hD9 := hD.sub (ws' := [(h0, .inr (9, [.ref m1, .ref m2, .ref m3, .int ik, .int wy, .int op, .int cl, .int cx0, .int cx1, .int cy0, .int cy1, .int ds, .ref m4, .ref m5, .ref m6, .ref m7, .ref m8, .ref m9, .int pn, .ref m10, .ref m11, .ref m12, .ref m13])), (m1, .inl (cI, 4, .inl gw)), (m2, .inl (cI, 4, .inl gh)), (m3, .inl (cI, 16384, .inl gd))]) [1, 2, 3, 0] (by decide) rfl
      have hK9 := hK.sub (tys' := [(cI, .int)]) [0] rfl
      refine hQ _ _ _ _ _ ?_
      exact W.iret (v := gd (4096 * k.toNatClampNeg + ixP x y)) hx hb hr (fun t ht hW => ⟨⟨gd (4096 * k.toNatClampNeg + ixP x y), (), rfl, (if_pos (by omega)).symm, ⟨by rw [ht]; exact hP9, va_K.moved hW.alike hK9, hD9⟩⟩, hS.F ht⟩) hS.2.2 dX9_dot_33

set_option maxHeartbeats 4000000 in
set_option maxRecDepth 100000 in
theorem k_X9_count (l : Launch) (D : va_G) (sz : Nat) (h0 m1 m2 m3 m4 m5 m6 m7 m8 m9 m10 m11 m12 m13 : Nat) (ik wy op cl cx0 cx1 cy0 cy1 ds pn : Int32) (gw : Nat → Int32) (gh : Nat → Int32) (gd : Nat → Int32) (k vl : Int32) (cI : ClassId) (hG : ∀ j : Nat, j < 4 → (gw j).toInt ≤ 64 ∧ (gh j).toInt ≤ 64) : Met l yX9_count (wB yX9_count cX9_count 6 (some .int)) ({ frames := 1, cells := 0, slots := 0, locals := 22 }) (cP D [(h0, .inr (9, [.ref m1, .ref m2, .ref m3, .int ik, .int wy, .int op, .int cl, .int cx0, .int cx1, .int cy0, .int cy1, .int ds, .ref m4, .ref m5, .ref m6, .ref m7, .ref m8, .ref m9, .int pn, .ref m10, .ref m11, .ref m12, .ref m13])), (m1, .inl (cI, 4, .inl gw)), (m2, .inl (cI, 4, .inl gh)), (m3, .inl (cI, 16384, .inl gd))] [(cI, .int)] sz [.ref h0, .int k, .int vl]) (va_Qi (fun (r : Int32) (_ : Unit) => True) (fun (_ : Unit) (t : State) => cB D (va_A [(h0, .inr (9, [.ref m1, .ref m2, .ref m3, .int ik, .int wy, .int op, .int cl, .int cx0, .int cx1, .int cy0, .int cy1, .int ds, .ref m4, .ref m5, .ref m6, .ref m7, .ref m8, .ref m9, .int pn, .ref m10, .ref m11, .ref m12, .ref m13])), (m1, .inl (cI, 4, .inl gw)), (m2, .inl (cI, 4, .inl gh)), (m3, .inl (cI, 16384, .inl gd))] sz) [(h0, .inr (9, [.ref m1, .ref m2, .ref m3, .int ik, .int wy, .int op, .int cl, .int cx0, .int cx1, .int cy0, .int cy1, .int ds, .ref m4, .ref m5, .ref m6, .ref m7, .ref m8, .ref m9, .int pn, .ref m10, .ref m11, .ref m12, .ref m13])), (m1, .inl (cI, 4, .inl gw)), (m2, .inl (cI, 4, .inl gh)), (m3, .inl (cI, 16384, .inl gd))] [(cI, .int)] t) (va_A [(h0, .inr (9, [.ref m1, .ref m2, .ref m3, .int ik, .int wy, .int op, .int cl, .int cx0, .int cx1, .int cy0, .int cy1, .int ds, .ref m4, .ref m5, .ref m6, .ref m7, .ref m8, .ref m9, .int pn, .ref m10, .ref m11, .ref m12, .ref m13])), (m1, .inl (cI, 4, .inl gw)), (m2, .inl (cI, 4, .inl gh)), (m3, .inl (cI, 16384, .inl gd))] sz)) 0 0 (va_A [(h0, .inr (9, [.ref m1, .ref m2, .ref m3, .int ik, .int wy, .int op, .int cl, .int cx0, .int cx1, .int cy0, .int cy1, .int ds, .ref m4, .ref m5, .ref m6, .ref m7, .ref m8, .ref m9, .int pn, .ref m10, .ref m11, .ref m12, .ref m13])), (m1, .inl (cI, 4, .inl gw)), (m2, .inl (cI, 4, .inl gh)), (m3, .inl (cI, 16384, .inl gd))] sz) := by
  refine Met.ofW (cc := cX9_count) (maxL := 6) (ret := (some .int)) (by decide) rfl ?_
  intro p e s m args below meth c s₁ B hml hv
  obtain ⟨rfl, hsz, hP, hK, hD0, hN⟩ := hv
  have hx := B.exec
  have hb := B.bytes
  have hr := B.returns
  have hts0 := atoms_spec (ws := (wB yX9_count cX9_count 6 (some .int))) B.pre
  have hts : ∀ w ∈ bigW, w.before _ s = true := fun w h => hts0 w (List.mem_cons_of_mem _ h)
  have hown : s.vm.findClass RX9 = some m.cls := findClass_of_methodNamed B.named
  have hlocks := B.notSynchronized
  subst hsz
  have hD := hD0.self (sz := s.heap.size)
  generalize hAe : va_A [(h0, .inr (9, [.ref m1, .ref m2, .ref m3, .int ik, .int wy, .int op, .int cl, .int cx0, .int cx1, .int cy0, .int cy1, .int ds, .ref m4, .ref m5, .ref m6, .ref m7, .ref m8, .ref m9, .int pn, .ref m10, .ref m11, .ref m12, .ref m13])), (m1, .inl (cI, 4, .inl gw)), (m2, .inl (cI, 4, .inl gh)), (m3, .inl (cI, 16384, .inl gd))] s.heap.size = A at hD ⊢
  have hA : ∀ q : Nat, s.heap.size ≤ q → A q := fun q h => by rw [← hAe]; exact Or.inr h
  have hS : va_S A s.heap s.heap [] := va_S.rf
  have hP : va_P D vwCl [(h0, .inr (9, [.ref m1, .ref m2, .ref m3, .int ik, .int wy, .int op, .int cl, .int cx0, .int cx1, .int cy0, .int cy1, .int ds, .ref m4, .ref m5, .ref m6, .ref m7, .ref m8, .ref m9, .int pn, .ref m10, .ref m11, .ref m12, .ref m13])), (m1, .inl (cI, 4, .inl gw)), (m2, .inl (cI, 4, .inl gh)), (m3, .inl (cI, 16384, .inl gd))] s.heap := hP
  have hl := lv_entry ([.ref h0, .int k, .int vl]) (n := 6) (Nat.le_of_ble_eq_true rfl)
  rw [lg_entry_eq]
  generalize (lg_sl ([.ref h0, .int k, .int vl]) ++ List.replicate (6 - (lg_sl ([.ref h0, .int k, .int vl])).length) Slot.unset).toArray = ls at hl ⊢
  have hl : lv_has ls 6 [(0, .ref h0), (1, .int k), (2, .int vl)] := hl
  clear hts0 hD0 hAe
  refine my_abs (fun R Q hR hQ => ?_)
  refine lv_aload_n hx hb dX9_count_0 rfl (lv_at hl 0 rfl) ?_
  refine lv_iload_n hx hb dX9_count_1 rfl (lv_at hl 1 rfl) ?_
  have hPc := hP.sub (ws' := [(h0, .inr (9, [.ref m1, .ref m2, .ref m3, .int ik, .int wy, .int op, .int cl, .int cx0, .int cx1, .int cy0, .int cy1, .int ds, .ref m4, .ref m5, .ref m6, .ref m7, .ref m8, .ref m9, .int pn, .ref m10, .ref m11, .ref m12, .ref m13])), (m1, .inl (cI, 4, .inl gw))]) [0, 1] rfl
  have hDc := hD.sub (ws' := [(h0, .inr (9, [.ref m1, .ref m2, .ref m3, .int ik, .int wy, .int op, .int cl, .int cx0, .int cx1, .int cy0, .int cy1, .int ds, .ref m4, .ref m5, .ref m6, .ref m7, .ref m8, .ref m9, .int pn, .ref m10, .ref m11, .ref m12, .ref m13])), (m1, .inl (cI, 4, .inl gw))]) [0, 1] (by decide) rfl
  have hKc := hK.sub (tys' := [(cI, .int)]) [0] rfl
  have hFc := va_free (wc := [(h0, .inr (9, [.ref m1, .ref m2, .ref m3, .int ik, .int wy, .int op, .int cl, .int cx0, .int cx1, .int cy0, .int cy1, .int ds, .ref m4, .ref m5, .ref m6, .ref m7, .ref m8, .ref m9, .int pn, .ref m10, .ref m11, .ref m12, .ref m13])), (m1, .inl (cI, 4, .inl gw))]) hD hS hA [0, 1] rfl
  refine va_calli (va_runV (As := [.int k]) (rest := []) ⟨hx, hb, hml, hown, hts⟩ (k_X9_isSheet l D s.heap.size h0 m1 m2 m3 m4 m5 m6 m7 m8 m9 m10 m11 m12 m13 ik wy op cl cx0 cx1 cy0 cy1 ds pn gw k cI) (cwV 1 hts (gV bw_490 bw_415 bw_416 bw_391 bw_414) rfl rfl rfl (by decide +kernel) ⟨(by rw [hR]; exact Nat.le_of_ble_eq_true rfl), (by rw [hR]; exact Nat.le_of_ble_eq_true rfl)⟩) ⟨cP_blind, va_recv hKc hPc (ci := 9) (q0 := 0) rfl rfl, cP_at hPc hKc hDc hN⟩ rfl rfl hl.1 rfl (lv_room (Nat.le_of_ble_eq_true rfl)) dX9_count_2 ⟨(by rw [hR]; exact Nat.le_of_ble_eq_true rfl), (by rw [hR]; exact Nat.le_of_ble_eq_true rfl)⟩) hS (fun q _ h => hFc q h) hFc (fun r_1 u9 t9 H1 locs ht hvm hr_1 hB hz1 hk1 hS => ?_)
  try dsimp only at hr_1
  obtain ⟨hP1, hK1, hD1⟩ := hB
  rw [ht] at hP1
  obtain ⟨hP, hD⟩ := va_join (wr := [(m2, .inl (cI, 4, .inl gh)), (m3, .inl (cI, 16384, .inl gd))]) (w1 := [(h0, .inr (9, [.ref m1, .ref m2, .ref m3, .int ik, .int wy, .int op, .int cl, .int cx0, .int cx1, .int cy0, .int cy1, .int ds, .ref m4, .ref m5, .ref m6, .ref m7, .ref m8, .ref m9, .int pn, .ref m10, .ref m11, .ref m12, .ref m13])), (m1, .inl (cI, 4, .inl gw))]) hP hD [0, 1] [2, 3] rfl rfl (by decide) (by decide) hk1 hFc hP1 hD1
  clear hz1 hk1 hFc hKc hDc hPc
  generalize H1 = H at hP hS ⊢
  have hP : va_P D vwCl [(m2, .inl (cI, 4, .inl gh)), (m3, .inl (cI, 16384, .inl gd)), (h0, .inr (9, [.ref m1, .ref m2, .ref m3, .int ik, .int wy, .int op, .int cl, .int cx0, .int cx1, .int cy0, .int cy1, .int ds, .ref m4, .ref m5, .ref m6, .ref m7, .ref m8, .ref m9, .int pn, .ref m10, .ref m11, .ref m12, .ref m13])), (m1, .inl (cI, 4, .inl gw))] H := hP
  have hD : va_D A [(m2, .inl (cI, 4, .inl gh)), (m3, .inl (cI, 16384, .inl gd)), (h0, .inr (9, [.ref m1, .ref m2, .ref m3, .int ik, .int wy, .int op, .int cl, .int cx0, .int cx1, .int cy0, .int cy1, .int ds, .ref m4, .ref m5, .ref m6, .ref m7, .ref m8, .ref m9, .int pn, .ref m10, .ref m11, .ref m12, .ref m13])), (m1, .inl (cI, 4, .inl gw))] := hD
  refine lv_if_ne (tgt := 10) hx hb dX9_count_5 (by decide) (fun c_2 => ?_) (fun c_2 => ?_)
  · skip
    have f_3 := bz1 hr_1 c_2
    have hkn_k : k.toNatClampNeg < 4 := cl_lt (by omega) (by omega)
    have hgk_k := hG _ hkn_k
    refine lv_iconst (v := 0) hx hb dX9_count_10 (by decide) ?_
    refine lv_istore_n (lv' := [(3, .int 0), (0, .ref h0), (1, .int k), (2, .int vl)]) hx hb dX9_count_11 rfl hl (by decide) rfl (fun ls hl => ?_)
    refine lv_iconst (v := 0) hx hb dX9_count_12 (by decide) ?_
    refine lv_istore (lv' := [(4, .int 0), (3, .int 0), (0, .ref h0), (1, .int k), (2, .int vl)]) hx hb dX9_count_13 hl (by decide) rfl (fun ls hl => ?_)
    have loop_4 : ∀ (n : Nat) (j : Nat) (x4 : Int32) (x3 : Int32) (H : Heap) (locs : List Loc) (ls : Array Slot), (j ≤ 64) → (64 + 1 ≤ j + n) → (x4 = nI j) → va_P D vwCl [(m2, .inl (cI, 4, .inl gh)), (m3, .inl (cI, 16384, .inl gd)), (h0, .inr (9, [.ref m1, .ref m2, .ref m3, .int ik, .int wy, .int op, .int cl, .int cx0, .int cx1, .int cy0, .int cy1, .int ds, .ref m4, .ref m5, .ref m6, .ref m7, .ref m8, .ref m9, .int pn, .ref m10, .ref m11, .ref m12, .ref m13])), (m1, .inl (cI, 4, .inl gw))] H → va_D A [(m2, .inl (cI, 4, .inl gh)), (m3, .inl (cI, 16384, .inl gd)), (h0, .inr (9, [.ref m1, .ref m2, .ref m3, .int ik, .int wy, .int op, .int cl, .int cx0, .int cx1, .int cy0, .int cy1, .int ds, .ref m4, .ref m5, .ref m6, .ref m7, .ref m8, .ref m9, .int pn, .ref m10, .ref m11, .ref m12, .ref m13])), (m1, .inl (cI, 4, .inl gw))] → va_S A s.heap H locs → lv_has ls 6 [(4, .int x4), (3, .int x3), (0, .ref h0), (1, .int k), (2, .int vl)] → W p l e R s m ([.ref h0, .int k, .int vl] : List Value).toArray below meth c H locs 0 0 Q (F0 m 15 ls []) := by
      intro n
      induction n with
      | zero =>
        intro j x4 x3 H locs ls hi_j hm_j ex_j hP hD hS hl
        exact absurd (show False by omega) not_false
      | succ n ih_5 =>
        intro j x4 x3 H locs ls hi_j hm_j ex_j hP hD hS hl
        have hx_j : x4.toInt = (j : Int) := by rw [ex_j]; exact nI_toInt (by omega)
        have hc_j : x4.toNatClampNeg = j := by rw [ex_j]; exact nI_clamp (by omega)
        refine lv_iload hx hb dX9_count_15 (lv_at hl 0 rfl) ?_
        refine lv_aload_n hx hb dX9_count_17 rfl (lv_at hl 2 rfl) ?_
        refine va_get (D := D) (ci := 9) (v := .ref m2) (C := RX9) (T := TX9) (N := 23) hx hb hts hi_X9 hown hK hP 2 rfl rfl 1 (by decide) (hts _ bw_397) (fun _ h9 => h9) rfl dX9_count_18 ?_
        refine lv_iload_n hx hb dX9_count_21 rfl (lv_at hl 3 rfl) ?_
        refine va_iald hx hb hK hP 0 0 rfl rfl (vp_in_iff.mpr ⟨by omega, by omega⟩) dX9_count_22 ?_
        refine lv_icmp_ge (tgt := 77) hx hb dX9_count_23 (by decide) (fun c_6 => ?_) (fun c_6 => ?_)
        · skip
          have f_7 : (gh k.toNatClampNeg).toInt ≤ (j : Int) := f_le rfl hx_j c_6
          refine lv_iload_n hx hb dX9_count_77 rfl (lv_at hl 1 rfl) ?_
          have hP9 := hP.sub (ws' := [(h0, .inr (9, [.ref m1, .ref m2, .ref m3, .int ik, .int wy, .int op, .int cl, .int cx0, .int cx1, .int cy0, .int cy1, .int ds, .ref m4, .ref m5, .ref m6, .ref m7, .ref m8, .ref m9, .int pn, .ref m10, .ref m11, .ref m12, .ref m13])), (m1, .inl (cI, 4, .inl gw)), (m2, .inl (cI, 4, .inl gh)), (m3, .inl (cI, 16384, .inl gd))]) [2, 3, 0, 1] rfl
          have hD9 := hD.sub (ws' := [(h0, .inr (9, [.ref m1, .ref m2, .ref m3, .int ik, .int wy, .int op, .int cl, .int cx0, .int cx1, .int cy0, .int cy1, .int ds, .ref m4, .ref m5, .ref m6, .ref m7, .ref m8, .ref m9, .int pn, .ref m10, .ref m11, .ref m12, .ref m13])), (m1, .inl (cI, 4, .inl gw)), (m2, .inl (cI, 4, .inl gh)), (m3, .inl (cI, 16384, .inl gd))]) [2, 3, 0, 1] (by decide) rfl
          have hK9 := hK.sub (tys' := [(cI, .int)]) [0] rfl
          refine hQ _ _ _ _ _ ?_
          exact W.iret (v := x3) hx hb hr (fun t ht hW => ⟨⟨x3, (), rfl, trivial, ⟨by rw [ht]; exact hP9, va_K.moved hW.alike hK9, hD9⟩⟩, hS.F ht⟩) hS.2.2 dX9_count_78
        · skip
          have f_7 : ¬ ((gh k.toNatClampNeg).toInt ≤ (j : Int)) := fn_le rfl hx_j c_6
          refine lv_iconst (v := 0) hx hb dX9_count_26 (by decide) ?_
          refine lv_istore (lv' := [(5, .int 0), (4, .int x4), (3, .int x3), (0, .ref h0), (1, .int k), (2, .int vl)]) hx hb dX9_count_27 hl (by decide) rfl (fun ls hl => ?_)
          have loop_8 : ∀ (n : Nat) (i : Nat) (x5 : Int32) (z3 : Int32) (H : Heap) (locs : List Loc) (ls : Array Slot), (i ≤ 64) → (64 + 1 ≤ i + n) → (x5 = nI i) → va_P D vwCl [(m2, .inl (cI, 4, .inl gh)), (m3, .inl (cI, 16384, .inl gd)), (h0, .inr (9, [.ref m1, .ref m2, .ref m3, .int ik, .int wy, .int op, .int cl, .int cx0, .int cx1, .int cy0, .int cy1, .int ds, .ref m4, .ref m5, .ref m6, .ref m7, .ref m8, .ref m9, .int pn, .ref m10, .ref m11, .ref m12, .ref m13])), (m1, .inl (cI, 4, .inl gw))] H → va_D A [(m2, .inl (cI, 4, .inl gh)), (m3, .inl (cI, 16384, .inl gd)), (h0, .inr (9, [.ref m1, .ref m2, .ref m3, .int ik, .int wy, .int op, .int cl, .int cx0, .int cx1, .int cy0, .int cy1, .int ds, .ref m4, .ref m5, .ref m6, .ref m7, .ref m8, .ref m9, .int pn, .ref m10, .ref m11, .ref m12, .ref m13])), (m1, .inl (cI, 4, .inl gw))] → va_S A s.heap H locs → lv_has ls 6 [(5, .int x5), (4, .int x4), (3, .int z3), (0, .ref h0), (1, .int k), (2, .int vl)] → W p l e R s m ([.ref h0, .int k, .int vl] : List Value).toArray below meth c H locs 0 0 Q (F0 m 29 ls []) := by
            intro n
            induction n with
            | zero =>
              intro i x5 z3 H locs ls hi_i hm_i ex_i hP hD hS hl
              exact absurd (show False by omega) not_false
            | succ n ih_9 =>
              intro i x5 z3 H locs ls hi_i hm_i ex_i hP hD hS hl
              have hx_i : x5.toInt = (i : Int) := by rw [ex_i]; exact nI_toInt (by omega)
              have hc_i : x5.toNatClampNeg = i := by rw [ex_i]; exact nI_clamp (by omega)
              refine lv_iload hx hb dX9_count_29 (lv_at hl 0 rfl) ?_
              refine lv_aload_n hx hb dX9_count_31 rfl (lv_at hl 3 rfl) ?_
              refine va_get (D := D) (ci := 9) (v := .ref m1) (C := RX9) (T := TX9) (N := 23) hx hb hts hi_X9 hown hK hP 2 rfl rfl 0 (by decide) (hts _ bw_396) (fun _ h9 => h9) rfl dX9_count_32 ?_
              refine lv_iload_n hx hb dX9_count_35 rfl (lv_at hl 4 rfl) ?_
              refine va_iald hx hb hK hP 3 0 rfl rfl (vp_in_iff.mpr ⟨by omega, by omega⟩) dX9_count_36 ?_
              refine lv_icmp_ge (tgt := 71) hx hb dX9_count_37 (by decide) (fun c_10 => ?_) (fun c_10 => ?_)
              · skip
                have f_11 : (gw k.toNatClampNeg).toInt ≤ (i : Int) := f_le rfl hx_i c_10
                obtain ⟨y_12, ey_12⟩ : ∃ y : Int32, y = x4 + 1 := ⟨_, rfl⟩
                refine lv_iinc (v := y_12) (lv' := [(4, .int y_12), (5, .int x5), (3, .int z3), (0, .ref h0), (1, .int k), (2, .int vl)]) hx hb dX9_count_71 hl (k := 1) rfl (by rw [ey_12]; rfl) (by decide) rfl (fun ls hl => ?_)
                refine lv_goto (tgt := 15) hx hb dX9_count_74 (by decide) ?_
                exact ih_5 (j + 1) y_12 z3 _ _ _ (by omega) (by omega) (by rw [ey_12, ex_j]; exact nI_1 j) (hP.sub (ws' := [(m2, .inl (cI, 4, .inl gh)), (m3, .inl (cI, 16384, .inl gd)), (h0, .inr (9, [.ref m1, .ref m2, .ref m3, .int ik, .int wy, .int op, .int cl, .int cx0, .int cx1, .int cy0, .int cy1, .int ds, .ref m4, .ref m5, .ref m6, .ref m7, .ref m8, .ref m9, .int pn, .ref m10, .ref m11, .ref m12, .ref m13])), (m1, .inl (cI, 4, .inl gw))]) [0, 1, 2, 3] rfl) (hD.sub (ws' := [(m2, .inl (cI, 4, .inl gh)), (m3, .inl (cI, 16384, .inl gd)), (h0, .inr (9, [.ref m1, .ref m2, .ref m3, .int ik, .int wy, .int op, .int cl, .int cx0, .int cx1, .int cy0, .int cy1, .int ds, .ref m4, .ref m5, .ref m6, .ref m7, .ref m8, .ref m9, .int pn, .ref m10, .ref m11, .ref m12, .ref m13])), (m1, .inl (cI, 4, .inl gw))]) [0, 1, 2, 3] (by decide) rfl) hS (lv_sub hl [0, 2, 3, 4, 5] rfl)
              · skip
                have f_11 : ¬ ((gw k.toNatClampNeg).toInt ≤ (i : Int)) := fn_le rfl hx_i c_10
                refine lv_iload_n hx hb dX9_count_40 rfl (lv_at hl 2 rfl) ?_
                refine lv_aload_n hx hb dX9_count_41 rfl (lv_at hl 3 rfl) ?_
                refine va_get (D := D) (ci := 9) (v := .ref m3) (C := RX9) (T := TX9) (N := 23) hx hb hts hi_X9 hown hK hP 2 rfl rfl 2 (by decide) (hts _ bw_398) (fun _ h9 => h9) rfl dX9_count_42 ?_
                refine lv_iload_n hx hb dX9_count_45 rfl (lv_at hl 4 rfl) ?_
                refine lv_iload hx hb dX9_count_46 (lv_at hl 0 rfl) ?_
                refine lv_iload hx hb dX9_count_48 (lv_at hl 1 rfl) ?_
                have hPc := hP.sub (ws' := []) [] rfl
                have hDc := hD.sub (ws' := []) [] (by decide) rfl
                have hKc := hK.sub (tys' := []) [] rfl
                have hFc := va_free (wc := []) hD hS hA [] rfl
                refine va_calli (va_runS (As := [.int k, .int x5, .int x4]) (rest := [.ref m3, .int z3]) ⟨hx, hb, hml, hown, hts⟩ (k_X9_spot l D H.size k x5 x4) (va_cwS 3 hts (gS bw_551 bw_421 bw_391 bw_420) rfl rfl rfl (by decide +kernel) ⟨(by rw [hR]; exact Nat.le_of_ble_eq_true rfl), (by rw [hR]; exact Nat.le_of_ble_eq_true rfl)⟩) ⟨cP_blind, cP_at hPc hKc hDc hN⟩ rfl rfl hl.1 rfl (lv_room (Nat.le_of_ble_eq_true rfl)) dX9_count_50 ⟨(by rw [hR]; exact Nat.le_of_ble_eq_true rfl), (by rw [hR]; exact Nat.le_of_ble_eq_true rfl)⟩) hS (fun q _ h => hFc q h) hFc (fun r_13 u9 t9 H1 locs ht hvm hr_13 hB hz1 hk1 hS => ?_)
                try dsimp only at hr_13
                have hP1 : va_P D vwCl [] H1 := vP_nil
                have hD1 : va_D (va_A [] H.size) [] := vD_nil
                obtain ⟨hP, hD⟩ := va_join (wr := [(m2, .inl (cI, 4, .inl gh)), (m3, .inl (cI, 16384, .inl gd)), (h0, .inr (9, [.ref m1, .ref m2, .ref m3, .int ik, .int wy, .int op, .int cl, .int cx0, .int cx1, .int cy0, .int cy1, .int ds, .ref m4, .ref m5, .ref m6, .ref m7, .ref m8, .ref m9, .int pn, .ref m10, .ref m11, .ref m12, .ref m13])), (m1, .inl (cI, 4, .inl gw))]) (w1 := []) hP hD [] [0, 1, 2, 3] rfl rfl (by decide) (by decide) hk1 hFc hP1 hD1
                clear hz1 hk1 hFc hKc hDc hPc
                generalize H1 = H at hP hS ⊢
                have hP : va_P D vwCl [(m2, .inl (cI, 4, .inl gh)), (m3, .inl (cI, 16384, .inl gd)), (h0, .inr (9, [.ref m1, .ref m2, .ref m3, .int ik, .int wy, .int op, .int cl, .int cx0, .int cx1, .int cy0, .int cy1, .int ds, .ref m4, .ref m5, .ref m6, .ref m7, .ref m8, .ref m9, .int pn, .ref m10, .ref m11, .ref m12, .ref m13])), (m1, .inl (cI, 4, .inl gw))] H := hP
                have hD : va_D A [(m2, .inl (cI, 4, .inl gh)), (m3, .inl (cI, 16384, .inl gd)), (h0, .inr (9, [.ref m1, .ref m2, .ref m3, .int ik, .int wy, .int op, .int cl, .int cx0, .int cx1, .int cy0, .int cy1, .int ds, .ref m4, .ref m5, .ref m6, .ref m7, .ref m8, .ref m9, .int pn, .ref m10, .ref m11, .ref m12, .ref m13])), (m1, .inl (cI, 4, .inl gw))] := hD
                refine va_iald hx hb hK hP 1 0 rfl rfl (by rw [hr_13]; exact sp_in (by omega) (by omega) (by omega) (by omega) (by omega) (by omega)) dX9_count_53 ?_
                refine lv_topi (fun y_14 ey_14 => ?_)
                refine lv_iload_n hx hb dX9_count_54 rfl (lv_at hl 5 rfl) ?_
                refine lv_icmp_ne (tgt := 62) hx hb dX9_count_55 (by decide) (fun c_15 => ?_) (fun c_15 => ?_)
                · skip
                  have f_16 : ¬ (y_14.toInt = vl.toInt) := fn_eq rfl rfl c_15
                  refine lv_iconst (v := 0) hx hb dX9_count_62 (by decide) ?_
                  refine lv_iadd hx hb dX9_count_63 ?_
                  refine lv_topi (fun y_17 ey_17 => ?_)
                  refine lv_istore_n (lv' := [(3, .int y_17), (5, .int x5), (4, .int x4), (0, .ref h0), (1, .int k), (2, .int vl)]) hx hb dX9_count_64 rfl hl (by decide) rfl (fun ls hl => ?_)
                  obtain ⟨y_18, ey_18⟩ : ∃ y : Int32, y = x5 + 1 := ⟨_, rfl⟩
                  refine lv_iinc (v := y_18) (lv' := [(5, .int y_18), (3, .int y_17), (4, .int x4), (0, .ref h0), (1, .int k), (2, .int vl)]) hx hb dX9_count_65 hl (k := 1) rfl (by rw [ey_18]; rfl) (by decide) rfl (fun ls hl => ?_)
                  refine lv_goto (tgt := 29) hx hb dX9_count_68 (by decide) ?_
                  exact ih_9 (i + 1) y_18 y_17 _ _ _ (by omega) (by omega) (by rw [ey_18, ex_i]; exact nI_1 i) (hP.sub (ws' := [(m2, .inl (cI, 4, .inl gh)), (m3, .inl (cI, 16384, .inl gd)), (h0, .inr (9, [.ref m1, .ref m2, .ref m3, .int ik, .int wy, .int op, .int cl, .int cx0, .int cx1, .int cy0, .int cy1, .int ds, .ref m4, .ref m5, .ref m6, .ref m7, .ref m8, .ref m9, .int pn, .ref m10, .ref m11, .ref m12, .ref m13])), (m1, .inl (cI, 4, .inl gw))]) [0, 1, 2, 3] rfl) (hD.sub (ws' := [(m2, .inl (cI, 4, .inl gh)), (m3, .inl (cI, 16384, .inl gd)), (h0, .inr (9, [.ref m1, .ref m2, .ref m3, .int ik, .int wy, .int op, .int cl, .int cx0, .int cx1, .int cy0, .int cy1, .int ds, .ref m4, .ref m5, .ref m6, .ref m7, .ref m8, .ref m9, .int pn, .ref m10, .ref m11, .ref m12, .ref m13])), (m1, .inl (cI, 4, .inl gw))]) [0, 1, 2, 3] (by decide) rfl) hS (lv_sub hl [0, 2, 1, 3, 4, 5] rfl)
                · skip
                  have f_16 : y_14.toInt = vl.toInt := f_eq rfl rfl c_15
                  refine lv_iconst (v := 1) hx hb dX9_count_58 (by decide) ?_
                  refine lv_goto (tgt := 63) hx hb dX9_count_59 (by decide) ?_
                  refine lv_iadd hx hb dX9_count_63 ?_
                  refine lv_topi (fun y_19 ey_19 => ?_)
                  refine lv_istore_n (lv' := [(3, .int y_19), (5, .int x5), (4, .int x4), (0, .ref h0), (1, .int k), (2, .int vl)]) hx hb dX9_count_64 rfl hl (by decide) rfl (fun ls hl => ?_)
                  obtain ⟨y_20, ey_20⟩ : ∃ y : Int32, y = x5 + 1 := ⟨_, rfl⟩
                  refine lv_iinc (v := y_20) (lv' := [(5, .int y_20), (3, .int y_19), (4, .int x4), (0, .ref h0), (1, .int k), (2, .int vl)]) hx hb dX9_count_65 hl (k := 1) rfl (by rw [ey_20]; rfl) (by decide) rfl (fun ls hl => ?_)
                  refine lv_goto (tgt := 29) hx hb dX9_count_68 (by decide) ?_
                  exact ih_9 (i + 1) y_20 y_19 _ _ _ (by omega) (by omega) (by rw [ey_20, ex_i]; exact nI_1 i) (hP.sub (ws' := [(m2, .inl (cI, 4, .inl gh)), (m3, .inl (cI, 16384, .inl gd)), (h0, .inr (9, [.ref m1, .ref m2, .ref m3, .int ik, .int wy, .int op, .int cl, .int cx0, .int cx1, .int cy0, .int cy1, .int ds, .ref m4, .ref m5, .ref m6, .ref m7, .ref m8, .ref m9, .int pn, .ref m10, .ref m11, .ref m12, .ref m13])), (m1, .inl (cI, 4, .inl gw))]) [0, 1, 2, 3] rfl) (hD.sub (ws' := [(m2, .inl (cI, 4, .inl gh)), (m3, .inl (cI, 16384, .inl gd)), (h0, .inr (9, [.ref m1, .ref m2, .ref m3, .int ik, .int wy, .int op, .int cl, .int cx0, .int cx1, .int cy0, .int cy1, .int ds, .ref m4, .ref m5, .ref m6, .ref m7, .ref m8, .ref m9, .int pn, .ref m10, .ref m11, .ref m12, .ref m13])), (m1, .inl (cI, 4, .inl gw))]) [0, 1, 2, 3] (by decide) rfl) hS (lv_sub hl [0, 2, 1, 3, 4, 5] rfl)
          exact loop_8 (64 + 1) 0 0 x3 _ _ _ (by omega) (by omega) nI_0.symm hP hD hS (lv_sub hl [0, 1, 2, 3, 4, 5] rfl)
    exact loop_4 (64 + 1) 0 0 0 _ _ _ (by omega) (by omega) nI_0.symm hP hD hS (lv_sub hl [0, 1, 2, 3, 4] rfl)
  · skip
    have f_3 := bz0 hr_1 c_2
    refine lv_iconst (v := (-1)) hx hb dX9_count_8 (by decide) ?_
    have hP9 := hP.sub (ws' := [(h0, .inr (9, [.ref m1, .ref m2, .ref m3, .int ik, .int wy, .int op, .int cl, .int cx0, .int cx1, .int cy0, .int cy1, .int ds, .ref m4, .ref m5, .ref m6, .ref m7, .ref m8, .ref m9, .int pn, .ref m10, .ref m11, .ref m12, .ref m13])), (m1, .inl (cI, 4, .inl gw)), (m2, .inl (cI, 4, .inl gh)), (m3, .inl (cI, 16384, .inl gd))]) [2, 3, 0, 1] rfl
    have hD9 := hD.sub (ws' := [(h0, .inr (9, [.ref m1, .ref m2, .ref m3, .int ik, .int wy, .int op, .int cl, .int cx0, .int cx1, .int cy0, .int cy1, .int ds, .ref m4, .ref m5, .ref m6, .ref m7, .ref m8, .ref m9, .int pn, .ref m10, .ref m11, .ref m12, .ref m13])), (m1, .inl (cI, 4, .inl gw)), (m2, .inl (cI, 4, .inl gh)), (m3, .inl (cI, 16384, .inl gd))]) [2, 3, 0, 1] (by decide) rfl
    have hK9 := hK.sub (tys' := [(cI, .int)]) [0] rfl
    refine hQ _ _ _ _ _ ?_
    exact W.iret (v := (-1)) hx hb hr (fun t ht hW => ⟨⟨(-1), (), rfl, trivial, ⟨by rw [ht]; exact hP9, va_K.moved hW.alike hK9, hD9⟩⟩, hS.F ht⟩) hS.2.2 dX9_count_9

set_option maxHeartbeats 4000000 in
set_option maxRecDepth 100000 in
theorem k_X9_differ (l : Launch) (D : va_G) (sz : Nat) (h0 m1 m2 m3 m4 m5 m6 m7 m8 m9 m10 m11 m12 m13 : Nat) (ik wy op cl cx0 cx1 cy0 cy1 ds pn : Int32) (gw : Nat → Int32) (gh : Nat → Int32) (gd : Nat → Int32) (k kq : Int32) (cI : ClassId) (hG : ∀ j : Nat, j < 4 → (gw j).toInt ≤ 64 ∧ (gh j).toInt ≤ 64) : Met l yX9_differ (wB yX9_differ cX9_differ 6 (some .int)) ({ frames := 1, cells := 0, slots := 0, locals := 22 }) (cP D [(h0, .inr (9, [.ref m1, .ref m2, .ref m3, .int ik, .int wy, .int op, .int cl, .int cx0, .int cx1, .int cy0, .int cy1, .int ds, .ref m4, .ref m5, .ref m6, .ref m7, .ref m8, .ref m9, .int pn, .ref m10, .ref m11, .ref m12, .ref m13])), (m1, .inl (cI, 4, .inl gw)), (m2, .inl (cI, 4, .inl gh)), (m3, .inl (cI, 16384, .inl gd))] [(cI, .int)] sz [.ref h0, .int k, .int kq]) (va_Qi (fun (r : Int32) (_ : Unit) => True) (fun (_ : Unit) (t : State) => cB D (va_A [(h0, .inr (9, [.ref m1, .ref m2, .ref m3, .int ik, .int wy, .int op, .int cl, .int cx0, .int cx1, .int cy0, .int cy1, .int ds, .ref m4, .ref m5, .ref m6, .ref m7, .ref m8, .ref m9, .int pn, .ref m10, .ref m11, .ref m12, .ref m13])), (m1, .inl (cI, 4, .inl gw)), (m2, .inl (cI, 4, .inl gh)), (m3, .inl (cI, 16384, .inl gd))] sz) [(h0, .inr (9, [.ref m1, .ref m2, .ref m3, .int ik, .int wy, .int op, .int cl, .int cx0, .int cx1, .int cy0, .int cy1, .int ds, .ref m4, .ref m5, .ref m6, .ref m7, .ref m8, .ref m9, .int pn, .ref m10, .ref m11, .ref m12, .ref m13])), (m1, .inl (cI, 4, .inl gw)), (m2, .inl (cI, 4, .inl gh)), (m3, .inl (cI, 16384, .inl gd))] [(cI, .int)] t) (va_A [(h0, .inr (9, [.ref m1, .ref m2, .ref m3, .int ik, .int wy, .int op, .int cl, .int cx0, .int cx1, .int cy0, .int cy1, .int ds, .ref m4, .ref m5, .ref m6, .ref m7, .ref m8, .ref m9, .int pn, .ref m10, .ref m11, .ref m12, .ref m13])), (m1, .inl (cI, 4, .inl gw)), (m2, .inl (cI, 4, .inl gh)), (m3, .inl (cI, 16384, .inl gd))] sz)) 0 0 (va_A [(h0, .inr (9, [.ref m1, .ref m2, .ref m3, .int ik, .int wy, .int op, .int cl, .int cx0, .int cx1, .int cy0, .int cy1, .int ds, .ref m4, .ref m5, .ref m6, .ref m7, .ref m8, .ref m9, .int pn, .ref m10, .ref m11, .ref m12, .ref m13])), (m1, .inl (cI, 4, .inl gw)), (m2, .inl (cI, 4, .inl gh)), (m3, .inl (cI, 16384, .inl gd))] sz) := by
  refine Met.ofW (cc := cX9_differ) (maxL := 6) (ret := (some .int)) (by decide) rfl ?_
  intro p e s m args below meth c s₁ B hml hv
  obtain ⟨rfl, hsz, hP, hK, hD0, hN⟩ := hv
  have hx := B.exec
  have hb := B.bytes
  have hr := B.returns
  have hts0 := atoms_spec (ws := (wB yX9_differ cX9_differ 6 (some .int))) B.pre
  have hts : ∀ w ∈ bigW, w.before _ s = true := fun w h => hts0 w (List.mem_cons_of_mem _ h)
  have hown : s.vm.findClass RX9 = some m.cls := findClass_of_methodNamed B.named
  have hlocks := B.notSynchronized
  subst hsz
  have hD := hD0.self (sz := s.heap.size)
  generalize hAe : va_A [(h0, .inr (9, [.ref m1, .ref m2, .ref m3, .int ik, .int wy, .int op, .int cl, .int cx0, .int cx1, .int cy0, .int cy1, .int ds, .ref m4, .ref m5, .ref m6, .ref m7, .ref m8, .ref m9, .int pn, .ref m10, .ref m11, .ref m12, .ref m13])), (m1, .inl (cI, 4, .inl gw)), (m2, .inl (cI, 4, .inl gh)), (m3, .inl (cI, 16384, .inl gd))] s.heap.size = A at hD ⊢
  have hA : ∀ q : Nat, s.heap.size ≤ q → A q := fun q h => by rw [← hAe]; exact Or.inr h
  have hS : va_S A s.heap s.heap [] := va_S.rf
  have hP : va_P D vwCl [(h0, .inr (9, [.ref m1, .ref m2, .ref m3, .int ik, .int wy, .int op, .int cl, .int cx0, .int cx1, .int cy0, .int cy1, .int ds, .ref m4, .ref m5, .ref m6, .ref m7, .ref m8, .ref m9, .int pn, .ref m10, .ref m11, .ref m12, .ref m13])), (m1, .inl (cI, 4, .inl gw)), (m2, .inl (cI, 4, .inl gh)), (m3, .inl (cI, 16384, .inl gd))] s.heap := hP
  have hl := lv_entry ([.ref h0, .int k, .int kq]) (n := 6) (Nat.le_of_ble_eq_true rfl)
  rw [lg_entry_eq]
  generalize (lg_sl ([.ref h0, .int k, .int kq]) ++ List.replicate (6 - (lg_sl ([.ref h0, .int k, .int kq])).length) Slot.unset).toArray = ls at hl ⊢
  have hl : lv_has ls 6 [(0, .ref h0), (1, .int k), (2, .int kq)] := hl
  clear hts0 hD0 hAe
  refine my_abs (fun R Q hR hQ => ?_)
  refine lv_aload_n hx hb dX9_differ_0 rfl (lv_at hl 0 rfl) ?_
  refine lv_iload_n hx hb dX9_differ_1 rfl (lv_at hl 1 rfl) ?_
  have hPc := hP.sub (ws' := [(h0, .inr (9, [.ref m1, .ref m2, .ref m3, .int ik, .int wy, .int op, .int cl, .int cx0, .int cx1, .int cy0, .int cy1, .int ds, .ref m4, .ref m5, .ref m6, .ref m7, .ref m8, .ref m9, .int pn, .ref m10, .ref m11, .ref m12, .ref m13])), (m1, .inl (cI, 4, .inl gw))]) [0, 1] rfl
  have hDc := hD.sub (ws' := [(h0, .inr (9, [.ref m1, .ref m2, .ref m3, .int ik, .int wy, .int op, .int cl, .int cx0, .int cx1, .int cy0, .int cy1, .int ds, .ref m4, .ref m5, .ref m6, .ref m7, .ref m8, .ref m9, .int pn, .ref m10, .ref m11, .ref m12, .ref m13])), (m1, .inl (cI, 4, .inl gw))]) [0, 1] (by decide) rfl
  have hKc := hK.sub (tys' := [(cI, .int)]) [0] rfl
  have hFc := va_free (wc := [(h0, .inr (9, [.ref m1, .ref m2, .ref m3, .int ik, .int wy, .int op, .int cl, .int cx0, .int cx1, .int cy0, .int cy1, .int ds, .ref m4, .ref m5, .ref m6, .ref m7, .ref m8, .ref m9, .int pn, .ref m10, .ref m11, .ref m12, .ref m13])), (m1, .inl (cI, 4, .inl gw))]) hD hS hA [0, 1] rfl
  refine va_calli (va_runV (As := [.int k]) (rest := []) ⟨hx, hb, hml, hown, hts⟩ (k_X9_isSheet l D s.heap.size h0 m1 m2 m3 m4 m5 m6 m7 m8 m9 m10 m11 m12 m13 ik wy op cl cx0 cx1 cy0 cy1 ds pn gw k cI) (cwV 1 hts (gV bw_490 bw_415 bw_416 bw_391 bw_414) rfl rfl rfl (by decide +kernel) ⟨(by rw [hR]; exact Nat.le_of_ble_eq_true rfl), (by rw [hR]; exact Nat.le_of_ble_eq_true rfl)⟩) ⟨cP_blind, va_recv hKc hPc (ci := 9) (q0 := 0) rfl rfl, cP_at hPc hKc hDc hN⟩ rfl rfl hl.1 rfl (lv_room (Nat.le_of_ble_eq_true rfl)) dX9_differ_2 ⟨(by rw [hR]; exact Nat.le_of_ble_eq_true rfl), (by rw [hR]; exact Nat.le_of_ble_eq_true rfl)⟩) hS (fun q _ h => hFc q h) hFc (fun r_1 u9 t9 H1 locs ht hvm hr_1 hB hz1 hk1 hS => ?_)
  try dsimp only at hr_1
  obtain ⟨hP1, hK1, hD1⟩ := hB
  rw [ht] at hP1
  obtain ⟨hP, hD⟩ := va_join (wr := [(m2, .inl (cI, 4, .inl gh)), (m3, .inl (cI, 16384, .inl gd))]) (w1 := [(h0, .inr (9, [.ref m1, .ref m2, .ref m3, .int ik, .int wy, .int op, .int cl, .int cx0, .int cx1, .int cy0, .int cy1, .int ds, .ref m4, .ref m5, .ref m6, .ref m7, .ref m8, .ref m9, .int pn, .ref m10, .ref m11, .ref m12, .ref m13])), (m1, .inl (cI, 4, .inl gw))]) hP hD [0, 1] [2, 3] rfl rfl (by decide) (by decide) hk1 hFc hP1 hD1
  clear hz1 hk1 hFc hKc hDc hPc
  generalize H1 = H at hP hS ⊢
  have hP : va_P D vwCl [(m2, .inl (cI, 4, .inl gh)), (m3, .inl (cI, 16384, .inl gd)), (h0, .inr (9, [.ref m1, .ref m2, .ref m3, .int ik, .int wy, .int op, .int cl, .int cx0, .int cx1, .int cy0, .int cy1, .int ds, .ref m4, .ref m5, .ref m6, .ref m7, .ref m8, .ref m9, .int pn, .ref m10, .ref m11, .ref m12, .ref m13])), (m1, .inl (cI, 4, .inl gw))] H := hP
  have hD : va_D A [(m2, .inl (cI, 4, .inl gh)), (m3, .inl (cI, 16384, .inl gd)), (h0, .inr (9, [.ref m1, .ref m2, .ref m3, .int ik, .int wy, .int op, .int cl, .int cx0, .int cx1, .int cy0, .int cy1, .int ds, .ref m4, .ref m5, .ref m6, .ref m7, .ref m8, .ref m9, .int pn, .ref m10, .ref m11, .ref m12, .ref m13])), (m1, .inl (cI, 4, .inl gw))] := hD
  refine lv_if_eq (tgt := 46) hx hb dX9_differ_5 (by decide) (fun c_2 => ?_) (fun c_2 => ?_)
  · skip
    have f_3 := bz0 hr_1 c_2
    refine lv_iconst (v := (-1)) hx hb dX9_differ_46 (by decide) ?_
    have hP9 := hP.sub (ws' := [(h0, .inr (9, [.ref m1, .ref m2, .ref m3, .int ik, .int wy, .int op, .int cl, .int cx0, .int cx1, .int cy0, .int cy1, .int ds, .ref m4, .ref m5, .ref m6, .ref m7, .ref m8, .ref m9, .int pn, .ref m10, .ref m11, .ref m12, .ref m13])), (m1, .inl (cI, 4, .inl gw)), (m2, .inl (cI, 4, .inl gh)), (m3, .inl (cI, 16384, .inl gd))]) [2, 3, 0, 1] rfl
    have hD9 := hD.sub (ws' := [(h0, .inr (9, [.ref m1, .ref m2, .ref m3, .int ik, .int wy, .int op, .int cl, .int cx0, .int cx1, .int cy0, .int cy1, .int ds, .ref m4, .ref m5, .ref m6, .ref m7, .ref m8, .ref m9, .int pn, .ref m10, .ref m11, .ref m12, .ref m13])), (m1, .inl (cI, 4, .inl gw)), (m2, .inl (cI, 4, .inl gh)), (m3, .inl (cI, 16384, .inl gd))]) [2, 3, 0, 1] (by decide) rfl
    have hK9 := hK.sub (tys' := [(cI, .int)]) [0] rfl
    refine hQ _ _ _ _ _ ?_
    exact W.iret (v := (-1)) hx hb hr (fun t ht hW => ⟨⟨(-1), (), rfl, trivial, ⟨by rw [ht]; exact hP9, va_K.moved hW.alike hK9, hD9⟩⟩, hS.F ht⟩) hS.2.2 dX9_differ_47
  · skip
    have f_3 := bz1 hr_1 c_2
    have hkn_k : k.toNatClampNeg < 4 := cl_lt (by omega) (by omega)
    have hgk_k := hG _ hkn_k
    refine lv_aload_n hx hb dX9_differ_8 rfl (lv_at hl 0 rfl) ?_
    refine lv_iload_n hx hb dX9_differ_9 rfl (lv_at hl 2 rfl) ?_
    have hPc := hP.sub (ws' := [(h0, .inr (9, [.ref m1, .ref m2, .ref m3, .int ik, .int wy, .int op, .int cl, .int cx0, .int cx1, .int cy0, .int cy1, .int ds, .ref m4, .ref m5, .ref m6, .ref m7, .ref m8, .ref m9, .int pn, .ref m10, .ref m11, .ref m12, .ref m13])), (m1, .inl (cI, 4, .inl gw))]) [2, 3] rfl
    have hDc := hD.sub (ws' := [(h0, .inr (9, [.ref m1, .ref m2, .ref m3, .int ik, .int wy, .int op, .int cl, .int cx0, .int cx1, .int cy0, .int cy1, .int ds, .ref m4, .ref m5, .ref m6, .ref m7, .ref m8, .ref m9, .int pn, .ref m10, .ref m11, .ref m12, .ref m13])), (m1, .inl (cI, 4, .inl gw))]) [2, 3] (by decide) rfl
    have hKc := hK.sub (tys' := [(cI, .int)]) [0] rfl
    have hFc := va_free (wc := [(h0, .inr (9, [.ref m1, .ref m2, .ref m3, .int ik, .int wy, .int op, .int cl, .int cx0, .int cx1, .int cy0, .int cy1, .int ds, .ref m4, .ref m5, .ref m6, .ref m7, .ref m8, .ref m9, .int pn, .ref m10, .ref m11, .ref m12, .ref m13])), (m1, .inl (cI, 4, .inl gw))]) hD hS hA [2, 3] rfl
    refine va_calli (va_runV (As := [.int kq]) (rest := []) ⟨hx, hb, hml, hown, hts⟩ (k_X9_isSheet l D H.size h0 m1 m2 m3 m4 m5 m6 m7 m8 m9 m10 m11 m12 m13 ik wy op cl cx0 cx1 cy0 cy1 ds pn gw kq cI) (cwV 1 hts (gV bw_490 bw_415 bw_416 bw_391 bw_414) rfl rfl rfl (by decide +kernel) ⟨(by rw [hR]; exact Nat.le_of_ble_eq_true rfl), (by rw [hR]; exact Nat.le_of_ble_eq_true rfl)⟩) ⟨cP_blind, va_recv hKc hPc (ci := 9) (q0 := 0) rfl rfl, cP_at hPc hKc hDc hN⟩ rfl rfl hl.1 rfl (lv_room (Nat.le_of_ble_eq_true rfl)) dX9_differ_10 ⟨(by rw [hR]; exact Nat.le_of_ble_eq_true rfl), (by rw [hR]; exact Nat.le_of_ble_eq_true rfl)⟩) hS (fun q _ h => hFc q h) hFc (fun r_4 u9 t9 H1 locs ht hvm hr_4 hB hz1 hk1 hS => ?_)
    try dsimp only at hr_4
    obtain ⟨hP1, hK1, hD1⟩ := hB
    rw [ht] at hP1
    obtain ⟨hP, hD⟩ := va_join (wr := [(m2, .inl (cI, 4, .inl gh)), (m3, .inl (cI, 16384, .inl gd))]) (w1 := [(h0, .inr (9, [.ref m1, .ref m2, .ref m3, .int ik, .int wy, .int op, .int cl, .int cx0, .int cx1, .int cy0, .int cy1, .int ds, .ref m4, .ref m5, .ref m6, .ref m7, .ref m8, .ref m9, .int pn, .ref m10, .ref m11, .ref m12, .ref m13])), (m1, .inl (cI, 4, .inl gw))]) hP hD [2, 3] [0, 1] rfl rfl (by decide) (by decide) hk1 hFc hP1 hD1
    clear hz1 hk1 hFc hKc hDc hPc
    generalize H1 = H at hP hS ⊢
    have hP : va_P D vwCl [(m2, .inl (cI, 4, .inl gh)), (m3, .inl (cI, 16384, .inl gd)), (h0, .inr (9, [.ref m1, .ref m2, .ref m3, .int ik, .int wy, .int op, .int cl, .int cx0, .int cx1, .int cy0, .int cy1, .int ds, .ref m4, .ref m5, .ref m6, .ref m7, .ref m8, .ref m9, .int pn, .ref m10, .ref m11, .ref m12, .ref m13])), (m1, .inl (cI, 4, .inl gw))] H := hP
    have hD : va_D A [(m2, .inl (cI, 4, .inl gh)), (m3, .inl (cI, 16384, .inl gd)), (h0, .inr (9, [.ref m1, .ref m2, .ref m3, .int ik, .int wy, .int op, .int cl, .int cx0, .int cx1, .int cy0, .int cy1, .int ds, .ref m4, .ref m5, .ref m6, .ref m7, .ref m8, .ref m9, .int pn, .ref m10, .ref m11, .ref m12, .ref m13])), (m1, .inl (cI, 4, .inl gw))] := hD
    refine lv_if_eq (tgt := 46) hx hb dX9_differ_13 (by decide) (fun c_5 => ?_) (fun c_5 => ?_)
    · skip
      have f_6 := bz0 hr_4 c_5
      refine lv_iconst (v := (-1)) hx hb dX9_differ_46 (by decide) ?_
      have hP9 := hP.sub (ws' := [(h0, .inr (9, [.ref m1, .ref m2, .ref m3, .int ik, .int wy, .int op, .int cl, .int cx0, .int cx1, .int cy0, .int cy1, .int ds, .ref m4, .ref m5, .ref m6, .ref m7, .ref m8, .ref m9, .int pn, .ref m10, .ref m11, .ref m12, .ref m13])), (m1, .inl (cI, 4, .inl gw)), (m2, .inl (cI, 4, .inl gh)), (m3, .inl (cI, 16384, .inl gd))]) [2, 3, 0, 1] rfl
      have hD9 := hD.sub (ws' := [(h0, .inr (9, [.ref m1, .ref m2, .ref m3, .int ik, .int wy, .int op, .int cl, .int cx0, .int cx1, .int cy0, .int cy1, .int ds, .ref m4, .ref m5, .ref m6, .ref m7, .ref m8, .ref m9, .int pn, .ref m10, .ref m11, .ref m12, .ref m13])), (m1, .inl (cI, 4, .inl gw)), (m2, .inl (cI, 4, .inl gh)), (m3, .inl (cI, 16384, .inl gd))]) [2, 3, 0, 1] (by decide) rfl
      have hK9 := hK.sub (tys' := [(cI, .int)]) [0] rfl
      refine hQ _ _ _ _ _ ?_
      exact W.iret (v := (-1)) hx hb hr (fun t ht hW => ⟨⟨(-1), (), rfl, trivial, ⟨by rw [ht]; exact hP9, va_K.moved hW.alike hK9, hD9⟩⟩, hS.F ht⟩) hS.2.2 dX9_differ_47
    · skip
      have f_6 := bz1 hr_4 c_5
      have hkn_kq : kq.toNatClampNeg < 4 := cl_lt (by omega) (by omega)
      have hgk_kq := hG _ hkn_kq
      refine lv_aload_n hx hb dX9_differ_16 rfl (lv_at hl 0 rfl) ?_
      refine va_get (D := D) (ci := 9) (v := .ref m1) (C := RX9) (T := TX9) (N := 23) hx hb hts hi_X9 hown hK hP 2 rfl rfl 0 (by decide) (hts _ bw_396) (fun _ h9 => h9) rfl dX9_differ_17 ?_
      refine lv_iload_n hx hb dX9_differ_20 rfl (lv_at hl 1 rfl) ?_
      refine va_iald hx hb hK hP 3 0 rfl rfl (vp_in_iff.mpr ⟨by omega, by omega⟩) dX9_differ_21 ?_
      refine lv_aload_n hx hb dX9_differ_22 rfl (lv_at hl 0 rfl) ?_
      refine va_get (D := D) (ci := 9) (v := .ref m1) (C := RX9) (T := TX9) (N := 23) hx hb hts hi_X9 hown hK hP 2 rfl rfl 0 (by decide) (hts _ bw_396) (fun _ h9 => h9) rfl dX9_differ_23 ?_
      refine lv_iload_n hx hb dX9_differ_26 rfl (lv_at hl 2 rfl) ?_
      refine va_iald hx hb hK hP 3 0 rfl rfl (vp_in_iff.mpr ⟨by omega, by omega⟩) dX9_differ_27 ?_
      refine lv_icmp_ne (tgt := 46) hx hb dX9_differ_28 (by decide) (fun c_7 => ?_) (fun c_7 => ?_)
      · skip
        have f_8 : ¬ ((gw k.toNatClampNeg).toInt = (gw kq.toNatClampNeg).toInt) := fn_eq rfl rfl c_7
        refine lv_iconst (v := (-1)) hx hb dX9_differ_46 (by decide) ?_
        have hP9 := hP.sub (ws' := [(h0, .inr (9, [.ref m1, .ref m2, .ref m3, .int ik, .int wy, .int op, .int cl, .int cx0, .int cx1, .int cy0, .int cy1, .int ds, .ref m4, .ref m5, .ref m6, .ref m7, .ref m8, .ref m9, .int pn, .ref m10, .ref m11, .ref m12, .ref m13])), (m1, .inl (cI, 4, .inl gw)), (m2, .inl (cI, 4, .inl gh)), (m3, .inl (cI, 16384, .inl gd))]) [2, 3, 0, 1] rfl
        have hD9 := hD.sub (ws' := [(h0, .inr (9, [.ref m1, .ref m2, .ref m3, .int ik, .int wy, .int op, .int cl, .int cx0, .int cx1, .int cy0, .int cy1, .int ds, .ref m4, .ref m5, .ref m6, .ref m7, .ref m8, .ref m9, .int pn, .ref m10, .ref m11, .ref m12, .ref m13])), (m1, .inl (cI, 4, .inl gw)), (m2, .inl (cI, 4, .inl gh)), (m3, .inl (cI, 16384, .inl gd))]) [2, 3, 0, 1] (by decide) rfl
        have hK9 := hK.sub (tys' := [(cI, .int)]) [0] rfl
        refine hQ _ _ _ _ _ ?_
        exact W.iret (v := (-1)) hx hb hr (fun t ht hW => ⟨⟨(-1), (), rfl, trivial, ⟨by rw [ht]; exact hP9, va_K.moved hW.alike hK9, hD9⟩⟩, hS.F ht⟩) hS.2.2 dX9_differ_47
      · skip
        have f_8 : (gw k.toNatClampNeg).toInt = (gw kq.toNatClampNeg).toInt := f_eq rfl rfl c_7
        refine lv_aload_n hx hb dX9_differ_31 rfl (lv_at hl 0 rfl) ?_
        refine va_get (D := D) (ci := 9) (v := .ref m2) (C := RX9) (T := TX9) (N := 23) hx hb hts hi_X9 hown hK hP 2 rfl rfl 1 (by decide) (hts _ bw_397) (fun _ h9 => h9) rfl dX9_differ_32 ?_
        refine lv_iload_n hx hb dX9_differ_35 rfl (lv_at hl 1 rfl) ?_
        refine va_iald hx hb hK hP 0 0 rfl rfl (vp_in_iff.mpr ⟨by omega, by omega⟩) dX9_differ_36 ?_
        refine lv_aload_n hx hb dX9_differ_37 rfl (lv_at hl 0 rfl) ?_
        refine va_get (D := D) (ci := 9) (v := .ref m2) (C := RX9) (T := TX9) (N := 23) hx hb hts hi_X9 hown hK hP 2 rfl rfl 1 (by decide) (hts _ bw_397) (fun _ h9 => h9) rfl dX9_differ_38 ?_
        refine lv_iload_n hx hb dX9_differ_41 rfl (lv_at hl 2 rfl) ?_
        refine va_iald hx hb hK hP 0 0 rfl rfl (vp_in_iff.mpr ⟨by omega, by omega⟩) dX9_differ_42 ?_
        refine lv_icmp_eq (tgt := 48) hx hb dX9_differ_43 (by decide) (fun c_9 => ?_) (fun c_9 => ?_)
        · skip
          have f_10 : (gh k.toNatClampNeg).toInt = (gh kq.toNatClampNeg).toInt := f_eq rfl rfl c_9
          refine lv_iconst (v := 0) hx hb dX9_differ_48 (by decide) ?_
          refine lv_istore_n (lv' := [(3, .int 0), (0, .ref h0), (1, .int k), (2, .int kq)]) hx hb dX9_differ_49 rfl hl (by decide) rfl (fun ls hl => ?_)
          refine lv_iconst (v := 0) hx hb dX9_differ_50 (by decide) ?_
          refine lv_istore (lv' := [(4, .int 0), (3, .int 0), (0, .ref h0), (1, .int k), (2, .int kq)]) hx hb dX9_differ_51 hl (by decide) rfl (fun ls hl => ?_)
          have loop_11 : ∀ (n : Nat) (j : Nat) (x4 : Int32) (x3 : Int32) (H : Heap) (locs : List Loc) (ls : Array Slot), (j ≤ 64) → (64 + 1 ≤ j + n) → (x4 = nI j) → va_P D vwCl [(m2, .inl (cI, 4, .inl gh)), (m3, .inl (cI, 16384, .inl gd)), (h0, .inr (9, [.ref m1, .ref m2, .ref m3, .int ik, .int wy, .int op, .int cl, .int cx0, .int cx1, .int cy0, .int cy1, .int ds, .ref m4, .ref m5, .ref m6, .ref m7, .ref m8, .ref m9, .int pn, .ref m10, .ref m11, .ref m12, .ref m13])), (m1, .inl (cI, 4, .inl gw))] H → va_D A [(m2, .inl (cI, 4, .inl gh)), (m3, .inl (cI, 16384, .inl gd)), (h0, .inr (9, [.ref m1, .ref m2, .ref m3, .int ik, .int wy, .int op, .int cl, .int cx0, .int cx1, .int cy0, .int cy1, .int ds, .ref m4, .ref m5, .ref m6, .ref m7, .ref m8, .ref m9, .int pn, .ref m10, .ref m11, .ref m12, .ref m13])), (m1, .inl (cI, 4, .inl gw))] → va_S A s.heap H locs → lv_has ls 6 [(4, .int x4), (3, .int x3), (0, .ref h0), (1, .int k), (2, .int kq)] → W p l e R s m ([.ref h0, .int k, .int kq] : List Value).toArray below meth c H locs 0 0 Q (F0 m 53 ls []) := by
            intro n
            induction n with
            | zero =>
              intro j x4 x3 H locs ls hi_j hm_j ex_j hP hD hS hl
              exact absurd (show False by omega) not_false
            | succ n ih_12 =>
              intro j x4 x3 H locs ls hi_j hm_j ex_j hP hD hS hl
              have hx_j : x4.toInt = (j : Int) := by rw [ex_j]; exact nI_toInt (by omega)
              have hc_j : x4.toNatClampNeg = j := by rw [ex_j]; exact nI_clamp (by omega)
              refine lv_iload hx hb dX9_differ_53 (lv_at hl 0 rfl) ?_
              refine lv_aload_n hx hb dX9_differ_55 rfl (lv_at hl 2 rfl) ?_
              refine va_get (D := D) (ci := 9) (v := .ref m2) (C := RX9) (T := TX9) (N := 23) hx hb hts hi_X9 hown hK hP 2 rfl rfl 1 (by decide) (hts _ bw_397) (fun _ h9 => h9) rfl dX9_differ_56 ?_
              refine lv_iload_n hx hb dX9_differ_59 rfl (lv_at hl 3 rfl) ?_
              refine va_iald hx hb hK hP 0 0 rfl rfl (vp_in_iff.mpr ⟨by omega, by omega⟩) dX9_differ_60 ?_
              refine lv_icmp_ge (tgt := 127) hx hb dX9_differ_61 (by decide) (fun c_13 => ?_) (fun c_13 => ?_)
              · skip
                have f_14 : (gh k.toNatClampNeg).toInt ≤ (j : Int) := f_le rfl hx_j c_13
                refine lv_iload_n hx hb dX9_differ_127 rfl (lv_at hl 1 rfl) ?_
                have hP9 := hP.sub (ws' := [(h0, .inr (9, [.ref m1, .ref m2, .ref m3, .int ik, .int wy, .int op, .int cl, .int cx0, .int cx1, .int cy0, .int cy1, .int ds, .ref m4, .ref m5, .ref m6, .ref m7, .ref m8, .ref m9, .int pn, .ref m10, .ref m11, .ref m12, .ref m13])), (m1, .inl (cI, 4, .inl gw)), (m2, .inl (cI, 4, .inl gh)), (m3, .inl (cI, 16384, .inl gd))]) [2, 3, 0, 1] rfl
                have hD9 := hD.sub (ws' := [(h0, .inr (9, [.ref m1, .ref m2, .ref m3, .int ik, .int wy, .int op, .int cl, .int cx0, .int cx1, .int cy0, .int cy1, .int ds, .ref m4, .ref m5, .ref m6, .ref m7, .ref m8, .ref m9, .int pn, .ref m10, .ref m11, .ref m12, .ref m13])), (m1, .inl (cI, 4, .inl gw)), (m2, .inl (cI, 4, .inl gh)), (m3, .inl (cI, 16384, .inl gd))]) [2, 3, 0, 1] (by decide) rfl
                have hK9 := hK.sub (tys' := [(cI, .int)]) [0] rfl
                refine hQ _ _ _ _ _ ?_
                exact W.iret (v := x3) hx hb hr (fun t ht hW => ⟨⟨x3, (), rfl, trivial, ⟨by rw [ht]; exact hP9, va_K.moved hW.alike hK9, hD9⟩⟩, hS.F ht⟩) hS.2.2 dX9_differ_128
              · skip
                have f_14 : ¬ ((gh k.toNatClampNeg).toInt ≤ (j : Int)) := fn_le rfl hx_j c_13
                refine lv_iconst (v := 0) hx hb dX9_differ_64 (by decide) ?_
                refine lv_istore (lv' := [(5, .int 0), (4, .int x4), (3, .int x3), (0, .ref h0), (1, .int k), (2, .int kq)]) hx hb dX9_differ_65 hl (by decide) rfl (fun ls hl => ?_)
                have loop_15 : ∀ (n : Nat) (i : Nat) (x5 : Int32) (z3 : Int32) (H : Heap) (locs : List Loc) (ls : Array Slot), (i ≤ 64) → (64 + 1 ≤ i + n) → (x5 = nI i) → va_P D vwCl [(m2, .inl (cI, 4, .inl gh)), (m3, .inl (cI, 16384, .inl gd)), (h0, .inr (9, [.ref m1, .ref m2, .ref m3, .int ik, .int wy, .int op, .int cl, .int cx0, .int cx1, .int cy0, .int cy1, .int ds, .ref m4, .ref m5, .ref m6, .ref m7, .ref m8, .ref m9, .int pn, .ref m10, .ref m11, .ref m12, .ref m13])), (m1, .inl (cI, 4, .inl gw))] H → va_D A [(m2, .inl (cI, 4, .inl gh)), (m3, .inl (cI, 16384, .inl gd)), (h0, .inr (9, [.ref m1, .ref m2, .ref m3, .int ik, .int wy, .int op, .int cl, .int cx0, .int cx1, .int cy0, .int cy1, .int ds, .ref m4, .ref m5, .ref m6, .ref m7, .ref m8, .ref m9, .int pn, .ref m10, .ref m11, .ref m12, .ref m13])), (m1, .inl (cI, 4, .inl gw))] → va_S A s.heap H locs → lv_has ls 6 [(5, .int x5), (4, .int x4), (3, .int z3), (0, .ref h0), (1, .int k), (2, .int kq)] → W p l e R s m ([.ref h0, .int k, .int kq] : List Value).toArray below meth c H locs 0 0 Q (F0 m 67 ls []) := by
                  intro n
                  induction n with
                  | zero =>
                    intro i x5 z3 H locs ls hi_i hm_i ex_i hP hD hS hl
                    exact absurd (show False by omega) not_false
                  | succ n ih_16 =>
                    intro i x5 z3 H locs ls hi_i hm_i ex_i hP hD hS hl
                    have hx_i : x5.toInt = (i : Int) := by rw [ex_i]; exact nI_toInt (by omega)
                    have hc_i : x5.toNatClampNeg = i := by rw [ex_i]; exact nI_clamp (by omega)
                    refine lv_iload hx hb dX9_differ_67 (lv_at hl 0 rfl) ?_
                    refine lv_aload_n hx hb dX9_differ_69 rfl (lv_at hl 3 rfl) ?_
                    refine va_get (D := D) (ci := 9) (v := .ref m1) (C := RX9) (T := TX9) (N := 23) hx hb hts hi_X9 hown hK hP 2 rfl rfl 0 (by decide) (hts _ bw_396) (fun _ h9 => h9) rfl dX9_differ_70 ?_
                    refine lv_iload_n hx hb dX9_differ_73 rfl (lv_at hl 4 rfl) ?_
                    refine va_iald hx hb hK hP 3 0 rfl rfl (vp_in_iff.mpr ⟨by omega, by omega⟩) dX9_differ_74 ?_
                    refine lv_icmp_ge (tgt := 121) hx hb dX9_differ_75 (by decide) (fun c_17 => ?_) (fun c_17 => ?_)
                    · skip
                      have f_18 : (gw k.toNatClampNeg).toInt ≤ (i : Int) := f_le rfl hx_i c_17
                      obtain ⟨y_19, ey_19⟩ : ∃ y : Int32, y = x4 + 1 := ⟨_, rfl⟩
                      refine lv_iinc (v := y_19) (lv' := [(4, .int y_19), (5, .int x5), (3, .int z3), (0, .ref h0), (1, .int k), (2, .int kq)]) hx hb dX9_differ_121 hl (k := 1) rfl (by rw [ey_19]; rfl) (by decide) rfl (fun ls hl => ?_)
                      refine lv_goto (tgt := 53) hx hb dX9_differ_124 (by decide) ?_
                      exact ih_12 (j + 1) y_19 z3 _ _ _ (by omega) (by omega) (by rw [ey_19, ex_j]; exact nI_1 j) (hP.sub (ws' := [(m2, .inl (cI, 4, .inl gh)), (m3, .inl (cI, 16384, .inl gd)), (h0, .inr (9, [.ref m1, .ref m2, .ref m3, .int ik, .int wy, .int op, .int cl, .int cx0, .int cx1, .int cy0, .int cy1, .int ds, .ref m4, .ref m5, .ref m6, .ref m7, .ref m8, .ref m9, .int pn, .ref m10, .ref m11, .ref m12, .ref m13])), (m1, .inl (cI, 4, .inl gw))]) [0, 1, 2, 3] rfl) (hD.sub (ws' := [(m2, .inl (cI, 4, .inl gh)), (m3, .inl (cI, 16384, .inl gd)), (h0, .inr (9, [.ref m1, .ref m2, .ref m3, .int ik, .int wy, .int op, .int cl, .int cx0, .int cx1, .int cy0, .int cy1, .int ds, .ref m4, .ref m5, .ref m6, .ref m7, .ref m8, .ref m9, .int pn, .ref m10, .ref m11, .ref m12, .ref m13])), (m1, .inl (cI, 4, .inl gw))]) [0, 1, 2, 3] (by decide) rfl) hS (lv_sub hl [0, 2, 3, 4, 5] rfl)
                    · skip
                      have f_18 : ¬ ((gw k.toNatClampNeg).toInt ≤ (i : Int)) := fn_le rfl hx_i c_17
                      refine lv_iload_n hx hb dX9_differ_78 rfl (lv_at hl 2 rfl) ?_
                      refine lv_aload_n hx hb dX9_differ_79 rfl (lv_at hl 3 rfl) ?_
                      refine va_get (D := D) (ci := 9) (v := .ref m3) (C := RX9) (T := TX9) (N := 23) hx hb hts hi_X9 hown hK hP 2 rfl rfl 2 (by decide) (hts _ bw_398) (fun _ h9 => h9) rfl dX9_differ_80 ?_
                      refine lv_iload_n hx hb dX9_differ_83 rfl (lv_at hl 4 rfl) ?_
                      refine lv_iload hx hb dX9_differ_84 (lv_at hl 0 rfl) ?_
                      refine lv_iload hx hb dX9_differ_86 (lv_at hl 1 rfl) ?_
                      have hPc := hP.sub (ws' := []) [] rfl
                      have hDc := hD.sub (ws' := []) [] (by decide) rfl
                      have hKc := hK.sub (tys' := []) [] rfl
                      have hFc := va_free (wc := []) hD hS hA [] rfl
                      refine va_calli (va_runS (As := [.int k, .int x5, .int x4]) (rest := [.ref m3, .int z3]) ⟨hx, hb, hml, hown, hts⟩ (k_X9_spot l D H.size k x5 x4) (va_cwS 3 hts (gS bw_551 bw_421 bw_391 bw_420) rfl rfl rfl (by decide +kernel) ⟨(by rw [hR]; exact Nat.le_of_ble_eq_true rfl), (by rw [hR]; exact Nat.le_of_ble_eq_true rfl)⟩) ⟨cP_blind, cP_at hPc hKc hDc hN⟩ rfl rfl hl.1 rfl (lv_room (Nat.le_of_ble_eq_true rfl)) dX9_differ_88 ⟨(by rw [hR]; exact Nat.le_of_ble_eq_true rfl), (by rw [hR]; exact Nat.le_of_ble_eq_true rfl)⟩) hS (fun q _ h => hFc q h) hFc (fun r_20 u9 t9 H1 locs ht hvm hr_20 hB hz1 hk1 hS => ?_)
                      try dsimp only at hr_20
                      have hP1 : va_P D vwCl [] H1 := vP_nil
                      have hD1 : va_D (va_A [] H.size) [] := vD_nil
                      obtain ⟨hP, hD⟩ := va_join (wr := [(m2, .inl (cI, 4, .inl gh)), (m3, .inl (cI, 16384, .inl gd)), (h0, .inr (9, [.ref m1, .ref m2, .ref m3, .int ik, .int wy, .int op, .int cl, .int cx0, .int cx1, .int cy0, .int cy1, .int ds, .ref m4, .ref m5, .ref m6, .ref m7, .ref m8, .ref m9, .int pn, .ref m10, .ref m11, .ref m12, .ref m13])), (m1, .inl (cI, 4, .inl gw))]) (w1 := []) hP hD [] [0, 1, 2, 3] rfl rfl (by decide) (by decide) hk1 hFc hP1 hD1
                      clear hz1 hk1 hFc hKc hDc hPc
                      generalize H1 = H at hP hS ⊢
                      have hP : va_P D vwCl [(m2, .inl (cI, 4, .inl gh)), (m3, .inl (cI, 16384, .inl gd)), (h0, .inr (9, [.ref m1, .ref m2, .ref m3, .int ik, .int wy, .int op, .int cl, .int cx0, .int cx1, .int cy0, .int cy1, .int ds, .ref m4, .ref m5, .ref m6, .ref m7, .ref m8, .ref m9, .int pn, .ref m10, .ref m11, .ref m12, .ref m13])), (m1, .inl (cI, 4, .inl gw))] H := hP
                      have hD : va_D A [(m2, .inl (cI, 4, .inl gh)), (m3, .inl (cI, 16384, .inl gd)), (h0, .inr (9, [.ref m1, .ref m2, .ref m3, .int ik, .int wy, .int op, .int cl, .int cx0, .int cx1, .int cy0, .int cy1, .int ds, .ref m4, .ref m5, .ref m6, .ref m7, .ref m8, .ref m9, .int pn, .ref m10, .ref m11, .ref m12, .ref m13])), (m1, .inl (cI, 4, .inl gw))] := hD
                      refine va_iald hx hb hK hP 1 0 rfl rfl (by rw [hr_20]; exact sp_in (by omega) (by omega) (by omega) (by omega) (by omega) (by omega)) dX9_differ_91 ?_
                      refine lv_topi (fun y_21 ey_21 => ?_)
                      refine lv_aload_n hx hb dX9_differ_92 rfl (lv_at hl 3 rfl) ?_
                      refine va_get (D := D) (ci := 9) (v := .ref m3) (C := RX9) (T := TX9) (N := 23) hx hb hts hi_X9 hown hK hP 2 rfl rfl 2 (by decide) (hts _ bw_398) (fun _ h9 => h9) rfl dX9_differ_93 ?_
                      refine lv_iload_n hx hb dX9_differ_96 rfl (lv_at hl 5 rfl) ?_
                      refine lv_iload hx hb dX9_differ_97 (lv_at hl 0 rfl) ?_
                      refine lv_iload hx hb dX9_differ_99 (lv_at hl 1 rfl) ?_
                      have hPc := hP.sub (ws' := []) [] rfl
                      have hDc := hD.sub (ws' := []) [] (by decide) rfl
                      have hKc := hK.sub (tys' := []) [] rfl
                      have hFc := va_free (wc := []) hD hS hA [] rfl
                      refine va_calli (va_runS (As := [.int kq, .int x5, .int x4]) (rest := [.ref m3, .int y_21, .int z3]) ⟨hx, hb, hml, hown, hts⟩ (k_X9_spot l D H.size kq x5 x4) (va_cwS 3 hts (gS bw_551 bw_421 bw_391 bw_420) rfl rfl rfl (by decide +kernel) ⟨(by rw [hR]; exact Nat.le_of_ble_eq_true rfl), (by rw [hR]; exact Nat.le_of_ble_eq_true rfl)⟩) ⟨cP_blind, cP_at hPc hKc hDc hN⟩ rfl rfl hl.1 rfl (lv_room (Nat.le_of_ble_eq_true rfl)) dX9_differ_101 ⟨(by rw [hR]; exact Nat.le_of_ble_eq_true rfl), (by rw [hR]; exact Nat.le_of_ble_eq_true rfl)⟩) hS (fun q _ h => hFc q h) hFc (fun r_22 u9 t9 H1 locs ht hvm hr_22 hB hz1 hk1 hS => ?_)
                      try dsimp only at hr_22
                      have hP1 : va_P D vwCl [] H1 := vP_nil
                      have hD1 : va_D (va_A [] H.size) [] := vD_nil
                      obtain ⟨hP, hD⟩ := va_join (wr := [(m2, .inl (cI, 4, .inl gh)), (m3, .inl (cI, 16384, .inl gd)), (h0, .inr (9, [.ref m1, .ref m2, .ref m3, .int ik, .int wy, .int op, .int cl, .int cx0, .int cx1, .int cy0, .int cy1, .int ds, .ref m4, .ref m5, .ref m6, .ref m7, .ref m8, .ref m9, .int pn, .ref m10, .ref m11, .ref m12, .ref m13])), (m1, .inl (cI, 4, .inl gw))]) (w1 := []) hP hD [] [0, 1, 2, 3] rfl rfl (by decide) (by decide) hk1 hFc hP1 hD1
                      clear hz1 hk1 hFc hKc hDc hPc
                      generalize H1 = H at hP hS ⊢
                      have hP : va_P D vwCl [(m2, .inl (cI, 4, .inl gh)), (m3, .inl (cI, 16384, .inl gd)), (h0, .inr (9, [.ref m1, .ref m2, .ref m3, .int ik, .int wy, .int op, .int cl, .int cx0, .int cx1, .int cy0, .int cy1, .int ds, .ref m4, .ref m5, .ref m6, .ref m7, .ref m8, .ref m9, .int pn, .ref m10, .ref m11, .ref m12, .ref m13])), (m1, .inl (cI, 4, .inl gw))] H := hP
                      have hD : va_D A [(m2, .inl (cI, 4, .inl gh)), (m3, .inl (cI, 16384, .inl gd)), (h0, .inr (9, [.ref m1, .ref m2, .ref m3, .int ik, .int wy, .int op, .int cl, .int cx0, .int cx1, .int cy0, .int cy1, .int ds, .ref m4, .ref m5, .ref m6, .ref m7, .ref m8, .ref m9, .int pn, .ref m10, .ref m11, .ref m12, .ref m13])), (m1, .inl (cI, 4, .inl gw))] := hD
                      refine va_iald hx hb hK hP 1 0 rfl rfl (by rw [hr_22]; exact sp_in (by omega) (by omega) (by omega) (by omega) (by omega) (by omega)) dX9_differ_104 ?_
                      refine lv_topi (fun y_23 ey_23 => ?_)
                      refine lv_icmp_eq (tgt := 112) hx hb dX9_differ_105 (by decide) (fun c_24 => ?_) (fun c_24 => ?_)
                      · skip
                        have f_25 : y_21.toInt = y_23.toInt := f_eq rfl rfl c_24
                        refine lv_iconst (v := 0) hx hb dX9_differ_112 (by decide) ?_
                        refine lv_iadd hx hb dX9_differ_113 ?_
                        refine lv_topi (fun y_26 ey_26 => ?_)
                        refine lv_istore_n (lv' := [(3, .int y_26), (5, .int x5), (4, .int x4), (0, .ref h0), (1, .int k), (2, .int kq)]) hx hb dX9_differ_114 rfl hl (by decide) rfl (fun ls hl => ?_)
                        obtain ⟨y_27, ey_27⟩ : ∃ y : Int32, y = x5 + 1 := ⟨_, rfl⟩
                        refine lv_iinc (v := y_27) (lv' := [(5, .int y_27), (3, .int y_26), (4, .int x4), (0, .ref h0), (1, .int k), (2, .int kq)]) hx hb dX9_differ_115 hl (k := 1) rfl (by rw [ey_27]; rfl) (by decide) rfl (fun ls hl => ?_)
                        refine lv_goto (tgt := 67) hx hb dX9_differ_118 (by decide) ?_
                        exact ih_16 (i + 1) y_27 y_26 _ _ _ (by omega) (by omega) (by rw [ey_27, ex_i]; exact nI_1 i) (hP.sub (ws' := [(m2, .inl (cI, 4, .inl gh)), (m3, .inl (cI, 16384, .inl gd)), (h0, .inr (9, [.ref m1, .ref m2, .ref m3, .int ik, .int wy, .int op, .int cl, .int cx0, .int cx1, .int cy0, .int cy1, .int ds, .ref m4, .ref m5, .ref m6, .ref m7, .ref m8, .ref m9, .int pn, .ref m10, .ref m11, .ref m12, .ref m13])), (m1, .inl (cI, 4, .inl gw))]) [0, 1, 2, 3] rfl) (hD.sub (ws' := [(m2, .inl (cI, 4, .inl gh)), (m3, .inl (cI, 16384, .inl gd)), (h0, .inr (9, [.ref m1, .ref m2, .ref m3, .int ik, .int wy, .int op, .int cl, .int cx0, .int cx1, .int cy0, .int cy1, .int ds, .ref m4, .ref m5, .ref m6, .ref m7, .ref m8, .ref m9, .int pn, .ref m10, .ref m11, .ref m12, .ref m13])), (m1, .inl (cI, 4, .inl gw))]) [0, 1, 2, 3] (by decide) rfl) hS (lv_sub hl [0, 2, 1, 3, 4, 5] rfl)
                      · skip
                        have f_25 : ¬ (y_21.toInt = y_23.toInt) := fn_eq rfl rfl c_24
                        refine lv_iconst (v := 1) hx hb dX9_differ_108 (by decide) ?_
                        refine lv_goto (tgt := 113) hx hb dX9_differ_109 (by decide) ?_
                        refine lv_iadd hx hb dX9_differ_113 ?_
                        refine lv_topi (fun y_28 ey_28 => ?_)
                        refine lv_istore_n (lv' := [(3, .int y_28), (5, .int x5), (4, .int x4), (0, .ref h0), (1, .int k), (2, .int kq)]) hx hb dX9_differ_114 rfl hl (by decide) rfl (fun ls hl => ?_)
                        obtain ⟨y_29, ey_29⟩ : ∃ y : Int32, y = x5 + 1 := ⟨_, rfl⟩
                        refine lv_iinc (v := y_29) (lv' := [(5, .int y_29), (3, .int y_28), (4, .int x4), (0, .ref h0), (1, .int k), (2, .int kq)]) hx hb dX9_differ_115 hl (k := 1) rfl (by rw [ey_29]; rfl) (by decide) rfl (fun ls hl => ?_)
                        refine lv_goto (tgt := 67) hx hb dX9_differ_118 (by decide) ?_
                        exact ih_16 (i + 1) y_29 y_28 _ _ _ (by omega) (by omega) (by rw [ey_29, ex_i]; exact nI_1 i) (hP.sub (ws' := [(m2, .inl (cI, 4, .inl gh)), (m3, .inl (cI, 16384, .inl gd)), (h0, .inr (9, [.ref m1, .ref m2, .ref m3, .int ik, .int wy, .int op, .int cl, .int cx0, .int cx1, .int cy0, .int cy1, .int ds, .ref m4, .ref m5, .ref m6, .ref m7, .ref m8, .ref m9, .int pn, .ref m10, .ref m11, .ref m12, .ref m13])), (m1, .inl (cI, 4, .inl gw))]) [0, 1, 2, 3] rfl) (hD.sub (ws' := [(m2, .inl (cI, 4, .inl gh)), (m3, .inl (cI, 16384, .inl gd)), (h0, .inr (9, [.ref m1, .ref m2, .ref m3, .int ik, .int wy, .int op, .int cl, .int cx0, .int cx1, .int cy0, .int cy1, .int ds, .ref m4, .ref m5, .ref m6, .ref m7, .ref m8, .ref m9, .int pn, .ref m10, .ref m11, .ref m12, .ref m13])), (m1, .inl (cI, 4, .inl gw))]) [0, 1, 2, 3] (by decide) rfl) hS (lv_sub hl [0, 2, 1, 3, 4, 5] rfl)
                exact loop_15 (64 + 1) 0 0 x3 _ _ _ (by omega) (by omega) nI_0.symm hP hD hS (lv_sub hl [0, 1, 2, 3, 4, 5] rfl)
          exact loop_11 (64 + 1) 0 0 0 _ _ _ (by omega) (by omega) nI_0.symm hP hD hS (lv_sub hl [0, 1, 2, 3, 4] rfl)
        · skip
          have f_10 : ¬ ((gh k.toNatClampNeg).toInt = (gh kq.toNatClampNeg).toInt) := fn_eq rfl rfl c_9
          refine lv_iconst (v := (-1)) hx hb dX9_differ_46 (by decide) ?_
          have hP9 := hP.sub (ws' := [(h0, .inr (9, [.ref m1, .ref m2, .ref m3, .int ik, .int wy, .int op, .int cl, .int cx0, .int cx1, .int cy0, .int cy1, .int ds, .ref m4, .ref m5, .ref m6, .ref m7, .ref m8, .ref m9, .int pn, .ref m10, .ref m11, .ref m12, .ref m13])), (m1, .inl (cI, 4, .inl gw)), (m2, .inl (cI, 4, .inl gh)), (m3, .inl (cI, 16384, .inl gd))]) [2, 3, 0, 1] rfl
          have hD9 := hD.sub (ws' := [(h0, .inr (9, [.ref m1, .ref m2, .ref m3, .int ik, .int wy, .int op, .int cl, .int cx0, .int cx1, .int cy0, .int cy1, .int ds, .ref m4, .ref m5, .ref m6, .ref m7, .ref m8, .ref m9, .int pn, .ref m10, .ref m11, .ref m12, .ref m13])), (m1, .inl (cI, 4, .inl gw)), (m2, .inl (cI, 4, .inl gh)), (m3, .inl (cI, 16384, .inl gd))]) [2, 3, 0, 1] (by decide) rfl
          have hK9 := hK.sub (tys' := [(cI, .int)]) [0] rfl
          refine hQ _ _ _ _ _ ?_
          exact W.iret (v := (-1)) hx hb hr (fun t ht hW => ⟨⟨(-1), (), rfl, trivial, ⟨by rw [ht]; exact hP9, va_K.moved hW.alike hK9, hD9⟩⟩, hS.F ht⟩) hS.2.2 dX9_differ_47

set_option maxHeartbeats 4000000 in
set_option maxRecDepth 100000 in
theorem k_X9_channel_a (l : Launch) (D : va_G) (sz : Nat) (v n : Int32) : Met l yX9_channel (wB yX9_channel cX9_channel 2 (some .int)) ({ frames := 0, cells := 0, slots := 0, locals := 0 }) (cP D [] [] sz [.int v, .int n]) (va_Qi (fun (r : Int32) (_ : Unit) => True) (fun (_ : Unit) (_ : State) => True) (va_A [] sz)) 0 0 (va_A [] sz) := by
  refine Met.ofW (cc := cX9_channel) (maxL := 2) (ret := (some .int)) (by decide) rfl ?_
  intro p e s m args below meth c s₁ B hml hv
  obtain ⟨rfl, hsz, hP, hK, hD0, hN⟩ := hv
  have hx := B.exec
  have hb := B.bytes
  have hr := B.returns
  have hts0 := atoms_spec (ws := (wB yX9_channel cX9_channel 2 (some .int))) B.pre
  have hts : ∀ w ∈ bigW, w.before _ s = true := fun w h => hts0 w (List.mem_cons_of_mem _ h)
  have hown : s.vm.findClass RX9 = some m.cls := findClass_of_methodNamed B.named
  have hlocks := B.notSynchronized
  subst hsz
  have hD := hD0.self (sz := s.heap.size)
  generalize hAe : va_A [] s.heap.size = A at hD ⊢
  have hA : ∀ q : Nat, s.heap.size ≤ q → A q := fun q h => by rw [← hAe]; exact Or.inr h
  have hS : va_S A s.heap s.heap [] := va_S.rf
  have hP : va_P D vwCl [] s.heap := hP
  have hl := lv_entry ([.int v, .int n]) (n := 2) (Nat.le_of_ble_eq_true rfl)
  rw [lg_entry_eq]
  generalize (lg_sl ([.int v, .int n]) ++ List.replicate (2 - (lg_sl ([.int v, .int n])).length) Slot.unset).toArray = ls at hl ⊢
  have hl : lv_has ls 2 [(0, .int v), (1, .int n)] := hl
  clear hts0 hD0 hAe
  refine my_abs (fun R Q hR hQ => ?_)
  refine lv_iload_n hx hb dX9_channel_0 rfl (lv_at hl 0 rfl) ?_
  refine lv_bipush (v := 24) hx hb dX9_channel_1 (by decide) ?_
  refine lv_bipush (v := 8) hx hb dX9_channel_3 (by decide) ?_
  refine lv_iload_n hx hb dX9_channel_5 rfl (lv_at hl 1 rfl) ?_
  refine lv_imul hx hb dX9_channel_6 ?_
  refine lv_topi (fun y_1 ey_1 => ?_)
  refine lv_isub hx hb dX9_channel_7 ?_
  refine lv_topi (fun y_2 ey_2 => ?_)
  refine lv_ishr hx hb dX9_channel_8 ?_
  refine lv_topi (fun y_3 ey_3 => ?_)
  refine lv_sipush (v := 255) hx hb dX9_channel_9 (by decide) ?_
  refine lv_iand hx hb dX9_channel_12 ?_
  refine lv_topi (fun y_4 ey_4 => ?_)
  refine hQ _ _ _ _ _ ?_
  exact W.iret (v := y_4) hx hb hr (fun t ht hW => ⟨⟨y_4, (), rfl, trivial, trivial⟩, hS.F ht⟩) hS.2.2 dX9_channel_13

set_option maxHeartbeats 4000000 in
set_option maxRecDepth 100000 in
theorem k_X9_look (l : Launch) (D : va_G) (sz : Nat) (h0 m1 m2 m3 m4 m5 m6 m7 m8 m9 m10 m11 m12 m13 : Nat) (ik wy op cl cx0 cx1 cy0 cy1 ds pn : Int32) (gw : Nat → Int32) (gh : Nat → Int32) (gd : Nat → Int32) (k wh : Int32) (cI : ClassId) (hG : ∀ j : Nat, j < 4 → (gw j).toInt ≤ 64 ∧ (gh j).toInt ≤ 64) : Met l yX9_look (wB yX9_look cX9_look 8 (some .int)) ({ frames := 1, cells := 0, slots := 0, locals := 22 }) (cP D [(h0, .inr (9, [.ref m1, .ref m2, .ref m3, .int ik, .int wy, .int op, .int cl, .int cx0, .int cx1, .int cy0, .int cy1, .int ds, .ref m4, .ref m5, .ref m6, .ref m7, .ref m8, .ref m9, .int pn, .ref m10, .ref m11, .ref m12, .ref m13])), (m1, .inl (cI, 4, .inl gw)), (m2, .inl (cI, 4, .inl gh)), (m3, .inl (cI, 16384, .inl gd))] [(cI, .int)] sz [.ref h0, .int k, .int wh]) (va_Qi (fun (r : Int32) (_ : Unit) => True) (fun (_ : Unit) (t : State) => cB D (va_A [(h0, .inr (9, [.ref m1, .ref m2, .ref m3, .int ik, .int wy, .int op, .int cl, .int cx0, .int cx1, .int cy0, .int cy1, .int ds, .ref m4, .ref m5, .ref m6, .ref m7, .ref m8, .ref m9, .int pn, .ref m10, .ref m11, .ref m12, .ref m13])), (m1, .inl (cI, 4, .inl gw)), (m2, .inl (cI, 4, .inl gh)), (m3, .inl (cI, 16384, .inl gd))] sz) [(h0, .inr (9, [.ref m1, .ref m2, .ref m3, .int ik, .int wy, .int op, .int cl, .int cx0, .int cx1, .int cy0, .int cy1, .int ds, .ref m4, .ref m5, .ref m6, .ref m7, .ref m8, .ref m9, .int pn, .ref m10, .ref m11, .ref m12, .ref m13])), (m1, .inl (cI, 4, .inl gw)), (m2, .inl (cI, 4, .inl gh)), (m3, .inl (cI, 16384, .inl gd))] [(cI, .int)] t) (va_A [(h0, .inr (9, [.ref m1, .ref m2, .ref m3, .int ik, .int wy, .int op, .int cl, .int cx0, .int cx1, .int cy0, .int cy1, .int ds, .ref m4, .ref m5, .ref m6, .ref m7, .ref m8, .ref m9, .int pn, .ref m10, .ref m11, .ref m12, .ref m13])), (m1, .inl (cI, 4, .inl gw)), (m2, .inl (cI, 4, .inl gh)), (m3, .inl (cI, 16384, .inl gd))] sz)) 0 0 (va_A [(h0, .inr (9, [.ref m1, .ref m2, .ref m3, .int ik, .int wy, .int op, .int cl, .int cx0, .int cx1, .int cy0, .int cy1, .int ds, .ref m4, .ref m5, .ref m6, .ref m7, .ref m8, .ref m9, .int pn, .ref m10, .ref m11, .ref m12, .ref m13])), (m1, .inl (cI, 4, .inl gw)), (m2, .inl (cI, 4, .inl gh)), (m3, .inl (cI, 16384, .inl gd))] sz) := by
  refine Met.ofW (cc := cX9_look) (maxL := 8) (ret := (some .int)) (by decide) rfl ?_
  intro p e s m args below meth c s₁ B hml hv
  obtain ⟨rfl, hsz, hP, hK, hD0, hN⟩ := hv
  have hx := B.exec
  have hb := B.bytes
  have hr := B.returns
  have hts0 := atoms_spec (ws := (wB yX9_look cX9_look 8 (some .int))) B.pre
  have hts : ∀ w ∈ bigW, w.before _ s = true := fun w h => hts0 w (List.mem_cons_of_mem _ h)
  have hown : s.vm.findClass RX9 = some m.cls := findClass_of_methodNamed B.named
  have hlocks := B.notSynchronized
  subst hsz
  have hD := hD0.self (sz := s.heap.size)
  generalize hAe : va_A [(h0, .inr (9, [.ref m1, .ref m2, .ref m3, .int ik, .int wy, .int op, .int cl, .int cx0, .int cx1, .int cy0, .int cy1, .int ds, .ref m4, .ref m5, .ref m6, .ref m7, .ref m8, .ref m9, .int pn, .ref m10, .ref m11, .ref m12, .ref m13])), (m1, .inl (cI, 4, .inl gw)), (m2, .inl (cI, 4, .inl gh)), (m3, .inl (cI, 16384, .inl gd))] s.heap.size = A at hD ⊢
  have hA : ∀ q : Nat, s.heap.size ≤ q → A q := fun q h => by rw [← hAe]; exact Or.inr h
  have hS : va_S A s.heap s.heap [] := va_S.rf
  have hP : va_P D vwCl [(h0, .inr (9, [.ref m1, .ref m2, .ref m3, .int ik, .int wy, .int op, .int cl, .int cx0, .int cx1, .int cy0, .int cy1, .int ds, .ref m4, .ref m5, .ref m6, .ref m7, .ref m8, .ref m9, .int pn, .ref m10, .ref m11, .ref m12, .ref m13])), (m1, .inl (cI, 4, .inl gw)), (m2, .inl (cI, 4, .inl gh)), (m3, .inl (cI, 16384, .inl gd))] s.heap := hP
  have hl := lv_entry ([.ref h0, .int k, .int wh]) (n := 8) (Nat.le_of_ble_eq_true rfl)
  rw [lg_entry_eq]
  generalize (lg_sl ([.ref h0, .int k, .int wh]) ++ List.replicate (8 - (lg_sl ([.ref h0, .int k, .int wh])).length) Slot.unset).toArray = ls at hl ⊢
  have hl : lv_has ls 8 [(0, .ref h0), (1, .int k), (2, .int wh)] := hl
  clear hts0 hD0 hAe
  refine my_abs (fun R Q hR hQ => ?_)
  refine lv_aload_n hx hb dX9_look_0 rfl (lv_at hl 0 rfl) ?_
  refine lv_iload_n hx hb dX9_look_1 rfl (lv_at hl 1 rfl) ?_
  have hPc := hP.sub (ws' := [(h0, .inr (9, [.ref m1, .ref m2, .ref m3, .int ik, .int wy, .int op, .int cl, .int cx0, .int cx1, .int cy0, .int cy1, .int ds, .ref m4, .ref m5, .ref m6, .ref m7, .ref m8, .ref m9, .int pn, .ref m10, .ref m11, .ref m12, .ref m13])), (m1, .inl (cI, 4, .inl gw))]) [0, 1] rfl
  have hDc := hD.sub (ws' := [(h0, .inr (9, [.ref m1, .ref m2, .ref m3, .int ik, .int wy, .int op, .int cl, .int cx0, .int cx1, .int cy0, .int cy1, .int ds, .ref m4, .ref m5, .ref m6, .ref m7, .ref m8, .ref m9, .int pn, .ref m10, .ref m11, .ref m12, .ref m13])), (m1, .inl (cI, 4, .inl gw))]) [0, 1] (by decide) rfl
  have hKc := hK.sub (tys' := [(cI, .int)]) [0] rfl
  have hFc := va_free (wc := [(h0, .inr (9, [.ref m1, .ref m2, .ref m3, .int ik, .int wy, .int op, .int cl, .int cx0, .int cx1, .int cy0, .int cy1, .int ds, .ref m4, .ref m5, .ref m6, .ref m7, .ref m8, .ref m9, .int pn, .ref m10, .ref m11, .ref m12, .ref m13])), (m1, .inl (cI, 4, .inl gw))]) hD hS hA [0, 1] rfl
  refine va_calli (va_runV (As := [.int k]) (rest := []) ⟨hx, hb, hml, hown, hts⟩ (k_X9_isSheet l D s.heap.size h0 m1 m2 m3 m4 m5 m6 m7 m8 m9 m10 m11 m12 m13 ik wy op cl cx0 cx1 cy0 cy1 ds pn gw k cI) (cwV 1 hts (gV bw_490 bw_415 bw_416 bw_391 bw_414) rfl rfl rfl (by decide +kernel) ⟨(by rw [hR]; exact Nat.le_of_ble_eq_true rfl), (by rw [hR]; exact Nat.le_of_ble_eq_true rfl)⟩) ⟨cP_blind, va_recv hKc hPc (ci := 9) (q0 := 0) rfl rfl, cP_at hPc hKc hDc hN⟩ rfl rfl hl.1 rfl (lv_room (Nat.le_of_ble_eq_true rfl)) dX9_look_2 ⟨(by rw [hR]; exact Nat.le_of_ble_eq_true rfl), (by rw [hR]; exact Nat.le_of_ble_eq_true rfl)⟩) hS (fun q _ h => hFc q h) hFc (fun r_1 u9 t9 H1 locs ht hvm hr_1 hB hz1 hk1 hS => ?_)
  try dsimp only at hr_1
  obtain ⟨hP1, hK1, hD1⟩ := hB
  rw [ht] at hP1
  obtain ⟨hP, hD⟩ := va_join (wr := [(m2, .inl (cI, 4, .inl gh)), (m3, .inl (cI, 16384, .inl gd))]) (w1 := [(h0, .inr (9, [.ref m1, .ref m2, .ref m3, .int ik, .int wy, .int op, .int cl, .int cx0, .int cx1, .int cy0, .int cy1, .int ds, .ref m4, .ref m5, .ref m6, .ref m7, .ref m8, .ref m9, .int pn, .ref m10, .ref m11, .ref m12, .ref m13])), (m1, .inl (cI, 4, .inl gw))]) hP hD [0, 1] [2, 3] rfl rfl (by decide) (by decide) hk1 hFc hP1 hD1
  clear hz1 hk1 hFc hKc hDc hPc
  generalize H1 = H at hP hS ⊢
  have hP : va_P D vwCl [(m2, .inl (cI, 4, .inl gh)), (m3, .inl (cI, 16384, .inl gd)), (h0, .inr (9, [.ref m1, .ref m2, .ref m3, .int ik, .int wy, .int op, .int cl, .int cx0, .int cx1, .int cy0, .int cy1, .int ds, .ref m4, .ref m5, .ref m6, .ref m7, .ref m8, .ref m9, .int pn, .ref m10, .ref m11, .ref m12, .ref m13])), (m1, .inl (cI, 4, .inl gw))] H := hP
  have hD : va_D A [(m2, .inl (cI, 4, .inl gh)), (m3, .inl (cI, 16384, .inl gd)), (h0, .inr (9, [.ref m1, .ref m2, .ref m3, .int ik, .int wy, .int op, .int cl, .int cx0, .int cx1, .int cy0, .int cy1, .int ds, .ref m4, .ref m5, .ref m6, .ref m7, .ref m8, .ref m9, .int pn, .ref m10, .ref m11, .ref m12, .ref m13])), (m1, .inl (cI, 4, .inl gw))] := hD
  refine lv_if_eq (tgt := 18) hx hb dX9_look_5 (by decide) (fun c_2 => ?_) (fun c_2 => ?_)
  · skip
    have f_3 := bz0 hr_1 c_2
    refine lv_iconst (v := (-1)) hx hb dX9_look_18 (by decide) ?_
    have hP9 := hP.sub (ws' := [(h0, .inr (9, [.ref m1, .ref m2, .ref m3, .int ik, .int wy, .int op, .int cl, .int cx0, .int cx1, .int cy0, .int cy1, .int ds, .ref m4, .ref m5, .ref m6, .ref m7, .ref m8, .ref m9, .int pn, .ref m10, .ref m11, .ref m12, .ref m13])), (m1, .inl (cI, 4, .inl gw)), (m2, .inl (cI, 4, .inl gh)), (m3, .inl (cI, 16384, .inl gd))]) [2, 3, 0, 1] rfl
    have hD9 := hD.sub (ws' := [(h0, .inr (9, [.ref m1, .ref m2, .ref m3, .int ik, .int wy, .int op, .int cl, .int cx0, .int cx1, .int cy0, .int cy1, .int ds, .ref m4, .ref m5, .ref m6, .ref m7, .ref m8, .ref m9, .int pn, .ref m10, .ref m11, .ref m12, .ref m13])), (m1, .inl (cI, 4, .inl gw)), (m2, .inl (cI, 4, .inl gh)), (m3, .inl (cI, 16384, .inl gd))]) [2, 3, 0, 1] (by decide) rfl
    have hK9 := hK.sub (tys' := [(cI, .int)]) [0] rfl
    refine hQ _ _ _ _ _ ?_
    exact W.iret (v := (-1)) hx hb hr (fun t ht hW => ⟨⟨(-1), (), rfl, trivial, ⟨by rw [ht]; exact hP9, va_K.moved hW.alike hK9, hD9⟩⟩, hS.F ht⟩) hS.2.2 dX9_look_19
  · skip
    have f_3 := bz1 hr_1 c_2
    have hkn_k : k.toNatClampNeg < 4 := cl_lt (by omega) (by omega)
    have hgk_k := hG _ hkn_k
    refine lv_iload_n hx hb dX9_look_8 rfl (lv_at hl 2 rfl) ?_
    refine lv_if_lt (tgt := 18) hx hb dX9_look_9 (by decide) (fun c_4 => ?_) (fun c_4 => ?_)
    · skip
      have f_5 : wh.toInt < 0 := f_lt rfl (by decide) c_4
      refine lv_iconst (v := (-1)) hx hb dX9_look_18 (by decide) ?_
      have hP9 := hP.sub (ws' := [(h0, .inr (9, [.ref m1, .ref m2, .ref m3, .int ik, .int wy, .int op, .int cl, .int cx0, .int cx1, .int cy0, .int cy1, .int ds, .ref m4, .ref m5, .ref m6, .ref m7, .ref m8, .ref m9, .int pn, .ref m10, .ref m11, .ref m12, .ref m13])), (m1, .inl (cI, 4, .inl gw)), (m2, .inl (cI, 4, .inl gh)), (m3, .inl (cI, 16384, .inl gd))]) [2, 3, 0, 1] rfl
      have hD9 := hD.sub (ws' := [(h0, .inr (9, [.ref m1, .ref m2, .ref m3, .int ik, .int wy, .int op, .int cl, .int cx0, .int cx1, .int cy0, .int cy1, .int ds, .ref m4, .ref m5, .ref m6, .ref m7, .ref m8, .ref m9, .int pn, .ref m10, .ref m11, .ref m12, .ref m13])), (m1, .inl (cI, 4, .inl gw)), (m2, .inl (cI, 4, .inl gh)), (m3, .inl (cI, 16384, .inl gd))]) [2, 3, 0, 1] (by decide) rfl
      have hK9 := hK.sub (tys' := [(cI, .int)]) [0] rfl
      refine hQ _ _ _ _ _ ?_
      exact W.iret (v := (-1)) hx hb hr (fun t ht hW => ⟨⟨(-1), (), rfl, trivial, ⟨by rw [ht]; exact hP9, va_K.moved hW.alike hK9, hD9⟩⟩, hS.F ht⟩) hS.2.2 dX9_look_19
    · skip
      have f_5 : ¬ (wh.toInt < 0) := fn_lt rfl (by decide) c_4
      refine lv_iload_n hx hb dX9_look_12 rfl (lv_at hl 2 rfl) ?_
      refine lv_bipush (v := 9) hx hb dX9_look_13 (by decide) ?_
      refine lv_icmp_le (tgt := 20) hx hb dX9_look_15 (by decide) (fun c_6 => ?_) (fun c_6 => ?_)
      · skip
        have f_7 : wh.toInt ≤ 9 := f_le rfl (by decide) c_6
        refine lv_iload_n hx hb dX9_look_20 rfl (lv_at hl 2 rfl) ?_
        refine lv_iconst (v := 4) hx hb dX9_look_21 (by decide) ?_
        refine lv_icmp_ne (tgt := 32) hx hb dX9_look_22 (by decide) (fun c_8 => ?_) (fun c_8 => ?_)
        · skip
          have f_9 : ¬ (wh.toInt = 4) := fn_eq rfl (by decide) c_8
          refine lv_iload_n hx hb dX9_look_32 rfl (lv_at hl 2 rfl) ?_
          refine lv_iconst (v := 5) hx hb dX9_look_33 (by decide) ?_
          refine lv_icmp_ne (tgt := 44) hx hb dX9_look_34 (by decide) (fun c_10 => ?_) (fun c_10 => ?_)
          · skip
            have f_11 : ¬ (wh.toInt = 5) := fn_eq rfl (by decide) c_10
            refine lv_iload_n hx hb dX9_look_44 rfl (lv_at hl 2 rfl) ?_
            refine lv_bipush (v := 6) hx hb dX9_look_45 (by decide) ?_
            refine lv_icmp_ge (tgt := 54) hx hb dX9_look_47 (by decide) (fun c_12 => ?_) (fun c_12 => ?_)
            · skip
              have f_13 : 6 ≤ wh.toInt := f_le (by decide) rfl c_12
              refine lv_iconst (v := 0) hx hb dX9_look_54 (by decide) ?_
              refine lv_istore_n (lv' := [(3, .int 0), (0, .ref h0), (1, .int k), (2, .int wh)]) hx hb dX9_look_55 rfl hl (by decide) rfl (fun ls hl => ?_)
              refine lv_iconst (v := 0) hx hb dX9_look_56 (by decide) ?_
              refine lv_istore (lv' := [(4, .int 0), (3, .int 0), (0, .ref h0), (1, .int k), (2, .int wh)]) hx hb dX9_look_57 hl (by decide) rfl (fun ls hl => ?_)
              have loop_14 : ∀ (n : Nat) (j : Nat) (x4 : Int32) (x3 : Int32) (H : Heap) (locs : List Loc) (ls : Array Slot), (j ≤ 64) → (64 + 1 ≤ j + n) → (x4 = nI j) → va_P D vwCl [(m2, .inl (cI, 4, .inl gh)), (m3, .inl (cI, 16384, .inl gd)), (h0, .inr (9, [.ref m1, .ref m2, .ref m3, .int ik, .int wy, .int op, .int cl, .int cx0, .int cx1, .int cy0, .int cy1, .int ds, .ref m4, .ref m5, .ref m6, .ref m7, .ref m8, .ref m9, .int pn, .ref m10, .ref m11, .ref m12, .ref m13])), (m1, .inl (cI, 4, .inl gw))] H → va_D A [(m2, .inl (cI, 4, .inl gh)), (m3, .inl (cI, 16384, .inl gd)), (h0, .inr (9, [.ref m1, .ref m2, .ref m3, .int ik, .int wy, .int op, .int cl, .int cx0, .int cx1, .int cy0, .int cy1, .int ds, .ref m4, .ref m5, .ref m6, .ref m7, .ref m8, .ref m9, .int pn, .ref m10, .ref m11, .ref m12, .ref m13])), (m1, .inl (cI, 4, .inl gw))] → va_S A s.heap H locs → lv_has ls 8 [(4, .int x4), (3, .int x3), (0, .ref h0), (1, .int k), (2, .int wh)] → W p l e R s m ([.ref h0, .int k, .int wh] : List Value).toArray below meth c H locs 0 0 Q (F0 m 59 ls []) := by
                intro n
                induction n with
                | zero =>
                  intro j x4 x3 H locs ls hi_j hm_j ex_j hP hD hS hl
                  exact absurd (show False by omega) not_false
                | succ n ih_15 =>
                  intro j x4 x3 H locs ls hi_j hm_j ex_j hP hD hS hl
                  have hx_j : x4.toInt = (j : Int) := by rw [ex_j]; exact nI_toInt (by omega)
                  have hc_j : x4.toNatClampNeg = j := by rw [ex_j]; exact nI_clamp (by omega)
                  refine lv_iload hx hb dX9_look_59 (lv_at hl 0 rfl) ?_
                  refine lv_aload_n hx hb dX9_look_61 rfl (lv_at hl 2 rfl) ?_
                  refine va_get (D := D) (ci := 9) (v := .ref m2) (C := RX9) (T := TX9) (N := 23) hx hb hts hi_X9 hown hK hP 2 rfl rfl 1 (by decide) (hts _ bw_397) (fun _ h9 => h9) rfl dX9_look_62 ?_
                  refine lv_iload_n hx hb dX9_look_65 rfl (lv_at hl 3 rfl) ?_
                  refine va_iald hx hb hK hP 0 0 rfl rfl (vp_in_iff.mpr ⟨by omega, by omega⟩) dX9_look_66 ?_
                  refine lv_icmp_ge (tgt := 187) hx hb dX9_look_67 (by decide) (fun c_16 => ?_) (fun c_16 => ?_)
                  · skip
                    have f_17 : (gh k.toNatClampNeg).toInt ≤ (j : Int) := f_le rfl hx_j c_16
                    refine lv_iload_n hx hb dX9_look_187 rfl (lv_at hl 1 rfl) ?_
                    have hP9 := hP.sub (ws' := [(h0, .inr (9, [.ref m1, .ref m2, .ref m3, .int ik, .int wy, .int op, .int cl, .int cx0, .int cx1, .int cy0, .int cy1, .int ds, .ref m4, .ref m5, .ref m6, .ref m7, .ref m8, .ref m9, .int pn, .ref m10, .ref m11, .ref m12, .ref m13])), (m1, .inl (cI, 4, .inl gw)), (m2, .inl (cI, 4, .inl gh)), (m3, .inl (cI, 16384, .inl gd))]) [2, 3, 0, 1] rfl
                    have hD9 := hD.sub (ws' := [(h0, .inr (9, [.ref m1, .ref m2, .ref m3, .int ik, .int wy, .int op, .int cl, .int cx0, .int cx1, .int cy0, .int cy1, .int ds, .ref m4, .ref m5, .ref m6, .ref m7, .ref m8, .ref m9, .int pn, .ref m10, .ref m11, .ref m12, .ref m13])), (m1, .inl (cI, 4, .inl gw)), (m2, .inl (cI, 4, .inl gh)), (m3, .inl (cI, 16384, .inl gd))]) [2, 3, 0, 1] (by decide) rfl
                    have hK9 := hK.sub (tys' := [(cI, .int)]) [0] rfl
                    refine hQ _ _ _ _ _ ?_
                    exact W.iret (v := x3) hx hb hr (fun t ht hW => ⟨⟨x3, (), rfl, trivial, ⟨by rw [ht]; exact hP9, va_K.moved hW.alike hK9, hD9⟩⟩, hS.F ht⟩) hS.2.2 dX9_look_188
                  · skip
                    have f_17 : ¬ ((gh k.toNatClampNeg).toInt ≤ (j : Int)) := fn_le rfl hx_j c_16
                    refine lv_iconst (v := 0) hx hb dX9_look_70 (by decide) ?_
                    refine lv_istore (lv' := [(5, .int 0), (4, .int x4), (3, .int x3), (0, .ref h0), (1, .int k), (2, .int wh)]) hx hb dX9_look_71 hl (by decide) rfl (fun ls hl => ?_)
                    have loop_18 : ∀ (n : Nat) (i : Nat) (x5 : Int32) (z3 : Int32) (H : Heap) (locs : List Loc) (ls : Array Slot), (i ≤ 64) → (64 + 1 ≤ i + n) → (x5 = nI i) → va_P D vwCl [(m2, .inl (cI, 4, .inl gh)), (m3, .inl (cI, 16384, .inl gd)), (h0, .inr (9, [.ref m1, .ref m2, .ref m3, .int ik, .int wy, .int op, .int cl, .int cx0, .int cx1, .int cy0, .int cy1, .int ds, .ref m4, .ref m5, .ref m6, .ref m7, .ref m8, .ref m9, .int pn, .ref m10, .ref m11, .ref m12, .ref m13])), (m1, .inl (cI, 4, .inl gw))] H → va_D A [(m2, .inl (cI, 4, .inl gh)), (m3, .inl (cI, 16384, .inl gd)), (h0, .inr (9, [.ref m1, .ref m2, .ref m3, .int ik, .int wy, .int op, .int cl, .int cx0, .int cx1, .int cy0, .int cy1, .int ds, .ref m4, .ref m5, .ref m6, .ref m7, .ref m8, .ref m9, .int pn, .ref m10, .ref m11, .ref m12, .ref m13])), (m1, .inl (cI, 4, .inl gw))] → va_S A s.heap H locs → lv_has ls 8 [(5, .int x5), (4, .int x4), (3, .int z3), (0, .ref h0), (1, .int k), (2, .int wh)] → W p l e R s m ([.ref h0, .int k, .int wh] : List Value).toArray below meth c H locs 0 0 Q (F0 m 73 ls []) := by
                      intro n
                      induction n with
                      | zero =>
                        intro i x5 z3 H locs ls hi_i hm_i ex_i hP hD hS hl
                        exact absurd (show False by omega) not_false
                      | succ n ih_19 =>
                        intro i x5 z3 H locs ls hi_i hm_i ex_i hP hD hS hl
                        have hx_i : x5.toInt = (i : Int) := by rw [ex_i]; exact nI_toInt (by omega)
                        have hc_i : x5.toNatClampNeg = i := by rw [ex_i]; exact nI_clamp (by omega)
                        refine lv_iload hx hb dX9_look_73 (lv_at hl 0 rfl) ?_
                        refine lv_aload_n hx hb dX9_look_75 rfl (lv_at hl 3 rfl) ?_
                        refine va_get (D := D) (ci := 9) (v := .ref m1) (C := RX9) (T := TX9) (N := 23) hx hb hts hi_X9 hown hK hP 2 rfl rfl 0 (by decide) (hts _ bw_396) (fun _ h9 => h9) rfl dX9_look_76 ?_
                        refine lv_iload_n hx hb dX9_look_79 rfl (lv_at hl 4 rfl) ?_
                        refine va_iald hx hb hK hP 3 0 rfl rfl (vp_in_iff.mpr ⟨by omega, by omega⟩) dX9_look_80 ?_
                        refine lv_icmp_ge (tgt := 181) hx hb dX9_look_81 (by decide) (fun c_20 => ?_) (fun c_20 => ?_)
                        · skip
                          have f_21 : (gw k.toNatClampNeg).toInt ≤ (i : Int) := f_le rfl hx_i c_20
                          obtain ⟨y_22, ey_22⟩ : ∃ y : Int32, y = x4 + 1 := ⟨_, rfl⟩
                          refine lv_iinc (v := y_22) (lv' := [(4, .int y_22), (5, .int x5), (3, .int z3), (0, .ref h0), (1, .int k), (2, .int wh)]) hx hb dX9_look_181 hl (k := 1) rfl (by rw [ey_22]; rfl) (by decide) rfl (fun ls hl => ?_)
                          refine lv_goto (tgt := 59) hx hb dX9_look_184 (by decide) ?_
                          exact ih_15 (j + 1) y_22 z3 _ _ _ (by omega) (by omega) (by rw [ey_22, ex_j]; exact nI_1 j) (hP.sub (ws' := [(m2, .inl (cI, 4, .inl gh)), (m3, .inl (cI, 16384, .inl gd)), (h0, .inr (9, [.ref m1, .ref m2, .ref m3, .int ik, .int wy, .int op, .int cl, .int cx0, .int cx1, .int cy0, .int cy1, .int ds, .ref m4, .ref m5, .ref m6, .ref m7, .ref m8, .ref m9, .int pn, .ref m10, .ref m11, .ref m12, .ref m13])), (m1, .inl (cI, 4, .inl gw))]) [0, 1, 2, 3] rfl) (hD.sub (ws' := [(m2, .inl (cI, 4, .inl gh)), (m3, .inl (cI, 16384, .inl gd)), (h0, .inr (9, [.ref m1, .ref m2, .ref m3, .int ik, .int wy, .int op, .int cl, .int cx0, .int cx1, .int cy0, .int cy1, .int ds, .ref m4, .ref m5, .ref m6, .ref m7, .ref m8, .ref m9, .int pn, .ref m10, .ref m11, .ref m12, .ref m13])), (m1, .inl (cI, 4, .inl gw))]) [0, 1, 2, 3] (by decide) rfl) hS (lv_sub hl [0, 2, 3, 4, 5] rfl)
                        · skip
                          have f_21 : ¬ ((gw k.toNatClampNeg).toInt ≤ (i : Int)) := fn_le rfl hx_i c_20
                          refine lv_aload_n hx hb dX9_look_84 rfl (lv_at hl 3 rfl) ?_
                          refine va_get (D := D) (ci := 9) (v := .ref m3) (C := RX9) (T := TX9) (N := 23) hx hb hts hi_X9 hown hK hP 2 rfl rfl 2 (by decide) (hts _ bw_398) (fun _ h9 => h9) rfl dX9_look_85 ?_
                          refine lv_iload_n hx hb dX9_look_88 rfl (lv_at hl 4 rfl) ?_
                          refine lv_iload hx hb dX9_look_89 (lv_at hl 0 rfl) ?_
                          refine lv_iload hx hb dX9_look_91 (lv_at hl 1 rfl) ?_
                          have hPc := hP.sub (ws' := []) [] rfl
                          have hDc := hD.sub (ws' := []) [] (by decide) rfl
                          have hKc := hK.sub (tys' := []) [] rfl
                          have hFc := va_free (wc := []) hD hS hA [] rfl
                          refine va_calli (va_runS (As := [.int k, .int x5, .int x4]) (rest := [.ref m3]) ⟨hx, hb, hml, hown, hts⟩ (k_X9_spot l D H.size k x5 x4) (va_cwS 3 hts (gS bw_551 bw_421 bw_391 bw_420) rfl rfl rfl (by decide +kernel) ⟨(by rw [hR]; exact Nat.le_of_ble_eq_true rfl), (by rw [hR]; exact Nat.le_of_ble_eq_true rfl)⟩) ⟨cP_blind, cP_at hPc hKc hDc hN⟩ rfl rfl hl.1 rfl (lv_room (Nat.le_of_ble_eq_true rfl)) dX9_look_93 ⟨(by rw [hR]; exact Nat.le_of_ble_eq_true rfl), (by rw [hR]; exact Nat.le_of_ble_eq_true rfl)⟩) hS (fun q _ h => hFc q h) hFc (fun r_23 u9 t9 H1 locs ht hvm hr_23 hB hz1 hk1 hS => ?_)
                          try dsimp only at hr_23
                          have hP1 : va_P D vwCl [] H1 := vP_nil
                          have hD1 : va_D (va_A [] H.size) [] := vD_nil
                          obtain ⟨hP, hD⟩ := va_join (wr := [(m2, .inl (cI, 4, .inl gh)), (m3, .inl (cI, 16384, .inl gd)), (h0, .inr (9, [.ref m1, .ref m2, .ref m3, .int ik, .int wy, .int op, .int cl, .int cx0, .int cx1, .int cy0, .int cy1, .int ds, .ref m4, .ref m5, .ref m6, .ref m7, .ref m8, .ref m9, .int pn, .ref m10, .ref m11, .ref m12, .ref m13])), (m1, .inl (cI, 4, .inl gw))]) (w1 := []) hP hD [] [0, 1, 2, 3] rfl rfl (by decide) (by decide) hk1 hFc hP1 hD1
                          clear hz1 hk1 hFc hKc hDc hPc
                          generalize H1 = H at hP hS ⊢
                          have hP : va_P D vwCl [(m2, .inl (cI, 4, .inl gh)), (m3, .inl (cI, 16384, .inl gd)), (h0, .inr (9, [.ref m1, .ref m2, .ref m3, .int ik, .int wy, .int op, .int cl, .int cx0, .int cx1, .int cy0, .int cy1, .int ds, .ref m4, .ref m5, .ref m6, .ref m7, .ref m8, .ref m9, .int pn, .ref m10, .ref m11, .ref m12, .ref m13])), (m1, .inl (cI, 4, .inl gw))] H := hP
                          have hD : va_D A [(m2, .inl (cI, 4, .inl gh)), (m3, .inl (cI, 16384, .inl gd)), (h0, .inr (9, [.ref m1, .ref m2, .ref m3, .int ik, .int wy, .int op, .int cl, .int cx0, .int cx1, .int cy0, .int cy1, .int ds, .ref m4, .ref m5, .ref m6, .ref m7, .ref m8, .ref m9, .int pn, .ref m10, .ref m11, .ref m12, .ref m13])), (m1, .inl (cI, 4, .inl gw))] := hD
                          refine va_iald hx hb hK hP 1 0 rfl rfl (by rw [hr_23]; exact sp_in (by omega) (by omega) (by omega) (by omega) (by omega) (by omega)) dX9_look_96 ?_
                          refine lv_topi (fun y_24 ey_24 => ?_)
                          refine lv_istore (lv' := [(6, .int y_24), (5, .int x5), (4, .int x4), (3, .int z3), (0, .ref h0), (1, .int k), (2, .int wh)]) hx hb dX9_look_97 hl (by decide) rfl (fun ls hl => ?_)
                          refine lv_iload_n hx hb dX9_look_99 rfl (lv_at hl 6 rfl) ?_
                          refine lv_iconst (v := 5) hx hb dX9_look_100 (by decide) ?_
                          refine lv_icmp_le (tgt := 119) hx hb dX9_look_101 (by decide) (fun c_25 => ?_) (fun c_25 => ?_)
                          · skip
                            have f_26 : wh.toInt ≤ 5 := f_le rfl (by decide) c_25
                            refine lv_iload hx hb dX9_look_119 (lv_at hl 0 rfl) ?_
                            refine lv_iconst (v := 0) hx hb dX9_look_121 (by decide) ?_
                            have hPc := hP.sub (ws' := []) [] rfl
                            have hDc := hD.sub (ws' := []) [] (by decide) rfl
                            have hKc := hK.sub (tys' := []) [] rfl
                            have hFc := va_free (wc := []) hD hS hA [] rfl
                            refine va_calli (va_runS (As := [.int y_24, .int 0]) (rest := []) ⟨hx, hb, hml, hown, hts⟩ (k_X9_channel_0 l D H.size y_24) (va_cwS 2 hts (gS bw_441 bw_438 bw_391 bw_437) rfl rfl rfl (by decide +kernel) ⟨(by rw [hR]; exact Nat.le_of_ble_eq_true rfl), (by rw [hR]; exact Nat.le_of_ble_eq_true rfl)⟩) ⟨cP_blind, cP_at hPc hKc hDc hN⟩ rfl rfl hl.1 rfl (lv_room (Nat.le_of_ble_eq_true rfl)) dX9_look_122 ⟨(by rw [hR]; exact Nat.le_of_ble_eq_true rfl), (by rw [hR]; exact Nat.le_of_ble_eq_true rfl)⟩) hS (fun q _ h => hFc q h) hFc (fun r_27 u9 t9 H1 locs ht hvm hr_27 hB hz1 hk1 hS => ?_)
                            try dsimp only at hr_27
                            have hP1 : va_P D vwCl [] H1 := vP_nil
                            have hD1 : va_D (va_A [] H.size) [] := vD_nil
                            obtain ⟨hP, hD⟩ := va_join (wr := [(m2, .inl (cI, 4, .inl gh)), (m3, .inl (cI, 16384, .inl gd)), (h0, .inr (9, [.ref m1, .ref m2, .ref m3, .int ik, .int wy, .int op, .int cl, .int cx0, .int cx1, .int cy0, .int cy1, .int ds, .ref m4, .ref m5, .ref m6, .ref m7, .ref m8, .ref m9, .int pn, .ref m10, .ref m11, .ref m12, .ref m13])), (m1, .inl (cI, 4, .inl gw))]) (w1 := []) hP hD [] [0, 1, 2, 3] rfl rfl (by decide) (by decide) hk1 hFc hP1 hD1
                            clear hz1 hk1 hFc hKc hDc hPc
                            generalize H1 = H at hP hS ⊢
                            have hP : va_P D vwCl [(m2, .inl (cI, 4, .inl gh)), (m3, .inl (cI, 16384, .inl gd)), (h0, .inr (9, [.ref m1, .ref m2, .ref m3, .int ik, .int wy, .int op, .int cl, .int cx0, .int cx1, .int cy0, .int cy1, .int ds, .ref m4, .ref m5, .ref m6, .ref m7, .ref m8, .ref m9, .int pn, .ref m10, .ref m11, .ref m12, .ref m13])), (m1, .inl (cI, 4, .inl gw))] H := hP
                            have hD : va_D A [(m2, .inl (cI, 4, .inl gh)), (m3, .inl (cI, 16384, .inl gd)), (h0, .inr (9, [.ref m1, .ref m2, .ref m3, .int ik, .int wy, .int op, .int cl, .int cx0, .int cx1, .int cy0, .int cy1, .int ds, .ref m4, .ref m5, .ref m6, .ref m7, .ref m8, .ref m9, .int pn, .ref m10, .ref m11, .ref m12, .ref m13])), (m1, .inl (cI, 4, .inl gw))] := hD
                            refine lv_if_eq (tgt := 175) hx hb dX9_look_125 (by decide) (fun c_28 => ?_) (fun c_28 => ?_)
                            · skip
                              have f_29 : r_27.toInt = 0 := f_eq rfl (by decide) c_28
                              obtain ⟨y_30, ey_30⟩ : ∃ y : Int32, y = x5 + 1 := ⟨_, rfl⟩
                              refine lv_iinc (v := y_30) (lv' := [(5, .int y_30), (6, .int y_24), (4, .int x4), (3, .int z3), (0, .ref h0), (1, .int k), (2, .int wh)]) hx hb dX9_look_175 hl (k := 1) rfl (by rw [ey_30]; rfl) (by decide) rfl (fun ls hl => ?_)
                              refine lv_goto (tgt := 73) hx hb dX9_look_178 (by decide) ?_
                              exact ih_19 (i + 1) y_30 z3 _ _ _ (by omega) (by omega) (by rw [ey_30, ex_i]; exact nI_1 i) (hP.sub (ws' := [(m2, .inl (cI, 4, .inl gh)), (m3, .inl (cI, 16384, .inl gd)), (h0, .inr (9, [.ref m1, .ref m2, .ref m3, .int ik, .int wy, .int op, .int cl, .int cx0, .int cx1, .int cy0, .int cy1, .int ds, .ref m4, .ref m5, .ref m6, .ref m7, .ref m8, .ref m9, .int pn, .ref m10, .ref m11, .ref m12, .ref m13])), (m1, .inl (cI, 4, .inl gw))]) [0, 1, 2, 3] rfl) (hD.sub (ws' := [(m2, .inl (cI, 4, .inl gh)), (m3, .inl (cI, 16384, .inl gd)), (h0, .inr (9, [.ref m1, .ref m2, .ref m3, .int ik, .int wy, .int op, .int cl, .int cx0, .int cx1, .int cy0, .int cy1, .int ds, .ref m4, .ref m5, .ref m6, .ref m7, .ref m8, .ref m9, .int pn, .ref m10, .ref m11, .ref m12, .ref m13])), (m1, .inl (cI, 4, .inl gw))]) [0, 1, 2, 3] (by decide) rfl) hS (lv_sub hl [0, 2, 3, 4, 5, 6] rfl)
                            · skip
                              have f_29 : ¬ (r_27.toInt = 0) := fn_eq rfl (by decide) c_28
                              refine lv_iload_n hx hb dX9_look_128 rfl (lv_at hl 6 rfl) ?_
                              refine lv_iconst (v := 2) hx hb dX9_look_129 (by decide) ?_
                              refine lv_icmp_ge (tgt := 138) hx hb dX9_look_130 (by decide) (fun c_31 => ?_) (fun c_31 => ?_)
                              · skip
                                have f_32 : 2 ≤ wh.toInt := f_le (by decide) rfl c_31
                                refine lv_iload hx hb dX9_look_138 (lv_at hl 2 rfl) ?_
                                refine lv_istore (lv' := [(7, .int x4), (6, .int y_24), (5, .int x5), (4, .int x4), (3, .int z3), (0, .ref h0), (1, .int k), (2, .int wh)]) hx hb dX9_look_140 hl (by decide) rfl (fun ls hl => ?_)
                                refine lv_iload_n hx hb dX9_look_142 rfl (lv_at hl 4 rfl) ?_
                                refine lv_iconst (v := (-1)) hx hb dX9_look_143 (by decide) ?_
                                refine lv_icmp_eq (tgt := 172) hx hb dX9_look_144 (by decide) (fun c_33 => ?_) (fun c_33 => ?_)
                                · skip
                                  have f_34 : z3.toInt = (-1) := f_eq rfl (by decide) c_33
                                  refine lv_iload hx hb dX9_look_172 (lv_at hl 0 rfl) ?_
                                  refine lv_istore_n (lv' := [(3, .int x4), (7, .int x4), (6, .int y_24), (5, .int x5), (4, .int x4), (0, .ref h0), (1, .int k), (2, .int wh)]) hx hb dX9_look_174 rfl hl (by decide) rfl (fun ls hl => ?_)
                                  obtain ⟨y_35, ey_35⟩ : ∃ y : Int32, y = x5 + 1 := ⟨_, rfl⟩
                                  refine lv_iinc (v := y_35) (lv' := [(5, .int y_35), (3, .int x4), (7, .int x4), (6, .int y_24), (4, .int x4), (0, .ref h0), (1, .int k), (2, .int wh)]) hx hb dX9_look_175 hl (k := 3) rfl (by rw [ey_35]; rfl) (by decide) rfl (fun ls hl => ?_)
                                  refine lv_goto (tgt := 73) hx hb dX9_look_178 (by decide) ?_
                                  exact ih_19 (i + 1) y_35 x4 _ _ _ (by omega) (by omega) (by rw [ey_35, ex_i]; exact nI_1 i) (hP.sub (ws' := [(m2, .inl (cI, 4, .inl gh)), (m3, .inl (cI, 16384, .inl gd)), (h0, .inr (9, [.ref m1, .ref m2, .ref m3, .int ik, .int wy, .int op, .int cl, .int cx0, .int cx1, .int cy0, .int cy1, .int ds, .ref m4, .ref m5, .ref m6, .ref m7, .ref m8, .ref m9, .int pn, .ref m10, .ref m11, .ref m12, .ref m13])), (m1, .inl (cI, 4, .inl gw))]) [0, 1, 2, 3] rfl) (hD.sub (ws' := [(m2, .inl (cI, 4, .inl gh)), (m3, .inl (cI, 16384, .inl gd)), (h0, .inr (9, [.ref m1, .ref m2, .ref m3, .int ik, .int wy, .int op, .int cl, .int cx0, .int cx1, .int cy0, .int cy1, .int ds, .ref m4, .ref m5, .ref m6, .ref m7, .ref m8, .ref m9, .int pn, .ref m10, .ref m11, .ref m12, .ref m13])), (m1, .inl (cI, 4, .inl gw))]) [0, 1, 2, 3] (by decide) rfl) hS (lv_sub hl [0, 4, 1, 5, 6, 7] rfl)
                                · skip
                                  have f_34 : ¬ (z3.toInt = (-1)) := fn_eq rfl (by decide) c_33
                                  refine lv_iload_n hx hb dX9_look_147 rfl (lv_at hl 7 rfl) ?_
                                  refine lv_iconst (v := 2) hx hb dX9_look_148 (by decide) ?_
                                  refine lv_irem hx hb dX9_look_149 (by decide) ?_
                                  refine lv_topi (fun y_36 ey_36 => ?_)
                                  refine lv_if_ne (tgt := 159) hx hb dX9_look_150 (by decide) (fun c_37 => ?_) (fun c_37 => ?_)
                                  · skip
                                    have f_38 : ¬ (y_36.toInt = 0) := fn_eq rfl (by decide) c_37
                                    refine lv_iload_n hx hb dX9_look_159 rfl (lv_at hl 7 rfl) ?_
                                    refine lv_iconst (v := 2) hx hb dX9_look_160 (by decide) ?_
                                    refine lv_irem hx hb dX9_look_161 (by decide) ?_
                                    refine lv_topi (fun y_39 ey_39 => ?_)
                                    refine lv_iconst (v := 1) hx hb dX9_look_162 (by decide) ?_
                                    refine lv_icmp_ne (tgt := 175) hx hb dX9_look_163 (by decide) (fun c_40 => ?_) (fun c_40 => ?_)
                                    · skip
                                      have f_41 : ¬ (y_39.toInt = 1) := fn_eq rfl (by decide) c_40
                                      obtain ⟨y_42, ey_42⟩ : ∃ y : Int32, y = x5 + 1 := ⟨_, rfl⟩
                                      refine lv_iinc (v := y_42) (lv' := [(5, .int y_42), (7, .int x4), (6, .int y_24), (4, .int x4), (3, .int z3), (0, .ref h0), (1, .int k), (2, .int wh)]) hx hb dX9_look_175 hl (k := 2) rfl (by rw [ey_42]; rfl) (by decide) rfl (fun ls hl => ?_)
                                      refine lv_goto (tgt := 73) hx hb dX9_look_178 (by decide) ?_
                                      exact ih_19 (i + 1) y_42 z3 _ _ _ (by omega) (by omega) (by rw [ey_42, ex_i]; exact nI_1 i) (hP.sub (ws' := [(m2, .inl (cI, 4, .inl gh)), (m3, .inl (cI, 16384, .inl gd)), (h0, .inr (9, [.ref m1, .ref m2, .ref m3, .int ik, .int wy, .int op, .int cl, .int cx0, .int cx1, .int cy0, .int cy1, .int ds, .ref m4, .ref m5, .ref m6, .ref m7, .ref m8, .ref m9, .int pn, .ref m10, .ref m11, .ref m12, .ref m13])), (m1, .inl (cI, 4, .inl gw))]) [0, 1, 2, 3] rfl) (hD.sub (ws' := [(m2, .inl (cI, 4, .inl gh)), (m3, .inl (cI, 16384, .inl gd)), (h0, .inr (9, [.ref m1, .ref m2, .ref m3, .int ik, .int wy, .int op, .int cl, .int cx0, .int cx1, .int cy0, .int cy1, .int ds, .ref m4, .ref m5, .ref m6, .ref m7, .ref m8, .ref m9, .int pn, .ref m10, .ref m11, .ref m12, .ref m13])), (m1, .inl (cI, 4, .inl gw))]) [0, 1, 2, 3] (by decide) rfl) hS (lv_sub hl [0, 3, 4, 5, 6, 7] rfl)
                                    · skip
                                      have f_41 : y_39.toInt = 1 := f_eq rfl (by decide) c_40
                                      refine lv_iload hx hb dX9_look_166 (lv_at hl 0 rfl) ?_
                                      refine lv_iload_n hx hb dX9_look_168 rfl (lv_at hl 4 rfl) ?_
                                      refine lv_icmp_le (tgt := 175) hx hb dX9_look_169 (by decide) (fun c_43 => ?_) (fun c_43 => ?_)
                                      · skip
                                        have f_44 : (j : Int) ≤ z3.toInt := f_le hx_j rfl c_43
                                        obtain ⟨y_45, ey_45⟩ : ∃ y : Int32, y = x5 + 1 := ⟨_, rfl⟩
                                        refine lv_iinc (v := y_45) (lv' := [(5, .int y_45), (7, .int x4), (6, .int y_24), (4, .int x4), (3, .int z3), (0, .ref h0), (1, .int k), (2, .int wh)]) hx hb dX9_look_175 hl (k := 2) rfl (by rw [ey_45]; rfl) (by decide) rfl (fun ls hl => ?_)
                                        refine lv_goto (tgt := 73) hx hb dX9_look_178 (by decide) ?_
                                        exact ih_19 (i + 1) y_45 z3 _ _ _ (by omega) (by omega) (by rw [ey_45, ex_i]; exact nI_1 i) (hP.sub (ws' := [(m2, .inl (cI, 4, .inl gh)), (m3, .inl (cI, 16384, .inl gd)), (h0, .inr (9, [.ref m1, .ref m2, .ref m3, .int ik, .int wy, .int op, .int cl, .int cx0, .int cx1, .int cy0, .int cy1, .int ds, .ref m4, .ref m5, .ref m6, .ref m7, .ref m8, .ref m9, .int pn, .ref m10, .ref m11, .ref m12, .ref m13])), (m1, .inl (cI, 4, .inl gw))]) [0, 1, 2, 3] rfl) (hD.sub (ws' := [(m2, .inl (cI, 4, .inl gh)), (m3, .inl (cI, 16384, .inl gd)), (h0, .inr (9, [.ref m1, .ref m2, .ref m3, .int ik, .int wy, .int op, .int cl, .int cx0, .int cx1, .int cy0, .int cy1, .int ds, .ref m4, .ref m5, .ref m6, .ref m7, .ref m8, .ref m9, .int pn, .ref m10, .ref m11, .ref m12, .ref m13])), (m1, .inl (cI, 4, .inl gw))]) [0, 1, 2, 3] (by decide) rfl) hS (lv_sub hl [0, 3, 4, 5, 6, 7] rfl)
                                      · skip
                                        have f_44 : ¬ ((j : Int) ≤ z3.toInt) := fn_le hx_j rfl c_43
                                        refine lv_iload hx hb dX9_look_172 (lv_at hl 0 rfl) ?_
                                        refine lv_istore_n (lv' := [(3, .int x4), (7, .int x4), (6, .int y_24), (5, .int x5), (4, .int x4), (0, .ref h0), (1, .int k), (2, .int wh)]) hx hb dX9_look_174 rfl hl (by decide) rfl (fun ls hl => ?_)
                                        obtain ⟨y_46, ey_46⟩ : ∃ y : Int32, y = x5 + 1 := ⟨_, rfl⟩
                                        refine lv_iinc (v := y_46) (lv' := [(5, .int y_46), (3, .int x4), (7, .int x4), (6, .int y_24), (4, .int x4), (0, .ref h0), (1, .int k), (2, .int wh)]) hx hb dX9_look_175 hl (k := 3) rfl (by rw [ey_46]; rfl) (by decide) rfl (fun ls hl => ?_)
                                        refine lv_goto (tgt := 73) hx hb dX9_look_178 (by decide) ?_
                                        exact ih_19 (i + 1) y_46 x4 _ _ _ (by omega) (by omega) (by rw [ey_46, ex_i]; exact nI_1 i) (hP.sub (ws' := [(m2, .inl (cI, 4, .inl gh)), (m3, .inl (cI, 16384, .inl gd)), (h0, .inr (9, [.ref m1, .ref m2, .ref m3, .int ik, .int wy, .int op, .int cl, .int cx0, .int cx1, .int cy0, .int cy1, .int ds, .ref m4, .ref m5, .ref m6, .ref m7, .ref m8, .ref m9, .int pn, .ref m10, .ref m11, .ref m12, .ref m13])), (m1, .inl (cI, 4, .inl gw))]) [0, 1, 2, 3] rfl) (hD.sub (ws' := [(m2, .inl (cI, 4, .inl gh)), (m3, .inl (cI, 16384, .inl gd)), (h0, .inr (9, [.ref m1, .ref m2, .ref m3, .int ik, .int wy, .int op, .int cl, .int cx0, .int cx1, .int cy0, .int cy1, .int ds, .ref m4, .ref m5, .ref m6, .ref m7, .ref m8, .ref m9, .int pn, .ref m10, .ref m11, .ref m12, .ref m13])), (m1, .inl (cI, 4, .inl gw))]) [0, 1, 2, 3] (by decide) rfl) hS (lv_sub hl [0, 4, 1, 5, 6, 7] rfl)
                                  · skip
                                    have f_38 : y_36.toInt = 0 := f_eq rfl (by decide) c_37
                                    refine lv_iload hx hb dX9_look_153 (lv_at hl 0 rfl) ?_
                                    refine lv_iload_n hx hb dX9_look_155 rfl (lv_at hl 4 rfl) ?_
                                    refine lv_icmp_lt (tgt := 172) hx hb dX9_look_156 (by decide) (fun c_47 => ?_) (fun c_47 => ?_)
                                    · skip
                                      have f_48 : (j : Int) < z3.toInt := f_lt hx_j rfl c_47
                                      refine lv_iload hx hb dX9_look_172 (lv_at hl 0 rfl) ?_
                                      refine lv_istore_n (lv' := [(3, .int x4), (7, .int x4), (6, .int y_24), (5, .int x5), (4, .int x4), (0, .ref h0), (1, .int k), (2, .int wh)]) hx hb dX9_look_174 rfl hl (by decide) rfl (fun ls hl => ?_)
                                      obtain ⟨y_49, ey_49⟩ : ∃ y : Int32, y = x5 + 1 := ⟨_, rfl⟩
                                      refine lv_iinc (v := y_49) (lv' := [(5, .int y_49), (3, .int x4), (7, .int x4), (6, .int y_24), (4, .int x4), (0, .ref h0), (1, .int k), (2, .int wh)]) hx hb dX9_look_175 hl (k := 3) rfl (by rw [ey_49]; rfl) (by decide) rfl (fun ls hl => ?_)
                                      refine lv_goto (tgt := 73) hx hb dX9_look_178 (by decide) ?_
                                      exact ih_19 (i + 1) y_49 x4 _ _ _ (by omega) (by omega) (by rw [ey_49, ex_i]; exact nI_1 i) (hP.sub (ws' := [(m2, .inl (cI, 4, .inl gh)), (m3, .inl (cI, 16384, .inl gd)), (h0, .inr (9, [.ref m1, .ref m2, .ref m3, .int ik, .int wy, .int op, .int cl, .int cx0, .int cx1, .int cy0, .int cy1, .int ds, .ref m4, .ref m5, .ref m6, .ref m7, .ref m8, .ref m9, .int pn, .ref m10, .ref m11, .ref m12, .ref m13])), (m1, .inl (cI, 4, .inl gw))]) [0, 1, 2, 3] rfl) (hD.sub (ws' := [(m2, .inl (cI, 4, .inl gh)), (m3, .inl (cI, 16384, .inl gd)), (h0, .inr (9, [.ref m1, .ref m2, .ref m3, .int ik, .int wy, .int op, .int cl, .int cx0, .int cx1, .int cy0, .int cy1, .int ds, .ref m4, .ref m5, .ref m6, .ref m7, .ref m8, .ref m9, .int pn, .ref m10, .ref m11, .ref m12, .ref m13])), (m1, .inl (cI, 4, .inl gw))]) [0, 1, 2, 3] (by decide) rfl) hS (lv_sub hl [0, 4, 1, 5, 6, 7] rfl)
                                    · skip
                                      have f_48 : ¬ ((j : Int) < z3.toInt) := fn_lt hx_j rfl c_47
                                      refine lv_iload_n hx hb dX9_look_159 rfl (lv_at hl 7 rfl) ?_
                                      refine lv_iconst (v := 2) hx hb dX9_look_160 (by decide) ?_
                                      refine lv_irem hx hb dX9_look_161 (by decide) ?_
                                      refine lv_topi (fun y_50 ey_50 => ?_)
                                      refine lv_iconst (v := 1) hx hb dX9_look_162 (by decide) ?_
                                      refine lv_icmp_ne (tgt := 175) hx hb dX9_look_163 (by decide) (fun c_51 => ?_) (fun c_51 => ?_)
                                      · skip
                                        have f_52 : ¬ (y_50.toInt = 1) := fn_eq rfl (by decide) c_51
                                        obtain ⟨y_53, ey_53⟩ : ∃ y : Int32, y = x5 + 1 := ⟨_, rfl⟩
                                        refine lv_iinc (v := y_53) (lv' := [(5, .int y_53), (7, .int x4), (6, .int y_24), (4, .int x4), (3, .int z3), (0, .ref h0), (1, .int k), (2, .int wh)]) hx hb dX9_look_175 hl (k := 2) rfl (by rw [ey_53]; rfl) (by decide) rfl (fun ls hl => ?_)
                                        refine lv_goto (tgt := 73) hx hb dX9_look_178 (by decide) ?_
                                        exact ih_19 (i + 1) y_53 z3 _ _ _ (by omega) (by omega) (by rw [ey_53, ex_i]; exact nI_1 i) (hP.sub (ws' := [(m2, .inl (cI, 4, .inl gh)), (m3, .inl (cI, 16384, .inl gd)), (h0, .inr (9, [.ref m1, .ref m2, .ref m3, .int ik, .int wy, .int op, .int cl, .int cx0, .int cx1, .int cy0, .int cy1, .int ds, .ref m4, .ref m5, .ref m6, .ref m7, .ref m8, .ref m9, .int pn, .ref m10, .ref m11, .ref m12, .ref m13])), (m1, .inl (cI, 4, .inl gw))]) [0, 1, 2, 3] rfl) (hD.sub (ws' := [(m2, .inl (cI, 4, .inl gh)), (m3, .inl (cI, 16384, .inl gd)), (h0, .inr (9, [.ref m1, .ref m2, .ref m3, .int ik, .int wy, .int op, .int cl, .int cx0, .int cx1, .int cy0, .int cy1, .int ds, .ref m4, .ref m5, .ref m6, .ref m7, .ref m8, .ref m9, .int pn, .ref m10, .ref m11, .ref m12, .ref m13])), (m1, .inl (cI, 4, .inl gw))]) [0, 1, 2, 3] (by decide) rfl) hS (lv_sub hl [0, 3, 4, 5, 6, 7] rfl)
                                      · skip
                                        have f_52 : y_50.toInt = 1 := f_eq rfl (by decide) c_51
                                        refine lv_iload hx hb dX9_look_166 (lv_at hl 0 rfl) ?_
                                        refine lv_iload_n hx hb dX9_look_168 rfl (lv_at hl 4 rfl) ?_
                                        refine lv_icmp_le (tgt := 175) hx hb dX9_look_169 (by decide) (fun c_54 => ?_) (fun c_54 => ?_)
                                        · skip
                                          have f_55 : (j : Int) ≤ z3.toInt := f_le hx_j rfl c_54
                                          obtain ⟨y_56, ey_56⟩ : ∃ y : Int32, y = x5 + 1 := ⟨_, rfl⟩
                                          refine lv_iinc (v := y_56) (lv' := [(5, .int y_56), (7, .int x4), (6, .int y_24), (4, .int x4), (3, .int z3), (0, .ref h0), (1, .int k), (2, .int wh)]) hx hb dX9_look_175 hl (k := 2) rfl (by rw [ey_56]; rfl) (by decide) rfl (fun ls hl => ?_)
                                          refine lv_goto (tgt := 73) hx hb dX9_look_178 (by decide) ?_
                                          exact ih_19 (i + 1) y_56 z3 _ _ _ (by omega) (by omega) (by rw [ey_56, ex_i]; exact nI_1 i) (hP.sub (ws' := [(m2, .inl (cI, 4, .inl gh)), (m3, .inl (cI, 16384, .inl gd)), (h0, .inr (9, [.ref m1, .ref m2, .ref m3, .int ik, .int wy, .int op, .int cl, .int cx0, .int cx1, .int cy0, .int cy1, .int ds, .ref m4, .ref m5, .ref m6, .ref m7, .ref m8, .ref m9, .int pn, .ref m10, .ref m11, .ref m12, .ref m13])), (m1, .inl (cI, 4, .inl gw))]) [0, 1, 2, 3] rfl) (hD.sub (ws' := [(m2, .inl (cI, 4, .inl gh)), (m3, .inl (cI, 16384, .inl gd)), (h0, .inr (9, [.ref m1, .ref m2, .ref m3, .int ik, .int wy, .int op, .int cl, .int cx0, .int cx1, .int cy0, .int cy1, .int ds, .ref m4, .ref m5, .ref m6, .ref m7, .ref m8, .ref m9, .int pn, .ref m10, .ref m11, .ref m12, .ref m13])), (m1, .inl (cI, 4, .inl gw))]) [0, 1, 2, 3] (by decide) rfl) hS (lv_sub hl [0, 3, 4, 5, 6, 7] rfl)
                                        · skip
                                          have f_55 : ¬ ((j : Int) ≤ z3.toInt) := fn_le hx_j rfl c_54
                                          refine lv_iload hx hb dX9_look_172 (lv_at hl 0 rfl) ?_
                                          refine lv_istore_n (lv' := [(3, .int x4), (7, .int x4), (6, .int y_24), (5, .int x5), (4, .int x4), (0, .ref h0), (1, .int k), (2, .int wh)]) hx hb dX9_look_174 rfl hl (by decide) rfl (fun ls hl => ?_)
                                          obtain ⟨y_57, ey_57⟩ : ∃ y : Int32, y = x5 + 1 := ⟨_, rfl⟩
                                          refine lv_iinc (v := y_57) (lv' := [(5, .int y_57), (3, .int x4), (7, .int x4), (6, .int y_24), (4, .int x4), (0, .ref h0), (1, .int k), (2, .int wh)]) hx hb dX9_look_175 hl (k := 3) rfl (by rw [ey_57]; rfl) (by decide) rfl (fun ls hl => ?_)
                                          refine lv_goto (tgt := 73) hx hb dX9_look_178 (by decide) ?_
                                          exact ih_19 (i + 1) y_57 x4 _ _ _ (by omega) (by omega) (by rw [ey_57, ex_i]; exact nI_1 i) (hP.sub (ws' := [(m2, .inl (cI, 4, .inl gh)), (m3, .inl (cI, 16384, .inl gd)), (h0, .inr (9, [.ref m1, .ref m2, .ref m3, .int ik, .int wy, .int op, .int cl, .int cx0, .int cx1, .int cy0, .int cy1, .int ds, .ref m4, .ref m5, .ref m6, .ref m7, .ref m8, .ref m9, .int pn, .ref m10, .ref m11, .ref m12, .ref m13])), (m1, .inl (cI, 4, .inl gw))]) [0, 1, 2, 3] rfl) (hD.sub (ws' := [(m2, .inl (cI, 4, .inl gh)), (m3, .inl (cI, 16384, .inl gd)), (h0, .inr (9, [.ref m1, .ref m2, .ref m3, .int ik, .int wy, .int op, .int cl, .int cx0, .int cx1, .int cy0, .int cy1, .int ds, .ref m4, .ref m5, .ref m6, .ref m7, .ref m8, .ref m9, .int pn, .ref m10, .ref m11, .ref m12, .ref m13])), (m1, .inl (cI, 4, .inl gw))]) [0, 1, 2, 3] (by decide) rfl) hS (lv_sub hl [0, 4, 1, 5, 6, 7] rfl)
                              · skip
                                have f_32 : ¬ (2 ≤ wh.toInt) := fn_le (by decide) rfl c_31
                                refine lv_iload hx hb dX9_look_133 (lv_at hl 1 rfl) ?_
                                refine lv_goto (tgt := 140) hx hb dX9_look_135 (by decide) ?_
                                refine lv_istore (lv' := [(7, .int x5), (6, .int y_24), (5, .int x5), (4, .int x4), (3, .int z3), (0, .ref h0), (1, .int k), (2, .int wh)]) hx hb dX9_look_140 hl (by decide) rfl (fun ls hl => ?_)
                                refine lv_iload_n hx hb dX9_look_142 rfl (lv_at hl 4 rfl) ?_
                                refine lv_iconst (v := (-1)) hx hb dX9_look_143 (by decide) ?_
                                refine lv_icmp_eq (tgt := 172) hx hb dX9_look_144 (by decide) (fun c_58 => ?_) (fun c_58 => ?_)
                                · skip
                                  have f_59 : z3.toInt = (-1) := f_eq rfl (by decide) c_58
                                  refine lv_iload hx hb dX9_look_172 (lv_at hl 0 rfl) ?_
                                  refine lv_istore_n (lv' := [(3, .int x5), (7, .int x5), (6, .int y_24), (5, .int x5), (4, .int x4), (0, .ref h0), (1, .int k), (2, .int wh)]) hx hb dX9_look_174 rfl hl (by decide) rfl (fun ls hl => ?_)
                                  obtain ⟨y_60, ey_60⟩ : ∃ y : Int32, y = x5 + 1 := ⟨_, rfl⟩
                                  refine lv_iinc (v := y_60) (lv' := [(5, .int y_60), (3, .int x5), (7, .int x5), (6, .int y_24), (4, .int x4), (0, .ref h0), (1, .int k), (2, .int wh)]) hx hb dX9_look_175 hl (k := 3) rfl (by rw [ey_60]; rfl) (by decide) rfl (fun ls hl => ?_)
                                  refine lv_goto (tgt := 73) hx hb dX9_look_178 (by decide) ?_
                                  exact ih_19 (i + 1) y_60 x5 _ _ _ (by omega) (by omega) (by rw [ey_60, ex_i]; exact nI_1 i) (hP.sub (ws' := [(m2, .inl (cI, 4, .inl gh)), (m3, .inl (cI, 16384, .inl gd)), (h0, .inr (9, [.ref m1, .ref m2, .ref m3, .int ik, .int wy, .int op, .int cl, .int cx0, .int cx1, .int cy0, .int cy1, .int ds, .ref m4, .ref m5, .ref m6, .ref m7, .ref m8, .ref m9, .int pn, .ref m10, .ref m11, .ref m12, .ref m13])), (m1, .inl (cI, 4, .inl gw))]) [0, 1, 2, 3] rfl) (hD.sub (ws' := [(m2, .inl (cI, 4, .inl gh)), (m3, .inl (cI, 16384, .inl gd)), (h0, .inr (9, [.ref m1, .ref m2, .ref m3, .int ik, .int wy, .int op, .int cl, .int cx0, .int cx1, .int cy0, .int cy1, .int ds, .ref m4, .ref m5, .ref m6, .ref m7, .ref m8, .ref m9, .int pn, .ref m10, .ref m11, .ref m12, .ref m13])), (m1, .inl (cI, 4, .inl gw))]) [0, 1, 2, 3] (by decide) rfl) hS (lv_sub hl [0, 4, 1, 5, 6, 7] rfl)
                                · skip
                                  have f_59 : ¬ (z3.toInt = (-1)) := fn_eq rfl (by decide) c_58
                                  refine lv_iload_n hx hb dX9_look_147 rfl (lv_at hl 7 rfl) ?_
                                  refine lv_iconst (v := 2) hx hb dX9_look_148 (by decide) ?_
                                  refine lv_irem hx hb dX9_look_149 (by decide) ?_
                                  refine lv_topi (fun y_61 ey_61 => ?_)
                                  refine lv_if_ne (tgt := 159) hx hb dX9_look_150 (by decide) (fun c_62 => ?_) (fun c_62 => ?_)
                                  · skip
                                    have f_63 : ¬ (y_61.toInt = 0) := fn_eq rfl (by decide) c_62
                                    refine lv_iload_n hx hb dX9_look_159 rfl (lv_at hl 7 rfl) ?_
                                    refine lv_iconst (v := 2) hx hb dX9_look_160 (by decide) ?_
                                    refine lv_irem hx hb dX9_look_161 (by decide) ?_
                                    refine lv_topi (fun y_64 ey_64 => ?_)
                                    refine lv_iconst (v := 1) hx hb dX9_look_162 (by decide) ?_
                                    refine lv_icmp_ne (tgt := 175) hx hb dX9_look_163 (by decide) (fun c_65 => ?_) (fun c_65 => ?_)
                                    · skip
                                      have f_66 : ¬ (y_64.toInt = 1) := fn_eq rfl (by decide) c_65
                                      obtain ⟨y_67, ey_67⟩ : ∃ y : Int32, y = x5 + 1 := ⟨_, rfl⟩
                                      refine lv_iinc (v := y_67) (lv' := [(5, .int y_67), (7, .int x5), (6, .int y_24), (4, .int x4), (3, .int z3), (0, .ref h0), (1, .int k), (2, .int wh)]) hx hb dX9_look_175 hl (k := 2) rfl (by rw [ey_67]; rfl) (by decide) rfl (fun ls hl => ?_)
                                      refine lv_goto (tgt := 73) hx hb dX9_look_178 (by decide) ?_
                                      exact ih_19 (i + 1) y_67 z3 _ _ _ (by omega) (by omega) (by rw [ey_67, ex_i]; exact nI_1 i) (hP.sub (ws' := [(m2, .inl (cI, 4, .inl gh)), (m3, .inl (cI, 16384, .inl gd)), (h0, .inr (9, [.ref m1, .ref m2, .ref m3, .int ik, .int wy, .int op, .int cl, .int cx0, .int cx1, .int cy0, .int cy1, .int ds, .ref m4, .ref m5, .ref m6, .ref m7, .ref m8, .ref m9, .int pn, .ref m10, .ref m11, .ref m12, .ref m13])), (m1, .inl (cI, 4, .inl gw))]) [0, 1, 2, 3] rfl) (hD.sub (ws' := [(m2, .inl (cI, 4, .inl gh)), (m3, .inl (cI, 16384, .inl gd)), (h0, .inr (9, [.ref m1, .ref m2, .ref m3, .int ik, .int wy, .int op, .int cl, .int cx0, .int cx1, .int cy0, .int cy1, .int ds, .ref m4, .ref m5, .ref m6, .ref m7, .ref m8, .ref m9, .int pn, .ref m10, .ref m11, .ref m12, .ref m13])), (m1, .inl (cI, 4, .inl gw))]) [0, 1, 2, 3] (by decide) rfl) hS (lv_sub hl [0, 3, 4, 5, 6, 7] rfl)
                                    · skip
                                      have f_66 : y_64.toInt = 1 := f_eq rfl (by decide) c_65
                                      refine lv_iload hx hb dX9_look_166 (lv_at hl 0 rfl) ?_
                                      refine lv_iload_n hx hb dX9_look_168 rfl (lv_at hl 4 rfl) ?_
                                      refine lv_icmp_le (tgt := 175) hx hb dX9_look_169 (by decide) (fun c_68 => ?_) (fun c_68 => ?_)
                                      · skip
                                        have f_69 : (i : Int) ≤ z3.toInt := f_le hx_i rfl c_68
                                        obtain ⟨y_70, ey_70⟩ : ∃ y : Int32, y = x5 + 1 := ⟨_, rfl⟩
                                        refine lv_iinc (v := y_70) (lv' := [(5, .int y_70), (7, .int x5), (6, .int y_24), (4, .int x4), (3, .int z3), (0, .ref h0), (1, .int k), (2, .int wh)]) hx hb dX9_look_175 hl (k := 2) rfl (by rw [ey_70]; rfl) (by decide) rfl (fun ls hl => ?_)
                                        refine lv_goto (tgt := 73) hx hb dX9_look_178 (by decide) ?_
                                        exact ih_19 (i + 1) y_70 z3 _ _ _ (by omega) (by omega) (by rw [ey_70, ex_i]; exact nI_1 i) (hP.sub (ws' := [(m2, .inl (cI, 4, .inl gh)), (m3, .inl (cI, 16384, .inl gd)), (h0, .inr (9, [.ref m1, .ref m2, .ref m3, .int ik, .int wy, .int op, .int cl, .int cx0, .int cx1, .int cy0, .int cy1, .int ds, .ref m4, .ref m5, .ref m6, .ref m7, .ref m8, .ref m9, .int pn, .ref m10, .ref m11, .ref m12, .ref m13])), (m1, .inl (cI, 4, .inl gw))]) [0, 1, 2, 3] rfl) (hD.sub (ws' := [(m2, .inl (cI, 4, .inl gh)), (m3, .inl (cI, 16384, .inl gd)), (h0, .inr (9, [.ref m1, .ref m2, .ref m3, .int ik, .int wy, .int op, .int cl, .int cx0, .int cx1, .int cy0, .int cy1, .int ds, .ref m4, .ref m5, .ref m6, .ref m7, .ref m8, .ref m9, .int pn, .ref m10, .ref m11, .ref m12, .ref m13])), (m1, .inl (cI, 4, .inl gw))]) [0, 1, 2, 3] (by decide) rfl) hS (lv_sub hl [0, 3, 4, 5, 6, 7] rfl)
                                      · skip
                                        have f_69 : ¬ ((i : Int) ≤ z3.toInt) := fn_le hx_i rfl c_68
                                        refine lv_iload hx hb dX9_look_172 (lv_at hl 0 rfl) ?_
                                        refine lv_istore_n (lv' := [(3, .int x5), (7, .int x5), (6, .int y_24), (5, .int x5), (4, .int x4), (0, .ref h0), (1, .int k), (2, .int wh)]) hx hb dX9_look_174 rfl hl (by decide) rfl (fun ls hl => ?_)
                                        obtain ⟨y_71, ey_71⟩ : ∃ y : Int32, y = x5 + 1 := ⟨_, rfl⟩
                                        refine lv_iinc (v := y_71) (lv' := [(5, .int y_71), (3, .int x5), (7, .int x5), (6, .int y_24), (4, .int x4), (0, .ref h0), (1, .int k), (2, .int wh)]) hx hb dX9_look_175 hl (k := 3) rfl (by rw [ey_71]; rfl) (by decide) rfl (fun ls hl => ?_)
                                        refine lv_goto (tgt := 73) hx hb dX9_look_178 (by decide) ?_
                                        exact ih_19 (i + 1) y_71 x5 _ _ _ (by omega) (by omega) (by rw [ey_71, ex_i]; exact nI_1 i) (hP.sub (ws' := [(m2, .inl (cI, 4, .inl gh)), (m3, .inl (cI, 16384, .inl gd)), (h0, .inr (9, [.ref m1, .ref m2, .ref m3, .int ik, .int wy, .int op, .int cl, .int cx0, .int cx1, .int cy0, .int cy1, .int ds, .ref m4, .ref m5, .ref m6, .ref m7, .ref m8, .ref m9, .int pn, .ref m10, .ref m11, .ref m12, .ref m13])), (m1, .inl (cI, 4, .inl gw))]) [0, 1, 2, 3] rfl) (hD.sub (ws' := [(m2, .inl (cI, 4, .inl gh)), (m3, .inl (cI, 16384, .inl gd)), (h0, .inr (9, [.ref m1, .ref m2, .ref m3, .int ik, .int wy, .int op, .int cl, .int cx0, .int cx1, .int cy0, .int cy1, .int ds, .ref m4, .ref m5, .ref m6, .ref m7, .ref m8, .ref m9, .int pn, .ref m10, .ref m11, .ref m12, .ref m13])), (m1, .inl (cI, 4, .inl gw))]) [0, 1, 2, 3] (by decide) rfl) hS (lv_sub hl [0, 4, 1, 5, 6, 7] rfl)
                                  · skip
                                    have f_63 : y_61.toInt = 0 := f_eq rfl (by decide) c_62
                                    refine lv_iload hx hb dX9_look_153 (lv_at hl 0 rfl) ?_
                                    refine lv_iload_n hx hb dX9_look_155 rfl (lv_at hl 4 rfl) ?_
                                    refine lv_icmp_lt (tgt := 172) hx hb dX9_look_156 (by decide) (fun c_72 => ?_) (fun c_72 => ?_)
                                    · skip
                                      have f_73 : (i : Int) < z3.toInt := f_lt hx_i rfl c_72
                                      refine lv_iload hx hb dX9_look_172 (lv_at hl 0 rfl) ?_
                                      refine lv_istore_n (lv' := [(3, .int x5), (7, .int x5), (6, .int y_24), (5, .int x5), (4, .int x4), (0, .ref h0), (1, .int k), (2, .int wh)]) hx hb dX9_look_174 rfl hl (by decide) rfl (fun ls hl => ?_)
                                      obtain ⟨y_74, ey_74⟩ : ∃ y : Int32, y = x5 + 1 := ⟨_, rfl⟩
                                      refine lv_iinc (v := y_74) (lv' := [(5, .int y_74), (3, .int x5), (7, .int x5), (6, .int y_24), (4, .int x4), (0, .ref h0), (1, .int k), (2, .int wh)]) hx hb dX9_look_175 hl (k := 3) rfl (by rw [ey_74]; rfl) (by decide) rfl (fun ls hl => ?_)
                                      refine lv_goto (tgt := 73) hx hb dX9_look_178 (by decide) ?_
                                      exact ih_19 (i + 1) y_74 x5 _ _ _ (by omega) (by omega) (by rw [ey_74, ex_i]; exact nI_1 i) (hP.sub (ws' := [(m2, .inl (cI, 4, .inl gh)), (m3, .inl (cI, 16384, .inl gd)), (h0, .inr (9, [.ref m1, .ref m2, .ref m3, .int ik, .int wy, .int op, .int cl, .int cx0, .int cx1, .int cy0, .int cy1, .int ds, .ref m4, .ref m5, .ref m6, .ref m7, .ref m8, .ref m9, .int pn, .ref m10, .ref m11, .ref m12, .ref m13])), (m1, .inl (cI, 4, .inl gw))]) [0, 1, 2, 3] rfl) (hD.sub (ws' := [(m2, .inl (cI, 4, .inl gh)), (m3, .inl (cI, 16384, .inl gd)), (h0, .inr (9, [.ref m1, .ref m2, .ref m3, .int ik, .int wy, .int op, .int cl, .int cx0, .int cx1, .int cy0, .int cy1, .int ds, .ref m4, .ref m5, .ref m6, .ref m7, .ref m8, .ref m9, .int pn, .ref m10, .ref m11, .ref m12, .ref m13])), (m1, .inl (cI, 4, .inl gw))]) [0, 1, 2, 3] (by decide) rfl) hS (lv_sub hl [0, 4, 1, 5, 6, 7] rfl)
                                    · skip
                                      have f_73 : ¬ ((i : Int) < z3.toInt) := fn_lt hx_i rfl c_72
                                      refine lv_iload_n hx hb dX9_look_159 rfl (lv_at hl 7 rfl) ?_
                                      refine lv_iconst (v := 2) hx hb dX9_look_160 (by decide) ?_
                                      refine lv_irem hx hb dX9_look_161 (by decide) ?_
                                      refine lv_topi (fun y_75 ey_75 => ?_)
                                      refine lv_iconst (v := 1) hx hb dX9_look_162 (by decide) ?_
                                      refine lv_icmp_ne (tgt := 175) hx hb dX9_look_163 (by decide) (fun c_76 => ?_) (fun c_76 => ?_)
                                      · skip
                                        have f_77 : ¬ (y_75.toInt = 1) := fn_eq rfl (by decide) c_76
                                        obtain ⟨y_78, ey_78⟩ : ∃ y : Int32, y = x5 + 1 := ⟨_, rfl⟩
                                        refine lv_iinc (v := y_78) (lv' := [(5, .int y_78), (7, .int x5), (6, .int y_24), (4, .int x4), (3, .int z3), (0, .ref h0), (1, .int k), (2, .int wh)]) hx hb dX9_look_175 hl (k := 2) rfl (by rw [ey_78]; rfl) (by decide) rfl (fun ls hl => ?_)
                                        refine lv_goto (tgt := 73) hx hb dX9_look_178 (by decide) ?_
                                        exact ih_19 (i + 1) y_78 z3 _ _ _ (by omega) (by omega) (by rw [ey_78, ex_i]; exact nI_1 i) (hP.sub (ws' := [(m2, .inl (cI, 4, .inl gh)), (m3, .inl (cI, 16384, .inl gd)), (h0, .inr (9, [.ref m1, .ref m2, .ref m3, .int ik, .int wy, .int op, .int cl, .int cx0, .int cx1, .int cy0, .int cy1, .int ds, .ref m4, .ref m5, .ref m6, .ref m7, .ref m8, .ref m9, .int pn, .ref m10, .ref m11, .ref m12, .ref m13])), (m1, .inl (cI, 4, .inl gw))]) [0, 1, 2, 3] rfl) (hD.sub (ws' := [(m2, .inl (cI, 4, .inl gh)), (m3, .inl (cI, 16384, .inl gd)), (h0, .inr (9, [.ref m1, .ref m2, .ref m3, .int ik, .int wy, .int op, .int cl, .int cx0, .int cx1, .int cy0, .int cy1, .int ds, .ref m4, .ref m5, .ref m6, .ref m7, .ref m8, .ref m9, .int pn, .ref m10, .ref m11, .ref m12, .ref m13])), (m1, .inl (cI, 4, .inl gw))]) [0, 1, 2, 3] (by decide) rfl) hS (lv_sub hl [0, 3, 4, 5, 6, 7] rfl)
                                      · skip
                                        have f_77 : y_75.toInt = 1 := f_eq rfl (by decide) c_76
                                        refine lv_iload hx hb dX9_look_166 (lv_at hl 0 rfl) ?_
                                        refine lv_iload_n hx hb dX9_look_168 rfl (lv_at hl 4 rfl) ?_
                                        refine lv_icmp_le (tgt := 175) hx hb dX9_look_169 (by decide) (fun c_79 => ?_) (fun c_79 => ?_)
                                        · skip
                                          have f_80 : (i : Int) ≤ z3.toInt := f_le hx_i rfl c_79
                                          obtain ⟨y_81, ey_81⟩ : ∃ y : Int32, y = x5 + 1 := ⟨_, rfl⟩
                                          refine lv_iinc (v := y_81) (lv' := [(5, .int y_81), (7, .int x5), (6, .int y_24), (4, .int x4), (3, .int z3), (0, .ref h0), (1, .int k), (2, .int wh)]) hx hb dX9_look_175 hl (k := 2) rfl (by rw [ey_81]; rfl) (by decide) rfl (fun ls hl => ?_)
                                          refine lv_goto (tgt := 73) hx hb dX9_look_178 (by decide) ?_
                                          exact ih_19 (i + 1) y_81 z3 _ _ _ (by omega) (by omega) (by rw [ey_81, ex_i]; exact nI_1 i) (hP.sub (ws' := [(m2, .inl (cI, 4, .inl gh)), (m3, .inl (cI, 16384, .inl gd)), (h0, .inr (9, [.ref m1, .ref m2, .ref m3, .int ik, .int wy, .int op, .int cl, .int cx0, .int cx1, .int cy0, .int cy1, .int ds, .ref m4, .ref m5, .ref m6, .ref m7, .ref m8, .ref m9, .int pn, .ref m10, .ref m11, .ref m12, .ref m13])), (m1, .inl (cI, 4, .inl gw))]) [0, 1, 2, 3] rfl) (hD.sub (ws' := [(m2, .inl (cI, 4, .inl gh)), (m3, .inl (cI, 16384, .inl gd)), (h0, .inr (9, [.ref m1, .ref m2, .ref m3, .int ik, .int wy, .int op, .int cl, .int cx0, .int cx1, .int cy0, .int cy1, .int ds, .ref m4, .ref m5, .ref m6, .ref m7, .ref m8, .ref m9, .int pn, .ref m10, .ref m11, .ref m12, .ref m13])), (m1, .inl (cI, 4, .inl gw))]) [0, 1, 2, 3] (by decide) rfl) hS (lv_sub hl [0, 3, 4, 5, 6, 7] rfl)
                                        · skip
                                          have f_80 : ¬ ((i : Int) ≤ z3.toInt) := fn_le hx_i rfl c_79
                                          refine lv_iload hx hb dX9_look_172 (lv_at hl 0 rfl) ?_
                                          refine lv_istore_n (lv' := [(3, .int x5), (7, .int x5), (6, .int y_24), (5, .int x5), (4, .int x4), (0, .ref h0), (1, .int k), (2, .int wh)]) hx hb dX9_look_174 rfl hl (by decide) rfl (fun ls hl => ?_)
                                          obtain ⟨y_82, ey_82⟩ : ∃ y : Int32, y = x5 + 1 := ⟨_, rfl⟩
                                          refine lv_iinc (v := y_82) (lv' := [(5, .int y_82), (3, .int x5), (7, .int x5), (6, .int y_24), (4, .int x4), (0, .ref h0), (1, .int k), (2, .int wh)]) hx hb dX9_look_175 hl (k := 3) rfl (by rw [ey_82]; rfl) (by decide) rfl (fun ls hl => ?_)
                                          refine lv_goto (tgt := 73) hx hb dX9_look_178 (by decide) ?_
                                          exact ih_19 (i + 1) y_82 x5 _ _ _ (by omega) (by omega) (by rw [ey_82, ex_i]; exact nI_1 i) (hP.sub (ws' := [(m2, .inl (cI, 4, .inl gh)), (m3, .inl (cI, 16384, .inl gd)), (h0, .inr (9, [.ref m1, .ref m2, .ref m3, .int ik, .int wy, .int op, .int cl, .int cx0, .int cx1, .int cy0, .int cy1, .int ds, .ref m4, .ref m5, .ref m6, .ref m7, .ref m8, .ref m9, .int pn, .ref m10, .ref m11, .ref m12, .ref m13])), (m1, .inl (cI, 4, .inl gw))]) [0, 1, 2, 3] rfl) (hD.sub (ws' := [(m2, .inl (cI, 4, .inl gh)), (m3, .inl (cI, 16384, .inl gd)), (h0, .inr (9, [.ref m1, .ref m2, .ref m3, .int ik, .int wy, .int op, .int cl, .int cx0, .int cx1, .int cy0, .int cy1, .int ds, .ref m4, .ref m5, .ref m6, .ref m7, .ref m8, .ref m9, .int pn, .ref m10, .ref m11, .ref m12, .ref m13])), (m1, .inl (cI, 4, .inl gw))]) [0, 1, 2, 3] (by decide) rfl) hS (lv_sub hl [0, 4, 1, 5, 6, 7] rfl)
                          · skip
                            have f_26 : ¬ (wh.toInt ≤ 5) := fn_le rfl (by decide) c_25
                            refine lv_iload_n hx hb dX9_look_104 rfl (lv_at hl 3 rfl) ?_
                            refine lv_iload hx hb dX9_look_105 (lv_at hl 0 rfl) ?_
                            refine lv_iload_n hx hb dX9_look_107 rfl (lv_at hl 6 rfl) ?_
                            refine lv_bipush (v := 6) hx hb dX9_look_108 (by decide) ?_
                            refine lv_isub hx hb dX9_look_110 ?_
                            refine lv_topi (fun y_83 ey_83 => ?_)
                            have hPc := hP.sub (ws' := []) [] rfl
                            have hDc := hD.sub (ws' := []) [] (by decide) rfl
                            have hKc := hK.sub (tys' := []) [] rfl
                            have hFc := va_free (wc := []) hD hS hA [] rfl
                            refine va_calli (va_runS (As := [.int y_24, .int y_83]) (rest := [.int z3]) ⟨hx, hb, hml, hown, hts⟩ (k_X9_channel_a l D H.size y_24 y_83) (va_cwS 2 hts (gS bw_441 bw_438 bw_391 bw_437) rfl rfl rfl (by decide +kernel) ⟨(by rw [hR]; exact Nat.le_of_ble_eq_true rfl), (by rw [hR]; exact Nat.le_of_ble_eq_true rfl)⟩) ⟨cP_blind, cP_at hPc hKc hDc hN⟩ rfl rfl hl.1 rfl (lv_room (Nat.le_of_ble_eq_true rfl)) dX9_look_111 ⟨(by rw [hR]; exact Nat.le_of_ble_eq_true rfl), (by rw [hR]; exact Nat.le_of_ble_eq_true rfl)⟩) hS (fun q _ h => hFc q h) hFc (fun r_84 u9 t9 H1 locs ht hvm hr_84 hB hz1 hk1 hS => ?_)
                            try dsimp only at hr_84
                            have hP1 : va_P D vwCl [] H1 := vP_nil
                            have hD1 : va_D (va_A [] H.size) [] := vD_nil
                            obtain ⟨hP, hD⟩ := va_join (wr := [(m2, .inl (cI, 4, .inl gh)), (m3, .inl (cI, 16384, .inl gd)), (h0, .inr (9, [.ref m1, .ref m2, .ref m3, .int ik, .int wy, .int op, .int cl, .int cx0, .int cx1, .int cy0, .int cy1, .int ds, .ref m4, .ref m5, .ref m6, .ref m7, .ref m8, .ref m9, .int pn, .ref m10, .ref m11, .ref m12, .ref m13])), (m1, .inl (cI, 4, .inl gw))]) (w1 := []) hP hD [] [0, 1, 2, 3] rfl rfl (by decide) (by decide) hk1 hFc hP1 hD1
                            clear hz1 hk1 hFc hKc hDc hPc
                            generalize H1 = H at hP hS ⊢
                            have hP : va_P D vwCl [(m2, .inl (cI, 4, .inl gh)), (m3, .inl (cI, 16384, .inl gd)), (h0, .inr (9, [.ref m1, .ref m2, .ref m3, .int ik, .int wy, .int op, .int cl, .int cx0, .int cx1, .int cy0, .int cy1, .int ds, .ref m4, .ref m5, .ref m6, .ref m7, .ref m8, .ref m9, .int pn, .ref m10, .ref m11, .ref m12, .ref m13])), (m1, .inl (cI, 4, .inl gw))] H := hP
                            have hD : va_D A [(m2, .inl (cI, 4, .inl gh)), (m3, .inl (cI, 16384, .inl gd)), (h0, .inr (9, [.ref m1, .ref m2, .ref m3, .int ik, .int wy, .int op, .int cl, .int cx0, .int cx1, .int cy0, .int cy1, .int ds, .ref m4, .ref m5, .ref m6, .ref m7, .ref m8, .ref m9, .int pn, .ref m10, .ref m11, .ref m12, .ref m13])), (m1, .inl (cI, 4, .inl gw))] := hD
                            refine lv_iadd hx hb dX9_look_114 ?_
                            refine lv_topi (fun y_85 ey_85 => ?_)
                            refine lv_istore_n (lv' := [(3, .int y_85), (6, .int y_24), (5, .int x5), (4, .int x4), (0, .ref h0), (1, .int k), (2, .int wh)]) hx hb dX9_look_115 rfl hl (by decide) rfl (fun ls hl => ?_)
                            refine lv_goto (tgt := 175) hx hb dX9_look_116 (by decide) ?_
                            obtain ⟨y_86, ey_86⟩ : ∃ y : Int32, y = x5 + 1 := ⟨_, rfl⟩
                            refine lv_iinc (v := y_86) (lv' := [(5, .int y_86), (3, .int y_85), (6, .int y_24), (4, .int x4), (0, .ref h0), (1, .int k), (2, .int wh)]) hx hb dX9_look_175 hl (k := 2) rfl (by rw [ey_86]; rfl) (by decide) rfl (fun ls hl => ?_)
                            refine lv_goto (tgt := 73) hx hb dX9_look_178 (by decide) ?_
                            exact ih_19 (i + 1) y_86 y_85 _ _ _ (by omega) (by omega) (by rw [ey_86, ex_i]; exact nI_1 i) (hP.sub (ws' := [(m2, .inl (cI, 4, .inl gh)), (m3, .inl (cI, 16384, .inl gd)), (h0, .inr (9, [.ref m1, .ref m2, .ref m3, .int ik, .int wy, .int op, .int cl, .int cx0, .int cx1, .int cy0, .int cy1, .int ds, .ref m4, .ref m5, .ref m6, .ref m7, .ref m8, .ref m9, .int pn, .ref m10, .ref m11, .ref m12, .ref m13])), (m1, .inl (cI, 4, .inl gw))]) [0, 1, 2, 3] rfl) (hD.sub (ws' := [(m2, .inl (cI, 4, .inl gh)), (m3, .inl (cI, 16384, .inl gd)), (h0, .inr (9, [.ref m1, .ref m2, .ref m3, .int ik, .int wy, .int op, .int cl, .int cx0, .int cx1, .int cy0, .int cy1, .int ds, .ref m4, .ref m5, .ref m6, .ref m7, .ref m8, .ref m9, .int pn, .ref m10, .ref m11, .ref m12, .ref m13])), (m1, .inl (cI, 4, .inl gw))]) [0, 1, 2, 3] (by decide) rfl) hS (lv_sub hl [0, 3, 1, 4, 5, 6] rfl)
                    exact loop_18 (64 + 1) 0 0 x3 _ _ _ (by omega) (by omega) nI_0.symm hP hD hS (lv_sub hl [0, 1, 2, 3, 4, 5] rfl)
              exact loop_14 (64 + 1) 0 0 0 _ _ _ (by omega) (by omega) nI_0.symm hP hD hS (lv_sub hl [0, 1, 2, 3, 4] rfl)
            · skip
              have f_13 : ¬ (6 ≤ wh.toInt) := fn_le (by decide) rfl c_12
              refine lv_iconst (v := (-1)) hx hb dX9_look_50 (by decide) ?_
              refine lv_goto (tgt := 55) hx hb dX9_look_51 (by decide) ?_
              refine lv_istore_n (lv' := [(3, .int (-1)), (0, .ref h0), (1, .int k), (2, .int wh)]) hx hb dX9_look_55 rfl hl (by decide) rfl (fun ls hl => ?_)
              refine lv_iconst (v := 0) hx hb dX9_look_56 (by decide) ?_
              refine lv_istore (lv' := [(4, .int 0), (3, .int (-1)), (0, .ref h0), (1, .int k), (2, .int wh)]) hx hb dX9_look_57 hl (by decide) rfl (fun ls hl => ?_)
              have loop_87 : ∀ (n : Nat) (j : Nat) (x4 : Int32) (x3 : Int32) (H : Heap) (locs : List Loc) (ls : Array Slot), (j ≤ 64) → (64 + 1 ≤ j + n) → (x4 = nI j) → va_P D vwCl [(m2, .inl (cI, 4, .inl gh)), (m3, .inl (cI, 16384, .inl gd)), (h0, .inr (9, [.ref m1, .ref m2, .ref m3, .int ik, .int wy, .int op, .int cl, .int cx0, .int cx1, .int cy0, .int cy1, .int ds, .ref m4, .ref m5, .ref m6, .ref m7, .ref m8, .ref m9, .int pn, .ref m10, .ref m11, .ref m12, .ref m13])), (m1, .inl (cI, 4, .inl gw))] H → va_D A [(m2, .inl (cI, 4, .inl gh)), (m3, .inl (cI, 16384, .inl gd)), (h0, .inr (9, [.ref m1, .ref m2, .ref m3, .int ik, .int wy, .int op, .int cl, .int cx0, .int cx1, .int cy0, .int cy1, .int ds, .ref m4, .ref m5, .ref m6, .ref m7, .ref m8, .ref m9, .int pn, .ref m10, .ref m11, .ref m12, .ref m13])), (m1, .inl (cI, 4, .inl gw))] → va_S A s.heap H locs → lv_has ls 8 [(4, .int x4), (3, .int x3), (0, .ref h0), (1, .int k), (2, .int wh)] → W p l e R s m ([.ref h0, .int k, .int wh] : List Value).toArray below meth c H locs 0 0 Q (F0 m 59 ls []) := by
                intro n
                induction n with
                | zero =>
                  intro j x4 x3 H locs ls hi_j hm_j ex_j hP hD hS hl
                  exact absurd (show False by omega) not_false
                | succ n ih_88 =>
                  intro j x4 x3 H locs ls hi_j hm_j ex_j hP hD hS hl
                  have hx_j : x4.toInt = (j : Int) := by rw [ex_j]; exact nI_toInt (by omega)
                  have hc_j : x4.toNatClampNeg = j := by rw [ex_j]; exact nI_clamp (by omega)
                  refine lv_iload hx hb dX9_look_59 (lv_at hl 0 rfl) ?_
                  refine lv_aload_n hx hb dX9_look_61 rfl (lv_at hl 2 rfl) ?_
                  refine va_get (D := D) (ci := 9) (v := .ref m2) (C := RX9) (T := TX9) (N := 23) hx hb hts hi_X9 hown hK hP 2 rfl rfl 1 (by decide) (hts _ bw_397) (fun _ h9 => h9) rfl dX9_look_62 ?_
                  refine lv_iload_n hx hb dX9_look_65 rfl (lv_at hl 3 rfl) ?_
                  refine va_iald hx hb hK hP 0 0 rfl rfl (vp_in_iff.mpr ⟨by omega, by omega⟩) dX9_look_66 ?_
                  refine lv_icmp_ge (tgt := 187) hx hb dX9_look_67 (by decide) (fun c_89 => ?_) (fun c_89 => ?_)
                  · skip
                    have f_90 : (gh k.toNatClampNeg).toInt ≤ (j : Int) := f_le rfl hx_j c_89
                    refine lv_iload_n hx hb dX9_look_187 rfl (lv_at hl 1 rfl) ?_
                    have hP9 := hP.sub (ws' := [(h0, .inr (9, [.ref m1, .ref m2, .ref m3, .int ik, .int wy, .int op, .int cl, .int cx0, .int cx1, .int cy0, .int cy1, .int ds, .ref m4, .ref m5, .ref m6, .ref m7, .ref m8, .ref m9, .int pn, .ref m10, .ref m11, .ref m12, .ref m13])), (m1, .inl (cI, 4, .inl gw)), (m2, .inl (cI, 4, .inl gh)), (m3, .inl (cI, 16384, .inl gd))]) [2, 3, 0, 1] rfl
                    have hD9 := hD.sub (ws' := [(h0, .inr (9, [.ref m1, .ref m2, .ref m3, .int ik, .int wy, .int op, .int cl, .int cx0, .int cx1, .int cy0, .int cy1, .int ds, .ref m4, .ref m5, .ref m6, .ref m7, .ref m8, .ref m9, .int pn, .ref m10, .ref m11, .ref m12, .ref m13])), (m1, .inl (cI, 4, .inl gw)), (m2, .inl (cI, 4, .inl gh)), (m3, .inl (cI, 16384, .inl gd))]) [2, 3, 0, 1] (by decide) rfl
                    have hK9 := hK.sub (tys' := [(cI, .int)]) [0] rfl
                    refine hQ _ _ _ _ _ ?_
                    exact W.iret (v := x3) hx hb hr (fun t ht hW => ⟨⟨x3, (), rfl, trivial, ⟨by rw [ht]; exact hP9, va_K.moved hW.alike hK9, hD9⟩⟩, hS.F ht⟩) hS.2.2 dX9_look_188
                  · skip
                    have f_90 : ¬ ((gh k.toNatClampNeg).toInt ≤ (j : Int)) := fn_le rfl hx_j c_89
                    refine lv_iconst (v := 0) hx hb dX9_look_70 (by decide) ?_
                    refine lv_istore (lv' := [(5, .int 0), (4, .int x4), (3, .int x3), (0, .ref h0), (1, .int k), (2, .int wh)]) hx hb dX9_look_71 hl (by decide) rfl (fun ls hl => ?_)
                    have loop_91 : ∀ (n : Nat) (i : Nat) (x5 : Int32) (z3 : Int32) (H : Heap) (locs : List Loc) (ls : Array Slot), (i ≤ 64) → (64 + 1 ≤ i + n) → (x5 = nI i) → va_P D vwCl [(m2, .inl (cI, 4, .inl gh)), (m3, .inl (cI, 16384, .inl gd)), (h0, .inr (9, [.ref m1, .ref m2, .ref m3, .int ik, .int wy, .int op, .int cl, .int cx0, .int cx1, .int cy0, .int cy1, .int ds, .ref m4, .ref m5, .ref m6, .ref m7, .ref m8, .ref m9, .int pn, .ref m10, .ref m11, .ref m12, .ref m13])), (m1, .inl (cI, 4, .inl gw))] H → va_D A [(m2, .inl (cI, 4, .inl gh)), (m3, .inl (cI, 16384, .inl gd)), (h0, .inr (9, [.ref m1, .ref m2, .ref m3, .int ik, .int wy, .int op, .int cl, .int cx0, .int cx1, .int cy0, .int cy1, .int ds, .ref m4, .ref m5, .ref m6, .ref m7, .ref m8, .ref m9, .int pn, .ref m10, .ref m11, .ref m12, .ref m13])), (m1, .inl (cI, 4, .inl gw))] → va_S A s.heap H locs → lv_has ls 8 [(5, .int x5), (4, .int x4), (3, .int z3), (0, .ref h0), (1, .int k), (2, .int wh)] → W p l e R s m ([.ref h0, .int k, .int wh] : List Value).toArray below meth c H locs 0 0 Q (F0 m 73 ls []) := by
                      intro n
                      induction n with
                      | zero =>
                        intro i x5 z3 H locs ls hi_i hm_i ex_i hP hD hS hl
                        exact absurd (show False by omega) not_false
                      | succ n ih_92 =>
                        intro i x5 z3 H locs ls hi_i hm_i ex_i hP hD hS hl
                        have hx_i : x5.toInt = (i : Int) := by rw [ex_i]; exact nI_toInt (by omega)
                        have hc_i : x5.toNatClampNeg = i := by rw [ex_i]; exact nI_clamp (by omega)
                        refine lv_iload hx hb dX9_look_73 (lv_at hl 0 rfl) ?_
                        refine lv_aload_n hx hb dX9_look_75 rfl (lv_at hl 3 rfl) ?_
                        refine va_get (D := D) (ci := 9) (v := .ref m1) (C := RX9) (T := TX9) (N := 23) hx hb hts hi_X9 hown hK hP 2 rfl rfl 0 (by decide) (hts _ bw_396) (fun _ h9 => h9) rfl dX9_look_76 ?_
                        refine lv_iload_n hx hb dX9_look_79 rfl (lv_at hl 4 rfl) ?_
                        refine va_iald hx hb hK hP 3 0 rfl rfl (vp_in_iff.mpr ⟨by omega, by omega⟩) dX9_look_80 ?_
                        refine lv_icmp_ge (tgt := 181) hx hb dX9_look_81 (by decide) (fun c_93 => ?_) (fun c_93 => ?_)
                        · skip
                          have f_94 : (gw k.toNatClampNeg).toInt ≤ (i : Int) := f_le rfl hx_i c_93
                          obtain ⟨y_95, ey_95⟩ : ∃ y : Int32, y = x4 + 1 := ⟨_, rfl⟩
                          refine lv_iinc (v := y_95) (lv' := [(4, .int y_95), (5, .int x5), (3, .int z3), (0, .ref h0), (1, .int k), (2, .int wh)]) hx hb dX9_look_181 hl (k := 1) rfl (by rw [ey_95]; rfl) (by decide) rfl (fun ls hl => ?_)
                          refine lv_goto (tgt := 59) hx hb dX9_look_184 (by decide) ?_
                          exact ih_88 (j + 1) y_95 z3 _ _ _ (by omega) (by omega) (by rw [ey_95, ex_j]; exact nI_1 j) (hP.sub (ws' := [(m2, .inl (cI, 4, .inl gh)), (m3, .inl (cI, 16384, .inl gd)), (h0, .inr (9, [.ref m1, .ref m2, .ref m3, .int ik, .int wy, .int op, .int cl, .int cx0, .int cx1, .int cy0, .int cy1, .int ds, .ref m4, .ref m5, .ref m6, .ref m7, .ref m8, .ref m9, .int pn, .ref m10, .ref m11, .ref m12, .ref m13])), (m1, .inl (cI, 4, .inl gw))]) [0, 1, 2, 3] rfl) (hD.sub (ws' := [(m2, .inl (cI, 4, .inl gh)), (m3, .inl (cI, 16384, .inl gd)), (h0, .inr (9, [.ref m1, .ref m2, .ref m3, .int ik, .int wy, .int op, .int cl, .int cx0, .int cx1, .int cy0, .int cy1, .int ds, .ref m4, .ref m5, .ref m6, .ref m7, .ref m8, .ref m9, .int pn, .ref m10, .ref m11, .ref m12, .ref m13])), (m1, .inl (cI, 4, .inl gw))]) [0, 1, 2, 3] (by decide) rfl) hS (lv_sub hl [0, 2, 3, 4, 5] rfl)
                        · skip
                          have f_94 : ¬ ((gw k.toNatClampNeg).toInt ≤ (i : Int)) := fn_le rfl hx_i c_93
                          refine lv_aload_n hx hb dX9_look_84 rfl (lv_at hl 3 rfl) ?_
                          refine va_get (D := D) (ci := 9) (v := .ref m3) (C := RX9) (T := TX9) (N := 23) hx hb hts hi_X9 hown hK hP 2 rfl rfl 2 (by decide) (hts _ bw_398) (fun _ h9 => h9) rfl dX9_look_85 ?_
                          refine lv_iload_n hx hb dX9_look_88 rfl (lv_at hl 4 rfl) ?_
                          refine lv_iload hx hb dX9_look_89 (lv_at hl 0 rfl) ?_
                          refine lv_iload hx hb dX9_look_91 (lv_at hl 1 rfl) ?_
                          have hPc := hP.sub (ws' := []) [] rfl
                          have hDc := hD.sub (ws' := []) [] (by decide) rfl
                          have hKc := hK.sub (tys' := []) [] rfl
                          have hFc := va_free (wc := []) hD hS hA [] rfl
                          refine va_calli (va_runS (As := [.int k, .int x5, .int x4]) (rest := [.ref m3]) ⟨hx, hb, hml, hown, hts⟩ (k_X9_spot l D H.size k x5 x4) (va_cwS 3 hts (gS bw_551 bw_421 bw_391 bw_420) rfl rfl rfl (by decide +kernel) ⟨(by rw [hR]; exact Nat.le_of_ble_eq_true rfl), (by rw [hR]; exact Nat.le_of_ble_eq_true rfl)⟩) ⟨cP_blind, cP_at hPc hKc hDc hN⟩ rfl rfl hl.1 rfl (lv_room (Nat.le_of_ble_eq_true rfl)) dX9_look_93 ⟨(by rw [hR]; exact Nat.le_of_ble_eq_true rfl), (by rw [hR]; exact Nat.le_of_ble_eq_true rfl)⟩) hS (fun q _ h => hFc q h) hFc (fun r_96 u9 t9 H1 locs ht hvm hr_96 hB hz1 hk1 hS => ?_)
                          try dsimp only at hr_96
                          have hP1 : va_P D vwCl [] H1 := vP_nil
                          have hD1 : va_D (va_A [] H.size) [] := vD_nil
                          obtain ⟨hP, hD⟩ := va_join (wr := [(m2, .inl (cI, 4, .inl gh)), (m3, .inl (cI, 16384, .inl gd)), (h0, .inr (9, [.ref m1, .ref m2, .ref m3, .int ik, .int wy, .int op, .int cl, .int cx0, .int cx1, .int cy0, .int cy1, .int ds, .ref m4, .ref m5, .ref m6, .ref m7, .ref m8, .ref m9, .int pn, .ref m10, .ref m11, .ref m12, .ref m13])), (m1, .inl (cI, 4, .inl gw))]) (w1 := []) hP hD [] [0, 1, 2, 3] rfl rfl (by decide) (by decide) hk1 hFc hP1 hD1
                          clear hz1 hk1 hFc hKc hDc hPc
                          generalize H1 = H at hP hS ⊢
                          have hP : va_P D vwCl [(m2, .inl (cI, 4, .inl gh)), (m3, .inl (cI, 16384, .inl gd)), (h0, .inr (9, [.ref m1, .ref m2, .ref m3, .int ik, .int wy, .int op, .int cl, .int cx0, .int cx1, .int cy0, .int cy1, .int ds, .ref m4, .ref m5, .ref m6, .ref m7, .ref m8, .ref m9, .int pn, .ref m10, .ref m11, .ref m12, .ref m13])), (m1, .inl (cI, 4, .inl gw))] H := hP
                          have hD : va_D A [(m2, .inl (cI, 4, .inl gh)), (m3, .inl (cI, 16384, .inl gd)), (h0, .inr (9, [.ref m1, .ref m2, .ref m3, .int ik, .int wy, .int op, .int cl, .int cx0, .int cx1, .int cy0, .int cy1, .int ds, .ref m4, .ref m5, .ref m6, .ref m7, .ref m8, .ref m9, .int pn, .ref m10, .ref m11, .ref m12, .ref m13])), (m1, .inl (cI, 4, .inl gw))] := hD
                          refine va_iald hx hb hK hP 1 0 rfl rfl (by rw [hr_96]; exact sp_in (by omega) (by omega) (by omega) (by omega) (by omega) (by omega)) dX9_look_96 ?_
                          refine lv_topi (fun y_97 ey_97 => ?_)
                          refine lv_istore (lv' := [(6, .int y_97), (5, .int x5), (4, .int x4), (3, .int z3), (0, .ref h0), (1, .int k), (2, .int wh)]) hx hb dX9_look_97 hl (by decide) rfl (fun ls hl => ?_)
                          refine lv_iload_n hx hb dX9_look_99 rfl (lv_at hl 6 rfl) ?_
                          refine lv_iconst (v := 5) hx hb dX9_look_100 (by decide) ?_
                          refine lv_icmp_le (tgt := 119) hx hb dX9_look_101 (by decide) (fun c_98 => ?_) (fun c_98 => ?_)
                          · skip
                            have f_99 : wh.toInt ≤ 5 := f_le rfl (by decide) c_98
                            refine lv_iload hx hb dX9_look_119 (lv_at hl 0 rfl) ?_
                            refine lv_iconst (v := 0) hx hb dX9_look_121 (by decide) ?_
                            have hPc := hP.sub (ws' := []) [] rfl
                            have hDc := hD.sub (ws' := []) [] (by decide) rfl
                            have hKc := hK.sub (tys' := []) [] rfl
                            have hFc := va_free (wc := []) hD hS hA [] rfl
                            refine va_calli (va_runS (As := [.int y_97, .int 0]) (rest := []) ⟨hx, hb, hml, hown, hts⟩ (k_X9_channel_0 l D H.size y_97) (va_cwS 2 hts (gS bw_441 bw_438 bw_391 bw_437) rfl rfl rfl (by decide +kernel) ⟨(by rw [hR]; exact Nat.le_of_ble_eq_true rfl), (by rw [hR]; exact Nat.le_of_ble_eq_true rfl)⟩) ⟨cP_blind, cP_at hPc hKc hDc hN⟩ rfl rfl hl.1 rfl (lv_room (Nat.le_of_ble_eq_true rfl)) dX9_look_122 ⟨(by rw [hR]; exact Nat.le_of_ble_eq_true rfl), (by rw [hR]; exact Nat.le_of_ble_eq_true rfl)⟩) hS (fun q _ h => hFc q h) hFc (fun r_100 u9 t9 H1 locs ht hvm hr_100 hB hz1 hk1 hS => ?_)
                            try dsimp only at hr_100
                            have hP1 : va_P D vwCl [] H1 := vP_nil
                            have hD1 : va_D (va_A [] H.size) [] := vD_nil
                            obtain ⟨hP, hD⟩ := va_join (wr := [(m2, .inl (cI, 4, .inl gh)), (m3, .inl (cI, 16384, .inl gd)), (h0, .inr (9, [.ref m1, .ref m2, .ref m3, .int ik, .int wy, .int op, .int cl, .int cx0, .int cx1, .int cy0, .int cy1, .int ds, .ref m4, .ref m5, .ref m6, .ref m7, .ref m8, .ref m9, .int pn, .ref m10, .ref m11, .ref m12, .ref m13])), (m1, .inl (cI, 4, .inl gw))]) (w1 := []) hP hD [] [0, 1, 2, 3] rfl rfl (by decide) (by decide) hk1 hFc hP1 hD1
                            clear hz1 hk1 hFc hKc hDc hPc
                            generalize H1 = H at hP hS ⊢
                            have hP : va_P D vwCl [(m2, .inl (cI, 4, .inl gh)), (m3, .inl (cI, 16384, .inl gd)), (h0, .inr (9, [.ref m1, .ref m2, .ref m3, .int ik, .int wy, .int op, .int cl, .int cx0, .int cx1, .int cy0, .int cy1, .int ds, .ref m4, .ref m5, .ref m6, .ref m7, .ref m8, .ref m9, .int pn, .ref m10, .ref m11, .ref m12, .ref m13])), (m1, .inl (cI, 4, .inl gw))] H := hP
                            have hD : va_D A [(m2, .inl (cI, 4, .inl gh)), (m3, .inl (cI, 16384, .inl gd)), (h0, .inr (9, [.ref m1, .ref m2, .ref m3, .int ik, .int wy, .int op, .int cl, .int cx0, .int cx1, .int cy0, .int cy1, .int ds, .ref m4, .ref m5, .ref m6, .ref m7, .ref m8, .ref m9, .int pn, .ref m10, .ref m11, .ref m12, .ref m13])), (m1, .inl (cI, 4, .inl gw))] := hD
                            refine lv_if_eq (tgt := 175) hx hb dX9_look_125 (by decide) (fun c_101 => ?_) (fun c_101 => ?_)
                            · skip
                              have f_102 : r_100.toInt = 0 := f_eq rfl (by decide) c_101
                              obtain ⟨y_103, ey_103⟩ : ∃ y : Int32, y = x5 + 1 := ⟨_, rfl⟩
                              refine lv_iinc (v := y_103) (lv' := [(5, .int y_103), (6, .int y_97), (4, .int x4), (3, .int z3), (0, .ref h0), (1, .int k), (2, .int wh)]) hx hb dX9_look_175 hl (k := 1) rfl (by rw [ey_103]; rfl) (by decide) rfl (fun ls hl => ?_)
                              refine lv_goto (tgt := 73) hx hb dX9_look_178 (by decide) ?_
                              exact ih_92 (i + 1) y_103 z3 _ _ _ (by omega) (by omega) (by rw [ey_103, ex_i]; exact nI_1 i) (hP.sub (ws' := [(m2, .inl (cI, 4, .inl gh)), (m3, .inl (cI, 16384, .inl gd)), (h0, .inr (9, [.ref m1, .ref m2, .ref m3, .int ik, .int wy, .int op, .int cl, .int cx0, .int cx1, .int cy0, .int cy1, .int ds, .ref m4, .ref m5, .ref m6, .ref m7, .ref m8, .ref m9, .int pn, .ref m10, .ref m11, .ref m12, .ref m13])), (m1, .inl (cI, 4, .inl gw))]) [0, 1, 2, 3] rfl) (hD.sub (ws' := [(m2, .inl (cI, 4, .inl gh)), (m3, .inl (cI, 16384, .inl gd)), (h0, .inr (9, [.ref m1, .ref m2, .ref m3, .int ik, .int wy, .int op, .int cl, .int cx0, .int cx1, .int cy0, .int cy1, .int ds, .ref m4, .ref m5, .ref m6, .ref m7, .ref m8, .ref m9, .int pn, .ref m10, .ref m11, .ref m12, .ref m13])), (m1, .inl (cI, 4, .inl gw))]) [0, 1, 2, 3] (by decide) rfl) hS (lv_sub hl [0, 2, 3, 4, 5, 6] rfl)
                            · skip
                              have f_102 : ¬ (r_100.toInt = 0) := fn_eq rfl (by decide) c_101
                              refine lv_iload_n hx hb dX9_look_128 rfl (lv_at hl 6 rfl) ?_
                              refine lv_iconst (v := 2) hx hb dX9_look_129 (by decide) ?_
                              refine lv_icmp_ge (tgt := 138) hx hb dX9_look_130 (by decide) (fun c_104 => ?_) (fun c_104 => ?_)
                              · skip
                                have f_105 : 2 ≤ wh.toInt := f_le (by decide) rfl c_104
                                refine lv_iload hx hb dX9_look_138 (lv_at hl 2 rfl) ?_
                                refine lv_istore (lv' := [(7, .int x4), (6, .int y_97), (5, .int x5), (4, .int x4), (3, .int z3), (0, .ref h0), (1, .int k), (2, .int wh)]) hx hb dX9_look_140 hl (by decide) rfl (fun ls hl => ?_)
                                refine lv_iload_n hx hb dX9_look_142 rfl (lv_at hl 4 rfl) ?_
                                refine lv_iconst (v := (-1)) hx hb dX9_look_143 (by decide) ?_
                                refine lv_icmp_eq (tgt := 172) hx hb dX9_look_144 (by decide) (fun c_106 => ?_) (fun c_106 => ?_)
                                · skip
                                  have f_107 : z3.toInt = (-1) := f_eq rfl (by decide) c_106
                                  refine lv_iload hx hb dX9_look_172 (lv_at hl 0 rfl) ?_
                                  refine lv_istore_n (lv' := [(3, .int x4), (7, .int x4), (6, .int y_97), (5, .int x5), (4, .int x4), (0, .ref h0), (1, .int k), (2, .int wh)]) hx hb dX9_look_174 rfl hl (by decide) rfl (fun ls hl => ?_)
                                  obtain ⟨y_108, ey_108⟩ : ∃ y : Int32, y = x5 + 1 := ⟨_, rfl⟩
                                  refine lv_iinc (v := y_108) (lv' := [(5, .int y_108), (3, .int x4), (7, .int x4), (6, .int y_97), (4, .int x4), (0, .ref h0), (1, .int k), (2, .int wh)]) hx hb dX9_look_175 hl (k := 3) rfl (by rw [ey_108]; rfl) (by decide) rfl (fun ls hl => ?_)
                                  refine lv_goto (tgt := 73) hx hb dX9_look_178 (by decide) ?_
                                  exact ih_92 (i + 1) y_108 x4 _ _ _ (by omega) (by omega) (by rw [ey_108, ex_i]; exact nI_1 i) (hP.sub (ws' := [(m2, .inl (cI, 4, .inl gh)), (m3, .inl (cI, 16384, .inl gd)), (h0, .inr (9, [.ref m1, .ref m2, .ref m3, .int ik, .int wy, .int op, .int cl, .int cx0, .int cx1, .int cy0, .int cy1, .int ds, .ref m4, .ref m5, .ref m6, .ref m7, .ref m8, .ref m9, .int pn, .ref m10, .ref m11, .ref m12, .ref m13])), (m1, .inl (cI, 4, .inl gw))]) [0, 1, 2, 3] rfl) (hD.sub (ws' := [(m2, .inl (cI, 4, .inl gh)), (m3, .inl (cI, 16384, .inl gd)), (h0, .inr (9, [.ref m1, .ref m2, .ref m3, .int ik, .int wy, .int op, .int cl, .int cx0, .int cx1, .int cy0, .int cy1, .int ds, .ref m4, .ref m5, .ref m6, .ref m7, .ref m8, .ref m9, .int pn, .ref m10, .ref m11, .ref m12, .ref m13])), (m1, .inl (cI, 4, .inl gw))]) [0, 1, 2, 3] (by decide) rfl) hS (lv_sub hl [0, 4, 1, 5, 6, 7] rfl)
                                · skip
                                  have f_107 : ¬ (z3.toInt = (-1)) := fn_eq rfl (by decide) c_106
                                  refine lv_iload_n hx hb dX9_look_147 rfl (lv_at hl 7 rfl) ?_
                                  refine lv_iconst (v := 2) hx hb dX9_look_148 (by decide) ?_
                                  refine lv_irem hx hb dX9_look_149 (by decide) ?_
                                  refine lv_topi (fun y_109 ey_109 => ?_)
                                  refine lv_if_ne (tgt := 159) hx hb dX9_look_150 (by decide) (fun c_110 => ?_) (fun c_110 => ?_)
                                  · skip
                                    have f_111 : ¬ (y_109.toInt = 0) := fn_eq rfl (by decide) c_110
                                    refine lv_iload_n hx hb dX9_look_159 rfl (lv_at hl 7 rfl) ?_
                                    refine lv_iconst (v := 2) hx hb dX9_look_160 (by decide) ?_
                                    refine lv_irem hx hb dX9_look_161 (by decide) ?_
                                    refine lv_topi (fun y_112 ey_112 => ?_)
                                    refine lv_iconst (v := 1) hx hb dX9_look_162 (by decide) ?_
                                    refine lv_icmp_ne (tgt := 175) hx hb dX9_look_163 (by decide) (fun c_113 => ?_) (fun c_113 => ?_)
                                    · skip
                                      have f_114 : ¬ (y_112.toInt = 1) := fn_eq rfl (by decide) c_113
                                      obtain ⟨y_115, ey_115⟩ : ∃ y : Int32, y = x5 + 1 := ⟨_, rfl⟩
                                      refine lv_iinc (v := y_115) (lv' := [(5, .int y_115), (7, .int x4), (6, .int y_97), (4, .int x4), (3, .int z3), (0, .ref h0), (1, .int k), (2, .int wh)]) hx hb dX9_look_175 hl (k := 2) rfl (by rw [ey_115]; rfl) (by decide) rfl (fun ls hl => ?_)
                                      refine lv_goto (tgt := 73) hx hb dX9_look_178 (by decide) ?_
                                      exact ih_92 (i + 1) y_115 z3 _ _ _ (by omega) (by omega) (by rw [ey_115, ex_i]; exact nI_1 i) (hP.sub (ws' := [(m2, .inl (cI, 4, .inl gh)), (m3, .inl (cI, 16384, .inl gd)), (h0, .inr (9, [.ref m1, .ref m2, .ref m3, .int ik, .int wy, .int op, .int cl, .int cx0, .int cx1, .int cy0, .int cy1, .int ds, .ref m4, .ref m5, .ref m6, .ref m7, .ref m8, .ref m9, .int pn, .ref m10, .ref m11, .ref m12, .ref m13])), (m1, .inl (cI, 4, .inl gw))]) [0, 1, 2, 3] rfl) (hD.sub (ws' := [(m2, .inl (cI, 4, .inl gh)), (m3, .inl (cI, 16384, .inl gd)), (h0, .inr (9, [.ref m1, .ref m2, .ref m3, .int ik, .int wy, .int op, .int cl, .int cx0, .int cx1, .int cy0, .int cy1, .int ds, .ref m4, .ref m5, .ref m6, .ref m7, .ref m8, .ref m9, .int pn, .ref m10, .ref m11, .ref m12, .ref m13])), (m1, .inl (cI, 4, .inl gw))]) [0, 1, 2, 3] (by decide) rfl) hS (lv_sub hl [0, 3, 4, 5, 6, 7] rfl)
                                    · skip
                                      have f_114 : y_112.toInt = 1 := f_eq rfl (by decide) c_113
                                      refine lv_iload hx hb dX9_look_166 (lv_at hl 0 rfl) ?_
                                      refine lv_iload_n hx hb dX9_look_168 rfl (lv_at hl 4 rfl) ?_
                                      refine lv_icmp_le (tgt := 175) hx hb dX9_look_169 (by decide) (fun c_116 => ?_) (fun c_116 => ?_)
                                      · skip
                                        have f_117 : (j : Int) ≤ z3.toInt := f_le hx_j rfl c_116
                                        obtain ⟨y_118, ey_118⟩ : ∃ y : Int32, y = x5 + 1 := ⟨_, rfl⟩
                                        refine lv_iinc (v := y_118) (lv' := [(5, .int y_118), (7, .int x4), (6, .int y_97), (4, .int x4), (3, .int z3), (0, .ref h0), (1, .int k), (2, .int wh)]) hx hb dX9_look_175 hl (k := 2) rfl (by rw [ey_118]; rfl) (by decide) rfl (fun ls hl => ?_)
                                        refine lv_goto (tgt := 73) hx hb dX9_look_178 (by decide) ?_
                                        exact ih_92 (i + 1) y_118 z3 _ _ _ (by omega) (by omega) (by rw [ey_118, ex_i]; exact nI_1 i) (hP.sub (ws' := [(m2, .inl (cI, 4, .inl gh)), (m3, .inl (cI, 16384, .inl gd)), (h0, .inr (9, [.ref m1, .ref m2, .ref m3, .int ik, .int wy, .int op, .int cl, .int cx0, .int cx1, .int cy0, .int cy1, .int ds, .ref m4, .ref m5, .ref m6, .ref m7, .ref m8, .ref m9, .int pn, .ref m10, .ref m11, .ref m12, .ref m13])), (m1, .inl (cI, 4, .inl gw))]) [0, 1, 2, 3] rfl) (hD.sub (ws' := [(m2, .inl (cI, 4, .inl gh)), (m3, .inl (cI, 16384, .inl gd)), (h0, .inr (9, [.ref m1, .ref m2, .ref m3, .int ik, .int wy, .int op, .int cl, .int cx0, .int cx1, .int cy0, .int cy1, .int ds, .ref m4, .ref m5, .ref m6, .ref m7, .ref m8, .ref m9, .int pn, .ref m10, .ref m11, .ref m12, .ref m13])), (m1, .inl (cI, 4, .inl gw))]) [0, 1, 2, 3] (by decide) rfl) hS (lv_sub hl [0, 3, 4, 5, 6, 7] rfl)
                                      · skip
                                        have f_117 : ¬ ((j : Int) ≤ z3.toInt) := fn_le hx_j rfl c_116
                                        refine lv_iload hx hb dX9_look_172 (lv_at hl 0 rfl) ?_
                                        refine lv_istore_n (lv' := [(3, .int x4), (7, .int x4), (6, .int y_97), (5, .int x5), (4, .int x4), (0, .ref h0), (1, .int k), (2, .int wh)]) hx hb dX9_look_174 rfl hl (by decide) rfl (fun ls hl => ?_)
                                        obtain ⟨y_119, ey_119⟩ : ∃ y : Int32, y = x5 + 1 := ⟨_, rfl⟩
                                        refine lv_iinc (v := y_119) (lv' := [(5, .int y_119), (3, .int x4), (7, .int x4), (6, .int y_97), (4, .int x4), (0, .ref h0), (1, .int k), (2, .int wh)]) hx hb dX9_look_175 hl (k := 3) rfl (by rw [ey_119]; rfl) (by decide) rfl (fun ls hl => ?_)
                                        refine lv_goto (tgt := 73) hx hb dX9_look_178 (by decide) ?_
                                        exact ih_92 (i + 1) y_119 x4 _ _ _ (by omega) (by omega) (by rw [ey_119, ex_i]; exact nI_1 i) (hP.sub (ws' := [(m2, .inl (cI, 4, .inl gh)), (m3, .inl (cI, 16384, .inl gd)), (h0, .inr (9, [.ref m1, .ref m2, .ref m3, .int ik, .int wy, .int op, .int cl, .int cx0, .int cx1, .int cy0, .int cy1, .int ds, .ref m4, .ref m5, .ref m6, .ref m7, .ref m8, .ref m9, .int pn, .ref m10, .ref m11, .ref m12, .ref m13])), (m1, .inl (cI, 4, .inl gw))]) [0, 1, 2, 3] rfl) (hD.sub (ws' := [(m2, .inl (cI, 4, .inl gh)), (m3, .inl (cI, 16384, .inl gd)), (h0, .inr (9, [.ref m1, .ref m2, .ref m3, .int ik, .int wy, .int op, .int cl, .int cx0, .int cx1, .int cy0, .int cy1, .int ds, .ref m4, .ref m5, .ref m6, .ref m7, .ref m8, .ref m9, .int pn, .ref m10, .ref m11, .ref m12, .ref m13])), (m1, .inl (cI, 4, .inl gw))]) [0, 1, 2, 3] (by decide) rfl) hS (lv_sub hl [0, 4, 1, 5, 6, 7] rfl)
                                  · skip
                                    have f_111 : y_109.toInt = 0 := f_eq rfl (by decide) c_110
                                    refine lv_iload hx hb dX9_look_153 (lv_at hl 0 rfl) ?_
                                    refine lv_iload_n hx hb dX9_look_155 rfl (lv_at hl 4 rfl) ?_
                                    refine lv_icmp_lt (tgt := 172) hx hb dX9_look_156 (by decide) (fun c_120 => ?_) (fun c_120 => ?_)
                                    · skip
                                      have f_121 : (j : Int) < z3.toInt := f_lt hx_j rfl c_120
                                      refine lv_iload hx hb dX9_look_172 (lv_at hl 0 rfl) ?_
                                      refine lv_istore_n (lv' := [(3, .int x4), (7, .int x4), (6, .int y_97), (5, .int x5), (4, .int x4), (0, .ref h0), (1, .int k), (2, .int wh)]) hx hb dX9_look_174 rfl hl (by decide) rfl (fun ls hl => ?_)
                                      obtain ⟨y_122, ey_122⟩ : ∃ y : Int32, y = x5 + 1 := ⟨_, rfl⟩
                                      refine lv_iinc (v := y_122) (lv' := [(5, .int y_122), (3, .int x4), (7, .int x4), (6, .int y_97), (4, .int x4), (0, .ref h0), (1, .int k), (2, .int wh)]) hx hb dX9_look_175 hl (k := 3) rfl (by rw [ey_122]; rfl) (by decide) rfl (fun ls hl => ?_)
                                      refine lv_goto (tgt := 73) hx hb dX9_look_178 (by decide) ?_
                                      exact ih_92 (i + 1) y_122 x4 _ _ _ (by omega) (by omega) (by rw [ey_122, ex_i]; exact nI_1 i) (hP.sub (ws' := [(m2, .inl (cI, 4, .inl gh)), (m3, .inl (cI, 16384, .inl gd)), (h0, .inr (9, [.ref m1, .ref m2, .ref m3, .int ik, .int wy, .int op, .int cl, .int cx0, .int cx1, .int cy0, .int cy1, .int ds, .ref m4, .ref m5, .ref m6, .ref m7, .ref m8, .ref m9, .int pn, .ref m10, .ref m11, .ref m12, .ref m13])), (m1, .inl (cI, 4, .inl gw))]) [0, 1, 2, 3] rfl) (hD.sub (ws' := [(m2, .inl (cI, 4, .inl gh)), (m3, .inl (cI, 16384, .inl gd)), (h0, .inr (9, [.ref m1, .ref m2, .ref m3, .int ik, .int wy, .int op, .int cl, .int cx0, .int cx1, .int cy0, .int cy1, .int ds, .ref m4, .ref m5, .ref m6, .ref m7, .ref m8, .ref m9, .int pn, .ref m10, .ref m11, .ref m12, .ref m13])), (m1, .inl (cI, 4, .inl gw))]) [0, 1, 2, 3] (by decide) rfl) hS (lv_sub hl [0, 4, 1, 5, 6, 7] rfl)
                                    · skip
                                      have f_121 : ¬ ((j : Int) < z3.toInt) := fn_lt hx_j rfl c_120
                                      refine lv_iload_n hx hb dX9_look_159 rfl (lv_at hl 7 rfl) ?_
                                      refine lv_iconst (v := 2) hx hb dX9_look_160 (by decide) ?_
                                      refine lv_irem hx hb dX9_look_161 (by decide) ?_
                                      refine lv_topi (fun y_123 ey_123 => ?_)
                                      refine lv_iconst (v := 1) hx hb dX9_look_162 (by decide) ?_
                                      refine lv_icmp_ne (tgt := 175) hx hb dX9_look_163 (by decide) (fun c_124 => ?_) (fun c_124 => ?_)
                                      · skip
                                        have f_125 : ¬ (y_123.toInt = 1) := fn_eq rfl (by decide) c_124
                                        obtain ⟨y_126, ey_126⟩ : ∃ y : Int32, y = x5 + 1 := ⟨_, rfl⟩
                                        refine lv_iinc (v := y_126) (lv' := [(5, .int y_126), (7, .int x4), (6, .int y_97), (4, .int x4), (3, .int z3), (0, .ref h0), (1, .int k), (2, .int wh)]) hx hb dX9_look_175 hl (k := 2) rfl (by rw [ey_126]; rfl) (by decide) rfl (fun ls hl => ?_)
                                        refine lv_goto (tgt := 73) hx hb dX9_look_178 (by decide) ?_
                                        exact ih_92 (i + 1) y_126 z3 _ _ _ (by omega) (by omega) (by rw [ey_126, ex_i]; exact nI_1 i) (hP.sub (ws' := [(m2, .inl (cI, 4, .inl gh)), (m3, .inl (cI, 16384, .inl gd)), (h0, .inr (9, [.ref m1, .ref m2, .ref m3, .int ik, .int wy, .int op, .int cl, .int cx0, .int cx1, .int cy0, .int cy1, .int ds, .ref m4, .ref m5, .ref m6, .ref m7, .ref m8, .ref m9, .int pn, .ref m10, .ref m11, .ref m12, .ref m13])), (m1, .inl (cI, 4, .inl gw))]) [0, 1, 2, 3] rfl) (hD.sub (ws' := [(m2, .inl (cI, 4, .inl gh)), (m3, .inl (cI, 16384, .inl gd)), (h0, .inr (9, [.ref m1, .ref m2, .ref m3, .int ik, .int wy, .int op, .int cl, .int cx0, .int cx1, .int cy0, .int cy1, .int ds, .ref m4, .ref m5, .ref m6, .ref m7, .ref m8, .ref m9, .int pn, .ref m10, .ref m11, .ref m12, .ref m13])), (m1, .inl (cI, 4, .inl gw))]) [0, 1, 2, 3] (by decide) rfl) hS (lv_sub hl [0, 3, 4, 5, 6, 7] rfl)
                                      · skip
                                        have f_125 : y_123.toInt = 1 := f_eq rfl (by decide) c_124
                                        refine lv_iload hx hb dX9_look_166 (lv_at hl 0 rfl) ?_
                                        refine lv_iload_n hx hb dX9_look_168 rfl (lv_at hl 4 rfl) ?_
                                        refine lv_icmp_le (tgt := 175) hx hb dX9_look_169 (by decide) (fun c_127 => ?_) (fun c_127 => ?_)
                                        · skip
                                          have f_128 : (j : Int) ≤ z3.toInt := f_le hx_j rfl c_127
                                          obtain ⟨y_129, ey_129⟩ : ∃ y : Int32, y = x5 + 1 := ⟨_, rfl⟩
                                          refine lv_iinc (v := y_129) (lv' := [(5, .int y_129), (7, .int x4), (6, .int y_97), (4, .int x4), (3, .int z3), (0, .ref h0), (1, .int k), (2, .int wh)]) hx hb dX9_look_175 hl (k := 2) rfl (by rw [ey_129]; rfl) (by decide) rfl (fun ls hl => ?_)
                                          refine lv_goto (tgt := 73) hx hb dX9_look_178 (by decide) ?_
                                          exact ih_92 (i + 1) y_129 z3 _ _ _ (by omega) (by omega) (by rw [ey_129, ex_i]; exact nI_1 i) (hP.sub (ws' := [(m2, .inl (cI, 4, .inl gh)), (m3, .inl (cI, 16384, .inl gd)), (h0, .inr (9, [.ref m1, .ref m2, .ref m3, .int ik, .int wy, .int op, .int cl, .int cx0, .int cx1, .int cy0, .int cy1, .int ds, .ref m4, .ref m5, .ref m6, .ref m7, .ref m8, .ref m9, .int pn, .ref m10, .ref m11, .ref m12, .ref m13])), (m1, .inl (cI, 4, .inl gw))]) [0, 1, 2, 3] rfl) (hD.sub (ws' := [(m2, .inl (cI, 4, .inl gh)), (m3, .inl (cI, 16384, .inl gd)), (h0, .inr (9, [.ref m1, .ref m2, .ref m3, .int ik, .int wy, .int op, .int cl, .int cx0, .int cx1, .int cy0, .int cy1, .int ds, .ref m4, .ref m5, .ref m6, .ref m7, .ref m8, .ref m9, .int pn, .ref m10, .ref m11, .ref m12, .ref m13])), (m1, .inl (cI, 4, .inl gw))]) [0, 1, 2, 3] (by decide) rfl) hS (lv_sub hl [0, 3, 4, 5, 6, 7] rfl)
                                        · skip
                                          have f_128 : ¬ ((j : Int) ≤ z3.toInt) := fn_le hx_j rfl c_127
                                          refine lv_iload hx hb dX9_look_172 (lv_at hl 0 rfl) ?_
                                          refine lv_istore_n (lv' := [(3, .int x4), (7, .int x4), (6, .int y_97), (5, .int x5), (4, .int x4), (0, .ref h0), (1, .int k), (2, .int wh)]) hx hb dX9_look_174 rfl hl (by decide) rfl (fun ls hl => ?_)
                                          obtain ⟨y_130, ey_130⟩ : ∃ y : Int32, y = x5 + 1 := ⟨_, rfl⟩
                                          refine lv_iinc (v := y_130) (lv' := [(5, .int y_130), (3, .int x4), (7, .int x4), (6, .int y_97), (4, .int x4), (0, .ref h0), (1, .int k), (2, .int wh)]) hx hb dX9_look_175 hl (k := 3) rfl (by rw [ey_130]; rfl) (by decide) rfl (fun ls hl => ?_)
                                          refine lv_goto (tgt := 73) hx hb dX9_look_178 (by decide) ?_
                                          exact ih_92 (i + 1) y_130 x4 _ _ _ (by omega) (by omega) (by rw [ey_130, ex_i]; exact nI_1 i) (hP.sub (ws' := [(m2, .inl (cI, 4, .inl gh)), (m3, .inl (cI, 16384, .inl gd)), (h0, .inr (9, [.ref m1, .ref m2, .ref m3, .int ik, .int wy, .int op, .int cl, .int cx0, .int cx1, .int cy0, .int cy1, .int ds, .ref m4, .ref m5, .ref m6, .ref m7, .ref m8, .ref m9, .int pn, .ref m10, .ref m11, .ref m12, .ref m13])), (m1, .inl (cI, 4, .inl gw))]) [0, 1, 2, 3] rfl) (hD.sub (ws' := [(m2, .inl (cI, 4, .inl gh)), (m3, .inl (cI, 16384, .inl gd)), (h0, .inr (9, [.ref m1, .ref m2, .ref m3, .int ik, .int wy, .int op, .int cl, .int cx0, .int cx1, .int cy0, .int cy1, .int ds, .ref m4, .ref m5, .ref m6, .ref m7, .ref m8, .ref m9, .int pn, .ref m10, .ref m11, .ref m12, .ref m13])), (m1, .inl (cI, 4, .inl gw))]) [0, 1, 2, 3] (by decide) rfl) hS (lv_sub hl [0, 4, 1, 5, 6, 7] rfl)
                              · skip
                                have f_105 : ¬ (2 ≤ wh.toInt) := fn_le (by decide) rfl c_104
                                refine lv_iload hx hb dX9_look_133 (lv_at hl 1 rfl) ?_
                                refine lv_goto (tgt := 140) hx hb dX9_look_135 (by decide) ?_
                                refine lv_istore (lv' := [(7, .int x5), (6, .int y_97), (5, .int x5), (4, .int x4), (3, .int z3), (0, .ref h0), (1, .int k), (2, .int wh)]) hx hb dX9_look_140 hl (by decide) rfl (fun ls hl => ?_)
                                refine lv_iload_n hx hb dX9_look_142 rfl (lv_at hl 4 rfl) ?_
                                refine lv_iconst (v := (-1)) hx hb dX9_look_143 (by decide) ?_
                                refine lv_icmp_eq (tgt := 172) hx hb dX9_look_144 (by decide) (fun c_131 => ?_) (fun c_131 => ?_)
                                · skip
                                  have f_132 : z3.toInt = (-1) := f_eq rfl (by decide) c_131
                                  refine lv_iload hx hb dX9_look_172 (lv_at hl 0 rfl) ?_
                                  refine lv_istore_n (lv' := [(3, .int x5), (7, .int x5), (6, .int y_97), (5, .int x5), (4, .int x4), (0, .ref h0), (1, .int k), (2, .int wh)]) hx hb dX9_look_174 rfl hl (by decide) rfl (fun ls hl => ?_)
                                  obtain ⟨y_133, ey_133⟩ : ∃ y : Int32, y = x5 + 1 := ⟨_, rfl⟩
                                  refine lv_iinc (v := y_133) (lv' := [(5, .int y_133), (3, .int x5), (7, .int x5), (6, .int y_97), (4, .int x4), (0, .ref h0), (1, .int k), (2, .int wh)]) hx hb dX9_look_175 hl (k := 3) rfl (by rw [ey_133]; rfl) (by decide) rfl (fun ls hl => ?_)
                                  refine lv_goto (tgt := 73) hx hb dX9_look_178 (by decide) ?_
                                  exact ih_92 (i + 1) y_133 x5 _ _ _ (by omega) (by omega) (by rw [ey_133, ex_i]; exact nI_1 i) (hP.sub (ws' := [(m2, .inl (cI, 4, .inl gh)), (m3, .inl (cI, 16384, .inl gd)), (h0, .inr (9, [.ref m1, .ref m2, .ref m3, .int ik, .int wy, .int op, .int cl, .int cx0, .int cx1, .int cy0, .int cy1, .int ds, .ref m4, .ref m5, .ref m6, .ref m7, .ref m8, .ref m9, .int pn, .ref m10, .ref m11, .ref m12, .ref m13])), (m1, .inl (cI, 4, .inl gw))]) [0, 1, 2, 3] rfl) (hD.sub (ws' := [(m2, .inl (cI, 4, .inl gh)), (m3, .inl (cI, 16384, .inl gd)), (h0, .inr (9, [.ref m1, .ref m2, .ref m3, .int ik, .int wy, .int op, .int cl, .int cx0, .int cx1, .int cy0, .int cy1, .int ds, .ref m4, .ref m5, .ref m6, .ref m7, .ref m8, .ref m9, .int pn, .ref m10, .ref m11, .ref m12, .ref m13])), (m1, .inl (cI, 4, .inl gw))]) [0, 1, 2, 3] (by decide) rfl) hS (lv_sub hl [0, 4, 1, 5, 6, 7] rfl)
                                · skip
                                  have f_132 : ¬ (z3.toInt = (-1)) := fn_eq rfl (by decide) c_131
                                  refine lv_iload_n hx hb dX9_look_147 rfl (lv_at hl 7 rfl) ?_
                                  refine lv_iconst (v := 2) hx hb dX9_look_148 (by decide) ?_
                                  refine lv_irem hx hb dX9_look_149 (by decide) ?_
                                  refine lv_topi (fun y_134 ey_134 => ?_)
                                  refine lv_if_ne (tgt := 159) hx hb dX9_look_150 (by decide) (fun c_135 => ?_) (fun c_135 => ?_)
                                  · skip
                                    have f_136 : ¬ (y_134.toInt = 0) := fn_eq rfl (by decide) c_135
                                    refine lv_iload_n hx hb dX9_look_159 rfl (lv_at hl 7 rfl) ?_
                                    refine lv_iconst (v := 2) hx hb dX9_look_160 (by decide) ?_
                                    refine lv_irem hx hb dX9_look_161 (by decide) ?_
                                    refine lv_topi (fun y_137 ey_137 => ?_)
                                    refine lv_iconst (v := 1) hx hb dX9_look_162 (by decide) ?_
                                    refine lv_icmp_ne (tgt := 175) hx hb dX9_look_163 (by decide) (fun c_138 => ?_) (fun c_138 => ?_)
                                    · skip
                                      have f_139 : ¬ (y_137.toInt = 1) := fn_eq rfl (by decide) c_138
                                      obtain ⟨y_140, ey_140⟩ : ∃ y : Int32, y = x5 + 1 := ⟨_, rfl⟩
                                      refine lv_iinc (v := y_140) (lv' := [(5, .int y_140), (7, .int x5), (6, .int y_97), (4, .int x4), (3, .int z3), (0, .ref h0), (1, .int k), (2, .int wh)]) hx hb dX9_look_175 hl (k := 2) rfl (by rw [ey_140]; rfl) (by decide) rfl (fun ls hl => ?_)
                                      refine lv_goto (tgt := 73) hx hb dX9_look_178 (by decide) ?_
                                      exact ih_92 (i + 1) y_140 z3 _ _ _ (by omega) (by omega) (by rw [ey_140, ex_i]; exact nI_1 i) (hP.sub (ws' := [(m2, .inl (cI, 4, .inl gh)), (m3, .inl (cI, 16384, .inl gd)), (h0, .inr (9, [.ref m1, .ref m2, .ref m3, .int ik, .int wy, .int op, .int cl, .int cx0, .int cx1, .int cy0, .int cy1, .int ds, .ref m4, .ref m5, .ref m6, .ref m7, .ref m8, .ref m9, .int pn, .ref m10, .ref m11, .ref m12, .ref m13])), (m1, .inl (cI, 4, .inl gw))]) [0, 1, 2, 3] rfl) (hD.sub (ws' := [(m2, .inl (cI, 4, .inl gh)), (m3, .inl (cI, 16384, .inl gd)), (h0, .inr (9, [.ref m1, .ref m2, .ref m3, .int ik, .int wy, .int op, .int cl, .int cx0, .int cx1, .int cy0, .int cy1, .int ds, .ref m4, .ref m5, .ref m6, .ref m7, .ref m8, .ref m9, .int pn, .ref m10, .ref m11, .ref m12, .ref m13])), (m1, .inl (cI, 4, .inl gw))]) [0, 1, 2, 3] (by decide) rfl) hS (lv_sub hl [0, 3, 4, 5, 6, 7] rfl)
                                    · skip
                                      have f_139 : y_137.toInt = 1 := f_eq rfl (by decide) c_138
                                      refine lv_iload hx hb dX9_look_166 (lv_at hl 0 rfl) ?_
                                      refine lv_iload_n hx hb dX9_look_168 rfl (lv_at hl 4 rfl) ?_
                                      refine lv_icmp_le (tgt := 175) hx hb dX9_look_169 (by decide) (fun c_141 => ?_) (fun c_141 => ?_)
                                      · skip
                                        have f_142 : (i : Int) ≤ z3.toInt := f_le hx_i rfl c_141
                                        obtain ⟨y_143, ey_143⟩ : ∃ y : Int32, y = x5 + 1 := ⟨_, rfl⟩
                                        refine lv_iinc (v := y_143) (lv' := [(5, .int y_143), (7, .int x5), (6, .int y_97), (4, .int x4), (3, .int z3), (0, .ref h0), (1, .int k), (2, .int wh)]) hx hb dX9_look_175 hl (k := 2) rfl (by rw [ey_143]; rfl) (by decide) rfl (fun ls hl => ?_)
                                        refine lv_goto (tgt := 73) hx hb dX9_look_178 (by decide) ?_
                                        exact ih_92 (i + 1) y_143 z3 _ _ _ (by omega) (by omega) (by rw [ey_143, ex_i]; exact nI_1 i) (hP.sub (ws' := [(m2, .inl (cI, 4, .inl gh)), (m3, .inl (cI, 16384, .inl gd)), (h0, .inr (9, [.ref m1, .ref m2, .ref m3, .int ik, .int wy, .int op, .int cl, .int cx0, .int cx1, .int cy0, .int cy1, .int ds, .ref m4, .ref m5, .ref m6, .ref m7, .ref m8, .ref m9, .int pn, .ref m10, .ref m11, .ref m12, .ref m13])), (m1, .inl (cI, 4, .inl gw))]) [0, 1, 2, 3] rfl) (hD.sub (ws' := [(m2, .inl (cI, 4, .inl gh)), (m3, .inl (cI, 16384, .inl gd)), (h0, .inr (9, [.ref m1, .ref m2, .ref m3, .int ik, .int wy, .int op, .int cl, .int cx0, .int cx1, .int cy0, .int cy1, .int ds, .ref m4, .ref m5, .ref m6, .ref m7, .ref m8, .ref m9, .int pn, .ref m10, .ref m11, .ref m12, .ref m13])), (m1, .inl (cI, 4, .inl gw))]) [0, 1, 2, 3] (by decide) rfl) hS (lv_sub hl [0, 3, 4, 5, 6, 7] rfl)
                                      · skip
                                        have f_142 : ¬ ((i : Int) ≤ z3.toInt) := fn_le hx_i rfl c_141
                                        refine lv_iload hx hb dX9_look_172 (lv_at hl 0 rfl) ?_
                                        refine lv_istore_n (lv' := [(3, .int x5), (7, .int x5), (6, .int y_97), (5, .int x5), (4, .int x4), (0, .ref h0), (1, .int k), (2, .int wh)]) hx hb dX9_look_174 rfl hl (by decide) rfl (fun ls hl => ?_)
                                        obtain ⟨y_144, ey_144⟩ : ∃ y : Int32, y = x5 + 1 := ⟨_, rfl⟩
                                        refine lv_iinc (v := y_144) (lv' := [(5, .int y_144), (3, .int x5), (7, .int x5), (6, .int y_97), (4, .int x4), (0, .ref h0), (1, .int k), (2, .int wh)]) hx hb dX9_look_175 hl (k := 3) rfl (by rw [ey_144]; rfl) (by decide) rfl (fun ls hl => ?_)
                                        refine lv_goto (tgt := 73) hx hb dX9_look_178 (by decide) ?_
                                        exact ih_92 (i + 1) y_144 x5 _ _ _ (by omega) (by omega) (by rw [ey_144, ex_i]; exact nI_1 i) (hP.sub (ws' := [(m2, .inl (cI, 4, .inl gh)), (m3, .inl (cI, 16384, .inl gd)), (h0, .inr (9, [.ref m1, .ref m2, .ref m3, .int ik, .int wy, .int op, .int cl, .int cx0, .int cx1, .int cy0, .int cy1, .int ds, .ref m4, .ref m5, .ref m6, .ref m7, .ref m8, .ref m9, .int pn, .ref m10, .ref m11, .ref m12, .ref m13])), (m1, .inl (cI, 4, .inl gw))]) [0, 1, 2, 3] rfl) (hD.sub (ws' := [(m2, .inl (cI, 4, .inl gh)), (m3, .inl (cI, 16384, .inl gd)), (h0, .inr (9, [.ref m1, .ref m2, .ref m3, .int ik, .int wy, .int op, .int cl, .int cx0, .int cx1, .int cy0, .int cy1, .int ds, .ref m4, .ref m5, .ref m6, .ref m7, .ref m8, .ref m9, .int pn, .ref m10, .ref m11, .ref m12, .ref m13])), (m1, .inl (cI, 4, .inl gw))]) [0, 1, 2, 3] (by decide) rfl) hS (lv_sub hl [0, 4, 1, 5, 6, 7] rfl)
                                  · skip
                                    have f_136 : y_134.toInt = 0 := f_eq rfl (by decide) c_135
                                    refine lv_iload hx hb dX9_look_153 (lv_at hl 0 rfl) ?_
                                    refine lv_iload_n hx hb dX9_look_155 rfl (lv_at hl 4 rfl) ?_
                                    refine lv_icmp_lt (tgt := 172) hx hb dX9_look_156 (by decide) (fun c_145 => ?_) (fun c_145 => ?_)
                                    · skip
                                      have f_146 : (i : Int) < z3.toInt := f_lt hx_i rfl c_145
                                      refine lv_iload hx hb dX9_look_172 (lv_at hl 0 rfl) ?_
                                      refine lv_istore_n (lv' := [(3, .int x5), (7, .int x5), (6, .int y_97), (5, .int x5), (4, .int x4), (0, .ref h0), (1, .int k), (2, .int wh)]) hx hb dX9_look_174 rfl hl (by decide) rfl (fun ls hl => ?_)
                                      obtain ⟨y_147, ey_147⟩ : ∃ y : Int32, y = x5 + 1 := ⟨_, rfl⟩
                                      refine lv_iinc (v := y_147) (lv' := [(5, .int y_147), (3, .int x5), (7, .int x5), (6, .int y_97), (4, .int x4), (0, .ref h0), (1, .int k), (2, .int wh)]) hx hb dX9_look_175 hl (k := 3) rfl (by rw [ey_147]; rfl) (by decide) rfl (fun ls hl => ?_)
                                      refine lv_goto (tgt := 73) hx hb dX9_look_178 (by decide) ?_
                                      exact ih_92 (i + 1) y_147 x5 _ _ _ (by omega) (by omega) (by rw [ey_147, ex_i]; exact nI_1 i) (hP.sub (ws' := [(m2, .inl (cI, 4, .inl gh)), (m3, .inl (cI, 16384, .inl gd)), (h0, .inr (9, [.ref m1, .ref m2, .ref m3, .int ik, .int wy, .int op, .int cl, .int cx0, .int cx1, .int cy0, .int cy1, .int ds, .ref m4, .ref m5, .ref m6, .ref m7, .ref m8, .ref m9, .int pn, .ref m10, .ref m11, .ref m12, .ref m13])), (m1, .inl (cI, 4, .inl gw))]) [0, 1, 2, 3] rfl) (hD.sub (ws' := [(m2, .inl (cI, 4, .inl gh)), (m3, .inl (cI, 16384, .inl gd)), (h0, .inr (9, [.ref m1, .ref m2, .ref m3, .int ik, .int wy, .int op, .int cl, .int cx0, .int cx1, .int cy0, .int cy1, .int ds, .ref m4, .ref m5, .ref m6, .ref m7, .ref m8, .ref m9, .int pn, .ref m10, .ref m11, .ref m12, .ref m13])), (m1, .inl (cI, 4, .inl gw))]) [0, 1, 2, 3] (by decide) rfl) hS (lv_sub hl [0, 4, 1, 5, 6, 7] rfl)
                                    · skip
                                      have f_146 : ¬ ((i : Int) < z3.toInt) := fn_lt hx_i rfl c_145
                                      refine lv_iload_n hx hb dX9_look_159 rfl (lv_at hl 7 rfl) ?_
                                      refine lv_iconst (v := 2) hx hb dX9_look_160 (by decide) ?_
                                      refine lv_irem hx hb dX9_look_161 (by decide) ?_
                                      refine lv_topi (fun y_148 ey_148 => ?_)
                                      refine lv_iconst (v := 1) hx hb dX9_look_162 (by decide) ?_
                                      refine lv_icmp_ne (tgt := 175) hx hb dX9_look_163 (by decide) (fun c_149 => ?_) (fun c_149 => ?_)
                                      · skip
                                        have f_150 : ¬ (y_148.toInt = 1) := fn_eq rfl (by decide) c_149
                                        obtain ⟨y_151, ey_151⟩ : ∃ y : Int32, y = x5 + 1 := ⟨_, rfl⟩
                                        refine lv_iinc (v := y_151) (lv' := [(5, .int y_151), (7, .int x5), (6, .int y_97), (4, .int x4), (3, .int z3), (0, .ref h0), (1, .int k), (2, .int wh)]) hx hb dX9_look_175 hl (k := 2) rfl (by rw [ey_151]; rfl) (by decide) rfl (fun ls hl => ?_)
                                        refine lv_goto (tgt := 73) hx hb dX9_look_178 (by decide) ?_
                                        exact ih_92 (i + 1) y_151 z3 _ _ _ (by omega) (by omega) (by rw [ey_151, ex_i]; exact nI_1 i) (hP.sub (ws' := [(m2, .inl (cI, 4, .inl gh)), (m3, .inl (cI, 16384, .inl gd)), (h0, .inr (9, [.ref m1, .ref m2, .ref m3, .int ik, .int wy, .int op, .int cl, .int cx0, .int cx1, .int cy0, .int cy1, .int ds, .ref m4, .ref m5, .ref m6, .ref m7, .ref m8, .ref m9, .int pn, .ref m10, .ref m11, .ref m12, .ref m13])), (m1, .inl (cI, 4, .inl gw))]) [0, 1, 2, 3] rfl) (hD.sub (ws' := [(m2, .inl (cI, 4, .inl gh)), (m3, .inl (cI, 16384, .inl gd)), (h0, .inr (9, [.ref m1, .ref m2, .ref m3, .int ik, .int wy, .int op, .int cl, .int cx0, .int cx1, .int cy0, .int cy1, .int ds, .ref m4, .ref m5, .ref m6, .ref m7, .ref m8, .ref m9, .int pn, .ref m10, .ref m11, .ref m12, .ref m13])), (m1, .inl (cI, 4, .inl gw))]) [0, 1, 2, 3] (by decide) rfl) hS (lv_sub hl [0, 3, 4, 5, 6, 7] rfl)
                                      · skip
                                        have f_150 : y_148.toInt = 1 := f_eq rfl (by decide) c_149
                                        refine lv_iload hx hb dX9_look_166 (lv_at hl 0 rfl) ?_
                                        refine lv_iload_n hx hb dX9_look_168 rfl (lv_at hl 4 rfl) ?_
                                        refine lv_icmp_le (tgt := 175) hx hb dX9_look_169 (by decide) (fun c_152 => ?_) (fun c_152 => ?_)
                                        · skip
                                          have f_153 : (i : Int) ≤ z3.toInt := f_le hx_i rfl c_152
                                          obtain ⟨y_154, ey_154⟩ : ∃ y : Int32, y = x5 + 1 := ⟨_, rfl⟩
                                          refine lv_iinc (v := y_154) (lv' := [(5, .int y_154), (7, .int x5), (6, .int y_97), (4, .int x4), (3, .int z3), (0, .ref h0), (1, .int k), (2, .int wh)]) hx hb dX9_look_175 hl (k := 2) rfl (by rw [ey_154]; rfl) (by decide) rfl (fun ls hl => ?_)
                                          refine lv_goto (tgt := 73) hx hb dX9_look_178 (by decide) ?_
                                          exact ih_92 (i + 1) y_154 z3 _ _ _ (by omega) (by omega) (by rw [ey_154, ex_i]; exact nI_1 i) (hP.sub (ws' := [(m2, .inl (cI, 4, .inl gh)), (m3, .inl (cI, 16384, .inl gd)), (h0, .inr (9, [.ref m1, .ref m2, .ref m3, .int ik, .int wy, .int op, .int cl, .int cx0, .int cx1, .int cy0, .int cy1, .int ds, .ref m4, .ref m5, .ref m6, .ref m7, .ref m8, .ref m9, .int pn, .ref m10, .ref m11, .ref m12, .ref m13])), (m1, .inl (cI, 4, .inl gw))]) [0, 1, 2, 3] rfl) (hD.sub (ws' := [(m2, .inl (cI, 4, .inl gh)), (m3, .inl (cI, 16384, .inl gd)), (h0, .inr (9, [.ref m1, .ref m2, .ref m3, .int ik, .int wy, .int op, .int cl, .int cx0, .int cx1, .int cy0, .int cy1, .int ds, .ref m4, .ref m5, .ref m6, .ref m7, .ref m8, .ref m9, .int pn, .ref m10, .ref m11, .ref m12, .ref m13])), (m1, .inl (cI, 4, .inl gw))]) [0, 1, 2, 3] (by decide) rfl) hS (lv_sub hl [0, 3, 4, 5, 6, 7] rfl)
                                        · skip
                                          have f_153 : ¬ ((i : Int) ≤ z3.toInt) := fn_le hx_i rfl c_152
                                          refine lv_iload hx hb dX9_look_172 (lv_at hl 0 rfl) ?_
                                          refine lv_istore_n (lv' := [(3, .int x5), (7, .int x5), (6, .int y_97), (5, .int x5), (4, .int x4), (0, .ref h0), (1, .int k), (2, .int wh)]) hx hb dX9_look_174 rfl hl (by decide) rfl (fun ls hl => ?_)
                                          obtain ⟨y_155, ey_155⟩ : ∃ y : Int32, y = x5 + 1 := ⟨_, rfl⟩
                                          refine lv_iinc (v := y_155) (lv' := [(5, .int y_155), (3, .int x5), (7, .int x5), (6, .int y_97), (4, .int x4), (0, .ref h0), (1, .int k), (2, .int wh)]) hx hb dX9_look_175 hl (k := 3) rfl (by rw [ey_155]; rfl) (by decide) rfl (fun ls hl => ?_)
                                          refine lv_goto (tgt := 73) hx hb dX9_look_178 (by decide) ?_
                                          exact ih_92 (i + 1) y_155 x5 _ _ _ (by omega) (by omega) (by rw [ey_155, ex_i]; exact nI_1 i) (hP.sub (ws' := [(m2, .inl (cI, 4, .inl gh)), (m3, .inl (cI, 16384, .inl gd)), (h0, .inr (9, [.ref m1, .ref m2, .ref m3, .int ik, .int wy, .int op, .int cl, .int cx0, .int cx1, .int cy0, .int cy1, .int ds, .ref m4, .ref m5, .ref m6, .ref m7, .ref m8, .ref m9, .int pn, .ref m10, .ref m11, .ref m12, .ref m13])), (m1, .inl (cI, 4, .inl gw))]) [0, 1, 2, 3] rfl) (hD.sub (ws' := [(m2, .inl (cI, 4, .inl gh)), (m3, .inl (cI, 16384, .inl gd)), (h0, .inr (9, [.ref m1, .ref m2, .ref m3, .int ik, .int wy, .int op, .int cl, .int cx0, .int cx1, .int cy0, .int cy1, .int ds, .ref m4, .ref m5, .ref m6, .ref m7, .ref m8, .ref m9, .int pn, .ref m10, .ref m11, .ref m12, .ref m13])), (m1, .inl (cI, 4, .inl gw))]) [0, 1, 2, 3] (by decide) rfl) hS (lv_sub hl [0, 4, 1, 5, 6, 7] rfl)
                          · skip
                            have f_99 : ¬ (wh.toInt ≤ 5) := fn_le rfl (by decide) c_98
                            refine lv_iload_n hx hb dX9_look_104 rfl (lv_at hl 3 rfl) ?_
                            refine lv_iload hx hb dX9_look_105 (lv_at hl 0 rfl) ?_
                            refine lv_iload_n hx hb dX9_look_107 rfl (lv_at hl 6 rfl) ?_
                            refine lv_bipush (v := 6) hx hb dX9_look_108 (by decide) ?_
                            refine lv_isub hx hb dX9_look_110 ?_
                            refine lv_topi (fun y_156 ey_156 => ?_)
                            have hPc := hP.sub (ws' := []) [] rfl
                            have hDc := hD.sub (ws' := []) [] (by decide) rfl
                            have hKc := hK.sub (tys' := []) [] rfl
                            have hFc := va_free (wc := []) hD hS hA [] rfl
                            refine va_calli (va_runS (As := [.int y_97, .int y_156]) (rest := [.int z3]) ⟨hx, hb, hml, hown, hts⟩ (k_X9_channel_a l D H.size y_97 y_156) (va_cwS 2 hts (gS bw_441 bw_438 bw_391 bw_437) rfl rfl rfl (by decide +kernel) ⟨(by rw [hR]; exact Nat.le_of_ble_eq_true rfl), (by rw [hR]; exact Nat.le_of_ble_eq_true rfl)⟩) ⟨cP_blind, cP_at hPc hKc hDc hN⟩ rfl rfl hl.1 rfl (lv_room (Nat.le_of_ble_eq_true rfl)) dX9_look_111 ⟨(by rw [hR]; exact Nat.le_of_ble_eq_true rfl), (by rw [hR]; exact Nat.le_of_ble_eq_true rfl)⟩) hS (fun q _ h => hFc q h) hFc (fun r_157 u9 t9 H1 locs ht hvm hr_157 hB hz1 hk1 hS => ?_)
                            try dsimp only at hr_157
                            have hP1 : va_P D vwCl [] H1 := vP_nil
                            have hD1 : va_D (va_A [] H.size) [] := vD_nil
                            obtain ⟨hP, hD⟩ := va_join (wr := [(m2, .inl (cI, 4, .inl gh)), (m3, .inl (cI, 16384, .inl gd)), (h0, .inr (9, [.ref m1, .ref m2, .ref m3, .int ik, .int wy, .int op, .int cl, .int cx0, .int cx1, .int cy0, .int cy1, .int ds, .ref m4, .ref m5, .ref m6, .ref m7, .ref m8, .ref m9, .int pn, .ref m10, .ref m11, .ref m12, .ref m13])), (m1, .inl (cI, 4, .inl gw))]) (w1 := []) hP hD [] [0, 1, 2, 3] rfl rfl (by decide) (by decide) hk1 hFc hP1 hD1
                            clear hz1 hk1 hFc hKc hDc hPc
                            generalize H1 = H at hP hS ⊢
                            have hP : va_P D vwCl [(m2, .inl (cI, 4, .inl gh)), (m3, .inl (cI, 16384, .inl gd)), (h0, .inr (9, [.ref m1, .ref m2, .ref m3, .int ik, .int wy, .int op, .int cl, .int cx0, .int cx1, .int cy0, .int cy1, .int ds, .ref m4, .ref m5, .ref m6, .ref m7, .ref m8, .ref m9, .int pn, .ref m10, .ref m11, .ref m12, .ref m13])), (m1, .inl (cI, 4, .inl gw))] H := hP
                            have hD : va_D A [(m2, .inl (cI, 4, .inl gh)), (m3, .inl (cI, 16384, .inl gd)), (h0, .inr (9, [.ref m1, .ref m2, .ref m3, .int ik, .int wy, .int op, .int cl, .int cx0, .int cx1, .int cy0, .int cy1, .int ds, .ref m4, .ref m5, .ref m6, .ref m7, .ref m8, .ref m9, .int pn, .ref m10, .ref m11, .ref m12, .ref m13])), (m1, .inl (cI, 4, .inl gw))] := hD
                            refine lv_iadd hx hb dX9_look_114 ?_
                            refine lv_topi (fun y_158 ey_158 => ?_)
                            refine lv_istore_n (lv' := [(3, .int y_158), (6, .int y_97), (5, .int x5), (4, .int x4), (0, .ref h0), (1, .int k), (2, .int wh)]) hx hb dX9_look_115 rfl hl (by decide) rfl (fun ls hl => ?_)
                            refine lv_goto (tgt := 175) hx hb dX9_look_116 (by decide) ?_
                            obtain ⟨y_159, ey_159⟩ : ∃ y : Int32, y = x5 + 1 := ⟨_, rfl⟩
                            refine lv_iinc (v := y_159) (lv' := [(5, .int y_159), (3, .int y_158), (6, .int y_97), (4, .int x4), (0, .ref h0), (1, .int k), (2, .int wh)]) hx hb dX9_look_175 hl (k := 2) rfl (by rw [ey_159]; rfl) (by decide) rfl (fun ls hl => ?_)
                            refine lv_goto (tgt := 73) hx hb dX9_look_178 (by decide) ?_
                            exact ih_92 (i + 1) y_159 y_158 _ _ _ (by omega) (by omega) (by rw [ey_159, ex_i]; exact nI_1 i) (hP.sub (ws' := [(m2, .inl (cI, 4, .inl gh)), (m3, .inl (cI, 16384, .inl gd)), (h0, .inr (9, [.ref m1, .ref m2, .ref m3, .int ik, .int wy, .int op, .int cl, .int cx0, .int cx1, .int cy0, .int cy1, .int ds, .ref m4, .ref m5, .ref m6, .ref m7, .ref m8, .ref m9, .int pn, .ref m10, .ref m11, .ref m12, .ref m13])), (m1, .inl (cI, 4, .inl gw))]) [0, 1, 2, 3] rfl) (hD.sub (ws' := [(m2, .inl (cI, 4, .inl gh)), (m3, .inl (cI, 16384, .inl gd)), (h0, .inr (9, [.ref m1, .ref m2, .ref m3, .int ik, .int wy, .int op, .int cl, .int cx0, .int cx1, .int cy0, .int cy1, .int ds, .ref m4, .ref m5, .ref m6, .ref m7, .ref m8, .ref m9, .int pn, .ref m10, .ref m11, .ref m12, .ref m13])), (m1, .inl (cI, 4, .inl gw))]) [0, 1, 2, 3] (by decide) rfl) hS (lv_sub hl [0, 3, 1, 4, 5, 6] rfl)
                    exact loop_91 (64 + 1) 0 0 x3 _ _ _ (by omega) (by omega) nI_0.symm hP hD hS (lv_sub hl [0, 1, 2, 3, 4, 5] rfl)
              exact loop_87 (64 + 1) 0 0 (-1) _ _ _ (by omega) (by omega) nI_0.symm hP hD hS (lv_sub hl [0, 1, 2, 3, 4] rfl)
          · skip
            have f_11 : wh.toInt = 5 := f_eq rfl (by decide) c_10
            refine lv_aload_n hx hb dX9_look_37 rfl (lv_at hl 0 rfl) ?_
            refine va_get (D := D) (ci := 9) (v := .ref m2) (C := RX9) (T := TX9) (N := 23) hx hb hts hi_X9 hown hK hP 2 rfl rfl 1 (by decide) (hts _ bw_397) (fun _ h9 => h9) rfl dX9_look_38 ?_
            refine lv_iload_n hx hb dX9_look_41 rfl (lv_at hl 1 rfl) ?_
            refine va_iald hx hb hK hP 0 0 rfl rfl (vp_in_iff.mpr ⟨by omega, by omega⟩) dX9_look_42 ?_
            have hP9 := hP.sub (ws' := [(h0, .inr (9, [.ref m1, .ref m2, .ref m3, .int ik, .int wy, .int op, .int cl, .int cx0, .int cx1, .int cy0, .int cy1, .int ds, .ref m4, .ref m5, .ref m6, .ref m7, .ref m8, .ref m9, .int pn, .ref m10, .ref m11, .ref m12, .ref m13])), (m1, .inl (cI, 4, .inl gw)), (m2, .inl (cI, 4, .inl gh)), (m3, .inl (cI, 16384, .inl gd))]) [2, 3, 0, 1] rfl
            have hD9 := hD.sub (ws' := [(h0, .inr (9, [.ref m1, .ref m2, .ref m3, .int ik, .int wy, .int op, .int cl, .int cx0, .int cx1, .int cy0, .int cy1, .int ds, .ref m4, .ref m5, .ref m6, .ref m7, .ref m8, .ref m9, .int pn, .ref m10, .ref m11, .ref m12, .ref m13])), (m1, .inl (cI, 4, .inl gw)), (m2, .inl (cI, 4, .inl gh)), (m3, .inl (cI, 16384, .inl gd))]) [2, 3, 0, 1] (by decide) rfl
            have hK9 := hK.sub (tys' := [(cI, .int)]) [0] rfl
            refine hQ _ _ _ _ _ ?_
            exact W.iret (v := gh k.toNatClampNeg) hx hb hr (fun t ht hW => ⟨⟨gh k.toNatClampNeg, (), rfl, trivial, ⟨by rw [ht]; exact hP9, va_K.moved hW.alike hK9, hD9⟩⟩, hS.F ht⟩) hS.2.2 dX9_look_43
        · skip
          have f_9 : wh.toInt = 4 := f_eq rfl (by decide) c_8
          refine lv_aload_n hx hb dX9_look_25 rfl (lv_at hl 0 rfl) ?_
          refine va_get (D := D) (ci := 9) (v := .ref m1) (C := RX9) (T := TX9) (N := 23) hx hb hts hi_X9 hown hK hP 2 rfl rfl 0 (by decide) (hts _ bw_396) (fun _ h9 => h9) rfl dX9_look_26 ?_
          refine lv_iload_n hx hb dX9_look_29 rfl (lv_at hl 1 rfl) ?_
          refine va_iald hx hb hK hP 3 0 rfl rfl (vp_in_iff.mpr ⟨by omega, by omega⟩) dX9_look_30 ?_
          have hP9 := hP.sub (ws' := [(h0, .inr (9, [.ref m1, .ref m2, .ref m3, .int ik, .int wy, .int op, .int cl, .int cx0, .int cx1, .int cy0, .int cy1, .int ds, .ref m4, .ref m5, .ref m6, .ref m7, .ref m8, .ref m9, .int pn, .ref m10, .ref m11, .ref m12, .ref m13])), (m1, .inl (cI, 4, .inl gw)), (m2, .inl (cI, 4, .inl gh)), (m3, .inl (cI, 16384, .inl gd))]) [2, 3, 0, 1] rfl
          have hD9 := hD.sub (ws' := [(h0, .inr (9, [.ref m1, .ref m2, .ref m3, .int ik, .int wy, .int op, .int cl, .int cx0, .int cx1, .int cy0, .int cy1, .int ds, .ref m4, .ref m5, .ref m6, .ref m7, .ref m8, .ref m9, .int pn, .ref m10, .ref m11, .ref m12, .ref m13])), (m1, .inl (cI, 4, .inl gw)), (m2, .inl (cI, 4, .inl gh)), (m3, .inl (cI, 16384, .inl gd))]) [2, 3, 0, 1] (by decide) rfl
          have hK9 := hK.sub (tys' := [(cI, .int)]) [0] rfl
          refine hQ _ _ _ _ _ ?_
          exact W.iret (v := gw k.toNatClampNeg) hx hb hr (fun t ht hW => ⟨⟨gw k.toNatClampNeg, (), rfl, trivial, ⟨by rw [ht]; exact hP9, va_K.moved hW.alike hK9, hD9⟩⟩, hS.F ht⟩) hS.2.2 dX9_look_31
      · skip
        have f_7 : ¬ (wh.toInt ≤ 9) := fn_le rfl (by decide) c_6
        refine lv_iconst (v := (-1)) hx hb dX9_look_18 (by decide) ?_
        have hP9 := hP.sub (ws' := [(h0, .inr (9, [.ref m1, .ref m2, .ref m3, .int ik, .int wy, .int op, .int cl, .int cx0, .int cx1, .int cy0, .int cy1, .int ds, .ref m4, .ref m5, .ref m6, .ref m7, .ref m8, .ref m9, .int pn, .ref m10, .ref m11, .ref m12, .ref m13])), (m1, .inl (cI, 4, .inl gw)), (m2, .inl (cI, 4, .inl gh)), (m3, .inl (cI, 16384, .inl gd))]) [2, 3, 0, 1] rfl
        have hD9 := hD.sub (ws' := [(h0, .inr (9, [.ref m1, .ref m2, .ref m3, .int ik, .int wy, .int op, .int cl, .int cx0, .int cx1, .int cy0, .int cy1, .int ds, .ref m4, .ref m5, .ref m6, .ref m7, .ref m8, .ref m9, .int pn, .ref m10, .ref m11, .ref m12, .ref m13])), (m1, .inl (cI, 4, .inl gw)), (m2, .inl (cI, 4, .inl gh)), (m3, .inl (cI, 16384, .inl gd))]) [2, 3, 0, 1] (by decide) rfl
        have hK9 := hK.sub (tys' := [(cI, .int)]) [0] rfl
        refine hQ _ _ _ _ _ ?_
        exact W.iret (v := (-1)) hx hb hr (fun t ht hW => ⟨⟨(-1), (), rfl, trivial, ⟨by rw [ht]; exact hP9, va_K.moved hW.alike hK9, hD9⟩⟩, hS.F ht⟩) hS.2.2 dX9_look_19

set_option maxHeartbeats 4000000 in
set_option maxRecDepth 100000 in
theorem k_X9_line_n (l : Launch) (D : va_G) (sz : Nat) (h0 m1 m2 m3 m4 m5 m6 m7 m8 m9 m10 m11 m12 m13 : Nat) (ik wy op cl cx0 cx1 cy0 cy1 ds pn : Int32) (gw : Nat → Int32) (k x0 y0 x1 y1 : Int32) (cI : ClassId) (hns : ¬ (0 ≤ k.toInt ∧ k.toInt ≤ 3 ∧ 0 < (gw k.toNatClampNeg).toInt)) : Met l yX9_line (wB yX9_line cX9_line 12 (some .int)) ({ frames := 1, cells := 0, slots := 0, locals := 21 }) (cP D [(h0, .inr (9, [.ref m1, .ref m2, .ref m3, .int ik, .int wy, .int op, .int cl, .int cx0, .int cx1, .int cy0, .int cy1, .int ds, .ref m4, .ref m5, .ref m6, .ref m7, .ref m8, .ref m9, .int pn, .ref m10, .ref m11, .ref m12, .ref m13])), (m1, .inl (cI, 4, .inl gw))] [(cI, .int)] sz [.ref h0, .int k, .int x0, .int y0, .int x1, .int y1]) (va_Qi (fun (r : Int32) (_ : Unit) => r = -1) (fun (_ : Unit) (t : State) => cB D (va_A [(h0, .inr (9, [.ref m1, .ref m2, .ref m3, .int ik, .int wy, .int op, .int cl, .int cx0, .int cx1, .int cy0, .int cy1, .int ds, .ref m4, .ref m5, .ref m6, .ref m7, .ref m8, .ref m9, .int pn, .ref m10, .ref m11, .ref m12, .ref m13])), (m1, .inl (cI, 4, .inl gw))] sz) [(h0, .inr (9, [.ref m1, .ref m2, .ref m3, .int ik, .int wy, .int op, .int cl, .int cx0, .int cx1, .int cy0, .int cy1, .int ds, .ref m4, .ref m5, .ref m6, .ref m7, .ref m8, .ref m9, .int pn, .ref m10, .ref m11, .ref m12, .ref m13])), (m1, .inl (cI, 4, .inl gw))] [(cI, .int)] t) (va_A [(h0, .inr (9, [.ref m1, .ref m2, .ref m3, .int ik, .int wy, .int op, .int cl, .int cx0, .int cx1, .int cy0, .int cy1, .int ds, .ref m4, .ref m5, .ref m6, .ref m7, .ref m8, .ref m9, .int pn, .ref m10, .ref m11, .ref m12, .ref m13])), (m1, .inl (cI, 4, .inl gw))] sz)) 0 0 (va_A [(h0, .inr (9, [.ref m1, .ref m2, .ref m3, .int ik, .int wy, .int op, .int cl, .int cx0, .int cx1, .int cy0, .int cy1, .int ds, .ref m4, .ref m5, .ref m6, .ref m7, .ref m8, .ref m9, .int pn, .ref m10, .ref m11, .ref m12, .ref m13])), (m1, .inl (cI, 4, .inl gw))] sz) := by
  refine Met.ofW (cc := cX9_line) (maxL := 12) (ret := (some .int)) (by decide) rfl ?_
  intro p e s m args below meth c s₁ B hml hv
  obtain ⟨rfl, hsz, hP, hK, hD0, hN⟩ := hv
  have hx := B.exec
  have hb := B.bytes
  have hr := B.returns
  have hts0 := atoms_spec (ws := (wB yX9_line cX9_line 12 (some .int))) B.pre
  have hts : ∀ w ∈ bigW, w.before _ s = true := fun w h => hts0 w (List.mem_cons_of_mem _ h)
  have hown : s.vm.findClass RX9 = some m.cls := findClass_of_methodNamed B.named
  have hlocks := B.notSynchronized
  subst hsz
  have hD := hD0.self (sz := s.heap.size)
  generalize hAe : va_A [(h0, .inr (9, [.ref m1, .ref m2, .ref m3, .int ik, .int wy, .int op, .int cl, .int cx0, .int cx1, .int cy0, .int cy1, .int ds, .ref m4, .ref m5, .ref m6, .ref m7, .ref m8, .ref m9, .int pn, .ref m10, .ref m11, .ref m12, .ref m13])), (m1, .inl (cI, 4, .inl gw))] s.heap.size = A at hD ⊢
  have hA : ∀ q : Nat, s.heap.size ≤ q → A q := fun q h => by rw [← hAe]; exact Or.inr h
  have hS : va_S A s.heap s.heap [] := va_S.rf
  have hP : va_P D vwCl [(h0, .inr (9, [.ref m1, .ref m2, .ref m3, .int ik, .int wy, .int op, .int cl, .int cx0, .int cx1, .int cy0, .int cy1, .int ds, .ref m4, .ref m5, .ref m6, .ref m7, .ref m8, .ref m9, .int pn, .ref m10, .ref m11, .ref m12, .ref m13])), (m1, .inl (cI, 4, .inl gw))] s.heap := hP
  have hl := lv_entry ([.ref h0, .int k, .int x0, .int y0, .int x1, .int y1]) (n := 12) (Nat.le_of_ble_eq_true rfl)
  rw [lg_entry_eq]
  generalize (lg_sl ([.ref h0, .int k, .int x0, .int y0, .int x1, .int y1]) ++ List.replicate (12 - (lg_sl ([.ref h0, .int k, .int x0, .int y0, .int x1, .int y1])).length) Slot.unset).toArray = ls at hl ⊢
  have hl : lv_has ls 12 [(0, .ref h0), (1, .int k), (2, .int x0), (3, .int y0), (4, .int x1), (5, .int y1)] := hl
  clear hts0 hD0 hAe
  refine my_abs (fun R Q hR hQ => ?_)
  refine lv_aload_n hx hb dX9_line_0 rfl (lv_at hl 0 rfl) ?_
  refine lv_iload_n hx hb dX9_line_1 rfl (lv_at hl 1 rfl) ?_
  have hPc := hP.sub (ws' := [(h0, .inr (9, [.ref m1, .ref m2, .ref m3, .int ik, .int wy, .int op, .int cl, .int cx0, .int cx1, .int cy0, .int cy1, .int ds, .ref m4, .ref m5, .ref m6, .ref m7, .ref m8, .ref m9, .int pn, .ref m10, .ref m11, .ref m12, .ref m13])), (m1, .inl (cI, 4, .inl gw))]) [0, 1] rfl
  have hDc := hD.sub (ws' := [(h0, .inr (9, [.ref m1, .ref m2, .ref m3, .int ik, .int wy, .int op, .int cl, .int cx0, .int cx1, .int cy0, .int cy1, .int ds, .ref m4, .ref m5, .ref m6, .ref m7, .ref m8, .ref m9, .int pn, .ref m10, .ref m11, .ref m12, .ref m13])), (m1, .inl (cI, 4, .inl gw))]) [0, 1] (by decide) rfl
  have hKc := hK.sub (tys' := [(cI, .int)]) [0] rfl
  have hFc := va_free (wc := [(h0, .inr (9, [.ref m1, .ref m2, .ref m3, .int ik, .int wy, .int op, .int cl, .int cx0, .int cx1, .int cy0, .int cy1, .int ds, .ref m4, .ref m5, .ref m6, .ref m7, .ref m8, .ref m9, .int pn, .ref m10, .ref m11, .ref m12, .ref m13])), (m1, .inl (cI, 4, .inl gw))]) hD hS hA [0, 1] rfl
  refine va_calli (va_runV (As := [.int k]) (rest := []) ⟨hx, hb, hml, hown, hts⟩ (k_X9_isSheet l D s.heap.size h0 m1 m2 m3 m4 m5 m6 m7 m8 m9 m10 m11 m12 m13 ik wy op cl cx0 cx1 cy0 cy1 ds pn gw k cI) (cwV 1 hts (gV bw_490 bw_415 bw_416 bw_391 bw_414) rfl rfl rfl (by decide +kernel) ⟨(by rw [hR]; exact Nat.le_of_ble_eq_true rfl), (by rw [hR]; exact Nat.le_of_ble_eq_true rfl)⟩) ⟨cP_blind, va_recv hKc hPc (ci := 9) (q0 := 0) rfl rfl, cP_at hPc hKc hDc hN⟩ rfl rfl hl.1 rfl (lv_room (Nat.le_of_ble_eq_true rfl)) dX9_line_2 ⟨(by rw [hR]; exact Nat.le_of_ble_eq_true rfl), (by rw [hR]; exact Nat.le_of_ble_eq_true rfl)⟩) hS (fun q _ h => hFc q h) hFc (fun r_1 u9 t9 H1 locs ht hvm hr_1 hB hz1 hk1 hS => ?_)
  try dsimp only at hr_1
  obtain ⟨hP1, hK1, hD1⟩ := hB
  rw [ht] at hP1
  obtain ⟨hP, hD⟩ := va_join (wr := []) (w1 := [(h0, .inr (9, [.ref m1, .ref m2, .ref m3, .int ik, .int wy, .int op, .int cl, .int cx0, .int cx1, .int cy0, .int cy1, .int ds, .ref m4, .ref m5, .ref m6, .ref m7, .ref m8, .ref m9, .int pn, .ref m10, .ref m11, .ref m12, .ref m13])), (m1, .inl (cI, 4, .inl gw))]) hP hD [0, 1] [] rfl rfl (by decide) (by decide) hk1 hFc hP1 hD1
  clear hz1 hk1 hFc hKc hDc hPc
  generalize H1 = H at hP hS ⊢
  have hP : va_P D vwCl [(h0, .inr (9, [.ref m1, .ref m2, .ref m3, .int ik, .int wy, .int op, .int cl, .int cx0, .int cx1, .int cy0, .int cy1, .int ds, .ref m4, .ref m5, .ref m6, .ref m7, .ref m8, .ref m9, .int pn, .ref m10, .ref m11, .ref m12, .ref m13])), (m1, .inl (cI, 4, .inl gw))] H := hP
  have hD : va_D A [(h0, .inr (9, [.ref m1, .ref m2, .ref m3, .int ik, .int wy, .int op, .int cl, .int cx0, .int cx1, .int cy0, .int cy1, .int ds, .ref m4, .ref m5, .ref m6, .ref m7, .ref m8, .ref m9, .int pn, .ref m10, .ref m11, .ref m12, .ref m13])), (m1, .inl (cI, 4, .inl gw))] := hD
  refine lv_if_eq (tgt := 50) hx hb dX9_line_5 (by decide) (fun c_2 => ?_) (fun c_2 => ?_)
  · skip
    have f_3 := bz0 hr_1 c_2
    refine lv_iconst (v := (-1)) hx hb dX9_line_50 (by decide) ?_
    have hP9 := hP.sub (ws' := [(h0, .inr (9, [.ref m1, .ref m2, .ref m3, .int ik, .int wy, .int op, .int cl, .int cx0, .int cx1, .int cy0, .int cy1, .int ds, .ref m4, .ref m5, .ref m6, .ref m7, .ref m8, .ref m9, .int pn, .ref m10, .ref m11, .ref m12, .ref m13])), (m1, .inl (cI, 4, .inl gw))]) [0, 1] rfl
    have hD9 := hD.sub (ws' := [(h0, .inr (9, [.ref m1, .ref m2, .ref m3, .int ik, .int wy, .int op, .int cl, .int cx0, .int cx1, .int cy0, .int cy1, .int ds, .ref m4, .ref m5, .ref m6, .ref m7, .ref m8, .ref m9, .int pn, .ref m10, .ref m11, .ref m12, .ref m13])), (m1, .inl (cI, 4, .inl gw))]) [0, 1] (by decide) rfl
    have hK9 := hK.sub (tys' := [(cI, .int)]) [0] rfl
    refine hQ _ _ _ _ _ ?_
    exact W.iret (v := (-1)) hx hb hr (fun t ht hW => ⟨⟨(-1), (), rfl, rfl, ⟨by rw [ht]; exact hP9, va_K.moved hW.alike hK9, hD9⟩⟩, hS.F ht⟩) hS.2.2 dX9_line_51
  · skip
    have f_3 := bz1 hr_1 c_2
    exact False.elim (by omega)

set_option maxHeartbeats 4000000 in
set_option maxRecDepth 100000 in
theorem k_X9_circle_n (l : Launch) (D : va_G) (sz : Nat) (h0 m1 m2 m3 m4 m5 m6 m7 m8 m9 m10 m11 m12 m13 : Nat) (ik wy op cl cx0 cx1 cy0 cy1 ds pn : Int32) (gw : Nat → Int32) (k x y rd : Int32) (cI : ClassId) (hns : ¬ (0 ≤ k.toInt ∧ k.toInt ≤ 3 ∧ 0 < (gw k.toNatClampNeg).toInt)) : Met l yX9_circle (wB yX9_circle cX9_circle 10 (some .int)) ({ frames := 1, cells := 0, slots := 0, locals := 21 }) (cP D [(h0, .inr (9, [.ref m1, .ref m2, .ref m3, .int ik, .int wy, .int op, .int cl, .int cx0, .int cx1, .int cy0, .int cy1, .int ds, .ref m4, .ref m5, .ref m6, .ref m7, .ref m8, .ref m9, .int pn, .ref m10, .ref m11, .ref m12, .ref m13])), (m1, .inl (cI, 4, .inl gw))] [(cI, .int)] sz [.ref h0, .int k, .int x, .int y, .int rd]) (va_Qi (fun (r : Int32) (_ : Unit) => r = -1) (fun (_ : Unit) (t : State) => cB D (va_A [(h0, .inr (9, [.ref m1, .ref m2, .ref m3, .int ik, .int wy, .int op, .int cl, .int cx0, .int cx1, .int cy0, .int cy1, .int ds, .ref m4, .ref m5, .ref m6, .ref m7, .ref m8, .ref m9, .int pn, .ref m10, .ref m11, .ref m12, .ref m13])), (m1, .inl (cI, 4, .inl gw))] sz) [(h0, .inr (9, [.ref m1, .ref m2, .ref m3, .int ik, .int wy, .int op, .int cl, .int cx0, .int cx1, .int cy0, .int cy1, .int ds, .ref m4, .ref m5, .ref m6, .ref m7, .ref m8, .ref m9, .int pn, .ref m10, .ref m11, .ref m12, .ref m13])), (m1, .inl (cI, 4, .inl gw))] [(cI, .int)] t) (va_A [(h0, .inr (9, [.ref m1, .ref m2, .ref m3, .int ik, .int wy, .int op, .int cl, .int cx0, .int cx1, .int cy0, .int cy1, .int ds, .ref m4, .ref m5, .ref m6, .ref m7, .ref m8, .ref m9, .int pn, .ref m10, .ref m11, .ref m12, .ref m13])), (m1, .inl (cI, 4, .inl gw))] sz)) 0 0 (va_A [(h0, .inr (9, [.ref m1, .ref m2, .ref m3, .int ik, .int wy, .int op, .int cl, .int cx0, .int cx1, .int cy0, .int cy1, .int ds, .ref m4, .ref m5, .ref m6, .ref m7, .ref m8, .ref m9, .int pn, .ref m10, .ref m11, .ref m12, .ref m13])), (m1, .inl (cI, 4, .inl gw))] sz) := by
  refine Met.ofW (cc := cX9_circle) (maxL := 10) (ret := (some .int)) (by decide) rfl ?_
  intro p e s m args below meth c s₁ B hml hv
  obtain ⟨rfl, hsz, hP, hK, hD0, hN⟩ := hv
  have hx := B.exec
  have hb := B.bytes
  have hr := B.returns
  have hts0 := atoms_spec (ws := (wB yX9_circle cX9_circle 10 (some .int))) B.pre
  have hts : ∀ w ∈ bigW, w.before _ s = true := fun w h => hts0 w (List.mem_cons_of_mem _ h)
  have hown : s.vm.findClass RX9 = some m.cls := findClass_of_methodNamed B.named
  have hlocks := B.notSynchronized
  subst hsz
  have hD := hD0.self (sz := s.heap.size)
  generalize hAe : va_A [(h0, .inr (9, [.ref m1, .ref m2, .ref m3, .int ik, .int wy, .int op, .int cl, .int cx0, .int cx1, .int cy0, .int cy1, .int ds, .ref m4, .ref m5, .ref m6, .ref m7, .ref m8, .ref m9, .int pn, .ref m10, .ref m11, .ref m12, .ref m13])), (m1, .inl (cI, 4, .inl gw))] s.heap.size = A at hD ⊢
  have hA : ∀ q : Nat, s.heap.size ≤ q → A q := fun q h => by rw [← hAe]; exact Or.inr h
  have hS : va_S A s.heap s.heap [] := va_S.rf
  have hP : va_P D vwCl [(h0, .inr (9, [.ref m1, .ref m2, .ref m3, .int ik, .int wy, .int op, .int cl, .int cx0, .int cx1, .int cy0, .int cy1, .int ds, .ref m4, .ref m5, .ref m6, .ref m7, .ref m8, .ref m9, .int pn, .ref m10, .ref m11, .ref m12, .ref m13])), (m1, .inl (cI, 4, .inl gw))] s.heap := hP
  have hl := lv_entry ([.ref h0, .int k, .int x, .int y, .int rd]) (n := 10) (Nat.le_of_ble_eq_true rfl)
  rw [lg_entry_eq]
  generalize (lg_sl ([.ref h0, .int k, .int x, .int y, .int rd]) ++ List.replicate (10 - (lg_sl ([.ref h0, .int k, .int x, .int y, .int rd])).length) Slot.unset).toArray = ls at hl ⊢
  have hl : lv_has ls 10 [(0, .ref h0), (1, .int k), (2, .int x), (3, .int y), (4, .int rd)] := hl
  clear hts0 hD0 hAe
  refine my_abs (fun R Q hR hQ => ?_)
  refine lv_aload_n hx hb dX9_circle_0 rfl (lv_at hl 0 rfl) ?_
  refine lv_iload_n hx hb dX9_circle_1 rfl (lv_at hl 1 rfl) ?_
  have hPc := hP.sub (ws' := [(h0, .inr (9, [.ref m1, .ref m2, .ref m3, .int ik, .int wy, .int op, .int cl, .int cx0, .int cx1, .int cy0, .int cy1, .int ds, .ref m4, .ref m5, .ref m6, .ref m7, .ref m8, .ref m9, .int pn, .ref m10, .ref m11, .ref m12, .ref m13])), (m1, .inl (cI, 4, .inl gw))]) [0, 1] rfl
  have hDc := hD.sub (ws' := [(h0, .inr (9, [.ref m1, .ref m2, .ref m3, .int ik, .int wy, .int op, .int cl, .int cx0, .int cx1, .int cy0, .int cy1, .int ds, .ref m4, .ref m5, .ref m6, .ref m7, .ref m8, .ref m9, .int pn, .ref m10, .ref m11, .ref m12, .ref m13])), (m1, .inl (cI, 4, .inl gw))]) [0, 1] (by decide) rfl
  have hKc := hK.sub (tys' := [(cI, .int)]) [0] rfl
  have hFc := va_free (wc := [(h0, .inr (9, [.ref m1, .ref m2, .ref m3, .int ik, .int wy, .int op, .int cl, .int cx0, .int cx1, .int cy0, .int cy1, .int ds, .ref m4, .ref m5, .ref m6, .ref m7, .ref m8, .ref m9, .int pn, .ref m10, .ref m11, .ref m12, .ref m13])), (m1, .inl (cI, 4, .inl gw))]) hD hS hA [0, 1] rfl
  refine va_calli (va_runV (As := [.int k]) (rest := []) ⟨hx, hb, hml, hown, hts⟩ (k_X9_isSheet l D s.heap.size h0 m1 m2 m3 m4 m5 m6 m7 m8 m9 m10 m11 m12 m13 ik wy op cl cx0 cx1 cy0 cy1 ds pn gw k cI) (cwV 1 hts (gV bw_490 bw_415 bw_416 bw_391 bw_414) rfl rfl rfl (by decide +kernel) ⟨(by rw [hR]; exact Nat.le_of_ble_eq_true rfl), (by rw [hR]; exact Nat.le_of_ble_eq_true rfl)⟩) ⟨cP_blind, va_recv hKc hPc (ci := 9) (q0 := 0) rfl rfl, cP_at hPc hKc hDc hN⟩ rfl rfl hl.1 rfl (lv_room (Nat.le_of_ble_eq_true rfl)) dX9_circle_2 ⟨(by rw [hR]; exact Nat.le_of_ble_eq_true rfl), (by rw [hR]; exact Nat.le_of_ble_eq_true rfl)⟩) hS (fun q _ h => hFc q h) hFc (fun r_1 u9 t9 H1 locs ht hvm hr_1 hB hz1 hk1 hS => ?_)
  try dsimp only at hr_1
  obtain ⟨hP1, hK1, hD1⟩ := hB
  rw [ht] at hP1
  obtain ⟨hP, hD⟩ := va_join (wr := []) (w1 := [(h0, .inr (9, [.ref m1, .ref m2, .ref m3, .int ik, .int wy, .int op, .int cl, .int cx0, .int cx1, .int cy0, .int cy1, .int ds, .ref m4, .ref m5, .ref m6, .ref m7, .ref m8, .ref m9, .int pn, .ref m10, .ref m11, .ref m12, .ref m13])), (m1, .inl (cI, 4, .inl gw))]) hP hD [0, 1] [] rfl rfl (by decide) (by decide) hk1 hFc hP1 hD1
  clear hz1 hk1 hFc hKc hDc hPc
  generalize H1 = H at hP hS ⊢
  have hP : va_P D vwCl [(h0, .inr (9, [.ref m1, .ref m2, .ref m3, .int ik, .int wy, .int op, .int cl, .int cx0, .int cx1, .int cy0, .int cy1, .int ds, .ref m4, .ref m5, .ref m6, .ref m7, .ref m8, .ref m9, .int pn, .ref m10, .ref m11, .ref m12, .ref m13])), (m1, .inl (cI, 4, .inl gw))] H := hP
  have hD : va_D A [(h0, .inr (9, [.ref m1, .ref m2, .ref m3, .int ik, .int wy, .int op, .int cl, .int cx0, .int cx1, .int cy0, .int cy1, .int ds, .ref m4, .ref m5, .ref m6, .ref m7, .ref m8, .ref m9, .int pn, .ref m10, .ref m11, .ref m12, .ref m13])), (m1, .inl (cI, 4, .inl gw))] := hD
  refine lv_if_eq (tgt := 41) hx hb dX9_circle_5 (by decide) (fun c_2 => ?_) (fun c_2 => ?_)
  · skip
    have f_3 := bz0 hr_1 c_2
    refine lv_iconst (v := (-1)) hx hb dX9_circle_41 (by decide) ?_
    have hP9 := hP.sub (ws' := [(h0, .inr (9, [.ref m1, .ref m2, .ref m3, .int ik, .int wy, .int op, .int cl, .int cx0, .int cx1, .int cy0, .int cy1, .int ds, .ref m4, .ref m5, .ref m6, .ref m7, .ref m8, .ref m9, .int pn, .ref m10, .ref m11, .ref m12, .ref m13])), (m1, .inl (cI, 4, .inl gw))]) [0, 1] rfl
    have hD9 := hD.sub (ws' := [(h0, .inr (9, [.ref m1, .ref m2, .ref m3, .int ik, .int wy, .int op, .int cl, .int cx0, .int cx1, .int cy0, .int cy1, .int ds, .ref m4, .ref m5, .ref m6, .ref m7, .ref m8, .ref m9, .int pn, .ref m10, .ref m11, .ref m12, .ref m13])), (m1, .inl (cI, 4, .inl gw))]) [0, 1] (by decide) rfl
    have hK9 := hK.sub (tys' := [(cI, .int)]) [0] rfl
    refine hQ _ _ _ _ _ ?_
    exact W.iret (v := (-1)) hx hb hr (fun t ht hW => ⟨⟨(-1), (), rfl, rfl, ⟨by rw [ht]; exact hP9, va_K.moved hW.alike hK9, hD9⟩⟩, hS.F ht⟩) hS.2.2 dX9_circle_42
  · skip
    have f_3 := bz1 hr_1 c_2
    exact False.elim (by omega)
