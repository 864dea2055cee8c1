set_option maxHeartbeats 4000000 in
set_option maxRecDepth 100000 in
theorem k_X8_line_y (l : Launch) (D : va_G) (sz : Nat) (h0 s1 s2 s3 s4 s5 s6 : Nat) (ds : Int32) (sp bt : Option Nat) (f : Nat → Option Nat) (bx t0 d0 : Nat) (ik wy op : Int32) (bx0 by0 bx1 by1 : Int32) (w h : Int32) (g : Nat → Int32) (k x0 y0 x1 y1 : Int32) (cO : ClassId) (cI : ClassId) (hk : 0 ≤ k.toInt ∧ k.toInt ≤ 3) (hf : f k.toNatClampNeg = some t0) (hwy : 0 ≤ wy.toInt ∧ wy.toInt ≤ 12) (hw : w.toInt ≤ 64) (hh : h.toInt ≤ 64) : Met l yX8_line (wB yX8_line cX8_line 16 (some .int)) ({ frames := 3, cells := 0, slots := 0, locals := 75 }) (cP D [(h0, .inr (8, [.ref s1, .ref s2, .ref s3, .ref s4, .ref s5, .ref s6, .int ds, va_rf sp, va_rf bt])), (s1, .inl (cO, 4, .inr (.inr (.inr (.inr f))))), (s2, .inr (1, [.ref bx, .int ik, .int wy, .int op])), (bx, .inr (0, [.int bx0, .int by0, .int bx1, .int by1])), (t0, .inr (5, [.ref d0, .int w, .int h])), (d0, .inl (cI, 4096, .inl g))] [(cO, .object "DotBench$Sheet"), (cI, .int)] sz [.ref h0, .int k, .int x0, .int y0, .int x1, .int y1]) (va_Qi (fun (r : Int32) (_ : Unit) => r = if (-2000 ≤ x0.toInt ∧ x0.toInt ≤ 2000) ∧ (-2000 ≤ y0.toInt ∧ y0.toInt ≤ 2000) ∧ (-2000 ≤ x1.toInt ∧ x1.toInt ≤ 2000) ∧ (-2000 ≤ y1.toInt ∧ y1.toInt ≤ 2000) then fG (layT w h bx0 by0 bx1 by1) (lnQ x0 y0 x1 y1 ds ik op) 0 (max (dN x0 x1) (dN y0 y1) + 1) else -1) (fun (_ : Unit) (t : State) => cB D (va_A [(h0, .inr (8, [.ref s1, .ref s2, .ref s3, .ref s4, .ref s5, .ref s6, .int ds, va_rf sp, va_rf bt])), (s1, .inl (cO, 4, .inr (.inr (.inr (.inr f))))), (s2, .inr (1, [.ref bx, .int ik, .int wy, .int op])), (bx, .inr (0, [.int bx0, .int by0, .int bx1, .int by1])), (t0, .inr (5, [.ref d0, .int w, .int h])), (d0, .inl (cI, 4096, .inl g))] sz) [(h0, .inr (8, [.ref s1, .ref s2, .ref s3, .ref s4, .ref s5, .ref s6, .int ds, va_rf sp, va_rf bt])), (s1, .inl (cO, 4, .inr (.inr (.inr (.inr f))))), (s2, .inr (1, [.ref bx, .int ik, .int wy, .int op])), (bx, .inr (0, [.int bx0, .int by0, .int bx1, .int by1])), (t0, .inr (5, [.ref d0, .int w, .int h])), (d0, .inl (cI, 4096, .inl (if (-2000 ≤ x0.toInt ∧ x0.toInt ≤ 2000) ∧ (-2000 ≤ y0.toInt ∧ y0.toInt ≤ 2000) ∧ (-2000 ≤ x1.toInt ∧ x1.toInt ≤ 2000) ∧ (-2000 ≤ y1.toInt ∧ y1.toInt ≤ 2000) then fG (layG w h bx0 by0 bx1 by1 wy) (lnQ x0 y0 x1 y1 ds ik op) g (max (dN x0 x1) (dN y0 y1) + 1) else g)))] [(cO, .object "DotBench$Sheet"), (cI, .int)] t) (va_A [(h0, .inr (8, [.ref s1, .ref s2, .ref s3, .ref s4, .ref s5, .ref s6, .int ds, va_rf sp, va_rf bt])), (s1, .inl (cO, 4, .inr (.inr (.inr (.inr f))))), (s2, .inr (1, [.ref bx, .int ik, .int wy, .int op])), (bx, .inr (0, [.int bx0, .int by0, .int bx1, .int by1])), (t0, .inr (5, [.ref d0, .int w, .int h])), (d0, .inl (cI, 4096, .inl g))] sz)) 0 0 (va_A [(h0, .inr (8, [.ref s1, .ref s2, .ref s3, .ref s4, .ref s5, .ref s6, .int ds, va_rf sp, va_rf bt])), (s1, .inl (cO, 4, .inr (.inr (.inr (.inr f))))), (s2, .inr (1, [.ref bx, .int ik, .int wy, .int op])), (bx, .inr (0, [.int bx0, .int by0, .int bx1, .int by1])), (t0, .inr (5, [.ref d0, .int w, .int h])), (d0, .inl (cI, 4096, .inl g))] sz) := by
  refine Met.ofW (cc := cX8_line) (maxL := 16) (ret := (some .int)) (by decide) rfl ?_
  intro p e s m args below meth c s₁ B hml hv
  obtain ⟨rfl, hsz, hP, hK, hD0, hN⟩ := hv
  have hx := B.exec
  have hb := B.bytes
  have hr := B.returns
  have hts0 := atoms_spec (ws := (wB yX8_line cX8_line 16 (some .int))) B.pre
  have hts : ∀ w ∈ bigW, w.before _ s = true := fun w h => hts0 w (List.mem_cons_of_mem _ h)
  have hown : s.vm.findClass RX8 = some m.cls := findClass_of_methodNamed B.named
  have hlocks := B.notSynchronized
  subst hsz
  have hD := hD0.self (sz := s.heap.size)
  generalize hAe : va_A [(h0, .inr (8, [.ref s1, .ref s2, .ref s3, .ref s4, .ref s5, .ref s6, .int ds, va_rf sp, va_rf bt])), (s1, .inl (cO, 4, .inr (.inr (.inr (.inr f))))), (s2, .inr (1, [.ref bx, .int ik, .int wy, .int op])), (bx, .inr (0, [.int bx0, .int by0, .int bx1, .int by1])), (t0, .inr (5, [.ref d0, .int w, .int h])), (d0, .inl (cI, 4096, .inl g))] s.heap.size = A at hD ⊢
  have hA : ∀ q : Nat, s.heap.size ≤ q → A q := fun q h => by rw [← hAe]; exact Or.inr h
  have hS : va_S A s.heap s.heap [] := va_S.rf
  have hP : va_P D vwCl [(h0, .inr (8, [.ref s1, .ref s2, .ref s3, .ref s4, .ref s5, .ref s6, .int ds, va_rf sp, va_rf bt])), (s1, .inl (cO, 4, .inr (.inr (.inr (.inr f))))), (s2, .inr (1, [.ref bx, .int ik, .int wy, .int op])), (bx, .inr (0, [.int bx0, .int by0, .int bx1, .int by1])), (t0, .inr (5, [.ref d0, .int w, .int h])), (d0, .inl (cI, 4096, .inl g))] s.heap := hP
  have hl := lv_entry ([.ref h0, .int k, .int x0, .int y0, .int x1, .int y1]) (n := 16) (Nat.le_of_ble_eq_true rfl)
  rw [lg_entry_eq]
  generalize (lg_sl ([.ref h0, .int k, .int x0, .int y0, .int x1, .int y1]) ++ List.replicate (16 - (lg_sl ([.ref h0, .int k, .int x0, .int y0, .int x1, .int y1])).length) Slot.unset).toArray = ls at hl ⊢
  have hl : lv_has ls 16 [(0, .ref h0), (1, .int k), (2, .int x0), (3, .int y0), (4, .int x1), (5, .int y1)] := hl
  clear hts0 hD0 hAe
  refine my_abs (fun R Q hR hQ => ?_)
  refine lv_aload_n hx hb dX8_line_0 rfl (lv_at hl 0 rfl) ?_
  refine lv_iload_n hx hb dX8_line_1 rfl (lv_at hl 1 rfl) ?_
  have hPc := hP.sub (ws' := [(h0, .inr (8, [.ref s1, .ref s2, .ref s3, .ref s4, .ref s5, .ref s6, .int ds, va_rf sp, va_rf bt])), (s1, .inl (cO, 4, .inr (.inr (.inr (.inr f)))))]) [0, 1] rfl
  have hDc := hD.sub (ws' := [(h0, .inr (8, [.ref s1, .ref s2, .ref s3, .ref s4, .ref s5, .ref s6, .int ds, va_rf sp, va_rf bt])), (s1, .inl (cO, 4, .inr (.inr (.inr (.inr f)))))]) [0, 1] (by decide) rfl
  have hKc := hK.sub (tys' := [(cO, .object "DotBench$Sheet")]) [0] rfl
  have hFc := va_free (wc := [(h0, .inr (8, [.ref s1, .ref s2, .ref s3, .ref s4, .ref s5, .ref s6, .int ds, va_rf sp, va_rf bt])), (s1, .inl (cO, 4, .inr (.inr (.inr (.inr f)))))]) hD hS hA [0, 1] rfl
  refine va_callq (va_runV (As := [.int k]) (rest := []) ⟨hx, hb, hml, hown, hts⟩ (k_X8_sheetAt_y l D s.heap.size h0 s1 s2 s3 s4 s5 s6 ds sp bt f k t0 cO (by first | assumption | omega | decide) (by first | assumption | omega | decide)) (cwV 1 hts (gV bw_267 bw_346 bw_347 bw_223 bw_345) rfl rfl rfl (by decide +kernel) ⟨(by rw [hR]; exact Nat.le_of_ble_eq_true rfl), (by rw [hR]; exact Nat.le_of_ble_eq_true rfl)⟩) ⟨cP_blind, va_recv hKc hPc (ci := 8) (q0 := 0) rfl rfl, cP_at hPc hKc hDc hN⟩ rfl rfl hl.1 rfl (lv_room (Nat.le_of_ble_eq_true rfl)) dX8_line_2 ⟨(by rw [hR]; exact Nat.le_of_ble_eq_true rfl), (by rw [hR]; exact Nat.le_of_ble_eq_true rfl)⟩) hS (fun q _ h => hFc q h) hFc (fun r_1 u9 t9 H1 locs ht hvm hr_1 hB hz1 hk1 hS => ?_)
  try dsimp only at hr_1
  obtain ⟨hP1, hK1, hD1⟩ := hB
  rw [ht] at hP1
  obtain ⟨hP, hD⟩ := va_join (wr := [(s2, .inr (1, [.ref bx, .int ik, .int wy, .int op])), (bx, .inr (0, [.int bx0, .int by0, .int bx1, .int by1])), (t0, .inr (5, [.ref d0, .int w, .int h])), (d0, .inl (cI, 4096, .inl g))]) (w1 := [(h0, .inr (8, [.ref s1, .ref s2, .ref s3, .ref s4, .ref s5, .ref s6, .int ds, va_rf sp, va_rf bt])), (s1, .inl (cO, 4, .inr (.inr (.inr (.inr f)))))]) hP hD [0, 1] [2, 3, 4, 5] rfl rfl (by decide) (by decide) hk1 hFc hP1 hD1
  clear hz1 hk1 hFc hKc hDc hPc
  generalize H1 = H at hP hS ⊢
  have hP : va_P D vwCl [(s2, .inr (1, [.ref bx, .int ik, .int wy, .int op])), (bx, .inr (0, [.int bx0, .int by0, .int bx1, .int by1])), (t0, .inr (5, [.ref d0, .int w, .int h])), (d0, .inl (cI, 4096, .inl g)), (h0, .inr (8, [.ref s1, .ref s2, .ref s3, .ref s4, .ref s5, .ref s6, .int ds, va_rf sp, va_rf bt])), (s1, .inl (cO, 4, .inr (.inr (.inr (.inr f)))))] H := hP
  have hD : va_D A [(s2, .inr (1, [.ref bx, .int ik, .int wy, .int op])), (bx, .inr (0, [.int bx0, .int by0, .int bx1, .int by1])), (t0, .inr (5, [.ref d0, .int w, .int h])), (d0, .inl (cI, 4096, .inl g)), (h0, .inr (8, [.ref s1, .ref s2, .ref s3, .ref s4, .ref s5, .ref s6, .int ds, va_rf sp, va_rf bt])), (s1, .inl (cO, 4, .inr (.inr (.inr (.inr f)))))] := hD
  subst hr_1
  refine my_topv (v := .ref t0) rfl ?_
  refine lv_astore (lv' := [(6, .ref t0), (0, .ref h0), (1, .int k), (2, .int x0), (3, .int y0), (4, .int x1), (5, .int y1)]) hx hb dX8_line_5 hl (by decide) rfl (fun ls hl => ?_)
  refine lv_aload hx hb dX8_line_7 (lv_at hl 0 rfl) ?_
  refine lv_ifnull hx hb dX8_line_9 ?_
  refine lv_iload_n hx hb dX8_line_12 rfl (lv_at hl 3 rfl) ?_
  refine lv_sipush (v := 2000) hx hb dX8_line_13 (by decide) ?_
  have hPc := hP.sub (ws' := []) [] rfl
  have hDc := hD.sub (ws' := []) [] (by decide) rfl
  have hKc := hK.sub (tys' := []) [] rfl
  have hFc := va_free (wc := []) hD hS hA [] rfl
  refine va_calli (va_runS (As := [.int x0, .int 2000]) (rest := []) ⟨hx, hb, hml, hown, hts⟩ (k_X8_isNear l D H.size x0 2000 (-2000) 2000 (by decide) (by decide)) (va_cwS 2 hts (gS bw_268 bw_351 bw_223 bw_350) rfl rfl rfl (by decide +kernel) ⟨(by rw [hR]; exact Nat.le_of_ble_eq_true rfl), (by rw [hR]; exact Nat.le_of_ble_eq_true rfl)⟩) ⟨cP_blind, cP_at hPc hKc hDc hN⟩ rfl rfl hl.1 rfl (lv_room (Nat.le_of_ble_eq_true rfl)) dX8_line_16 ⟨(by rw [hR]; exact Nat.le_of_ble_eq_true rfl), (by rw [hR]; exact Nat.le_of_ble_eq_true rfl)⟩) hS (fun q _ h => hFc q h) hFc (fun r_2 u9 t9 H1 locs ht hvm hr_2 hB hz1 hk1 hS => ?_)
  try dsimp only at hr_2
  have hP1 : va_P D vwCl [] H1 := vP_nil
  have hD1 : va_D (va_A [] H.size) [] := vD_nil
  obtain ⟨hP, hD⟩ := va_join (wr := [(s2, .inr (1, [.ref bx, .int ik, .int wy, .int op])), (bx, .inr (0, [.int bx0, .int by0, .int bx1, .int by1])), (t0, .inr (5, [.ref d0, .int w, .int h])), (d0, .inl (cI, 4096, .inl g)), (h0, .inr (8, [.ref s1, .ref s2, .ref s3, .ref s4, .ref s5, .ref s6, .int ds, va_rf sp, va_rf bt])), (s1, .inl (cO, 4, .inr (.inr (.inr (.inr f)))))]) (w1 := []) hP hD [] [0, 1, 2, 3, 4, 5] rfl rfl (by decide) (by decide) hk1 hFc hP1 hD1
  clear hz1 hk1 hFc hKc hDc hPc
  generalize H1 = H at hP hS ⊢
  have hP : va_P D vwCl [(s2, .inr (1, [.ref bx, .int ik, .int wy, .int op])), (bx, .inr (0, [.int bx0, .int by0, .int bx1, .int by1])), (t0, .inr (5, [.ref d0, .int w, .int h])), (d0, .inl (cI, 4096, .inl g)), (h0, .inr (8, [.ref s1, .ref s2, .ref s3, .ref s4, .ref s5, .ref s6, .int ds, va_rf sp, va_rf bt])), (s1, .inl (cO, 4, .inr (.inr (.inr (.inr f)))))] H := hP
  have hD : va_D A [(s2, .inr (1, [.ref bx, .int ik, .int wy, .int op])), (bx, .inr (0, [.int bx0, .int by0, .int bx1, .int by1])), (t0, .inr (5, [.ref d0, .int w, .int h])), (d0, .inl (cI, 4096, .inl g)), (h0, .inr (8, [.ref s1, .ref s2, .ref s3, .ref s4, .ref s5, .ref s6, .int ds, va_rf sp, va_rf bt])), (s1, .inl (cO, 4, .inr (.inr (.inr (.inr f)))))] := hD
  refine lv_if_eq (tgt := 54) hx hb dX8_line_19 (by decide) (fun c_3 => ?_) (fun c_3 => ?_)
  · skip
    have f_4 := bz0 hr_2 c_3
    refine lv_iconst (v := (-1)) hx hb dX8_line_54 (by decide) ?_
    have hc : g = if (-2000 ≤ x0.toInt ∧ x0.toInt ≤ 2000) ∧ (-2000 ≤ y0.toInt ∧ y0.toInt ≤ 2000) ∧ (-2000 ≤ x1.toInt ∧ x1.toInt ≤ 2000) ∧ (-2000 ≤ y1.toInt ∧ y1.toInt ≤ 2000) then fG (layG w h bx0 by0 bx1 by1 wy) (lnQ x0 y0 x1 y1 ds ik op) g (max (dN x0 x1) (dN y0 y1) + 1) else g := (if_neg (by omega)).symm
    rw [hc] at hP hD
    have hP9 := hP.sub (ws' := [(h0, .inr (8, [.ref s1, .ref s2, .ref s3, .ref s4, .ref s5, .ref s6, .int ds, va_rf sp, va_rf bt])), (s1, .inl (cO, 4, .inr (.inr (.inr (.inr f))))), (s2, .inr (1, [.ref bx, .int ik, .int wy, .int op])), (bx, .inr (0, [.int bx0, .int by0, .int bx1, .int by1])), (t0, .inr (5, [.ref d0, .int w, .int h])), (d0, .inl (cI, 4096, .inl (if (-2000 ≤ x0.toInt ∧ x0.toInt ≤ 2000) ∧ (-2000 ≤ y0.toInt ∧ y0.toInt ≤ 2000) ∧ (-2000 ≤ x1.toInt ∧ x1.toInt ≤ 2000) ∧ (-2000 ≤ y1.toInt ∧ y1.toInt ≤ 2000) then fG (layG w h bx0 by0 bx1 by1 wy) (lnQ x0 y0 x1 y1 ds ik op) g (max (dN x0 x1) (dN y0 y1) + 1) else g)))]) [4, 5, 0, 1, 2, 3] rfl
    have hD9 := hD.sub (ws' := [(h0, .inr (8, [.ref s1, .ref s2, .ref s3, .ref s4, .ref s5, .ref s6, .int ds, va_rf sp, va_rf bt])), (s1, .inl (cO, 4, .inr (.inr (.inr (.inr f))))), (s2, .inr (1, [.ref bx, .int ik, .int wy, .int op])), (bx, .inr (0, [.int bx0, .int by0, .int bx1, .int by1])), (t0, .inr (5, [.ref d0, .int w, .int h])), (d0, .inl (cI, 4096, .inl (if (-2000 ≤ x0.toInt ∧ x0.toInt ≤ 2000) ∧ (-2000 ≤ y0.toInt ∧ y0.toInt ≤ 2000) ∧ (-2000 ≤ x1.toInt ∧ x1.toInt ≤ 2000) ∧ (-2000 ≤ y1.toInt ∧ y1.toInt ≤ 2000) then fG (layG w h bx0 by0 bx1 by1 wy) (lnQ x0 y0 x1 y1 ds ik op) g (max (dN x0 x1) (dN y0 y1) + 1) else g)))]) [4, 5, 0, 1, 2, 3] (by decide) rfl
    have hK9 := hK.sub (tys' := [(cO, .object "DotBench$Sheet"), (cI, .int)]) [0, 1] rfl
    refine hQ _ _ _ _ _ ?_
    exact W.iret (v := (-1)) hx hb hr (fun t ht hW => ⟨⟨(-1), (), rfl, (if_neg (by omega)).symm, ⟨by rw [ht]; exact hP9, va_K.moved hW.alike hK9, hD9⟩⟩, hS.F ht⟩) hS.2.2 dX8_line_55
  · skip
    have f_4 := bz1 hr_2 c_3
    refine lv_iload_n hx hb dX8_line_22 rfl (lv_at hl 4 rfl) ?_
    refine lv_sipush (v := 2000) hx hb dX8_line_23 (by decide) ?_
    have hPc := hP.sub (ws' := []) [] rfl
    have hDc := hD.sub (ws' := []) [] (by decide) rfl
    have hKc := hK.sub (tys' := []) [] rfl
    have hFc := va_free (wc := []) hD hS hA [] rfl
    refine va_calli (va_runS (As := [.int y0, .int 2000]) (rest := []) ⟨hx, hb, hml, hown, hts⟩ (k_X8_isNear l D H.size y0 2000 (-2000) 2000 (by decide) (by decide)) (va_cwS 2 hts (gS bw_268 bw_351 bw_223 bw_350) rfl rfl rfl (by decide +kernel) ⟨(by rw [hR]; exact Nat.le_of_ble_eq_true rfl), (by rw [hR]; exact Nat.le_of_ble_eq_true rfl)⟩) ⟨cP_blind, cP_at hPc hKc hDc hN⟩ rfl rfl hl.1 rfl (lv_room (Nat.le_of_ble_eq_true rfl)) dX8_line_26 ⟨(by rw [hR]; exact Nat.le_of_ble_eq_true rfl), (by rw [hR]; exact Nat.le_of_ble_eq_true rfl)⟩) hS (fun q _ h => hFc q h) hFc (fun r_5 u9 t9 H1 locs ht hvm hr_5 hB hz1 hk1 hS => ?_)
    try dsimp only at hr_5
    have hP1 : va_P D vwCl [] H1 := vP_nil
    have hD1 : va_D (va_A [] H.size) [] := vD_nil
    obtain ⟨hP, hD⟩ := va_join (wr := [(s2, .inr (1, [.ref bx, .int ik, .int wy, .int op])), (bx, .inr (0, [.int bx0, .int by0, .int bx1, .int by1])), (t0, .inr (5, [.ref d0, .int w, .int h])), (d0, .inl (cI, 4096, .inl g)), (h0, .inr (8, [.ref s1, .ref s2, .ref s3, .ref s4, .ref s5, .ref s6, .int ds, va_rf sp, va_rf bt])), (s1, .inl (cO, 4, .inr (.inr (.inr (.inr f)))))]) (w1 := []) hP hD [] [0, 1, 2, 3, 4, 5] rfl rfl (by decide) (by decide) hk1 hFc hP1 hD1
    clear hz1 hk1 hFc hKc hDc hPc
    generalize H1 = H at hP hS ⊢
    have hP : va_P D vwCl [(s2, .inr (1, [.ref bx, .int ik, .int wy, .int op])), (bx, .inr (0, [.int bx0, .int by0, .int bx1, .int by1])), (t0, .inr (5, [.ref d0, .int w, .int h])), (d0, .inl (cI, 4096, .inl g)), (h0, .inr (8, [.ref s1, .ref s2, .ref s3, .ref s4, .ref s5, .ref s6, .int ds, va_rf sp, va_rf bt])), (s1, .inl (cO, 4, .inr (.inr (.inr (.inr f)))))] H := hP
    have hD : va_D A [(s2, .inr (1, [.ref bx, .int ik, .int wy, .int op])), (bx, .inr (0, [.int bx0, .int by0, .int bx1, .int by1])), (t0, .inr (5, [.ref d0, .int w, .int h])), (d0, .inl (cI, 4096, .inl g)), (h0, .inr (8, [.ref s1, .ref s2, .ref s3, .ref s4, .ref s5, .ref s6, .int ds, va_rf sp, va_rf bt])), (s1, .inl (cO, 4, .inr (.inr (.inr (.inr f)))))] := hD
    refine lv_if_eq (tgt := 54) hx hb dX8_line_29 (by decide) (fun c_6 => ?_) (fun c_6 => ?_)
    · skip
      have f_7 := bz0 hr_5 c_6
      refine lv_iconst (v := (-1)) hx hb dX8_line_54 (by decide) ?_
      have hc : g = if (-2000 ≤ x0.toInt ∧ x0.toInt ≤ 2000) ∧ (-2000 ≤ y0.toInt ∧ y0.toInt ≤ 2000) ∧ (-2000 ≤ x1.toInt ∧ x1.toInt ≤ 2000) ∧ (-2000 ≤ y1.toInt ∧ y1.toInt ≤ 2000) then fG (layG w h bx0 by0 bx1 by1 wy) (lnQ x0 y0 x1 y1 ds ik op) g (max (dN x0 x1) (dN y0 y1) + 1) else g := (if_neg (by omega)).symm
      rw [hc] at hP hD
      have hP9 := hP.sub (ws' := [(h0, .inr (8, [.ref s1, .ref s2, .ref s3, .ref s4, .ref s5, .ref s6, .int ds, va_rf sp, va_rf bt])), (s1, .inl (cO, 4, .inr (.inr (.inr (.inr f))))), (s2, .inr (1, [.ref bx, .int ik, .int wy, .int op])), (bx, .inr (0, [.int bx0, .int by0, .int bx1, .int by1])), (t0, .inr (5, [.ref d0, .int w, .int h])), (d0, .inl (cI, 4096, .inl (if (-2000 ≤ x0.toInt ∧ x0.toInt ≤ 2000) ∧ (-2000 ≤ y0.toInt ∧ y0.toInt ≤ 2000) ∧ (-2000 ≤ x1.toInt ∧ x1.toInt ≤ 2000) ∧ (-2000 ≤ y1.toInt ∧ y1.toInt ≤ 2000) then fG (layG w h bx0 by0 bx1 by1 wy) (lnQ x0 y0 x1 y1 ds ik op) g (max (dN x0 x1) (dN y0 y1) + 1) else g)))]) [4, 5, 0, 1, 2, 3] rfl
      have hD9 := hD.sub (ws' := [(h0, .inr (8, [.ref s1, .ref s2, .ref s3, .ref s4, .ref s5, .ref s6, .int ds, va_rf sp, va_rf bt])), (s1, .inl (cO, 4, .inr (.inr (.inr (.inr f))))), (s2, .inr (1, [.ref bx, .int ik, .int wy, .int op])), (bx, .inr (0, [.int bx0, .int by0, .int bx1, .int by1])), (t0, .inr (5, [.ref d0, .int w, .int h])), (d0, .inl (cI, 4096, .inl (if (-2000 ≤ x0.toInt ∧ x0.toInt ≤ 2000) ∧ (-2000 ≤ y0.toInt ∧ y0.toInt ≤ 2000) ∧ (-2000 ≤ x1.toInt ∧ x1.toInt ≤ 2000) ∧ (-2000 ≤ y1.toInt ∧ y1.toInt ≤ 2000) then fG (layG w h bx0 by0 bx1 by1 wy) (lnQ x0 y0 x1 y1 ds ik op) g (max (dN x0 x1) (dN y0 y1) + 1) else g)))]) [4, 5, 0, 1, 2, 3] (by decide) rfl
      have hK9 := hK.sub (tys' := [(cO, .object "DotBench$Sheet"), (cI, .int)]) [0, 1] rfl
      refine hQ _ _ _ _ _ ?_
      exact W.iret (v := (-1)) hx hb hr (fun t ht hW => ⟨⟨(-1), (), rfl, (if_neg (by omega)).symm, ⟨by rw [ht]; exact hP9, va_K.moved hW.alike hK9, hD9⟩⟩, hS.F ht⟩) hS.2.2 dX8_line_55
    · skip
      have f_7 := bz1 hr_5 c_6
      refine lv_iload hx hb dX8_line_32 (lv_at hl 5 rfl) ?_
      refine lv_sipush (v := 2000) hx hb dX8_line_34 (by decide) ?_
      have hPc := hP.sub (ws' := []) [] rfl
      have hDc := hD.sub (ws' := []) [] (by decide) rfl
      have hKc := hK.sub (tys' := []) [] rfl
      have hFc := va_free (wc := []) hD hS hA [] rfl
      refine va_calli (va_runS (As := [.int x1, .int 2000]) (rest := []) ⟨hx, hb, hml, hown, hts⟩ (k_X8_isNear l D H.size x1 2000 (-2000) 2000 (by decide) (by decide)) (va_cwS 2 hts (gS bw_268 bw_351 bw_223 bw_350) rfl rfl rfl (by decide +kernel) ⟨(by rw [hR]; exact Nat.le_of_ble_eq_true rfl), (by rw [hR]; exact Nat.le_of_ble_eq_true rfl)⟩) ⟨cP_blind, cP_at hPc hKc hDc hN⟩ rfl rfl hl.1 rfl (lv_room (Nat.le_of_ble_eq_true rfl)) dX8_line_37 ⟨(by rw [hR]; exact Nat.le_of_ble_eq_true rfl), (by rw [hR]; exact Nat.le_of_ble_eq_true rfl)⟩) hS (fun q _ h => hFc q h) hFc (fun r_8 u9 t9 H1 locs ht hvm hr_8 hB hz1 hk1 hS => ?_)
      try dsimp only at hr_8
      have hP1 : va_P D vwCl [] H1 := vP_nil
      have hD1 : va_D (va_A [] H.size) [] := vD_nil
      obtain ⟨hP, hD⟩ := va_join (wr := [(s2, .inr (1, [.ref bx, .int ik, .int wy, .int op])), (bx, .inr (0, [.int bx0, .int by0, .int bx1, .int by1])), (t0, .inr (5, [.ref d0, .int w, .int h])), (d0, .inl (cI, 4096, .inl g)), (h0, .inr (8, [.ref s1, .ref s2, .ref s3, .ref s4, .ref s5, .ref s6, .int ds, va_rf sp, va_rf bt])), (s1, .inl (cO, 4, .inr (.inr (.inr (.inr f)))))]) (w1 := []) hP hD [] [0, 1, 2, 3, 4, 5] rfl rfl (by decide) (by decide) hk1 hFc hP1 hD1
      clear hz1 hk1 hFc hKc hDc hPc
      generalize H1 = H at hP hS ⊢
      have hP : va_P D vwCl [(s2, .inr (1, [.ref bx, .int ik, .int wy, .int op])), (bx, .inr (0, [.int bx0, .int by0, .int bx1, .int by1])), (t0, .inr (5, [.ref d0, .int w, .int h])), (d0, .inl (cI, 4096, .inl g)), (h0, .inr (8, [.ref s1, .ref s2, .ref s3, .ref s4, .ref s5, .ref s6, .int ds, va_rf sp, va_rf bt])), (s1, .inl (cO, 4, .inr (.inr (.inr (.inr f)))))] H := hP
      have hD : va_D A [(s2, .inr (1, [.ref bx, .int ik, .int wy, .int op])), (bx, .inr (0, [.int bx0, .int by0, .int bx1, .int by1])), (t0, .inr (5, [.ref d0, .int w, .int h])), (d0, .inl (cI, 4096, .inl g)), (h0, .inr (8, [.ref s1, .ref s2, .ref s3, .ref s4, .ref s5, .ref s6, .int ds, va_rf sp, va_rf bt])), (s1, .inl (cO, 4, .inr (.inr (.inr (.inr f)))))] := hD
      refine lv_if_eq (tgt := 54) hx hb dX8_line_40 (by decide) (fun c_9 => ?_) (fun c_9 => ?_)
      · skip
        have f_10 := bz0 hr_8 c_9
        refine lv_iconst (v := (-1)) hx hb dX8_line_54 (by decide) ?_
        have hc : g = if (-2000 ≤ x0.toInt ∧ x0.toInt ≤ 2000) ∧ (-2000 ≤ y0.toInt ∧ y0.toInt ≤ 2000) ∧ (-2000 ≤ x1.toInt ∧ x1.toInt ≤ 2000) ∧ (-2000 ≤ y1.toInt ∧ y1.toInt ≤ 2000) then fG (layG w h bx0 by0 bx1 by1 wy) (lnQ x0 y0 x1 y1 ds ik op) g (max (dN x0 x1) (dN y0 y1) + 1) else g := (if_neg (by omega)).symm
        rw [hc] at hP hD
        have hP9 := hP.sub (ws' := [(h0, .inr (8, [.ref s1, .ref s2, .ref s3, .ref s4, .ref s5, .ref s6, .int ds, va_rf sp, va_rf bt])), (s1, .inl (cO, 4, .inr (.inr (.inr (.inr f))))), (s2, .inr (1, [.ref bx, .int ik, .int wy, .int op])), (bx, .inr (0, [.int bx0, .int by0, .int bx1, .int by1])), (t0, .inr (5, [.ref d0, .int w, .int h])), (d0, .inl (cI, 4096, .inl (if (-2000 ≤ x0.toInt ∧ x0.toInt ≤ 2000) ∧ (-2000 ≤ y0.toInt ∧ y0.toInt ≤ 2000) ∧ (-2000 ≤ x1.toInt ∧ x1.toInt ≤ 2000) ∧ (-2000 ≤ y1.toInt ∧ y1.toInt ≤ 2000) then fG (layG w h bx0 by0 bx1 by1 wy) (lnQ x0 y0 x1 y1 ds ik op) g (max (dN x0 x1) (dN y0 y1) + 1) else g)))]) [4, 5, 0, 1, 2, 3] rfl
        have hD9 := hD.sub (ws' := [(h0, .inr (8, [.ref s1, .ref s2, .ref s3, .ref s4, .ref s5, .ref s6, .int ds, va_rf sp, va_rf bt])), (s1, .inl (cO, 4, .inr (.inr (.inr (.inr f))))), (s2, .inr (1, [.ref bx, .int ik, .int wy, .int op])), (bx, .inr (0, [.int bx0, .int by0, .int bx1, .int by1])), (t0, .inr (5, [.ref d0, .int w, .int h])), (d0, .inl (cI, 4096, .inl (if (-2000 ≤ x0.toInt ∧ x0.toInt ≤ 2000) ∧ (-2000 ≤ y0.toInt ∧ y0.toInt ≤ 2000) ∧ (-2000 ≤ x1.toInt ∧ x1.toInt ≤ 2000) ∧ (-2000 ≤ y1.toInt ∧ y1.toInt ≤ 2000) then fG (layG w h bx0 by0 bx1 by1 wy) (lnQ x0 y0 x1 y1 ds ik op) g (max (dN x0 x1) (dN y0 y1) + 1) else g)))]) [4, 5, 0, 1, 2, 3] (by decide) rfl
        have hK9 := hK.sub (tys' := [(cO, .object "DotBench$Sheet"), (cI, .int)]) [0, 1] rfl
        refine hQ _ _ _ _ _ ?_
        exact W.iret (v := (-1)) hx hb hr (fun t ht hW => ⟨⟨(-1), (), rfl, (if_neg (by omega)).symm, ⟨by rw [ht]; exact hP9, va_K.moved hW.alike hK9, hD9⟩⟩, hS.F ht⟩) hS.2.2 dX8_line_55
      · skip
        have f_10 := bz1 hr_8 c_9
        refine lv_iload hx hb dX8_line_43 (lv_at hl 6 rfl) ?_
        refine lv_sipush (v := 2000) hx hb dX8_line_45 (by decide) ?_
        have hPc := hP.sub (ws' := []) [] rfl
        have hDc := hD.sub (ws' := []) [] (by decide) rfl
        have hKc := hK.sub (tys' := []) [] rfl
        have hFc := va_free (wc := []) hD hS hA [] rfl
        refine va_calli (va_runS (As := [.int y1, .int 2000]) (rest := []) ⟨hx, hb, hml, hown, hts⟩ (k_X8_isNear l D H.size y1 2000 (-2000) 2000 (by decide) (by decide)) (va_cwS 2 hts (gS bw_268 bw_351 bw_223 bw_350) rfl rfl rfl (by decide +kernel) ⟨(by rw [hR]; exact Nat.le_of_ble_eq_true rfl), (by rw [hR]; exact Nat.le_of_ble_eq_true rfl)⟩) ⟨cP_blind, cP_at hPc hKc hDc hN⟩ rfl rfl hl.1 rfl (lv_room (Nat.le_of_ble_eq_true rfl)) dX8_line_48 ⟨(by rw [hR]; exact Nat.le_of_ble_eq_true rfl), (by rw [hR]; exact Nat.le_of_ble_eq_true rfl)⟩) hS (fun q _ h => hFc q h) hFc (fun r_11 u9 t9 H1 locs ht hvm hr_11 hB hz1 hk1 hS => ?_)
        try dsimp only at hr_11
        have hP1 : va_P D vwCl [] H1 := vP_nil
        have hD1 : va_D (va_A [] H.size) [] := vD_nil
        obtain ⟨hP, hD⟩ := va_join (wr := [(s2, .inr (1, [.ref bx, .int ik, .int wy, .int op])), (bx, .inr (0, [.int bx0, .int by0, .int bx1, .int by1])), (t0, .inr (5, [.ref d0, .int w, .int h])), (d0, .inl (cI, 4096, .inl g)), (h0, .inr (8, [.ref s1, .ref s2, .ref s3, .ref s4, .ref s5, .ref s6, .int ds, va_rf sp, va_rf bt])), (s1, .inl (cO, 4, .inr (.inr (.inr (.inr f)))))]) (w1 := []) hP hD [] [0, 1, 2, 3, 4, 5] rfl rfl (by decide) (by decide) hk1 hFc hP1 hD1
        clear hz1 hk1 hFc hKc hDc hPc
        generalize H1 = H at hP hS ⊢
        have hP : va_P D vwCl [(s2, .inr (1, [.ref bx, .int ik, .int wy, .int op])), (bx, .inr (0, [.int bx0, .int by0, .int bx1, .int by1])), (t0, .inr (5, [.ref d0, .int w, .int h])), (d0, .inl (cI, 4096, .inl g)), (h0, .inr (8, [.ref s1, .ref s2, .ref s3, .ref s4, .ref s5, .ref s6, .int ds, va_rf sp, va_rf bt])), (s1, .inl (cO, 4, .inr (.inr (.inr (.inr f)))))] H := hP
        have hD : va_D A [(s2, .inr (1, [.ref bx, .int ik, .int wy, .int op])), (bx, .inr (0, [.int bx0, .int by0, .int bx1, .int by1])), (t0, .inr (5, [.ref d0, .int w, .int h])), (d0, .inl (cI, 4096, .inl g)), (h0, .inr (8, [.ref s1, .ref s2, .ref s3, .ref s4, .ref s5, .ref s6, .int ds, va_rf sp, va_rf bt])), (s1, .inl (cO, 4, .inr (.inr (.inr (.inr f)))))] := hD
        refine lv_if_ne (tgt := 56) hx hb dX8_line_51 (by decide) (fun c_12 => ?_) (fun c_12 => ?_)
        · skip
          have f_13 := bz1 hr_11 c_12
          refine lv_iload hx hb dX8_line_56 (lv_at hl 5 rfl) ?_
          refine lv_iload_n hx hb dX8_line_58 rfl (lv_at hl 3 rfl) ?_
          refine lv_isub hx hb dX8_line_59 ?_
          refine lv_topi (fun y_14 ey_14 => ?_)
          refine va_mabs hx hb (by rw [hml]; exact hl.1.symm) hown (hts _ bw_269) (hts _ bw_221) (hts _ bw_47) (hts _ bw_222) (by rw [hR]; exact Nat.le_of_ble_eq_true rfl) (by rw [hR]; exact Nat.le_of_ble_eq_true rfl) (by rw [hR]; exact Nat.le_of_ble_eq_true rfl) (by rw [hR]; exact Nat.le_of_ble_eq_true rfl) dX8_line_60 ?_
          refine lv_topi (fun y_15 ey_15 => ?_)
          have hdx : y_15 = nI (dN x0 x1) := by rw [ey_15, ey_14]; exact abs_nI (by omega) (by omega)
          have hlx : dN x0 x1 ≤ 4000 := dN_le (by omega) (by omega)
          refine lv_istore (lv' := [(7, .int y_15), (6, .ref t0), (0, .ref h0), (1, .int k), (2, .int x0), (3, .int y0), (4, .int x1), (5, .int y1)]) hx hb dX8_line_63 hl (by decide) rfl (fun ls hl => ?_)
          refine lv_iload hx hb dX8_line_65 (lv_at hl 7 rfl) ?_
          refine lv_iload_n hx hb dX8_line_67 rfl (lv_at hl 5 rfl) ?_
          refine lv_isub hx hb dX8_line_68 ?_
          refine lv_topi (fun y_16 ey_16 => ?_)
          refine va_mabs hx hb (by rw [hml]; exact hl.1.symm) hown (hts _ bw_269) (hts _ bw_221) (hts _ bw_47) (hts _ bw_222) (by rw [hR]; exact Nat.le_of_ble_eq_true rfl) (by rw [hR]; exact Nat.le_of_ble_eq_true rfl) (by rw [hR]; exact Nat.le_of_ble_eq_true rfl) (by rw [hR]; exact Nat.le_of_ble_eq_true rfl) dX8_line_69 ?_
          refine lv_topi (fun y_17 ey_17 => ?_)
          have hdy : y_17 = nI (dN y0 y1) := by rw [ey_17, ey_16]; exact abs_nI (by omega) (by omega)
          have hly : dN y0 y1 ≤ 4000 := dN_le (by omega) (by omega)
          refine lv_istore (lv' := [(8, .int y_17), (7, .int y_15), (6, .ref t0), (0, .ref h0), (1, .int k), (2, .int x0), (3, .int y0), (4, .int x1), (5, .int y1)]) hx hb dX8_line_72 hl (by decide) rfl (fun ls hl => ?_)
          refine lv_iload hx hb dX8_line_74 (lv_at hl 7 rfl) ?_
          refine lv_iload_n hx hb dX8_line_76 rfl (lv_at hl 5 rfl) ?_
          have hPc := hP.sub (ws' := []) [] rfl
          have hDc := hD.sub (ws' := []) [] (by decide) rfl
          have hKc := hK.sub (tys' := []) [] rfl
          have hFc := va_free (wc := []) hD hS hA [] rfl
          refine va_calli (va_runS (As := [.int x1, .int x0]) (rest := []) ⟨hx, hb, hml, hown, hts⟩ (k_J6_compare_7cf53 l D H.size x1 x0) (va_cwS 2 hts (gS bw_270 bw_271 bw_272 bw_273) rfl rfl rfl (by decide +kernel) ⟨(by rw [hR]; exact Nat.le_of_ble_eq_true rfl), (by rw [hR]; exact Nat.le_of_ble_eq_true rfl)⟩) ⟨cP_blind, cP_at hPc hKc hDc hN⟩ rfl rfl hl.1 rfl (lv_room (Nat.le_of_ble_eq_true rfl)) dX8_line_77 ⟨(by rw [hR]; exact Nat.le_of_ble_eq_true rfl), (by rw [hR]; exact Nat.le_of_ble_eq_true rfl)⟩) hS (fun q _ h => hFc q h) hFc (fun r_18 u9 t9 H1 locs ht hvm hr_18 hB hz1 hk1 hS => ?_)
          try dsimp only at hr_18
          have hP1 : va_P D vwCl [] H1 := vP_nil
          have hD1 : va_D (va_A [] H.size) [] := vD_nil
          obtain ⟨hP, hD⟩ := va_join (wr := [(s2, .inr (1, [.ref bx, .int ik, .int wy, .int op])), (bx, .inr (0, [.int bx0, .int by0, .int bx1, .int by1])), (t0, .inr (5, [.ref d0, .int w, .int h])), (d0, .inl (cI, 4096, .inl g)), (h0, .inr (8, [.ref s1, .ref s2, .ref s3, .ref s4, .ref s5, .ref s6, .int ds, va_rf sp, va_rf bt])), (s1, .inl (cO, 4, .inr (.inr (.inr (.inr f)))))]) (w1 := []) hP hD [] [0, 1, 2, 3, 4, 5] rfl rfl (by decide) (by decide) hk1 hFc hP1 hD1
          clear hz1 hk1 hFc hKc hDc hPc
          generalize H1 = H at hP hS ⊢
          have hP : va_P D vwCl [(s2, .inr (1, [.ref bx, .int ik, .int wy, .int op])), (bx, .inr (0, [.int bx0, .int by0, .int bx1, .int by1])), (t0, .inr (5, [.ref d0, .int w, .int h])), (d0, .inl (cI, 4096, .inl g)), (h0, .inr (8, [.ref s1, .ref s2, .ref s3, .ref s4, .ref s5, .ref s6, .int ds, va_rf sp, va_rf bt])), (s1, .inl (cO, 4, .inr (.inr (.inr (.inr f)))))] H := hP
          have hD : va_D A [(s2, .inr (1, [.ref bx, .int ik, .int wy, .int op])), (bx, .inr (0, [.int bx0, .int by0, .int bx1, .int by1])), (t0, .inr (5, [.ref d0, .int w, .int h])), (d0, .inl (cI, 4096, .inl g)), (h0, .inr (8, [.ref s1, .ref s2, .ref s3, .ref s4, .ref s5, .ref s6, .int ds, va_rf sp, va_rf bt])), (s1, .inl (cO, 4, .inr (.inr (.inr (.inr f)))))] := hD
          refine lv_istore (lv' := [(9, .int r_18), (8, .int y_17), (7, .int y_15), (6, .ref t0), (0, .ref h0), (1, .int k), (2, .int x0), (3, .int y0), (4, .int x1), (5, .int y1)]) hx hb dX8_line_80 hl (by decide) rfl (fun ls hl => ?_)
          refine lv_iload hx hb dX8_line_82 (lv_at hl 9 rfl) ?_
          refine lv_iload_n hx hb dX8_line_84 rfl (lv_at hl 7 rfl) ?_
          have hPc := hP.sub (ws' := []) [] rfl
          have hDc := hD.sub (ws' := []) [] (by decide) rfl
          have hKc := hK.sub (tys' := []) [] rfl
          have hFc := va_free (wc := []) hD hS hA [] rfl
          refine va_calli (va_runS (As := [.int y1, .int y0]) (rest := []) ⟨hx, hb, hml, hown, hts⟩ (k_J6_compare_7cf53 l D H.size y1 y0) (va_cwS 2 hts (gS bw_270 bw_271 bw_272 bw_273) rfl rfl rfl (by decide +kernel) ⟨(by rw [hR]; exact Nat.le_of_ble_eq_true rfl), (by rw [hR]; exact Nat.le_of_ble_eq_true rfl)⟩) ⟨cP_blind, cP_at hPc hKc hDc hN⟩ rfl rfl hl.1 rfl (lv_room (Nat.le_of_ble_eq_true rfl)) dX8_line_85 ⟨(by rw [hR]; exact Nat.le_of_ble_eq_true rfl), (by rw [hR]; exact Nat.le_of_ble_eq_true rfl)⟩) hS (fun q _ h => hFc q h) hFc (fun r_19 u9 t9 H1 locs ht hvm hr_19 hB hz1 hk1 hS => ?_)
          try dsimp only at hr_19
          have hP1 : va_P D vwCl [] H1 := vP_nil
          have hD1 : va_D (va_A [] H.size) [] := vD_nil
          obtain ⟨hP, hD⟩ := va_join (wr := [(s2, .inr (1, [.ref bx, .int ik, .int wy, .int op])), (bx, .inr (0, [.int bx0, .int by0, .int bx1, .int by1])), (t0, .inr (5, [.ref d0, .int w, .int h])), (d0, .inl (cI, 4096, .inl g)), (h0, .inr (8, [.ref s1, .ref s2, .ref s3, .ref s4, .ref s5, .ref s6, .int ds, va_rf sp, va_rf bt])), (s1, .inl (cO, 4, .inr (.inr (.inr (.inr f)))))]) (w1 := []) hP hD [] [0, 1, 2, 3, 4, 5] rfl rfl (by decide) (by decide) hk1 hFc hP1 hD1
          clear hz1 hk1 hFc hKc hDc hPc
          generalize H1 = H at hP hS ⊢
          have hP : va_P D vwCl [(s2, .inr (1, [.ref bx, .int ik, .int wy, .int op])), (bx, .inr (0, [.int bx0, .int by0, .int bx1, .int by1])), (t0, .inr (5, [.ref d0, .int w, .int h])), (d0, .inl (cI, 4096, .inl g)), (h0, .inr (8, [.ref s1, .ref s2, .ref s3, .ref s4, .ref s5, .ref s6, .int ds, va_rf sp, va_rf bt])), (s1, .inl (cO, 4, .inr (.inr (.inr (.inr f)))))] H := hP
          have hD : va_D A [(s2, .inr (1, [.ref bx, .int ik, .int wy, .int op])), (bx, .inr (0, [.int bx0, .int by0, .int bx1, .int by1])), (t0, .inr (5, [.ref d0, .int w, .int h])), (d0, .inl (cI, 4096, .inl g)), (h0, .inr (8, [.ref s1, .ref s2, .ref s3, .ref s4, .ref s5, .ref s6, .int ds, va_rf sp, va_rf bt])), (s1, .inl (cO, 4, .inr (.inr (.inr (.inr f)))))] := hD
          refine lv_istore (lv' := [(10, .int r_19), (9, .int r_18), (8, .int y_17), (7, .int y_15), (6, .ref t0), (0, .ref h0), (1, .int k), (2, .int x0), (3, .int y0), (4, .int x1), (5, .int y1)]) hx hb dX8_line_88 hl (by decide) rfl (fun ls hl => ?_)
          refine lv_iload hx hb dX8_line_90 (lv_at hl 3 rfl) ?_
          refine lv_iload hx hb dX8_line_92 (lv_at hl 2 rfl) ?_
          refine va_mmax hx hb (by rw [hml]; exact hl.1.symm) hown (hts _ bw_274) (hts _ bw_99) (hts _ bw_47) (hts _ bw_100) (by rw [hR]; exact Nat.le_of_ble_eq_true rfl) (by rw [hR]; exact Nat.le_of_ble_eq_true rfl) (by rw [hR]; exact Nat.le_of_ble_eq_true rfl) (by rw [hR]; exact Nat.le_of_ble_eq_true rfl) dX8_line_94 ?_
          refine lv_topi (fun y_20 ey_20 => ?_)
          obtain ⟨st9, est9⟩ : ∃ n, n = max (dN x0 x1) (dN y0 y1) := ⟨_, rfl⟩
          have hst4 : st9 ≤ 4000 := by rw [est9]; omega
          have hst : y_20 = nI st9 := by rw [ey_20, hdx, hdy, est9]; exact max_nI hlx hly
          have hst9 : y_20.toInt = (st9 : Int) := by rw [hst]; exact nI_toInt (by omega)
          refine lv_istore (lv' := [(11, .int y_20), (10, .int r_19), (9, .int r_18), (8, .int y_17), (7, .int y_15), (6, .ref t0), (0, .ref h0), (1, .int k), (2, .int x0), (3, .int y0), (4, .int x1), (5, .int y1)]) hx hb dX8_line_97 hl (by decide) rfl (fun ls hl => ?_)
          refine lv_iconst (v := 0) hx hb dX8_line_99 (by decide) ?_
          refine lv_istore (lv' := [(12, .int 0), (11, .int y_20), (10, .int r_19), (9, .int r_18), (8, .int y_17), (7, .int y_15), (6, .ref t0), (0, .ref h0), (1, .int k), (2, .int x0), (3, .int y0), (4, .int x1), (5, .int y1)]) hx hb dX8_line_100 hl (by decide) rfl (fun ls hl => ?_)
          refine lv_iconst (v := 0) hx hb dX8_line_102 (by decide) ?_
          refine lv_istore (lv' := [(13, .int 0), (12, .int 0), (11, .int y_20), (10, .int r_19), (9, .int r_18), (8, .int y_17), (7, .int y_15), (6, .ref t0), (0, .ref h0), (1, .int k), (2, .int x0), (3, .int y0), (4, .int x1), (5, .int y1)]) hx hb dX8_line_103 hl (by decide) rfl (fun ls hl => ?_)
          have loop_21 : ∀ (n : Nat) (i : Nat) (x13 : Int32) (x12 : Int32) (gg : Nat → Int32) (H : Heap) (locs : List Loc) (ls : Array Slot), (i ≤ (st9 + 1)) → ((st9 + 1) + 1 ≤ i + n) → (x13 = nI i) → (gg = fG (layG w h bx0 by0 bx1 by1 wy) (lnQ x0 y0 x1 y1 ds ik op) g i) → (x12 = fG (layT w h bx0 by0 bx1 by1) (lnQ x0 y0 x1 y1 ds ik op) 0 i) → va_P D vwCl [(s2, .inr (1, [.ref bx, .int ik, .int wy, .int op])), (bx, .inr (0, [.int bx0, .int by0, .int bx1, .int by1])), (t0, .inr (5, [.ref d0, .int w, .int h])), (d0, .inl (cI, 4096, .inl gg)), (h0, .inr (8, [.ref s1, .ref s2, .ref s3, .ref s4, .ref s5, .ref s6, .int ds, va_rf sp, va_rf bt])), (s1, .inl (cO, 4, .inr (.inr (.inr (.inr f)))))] H → va_D A [(s2, .inr (1, [.ref bx, .int ik, .int wy, .int op])), (bx, .inr (0, [.int bx0, .int by0, .int bx1, .int by1])), (t0, .inr (5, [.ref d0, .int w, .int h])), (d0, .inl (cI, 4096, .inl gg)), (h0, .inr (8, [.ref s1, .ref s2, .ref s3, .ref s4, .ref s5, .ref s6, .int ds, va_rf sp, va_rf bt])), (s1, .inl (cO, 4, .inr (.inr (.inr (.inr f)))))] → va_S A s.heap H locs → lv_has ls 16 [(13, .int x13), (12, .int x12), (11, .int y_20), (10, .int r_19), (9, .int r_18), (8, .int y_17), (7, .int y_15), (6, .ref t0), (0, .ref h0), (1, .int k), (2, .int x0), (3, .int y0), (4, .int x1), (5, .int y1)] → W p l e R s m ([.ref h0, .int k, .int x0, .int y0, .int x1, .int y1] : List Value).toArray below meth c H locs 0 0 Q (F0 m 105 ls []) := by
            intro n
            induction n with
            | zero =>
              intro i x13 x12 gg H locs ls hi hm ex hg et hP hD hS hl
              exact absurd (show False by omega) not_false
            | succ n ih_22 =>
              intro i x13 x12 gg H locs ls hi hm ex hg et hP hD hS hl
              have hxi : x13.toInt = (i : Int) := by rw [ex]; exact nI_toInt (by omega)
              refine lv_iload hx hb dX8_line_105 (lv_at hl 0 rfl) ?_
              refine lv_iload hx hb dX8_line_107 (lv_at hl 2 rfl) ?_
              refine lv_icmp_gt (tgt := 198) hx hb dX8_line_109 (by decide) (fun c_23 => ?_) (fun c_23 => ?_)
              · skip
                have f_24 : (st9 : Int) < (i : Int) := f_lt hst9 hxi c_23
                refine lv_iload hx hb dX8_line_198 (lv_at hl 1 rfl) ?_
                have hc : gg = if (-2000 ≤ x0.toInt ∧ x0.toInt ≤ 2000) ∧ (-2000 ≤ y0.toInt ∧ y0.toInt ≤ 2000) ∧ (-2000 ≤ x1.toInt ∧ x1.toInt ≤ 2000) ∧ (-2000 ≤ y1.toInt ∧ y1.toInt ≤ 2000) then fG (layG w h bx0 by0 bx1 by1 wy) (lnQ x0 y0 x1 y1 ds ik op) g (max (dN x0 x1) (dN y0 y1) + 1) else g := by rw [if_pos (by omega), hg, show i = st9 + 1 by omega, est9]
                rw [hc] at hP hD
                have hP9 := hP.sub (ws' := [(h0, .inr (8, [.ref s1, .ref s2, .ref s3, .ref s4, .ref s5, .ref s6, .int ds, va_rf sp, va_rf bt])), (s1, .inl (cO, 4, .inr (.inr (.inr (.inr f))))), (s2, .inr (1, [.ref bx, .int ik, .int wy, .int op])), (bx, .inr (0, [.int bx0, .int by0, .int bx1, .int by1])), (t0, .inr (5, [.ref d0, .int w, .int h])), (d0, .inl (cI, 4096, .inl (if (-2000 ≤ x0.toInt ∧ x0.toInt ≤ 2000) ∧ (-2000 ≤ y0.toInt ∧ y0.toInt ≤ 2000) ∧ (-2000 ≤ x1.toInt ∧ x1.toInt ≤ 2000) ∧ (-2000 ≤ y1.toInt ∧ y1.toInt ≤ 2000) then fG (layG w h bx0 by0 bx1 by1 wy) (lnQ x0 y0 x1 y1 ds ik op) g (max (dN x0 x1) (dN y0 y1) + 1) else g)))]) [4, 5, 0, 1, 2, 3] rfl
                have hD9 := hD.sub (ws' := [(h0, .inr (8, [.ref s1, .ref s2, .ref s3, .ref s4, .ref s5, .ref s6, .int ds, va_rf sp, va_rf bt])), (s1, .inl (cO, 4, .inr (.inr (.inr (.inr f))))), (s2, .inr (1, [.ref bx, .int ik, .int wy, .int op])), (bx, .inr (0, [.int bx0, .int by0, .int bx1, .int by1])), (t0, .inr (5, [.ref d0, .int w, .int h])), (d0, .inl (cI, 4096, .inl (if (-2000 ≤ x0.toInt ∧ x0.toInt ≤ 2000) ∧ (-2000 ≤ y0.toInt ∧ y0.toInt ≤ 2000) ∧ (-2000 ≤ x1.toInt ∧ x1.toInt ≤ 2000) ∧ (-2000 ≤ y1.toInt ∧ y1.toInt ≤ 2000) then fG (layG w h bx0 by0 bx1 by1 wy) (lnQ x0 y0 x1 y1 ds ik op) g (max (dN x0 x1) (dN y0 y1) + 1) else g)))]) [4, 5, 0, 1, 2, 3] (by decide) rfl
                have hK9 := hK.sub (tys' := [(cO, .object "DotBench$Sheet"), (cI, .int)]) [0, 1] rfl
                refine hQ _ _ _ _ _ ?_
                exact W.iret (v := x12) hx hb hr (fun t ht hW => ⟨⟨x12, (), rfl, (by rw [if_pos (by omega), et, show i = st9 + 1 by omega, est9]), ⟨by rw [ht]; exact hP9, va_K.moved hW.alike hK9, hD9⟩⟩, hS.F ht⟩) hS.2.2 dX8_line_200
              · skip
                have f_24 : ¬ ((st9 : Int) < (i : Int)) := fn_lt hst9 hxi c_23
                refine lv_aload_n hx hb dX8_line_112 rfl (lv_at hl 8 rfl) ?_
                refine va_get (D := D) (ci := 8) (v := .int ds) (C := RX8) (T := TX8) (N := 9) hx hb hts hi_X8 hown hK hP 4 rfl rfl 6 (by decide) (hts _ bw_241) (fun _ h9 => h9) rfl dX8_line_113 ?_
                refine lv_iload hx hb dX8_line_116 (lv_at hl 0 rfl) ?_
                refine lv_bipush (v := 15) hx hb dX8_line_118 (by decide) ?_
                refine lv_iand hx hb dX8_line_120 ?_
                refine lv_topi (fun y_25 ey_25 => ?_)
                refine lv_ishr hx hb dX8_line_121 ?_
                refine lv_topi (fun y_26 ey_26 => ?_)
                refine lv_iconst (v := 1) hx hb dX8_line_122 (by decide) ?_
                refine lv_iand hx hb dX8_line_123 ?_
                refine lv_topi (fun y_27 ey_27 => ?_)
                refine lv_iconst (v := 1) hx hb dX8_line_124 (by decide) ?_
                refine lv_icmp_ne (tgt := 192) hx hb dX8_line_125 (by decide) (fun c_28 => ?_) (fun c_28 => ?_)
                · skip
                  have f_29 : ¬ (y_27.toInt = 1) := fn_eq rfl (by decide) c_28
                  have hda : dashP ds i = y_27 := by unfold dashP; rw [ey_27, ey_26, ey_25, ex]
                  have hdd : ¬ dashP ds i = 1 := fun q => c_28 (hda.symm.trans q)
                  obtain ⟨y_30, ey_30⟩ : ∃ y : Int32, y = x13 + 1 := ⟨_, rfl⟩
                  refine lv_iinc (v := y_30) (lv' := [(13, .int y_30), (12, .int x12), (11, .int y_20), (10, .int r_19), (9, .int r_18), (8, .int y_17), (7, .int y_15), (6, .ref t0), (0, .ref h0), (1, .int k), (2, .int x0), (3, .int y0), (4, .int x1), (5, .int y1)]) hx hb dX8_line_192 hl (k := 0) rfl (by rw [ey_30]; rfl) (by decide) rfl (fun ls hl => ?_)
                  refine lv_goto (tgt := 105) hx hb dX8_line_195 (by decide) ?_
                  exact ih_22 (i + 1) y_30 x12 gg _ _ _ (by omega) (by omega) (by rw [ey_30, ex]; exact nI_1 i) (by rw [fG_none (if_neg hdd)]; exact hg) (by rw [fG_none (if_neg hdd)]; exact et) (hP.sub (ws' := [(s2, .inr (1, [.ref bx, .int ik, .int wy, .int op])), (bx, .inr (0, [.int bx0, .int by0, .int bx1, .int by1])), (t0, .inr (5, [.ref d0, .int w, .int h])), (d0, .inl (cI, 4096, .inl gg)), (h0, .inr (8, [.ref s1, .ref s2, .ref s3, .ref s4, .ref s5, .ref s6, .int ds, va_rf sp, va_rf bt])), (s1, .inl (cO, 4, .inr (.inr (.inr (.inr f)))))]) [0, 1, 2, 3, 4, 5] rfl) (hD.sub (ws' := [(s2, .inr (1, [.ref bx, .int ik, .int wy, .int op])), (bx, .inr (0, [.int bx0, .int by0, .int bx1, .int by1])), (t0, .inr (5, [.ref d0, .int w, .int h])), (d0, .inl (cI, 4096, .inl gg)), (h0, .inr (8, [.ref s1, .ref s2, .ref s3, .ref s4, .ref s5, .ref s6, .int ds, va_rf sp, va_rf bt])), (s1, .inl (cO, 4, .inr (.inr (.inr (.inr f)))))]) [0, 1, 2, 3, 4, 5] (by decide) rfl) hS (lv_sub hl [0, 1, 2, 3, 4, 5, 6, 7, 8, 9, 10, 11, 12, 13] rfl)
                · skip
                  have f_29 : y_27.toInt = 1 := f_eq rfl (by decide) c_28
                  have hda : dashP ds i = y_27 := by unfold dashP; rw [ey_27, ey_26, ey_25, ex]
                  have hdd : dashP ds i = 1 := hda.trans c_28
                  refine lv_iload_n hx hb dX8_line_128 rfl (lv_at hl 10 rfl) ?_
                  refine lv_iload hx hb dX8_line_129 (lv_at hl 4 rfl) ?_
                  refine lv_iload hx hb dX8_line_131 (lv_at hl 0 rfl) ?_
                  refine lv_iload hx hb dX8_line_133 (lv_at hl 2 rfl) ?_
                  refine lv_iload hx hb dX8_line_135 (lv_at hl 6 rfl) ?_
                  have hPc := hP.sub (ws' := []) [] rfl
                  have hDc := hD.sub (ws' := []) [] (by decide) rfl
                  have hKc := hK.sub (tys' := []) [] rfl
                  have hFc := va_free (wc := []) hD hS hA [] rfl
                  refine va_calli (va_runS (As := [.int x13, .int y_20, .int y_15]) (rest := [.int r_18, .int x0]) ⟨hx, hb, hml, hown, hts⟩ (k_X8_wayAlong l D H.size x13 y_20 y_15 i st9 (dN x0 x1) ex hst hdx (by omega) hst4 hlx hst9) (va_cwS 3 hts (gS bw_275 bw_367 bw_223 bw_366) rfl rfl rfl (by decide +kernel) ⟨(by rw [hR]; exact Nat.le_of_ble_eq_true rfl), (by rw [hR]; exact Nat.le_of_ble_eq_true rfl)⟩) ⟨cP_blind, cP_at hPc hKc hDc hN⟩ rfl rfl hl.1 rfl (lv_room (Nat.le_of_ble_eq_true rfl)) dX8_line_137 ⟨(by rw [hR]; exact Nat.le_of_ble_eq_true rfl), (by rw [hR]; exact Nat.le_of_ble_eq_true rfl)⟩) hS (fun q _ h => hFc q h) hFc (fun r_31 u9 t9 H1 locs ht hvm hr_31 hB hz1 hk1 hS => ?_)
                  try dsimp only at hr_31
                  have hP1 : va_P D vwCl [] H1 := vP_nil
                  have hD1 : va_D (va_A [] H.size) [] := vD_nil
                  obtain ⟨hP, hD⟩ := va_join (wr := [(s2, .inr (1, [.ref bx, .int ik, .int wy, .int op])), (bx, .inr (0, [.int bx0, .int by0, .int bx1, .int by1])), (t0, .inr (5, [.ref d0, .int w, .int h])), (d0, .inl (cI, 4096, .inl gg)), (h0, .inr (8, [.ref s1, .ref s2, .ref s3, .ref s4, .ref s5, .ref s6, .int ds, va_rf sp, va_rf bt])), (s1, .inl (cO, 4, .inr (.inr (.inr (.inr f)))))]) (w1 := []) hP hD [] [0, 1, 2, 3, 4, 5] rfl rfl (by decide) (by decide) hk1 hFc hP1 hD1
                  clear hz1 hk1 hFc hKc hDc hPc
                  generalize H1 = H at hP hS ⊢
                  have hP : va_P D vwCl [(s2, .inr (1, [.ref bx, .int ik, .int wy, .int op])), (bx, .inr (0, [.int bx0, .int by0, .int bx1, .int by1])), (t0, .inr (5, [.ref d0, .int w, .int h])), (d0, .inl (cI, 4096, .inl gg)), (h0, .inr (8, [.ref s1, .ref s2, .ref s3, .ref s4, .ref s5, .ref s6, .int ds, va_rf sp, va_rf bt])), (s1, .inl (cO, 4, .inr (.inr (.inr (.inr f)))))] H := hP
                  have hD : va_D A [(s2, .inr (1, [.ref bx, .int ik, .int wy, .int op])), (bx, .inr (0, [.int bx0, .int by0, .int bx1, .int by1])), (t0, .inr (5, [.ref d0, .int w, .int h])), (d0, .inl (cI, 4096, .inl gg)), (h0, .inr (8, [.ref s1, .ref s2, .ref s3, .ref s4, .ref s5, .ref s6, .int ds, va_rf sp, va_rf bt])), (s1, .inl (cO, 4, .inr (.inr (.inr (.inr f)))))] := hD
                  refine lv_imul hx hb dX8_line_140 ?_
                  refine lv_topi (fun y_32 ey_32 => ?_)
                  refine lv_iadd hx hb dX8_line_141 ?_
                  refine lv_topi (fun y_33 ey_33 => ?_)
                  refine lv_istore (lv' := [(14, .int y_33), (13, .int x13), (12, .int x12), (11, .int y_20), (10, .int r_19), (9, .int r_18), (8, .int y_17), (7, .int y_15), (6, .ref t0), (0, .ref h0), (1, .int k), (2, .int x0), (3, .int y0), (4, .int x1), (5, .int y1)]) hx hb dX8_line_142 hl (by decide) rfl (fun ls hl => ?_)
                  refine lv_iload_n hx hb dX8_line_144 rfl (lv_at hl 12 rfl) ?_
                  refine lv_iload hx hb dX8_line_145 (lv_at hl 4 rfl) ?_
                  refine lv_iload hx hb dX8_line_147 (lv_at hl 1 rfl) ?_
                  refine lv_iload hx hb dX8_line_149 (lv_at hl 3 rfl) ?_
                  refine lv_iload hx hb dX8_line_151 (lv_at hl 6 rfl) ?_
                  have hPc := hP.sub (ws' := []) [] rfl
                  have hDc := hD.sub (ws' := []) [] (by decide) rfl
                  have hKc := hK.sub (tys' := []) [] rfl
                  have hFc := va_free (wc := []) hD hS hA [] rfl
                  refine va_calli (va_runS (As := [.int x13, .int y_20, .int y_17]) (rest := [.int r_19, .int y0]) ⟨hx, hb, hml, hown, hts⟩ (k_X8_wayAlong l D H.size x13 y_20 y_17 i st9 (dN y0 y1) ex hst hdy (by omega) hst4 hly hst9) (va_cwS 3 hts (gS bw_275 bw_367 bw_223 bw_366) rfl rfl rfl (by decide +kernel) ⟨(by rw [hR]; exact Nat.le_of_ble_eq_true rfl), (by rw [hR]; exact Nat.le_of_ble_eq_true rfl)⟩) ⟨cP_blind, cP_at hPc hKc hDc hN⟩ rfl rfl hl.1 rfl (lv_room (Nat.le_of_ble_eq_true rfl)) dX8_line_153 ⟨(by rw [hR]; exact Nat.le_of_ble_eq_true rfl), (by rw [hR]; exact Nat.le_of_ble_eq_true rfl)⟩) hS (fun q _ h => hFc q h) hFc (fun r_34 u9 t9 H1 locs ht hvm hr_34 hB hz1 hk1 hS => ?_)
                  try dsimp only at hr_34
                  have hP1 : va_P D vwCl [] H1 := vP_nil
                  have hD1 : va_D (va_A [] H.size) [] := vD_nil
                  obtain ⟨hP, hD⟩ := va_join (wr := [(s2, .inr (1, [.ref bx, .int ik, .int wy, .int op])), (bx, .inr (0, [.int bx0, .int by0, .int bx1, .int by1])), (t0, .inr (5, [.ref d0, .int w, .int h])), (d0, .inl (cI, 4096, .inl gg)), (h0, .inr (8, [.ref s1, .ref s2, .ref s3, .ref s4, .ref s5, .ref s6, .int ds, va_rf sp, va_rf bt])), (s1, .inl (cO, 4, .inr (.inr (.inr (.inr f)))))]) (w1 := []) hP hD [] [0, 1, 2, 3, 4, 5] rfl rfl (by decide) (by decide) hk1 hFc hP1 hD1
                  clear hz1 hk1 hFc hKc hDc hPc
                  generalize H1 = H at hP hS ⊢
                  have hP : va_P D vwCl [(s2, .inr (1, [.ref bx, .int ik, .int wy, .int op])), (bx, .inr (0, [.int bx0, .int by0, .int bx1, .int by1])), (t0, .inr (5, [.ref d0, .int w, .int h])), (d0, .inl (cI, 4096, .inl gg)), (h0, .inr (8, [.ref s1, .ref s2, .ref s3, .ref s4, .ref s5, .ref s6, .int ds, va_rf sp, va_rf bt])), (s1, .inl (cO, 4, .inr (.inr (.inr (.inr f)))))] H := hP
                  have hD : va_D A [(s2, .inr (1, [.ref bx, .int ik, .int wy, .int op])), (bx, .inr (0, [.int bx0, .int by0, .int bx1, .int by1])), (t0, .inr (5, [.ref d0, .int w, .int h])), (d0, .inl (cI, 4096, .inl gg)), (h0, .inr (8, [.ref s1, .ref s2, .ref s3, .ref s4, .ref s5, .ref s6, .int ds, va_rf sp, va_rf bt])), (s1, .inl (cO, 4, .inr (.inr (.inr (.inr f)))))] := hD
                  refine lv_imul hx hb dX8_line_156 ?_
                  refine lv_topi (fun y_35 ey_35 => ?_)
                  refine lv_iadd hx hb dX8_line_157 ?_
                  refine lv_topi (fun y_36 ey_36 => ?_)
                  refine lv_istore (lv' := [(15, .int y_36), (14, .int y_33), (13, .int x13), (12, .int x12), (11, .int y_20), (10, .int r_19), (9, .int r_18), (8, .int y_17), (7, .int y_15), (6, .ref t0), (0, .ref h0), (1, .int k), (2, .int x0), (3, .int y0), (4, .int x1), (5, .int y1)]) hx hb dX8_line_158 hl (by decide) rfl (fun ls hl => ?_)
                  refine lv_iload hx hb dX8_line_160 (lv_at hl 3 rfl) ?_
                  refine lv_aload_n hx hb dX8_line_162 rfl (lv_at hl 10 rfl) ?_
                  refine va_get (D := D) (ci := 8) (v := .ref s2) (C := RX8) (T := TX8) (N := 9) hx hb hts hi_X8 hown hK hP 4 rfl rfl 1 (by decide) (hts _ bw_231) (fun _ h9 => h9) rfl dX8_line_163 ?_
                  refine lv_aload hx hb dX8_line_166 (lv_at hl 9 rfl) ?_
                  refine lv_iload hx hb dX8_line_168 (lv_at hl 1 rfl) ?_
                  refine lv_iload hx hb dX8_line_170 (lv_at hl 0 rfl) ?_
                  refine lv_aload_n hx hb dX8_line_172 rfl (lv_at hl 10 rfl) ?_
                  refine va_get (D := D) (ci := 8) (v := .ref s2) (C := RX8) (T := TX8) (N := 9) hx hb hts hi_X8 hown hK hP 4 rfl rfl 1 (by decide) (hts _ bw_231) (fun _ h9 => h9) rfl dX8_line_173 ?_
                  refine va_getN (host := RX8) (D := D) (ci := 1) (v := .int ik) (C := RX1) (T := TX1) (N := 4) hx hb hts hi_X1 hown hK hP 0 rfl rfl 1 (by decide) ((hN.1 (RX8, 76, "DotBench$Brush", "ink", "I", RX8) (by decide +kernel)).use rfl) (fun _ h9 => h9) rfl dX8_line_176 ?_
                  refine lv_aload_n hx hb dX8_line_179 rfl (lv_at hl 10 rfl) ?_
                  refine va_get (D := D) (ci := 8) (v := .ref s2) (C := RX8) (T := TX8) (N := 9) hx hb hts hi_X8 hown hK hP 4 rfl rfl 1 (by decide) (hts _ bw_231) (fun _ h9 => h9) rfl dX8_line_180 ?_
                  refine va_getN (host := RX8) (D := D) (ci := 1) (v := .int op) (C := RX1) (T := TX1) (N := 4) hx hb hts hi_X1 hown hK hP 0 rfl rfl 3 (by decide) ((hN.1 (RX8, 86, "DotBench$Brush", "opacity", "I", RX8) (by decide +kernel)).use rfl) (fun _ h9 => h9) rfl dX8_line_183 ?_
                  have hPc := hP.sub (ws' := [(s2, .inr (1, [.ref bx, .int ik, .int wy, .int op])), (bx, .inr (0, [.int bx0, .int by0, .int bx1, .int by1])), (t0, .inr (5, [.ref d0, .int w, .int h])), (d0, .inl (cI, 4096, .inl gg))]) [0, 1, 2, 3] rfl
                  have hDc := hD.sub (ws' := [(s2, .inr (1, [.ref bx, .int ik, .int wy, .int op])), (bx, .inr (0, [.int bx0, .int by0, .int bx1, .int by1])), (t0, .inr (5, [.ref d0, .int w, .int h])), (d0, .inl (cI, 4096, .inl gg))]) [0, 1, 2, 3] (by decide) rfl
                  have hKc := hK.sub (tys' := [(cI, .int)]) [1] rfl
                  have hFc := va_free (wc := [(s2, .inr (1, [.ref bx, .int ik, .int wy, .int op])), (bx, .inr (0, [.int bx0, .int by0, .int bx1, .int by1])), (t0, .inr (5, [.ref d0, .int w, .int h])), (d0, .inl (cI, 4096, .inl gg))]) hD hS hA [0, 1, 2, 3] rfl
                  refine va_calli (va_runV (As := [.ref t0, .int y_33, .int y_36, .int ik, .int op]) (rest := [.int x12]) ⟨hx, hb, hml, hown, hts⟩ (k_X1_lay l D H.size s2 bx ik wy op t0 d0 bx0 by0 bx1 by1 w h gg y_33 y_36 ik op cI (by first | assumption | omega | decide) (by first | assumption | omega | decide) (by first | assumption | omega | decide)) (cwV 5 hts (gV bw_276 bw_33 bw_34 bw_19 bw_32) rfl rfl rfl (by decide +kernel) ⟨(by rw [hR]; exact Nat.le_of_ble_eq_true rfl), (by rw [hR]; exact Nat.le_of_ble_eq_true rfl)⟩) ⟨cP_blind, va_recv hKc hPc (ci := 1) (q0 := 0) rfl rfl, cP_at hPc hKc hDc hN⟩ rfl rfl hl.1 rfl (lv_room (Nat.le_of_ble_eq_true rfl)) dX8_line_186 ⟨(by rw [hR]; exact Nat.le_of_ble_eq_true rfl), (by rw [hR]; exact Nat.le_of_ble_eq_true rfl)⟩) hS (fun q _ h => hFc q h) hFc (fun r_37 u9 t9 H1 locs ht hvm hr_37 hB hz1 hk1 hS => ?_)
                  try dsimp only at hr_37
                  obtain ⟨hP1, hK1, hD1⟩ := hB
                  rw [ht] at hP1
                  obtain ⟨hP, hD⟩ := va_join (wr := [(h0, .inr (8, [.ref s1, .ref s2, .ref s3, .ref s4, .ref s5, .ref s6, .int ds, va_rf sp, va_rf bt])), (s1, .inl (cO, 4, .inr (.inr (.inr (.inr f)))))]) (w1 := [(s2, .inr (1, [.ref bx, .int ik, .int wy, .int op])), (bx, .inr (0, [.int bx0, .int by0, .int bx1, .int by1])), (t0, .inr (5, [.ref d0, .int w, .int h])), (d0, .inl (cI, 4096, .inl (if 0 ≤ y_33.toInt ∧ y_33.toInt < w.toInt ∧ 0 ≤ y_36.toInt ∧ y_36.toInt < h.toInt ∧ bx0.toInt ≤ y_33.toInt ∧ y_33.toInt ≤ bx1.toInt ∧ by0.toInt ≤ y_36.toInt ∧ y_36.toInt ≤ by1.toInt then upd gg (ixP y_33 y_36) (laidP wy ik (gg (ixP y_33 y_36)) op) else gg)))]) hP hD [0, 1, 2, 3] [4, 5] rfl rfl (by decide) (by decide) hk1 hFc hP1 hD1
                  clear hz1 hk1 hFc hKc hDc hPc
                  generalize H1 = H at hP hS ⊢
                  have hP : va_P D vwCl [(h0, .inr (8, [.ref s1, .ref s2, .ref s3, .ref s4, .ref s5, .ref s6, .int ds, va_rf sp, va_rf bt])), (s1, .inl (cO, 4, .inr (.inr (.inr (.inr f))))), (s2, .inr (1, [.ref bx, .int ik, .int wy, .int op])), (bx, .inr (0, [.int bx0, .int by0, .int bx1, .int by1])), (t0, .inr (5, [.ref d0, .int w, .int h])), (d0, .inl (cI, 4096, .inl (if 0 ≤ y_33.toInt ∧ y_33.toInt < w.toInt ∧ 0 ≤ y_36.toInt ∧ y_36.toInt < h.toInt ∧ bx0.toInt ≤ y_33.toInt ∧ y_33.toInt ≤ bx1.toInt ∧ by0.toInt ≤ y_36.toInt ∧ y_36.toInt ≤ by1.toInt then upd gg (ixP y_33 y_36) (laidP wy ik (gg (ixP y_33 y_36)) op) else gg)))] H := hP
                  have hD : va_D A [(h0, .inr (8, [.ref s1, .ref s2, .ref s3, .ref s4, .ref s5, .ref s6, .int ds, va_rf sp, va_rf bt])), (s1, .inl (cO, 4, .inr (.inr (.inr (.inr f))))), (s2, .inr (1, [.ref bx, .int ik, .int wy, .int op])), (bx, .inr (0, [.int bx0, .int by0, .int bx1, .int by1])), (t0, .inr (5, [.ref d0, .int w, .int h])), (d0, .inl (cI, 4096, .inl (if 0 ≤ y_33.toInt ∧ y_33.toInt < w.toInt ∧ 0 ≤ y_36.toInt ∧ y_36.toInt < h.toInt ∧ bx0.toInt ≤ y_33.toInt ∧ y_33.toInt ≤ bx1.toInt ∧ by0.toInt ≤ y_36.toInt ∧ y_36.toInt ≤ by1.toInt then upd gg (ixP y_33 y_36) (laidP wy ik (gg (ixP y_33 y_36)) op) else gg)))] := hD
                  refine lv_iadd hx hb dX8_line_189 ?_
                  refine lv_topi (fun y_38 ey_38 => ?_)
                  refine lv_istore (lv' := [(12, .int y_38), (15, .int y_36), (14, .int y_33), (13, .int x13), (11, .int y_20), (10, .int r_19), (9, .int r_18), (8, .int y_17), (7, .int y_15), (6, .ref t0), (0, .ref h0), (1, .int k), (2, .int x0), (3, .int y0), (4, .int x1), (5, .int y1)]) hx hb dX8_line_190 hl (by decide) rfl (fun ls hl => ?_)
                  obtain ⟨y_39, ey_39⟩ : ∃ y : Int32, y = x13 + 1 := ⟨_, rfl⟩
                  refine lv_iinc (v := y_39) (lv' := [(13, .int y_39), (12, .int y_38), (15, .int y_36), (14, .int y_33), (11, .int y_20), (10, .int r_19), (9, .int r_18), (8, .int y_17), (7, .int y_15), (6, .ref t0), (0, .ref h0), (1, .int k), (2, .int x0), (3, .int y0), (4, .int x1), (5, .int y1)]) hx hb dX8_line_192 hl (k := 3) rfl (by rw [ey_39]; rfl) (by decide) rfl (fun ls hl => ?_)
                  refine lv_goto (tgt := 105) hx hb dX8_line_195 (by decide) ?_
                  exact ih_22 (i + 1) y_39 y_38 (if 0 ≤ y_33.toInt ∧ y_33.toInt < w.toInt ∧ 0 ≤ y_36.toInt ∧ y_36.toInt < h.toInt ∧ bx0.toInt ≤ y_33.toInt ∧ y_33.toInt ≤ bx1.toInt ∧ by0.toInt ≤ y_36.toInt ∧ y_36.toInt ≤ by1.toInt then upd gg (ixP y_33 y_36) (laidP wy ik (gg (ixP y_33 y_36)) op) else gg) _ _ _ (by omega) (by omega) (by rw [ey_39, ex]; exact nI_1 i) (by rw [fG_some (show lnQ x0 y0 x1 y1 ds ik op i = some (y_33, y_36, ik, op) by unfold lnQ lnX; rw [if_pos hdd, ← est9, ey_33, ey_32, hr_18, hr_31, ey_36, ey_35, hr_19, hr_34]), ← hg]; rfl) (by rw [fG_some (show lnQ x0 y0 x1 y1 ds ik op i = some (y_33, y_36, ik, op) by unfold lnQ lnX; rw [if_pos hdd, ← est9, ey_33, ey_32, hr_18, hr_31, ey_36, ey_35, hr_19, hr_34]), ← et, ey_38, hr_37]; rfl) (hP.sub (ws' := [(s2, .inr (1, [.ref bx, .int ik, .int wy, .int op])), (bx, .inr (0, [.int bx0, .int by0, .int bx1, .int by1])), (t0, .inr (5, [.ref d0, .int w, .int h])), (d0, .inl (cI, 4096, .inl (if 0 ≤ y_33.toInt ∧ y_33.toInt < w.toInt ∧ 0 ≤ y_36.toInt ∧ y_36.toInt < h.toInt ∧ bx0.toInt ≤ y_33.toInt ∧ y_33.toInt ≤ bx1.toInt ∧ by0.toInt ≤ y_36.toInt ∧ y_36.toInt ≤ by1.toInt then upd gg (ixP y_33 y_36) (laidP wy ik (gg (ixP y_33 y_36)) op) else gg))), (h0, .inr (8, [.ref s1, .ref s2, .ref s3, .ref s4, .ref s5, .ref s6, .int ds, va_rf sp, va_rf bt])), (s1, .inl (cO, 4, .inr (.inr (.inr (.inr f)))))]) [2, 3, 4, 5, 0, 1] rfl) (hD.sub (ws' := [(s2, .inr (1, [.ref bx, .int ik, .int wy, .int op])), (bx, .inr (0, [.int bx0, .int by0, .int bx1, .int by1])), (t0, .inr (5, [.ref d0, .int w, .int h])), (d0, .inl (cI, 4096, .inl (if 0 ≤ y_33.toInt ∧ y_33.toInt < w.toInt ∧ 0 ≤ y_36.toInt ∧ y_36.toInt < h.toInt ∧ bx0.toInt ≤ y_33.toInt ∧ y_33.toInt ≤ bx1.toInt ∧ by0.toInt ≤ y_36.toInt ∧ y_36.toInt ≤ by1.toInt then upd gg (ixP y_33 y_36) (laidP wy ik (gg (ixP y_33 y_36)) op) else gg))), (h0, .inr (8, [.ref s1, .ref s2, .ref s3, .ref s4, .ref s5, .ref s6, .int ds, va_rf sp, va_rf bt])), (s1, .inl (cO, 4, .inr (.inr (.inr (.inr f)))))]) [2, 3, 4, 5, 0, 1] (by decide) rfl) hS (lv_sub hl [0, 1, 4, 5, 6, 7, 8, 9, 10, 11, 12, 13, 14, 15] rfl)
          exact loop_21 ((st9 + 1) + 1) 0 0 0 g _ _ _ (by omega) (by omega) nI_0.symm rfl rfl hP hD hS (lv_sub hl [0, 1, 2, 3, 4, 5, 6, 7, 8, 9, 10, 11, 12, 13] rfl)
        · skip
          have f_13 := bz0 hr_11 c_12
          refine lv_iconst (v := (-1)) hx hb dX8_line_54 (by decide) ?_
          have hc : g = if (-2000 ≤ x0.toInt ∧ x0.toInt ≤ 2000) ∧ (-2000 ≤ y0.toInt ∧ y0.toInt ≤ 2000) ∧ (-2000 ≤ x1.toInt ∧ x1.toInt ≤ 2000) ∧ (-2000 ≤ y1.toInt ∧ y1.toInt ≤ 2000) then fG (layG w h bx0 by0 bx1 by1 wy) (lnQ x0 y0 x1 y1 ds ik op) g (max (dN x0 x1) (dN y0 y1) + 1) else g := (if_neg (by omega)).symm
          rw [hc] at hP hD
          have hP9 := hP.sub (ws' := [(h0, .inr (8, [.ref s1, .ref s2, .ref s3, .ref s4, .ref s5, .ref s6, .int ds, va_rf sp, va_rf bt])), (s1, .inl (cO, 4, .inr (.inr (.inr (.inr f))))), (s2, .inr (1, [.ref bx, .int ik, .int wy, .int op])), (bx, .inr (0, [.int bx0, .int by0, .int bx1, .int by1])), (t0, .inr (5, [.ref d0, .int w, .int h])), (d0, .inl (cI, 4096, .inl (if (-2000 ≤ x0.toInt ∧ x0.toInt ≤ 2000) ∧ (-2000 ≤ y0.toInt ∧ y0.toInt ≤ 2000) ∧ (-2000 ≤ x1.toInt ∧ x1.toInt ≤ 2000) ∧ (-2000 ≤ y1.toInt ∧ y1.toInt ≤ 2000) then fG (layG w h bx0 by0 bx1 by1 wy) (lnQ x0 y0 x1 y1 ds ik op) g (max (dN x0 x1) (dN y0 y1) + 1) else g)))]) [4, 5, 0, 1, 2, 3] rfl
          have hD9 := hD.sub (ws' := [(h0, .inr (8, [.ref s1, .ref s2, .ref s3, .ref s4, .ref s5, .ref s6, .int ds, va_rf sp, va_rf bt])), (s1, .inl (cO, 4, .inr (.inr (.inr (.inr f))))), (s2, .inr (1, [.ref bx, .int ik, .int wy, .int op])), (bx, .inr (0, [.int bx0, .int by0, .int bx1, .int by1])), (t0, .inr (5, [.ref d0, .int w, .int h])), (d0, .inl (cI, 4096, .inl (if (-2000 ≤ x0.toInt ∧ x0.toInt ≤ 2000) ∧ (-2000 ≤ y0.toInt ∧ y0.toInt ≤ 2000) ∧ (-2000 ≤ x1.toInt ∧ x1.toInt ≤ 2000) ∧ (-2000 ≤ y1.toInt ∧ y1.toInt ≤ 2000) then fG (layG w h bx0 by0 bx1 by1 wy) (lnQ x0 y0 x1 y1 ds ik op) g (max (dN x0 x1) (dN y0 y1) + 1) else g)))]) [4, 5, 0, 1, 2, 3] (by decide) rfl
          have hK9 := hK.sub (tys' := [(cO, .object "DotBench$Sheet"), (cI, .int)]) [0, 1] rfl
          refine hQ _ _ _ _ _ ?_
          exact W.iret (v := (-1)) hx hb hr (fun t ht hW => ⟨⟨(-1), (), rfl, (if_neg (by omega)).symm, ⟨by rw [ht]; exact hP9, va_K.moved hW.alike hK9, hD9⟩⟩, hS.F ht⟩) hS.2.2 dX8_line_55
