set_option maxHeartbeats 4000000 in
set_option maxRecDepth 100000 in
theorem k_X8_fill_ye (l : Launch) (D : va_G) (sz : Nat) (h0 s1 s2 s3 s4 s5 s6 : Nat) (ds : Int32) (sp bt : Option Nat) (f : Nat → Option Nat) (bx t0 d0 : Nat) (ik wy op : Int32) (bx0 by0 bx1 by1 : Int32) (w h : Int32) (g : Nat → Int32) (p1 p2 p3 p4 : Nat) (pn fx fy : Int32) (qa : Nat → Int32) (qb : Nat → Int32) (qc : Nat → Int32) (qd : Nat → Int32) (w1 w2 : Nat) (gw : Nat → Int32) (gc : Nat → Int32) (k ru sm : Int32) (cO : ClassId) (cI : ClassId) (hk : 0 ≤ k.toInt ∧ k.toInt ≤ 3) (hf : f k.toNatClampNeg = some t0) (hwy : 0 ≤ wy.toInt ∧ wy.toInt ≤ 12) (hw : 0 ≤ w.toInt ∧ w.toInt ≤ 64) (hh : 0 ≤ h.toInt ∧ h.toInt ≤ 64) (hpn : 0 ≤ pn.toInt ∧ pn.toInt ≤ 48) (hq8 : ∀ j : Nat, j < pn.toNatClampNeg → c8 (qa j) ∧ c8 (qb j) ∧ c8 (qc j) ∧ c8 (qd j)) : Met l yX8_fill (wB yX8_fill cX8_fill 10 (some .int)) ({ frames := 4, cells := 0, slots := 0, locals := 103 }) (cP D [(h0, .inr (8, [.ref s1, .ref s2, .ref s3, .ref s4, .ref s5, .ref s6, .int ds, va_rf sp, va_rf bt])), (s1, .inl (cO, 4, .inr (.inr (.inr (.inr f))))), (s2, .inr (1, [.ref bx, .int ik, .int wy, .int op])), (bx, .inr (0, [.int bx0, .int by0, .int bx1, .int by1])), (t0, .inr (5, [.ref d0, .int w, .int h])), (d0, .inl (cI, 4096, .inl g)), (s4, .inr (3, [.ref p1, .ref p2, .ref p3, .ref p4, .int pn, .int fx, .int fy])), (p1, .inl (cI, 48, .inl qa)), (p2, .inl (cI, 48, .inl qb)), (p3, .inl (cI, 48, .inl qc)), (p4, .inl (cI, 48, .inl qd)), (s6, .inr (4, [.ref w1, .ref w2])), (w1, .inl (cI, 256, .inl gw)), (w2, .inl (cI, 64, .inl gc))] [(cO, .object "DotBench$Sheet"), (cI, .int)] sz [.ref h0, .int k, .int ru, .int sm]) (va_Qi (fun (r : Int32) (_ : Unit) => r = if (ru.toInt = 0 ∨ ru.toInt = 1) then (gL (flQ (cfC qa qb qc qd pn.toNatClampNeg ru sm) sm ik op) w.toNatClampNeg h.toNatClampNeg).foldl (layT w h bx0 by0 bx1 by1) 0 else -1) (fun (_ : Unit) (t : State) => ∃ (g3 g4 : Nat → Int32), cB D (va_A [(h0, .inr (8, [.ref s1, .ref s2, .ref s3, .ref s4, .ref s5, .ref s6, .int ds, va_rf sp, va_rf bt])), (s1, .inl (cO, 4, .inr (.inr (.inr (.inr f))))), (s2, .inr (1, [.ref bx, .int ik, .int wy, .int op])), (bx, .inr (0, [.int bx0, .int by0, .int bx1, .int by1])), (t0, .inr (5, [.ref d0, .int w, .int h])), (d0, .inl (cI, 4096, .inl g)), (s4, .inr (3, [.ref p1, .ref p2, .ref p3, .ref p4, .int pn, .int fx, .int fy])), (p1, .inl (cI, 48, .inl qa)), (p2, .inl (cI, 48, .inl qb)), (p3, .inl (cI, 48, .inl qc)), (p4, .inl (cI, 48, .inl qd)), (s6, .inr (4, [.ref w1, .ref w2])), (w1, .inl (cI, 256, .inl gw)), (w2, .inl (cI, 64, .inl gc))] sz) [(h0, .inr (8, [.ref s1, .ref s2, .ref s3, .ref s4, .ref s5, .ref s6, .int ds, va_rf sp, va_rf bt])), (s1, .inl (cO, 4, .inr (.inr (.inr (.inr f))))), (s2, .inr (1, [.ref bx, .int ik, .int wy, .int op])), (bx, .inr (0, [.int bx0, .int by0, .int bx1, .int by1])), (t0, .inr (5, [.ref d0, .int w, .int h])), (d0, .inl (cI, 4096, .inl (if (ru.toInt = 0 ∨ ru.toInt = 1) then (gL (flQ (cfC qa qb qc qd pn.toNatClampNeg ru sm) sm ik op) w.toNatClampNeg h.toNatClampNeg).foldl (layG w h bx0 by0 bx1 by1 wy) g else g))), (s4, .inr (3, [.ref p1, .ref p2, .ref p3, .ref p4, .int pn, .int fx, .int fy])), (p1, .inl (cI, 48, .inl qa)), (p2, .inl (cI, 48, .inl qb)), (p3, .inl (cI, 48, .inl qc)), (p4, .inl (cI, 48, .inl qd)), (s6, .inr (4, [.ref w1, .ref w2])), (w1, .inl (cI, 256, .inl g3)), (w2, .inl (cI, 64, .inl g4))] [(cO, .object "DotBench$Sheet"), (cI, .int)] t) (va_A [(h0, .inr (8, [.ref s1, .ref s2, .ref s3, .ref s4, .ref s5, .ref s6, .int ds, va_rf sp, va_rf bt])), (s1, .inl (cO, 4, .inr (.inr (.inr (.inr f))))), (s2, .inr (1, [.ref bx, .int ik, .int wy, .int op])), (bx, .inr (0, [.int bx0, .int by0, .int bx1, .int by1])), (t0, .inr (5, [.ref d0, .int w, .int h])), (d0, .inl (cI, 4096, .inl g)), (s4, .inr (3, [.ref p1, .ref p2, .ref p3, .ref p4, .int pn, .int fx, .int fy])), (p1, .inl (cI, 48, .inl qa)), (p2, .inl (cI, 48, .inl qb)), (p3, .inl (cI, 48, .inl qc)), (p4, .inl (cI, 48, .inl qd)), (s6, .inr (4, [.ref w1, .ref w2])), (w1, .inl (cI, 256, .inl gw)), (w2, .inl (cI, 64, .inl gc))] sz)) 0 0 (va_A [(h0, .inr (8, [.ref s1, .ref s2, .ref s3, .ref s4, .ref s5, .ref s6, .int ds, va_rf sp, va_rf bt])), (s1, .inl (cO, 4, .inr (.inr (.inr (.inr f))))), (s2, .inr (1, [.ref bx, .int ik, .int wy, .int op])), (bx, .inr (0, [.int bx0, .int by0, .int bx1, .int by1])), (t0, .inr (5, [.ref d0, .int w, .int h])), (d0, .inl (cI, 4096, .inl g)), (s4, .inr (3, [.ref p1, .ref p2, .ref p3, .ref p4, .int pn, .int fx, .int fy])), (p1, .inl (cI, 48, .inl qa)), (p2, .inl (cI, 48, .inl qb)), (p3, .inl (cI, 48, .inl qc)), (p4, .inl (cI, 48, .inl qd)), (s6, .inr (4, [.ref w1, .ref w2])), (w1, .inl (cI, 256, .inl gw)), (w2, .inl (cI, 64, .inl gc))] sz) := by
  refine Met.ofW (cc := cX8_fill) (maxL := 10) (ret := (some .int)) (by decide) rfl ?_
  intro p e s m args below meth c s₁ B hml hv
  obtain ⟨rfl, hsz, hP, hK, hD0, hN⟩ := hv
  have hx := B.exec
  have hb := B.bytes
  have hr := B.returns
  have hts0 := atoms_spec (ws := (wB yX8_fill cX8_fill 10 (some .int))) B.pre
  have hts : ∀ w ∈ bigW, w.before _ s = true := fun w h => hts0 w (List.mem_cons_of_mem _ h)
  have hown : s.vm.findClass RX8 = some m.cls := findClass_of_methodNamed B.named
  have hlocks := B.notSynchronized
  subst hsz
  have hD := hD0.self (sz := s.heap.size)
  generalize hAe : va_A [(h0, .inr (8, [.ref s1, .ref s2, .ref s3, .ref s4, .ref s5, .ref s6, .int ds, va_rf sp, va_rf bt])), (s1, .inl (cO, 4, .inr (.inr (.inr (.inr f))))), (s2, .inr (1, [.ref bx, .int ik, .int wy, .int op])), (bx, .inr (0, [.int bx0, .int by0, .int bx1, .int by1])), (t0, .inr (5, [.ref d0, .int w, .int h])), (d0, .inl (cI, 4096, .inl g)), (s4, .inr (3, [.ref p1, .ref p2, .ref p3, .ref p4, .int pn, .int fx, .int fy])), (p1, .inl (cI, 48, .inl qa)), (p2, .inl (cI, 48, .inl qb)), (p3, .inl (cI, 48, .inl qc)), (p4, .inl (cI, 48, .inl qd)), (s6, .inr (4, [.ref w1, .ref w2])), (w1, .inl (cI, 256, .inl gw)), (w2, .inl (cI, 64, .inl gc))] s.heap.size = A at hD ⊢
  have hA : ∀ q : Nat, s.heap.size ≤ q → A q := fun q h => by rw [← hAe]; exact Or.inr h
  have hS : va_S A s.heap s.heap [] := va_S.rf
  have hP : va_P D vwCl [(h0, .inr (8, [.ref s1, .ref s2, .ref s3, .ref s4, .ref s5, .ref s6, .int ds, va_rf sp, va_rf bt])), (s1, .inl (cO, 4, .inr (.inr (.inr (.inr f))))), (s2, .inr (1, [.ref bx, .int ik, .int wy, .int op])), (bx, .inr (0, [.int bx0, .int by0, .int bx1, .int by1])), (t0, .inr (5, [.ref d0, .int w, .int h])), (d0, .inl (cI, 4096, .inl g)), (s4, .inr (3, [.ref p1, .ref p2, .ref p3, .ref p4, .int pn, .int fx, .int fy])), (p1, .inl (cI, 48, .inl qa)), (p2, .inl (cI, 48, .inl qb)), (p3, .inl (cI, 48, .inl qc)), (p4, .inl (cI, 48, .inl qd)), (s6, .inr (4, [.ref w1, .ref w2])), (w1, .inl (cI, 256, .inl gw)), (w2, .inl (cI, 64, .inl gc))] s.heap := hP
  have hl := lv_entry ([.ref h0, .int k, .int ru, .int sm]) (n := 10) (Nat.le_of_ble_eq_true rfl)
  rw [lg_entry_eq]
  generalize (lg_sl ([.ref h0, .int k, .int ru, .int sm]) ++ List.replicate (10 - (lg_sl ([.ref h0, .int k, .int ru, .int sm])).length) Slot.unset).toArray = ls at hl ⊢
  have hl : lv_has ls 10 [(0, .ref h0), (1, .int k), (2, .int ru), (3, .int sm)] := hl
  clear hts0 hD0 hAe
  refine my_abs (fun R Q hR hQ => ?_)
  obtain ⟨W9, hW9, eW9⟩ := i_of (x := w) (N := 65) (by omega) (by omega) (by decide)
  have eW9n : w.toNatClampNeg = W9 := by rw [eW9]; exact nI_clamp (by omega)
  have hW9t : w.toInt = (W9 : Int) := by rw [eW9]; exact nI_toInt (by omega)
  obtain ⟨H9, hH9, eH9⟩ := i_of (x := h) (N := 65) (by omega) (by omega) (by decide)
  have eH9n : h.toNatClampNeg = H9 := by rw [eH9]; exact nI_clamp (by omega)
  have hH9t : h.toInt = (H9 : Int) := by rw [eH9]; exact nI_toInt (by omega)
  refine lv_aload_n hx hb dX8_fill_0 rfl (lv_at hl 0 rfl) ?_
  refine lv_iload_n hx hb dX8_fill_1 rfl (lv_at hl 1 rfl) ?_
  have hPc := hP.sub (ws' := [(h0, .inr (8, [.ref s1, .ref s2, .ref s3, .ref s4, .ref s5, .ref s6, .int ds, va_rf sp, va_rf bt])), (s1, .inl (cO, 4, .inr (.inr (.inr (.inr f)))))]) [0, 1] rfl
  have hDc := hD.sub (ws' := [(h0, .inr (8, [.ref s1, .ref s2, .ref s3, .ref s4, .ref s5, .ref s6, .int ds, va_rf sp, va_rf bt])), (s1, .inl (cO, 4, .inr (.inr (.inr (.inr f)))))]) [0, 1] (by decide) rfl
  have hKc := hK.sub (tys' := [(cO, .object "DotBench$Sheet")]) [0] rfl
  have hFc := va_free (wc := [(h0, .inr (8, [.ref s1, .ref s2, .ref s3, .ref s4, .ref s5, .ref s6, .int ds, va_rf sp, va_rf bt])), (s1, .inl (cO, 4, .inr (.inr (.inr (.inr f)))))]) hD hS hA [0, 1] rfl
  refine va_callq (va_runV (As := [.int k]) (rest := []) ⟨hx, hb, hml, hown, hts⟩ (k_X8_sheetAt_y l D s.heap.size h0 s1 s2 s3 s4 s5 s6 ds sp bt f k t0 cO (by first | assumption | omega | decide) (by first | assumption | omega | decide)) (cwV 1 hts (gV bw_267 bw_346 bw_347 bw_223 bw_345) rfl rfl rfl (by decide +kernel) ⟨(by rw [hR]; exact Nat.le_of_ble_eq_true rfl), (by rw [hR]; exact Nat.le_of_ble_eq_true rfl)⟩) ⟨cP_blind, va_recv hKc hPc (ci := 8) (q0 := 0) rfl rfl, cP_at hPc hKc hDc hN⟩ rfl rfl hl.1 rfl (lv_room (Nat.le_of_ble_eq_true rfl)) dX8_fill_2 ⟨(by rw [hR]; exact Nat.le_of_ble_eq_true rfl), (by rw [hR]; exact Nat.le_of_ble_eq_true rfl)⟩) hS (fun q _ h => hFc q h) hFc (fun r_1 u9 t9 H1 locs ht hvm hr_1 hB hz1 hk1 hS => ?_)
  try dsimp only at hr_1
  obtain ⟨hP1, hK1, hD1⟩ := hB
  rw [ht] at hP1
  obtain ⟨hP, hD⟩ := va_join (wr := [(s2, .inr (1, [.ref bx, .int ik, .int wy, .int op])), (bx, .inr (0, [.int bx0, .int by0, .int bx1, .int by1])), (t0, .inr (5, [.ref d0, .int w, .int h])), (d0, .inl (cI, 4096, .inl g)), (s4, .inr (3, [.ref p1, .ref p2, .ref p3, .ref p4, .int pn, .int fx, .int fy])), (p1, .inl (cI, 48, .inl qa)), (p2, .inl (cI, 48, .inl qb)), (p3, .inl (cI, 48, .inl qc)), (p4, .inl (cI, 48, .inl qd)), (s6, .inr (4, [.ref w1, .ref w2])), (w1, .inl (cI, 256, .inl gw)), (w2, .inl (cI, 64, .inl gc))]) (w1 := [(h0, .inr (8, [.ref s1, .ref s2, .ref s3, .ref s4, .ref s5, .ref s6, .int ds, va_rf sp, va_rf bt])), (s1, .inl (cO, 4, .inr (.inr (.inr (.inr f)))))]) hP hD [0, 1] [2, 3, 4, 5, 6, 7, 8, 9, 10, 11, 12, 13] rfl rfl (by decide) (by decide) hk1 hFc hP1 hD1
  clear hz1 hk1 hFc hKc hDc hPc
  generalize H1 = H at hP hS ⊢
  have hP : va_P D vwCl [(s2, .inr (1, [.ref bx, .int ik, .int wy, .int op])), (bx, .inr (0, [.int bx0, .int by0, .int bx1, .int by1])), (t0, .inr (5, [.ref d0, .int w, .int h])), (d0, .inl (cI, 4096, .inl g)), (s4, .inr (3, [.ref p1, .ref p2, .ref p3, .ref p4, .int pn, .int fx, .int fy])), (p1, .inl (cI, 48, .inl qa)), (p2, .inl (cI, 48, .inl qb)), (p3, .inl (cI, 48, .inl qc)), (p4, .inl (cI, 48, .inl qd)), (s6, .inr (4, [.ref w1, .ref w2])), (w1, .inl (cI, 256, .inl gw)), (w2, .inl (cI, 64, .inl gc)), (h0, .inr (8, [.ref s1, .ref s2, .ref s3, .ref s4, .ref s5, .ref s6, .int ds, va_rf sp, va_rf bt])), (s1, .inl (cO, 4, .inr (.inr (.inr (.inr f)))))] H := hP
  have hD : va_D A [(s2, .inr (1, [.ref bx, .int ik, .int wy, .int op])), (bx, .inr (0, [.int bx0, .int by0, .int bx1, .int by1])), (t0, .inr (5, [.ref d0, .int w, .int h])), (d0, .inl (cI, 4096, .inl g)), (s4, .inr (3, [.ref p1, .ref p2, .ref p3, .ref p4, .int pn, .int fx, .int fy])), (p1, .inl (cI, 48, .inl qa)), (p2, .inl (cI, 48, .inl qb)), (p3, .inl (cI, 48, .inl qc)), (p4, .inl (cI, 48, .inl qd)), (s6, .inr (4, [.ref w1, .ref w2])), (w1, .inl (cI, 256, .inl gw)), (w2, .inl (cI, 64, .inl gc)), (h0, .inr (8, [.ref s1, .ref s2, .ref s3, .ref s4, .ref s5, .ref s6, .int ds, va_rf sp, va_rf bt])), (s1, .inl (cO, 4, .inr (.inr (.inr (.inr f)))))] := hD
  subst hr_1
  refine my_topv (v := .ref t0) rfl ?_
  refine lv_astore (lv' := [(4, .ref t0), (0, .ref h0), (1, .int k), (2, .int ru), (3, .int sm)]) hx hb dX8_fill_5 hl (by decide) rfl (fun ls hl => ?_)
  refine lv_aload hx hb dX8_fill_7 (lv_at hl 0 rfl) ?_
  refine lv_ifnull hx hb dX8_fill_9 ?_
  refine lv_iload_n hx hb dX8_fill_12 rfl (lv_at hl 3 rfl) ?_
  have hPc := hP.sub (ws' := []) [] rfl
  have hDc := hD.sub (ws' := []) [] (by decide) rfl
  have hKc := hK.sub (tys' := []) [] rfl
  have hFc := va_free (wc := []) hD hS hA [] rfl
  refine va_calli (va_runS (As := [.int ru]) (rest := []) ⟨hx, hb, hml, hown, hts⟩ (k_X8_isRule l D H.size ru) (va_cwS 1 hts (gS bw_293 bw_355 bw_223 bw_354) rfl rfl rfl (by decide +kernel) ⟨(by rw [hR]; exact Nat.le_of_ble_eq_true rfl), (by rw [hR]; exact Nat.le_of_ble_eq_true rfl)⟩) ⟨cP_blind, cP_at hPc hKc hDc hN⟩ rfl rfl hl.1 rfl (lv_room (Nat.le_of_ble_eq_true rfl)) dX8_fill_13 ⟨(by rw [hR]; exact Nat.le_of_ble_eq_true rfl), (by rw [hR]; exact Nat.le_of_ble_eq_true rfl)⟩) hS (fun q _ h => hFc q h) hFc (fun r_2 u9 t9 H1 locs ht hvm hr_2 hB hz1 hk1 hS => ?_)
  try dsimp only at hr_2
  have hP1 : va_P D vwCl [] H1 := vP_nil
  have hD1 : va_D (va_A [] H.size) [] := vD_nil
  obtain ⟨hP, hD⟩ := va_join (wr := [(s2, .inr (1, [.ref bx, .int ik, .int wy, .int op])), (bx, .inr (0, [.int bx0, .int by0, .int bx1, .int by1])), (t0, .inr (5, [.ref d0, .int w, .int h])), (d0, .inl (cI, 4096, .inl g)), (s4, .inr (3, [.ref p1, .ref p2, .ref p3, .ref p4, .int pn, .int fx, .int fy])), (p1, .inl (cI, 48, .inl qa)), (p2, .inl (cI, 48, .inl qb)), (p3, .inl (cI, 48, .inl qc)), (p4, .inl (cI, 48, .inl qd)), (s6, .inr (4, [.ref w1, .ref w2])), (w1, .inl (cI, 256, .inl gw)), (w2, .inl (cI, 64, .inl gc)), (h0, .inr (8, [.ref s1, .ref s2, .ref s3, .ref s4, .ref s5, .ref s6, .int ds, va_rf sp, va_rf bt])), (s1, .inl (cO, 4, .inr (.inr (.inr (.inr f)))))]) (w1 := []) hP hD [] [0, 1, 2, 3, 4, 5, 6, 7, 8, 9, 10, 11, 12, 13] rfl rfl (by decide) (by decide) hk1 hFc hP1 hD1
  clear hz1 hk1 hFc hKc hDc hPc
  generalize H1 = H at hP hS ⊢
  have hP : va_P D vwCl [(s2, .inr (1, [.ref bx, .int ik, .int wy, .int op])), (bx, .inr (0, [.int bx0, .int by0, .int bx1, .int by1])), (t0, .inr (5, [.ref d0, .int w, .int h])), (d0, .inl (cI, 4096, .inl g)), (s4, .inr (3, [.ref p1, .ref p2, .ref p3, .ref p4, .int pn, .int fx, .int fy])), (p1, .inl (cI, 48, .inl qa)), (p2, .inl (cI, 48, .inl qb)), (p3, .inl (cI, 48, .inl qc)), (p4, .inl (cI, 48, .inl qd)), (s6, .inr (4, [.ref w1, .ref w2])), (w1, .inl (cI, 256, .inl gw)), (w2, .inl (cI, 64, .inl gc)), (h0, .inr (8, [.ref s1, .ref s2, .ref s3, .ref s4, .ref s5, .ref s6, .int ds, va_rf sp, va_rf bt])), (s1, .inl (cO, 4, .inr (.inr (.inr (.inr f)))))] H := hP
  have hD : va_D A [(s2, .inr (1, [.ref bx, .int ik, .int wy, .int op])), (bx, .inr (0, [.int bx0, .int by0, .int bx1, .int by1])), (t0, .inr (5, [.ref d0, .int w, .int h])), (d0, .inl (cI, 4096, .inl g)), (s4, .inr (3, [.ref p1, .ref p2, .ref p3, .ref p4, .int pn, .int fx, .int fy])), (p1, .inl (cI, 48, .inl qa)), (p2, .inl (cI, 48, .inl qb)), (p3, .inl (cI, 48, .inl qc)), (p4, .inl (cI, 48, .inl qd)), (s6, .inr (4, [.ref w1, .ref w2])), (w1, .inl (cI, 256, .inl gw)), (w2, .inl (cI, 64, .inl gc)), (h0, .inr (8, [.ref s1, .ref s2, .ref s3, .ref s4, .ref s5, .ref s6, .int ds, va_rf sp, va_rf bt])), (s1, .inl (cO, 4, .inr (.inr (.inr (.inr f)))))] := hD
  refine lv_if_ne (tgt := 21) hx hb dX8_fill_16 (by decide) (fun c_3 => ?_) (fun c_3 => ?_)
  · skip
    have f_4 := bz1 hr_2 c_3
    refine lv_iconst (v := 0) hx hb dX8_fill_21 (by decide) ?_
    refine lv_istore (lv' := [(5, .int 0), (4, .ref t0), (0, .ref h0), (1, .int k), (2, .int ru), (3, .int sm)]) hx hb dX8_fill_22 hl (by decide) rfl (fun ls hl => ?_)
    refine lv_iconst (v := 0) hx hb dX8_fill_24 (by decide) ?_
    refine lv_istore (lv' := [(6, .int 0), (5, .int 0), (4, .ref t0), (0, .ref h0), (1, .int k), (2, .int ru), (3, .int sm)]) hx hb dX8_fill_25 hl (by decide) rfl (fun ls hl => ?_)
    have loop_5 : ∀ (n : Nat) (j : Nat) (x6 : Int32) (x5 : Int32) (ga : Nat → Int32) (gb : Nat → Int32) (gd : Nat → Int32) (H : Heap) (locs : List Loc) (ls : Array Slot), (j ≤ 64) → (64 + 1 ≤ j + n) → (x6 = nI j) → (j ≤ H9) → (ga = (gL (flQ (cfC qa qb qc qd pn.toNatClampNeg ru sm) sm ik op) W9 j).foldl (layG w h bx0 by0 bx1 by1 wy) g) → (x5 = (gL (flQ (cfC qa qb qc qd pn.toNatClampNeg ru sm) sm ik op) W9 j).foldl (layT w h bx0 by0 bx1 by1) 0) → va_P D vwCl [(s2, .inr (1, [.ref bx, .int ik, .int wy, .int op])), (bx, .inr (0, [.int bx0, .int by0, .int bx1, .int by1])), (t0, .inr (5, [.ref d0, .int w, .int h])), (d0, .inl (cI, 4096, .inl ga)), (s4, .inr (3, [.ref p1, .ref p2, .ref p3, .ref p4, .int pn, .int fx, .int fy])), (p1, .inl (cI, 48, .inl qa)), (p2, .inl (cI, 48, .inl qb)), (p3, .inl (cI, 48, .inl qc)), (p4, .inl (cI, 48, .inl qd)), (s6, .inr (4, [.ref w1, .ref w2])), (w1, .inl (cI, 256, .inl gb)), (w2, .inl (cI, 64, .inl gd)), (h0, .inr (8, [.ref s1, .ref s2, .ref s3, .ref s4, .ref s5, .ref s6, .int ds, va_rf sp, va_rf bt])), (s1, .inl (cO, 4, .inr (.inr (.inr (.inr f)))))] H → va_D A [(s2, .inr (1, [.ref bx, .int ik, .int wy, .int op])), (bx, .inr (0, [.int bx0, .int by0, .int bx1, .int by1])), (t0, .inr (5, [.ref d0, .int w, .int h])), (d0, .inl (cI, 4096, .inl ga)), (s4, .inr (3, [.ref p1, .ref p2, .ref p3, .ref p4, .int pn, .int fx, .int fy])), (p1, .inl (cI, 48, .inl qa)), (p2, .inl (cI, 48, .inl qb)), (p3, .inl (cI, 48, .inl qc)), (p4, .inl (cI, 48, .inl qd)), (s6, .inr (4, [.ref w1, .ref w2])), (w1, .inl (cI, 256, .inl gb)), (w2, .inl (cI, 64, .inl gd)), (h0, .inr (8, [.ref s1, .ref s2, .ref s3, .ref s4, .ref s5, .ref s6, .int ds, va_rf sp, va_rf bt])), (s1, .inl (cO, 4, .inr (.inr (.inr (.inr f)))))] → va_S A s.heap H locs → lv_has ls 10 [(6, .int x6), (5, .int x5), (4, .ref t0), (0, .ref h0), (1, .int k), (2, .int ru), (3, .int sm)] → W p l e R s m ([.ref h0, .int k, .int ru, .int sm] : List Value).toArray below meth c H locs 0 0 Q (F0 m 27 ls []) := by
      intro n
      induction n with
      | zero =>
        intro j x6 x5 ga gb gd H locs ls hi_j hm_j ex_j hjo hgo eto hP hD hS hl
        exact absurd (show False by omega) not_false
      | succ n ih_6 =>
        intro j x6 x5 ga gb gd H locs ls hi_j hm_j ex_j hjo hgo eto hP hD hS hl
        have hx_j : x6.toInt = (j : Int) := by rw [ex_j]; exact nI_toInt (by omega)
        have hc_j : x6.toNatClampNeg = j := by rw [ex_j]; exact nI_clamp (by omega)
        refine lv_iload hx hb dX8_fill_27 (lv_at hl 0 rfl) ?_
        refine lv_aload hx hb dX8_fill_29 (lv_at hl 2 rfl) ?_
        refine va_getN (host := RX8) (D := D) (ci := 5) (v := .int h) (C := RX5) (T := TX5) (N := 3) hx hb hts hi_X5 hown hK hP 2 rfl rfl 2 (by decide) ((hN.1 (RX8, 145, "DotBench$Sheet", "height", "I", RX8) (by decide +kernel)).use rfl) (fun _ h9 => h9) rfl dX8_fill_31 ?_
        refine lv_icmp_ge (tgt := 158) hx hb dX8_fill_34 (by decide) (fun c_7 => ?_) (fun c_7 => ?_)
        · skip
          have f_8 : h.toInt ≤ (j : Int) := f_le rfl hx_j c_7
          refine lv_iload hx hb dX8_fill_158 (lv_at hl 1 rfl) ?_
          have hn9 : (ru.toInt = 0 ∨ ru.toInt = 1) := by omega
          have hP : va_P D vwCl [(s2, .inr (1, [.ref bx, .int ik, .int wy, .int op])), (bx, .inr (0, [.int bx0, .int by0, .int bx1, .int by1])), (t0, .inr (5, [.ref d0, .int w, .int h])), (d0, .inl (cI, 4096, .inl (if (ru.toInt = 0 ∨ ru.toInt = 1) then (gL (flQ (cfC qa qb qc qd pn.toNatClampNeg ru sm) sm ik op) w.toNatClampNeg h.toNatClampNeg).foldl (layG w h bx0 by0 bx1 by1 wy) g else g))), (s4, .inr (3, [.ref p1, .ref p2, .ref p3, .ref p4, .int pn, .int fx, .int fy])), (p1, .inl (cI, 48, .inl qa)), (p2, .inl (cI, 48, .inl qb)), (p3, .inl (cI, 48, .inl qc)), (p4, .inl (cI, 48, .inl qd)), (s6, .inr (4, [.ref w1, .ref w2])), (w1, .inl (cI, 256, .inl gb)), (w2, .inl (cI, 64, .inl gd)), (h0, .inr (8, [.ref s1, .ref s2, .ref s3, .ref s4, .ref s5, .ref s6, .int ds, va_rf sp, va_rf bt])), (s1, .inl (cO, 4, .inr (.inr (.inr (.inr f)))))] H := by rw [if_pos hn9, eW9n, eH9n, ← show j = H9 by omega, ← hgo]; exact hP
          have hD : va_D A [(s2, .inr (1, [.ref bx, .int ik, .int wy, .int op])), (bx, .inr (0, [.int bx0, .int by0, .int bx1, .int by1])), (t0, .inr (5, [.ref d0, .int w, .int h])), (d0, .inl (cI, 4096, .inl (if (ru.toInt = 0 ∨ ru.toInt = 1) then (gL (flQ (cfC qa qb qc qd pn.toNatClampNeg ru sm) sm ik op) w.toNatClampNeg h.toNatClampNeg).foldl (layG w h bx0 by0 bx1 by1 wy) g else g))), (s4, .inr (3, [.ref p1, .ref p2, .ref p3, .ref p4, .int pn, .int fx, .int fy])), (p1, .inl (cI, 48, .inl qa)), (p2, .inl (cI, 48, .inl qb)), (p3, .inl (cI, 48, .inl qc)), (p4, .inl (cI, 48, .inl qd)), (s6, .inr (4, [.ref w1, .ref w2])), (w1, .inl (cI, 256, .inl gb)), (w2, .inl (cI, 64, .inl gd)), (h0, .inr (8, [.ref s1, .ref s2, .ref s3, .ref s4, .ref s5, .ref s6, .int ds, va_rf sp, va_rf bt])), (s1, .inl (cO, 4, .inr (.inr (.inr (.inr f)))))] := by rw [if_pos hn9, eW9n, eH9n, ← show j = H9 by omega, ← hgo]; exact hD
          have hP9 := hP.sub (ws' := [(h0, .inr (8, [.ref s1, .ref s2, .ref s3, .ref s4, .ref s5, .ref s6, .int ds, va_rf sp, va_rf bt])), (s1, .inl (cO, 4, .inr (.inr (.inr (.inr f))))), (s2, .inr (1, [.ref bx, .int ik, .int wy, .int op])), (bx, .inr (0, [.int bx0, .int by0, .int bx1, .int by1])), (t0, .inr (5, [.ref d0, .int w, .int h])), (d0, .inl (cI, 4096, .inl (if (ru.toInt = 0 ∨ ru.toInt = 1) then (gL (flQ (cfC qa qb qc qd pn.toNatClampNeg ru sm) sm ik op) w.toNatClampNeg h.toNatClampNeg).foldl (layG w h bx0 by0 bx1 by1 wy) g else g))), (s4, .inr (3, [.ref p1, .ref p2, .ref p3, .ref p4, .int pn, .int fx, .int fy])), (p1, .inl (cI, 48, .inl qa)), (p2, .inl (cI, 48, .inl qb)), (p3, .inl (cI, 48, .inl qc)), (p4, .inl (cI, 48, .inl qd)), (s6, .inr (4, [.ref w1, .ref w2])), (w1, .inl (cI, 256, .inl gb)), (w2, .inl (cI, 64, .inl gd))]) [12, 13, 0, 1, 2, 3, 4, 5, 6, 7, 8, 9, 10, 11] rfl
          have hD9 := hD.sub (ws' := [(h0, .inr (8, [.ref s1, .ref s2, .ref s3, .ref s4, .ref s5, .ref s6, .int ds, va_rf sp, va_rf bt])), (s1, .inl (cO, 4, .inr (.inr (.inr (.inr f))))), (s2, .inr (1, [.ref bx, .int ik, .int wy, .int op])), (bx, .inr (0, [.int bx0, .int by0, .int bx1, .int by1])), (t0, .inr (5, [.ref d0, .int w, .int h])), (d0, .inl (cI, 4096, .inl (if (ru.toInt = 0 ∨ ru.toInt = 1) then (gL (flQ (cfC qa qb qc qd pn.toNatClampNeg ru sm) sm ik op) w.toNatClampNeg h.toNatClampNeg).foldl (layG w h bx0 by0 bx1 by1 wy) g else g))), (s4, .inr (3, [.ref p1, .ref p2, .ref p3, .ref p4, .int pn, .int fx, .int fy])), (p1, .inl (cI, 48, .inl qa)), (p2, .inl (cI, 48, .inl qb)), (p3, .inl (cI, 48, .inl qc)), (p4, .inl (cI, 48, .inl qd)), (s6, .inr (4, [.ref w1, .ref w2])), (w1, .inl (cI, 256, .inl gb)), (w2, .inl (cI, 64, .inl gd))]) [12, 13, 0, 1, 2, 3, 4, 5, 6, 7, 8, 9, 10, 11] (by decide) rfl
          have hK9 := hK.sub (tys' := [(cO, .object "DotBench$Sheet"), (cI, .int)]) [0, 1] rfl
          refine hQ _ _ _ _ _ ?_
          exact W.iret (v := x5) hx hb hr (fun t ht hW => ⟨⟨x5, (), rfl, (by rw [if_pos hn9, eW9n, eH9n, ← show j = H9 by omega]; exact eto), ⟨gb, gd, by rw [ht]; exact hP9, va_K.moved hW.alike hK9, hD9⟩⟩, hS.F ht⟩) hS.2.2 dX8_fill_160
        · skip
          have f_8 : ¬ (h.toInt ≤ (j : Int)) := fn_le rfl hx_j c_7
          refine lv_aload_n hx hb dX8_fill_37 rfl (lv_at hl 3 rfl) ?_
          refine va_get (D := D) (ci := 8) (v := .ref s6) (C := RX8) (T := TX8) (N := 9) hx hb hts hi_X8 hown hK hP 12 rfl rfl 5 (by decide) (hts _ bw_239) (fun _ h9 => h9) rfl dX8_fill_38 ?_
          refine lv_aload_n hx hb dX8_fill_41 rfl (lv_at hl 3 rfl) ?_
          refine va_get (D := D) (ci := 8) (v := .ref s4) (C := RX8) (T := TX8) (N := 9) hx hb hts hi_X8 hown hK hP 12 rfl rfl 3 (by decide) (hts _ bw_235) (fun _ h9 => h9) rfl dX8_fill_42 ?_
          refine lv_iload hx hb dX8_fill_45 (lv_at hl 0 rfl) ?_
          refine lv_aload hx hb dX8_fill_47 (lv_at hl 2 rfl) ?_
          refine va_getN (host := RX8) (D := D) (ci := 5) (v := .int w) (C := RX5) (T := TX5) (N := 3) hx hb hts hi_X5 hown hK hP 2 rfl rfl 1 (by decide) ((hN.1 (RX8, 148, "DotBench$Sheet", "width", "I", RX8) (by decide +kernel)).use rfl) (fun _ h9 => h9) rfl dX8_fill_49 ?_
          refine lv_iload_n hx hb dX8_fill_52 rfl (lv_at hl 6 rfl) ?_
          refine lv_if_eq (tgt := 60) hx hb dX8_fill_53 (by decide) (fun c_9 => ?_) (fun c_9 => ?_)
          · skip
            have f_10 : sm.toInt = 0 := f_eq rfl (by decide) c_9
            refine lv_iconst (v := 5) hx hb dX8_fill_60 (by decide) ?_
            refine lv_iload_n hx hb dX8_fill_61 rfl (lv_at hl 5 rfl) ?_
            have hPc := hP.sub (ws' := [(s6, .inr (4, [.ref w1, .ref w2])), (w1, .inl (cI, 256, .inl gb)), (w2, .inl (cI, 64, .inl gd)), (s4, .inr (3, [.ref p1, .ref p2, .ref p3, .ref p4, .int pn, .int fx, .int fy])), (p1, .inl (cI, 48, .inl qa)), (p2, .inl (cI, 48, .inl qb)), (p3, .inl (cI, 48, .inl qc)), (p4, .inl (cI, 48, .inl qd))]) [9, 10, 11, 4, 5, 6, 7, 8] rfl
            have hDc := hD.sub (ws' := [(s6, .inr (4, [.ref w1, .ref w2])), (w1, .inl (cI, 256, .inl gb)), (w2, .inl (cI, 64, .inl gd)), (s4, .inr (3, [.ref p1, .ref p2, .ref p3, .ref p4, .int pn, .int fx, .int fy])), (p1, .inl (cI, 48, .inl qa)), (p2, .inl (cI, 48, .inl qb)), (p3, .inl (cI, 48, .inl qc)), (p4, .inl (cI, 48, .inl qd))]) [9, 10, 11, 4, 5, 6, 7, 8] (by decide) rfl
            have hKc := hK.sub (tys' := [(cI, .int)]) [1] rfl
            have hFc := va_free (wc := [(s6, .inr (4, [.ref w1, .ref w2])), (w1, .inl (cI, 256, .inl gb)), (w2, .inl (cI, 64, .inl gd)), (s4, .inr (3, [.ref p1, .ref p2, .ref p3, .ref p4, .int pn, .int fx, .int fy])), (p1, .inl (cI, 48, .inl qa)), (p2, .inl (cI, 48, .inl qb)), (p3, .inl (cI, 48, .inl qc)), (p4, .inl (cI, 48, .inl qd))]) hD hS hA [9, 10, 11, 4, 5, 6, 7, 8] rfl
            refine va_callv (va_runV (As := [.ref s4, .int x6, .int w, .int 5, .int ru]) (rest := []) ⟨hx, hb, hml, hown, hts⟩ (k_X4_read_5e l D H.size s6 s4 w1 w2 p1 p2 p3 p4 pn fx fy qa qb qc qd gb gd x6 w ru W9 cI (by first | assumption | omega | decide) (by first | assumption | omega | decide) eW9 (by omega) hW9t) (cwV 5 hts (gV bw_294 bw_119 bw_120 bw_111 bw_118) rfl rfl rfl (by decide +kernel) ⟨(by rw [hR]; exact Nat.le_of_ble_eq_true rfl), (by rw [hR]; exact Nat.le_of_ble_eq_true rfl)⟩) ⟨cP_blind, va_recv hKc hPc (ci := 4) (q0 := 0) rfl rfl, cP_at hPc hKc hDc hN⟩ rfl rfl hl.1 rfl (lv_room (Nat.le_of_ble_eq_true rfl)) dX8_fill_62 ⟨(by rw [hR]; exact Nat.le_of_ble_eq_true rfl), (by rw [hR]; exact Nat.le_of_ble_eq_true rfl)⟩) hS (fun q _ h => hFc q h) hFc (fun u9 t9 H1 locs ht hvm hr_11 hB hz1 hk1 hS => ?_)
            try dsimp only at hr_11
            obtain ⟨g_12, g_13, b_14, hP1, hK1, hD1⟩ := hB
            rw [ht] at hP1
            obtain ⟨hP, hD⟩ := va_join (wr := [(s2, .inr (1, [.ref bx, .int ik, .int wy, .int op])), (bx, .inr (0, [.int bx0, .int by0, .int bx1, .int by1])), (t0, .inr (5, [.ref d0, .int w, .int h])), (d0, .inl (cI, 4096, .inl ga)), (h0, .inr (8, [.ref s1, .ref s2, .ref s3, .ref s4, .ref s5, .ref s6, .int ds, va_rf sp, va_rf bt])), (s1, .inl (cO, 4, .inr (.inr (.inr (.inr f)))))]) (w1 := [(s6, .inr (4, [.ref w1, .ref w2])), (w1, .inl (cI, 256, .inl g_12)), (w2, .inl (cI, 64, .inl g_13)), (s4, .inr (3, [.ref p1, .ref p2, .ref p3, .ref p4, .int pn, .int fx, .int fy])), (p1, .inl (cI, 48, .inl qa)), (p2, .inl (cI, 48, .inl qb)), (p3, .inl (cI, 48, .inl qc)), (p4, .inl (cI, 48, .inl qd))]) hP hD [9, 10, 11, 4, 5, 6, 7, 8] [0, 1, 2, 3, 12, 13] rfl rfl (by decide) (by decide) hk1 hFc hP1 hD1
            clear hz1 hk1 hFc hKc hDc hPc
            generalize H1 = H at hP hS ⊢
            have hP : va_P D vwCl [(s2, .inr (1, [.ref bx, .int ik, .int wy, .int op])), (bx, .inr (0, [.int bx0, .int by0, .int bx1, .int by1])), (t0, .inr (5, [.ref d0, .int w, .int h])), (d0, .inl (cI, 4096, .inl ga)), (h0, .inr (8, [.ref s1, .ref s2, .ref s3, .ref s4, .ref s5, .ref s6, .int ds, va_rf sp, va_rf bt])), (s1, .inl (cO, 4, .inr (.inr (.inr (.inr f))))), (s6, .inr (4, [.ref w1, .ref w2])), (w1, .inl (cI, 256, .inl g_12)), (w2, .inl (cI, 64, .inl g_13)), (s4, .inr (3, [.ref p1, .ref p2, .ref p3, .ref p4, .int pn, .int fx, .int fy])), (p1, .inl (cI, 48, .inl qa)), (p2, .inl (cI, 48, .inl qb)), (p3, .inl (cI, 48, .inl qc)), (p4, .inl (cI, 48, .inl qd))] H := hP
            have hD : va_D A [(s2, .inr (1, [.ref bx, .int ik, .int wy, .int op])), (bx, .inr (0, [.int bx0, .int by0, .int bx1, .int by1])), (t0, .inr (5, [.ref d0, .int w, .int h])), (d0, .inl (cI, 4096, .inl ga)), (h0, .inr (8, [.ref s1, .ref s2, .ref s3, .ref s4, .ref s5, .ref s6, .int ds, va_rf sp, va_rf bt])), (s1, .inl (cO, 4, .inr (.inr (.inr (.inr f))))), (s6, .inr (4, [.ref w1, .ref w2])), (w1, .inl (cI, 256, .inl g_12)), (w2, .inl (cI, 64, .inl g_13)), (s4, .inr (3, [.ref p1, .ref p2, .ref p3, .ref p4, .int pn, .int fx, .int fy])), (p1, .inl (cI, 48, .inl qa)), (p2, .inl (cI, 48, .inl qb)), (p3, .inl (cI, 48, .inl qc)), (p4, .inl (cI, 48, .inl qd))] := hD
            refine lv_iconst (v := 0) hx hb dX8_fill_65 (by decide) ?_
            refine lv_istore (lv' := [(7, .int 0), (6, .int x6), (5, .int x5), (4, .ref t0), (0, .ref h0), (1, .int k), (2, .int ru), (3, .int sm)]) hx hb dX8_fill_66 hl (by decide) rfl (fun ls hl => ?_)
            have loop_15 : ∀ (n : Nat) (i : Nat) (x7 : Int32) (z5 : Int32) (gz : Nat → Int32) (H : Heap) (locs : List Loc) (ls : Array Slot), (i ≤ 64) → (64 + 1 ≤ i + n) → (x7 = nI i) → (i ≤ W9) → (gz = (gL (flQ (cfC qa qb qc qd pn.toNatClampNeg ru sm) sm ik op) W9 j ++ gR (flQ (cfC qa qb qc qd pn.toNatClampNeg ru sm) sm ik op) j i).foldl (layG w h bx0 by0 bx1 by1 wy) g) → (z5 = (gL (flQ (cfC qa qb qc qd pn.toNatClampNeg ru sm) sm ik op) W9 j ++ gR (flQ (cfC qa qb qc qd pn.toNatClampNeg ru sm) sm ik op) j i).foldl (layT w h bx0 by0 bx1 by1) 0) → va_P D vwCl [(s2, .inr (1, [.ref bx, .int ik, .int wy, .int op])), (bx, .inr (0, [.int bx0, .int by0, .int bx1, .int by1])), (t0, .inr (5, [.ref d0, .int w, .int h])), (d0, .inl (cI, 4096, .inl gz)), (h0, .inr (8, [.ref s1, .ref s2, .ref s3, .ref s4, .ref s5, .ref s6, .int ds, va_rf sp, va_rf bt])), (s1, .inl (cO, 4, .inr (.inr (.inr (.inr f))))), (s6, .inr (4, [.ref w1, .ref w2])), (w1, .inl (cI, 256, .inl g_12)), (w2, .inl (cI, 64, .inl g_13)), (s4, .inr (3, [.ref p1, .ref p2, .ref p3, .ref p4, .int pn, .int fx, .int fy])), (p1, .inl (cI, 48, .inl qa)), (p2, .inl (cI, 48, .inl qb)), (p3, .inl (cI, 48, .inl qc)), (p4, .inl (cI, 48, .inl qd))] H → va_D A [(s2, .inr (1, [.ref bx, .int ik, .int wy, .int op])), (bx, .inr (0, [.int bx0, .int by0, .int bx1, .int by1])), (t0, .inr (5, [.ref d0, .int w, .int h])), (d0, .inl (cI, 4096, .inl gz)), (h0, .inr (8, [.ref s1, .ref s2, .ref s3, .ref s4, .ref s5, .ref s6, .int ds, va_rf sp, va_rf bt])), (s1, .inl (cO, 4, .inr (.inr (.inr (.inr f))))), (s6, .inr (4, [.ref w1, .ref w2])), (w1, .inl (cI, 256, .inl g_12)), (w2, .inl (cI, 64, .inl g_13)), (s4, .inr (3, [.ref p1, .ref p2, .ref p3, .ref p4, .int pn, .int fx, .int fy])), (p1, .inl (cI, 48, .inl qa)), (p2, .inl (cI, 48, .inl qb)), (p3, .inl (cI, 48, .inl qc)), (p4, .inl (cI, 48, .inl qd))] → va_S A s.heap H locs → lv_has ls 10 [(7, .int x7), (6, .int x6), (5, .int z5), (4, .ref t0), (0, .ref h0), (1, .int k), (2, .int ru), (3, .int sm)] → W p l e R s m ([.ref h0, .int k, .int ru, .int sm] : List Value).toArray below meth c H locs 0 0 Q (F0 m 68 ls []) := by
              intro n
              induction n with
              | zero =>
                intro i x7 z5 gz H locs ls hi_i hm_i ex_i hio hgi eti hP hD hS hl
                exact absurd (show False by omega) not_false
              | succ n ih_16 =>
                intro i x7 z5 gz H locs ls hi_i hm_i ex_i hio hgi eti hP hD hS hl
                have hx_i : x7.toInt = (i : Int) := by rw [ex_i]; exact nI_toInt (by omega)
                have hc_i : x7.toNatClampNeg = i := by rw [ex_i]; exact nI_clamp (by omega)
                refine lv_iload hx hb dX8_fill_68 (lv_at hl 0 rfl) ?_
                refine lv_aload hx hb dX8_fill_70 (lv_at hl 3 rfl) ?_
                refine va_getN (host := RX8) (D := D) (ci := 5) (v := .int w) (C := RX5) (T := TX5) (N := 3) hx hb hts hi_X5 hown hK hP 2 rfl rfl 1 (by decide) ((hN.1 (RX8, 148, "DotBench$Sheet", "width", "I", RX8) (by decide +kernel)).use rfl) (fun _ h9 => h9) rfl dX8_fill_72 ?_
                refine lv_icmp_ge (tgt := 152) hx hb dX8_fill_75 (by decide) (fun c_17 => ?_) (fun c_17 => ?_)
                · skip
                  have f_18 : w.toInt ≤ (i : Int) := f_le rfl hx_i c_17
                  obtain ⟨y_19, ey_19⟩ : ∃ y : Int32, y = x6 + 1 := ⟨_, rfl⟩
                  refine lv_iinc (v := y_19) (lv' := [(6, .int y_19), (7, .int x7), (5, .int z5), (4, .ref t0), (0, .ref h0), (1, .int k), (2, .int ru), (3, .int sm)]) hx hb dX8_fill_152 hl (k := 1) rfl (by rw [ey_19]; rfl) (by decide) rfl (fun ls hl => ?_)
                  refine lv_goto (tgt := 27) hx hb dX8_fill_155 (by decide) ?_
                  exact ih_6 (j + 1) y_19 z5 gz g_12 g_13 _ _ _ (by omega) (by omega) (by rw [ey_19, ex_j]; exact nI_1 j) (by omega) (gl_nx hgi (by omega)) (gl_nx eti (by omega)) (hP.sub (ws' := [(s2, .inr (1, [.ref bx, .int ik, .int wy, .int op])), (bx, .inr (0, [.int bx0, .int by0, .int bx1, .int by1])), (t0, .inr (5, [.ref d0, .int w, .int h])), (d0, .inl (cI, 4096, .inl gz)), (s4, .inr (3, [.ref p1, .ref p2, .ref p3, .ref p4, .int pn, .int fx, .int fy])), (p1, .inl (cI, 48, .inl qa)), (p2, .inl (cI, 48, .inl qb)), (p3, .inl (cI, 48, .inl qc)), (p4, .inl (cI, 48, .inl qd)), (s6, .inr (4, [.ref w1, .ref w2])), (w1, .inl (cI, 256, .inl g_12)), (w2, .inl (cI, 64, .inl g_13)), (h0, .inr (8, [.ref s1, .ref s2, .ref s3, .ref s4, .ref s5, .ref s6, .int ds, va_rf sp, va_rf bt])), (s1, .inl (cO, 4, .inr (.inr (.inr (.inr f)))))]) [0, 1, 2, 3, 9, 10, 11, 12, 13, 6, 7, 8, 4, 5] rfl) (hD.sub (ws' := [(s2, .inr (1, [.ref bx, .int ik, .int wy, .int op])), (bx, .inr (0, [.int bx0, .int by0, .int bx1, .int by1])), (t0, .inr (5, [.ref d0, .int w, .int h])), (d0, .inl (cI, 4096, .inl gz)), (s4, .inr (3, [.ref p1, .ref p2, .ref p3, .ref p4, .int pn, .int fx, .int fy])), (p1, .inl (cI, 48, .inl qa)), (p2, .inl (cI, 48, .inl qb)), (p3, .inl (cI, 48, .inl qc)), (p4, .inl (cI, 48, .inl qd)), (s6, .inr (4, [.ref w1, .ref w2])), (w1, .inl (cI, 256, .inl g_12)), (w2, .inl (cI, 64, .inl g_13)), (h0, .inr (8, [.ref s1, .ref s2, .ref s3, .ref s4, .ref s5, .ref s6, .int ds, va_rf sp, va_rf bt])), (s1, .inl (cO, 4, .inr (.inr (.inr (.inr f)))))]) [0, 1, 2, 3, 9, 10, 11, 12, 13, 6, 7, 8, 4, 5] (by decide) rfl) hS (lv_sub hl [0, 2, 3, 4, 5, 6, 7] rfl)
                · skip
                  have f_18 : ¬ (w.toInt ≤ (i : Int)) := fn_le rfl hx_i c_17
                  refine lv_aload_n hx hb dX8_fill_78 rfl (lv_at hl 4 rfl) ?_
                  refine va_get (D := D) (ci := 8) (v := .ref s6) (C := RX8) (T := TX8) (N := 9) hx hb hts hi_X8 hown hK hP 4 rfl rfl 5 (by decide) (hts _ bw_239) (fun _ h9 => h9) rfl dX8_fill_79 ?_
                  refine lv_iload hx hb dX8_fill_82 (lv_at hl 0 rfl) ?_
                  have hPc := hP.sub (ws' := [(s6, .inr (4, [.ref w1, .ref w2])), (w2, .inl (cI, 64, .inl g_13))]) [6, 8] rfl
                  have hDc := hD.sub (ws' := [(s6, .inr (4, [.ref w1, .ref w2])), (w2, .inl (cI, 64, .inl g_13))]) [6, 8] (by decide) rfl
                  have hKc := hK.sub (tys' := [(cI, .int)]) [1] rfl
                  have hFc := va_free (wc := [(s6, .inr (4, [.ref w1, .ref w2])), (w2, .inl (cI, 64, .inl g_13))]) hD hS hA [6, 8] rfl
                  refine va_calli (va_runV (As := [.int x7]) (rest := []) ⟨hx, hb, hml, hown, hts⟩ (k_X4_coveredAt l D H.size s6 w1 w2 g_13 x7 cI) (cwV 1 hts (gV bw_295 bw_125 bw_126 bw_111 bw_124) rfl rfl rfl (by decide +kernel) ⟨(by rw [hR]; exact Nat.le_of_ble_eq_true rfl), (by rw [hR]; exact Nat.le_of_ble_eq_true rfl)⟩) ⟨cP_blind, va_recv hKc hPc (ci := 4) (q0 := 0) rfl rfl, cP_at hPc hKc hDc hN⟩ rfl rfl hl.1 rfl (lv_room (Nat.le_of_ble_eq_true rfl)) dX8_fill_84 ⟨(by rw [hR]; exact Nat.le_of_ble_eq_true rfl), (by rw [hR]; exact Nat.le_of_ble_eq_true rfl)⟩) hS (fun q _ h => hFc q h) hFc (fun r_20 u9 t9 H1 locs ht hvm hr_20 hB hz1 hk1 hS => ?_)
                  try dsimp only at hr_20
                  obtain ⟨hP1, hK1, hD1⟩ := hB
                  rw [ht] at hP1
                  obtain ⟨hP, hD⟩ := va_join (wr := [(s2, .inr (1, [.ref bx, .int ik, .int wy, .int op])), (bx, .inr (0, [.int bx0, .int by0, .int bx1, .int by1])), (t0, .inr (5, [.ref d0, .int w, .int h])), (d0, .inl (cI, 4096, .inl gz)), (h0, .inr (8, [.ref s1, .ref s2, .ref s3, .ref s4, .ref s5, .ref s6, .int ds, va_rf sp, va_rf bt])), (s1, .inl (cO, 4, .inr (.inr (.inr (.inr f))))), (w1, .inl (cI, 256, .inl g_12)), (s4, .inr (3, [.ref p1, .ref p2, .ref p3, .ref p4, .int pn, .int fx, .int fy])), (p1, .inl (cI, 48, .inl qa)), (p2, .inl (cI, 48, .inl qb)), (p3, .inl (cI, 48, .inl qc)), (p4, .inl (cI, 48, .inl qd))]) (w1 := [(s6, .inr (4, [.ref w1, .ref w2])), (w2, .inl (cI, 64, .inl g_13))]) hP hD [6, 8] [0, 1, 2, 3, 4, 5, 7, 9, 10, 11, 12, 13] rfl rfl (by decide) (by decide) hk1 hFc hP1 hD1
                  clear hz1 hk1 hFc hKc hDc hPc
                  generalize H1 = H at hP hS ⊢
                  have hP : va_P D vwCl [(s2, .inr (1, [.ref bx, .int ik, .int wy, .int op])), (bx, .inr (0, [.int bx0, .int by0, .int bx1, .int by1])), (t0, .inr (5, [.ref d0, .int w, .int h])), (d0, .inl (cI, 4096, .inl gz)), (h0, .inr (8, [.ref s1, .ref s2, .ref s3, .ref s4, .ref s5, .ref s6, .int ds, va_rf sp, va_rf bt])), (s1, .inl (cO, 4, .inr (.inr (.inr (.inr f))))), (w1, .inl (cI, 256, .inl g_12)), (s4, .inr (3, [.ref p1, .ref p2, .ref p3, .ref p4, .int pn, .int fx, .int fy])), (p1, .inl (cI, 48, .inl qa)), (p2, .inl (cI, 48, .inl qb)), (p3, .inl (cI, 48, .inl qc)), (p4, .inl (cI, 48, .inl qd)), (s6, .inr (4, [.ref w1, .ref w2])), (w2, .inl (cI, 64, .inl g_13))] H := hP
                  have hD : va_D A [(s2, .inr (1, [.ref bx, .int ik, .int wy, .int op])), (bx, .inr (0, [.int bx0, .int by0, .int bx1, .int by1])), (t0, .inr (5, [.ref d0, .int w, .int h])), (d0, .inl (cI, 4096, .inl gz)), (h0, .inr (8, [.ref s1, .ref s2, .ref s3, .ref s4, .ref s5, .ref s6, .int ds, va_rf sp, va_rf bt])), (s1, .inl (cO, 4, .inr (.inr (.inr (.inr f))))), (w1, .inl (cI, 256, .inl g_12)), (s4, .inr (3, [.ref p1, .ref p2, .ref p3, .ref p4, .int pn, .int fx, .int fy])), (p1, .inl (cI, 48, .inl qa)), (p2, .inl (cI, 48, .inl qb)), (p3, .inl (cI, 48, .inl qc)), (p4, .inl (cI, 48, .inl qd)), (s6, .inr (4, [.ref w1, .ref w2])), (w2, .inl (cI, 64, .inl g_13))] := hD
                  have hcvr_20 : r_20 = cfC qa qb qc qd pn.toNatClampNeg ru sm j i := by rw [hr_20, if_pos (by omega), hc_i, b_14 i (by omega), ex_j]; exact (if_pos c_9).symm
                  refine lv_istore (lv' := [(8, .int r_20), (7, .int x7), (6, .int x6), (5, .int z5), (4, .ref t0), (0, .ref h0), (1, .int k), (2, .int ru), (3, .int sm)]) hx hb dX8_fill_87 hl (by decide) rfl (fun ls hl => ?_)
                  refine lv_iload hx hb dX8_fill_89 (lv_at hl 0 rfl) ?_
                  refine lv_if_eq (tgt := 146) hx hb dX8_fill_91 (by decide) (fun c_21 => ?_) (fun c_21 => ?_)
                  · skip
                    have f_22 : r_20.toInt = 0 := f_eq rfl (by decide) c_21
                    obtain ⟨y_23, ey_23⟩ : ∃ y : Int32, y = x7 + 1 := ⟨_, rfl⟩
                    refine lv_iinc (v := y_23) (lv' := [(7, .int y_23), (8, .int r_20), (6, .int x6), (5, .int z5), (4, .ref t0), (0, .ref h0), (1, .int k), (2, .int ru), (3, .int sm)]) hx hb dX8_fill_146 hl (k := 1) rfl (by rw [ey_23]; rfl) (by decide) rfl (fun ls hl => ?_)
                    refine lv_goto (tgt := 68) hx hb dX8_fill_149 (by decide) ?_
                    exact ih_16 (i + 1) y_23 z5 gz _ _ _ (by omega) (by omega) (by rw [ey_23, ex_i]; exact nI_1 i) (by omega) (by rw [show gR (flQ (cfC qa qb qc qd pn.toNatClampNeg ru sm) sm ik op) j (i + 1) = gR (flQ (cfC qa qb qc qd pn.toNatClampNeg ru sm) sm ik op) j i ++ [] from congrArg (gR (flQ (cfC qa qb qc qd pn.toNatClampNeg ru sm) sm ik op) j i ++ ·) (show flQ (cfC qa qb qc qd pn.toNatClampNeg ru sm) sm ik op j i = [] from if_pos (hcvr_20.symm.trans c_21)), List.append_nil]; exact hgi) (by rw [show gR (flQ (cfC qa qb qc qd pn.toNatClampNeg ru sm) sm ik op) j (i + 1) = gR (flQ (cfC qa qb qc qd pn.toNatClampNeg ru sm) sm ik op) j i ++ [] from congrArg (gR (flQ (cfC qa qb qc qd pn.toNatClampNeg ru sm) sm ik op) j i ++ ·) (show flQ (cfC qa qb qc qd pn.toNatClampNeg ru sm) sm ik op j i = [] from if_pos (hcvr_20.symm.trans c_21)), List.append_nil]; exact eti) (hP.sub (ws' := [(s2, .inr (1, [.ref bx, .int ik, .int wy, .int op])), (bx, .inr (0, [.int bx0, .int by0, .int bx1, .int by1])), (t0, .inr (5, [.ref d0, .int w, .int h])), (d0, .inl (cI, 4096, .inl gz)), (h0, .inr (8, [.ref s1, .ref s2, .ref s3, .ref s4, .ref s5, .ref s6, .int ds, va_rf sp, va_rf bt])), (s1, .inl (cO, 4, .inr (.inr (.inr (.inr f))))), (s6, .inr (4, [.ref w1, .ref w2])), (w1, .inl (cI, 256, .inl g_12)), (w2, .inl (cI, 64, .inl g_13)), (s4, .inr (3, [.ref p1, .ref p2, .ref p3, .ref p4, .int pn, .int fx, .int fy])), (p1, .inl (cI, 48, .inl qa)), (p2, .inl (cI, 48, .inl qb)), (p3, .inl (cI, 48, .inl qc)), (p4, .inl (cI, 48, .inl qd))]) [0, 1, 2, 3, 4, 5, 12, 6, 13, 7, 8, 9, 10, 11] rfl) (hD.sub (ws' := [(s2, .inr (1, [.ref bx, .int ik, .int wy, .int op])), (bx, .inr (0, [.int bx0, .int by0, .int bx1, .int by1])), (t0, .inr (5, [.ref d0, .int w, .int h])), (d0, .inl (cI, 4096, .inl gz)), (h0, .inr (8, [.ref s1, .ref s2, .ref s3, .ref s4, .ref s5, .ref s6, .int ds, va_rf sp, va_rf bt])), (s1, .inl (cO, 4, .inr (.inr (.inr (.inr f))))), (s6, .inr (4, [.ref w1, .ref w2])), (w1, .inl (cI, 256, .inl g_12)), (w2, .inl (cI, 64, .inl g_13)), (s4, .inr (3, [.ref p1, .ref p2, .ref p3, .ref p4, .int pn, .int fx, .int fy])), (p1, .inl (cI, 48, .inl qa)), (p2, .inl (cI, 48, .inl qb)), (p3, .inl (cI, 48, .inl qc)), (p4, .inl (cI, 48, .inl qd))]) [0, 1, 2, 3, 4, 5, 12, 6, 13, 7, 8, 9, 10, 11] (by decide) rfl) hS (lv_sub hl [0, 2, 3, 4, 5, 6, 7, 8] rfl)
                  · skip
                    have f_22 : ¬ (r_20.toInt = 0) := fn_eq rfl (by decide) c_21
                    refine lv_iload_n hx hb dX8_fill_94 rfl (lv_at hl 8 rfl) ?_
                    refine lv_if_eq (tgt := 110) hx hb dX8_fill_95 (by decide) (fun c_24 => ?_) (fun c_24 => ?_)
                    · skip
                      have f_25 : sm.toInt = 0 := f_eq rfl (by decide) c_24
                      refine lv_aload_n hx hb dX8_fill_110 rfl (lv_at hl 5 rfl) ?_
                      refine va_get (D := D) (ci := 8) (v := .ref s2) (C := RX8) (T := TX8) (N := 9) hx hb hts hi_X8 hown hK hP 4 rfl rfl 1 (by decide) (hts _ bw_231) (fun _ h9 => h9) rfl dX8_fill_111 ?_
                      refine va_getN (host := RX8) (D := D) (ci := 1) (v := .int op) (C := RX1) (T := TX1) (N := 4) hx hb hts hi_X1 hown hK hP 0 rfl rfl 3 (by decide) ((hN.1 (RX8, 86, "DotBench$Brush", "opacity", "I", RX8) (by decide +kernel)).use rfl) (fun _ h9 => h9) rfl dX8_fill_114 ?_
                      refine lv_istore (lv' := [(9, .int op), (8, .int r_20), (7, .int x7), (6, .int x6), (5, .int z5), (4, .ref t0), (0, .ref h0), (1, .int k), (2, .int ru), (3, .int sm)]) hx hb dX8_fill_117 hl (by decide) rfl (fun ls hl => ?_)
                      refine lv_iload hx hb dX8_fill_119 (lv_at hl 4 rfl) ?_
                      refine lv_aload_n hx hb dX8_fill_121 rfl (lv_at hl 6 rfl) ?_
                      refine va_get (D := D) (ci := 8) (v := .ref s2) (C := RX8) (T := TX8) (N := 9) hx hb hts hi_X8 hown hK hP 4 rfl rfl 1 (by decide) (hts _ bw_231) (fun _ h9 => h9) rfl dX8_fill_122 ?_
                      refine lv_aload hx hb dX8_fill_125 (lv_at hl 5 rfl) ?_
                      refine lv_iload hx hb dX8_fill_127 (lv_at hl 2 rfl) ?_
                      refine lv_iload hx hb dX8_fill_129 (lv_at hl 3 rfl) ?_
                      refine lv_aload_n hx hb dX8_fill_131 rfl (lv_at hl 6 rfl) ?_
                      refine va_get (D := D) (ci := 8) (v := .ref s2) (C := RX8) (T := TX8) (N := 9) hx hb hts hi_X8 hown hK hP 4 rfl rfl 1 (by decide) (hts _ bw_231) (fun _ h9 => h9) rfl dX8_fill_132 ?_
                      refine va_getN (host := RX8) (D := D) (ci := 1) (v := .int ik) (C := RX1) (T := TX1) (N := 4) hx hb hts hi_X1 hown hK hP 0 rfl rfl 1 (by decide) ((hN.1 (RX8, 76, "DotBench$Brush", "ink", "I", RX8) (by decide +kernel)).use rfl) (fun _ h9 => h9) rfl dX8_fill_135 ?_
                      refine lv_iload hx hb dX8_fill_138 (lv_at hl 0 rfl) ?_
                      have hPc := hP.sub (ws' := [(s2, .inr (1, [.ref bx, .int ik, .int wy, .int op])), (bx, .inr (0, [.int bx0, .int by0, .int bx1, .int by1])), (t0, .inr (5, [.ref d0, .int w, .int h])), (d0, .inl (cI, 4096, .inl gz))]) [0, 1, 2, 3] rfl
                      have hDc := hD.sub (ws' := [(s2, .inr (1, [.ref bx, .int ik, .int wy, .int op])), (bx, .inr (0, [.int bx0, .int by0, .int bx1, .int by1])), (t0, .inr (5, [.ref d0, .int w, .int h])), (d0, .inl (cI, 4096, .inl gz))]) [0, 1, 2, 3] (by decide) rfl
                      have hKc := hK.sub (tys' := [(cI, .int)]) [1] rfl
                      have hFc := va_free (wc := [(s2, .inr (1, [.ref bx, .int ik, .int wy, .int op])), (bx, .inr (0, [.int bx0, .int by0, .int bx1, .int by1])), (t0, .inr (5, [.ref d0, .int w, .int h])), (d0, .inl (cI, 4096, .inl gz))]) hD hS hA [0, 1, 2, 3] rfl
                      refine va_calli (va_runV (As := [.ref t0, .int x7, .int x6, .int ik, .int op]) (rest := [.int z5]) ⟨hx, hb, hml, hown, hts⟩ (k_X1_lay l D H.size s2 bx ik wy op t0 d0 bx0 by0 bx1 by1 w h gz x7 x6 ik op cI (by first | assumption | omega | decide) (by first | assumption | omega | decide) (by first | assumption | omega | decide)) (cwV 5 hts (gV bw_276 bw_33 bw_34 bw_19 bw_32) rfl rfl rfl (by decide +kernel) ⟨(by rw [hR]; exact Nat.le_of_ble_eq_true rfl), (by rw [hR]; exact Nat.le_of_ble_eq_true rfl)⟩) ⟨cP_blind, va_recv hKc hPc (ci := 1) (q0 := 0) rfl rfl, cP_at hPc hKc hDc hN⟩ rfl rfl hl.1 rfl (lv_room (Nat.le_of_ble_eq_true rfl)) dX8_fill_140 ⟨(by rw [hR]; exact Nat.le_of_ble_eq_true rfl), (by rw [hR]; exact Nat.le_of_ble_eq_true rfl)⟩) hS (fun q _ h => hFc q h) hFc (fun r_26 u9 t9 H1 locs ht hvm hr_26 hB hz1 hk1 hS => ?_)
                      try dsimp only at hr_26
                      obtain ⟨hP1, hK1, hD1⟩ := hB
                      rw [ht] at hP1
                      obtain ⟨hP, hD⟩ := va_join (wr := [(h0, .inr (8, [.ref s1, .ref s2, .ref s3, .ref s4, .ref s5, .ref s6, .int ds, va_rf sp, va_rf bt])), (s1, .inl (cO, 4, .inr (.inr (.inr (.inr f))))), (w1, .inl (cI, 256, .inl g_12)), (s4, .inr (3, [.ref p1, .ref p2, .ref p3, .ref p4, .int pn, .int fx, .int fy])), (p1, .inl (cI, 48, .inl qa)), (p2, .inl (cI, 48, .inl qb)), (p3, .inl (cI, 48, .inl qc)), (p4, .inl (cI, 48, .inl qd)), (s6, .inr (4, [.ref w1, .ref w2])), (w2, .inl (cI, 64, .inl g_13))]) (w1 := [(s2, .inr (1, [.ref bx, .int ik, .int wy, .int op])), (bx, .inr (0, [.int bx0, .int by0, .int bx1, .int by1])), (t0, .inr (5, [.ref d0, .int w, .int h])), (d0, .inl (cI, 4096, .inl (if 0 ≤ x7.toInt ∧ x7.toInt < w.toInt ∧ 0 ≤ x6.toInt ∧ x6.toInt < h.toInt ∧ bx0.toInt ≤ x7.toInt ∧ x7.toInt ≤ bx1.toInt ∧ by0.toInt ≤ x6.toInt ∧ x6.toInt ≤ by1.toInt then upd gz (ixP x7 x6) (laidP wy ik (gz (ixP x7 x6)) op) else gz)))]) hP hD [0, 1, 2, 3] [4, 5, 6, 7, 8, 9, 10, 11, 12, 13] rfl rfl (by decide) (by decide) hk1 hFc hP1 hD1
                      clear hz1 hk1 hFc hKc hDc hPc
                      generalize H1 = H at hP hS ⊢
                      have hP : va_P D vwCl [(h0, .inr (8, [.ref s1, .ref s2, .ref s3, .ref s4, .ref s5, .ref s6, .int ds, va_rf sp, va_rf bt])), (s1, .inl (cO, 4, .inr (.inr (.inr (.inr f))))), (w1, .inl (cI, 256, .inl g_12)), (s4, .inr (3, [.ref p1, .ref p2, .ref p3, .ref p4, .int pn, .int fx, .int fy])), (p1, .inl (cI, 48, .inl qa)), (p2, .inl (cI, 48, .inl qb)), (p3, .inl (cI, 48, .inl qc)), (p4, .inl (cI, 48, .inl qd)), (s6, .inr (4, [.ref w1, .ref w2])), (w2, .inl (cI, 64, .inl g_13)), (s2, .inr (1, [.ref bx, .int ik, .int wy, .int op])), (bx, .inr (0, [.int bx0, .int by0, .int bx1, .int by1])), (t0, .inr (5, [.ref d0, .int w, .int h])), (d0, .inl (cI, 4096, .inl (if 0 ≤ x7.toInt ∧ x7.toInt < w.toInt ∧ 0 ≤ x6.toInt ∧ x6.toInt < h.toInt ∧ bx0.toInt ≤ x7.toInt ∧ x7.toInt ≤ bx1.toInt ∧ by0.toInt ≤ x6.toInt ∧ x6.toInt ≤ by1.toInt then upd gz (ixP x7 x6) (laidP wy ik (gz (ixP x7 x6)) op) else gz)))] H := hP
                      have hD : va_D A [(h0, .inr (8, [.ref s1, .ref s2, .ref s3, .ref s4, .ref s5, .ref s6, .int ds, va_rf sp, va_rf bt])), (s1, .inl (cO, 4, .inr (.inr (.inr (.inr f))))), (w1, .inl (cI, 256, .inl g_12)), (s4, .inr (3, [.ref p1, .ref p2, .ref p3, .ref p4, .int pn, .int fx, .int fy])), (p1, .inl (cI, 48, .inl qa)), (p2, .inl (cI, 48, .inl qb)), (p3, .inl (cI, 48, .inl qc)), (p4, .inl (cI, 48, .inl qd)), (s6, .inr (4, [.ref w1, .ref w2])), (w2, .inl (cI, 64, .inl g_13)), (s2, .inr (1, [.ref bx, .int ik, .int wy, .int op])), (bx, .inr (0, [.int bx0, .int by0, .int bx1, .int by1])), (t0, .inr (5, [.ref d0, .int w, .int h])), (d0, .inl (cI, 4096, .inl (if 0 ≤ x7.toInt ∧ x7.toInt < w.toInt ∧ 0 ≤ x6.toInt ∧ x6.toInt < h.toInt ∧ bx0.toInt ≤ x7.toInt ∧ x7.toInt ≤ bx1.toInt ∧ by0.toInt ≤ x6.toInt ∧ x6.toInt ≤ by1.toInt then upd gz (ixP x7 x6) (laidP wy ik (gz (ixP x7 x6)) op) else gz)))] := hD
                      refine lv_iadd hx hb dX8_fill_143 ?_
                      refine lv_topi (fun y_27 ey_27 => ?_)
                      refine lv_istore (lv' := [(5, .int y_27), (9, .int op), (8, .int r_20), (7, .int x7), (6, .int x6), (4, .ref t0), (0, .ref h0), (1, .int k), (2, .int ru), (3, .int sm)]) hx hb dX8_fill_144 hl (by decide) rfl (fun ls hl => ?_)
                      obtain ⟨y_28, ey_28⟩ : ∃ y : Int32, y = x7 + 1 := ⟨_, rfl⟩
                      refine lv_iinc (v := y_28) (lv' := [(7, .int y_28), (5, .int y_27), (9, .int op), (8, .int r_20), (6, .int x6), (4, .ref t0), (0, .ref h0), (1, .int k), (2, .int ru), (3, .int sm)]) hx hb dX8_fill_146 hl (k := 3) rfl (by rw [ey_28]; rfl) (by decide) rfl (fun ls hl => ?_)
                      refine lv_goto (tgt := 68) hx hb dX8_fill_149 (by decide) ?_
                      exact ih_16 (i + 1) y_28 y_27 (if 0 ≤ x7.toInt ∧ x7.toInt < w.toInt ∧ 0 ≤ x6.toInt ∧ x6.toInt < h.toInt ∧ bx0.toInt ≤ x7.toInt ∧ x7.toInt ≤ bx1.toInt ∧ by0.toInt ≤ x6.toInt ∧ x6.toInt ≤ by1.toInt then upd gz (ixP x7 x6) (laidP wy ik (gz (ixP x7 x6)) op) else gz) _ _ _ (by omega) (by omega) (by rw [ey_28, ex_i]; exact nI_1 i) (by omega) (by rw [show gR (flQ (cfC qa qb qc qd pn.toNatClampNeg ru sm) sm ik op) j (i + 1) = gR (flQ (cfC qa qb qc qd pn.toNatClampNeg ru sm) sm ik op) j i ++ [(x7, x6, ik, op)] from congrArg (gR (flQ (cfC qa qb qc qd pn.toNatClampNeg ru sm) sm ik op) j i ++ ·) (show flQ (cfC qa qb qc qd pn.toNatClampNeg ru sm) sm ik op j i = [(x7, x6, ik, op)] by unfold flQ; rw [← hcvr_20, if_neg c_21, if_pos c_24, ← ex_i, ← ex_j]), ← List.append_assoc, List.foldl_append, ← hgi]; rfl) (by rw [show gR (flQ (cfC qa qb qc qd pn.toNatClampNeg ru sm) sm ik op) j (i + 1) = gR (flQ (cfC qa qb qc qd pn.toNatClampNeg ru sm) sm ik op) j i ++ [(x7, x6, ik, op)] from congrArg (gR (flQ (cfC qa qb qc qd pn.toNatClampNeg ru sm) sm ik op) j i ++ ·) (show flQ (cfC qa qb qc qd pn.toNatClampNeg ru sm) sm ik op j i = [(x7, x6, ik, op)] by unfold flQ; rw [← hcvr_20, if_neg c_21, if_pos c_24, ← ex_i, ← ex_j]), ← List.append_assoc, List.foldl_append, ← eti, ey_27, hr_26]; rfl) (hP.sub (ws' := [(s2, .inr (1, [.ref bx, .int ik, .int wy, .int op])), (bx, .inr (0, [.int bx0, .int by0, .int bx1, .int by1])), (t0, .inr (5, [.ref d0, .int w, .int h])), (d0, .inl (cI, 4096, .inl (if 0 ≤ x7.toInt ∧ x7.toInt < w.toInt ∧ 0 ≤ x6.toInt ∧ x6.toInt < h.toInt ∧ bx0.toInt ≤ x7.toInt ∧ x7.toInt ≤ bx1.toInt ∧ by0.toInt ≤ x6.toInt ∧ x6.toInt ≤ by1.toInt then upd gz (ixP x7 x6) (laidP wy ik (gz (ixP x7 x6)) op) else gz))), (h0, .inr (8, [.ref s1, .ref s2, .ref s3, .ref s4, .ref s5, .ref s6, .int ds, va_rf sp, va_rf bt])), (s1, .inl (cO, 4, .inr (.inr (.inr (.inr f))))), (s6, .inr (4, [.ref w1, .ref w2])), (w1, .inl (cI, 256, .inl g_12)), (w2, .inl (cI, 64, .inl g_13)), (s4, .inr (3, [.ref p1, .ref p2, .ref p3, .ref p4, .int pn, .int fx, .int fy])), (p1, .inl (cI, 48, .inl qa)), (p2, .inl (cI, 48, .inl qb)), (p3, .inl (cI, 48, .inl qc)), (p4, .inl (cI, 48, .inl qd))]) [10, 11, 12, 13, 0, 1, 8, 2, 9, 3, 4, 5, 6, 7] rfl) (hD.sub (ws' := [(s2, .inr (1, [.ref bx, .int ik, .int wy, .int op])), (bx, .inr (0, [.int bx0, .int by0, .int bx1, .int by1])), (t0, .inr (5, [.ref d0, .int w, .int h])), (d0, .inl (cI, 4096, .inl (if 0 ≤ x7.toInt ∧ x7.toInt < w.toInt ∧ 0 ≤ x6.toInt ∧ x6.toInt < h.toInt ∧ bx0.toInt ≤ x7.toInt ∧ x7.toInt ≤ bx1.toInt ∧ by0.toInt ≤ x6.toInt ∧ x6.toInt ≤ by1.toInt then upd gz (ixP x7 x6) (laidP wy ik (gz (ixP x7 x6)) op) else gz))), (h0, .inr (8, [.ref s1, .ref s2, .ref s3, .ref s4, .ref s5, .ref s6, .int ds, va_rf sp, va_rf bt])), (s1, .inl (cO, 4, .inr (.inr (.inr (.inr f))))), (s6, .inr (4, [.ref w1, .ref w2])), (w1, .inl (cI, 256, .inl g_12)), (w2, .inl (cI, 64, .inl g_13)), (s4, .inr (3, [.ref p1, .ref p2, .ref p3, .ref p4, .int pn, .int fx, .int fy])), (p1, .inl (cI, 48, .inl qa)), (p2, .inl (cI, 48, .inl qb)), (p3, .inl (cI, 48, .inl qc)), (p4, .inl (cI, 48, .inl qd))]) [10, 11, 12, 13, 0, 1, 8, 2, 9, 3, 4, 5, 6, 7] (by decide) rfl) hS (lv_sub hl [0, 4, 1, 5, 6, 7, 8, 9] rfl)
                    · skip
                      exact absurd c_9 c_24
            exact loop_15 (64 + 1) 0 0 x5 ga _ _ _ (by omega) (by omega) nI_0.symm (by omega) (by rw [show gR (flQ (cfC qa qb qc qd pn.toNatClampNeg ru sm) sm ik op) j 0 = [] from rfl, List.append_nil]; exact hgo) (by rw [show gR (flQ (cfC qa qb qc qd pn.toNatClampNeg ru sm) sm ik op) j 0 = [] from rfl, List.append_nil]; exact eto) hP hD hS (lv_sub hl [0, 1, 2, 3, 4, 5, 6, 7] rfl)
          · skip
            have f_10 : ¬ (sm.toInt = 0) := fn_eq rfl (by decide) c_9
            refine lv_iconst (v := 3) hx hb dX8_fill_56 (by decide) ?_
            refine lv_goto (tgt := 61) hx hb dX8_fill_57 (by decide) ?_
            refine lv_iload_n hx hb dX8_fill_61 rfl (lv_at hl 5 rfl) ?_
            have hPc := hP.sub (ws' := [(s6, .inr (4, [.ref w1, .ref w2])), (w1, .inl (cI, 256, .inl gb)), (w2, .inl (cI, 64, .inl gd)), (s4, .inr (3, [.ref p1, .ref p2, .ref p3, .ref p4, .int pn, .int fx, .int fy])), (p1, .inl (cI, 48, .inl qa)), (p2, .inl (cI, 48, .inl qb)), (p3, .inl (cI, 48, .inl qc)), (p4, .inl (cI, 48, .inl qd))]) [9, 10, 11, 4, 5, 6, 7, 8] rfl
            have hDc := hD.sub (ws' := [(s6, .inr (4, [.ref w1, .ref w2])), (w1, .inl (cI, 256, .inl gb)), (w2, .inl (cI, 64, .inl gd)), (s4, .inr (3, [.ref p1, .ref p2, .ref p3, .ref p4, .int pn, .int fx, .int fy])), (p1, .inl (cI, 48, .inl qa)), (p2, .inl (cI, 48, .inl qb)), (p3, .inl (cI, 48, .inl qc)), (p4, .inl (cI, 48, .inl qd))]) [9, 10, 11, 4, 5, 6, 7, 8] (by decide) rfl
            have hKc := hK.sub (tys' := [(cI, .int)]) [1] rfl
            have hFc := va_free (wc := [(s6, .inr (4, [.ref w1, .ref w2])), (w1, .inl (cI, 256, .inl gb)), (w2, .inl (cI, 64, .inl gd)), (s4, .inr (3, [.ref p1, .ref p2, .ref p3, .ref p4, .int pn, .int fx, .int fy])), (p1, .inl (cI, 48, .inl qa)), (p2, .inl (cI, 48, .inl qb)), (p3, .inl (cI, 48, .inl qc)), (p4, .inl (cI, 48, .inl qd))]) hD hS hA [9, 10, 11, 4, 5, 6, 7, 8] rfl
            refine va_callv (va_runV (As := [.ref s4, .int x6, .int w, .int 3, .int ru]) (rest := []) ⟨hx, hb, hml, hown, hts⟩ (k_X4_read_3e l D H.size s6 s4 w1 w2 p1 p2 p3 p4 pn fx fy qa qb qc qd gb gd x6 w ru W9 cI (by first | assumption | omega | decide) (by first | assumption | omega | decide) eW9 (by omega) hW9t) (cwV 5 hts (gV bw_294 bw_119 bw_120 bw_111 bw_118) rfl rfl rfl (by decide +kernel) ⟨(by rw [hR]; exact Nat.le_of_ble_eq_true rfl), (by rw [hR]; exact Nat.le_of_ble_eq_true rfl)⟩) ⟨cP_blind, va_recv hKc hPc (ci := 4) (q0 := 0) rfl rfl, cP_at hPc hKc hDc hN⟩ rfl rfl hl.1 rfl (lv_room (Nat.le_of_ble_eq_true rfl)) dX8_fill_62 ⟨(by rw [hR]; exact Nat.le_of_ble_eq_true rfl), (by rw [hR]; exact Nat.le_of_ble_eq_true rfl)⟩) hS (fun q _ h => hFc q h) hFc (fun u9 t9 H1 locs ht hvm hr_29 hB hz1 hk1 hS => ?_)
            try dsimp only at hr_29
            obtain ⟨g_30, g_31, b_32, hP1, hK1, hD1⟩ := hB
            rw [ht] at hP1
            obtain ⟨hP, hD⟩ := va_join (wr := [(s2, .inr (1, [.ref bx, .int ik, .int wy, .int op])), (bx, .inr (0, [.int bx0, .int by0, .int bx1, .int by1])), (t0, .inr (5, [.ref d0, .int w, .int h])), (d0, .inl (cI, 4096, .inl ga)), (h0, .inr (8, [.ref s1, .ref s2, .ref s3, .ref s4, .ref s5, .ref s6, .int ds, va_rf sp, va_rf bt])), (s1, .inl (cO, 4, .inr (.inr (.inr (.inr f)))))]) (w1 := [(s6, .inr (4, [.ref w1, .ref w2])), (w1, .inl (cI, 256, .inl g_30)), (w2, .inl (cI, 64, .inl g_31)), (s4, .inr (3, [.ref p1, .ref p2, .ref p3, .ref p4, .int pn, .int fx, .int fy])), (p1, .inl (cI, 48, .inl qa)), (p2, .inl (cI, 48, .inl qb)), (p3, .inl (cI, 48, .inl qc)), (p4, .inl (cI, 48, .inl qd))]) hP hD [9, 10, 11, 4, 5, 6, 7, 8] [0, 1, 2, 3, 12, 13] rfl rfl (by decide) (by decide) hk1 hFc hP1 hD1
            clear hz1 hk1 hFc hKc hDc hPc
            generalize H1 = H at hP hS ⊢
            have hP : va_P D vwCl [(s2, .inr (1, [.ref bx, .int ik, .int wy, .int op])), (bx, .inr (0, [.int bx0, .int by0, .int bx1, .int by1])), (t0, .inr (5, [.ref d0, .int w, .int h])), (d0, .inl (cI, 4096, .inl ga)), (h0, .inr (8, [.ref s1, .ref s2, .ref s3, .ref s4, .ref s5, .ref s6, .int ds, va_rf sp, va_rf bt])), (s1, .inl (cO, 4, .inr (.inr (.inr (.inr f))))), (s6, .inr (4, [.ref w1, .ref w2])), (w1, .inl (cI, 256, .inl g_30)), (w2, .inl (cI, 64, .inl g_31)), (s4, .inr (3, [.ref p1, .ref p2, .ref p3, .ref p4, .int pn, .int fx, .int fy])), (p1, .inl (cI, 48, .inl qa)), (p2, .inl (cI, 48, .inl qb)), (p3, .inl (cI, 48, .inl qc)), (p4, .inl (cI, 48, .inl qd))] H := hP
            have hD : va_D A [(s2, .inr (1, [.ref bx, .int ik, .int wy, .int op])), (bx, .inr (0, [.int bx0, .int by0, .int bx1, .int by1])), (t0, .inr (5, [.ref d0, .int w, .int h])), (d0, .inl (cI, 4096, .inl ga)), (h0, .inr (8, [.ref s1, .ref s2, .ref s3, .ref s4, .ref s5, .ref s6, .int ds, va_rf sp, va_rf bt])), (s1, .inl (cO, 4, .inr (.inr (.inr (.inr f))))), (s6, .inr (4, [.ref w1, .ref w2])), (w1, .inl (cI, 256, .inl g_30)), (w2, .inl (cI, 64, .inl g_31)), (s4, .inr (3, [.ref p1, .ref p2, .ref p3, .ref p4, .int pn, .int fx, .int fy])), (p1, .inl (cI, 48, .inl qa)), (p2, .inl (cI, 48, .inl qb)), (p3, .inl (cI, 48, .inl qc)), (p4, .inl (cI, 48, .inl qd))] := hD
            refine lv_iconst (v := 0) hx hb dX8_fill_65 (by decide) ?_
            refine lv_istore (lv' := [(7, .int 0), (6, .int x6), (5, .int x5), (4, .ref t0), (0, .ref h0), (1, .int k), (2, .int ru), (3, .int sm)]) hx hb dX8_fill_66 hl (by decide) rfl (fun ls hl => ?_)
            have loop_33 : ∀ (n : Nat) (i : Nat) (x7 : Int32) (z5 : Int32) (gz : Nat → Int32) (H : Heap) (locs : List Loc) (ls : Array Slot), (i ≤ 64) → (64 + 1 ≤ i + n) → (x7 = nI i) → (i ≤ W9) → (gz = (gL (flQ (cfC qa qb qc qd pn.toNatClampNeg ru sm) sm ik op) W9 j ++ gR (flQ (cfC qa qb qc qd pn.toNatClampNeg ru sm) sm ik op) j i).foldl (layG w h bx0 by0 bx1 by1 wy) g) → (z5 = (gL (flQ (cfC qa qb qc qd pn.toNatClampNeg ru sm) sm ik op) W9 j ++ gR (flQ (cfC qa qb qc qd pn.toNatClampNeg ru sm) sm ik op) j i).foldl (layT w h bx0 by0 bx1 by1) 0) → va_P D vwCl [(s2, .inr (1, [.ref bx, .int ik, .int wy, .int op])), (bx, .inr (0, [.int bx0, .int by0, .int bx1, .int by1])), (t0, .inr (5, [.ref d0, .int w, .int h])), (d0, .inl (cI, 4096, .inl gz)), (h0, .inr (8, [.ref s1, .ref s2, .ref s3, .ref s4, .ref s5, .ref s6, .int ds, va_rf sp, va_rf bt])), (s1, .inl (cO, 4, .inr (.inr (.inr (.inr f))))), (s6, .inr (4, [.ref w1, .ref w2])), (w1, .inl (cI, 256, .inl g_30)), (w2, .inl (cI, 64, .inl g_31)), (s4, .inr (3, [.ref p1, .ref p2, .ref p3, .ref p4, .int pn, .int fx, .int fy])), (p1, .inl (cI, 48, .inl qa)), (p2, .inl (cI, 48, .inl qb)), (p3, .inl (cI, 48, .inl qc)), (p4, .inl (cI, 48, .inl qd))] H → va_D A [(s2, .inr (1, [.ref bx, .int ik, .int wy, .int op])), (bx, .inr (0, [.int bx0, .int by0, .int bx1, .int by1])), (t0, .inr (5, [.ref d0, .int w, .int h])), (d0, .inl (cI, 4096, .inl gz)), (h0, .inr (8, [.ref s1, .ref s2, .ref s3, .ref s4, .ref s5, .ref s6, .int ds, va_rf sp, va_rf bt])), (s1, .inl (cO, 4, .inr (.inr (.inr (.inr f))))), (s6, .inr (4, [.ref w1, .ref w2])), (w1, .inl (cI, 256, .inl g_30)), (w2, .inl (cI, 64, .inl g_31)), (s4, .inr (3, [.ref p1, .ref p2, .ref p3, .ref p4, .int pn, .int fx, .int fy])), (p1, .inl (cI, 48, .inl qa)), (p2, .inl (cI, 48, .inl qb)), (p3, .inl (cI, 48, .inl qc)), (p4, .inl (cI, 48, .inl qd))] → va_S A s.heap H locs → lv_has ls 10 [(7, .int x7), (6, .int x6), (5, .int z5), (4, .ref t0), (0, .ref h0), (1, .int k), (2, .int ru), (3, .int sm)] → W p l e R s m ([.ref h0, .int k, .int ru, .int sm] : List Value).toArray below meth c H locs 0 0 Q (F0 m 68 ls []) := by
              intro n
              induction n with
              | zero =>
                intro i x7 z5 gz H locs ls hi_i hm_i ex_i hio hgi eti hP hD hS hl
                exact absurd (show False by omega) not_false
              | succ n ih_34 =>
                intro i x7 z5 gz H locs ls hi_i hm_i ex_i hio hgi eti hP hD hS hl
                have hx_i : x7.toInt = (i : Int) := by rw [ex_i]; exact nI_toInt (by omega)
                have hc_i : x7.toNatClampNeg = i := by rw [ex_i]; exact nI_clamp (by omega)
                refine lv_iload hx hb dX8_fill_68 (lv_at hl 0 rfl) ?_
                refine lv_aload hx hb dX8_fill_70 (lv_at hl 3 rfl) ?_
                refine va_getN (host := RX8) (D := D) (ci := 5) (v := .int w) (C := RX5) (T := TX5) (N := 3) hx hb hts hi_X5 hown hK hP 2 rfl rfl 1 (by decide) ((hN.1 (RX8, 148, "DotBench$Sheet", "width", "I", RX8) (by decide +kernel)).use rfl) (fun _ h9 => h9) rfl dX8_fill_72 ?_
                refine lv_icmp_ge (tgt := 152) hx hb dX8_fill_75 (by decide) (fun c_35 => ?_) (fun c_35 => ?_)
                · skip
                  have f_36 : w.toInt ≤ (i : Int) := f_le rfl hx_i c_35
                  obtain ⟨y_37, ey_37⟩ : ∃ y : Int32, y = x6 + 1 := ⟨_, rfl⟩
                  refine lv_iinc (v := y_37) (lv' := [(6, .int y_37), (7, .int x7), (5, .int z5), (4, .ref t0), (0, .ref h0), (1, .int k), (2, .int ru), (3, .int sm)]) hx hb dX8_fill_152 hl (k := 1) rfl (by rw [ey_37]; rfl) (by decide) rfl (fun ls hl => ?_)
                  refine lv_goto (tgt := 27) hx hb dX8_fill_155 (by decide) ?_
                  exact ih_6 (j + 1) y_37 z5 gz g_30 g_31 _ _ _ (by omega) (by omega) (by rw [ey_37, ex_j]; exact nI_1 j) (by omega) (gl_nx hgi (by omega)) (gl_nx eti (by omega)) (hP.sub (ws' := [(s2, .inr (1, [.ref bx, .int ik, .int wy, .int op])), (bx, .inr (0, [.int bx0, .int by0, .int bx1, .int by1])), (t0, .inr (5, [.ref d0, .int w, .int h])), (d0, .inl (cI, 4096, .inl gz)), (s4, .inr (3, [.ref p1, .ref p2, .ref p3, .ref p4, .int pn, .int fx, .int fy])), (p1, .inl (cI, 48, .inl qa)), (p2, .inl (cI, 48, .inl qb)), (p3, .inl (cI, 48, .inl qc)), (p4, .inl (cI, 48, .inl qd)), (s6, .inr (4, [.ref w1, .ref w2])), (w1, .inl (cI, 256, .inl g_30)), (w2, .inl (cI, 64, .inl g_31)), (h0, .inr (8, [.ref s1, .ref s2, .ref s3, .ref s4, .ref s5, .ref s6, .int ds, va_rf sp, va_rf bt])), (s1, .inl (cO, 4, .inr (.inr (.inr (.inr f)))))]) [0, 1, 2, 3, 9, 10, 11, 12, 13, 6, 7, 8, 4, 5] rfl) (hD.sub (ws' := [(s2, .inr (1, [.ref bx, .int ik, .int wy, .int op])), (bx, .inr (0, [.int bx0, .int by0, .int bx1, .int by1])), (t0, .inr (5, [.ref d0, .int w, .int h])), (d0, .inl (cI, 4096, .inl gz)), (s4, .inr (3, [.ref p1, .ref p2, .ref p3, .ref p4, .int pn, .int fx, .int fy])), (p1, .inl (cI, 48, .inl qa)), (p2, .inl (cI, 48, .inl qb)), (p3, .inl (cI, 48, .inl qc)), (p4, .inl (cI, 48, .inl qd)), (s6, .inr (4, [.ref w1, .ref w2])), (w1, .inl (cI, 256, .inl g_30)), (w2, .inl (cI, 64, .inl g_31)), (h0, .inr (8, [.ref s1, .ref s2, .ref s3, .ref s4, .ref s5, .ref s6, .int ds, va_rf sp, va_rf bt])), (s1, .inl (cO, 4, .inr (.inr (.inr (.inr f)))))]) [0, 1, 2, 3, 9, 10, 11, 12, 13, 6, 7, 8, 4, 5] (by decide) rfl) hS (lv_sub hl [0, 2, 3, 4, 5, 6, 7] rfl)
                · skip
                  have f_36 : ¬ (w.toInt ≤ (i : Int)) := fn_le rfl hx_i c_35
                  refine lv_aload_n hx hb dX8_fill_78 rfl (lv_at hl 4 rfl) ?_
                  refine va_get (D := D) (ci := 8) (v := .ref s6) (C := RX8) (T := TX8) (N := 9) hx hb hts hi_X8 hown hK hP 4 rfl rfl 5 (by decide) (hts _ bw_239) (fun _ h9 => h9) rfl dX8_fill_79 ?_
                  refine lv_iload hx hb dX8_fill_82 (lv_at hl 0 rfl) ?_
                  have hPc := hP.sub (ws' := [(s6, .inr (4, [.ref w1, .ref w2])), (w2, .inl (cI, 64, .inl g_31))]) [6, 8] rfl
                  have hDc := hD.sub (ws' := [(s6, .inr (4, [.ref w1, .ref w2])), (w2, .inl (cI, 64, .inl g_31))]) [6, 8] (by decide) rfl
                  have hKc := hK.sub (tys' := [(cI, .int)]) [1] rfl
                  have hFc := va_free (wc := [(s6, .inr (4, [.ref w1, .ref w2])), (w2, .inl (cI, 64, .inl g_31))]) hD hS hA [6, 8] rfl
                  refine va_calli (va_runV (As := [.int x7]) (rest := []) ⟨hx, hb, hml, hown, hts⟩ (k_X4_coveredAt l D H.size s6 w1 w2 g_31 x7 cI) (cwV 1 hts (gV bw_295 bw_125 bw_126 bw_111 bw_124) rfl rfl rfl (by decide +kernel) ⟨(by rw [hR]; exact Nat.le_of_ble_eq_true rfl), (by rw [hR]; exact Nat.le_of_ble_eq_true rfl)⟩) ⟨cP_blind, va_recv hKc hPc (ci := 4) (q0 := 0) rfl rfl, cP_at hPc hKc hDc hN⟩ rfl rfl hl.1 rfl (lv_room (Nat.le_of_ble_eq_true rfl)) dX8_fill_84 ⟨(by rw [hR]; exact Nat.le_of_ble_eq_true rfl), (by rw [hR]; exact Nat.le_of_ble_eq_true rfl)⟩) hS (fun q _ h => hFc q h) hFc (fun r_38 u9 t9 H1 locs ht hvm hr_38 hB hz1 hk1 hS => ?_)
                  try dsimp only at hr_38
                  obtain ⟨hP1, hK1, hD1⟩ := hB
                  rw [ht] at hP1
                  obtain ⟨hP, hD⟩ := va_join (wr := [(s2, .inr (1, [.ref bx, .int ik, .int wy, .int op])), (bx, .inr (0, [.int bx0, .int by0, .int bx1, .int by1])), (t0, .inr (5, [.ref d0, .int w, .int h])), (d0, .inl (cI, 4096, .inl gz)), (h0, .inr (8, [.ref s1, .ref s2, .ref s3, .ref s4, .ref s5, .ref s6, .int ds, va_rf sp, va_rf bt])), (s1, .inl (cO, 4, .inr (.inr (.inr (.inr f))))), (w1, .inl (cI, 256, .inl g_30)), (s4, .inr (3, [.ref p1, .ref p2, .ref p3, .ref p4, .int pn, .int fx, .int fy])), (p1, .inl (cI, 48, .inl qa)), (p2, .inl (cI, 48, .inl qb)), (p3, .inl (cI, 48, .inl qc)), (p4, .inl (cI, 48, .inl qd))]) (w1 := [(s6, .inr (4, [.ref w1, .ref w2])), (w2, .inl (cI, 64, .inl g_31))]) hP hD [6, 8] [0, 1, 2, 3, 4, 5, 7, 9, 10, 11, 12, 13] rfl rfl (by decide) (by decide) hk1 hFc hP1 hD1
                  clear hz1 hk1 hFc hKc hDc hPc
                  generalize H1 = H at hP hS ⊢
                  have hP : va_P D vwCl [(s2, .inr (1, [.ref bx, .int ik, .int wy, .int op])), (bx, .inr (0, [.int bx0, .int by0, .int bx1, .int by1])), (t0, .inr (5, [.ref d0, .int w, .int h])), (d0, .inl (cI, 4096, .inl gz)), (h0, .inr (8, [.ref s1, .ref s2, .ref s3, .ref s4, .ref s5, .ref s6, .int ds, va_rf sp, va_rf bt])), (s1, .inl (cO, 4, .inr (.inr (.inr (.inr f))))), (w1, .inl (cI, 256, .inl g_30)), (s4, .inr (3, [.ref p1, .ref p2, .ref p3, .ref p4, .int pn, .int fx, .int fy])), (p1, .inl (cI, 48, .inl qa)), (p2, .inl (cI, 48, .inl qb)), (p3, .inl (cI, 48, .inl qc)), (p4, .inl (cI, 48, .inl qd)), (s6, .inr (4, [.ref w1, .ref w2])), (w2, .inl (cI, 64, .inl g_31))] H := hP
                  have hD : va_D A [(s2, .inr (1, [.ref bx, .int ik, .int wy, .int op])), (bx, .inr (0, [.int bx0, .int by0, .int bx1, .int by1])), (t0, .inr (5, [.ref d0, .int w, .int h])), (d0, .inl (cI, 4096, .inl gz)), (h0, .inr (8, [.ref s1, .ref s2, .ref s3, .ref s4, .ref s5, .ref s6, .int ds, va_rf sp, va_rf bt])), (s1, .inl (cO, 4, .inr (.inr (.inr (.inr f))))), (w1, .inl (cI, 256, .inl g_30)), (s4, .inr (3, [.ref p1, .ref p2, .ref p3, .ref p4, .int pn, .int fx, .int fy])), (p1, .inl (cI, 48, .inl qa)), (p2, .inl (cI, 48, .inl qb)), (p3, .inl (cI, 48, .inl qc)), (p4, .inl (cI, 48, .inl qd)), (s6, .inr (4, [.ref w1, .ref w2])), (w2, .inl (cI, 64, .inl g_31))] := hD
                  have hcvr_38 : r_38 = cfC qa qb qc qd pn.toNatClampNeg ru sm j i := by rw [hr_38, if_pos (by omega), hc_i, b_32 i (by omega), ex_j]; exact (if_neg c_9).symm
                  refine lv_istore (lv' := [(8, .int r_38), (7, .int x7), (6, .int x6), (5, .int z5), (4, .ref t0), (0, .ref h0), (1, .int k), (2, .int ru), (3, .int sm)]) hx hb dX8_fill_87 hl (by decide) rfl (fun ls hl => ?_)
                  refine lv_iload hx hb dX8_fill_89 (lv_at hl 0 rfl) ?_
                  refine lv_if_eq (tgt := 146) hx hb dX8_fill_91 (by decide) (fun c_39 => ?_) (fun c_39 => ?_)
                  · skip
                    have f_40 : r_38.toInt = 0 := f_eq rfl (by decide) c_39
                    obtain ⟨y_41, ey_41⟩ : ∃ y : Int32, y = x7 + 1 := ⟨_, rfl⟩
                    refine lv_iinc (v := y_41) (lv' := [(7, .int y_41), (8, .int r_38), (6, .int x6), (5, .int z5), (4, .ref t0), (0, .ref h0), (1, .int k), (2, .int ru), (3, .int sm)]) hx hb dX8_fill_146 hl (k := 1) rfl (by rw [ey_41]; rfl) (by decide) rfl (fun ls hl => ?_)
                    refine lv_goto (tgt := 68) hx hb dX8_fill_149 (by decide) ?_
                    exact ih_34 (i + 1) y_41 z5 gz _ _ _ (by omega) (by omega) (by rw [ey_41, ex_i]; exact nI_1 i) (by omega) (by rw [show gR (flQ (cfC qa qb qc qd pn.toNatClampNeg ru sm) sm ik op) j (i + 1) = gR (flQ (cfC qa qb qc qd pn.toNatClampNeg ru sm) sm ik op) j i ++ [] from congrArg (gR (flQ (cfC qa qb qc qd pn.toNatClampNeg ru sm) sm ik op) j i ++ ·) (show flQ (cfC qa qb qc qd pn.toNatClampNeg ru sm) sm ik op j i = [] from if_pos (hcvr_38.symm.trans c_39)), List.append_nil]; exact hgi) (by rw [show gR (flQ (cfC qa qb qc qd pn.toNatClampNeg ru sm) sm ik op) j (i + 1) = gR (flQ (cfC qa qb qc qd pn.toNatClampNeg ru sm) sm ik op) j i ++ [] from congrArg (gR (flQ (cfC qa qb qc qd pn.toNatClampNeg ru sm) sm ik op) j i ++ ·) (show flQ (cfC qa qb qc qd pn.toNatClampNeg ru sm) sm ik op j i = [] from if_pos (hcvr_38.symm.trans c_39)), List.append_nil]; exact eti) (hP.sub (ws' := [(s2, .inr (1, [.ref bx, .int ik, .int wy, .int op])), (bx, .inr (0, [.int bx0, .int by0, .int bx1, .int by1])), (t0, .inr (5, [.ref d0, .int w, .int h])), (d0, .inl (cI, 4096, .inl gz)), (h0, .inr (8, [.ref s1, .ref s2, .ref s3, .ref s4, .ref s5, .ref s6, .int ds, va_rf sp, va_rf bt])), (s1, .inl (cO, 4, .inr (.inr (.inr (.inr f))))), (s6, .inr (4, [.ref w1, .ref w2])), (w1, .inl (cI, 256, .inl g_30)), (w2, .inl (cI, 64, .inl g_31)), (s4, .inr (3, [.ref p1, .ref p2, .ref p3, .ref p4, .int pn, .int fx, .int fy])), (p1, .inl (cI, 48, .inl qa)), (p2, .inl (cI, 48, .inl qb)), (p3, .inl (cI, 48, .inl qc)), (p4, .inl (cI, 48, .inl qd))]) [0, 1, 2, 3, 4, 5, 12, 6, 13, 7, 8, 9, 10, 11] rfl) (hD.sub (ws' := [(s2, .inr (1, [.ref bx, .int ik, .int wy, .int op])), (bx, .inr (0, [.int bx0, .int by0, .int bx1, .int by1])), (t0, .inr (5, [.ref d0, .int w, .int h])), (d0, .inl (cI, 4096, .inl gz)), (h0, .inr (8, [.ref s1, .ref s2, .ref s3, .ref s4, .ref s5, .ref s6, .int ds, va_rf sp, va_rf bt])), (s1, .inl (cO, 4, .inr (.inr (.inr (.inr f))))), (s6, .inr (4, [.ref w1, .ref w2])), (w1, .inl (cI, 256, .inl g_30)), (w2, .inl (cI, 64, .inl g_31)), (s4, .inr (3, [.ref p1, .ref p2, .ref p3, .ref p4, .int pn, .int fx, .int fy])), (p1, .inl (cI, 48, .inl qa)), (p2, .inl (cI, 48, .inl qb)), (p3, .inl (cI, 48, .inl qc)), (p4, .inl (cI, 48, .inl qd))]) [0, 1, 2, 3, 4, 5, 12, 6, 13, 7, 8, 9, 10, 11] (by decide) rfl) hS (lv_sub hl [0, 2, 3, 4, 5, 6, 7, 8] rfl)
                  · skip
                    have f_40 : ¬ (r_38.toInt = 0) := fn_eq rfl (by decide) c_39
                    refine lv_iload_n hx hb dX8_fill_94 rfl (lv_at hl 8 rfl) ?_
                    refine lv_if_eq (tgt := 110) hx hb dX8_fill_95 (by decide) (fun c_42 => ?_) (fun c_42 => ?_)
                    · skip
                      exact absurd c_42 c_9
                    · skip
                      have f_43 : ¬ (sm.toInt = 0) := fn_eq rfl (by decide) c_42
                      refine lv_aload_n hx hb dX8_fill_98 rfl (lv_at hl 5 rfl) ?_
                      refine va_get (D := D) (ci := 8) (v := .ref s2) (C := RX8) (T := TX8) (N := 9) hx hb hts hi_X8 hown hK hP 4 rfl rfl 1 (by decide) (hts _ bw_231) (fun _ h9 => h9) rfl dX8_fill_99 ?_
                      refine lv_iload hx hb dX8_fill_102 (lv_at hl 0 rfl) ?_
                      have hPc := hP.sub (ws' := [(s2, .inr (1, [.ref bx, .int ik, .int wy, .int op]))]) [0] rfl
                      have hDc := hD.sub (ws' := [(s2, .inr (1, [.ref bx, .int ik, .int wy, .int op]))]) [0] (by decide) rfl
                      have hKc := hK.sub (tys' := []) [] rfl
                      have hFc := va_free (wc := [(s2, .inr (1, [.ref bx, .int ik, .int wy, .int op]))]) hD hS hA [0] rfl
                      refine va_calli (va_runV (As := [.int r_38]) (rest := []) ⟨hx, hb, hml, hown, hts⟩ (k_X1_measureOf l D H.size s2 bx ik wy op r_38) (cwV 1 hts (gV bw_296 bw_30 bw_31 bw_19 bw_29) rfl rfl rfl (by decide +kernel) ⟨(by rw [hR]; exact Nat.le_of_ble_eq_true rfl), (by rw [hR]; exact Nat.le_of_ble_eq_true rfl)⟩) ⟨cP_blind, va_recv hKc hPc (ci := 1) (q0 := 0) rfl rfl, cP_at hPc hKc hDc hN⟩ rfl rfl hl.1 rfl (lv_room (Nat.le_of_ble_eq_true rfl)) dX8_fill_104 ⟨(by rw [hR]; exact Nat.le_of_ble_eq_true rfl), (by rw [hR]; exact Nat.le_of_ble_eq_true rfl)⟩) hS (fun q _ h => hFc q h) hFc (fun r_44 u9 t9 H1 locs ht hvm hr_44 hB hz1 hk1 hS => ?_)
                      try dsimp only at hr_44
                      obtain ⟨hP1, hK1, hD1⟩ := hB
                      rw [ht] at hP1
                      obtain ⟨hP, hD⟩ := va_join (wr := [(bx, .inr (0, [.int bx0, .int by0, .int bx1, .int by1])), (t0, .inr (5, [.ref d0, .int w, .int h])), (d0, .inl (cI, 4096, .inl gz)), (h0, .inr (8, [.ref s1, .ref s2, .ref s3, .ref s4, .ref s5, .ref s6, .int ds, va_rf sp, va_rf bt])), (s1, .inl (cO, 4, .inr (.inr (.inr (.inr f))))), (w1, .inl (cI, 256, .inl g_30)), (s4, .inr (3, [.ref p1, .ref p2, .ref p3, .ref p4, .int pn, .int fx, .int fy])), (p1, .inl (cI, 48, .inl qa)), (p2, .inl (cI, 48, .inl qb)), (p3, .inl (cI, 48, .inl qc)), (p4, .inl (cI, 48, .inl qd)), (s6, .inr (4, [.ref w1, .ref w2])), (w2, .inl (cI, 64, .inl g_31))]) (w1 := [(s2, .inr (1, [.ref bx, .int ik, .int wy, .int op]))]) hP hD [0] [1, 2, 3, 4, 5, 6, 7, 8, 9, 10, 11, 12, 13] rfl rfl (by decide) (by decide) hk1 hFc hP1 hD1
                      clear hz1 hk1 hFc hKc hDc hPc
                      generalize H1 = H at hP hS ⊢
                      have hP : va_P D vwCl [(bx, .inr (0, [.int bx0, .int by0, .int bx1, .int by1])), (t0, .inr (5, [.ref d0, .int w, .int h])), (d0, .inl (cI, 4096, .inl gz)), (h0, .inr (8, [.ref s1, .ref s2, .ref s3, .ref s4, .ref s5, .ref s6, .int ds, va_rf sp, va_rf bt])), (s1, .inl (cO, 4, .inr (.inr (.inr (.inr f))))), (w1, .inl (cI, 256, .inl g_30)), (s4, .inr (3, [.ref p1, .ref p2, .ref p3, .ref p4, .int pn, .int fx, .int fy])), (p1, .inl (cI, 48, .inl qa)), (p2, .inl (cI, 48, .inl qb)), (p3, .inl (cI, 48, .inl qc)), (p4, .inl (cI, 48, .inl qd)), (s6, .inr (4, [.ref w1, .ref w2])), (w2, .inl (cI, 64, .inl g_31)), (s2, .inr (1, [.ref bx, .int ik, .int wy, .int op]))] H := hP
                      have hD : va_D A [(bx, .inr (0, [.int bx0, .int by0, .int bx1, .int by1])), (t0, .inr (5, [.ref d0, .int w, .int h])), (d0, .inl (cI, 4096, .inl gz)), (h0, .inr (8, [.ref s1, .ref s2, .ref s3, .ref s4, .ref s5, .ref s6, .int ds, va_rf sp, va_rf bt])), (s1, .inl (cO, 4, .inr (.inr (.inr (.inr f))))), (w1, .inl (cI, 256, .inl g_30)), (s4, .inr (3, [.ref p1, .ref p2, .ref p3, .ref p4, .int pn, .int fx, .int fy])), (p1, .inl (cI, 48, .inl qa)), (p2, .inl (cI, 48, .inl qb)), (p3, .inl (cI, 48, .inl qc)), (p4, .inl (cI, 48, .inl qd)), (s6, .inr (4, [.ref w1, .ref w2])), (w2, .inl (cI, 64, .inl g_31)), (s2, .inr (1, [.ref bx, .int ik, .int wy, .int op]))] := hD
                      refine lv_goto (tgt := 117) hx hb dX8_fill_107 (by decide) ?_
                      refine lv_istore (lv' := [(9, .int r_44), (8, .int r_38), (7, .int x7), (6, .int x6), (5, .int z5), (4, .ref t0), (0, .ref h0), (1, .int k), (2, .int ru), (3, .int sm)]) hx hb dX8_fill_117 hl (by decide) rfl (fun ls hl => ?_)
                      refine lv_iload hx hb dX8_fill_119 (lv_at hl 4 rfl) ?_
                      refine lv_aload_n hx hb dX8_fill_121 rfl (lv_at hl 6 rfl) ?_
                      refine va_get (D := D) (ci := 8) (v := .ref s2) (C := RX8) (T := TX8) (N := 9) hx hb hts hi_X8 hown hK hP 3 rfl rfl 1 (by decide) (hts _ bw_231) (fun _ h9 => h9) rfl dX8_fill_122 ?_
                      refine lv_aload hx hb dX8_fill_125 (lv_at hl 5 rfl) ?_
                      refine lv_iload hx hb dX8_fill_127 (lv_at hl 2 rfl) ?_
                      refine lv_iload hx hb dX8_fill_129 (lv_at hl 3 rfl) ?_
                      refine lv_aload_n hx hb dX8_fill_131 rfl (lv_at hl 6 rfl) ?_
                      refine va_get (D := D) (ci := 8) (v := .ref s2) (C := RX8) (T := TX8) (N := 9) hx hb hts hi_X8 hown hK hP 3 rfl rfl 1 (by decide) (hts _ bw_231) (fun _ h9 => h9) rfl dX8_fill_132 ?_
                      refine va_getN (host := RX8) (D := D) (ci := 1) (v := .int ik) (C := RX1) (T := TX1) (N := 4) hx hb hts hi_X1 hown hK hP 13 rfl rfl 1 (by decide) ((hN.1 (RX8, 76, "DotBench$Brush", "ink", "I", RX8) (by decide +kernel)).use rfl) (fun _ h9 => h9) rfl dX8_fill_135 ?_
                      refine lv_iload hx hb dX8_fill_138 (lv_at hl 0 rfl) ?_
                      have hPc := hP.sub (ws' := [(s2, .inr (1, [.ref bx, .int ik, .int wy, .int op])), (bx, .inr (0, [.int bx0, .int by0, .int bx1, .int by1])), (t0, .inr (5, [.ref d0, .int w, .int h])), (d0, .inl (cI, 4096, .inl gz))]) [13, 0, 1, 2] rfl
                      have hDc := hD.sub (ws' := [(s2, .inr (1, [.ref bx, .int ik, .int wy, .int op])), (bx, .inr (0, [.int bx0, .int by0, .int bx1, .int by1])), (t0, .inr (5, [.ref d0, .int w, .int h])), (d0, .inl (cI, 4096, .inl gz))]) [13, 0, 1, 2] (by decide) rfl
                      have hKc := hK.sub (tys' := [(cI, .int)]) [1] rfl
                      have hFc := va_free (wc := [(s2, .inr (1, [.ref bx, .int ik, .int wy, .int op])), (bx, .inr (0, [.int bx0, .int by0, .int bx1, .int by1])), (t0, .inr (5, [.ref d0, .int w, .int h])), (d0, .inl (cI, 4096, .inl gz))]) hD hS hA [13, 0, 1, 2] rfl
                      refine va_calli (va_runV (As := [.ref t0, .int x7, .int x6, .int ik, .int r_44]) (rest := [.int z5]) ⟨hx, hb, hml, hown, hts⟩ (k_X1_lay l D H.size s2 bx ik wy op t0 d0 bx0 by0 bx1 by1 w h gz x7 x6 ik r_44 cI (by first | assumption | omega | decide) (by first | assumption | omega | decide) (by first | assumption | omega | decide)) (cwV 5 hts (gV bw_276 bw_33 bw_34 bw_19 bw_32) rfl rfl rfl (by decide +kernel) ⟨(by rw [hR]; exact Nat.le_of_ble_eq_true rfl), (by rw [hR]; exact Nat.le_of_ble_eq_true rfl)⟩) ⟨cP_blind, va_recv hKc hPc (ci := 1) (q0 := 0) rfl rfl, cP_at hPc hKc hDc hN⟩ rfl rfl hl.1 rfl (lv_room (Nat.le_of_ble_eq_true rfl)) dX8_fill_140 ⟨(by rw [hR]; exact Nat.le_of_ble_eq_true rfl), (by rw [hR]; exact Nat.le_of_ble_eq_true rfl)⟩) hS (fun q _ h => hFc q h) hFc (fun r_45 u9 t9 H1 locs ht hvm hr_45 hB hz1 hk1 hS => ?_)
                      try dsimp only at hr_45
                      obtain ⟨hP1, hK1, hD1⟩ := hB
                      rw [ht] at hP1
                      obtain ⟨hP, hD⟩ := va_join (wr := [(h0, .inr (8, [.ref s1, .ref s2, .ref s3, .ref s4, .ref s5, .ref s6, .int ds, va_rf sp, va_rf bt])), (s1, .inl (cO, 4, .inr (.inr (.inr (.inr f))))), (w1, .inl (cI, 256, .inl g_30)), (s4, .inr (3, [.ref p1, .ref p2, .ref p3, .ref p4, .int pn, .int fx, .int fy])), (p1, .inl (cI, 48, .inl qa)), (p2, .inl (cI, 48, .inl qb)), (p3, .inl (cI, 48, .inl qc)), (p4, .inl (cI, 48, .inl qd)), (s6, .inr (4, [.ref w1, .ref w2])), (w2, .inl (cI, 64, .inl g_31))]) (w1 := [(s2, .inr (1, [.ref bx, .int ik, .int wy, .int op])), (bx, .inr (0, [.int bx0, .int by0, .int bx1, .int by1])), (t0, .inr (5, [.ref d0, .int w, .int h])), (d0, .inl (cI, 4096, .inl (if 0 ≤ x7.toInt ∧ x7.toInt < w.toInt ∧ 0 ≤ x6.toInt ∧ x6.toInt < h.toInt ∧ bx0.toInt ≤ x7.toInt ∧ x7.toInt ≤ bx1.toInt ∧ by0.toInt ≤ x6.toInt ∧ x6.toInt ≤ by1.toInt then upd gz (ixP x7 x6) (laidP wy ik (gz (ixP x7 x6)) r_44) else gz)))]) hP hD [13, 0, 1, 2] [3, 4, 5, 6, 7, 8, 9, 10, 11, 12] rfl rfl (by decide) (by decide) hk1 hFc hP1 hD1
                      clear hz1 hk1 hFc hKc hDc hPc
                      generalize H1 = H at hP hS ⊢
                      have hP : va_P D vwCl [(h0, .inr (8, [.ref s1, .ref s2, .ref s3, .ref s4, .ref s5, .ref s6, .int ds, va_rf sp, va_rf bt])), (s1, .inl (cO, 4, .inr (.inr (.inr (.inr f))))), (w1, .inl (cI, 256, .inl g_30)), (s4, .inr (3, [.ref p1, .ref p2, .ref p3, .ref p4, .int pn, .int fx, .int fy])), (p1, .inl (cI, 48, .inl qa)), (p2, .inl (cI, 48, .inl qb)), (p3, .inl (cI, 48, .inl qc)), (p4, .inl (cI, 48, .inl qd)), (s6, .inr (4, [.ref w1, .ref w2])), (w2, .inl (cI, 64, .inl g_31)), (s2, .inr (1, [.ref bx, .int ik, .int wy, .int op])), (bx, .inr (0, [.int bx0, .int by0, .int bx1, .int by1])), (t0, .inr (5, [.ref d0, .int w, .int h])), (d0, .inl (cI, 4096, .inl (if 0 ≤ x7.toInt ∧ x7.toInt < w.toInt ∧ 0 ≤ x6.toInt ∧ x6.toInt < h.toInt ∧ bx0.toInt ≤ x7.toInt ∧ x7.toInt ≤ bx1.toInt ∧ by0.toInt ≤ x6.toInt ∧ x6.toInt ≤ by1.toInt then upd gz (ixP x7 x6) (laidP wy ik (gz (ixP x7 x6)) r_44) else gz)))] H := hP
                      have hD : va_D A [(h0, .inr (8, [.ref s1, .ref s2, .ref s3, .ref s4, .ref s5, .ref s6, .int ds, va_rf sp, va_rf bt])), (s1, .inl (cO, 4, .inr (.inr (.inr (.inr f))))), (w1, .inl (cI, 256, .inl g_30)), (s4, .inr (3, [.ref p1, .ref p2, .ref p3, .ref p4, .int pn, .int fx, .int fy])), (p1, .inl (cI, 48, .inl qa)), (p2, .inl (cI, 48, .inl qb)), (p3, .inl (cI, 48, .inl qc)), (p4, .inl (cI, 48, .inl qd)), (s6, .inr (4, [.ref w1, .ref w2])), (w2, .inl (cI, 64, .inl g_31)), (s2, .inr (1, [.ref bx, .int ik, .int wy, .int op])), (bx, .inr (0, [.int bx0, .int by0, .int bx1, .int by1])), (t0, .inr (5, [.ref d0, .int w, .int h])), (d0, .inl (cI, 4096, .inl (if 0 ≤ x7.toInt ∧ x7.toInt < w.toInt ∧ 0 ≤ x6.toInt ∧ x6.toInt < h.toInt ∧ bx0.toInt ≤ x7.toInt ∧ x7.toInt ≤ bx1.toInt ∧ by0.toInt ≤ x6.toInt ∧ x6.toInt ≤ by1.toInt then upd gz (ixP x7 x6) (laidP wy ik (gz (ixP x7 x6)) r_44) else gz)))] := hD
                      refine lv_iadd hx hb dX8_fill_143 ?_
                      refine lv_topi (fun y_46 ey_46 => ?_)
                      refine lv_istore (lv' := [(5, .int y_46), (9, .int r_44), (8, .int r_38), (7, .int x7), (6, .int x6), (4, .ref t0), (0, .ref h0), (1, .int k), (2, .int ru), (3, .int sm)]) hx hb dX8_fill_144 hl (by decide) rfl (fun ls hl => ?_)
                      obtain ⟨y_47, ey_47⟩ : ∃ y : Int32, y = x7 + 1 := ⟨_, rfl⟩
                      refine lv_iinc (v := y_47) (lv' := [(7, .int y_47), (5, .int y_46), (9, .int r_44), (8, .int r_38), (6, .int x6), (4, .ref t0), (0, .ref h0), (1, .int k), (2, .int ru), (3, .int sm)]) hx hb dX8_fill_146 hl (k := 3) rfl (by rw [ey_47]; rfl) (by decide) rfl (fun ls hl => ?_)
                      refine lv_goto (tgt := 68) hx hb dX8_fill_149 (by decide) ?_
                      exact ih_34 (i + 1) y_47 y_46 (if 0 ≤ x7.toInt ∧ x7.toInt < w.toInt ∧ 0 ≤ x6.toInt ∧ x6.toInt < h.toInt ∧ bx0.toInt ≤ x7.toInt ∧ x7.toInt ≤ bx1.toInt ∧ by0.toInt ≤ x6.toInt ∧ x6.toInt ≤ by1.toInt then upd gz (ixP x7 x6) (laidP wy ik (gz (ixP x7 x6)) r_44) else gz) _ _ _ (by omega) (by omega) (by rw [ey_47, ex_i]; exact nI_1 i) (by omega) (by rw [show gR (flQ (cfC qa qb qc qd pn.toNatClampNeg ru sm) sm ik op) j (i + 1) = gR (flQ (cfC qa qb qc qd pn.toNatClampNeg ru sm) sm ik op) j i ++ [(x7, x6, ik, r_44)] from congrArg (gR (flQ (cfC qa qb qc qd pn.toNatClampNeg ru sm) sm ik op) j i ++ ·) (show flQ (cfC qa qb qc qd pn.toNatClampNeg ru sm) sm ik op j i = [(x7, x6, ik, r_44)] by unfold flQ; rw [← hcvr_38, if_neg c_39, if_neg c_42, ← hr_44, ← ex_i, ← ex_j]), ← List.append_assoc, List.foldl_append, ← hgi]; rfl) (by rw [show gR (flQ (cfC qa qb qc qd pn.toNatClampNeg ru sm) sm ik op) j (i + 1) = gR (flQ (cfC qa qb qc qd pn.toNatClampNeg ru sm) sm ik op) j i ++ [(x7, x6, ik, r_44)] from congrArg (gR (flQ (cfC qa qb qc qd pn.toNatClampNeg ru sm) sm ik op) j i ++ ·) (show flQ (cfC qa qb qc qd pn.toNatClampNeg ru sm) sm ik op j i = [(x7, x6, ik, r_44)] by unfold flQ; rw [← hcvr_38, if_neg c_39, if_neg c_42, ← hr_44, ← ex_i, ← ex_j]), ← List.append_assoc, List.foldl_append, ← eti, ey_46, hr_45]; rfl) (hP.sub (ws' := [(s2, .inr (1, [.ref bx, .int ik, .int wy, .int op])), (bx, .inr (0, [.int bx0, .int by0, .int bx1, .int by1])), (t0, .inr (5, [.ref d0, .int w, .int h])), (d0, .inl (cI, 4096, .inl (if 0 ≤ x7.toInt ∧ x7.toInt < w.toInt ∧ 0 ≤ x6.toInt ∧ x6.toInt < h.toInt ∧ bx0.toInt ≤ x7.toInt ∧ x7.toInt ≤ bx1.toInt ∧ by0.toInt ≤ x6.toInt ∧ x6.toInt ≤ by1.toInt then upd gz (ixP x7 x6) (laidP wy ik (gz (ixP x7 x6)) r_44) else gz))), (h0, .inr (8, [.ref s1, .ref s2, .ref s3, .ref s4, .ref s5, .ref s6, .int ds, va_rf sp, va_rf bt])), (s1, .inl (cO, 4, .inr (.inr (.inr (.inr f))))), (s6, .inr (4, [.ref w1, .ref w2])), (w1, .inl (cI, 256, .inl g_30)), (w2, .inl (cI, 64, .inl g_31)), (s4, .inr (3, [.ref p1, .ref p2, .ref p3, .ref p4, .int pn, .int fx, .int fy])), (p1, .inl (cI, 48, .inl qa)), (p2, .inl (cI, 48, .inl qb)), (p3, .inl (cI, 48, .inl qc)), (p4, .inl (cI, 48, .inl qd))]) [10, 11, 12, 13, 0, 1, 8, 2, 9, 3, 4, 5, 6, 7] rfl) (hD.sub (ws' := [(s2, .inr (1, [.ref bx, .int ik, .int wy, .int op])), (bx, .inr (0, [.int bx0, .int by0, .int bx1, .int by1])), (t0, .inr (5, [.ref d0, .int w, .int h])), (d0, .inl (cI, 4096, .inl (if 0 ≤ x7.toInt ∧ x7.toInt < w.toInt ∧ 0 ≤ x6.toInt ∧ x6.toInt < h.toInt ∧ bx0.toInt ≤ x7.toInt ∧ x7.toInt ≤ bx1.toInt ∧ by0.toInt ≤ x6.toInt ∧ x6.toInt ≤ by1.toInt then upd gz (ixP x7 x6) (laidP wy ik (gz (ixP x7 x6)) r_44) else gz))), (h0, .inr (8, [.ref s1, .ref s2, .ref s3, .ref s4, .ref s5, .ref s6, .int ds, va_rf sp, va_rf bt])), (s1, .inl (cO, 4, .inr (.inr (.inr (.inr f))))), (s6, .inr (4, [.ref w1, .ref w2])), (w1, .inl (cI, 256, .inl g_30)), (w2, .inl (cI, 64, .inl g_31)), (s4, .inr (3, [.ref p1, .ref p2, .ref p3, .ref p4, .int pn, .int fx, .int fy])), (p1, .inl (cI, 48, .inl qa)), (p2, .inl (cI, 48, .inl qb)), (p3, .inl (cI, 48, .inl qc)), (p4, .inl (cI, 48, .inl qd))]) [10, 11, 12, 13, 0, 1, 8, 2, 9, 3, 4, 5, 6, 7] (by decide) rfl) hS (lv_sub hl [0, 4, 1, 5, 6, 7, 8, 9] rfl)
            exact loop_33 (64 + 1) 0 0 x5 ga _ _ _ (by omega) (by omega) nI_0.symm (by omega) (by rw [show gR (flQ (cfC qa qb qc qd pn.toNatClampNeg ru sm) sm ik op) j 0 = [] from rfl, List.append_nil]; exact hgo) (by rw [show gR (flQ (cfC qa qb qc qd pn.toNatClampNeg ru sm) sm ik op) j 0 = [] from rfl, List.append_nil]; exact eto) hP hD hS (lv_sub hl [0, 1, 2, 3, 4, 5, 6, 7] rfl)
    exact loop_5 (64 + 1) 0 0 0 g gw gc _ _ _ (by omega) (by omega) nI_0.symm (by omega) rfl rfl hP hD hS (lv_sub hl [0, 1, 2, 3, 4, 5, 6] rfl)
  · skip
    have f_4 := bz0 hr_2 c_3
    refine lv_iconst (v := (-1)) hx hb dX8_fill_19 (by decide) ?_
    have hn9 : ¬ (ru.toInt = 0 ∨ ru.toInt = 1) := by omega
    have hP : va_P D vwCl [(s2, .inr (1, [.ref bx, .int ik, .int wy, .int op])), (bx, .inr (0, [.int bx0, .int by0, .int bx1, .int by1])), (t0, .inr (5, [.ref d0, .int w, .int h])), (d0, .inl (cI, 4096, .inl (if (ru.toInt = 0 ∨ ru.toInt = 1) then (gL (flQ (cfC qa qb qc qd pn.toNatClampNeg ru sm) sm ik op) w.toNatClampNeg h.toNatClampNeg).foldl (layG w h bx0 by0 bx1 by1 wy) g else g))), (s4, .inr (3, [.ref p1, .ref p2, .ref p3, .ref p4, .int pn, .int fx, .int fy])), (p1, .inl (cI, 48, .inl qa)), (p2, .inl (cI, 48, .inl qb)), (p3, .inl (cI, 48, .inl qc)), (p4, .inl (cI, 48, .inl qd)), (s6, .inr (4, [.ref w1, .ref w2])), (w1, .inl (cI, 256, .inl gw)), (w2, .inl (cI, 64, .inl gc)), (h0, .inr (8, [.ref s1, .ref s2, .ref s3, .ref s4, .ref s5, .ref s6, .int ds, va_rf sp, va_rf bt])), (s1, .inl (cO, 4, .inr (.inr (.inr (.inr f)))))] H := by rw [if_neg hn9]; exact hP
    have hD : va_D A [(s2, .inr (1, [.ref bx, .int ik, .int wy, .int op])), (bx, .inr (0, [.int bx0, .int by0, .int bx1, .int by1])), (t0, .inr (5, [.ref d0, .int w, .int h])), (d0, .inl (cI, 4096, .inl (if (ru.toInt = 0 ∨ ru.toInt = 1) then (gL (flQ (cfC qa qb qc qd pn.toNatClampNeg ru sm) sm ik op) w.toNatClampNeg h.toNatClampNeg).foldl (layG w h bx0 by0 bx1 by1 wy) g else g))), (s4, .inr (3, [.ref p1, .ref p2, .ref p3, .ref p4, .int pn, .int fx, .int fy])), (p1, .inl (cI, 48, .inl qa)), (p2, .inl (cI, 48, .inl qb)), (p3, .inl (cI, 48, .inl qc)), (p4, .inl (cI, 48, .inl qd)), (s6, .inr (4, [.ref w1, .ref w2])), (w1, .inl (cI, 256, .inl gw)), (w2, .inl (cI, 64, .inl gc)), (h0, .inr (8, [.ref s1, .ref s2, .ref s3, .ref s4, .ref s5, .ref s6, .int ds, va_rf sp, va_rf bt])), (s1, .inl (cO, 4, .inr (.inr (.inr (.inr f)))))] := by rw [if_neg hn9]; exact hD
    have hP9 := hP.sub (ws' := [(h0, .inr (8, [.ref s1, .ref s2, .ref s3, .ref s4, .ref s5, .ref s6, .int ds, va_rf sp, va_rf bt])), (s1, .inl (cO, 4, .inr (.inr (.inr (.inr f))))), (s2, .inr (1, [.ref bx, .int ik, .int wy, .int op])), (bx, .inr (0, [.int bx0, .int by0, .int bx1, .int by1])), (t0, .inr (5, [.ref d0, .int w, .int h])), (d0, .inl (cI, 4096, .inl (if (ru.toInt = 0 ∨ ru.toInt = 1) then (gL (flQ (cfC qa qb qc qd pn.toNatClampNeg ru sm) sm ik op) w.toNatClampNeg h.toNatClampNeg).foldl (layG w h bx0 by0 bx1 by1 wy) g else g))), (s4, .inr (3, [.ref p1, .ref p2, .ref p3, .ref p4, .int pn, .int fx, .int fy])), (p1, .inl (cI, 48, .inl qa)), (p2, .inl (cI, 48, .inl qb)), (p3, .inl (cI, 48, .inl qc)), (p4, .inl (cI, 48, .inl qd)), (s6, .inr (4, [.ref w1, .ref w2])), (w1, .inl (cI, 256, .inl gw)), (w2, .inl (cI, 64, .inl gc))]) [12, 13, 0, 1, 2, 3, 4, 5, 6, 7, 8, 9, 10, 11] rfl
    have hD9 := hD.sub (ws' := [(h0, .inr (8, [.ref s1, .ref s2, .ref s3, .ref s4, .ref s5, .ref s6, .int ds, va_rf sp, va_rf bt])), (s1, .inl (cO, 4, .inr (.inr (.inr (.inr f))))), (s2, .inr (1, [.ref bx, .int ik, .int wy, .int op])), (bx, .inr (0, [.int bx0, .int by0, .int bx1, .int by1])), (t0, .inr (5, [.ref d0, .int w, .int h])), (d0, .inl (cI, 4096, .inl (if (ru.toInt = 0 ∨ ru.toInt = 1) then (gL (flQ (cfC qa qb qc qd pn.toNatClampNeg ru sm) sm ik op) w.toNatClampNeg h.toNatClampNeg).foldl (layG w h bx0 by0 bx1 by1 wy) g else g))), (s4, .inr (3, [.ref p1, .ref p2, .ref p3, .ref p4, .int pn, .int fx, .int fy])), (p1, .inl (cI, 48, .inl qa)), (p2, .inl (cI, 48, .inl qb)), (p3, .inl (cI, 48, .inl qc)), (p4, .inl (cI, 48, .inl qd)), (s6, .inr (4, [.ref w1, .ref w2])), (w1, .inl (cI, 256, .inl gw)), (w2, .inl (cI, 64, .inl gc))]) [12, 13, 0, 1, 2, 3, 4, 5, 6, 7, 8, 9, 10, 11] (by decide) rfl
    have hK9 := hK.sub (tys' := [(cO, .object "DotBench$Sheet"), (cI, .int)]) [0, 1] rfl
    refine hQ _ _ _ _ _ ?_
    exact W.iret (v := (-1)) hx hb hr (fun t ht hW => ⟨⟨(-1), (), rfl, (if_neg (by omega)).symm, ⟨gw, gc, by rw [ht]; exact hP9, va_K.moved hW.alike hK9, hD9⟩⟩, hS.F ht⟩) hS.2.2 dX8_fill_20

set_option maxHeartbeats 4000000 in
set_option maxRecDepth 100000 in
theorem k_X8_shade_ye (l : Launch) (D : va_G) (sz : Nat) (h0 s1 s2 s3 s4 s5 s6 : Nat) (ds : Int32) (sp bt : Option Nat) (f : Nat → Option Nat) (bx t0 d0 : Nat) (ik wy op : Int32) (bx0 by0 bx1 by1 : Int32) (w h : Int32) (g : Nat → Int32) (t1 t2 t3 ol : Nat) (ua : Nat → Int32) (ub : Nat → Int32) (uc : Nat → Int32) (p1 p2 p3 p4 : Nat) (pn fx fy : Int32) (qa : Nat → Int32) (qb : Nat → Int32) (qc : Nat → Int32) (qd : Nat → Int32) (w1 w2 : Nat) (gw : Nat → Int32) (gc : Nat → Int32) (k : Int32) (cO : ClassId) (cI : ClassId) (hk : 0 ≤ k.toInt ∧ k.toInt ≤ 3) (hf : f k.toNatClampNeg = some t0) (hwy : 0 ≤ wy.toInt ∧ wy.toInt ≤ 12) (hw : 0 ≤ w.toInt ∧ w.toInt ≤ 64) (hh : 0 ≤ h.toInt ∧ h.toInt ≤ 64) (htb : ∀ j : Nat, j < 3 → (-200 ≤ (ua j).toInt ∧ (ua j).toInt ≤ 200) ∧ (-200 ≤ (ub j).toInt ∧ (ub j).toInt ≤ 200)) : Met l yX8_shade (wB yX8_shade cX8_shade 6 (some .int)) ({ frames := 4, cells := 0, slots := 0, locals := 103 }) (cP D [(h0, .inr (8, [.ref s1, .ref s2, .ref s3, .ref s4, .ref s5, .ref s6, .int ds, va_rf sp, va_rf bt])), (s1, .inl (cO, 4, .inr (.inr (.inr (.inr f))))), (s2, .inr (1, [.ref bx, .int ik, .int wy, .int op])), (bx, .inr (0, [.int bx0, .int by0, .int bx1, .int by1])), (t0, .inr (5, [.ref d0, .int w, .int h])), (d0, .inl (cI, 4096, .inl g)), (s5, .inr (7, [.ref t1, .ref t2, .ref t3, .ref ol])), (t1, .inl (cI, 3, .inl ua)), (t2, .inl (cI, 3, .inl ub)), (t3, .inl (cI, 3, .inl uc)), (ol, .inr (3, [.ref p1, .ref p2, .ref p3, .ref p4, .int pn, .int fx, .int fy])), (p1, .inl (cI, 48, .inl qa)), (p2, .inl (cI, 48, .inl qb)), (p3, .inl (cI, 48, .inl qc)), (p4, .inl (cI, 48, .inl qd)), (s6, .inr (4, [.ref w1, .ref w2])), (w1, .inl (cI, 256, .inl gw)), (w2, .inl (cI, 64, .inl gc))] [(cO, .object "DotBench$Sheet"), (cI, .int)] sz [.ref h0, .int k]) (va_Qi (fun (r : Int32) (_ : Unit) => r = (gL (shQ ua ub uc op) w.toNatClampNeg h.toNatClampNeg).foldl (layT w h bx0 by0 bx1 by1) 0) (fun (_ : Unit) (t : State) => ∃ (g3 g4 g5 g6 g7 g8 : Nat → Int32), ∃ (pn2 fx2 fy2 : Int32), cB D (va_A [(h0, .inr (8, [.ref s1, .ref s2, .ref s3, .ref s4, .ref s5, .ref s6, .int ds, va_rf sp, va_rf bt])), (s1, .inl (cO, 4, .inr (.inr (.inr (.inr f))))), (s2, .inr (1, [.ref bx, .int ik, .int wy, .int op])), (bx, .inr (0, [.int bx0, .int by0, .int bx1, .int by1])), (t0, .inr (5, [.ref d0, .int w, .int h])), (d0, .inl (cI, 4096, .inl g)), (s5, .inr (7, [.ref t1, .ref t2, .ref t3, .ref ol])), (t1, .inl (cI, 3, .inl ua)), (t2, .inl (cI, 3, .inl ub)), (t3, .inl (cI, 3, .inl uc)), (ol, .inr (3, [.ref p1, .ref p2, .ref p3, .ref p4, .int pn, .int fx, .int fy])), (p1, .inl (cI, 48, .inl qa)), (p2, .inl (cI, 48, .inl qb)), (p3, .inl (cI, 48, .inl qc)), (p4, .inl (cI, 48, .inl qd)), (s6, .inr (4, [.ref w1, .ref w2])), (w1, .inl (cI, 256, .inl gw)), (w2, .inl (cI, 64, .inl gc))] sz) [(h0, .inr (8, [.ref s1, .ref s2, .ref s3, .ref s4, .ref s5, .ref s6, .int ds, va_rf sp, va_rf bt])), (s1, .inl (cO, 4, .inr (.inr (.inr (.inr f))))), (s2, .inr (1, [.ref bx, .int ik, .int wy, .int op])), (bx, .inr (0, [.int bx0, .int by0, .int bx1, .int by1])), (t0, .inr (5, [.ref d0, .int w, .int h])), (d0, .inl (cI, 4096, .inl ((gL (shQ ua ub uc op) w.toNatClampNeg h.toNatClampNeg).foldl (layG w h bx0 by0 bx1 by1 wy) g))), (s5, .inr (7, [.ref t1, .ref t2, .ref t3, .ref ol])), (t1, .inl (cI, 3, .inl ua)), (t2, .inl (cI, 3, .inl ub)), (t3, .inl (cI, 3, .inl uc)), (ol, .inr (3, [.ref p1, .ref p2, .ref p3, .ref p4, .int pn2, .int fx2, .int fy2])), (p1, .inl (cI, 48, .inl g5)), (p2, .inl (cI, 48, .inl g6)), (p3, .inl (cI, 48, .inl g7)), (p4, .inl (cI, 48, .inl g8)), (s6, .inr (4, [.ref w1, .ref w2])), (w1, .inl (cI, 256, .inl g3)), (w2, .inl (cI, 64, .inl g4))] [(cO, .object "DotBench$Sheet"), (cI, .int)] t) (va_A [(h0, .inr (8, [.ref s1, .ref s2, .ref s3, .ref s4, .ref s5, .ref s6, .int ds, va_rf sp, va_rf bt])), (s1, .inl (cO, 4, .inr (.inr (.inr (.inr f))))), (s2, .inr (1, [.ref bx, .int ik, .int wy, .int op])), (bx, .inr (0, [.int bx0, .int by0, .int bx1, .int by1])), (t0, .inr (5, [.ref d0, .int w, .int h])), (d0, .inl (cI, 4096, .inl g)), (s5, .inr (7, [.ref t1, .ref t2, .ref t3, .ref ol])), (t1, .inl (cI, 3, .inl ua)), (t2, .inl (cI, 3, .inl ub)), (t3, .inl (cI, 3, .inl uc)), (ol, .inr (3, [.ref p1, .ref p2, .ref p3, .ref p4, .int pn, .int fx, .int fy])), (p1, .inl (cI, 48, .inl qa)), (p2, .inl (cI, 48, .inl qb)), (p3, .inl (cI, 48, .inl qc)), (p4, .inl (cI, 48, .inl qd)), (s6, .inr (4, [.ref w1, .ref w2])), (w1, .inl (cI, 256, .inl gw)), (w2, .inl (cI, 64, .inl gc))] sz)) 0 0 (va_A [(h0, .inr (8, [.ref s1, .ref s2, .ref s3, .ref s4, .ref s5, .ref s6, .int ds, va_rf sp, va_rf bt])), (s1, .inl (cO, 4, .inr (.inr (.inr (.inr f))))), (s2, .inr (1, [.ref bx, .int ik, .int wy, .int op])), (bx, .inr (0, [.int bx0, .int by0, .int bx1, .int by1])), (t0, .inr (5, [.ref d0, .int w, .int h])), (d0, .inl (cI, 4096, .inl g)), (s5, .inr (7, [.ref t1, .ref t2, .ref t3, .ref ol])), (t1, .inl (cI, 3, .inl ua)), (t2, .inl (cI, 3, .inl ub)), (t3, .inl (cI, 3, .inl uc)), (ol, .inr (3, [.ref p1, .ref p2, .ref p3, .ref p4, .int pn, .int fx, .int fy])), (p1, .inl (cI, 48, .inl qa)), (p2, .inl (cI, 48, .inl qb)), (p3, .inl (cI, 48, .inl qc)), (p4, .inl (cI, 48, .inl qd)), (s6, .inr (4, [.ref w1, .ref w2])), (w1, .inl (cI, 256, .inl gw)), (w2, .inl (cI, 64, .inl gc))] sz) := by
  refine Met.ofW (cc := cX8_shade) (maxL := 6) (ret := (some .int)) (by decide) rfl ?_
  intro p e s m args below meth c s₁ B hml hv
  obtain ⟨rfl, hsz, hP, hK, hD0, hN⟩ := hv
  have hx := B.exec
  have hb := B.bytes
  have hr := B.returns
  have hts0 := atoms_spec (ws := (wB yX8_shade cX8_shade 6 (some .int))) B.pre
  have hts : ∀ w ∈ bigW, w.before _ s = true := fun w h => hts0 w (List.mem_cons_of_mem _ h)
  have hown : s.vm.findClass RX8 = some m.cls := findClass_of_methodNamed B.named
  have hlocks := B.notSynchronized
  subst hsz
  have hD := hD0.self (sz := s.heap.size)
  generalize hAe : va_A [(h0, .inr (8, [.ref s1, .ref s2, .ref s3, .ref s4, .ref s5, .ref s6, .int ds, va_rf sp, va_rf bt])), (s1, .inl (cO, 4, .inr (.inr (.inr (.inr f))))), (s2, .inr (1, [.ref bx, .int ik, .int wy, .int op])), (bx, .inr (0, [.int bx0, .int by0, .int bx1, .int by1])), (t0, .inr (5, [.ref d0, .int w, .int h])), (d0, .inl (cI, 4096, .inl g)), (s5, .inr (7, [.ref t1, .ref t2, .ref t3, .ref ol])), (t1, .inl (cI, 3, .inl ua)), (t2, .inl (cI, 3, .inl ub)), (t3, .inl (cI, 3, .inl uc)), (ol, .inr (3, [.ref p1, .ref p2, .ref p3, .ref p4, .int pn, .int fx, .int fy])), (p1, .inl (cI, 48, .inl qa)), (p2, .inl (cI, 48, .inl qb)), (p3, .inl (cI, 48, .inl qc)), (p4, .inl (cI, 48, .inl qd)), (s6, .inr (4, [.ref w1, .ref w2])), (w1, .inl (cI, 256, .inl gw)), (w2, .inl (cI, 64, .inl gc))] s.heap.size = A at hD ⊢
  have hA : ∀ q : Nat, s.heap.size ≤ q → A q := fun q h => by rw [← hAe]; exact Or.inr h
  have hS : va_S A s.heap s.heap [] := va_S.rf
  have hP : va_P D vwCl [(h0, .inr (8, [.ref s1, .ref s2, .ref s3, .ref s4, .ref s5, .ref s6, .int ds, va_rf sp, va_rf bt])), (s1, .inl (cO, 4, .inr (.inr (.inr (.inr f))))), (s2, .inr (1, [.ref bx, .int ik, .int wy, .int op])), (bx, .inr (0, [.int bx0, .int by0, .int bx1, .int by1])), (t0, .inr (5, [.ref d0, .int w, .int h])), (d0, .inl (cI, 4096, .inl g)), (s5, .inr (7, [.ref t1, .ref t2, .ref t3, .ref ol])), (t1, .inl (cI, 3, .inl ua)), (t2, .inl (cI, 3, .inl ub)), (t3, .inl (cI, 3, .inl uc)), (ol, .inr (3, [.ref p1, .ref p2, .ref p3, .ref p4, .int pn, .int fx, .int fy])), (p1, .inl (cI, 48, .inl qa)), (p2, .inl (cI, 48, .inl qb)), (p3, .inl (cI, 48, .inl qc)), (p4, .inl (cI, 48, .inl qd)), (s6, .inr (4, [.ref w1, .ref w2])), (w1, .inl (cI, 256, .inl gw)), (w2, .inl (cI, 64, .inl gc))] s.heap := hP
  have hl := lv_entry ([.ref h0, .int k]) (n := 6) (Nat.le_of_ble_eq_true rfl)
  rw [lg_entry_eq]
  generalize (lg_sl ([.ref h0, .int k]) ++ List.replicate (6 - (lg_sl ([.ref h0, .int k])).length) Slot.unset).toArray = ls at hl ⊢
  have hl : lv_has ls 6 [(0, .ref h0), (1, .int k)] := hl
  clear hts0 hD0 hAe
  refine my_abs (fun R Q hR hQ => ?_)
  obtain ⟨W9, hW9, eW9⟩ := i_of (x := w) (N := 65) (by omega) (by omega) (by decide)
  have eW9n : w.toNatClampNeg = W9 := by rw [eW9]; exact nI_clamp (by omega)
  have hW9t : w.toInt = (W9 : Int) := by rw [eW9]; exact nI_toInt (by omega)
  obtain ⟨H9, hH9, eH9⟩ := i_of (x := h) (N := 65) (by omega) (by omega) (by decide)
  have eH9n : h.toNatClampNeg = H9 := by rw [eH9]; exact nI_clamp (by omega)
  have hH9t : h.toInt = (H9 : Int) := by rw [eH9]; exact nI_toInt (by omega)
  refine lv_aload_n hx hb dX8_shade_0 rfl (lv_at hl 0 rfl) ?_
  refine lv_iload_n hx hb dX8_shade_1 rfl (lv_at hl 1 rfl) ?_
  have hPc := hP.sub (ws' := [(h0, .inr (8, [.ref s1, .ref s2, .ref s3, .ref s4, .ref s5, .ref s6, .int ds, va_rf sp, va_rf bt])), (s1, .inl (cO, 4, .inr (.inr (.inr (.inr f)))))]) [0, 1] rfl
  have hDc := hD.sub (ws' := [(h0, .inr (8, [.ref s1, .ref s2, .ref s3, .ref s4, .ref s5, .ref s6, .int ds, va_rf sp, va_rf bt])), (s1, .inl (cO, 4, .inr (.inr (.inr (.inr f)))))]) [0, 1] (by decide) rfl
  have hKc := hK.sub (tys' := [(cO, .object "DotBench$Sheet")]) [0] rfl
  have hFc := va_free (wc := [(h0, .inr (8, [.ref s1, .ref s2, .ref s3, .ref s4, .ref s5, .ref s6, .int ds, va_rf sp, va_rf bt])), (s1, .inl (cO, 4, .inr (.inr (.inr (.inr f)))))]) hD hS hA [0, 1] rfl
  refine va_callq (va_runV (As := [.int k]) (rest := []) ⟨hx, hb, hml, hown, hts⟩ (k_X8_sheetAt_y l D s.heap.size h0 s1 s2 s3 s4 s5 s6 ds sp bt f k t0 cO (by first | assumption | omega | decide) (by first | assumption | omega | decide)) (cwV 1 hts (gV bw_267 bw_346 bw_347 bw_223 bw_345) rfl rfl rfl (by decide +kernel) ⟨(by rw [hR]; exact Nat.le_of_ble_eq_true rfl), (by rw [hR]; exact Nat.le_of_ble_eq_true rfl)⟩) ⟨cP_blind, va_recv hKc hPc (ci := 8) (q0 := 0) rfl rfl, cP_at hPc hKc hDc hN⟩ rfl rfl hl.1 rfl (lv_room (Nat.le_of_ble_eq_true rfl)) dX8_shade_2 ⟨(by rw [hR]; exact Nat.le_of_ble_eq_true rfl), (by rw [hR]; exact Nat.le_of_ble_eq_true rfl)⟩) hS (fun q _ h => hFc q h) hFc (fun r_1 u9 t9 H1 locs ht hvm hr_1 hB hz1 hk1 hS => ?_)
  try dsimp only at hr_1
  obtain ⟨hP1, hK1, hD1⟩ := hB
  rw [ht] at hP1
  obtain ⟨hP, hD⟩ := va_join (wr := [(s2, .inr (1, [.ref bx, .int ik, .int wy, .int op])), (bx, .inr (0, [.int bx0, .int by0, .int bx1, .int by1])), (t0, .inr (5, [.ref d0, .int w, .int h])), (d0, .inl (cI, 4096, .inl g)), (s5, .inr (7, [.ref t1, .ref t2, .ref t3, .ref ol])), (t1, .inl (cI, 3, .inl ua)), (t2, .inl (cI, 3, .inl ub)), (t3, .inl (cI, 3, .inl uc)), (ol, .inr (3, [.ref p1, .ref p2, .ref p3, .ref p4, .int pn, .int fx, .int fy])), (p1, .inl (cI, 48, .inl qa)), (p2, .inl (cI, 48, .inl qb)), (p3, .inl (cI, 48, .inl qc)), (p4, .inl (cI, 48, .inl qd)), (s6, .inr (4, [.ref w1, .ref w2])), (w1, .inl (cI, 256, .inl gw)), (w2, .inl (cI, 64, .inl gc))]) (w1 := [(h0, .inr (8, [.ref s1, .ref s2, .ref s3, .ref s4, .ref s5, .ref s6, .int ds, va_rf sp, va_rf bt])), (s1, .inl (cO, 4, .inr (.inr (.inr (.inr f)))))]) hP hD [0, 1] [2, 3, 4, 5, 6, 7, 8, 9, 10, 11, 12, 13, 14, 15, 16, 17] rfl rfl (by decide) (by decide) hk1 hFc hP1 hD1
  clear hz1 hk1 hFc hKc hDc hPc
  generalize H1 = H at hP hS ⊢
  have hP : va_P D vwCl [(s2, .inr (1, [.ref bx, .int ik, .int wy, .int op])), (bx, .inr (0, [.int bx0, .int by0, .int bx1, .int by1])), (t0, .inr (5, [.ref d0, .int w, .int h])), (d0, .inl (cI, 4096, .inl g)), (s5, .inr (7, [.ref t1, .ref t2, .ref t3, .ref ol])), (t1, .inl (cI, 3, .inl ua)), (t2, .inl (cI, 3, .inl ub)), (t3, .inl (cI, 3, .inl uc)), (ol, .inr (3, [.ref p1, .ref p2, .ref p3, .ref p4, .int pn, .int fx, .int fy])), (p1, .inl (cI, 48, .inl qa)), (p2, .inl (cI, 48, .inl qb)), (p3, .inl (cI, 48, .inl qc)), (p4, .inl (cI, 48, .inl qd)), (s6, .inr (4, [.ref w1, .ref w2])), (w1, .inl (cI, 256, .inl gw)), (w2, .inl (cI, 64, .inl gc)), (h0, .inr (8, [.ref s1, .ref s2, .ref s3, .ref s4, .ref s5, .ref s6, .int ds, va_rf sp, va_rf bt])), (s1, .inl (cO, 4, .inr (.inr (.inr (.inr f)))))] H := hP
  have hD : va_D A [(s2, .inr (1, [.ref bx, .int ik, .int wy, .int op])), (bx, .inr (0, [.int bx0, .int by0, .int bx1, .int by1])), (t0, .inr (5, [.ref d0, .int w, .int h])), (d0, .inl (cI, 4096, .inl g)), (s5, .inr (7, [.ref t1, .ref t2, .ref t3, .ref ol])), (t1, .inl (cI, 3, .inl ua)), (t2, .inl (cI, 3, .inl ub)), (t3, .inl (cI, 3, .inl uc)), (ol, .inr (3, [.ref p1, .ref p2, .ref p3, .ref p4, .int pn, .int fx, .int fy])), (p1, .inl (cI, 48, .inl qa)), (p2, .inl (cI, 48, .inl qb)), (p3, .inl (cI, 48, .inl qc)), (p4, .inl (cI, 48, .inl qd)), (s6, .inr (4, [.ref w1, .ref w2])), (w1, .inl (cI, 256, .inl gw)), (w2, .inl (cI, 64, .inl gc)), (h0, .inr (8, [.ref s1, .ref s2, .ref s3, .ref s4, .ref s5, .ref s6, .int ds, va_rf sp, va_rf bt])), (s1, .inl (cO, 4, .inr (.inr (.inr (.inr f)))))] := hD
  subst hr_1
  refine my_topv (v := .ref t0) rfl ?_
  refine lv_astore_n (lv' := [(2, .ref t0), (0, .ref h0), (1, .int k)]) hx hb dX8_shade_5 rfl hl (by decide) rfl (fun ls hl => ?_)
  refine lv_aload_n hx hb dX8_shade_6 rfl (lv_at hl 0 rfl) ?_
  refine lv_ifnonnull (tgt := 12) hx hb dX8_shade_7 (by decide) ?_
  refine lv_aload_n hx hb dX8_shade_12 rfl (lv_at hl 1 rfl) ?_
  refine va_get (D := D) (ci := 8) (v := .ref s5) (C := RX8) (T := TX8) (N := 9) hx hb hts hi_X8 hown hK hP 16 rfl rfl 4 (by decide) (hts _ bw_237) (fun _ h9 => h9) rfl dX8_shade_13 ?_
  have hPc := hP.sub (ws' := [(s5, .inr (7, [.ref t1, .ref t2, .ref t3, .ref ol])), (t1, .inl (cI, 3, .inl ua)), (t2, .inl (cI, 3, .inl ub)), (ol, .inr (3, [.ref p1, .ref p2, .ref p3, .ref p4, .int pn, .int fx, .int fy])), (p1, .inl (cI, 48, .inl qa)), (p2, .inl (cI, 48, .inl qb)), (p3, .inl (cI, 48, .inl qc)), (p4, .inl (cI, 48, .inl qd))]) [4, 5, 6, 8, 9, 10, 11, 12] rfl
  have hDc := hD.sub (ws' := [(s5, .inr (7, [.ref t1, .ref t2, .ref t3, .ref ol])), (t1, .inl (cI, 3, .inl ua)), (t2, .inl (cI, 3, .inl ub)), (ol, .inr (3, [.ref p1, .ref p2, .ref p3, .ref p4, .int pn, .int fx, .int fy])), (p1, .inl (cI, 48, .inl qa)), (p2, .inl (cI, 48, .inl qb)), (p3, .inl (cI, 48, .inl qc)), (p4, .inl (cI, 48, .inl qd))]) [4, 5, 6, 8, 9, 10, 11, 12] (by decide) rfl
  have hKc := hK.sub (tys' := [(cI, .int)]) [1] rfl
  have hFc := va_free (wc := [(s5, .inr (7, [.ref t1, .ref t2, .ref t3, .ref ol])), (t1, .inl (cI, 3, .inl ua)), (t2, .inl (cI, 3, .inl ub)), (ol, .inr (3, [.ref p1, .ref p2, .ref p3, .ref p4, .int pn, .int fx, .int fy])), (p1, .inl (cI, 48, .inl qa)), (p2, .inl (cI, 48, .inl qb)), (p3, .inl (cI, 48, .inl qc)), (p4, .inl (cI, 48, .inl qd))]) hD hS hA [4, 5, 6, 8, 9, 10, 11, 12] rfl
  refine va_callv (va_runV (As := []) (rest := []) ⟨hx, hb, hml, hown, hts⟩ (k_X7_draw_e l D H.size s5 t1 t2 t3 ol p1 p2 p3 p4 pn fx fy qa qb qc qd ua ub cI) (cwV 0 hts (gV bw_304 bw_209 bw_210 bw_195 bw_208) rfl rfl rfl (by decide +kernel) ⟨(by rw [hR]; exact Nat.le_of_ble_eq_true rfl), (by rw [hR]; exact Nat.le_of_ble_eq_true rfl)⟩) ⟨cP_blind, va_recv hKc hPc (ci := 7) (q0 := 0) rfl rfl, cP_at hPc hKc hDc hN⟩ rfl rfl hl.1 rfl (lv_room (Nat.le_of_ble_eq_true rfl)) dX8_shade_16 ⟨(by rw [hR]; exact Nat.le_of_ble_eq_true rfl), (by rw [hR]; exact Nat.le_of_ble_eq_true rfl)⟩) hS (fun q _ h => hFc q h) hFc (fun u9 t9 H1 locs ht hvm hr_2 hB hz1 hk1 hS => ?_)
  try dsimp only at hr_2
  obtain ⟨v_3, v_4, v_5, g_6, g_7, g_8, g_9, b_10, b_11, hP1, hK1, hD1⟩ := hB
  rw [ht] at hP1
  obtain ⟨hP, hD⟩ := va_join (wr := [(s2, .inr (1, [.ref bx, .int ik, .int wy, .int op])), (bx, .inr (0, [.int bx0, .int by0, .int bx1, .int by1])), (t0, .inr (5, [.ref d0, .int w, .int h])), (d0, .inl (cI, 4096, .inl g)), (t3, .inl (cI, 3, .inl uc)), (s6, .inr (4, [.ref w1, .ref w2])), (w1, .inl (cI, 256, .inl gw)), (w2, .inl (cI, 64, .inl gc)), (h0, .inr (8, [.ref s1, .ref s2, .ref s3, .ref s4, .ref s5, .ref s6, .int ds, va_rf sp, va_rf bt])), (s1, .inl (cO, 4, .inr (.inr (.inr (.inr f)))))]) (w1 := [(s5, .inr (7, [.ref t1, .ref t2, .ref t3, .ref ol])), (t1, .inl (cI, 3, .inl ua)), (t2, .inl (cI, 3, .inl ub)), (ol, .inr (3, [.ref p1, .ref p2, .ref p3, .ref p4, .int v_3, .int v_4, .int v_5])), (p1, .inl (cI, 48, .inl g_6)), (p2, .inl (cI, 48, .inl g_7)), (p3, .inl (cI, 48, .inl g_8)), (p4, .inl (cI, 48, .inl g_9))]) hP hD [4, 5, 6, 8, 9, 10, 11, 12] [0, 1, 2, 3, 7, 13, 14, 15, 16, 17] rfl rfl (by decide) (by decide) hk1 hFc hP1 hD1
  clear hz1 hk1 hFc hKc hDc hPc
  generalize H1 = H at hP hS ⊢
  have hP : va_P D vwCl [(s2, .inr (1, [.ref bx, .int ik, .int wy, .int op])), (bx, .inr (0, [.int bx0, .int by0, .int bx1, .int by1])), (t0, .inr (5, [.ref d0, .int w, .int h])), (d0, .inl (cI, 4096, .inl g)), (t3, .inl (cI, 3, .inl uc)), (s6, .inr (4, [.ref w1, .ref w2])), (w1, .inl (cI, 256, .inl gw)), (w2, .inl (cI, 64, .inl gc)), (h0, .inr (8, [.ref s1, .ref s2, .ref s3, .ref s4, .ref s5, .ref s6, .int ds, va_rf sp, va_rf bt])), (s1, .inl (cO, 4, .inr (.inr (.inr (.inr f))))), (s5, .inr (7, [.ref t1, .ref t2, .ref t3, .ref ol])), (t1, .inl (cI, 3, .inl ua)), (t2, .inl (cI, 3, .inl ub)), (ol, .inr (3, [.ref p1, .ref p2, .ref p3, .ref p4, .int v_3, .int v_4, .int v_5])), (p1, .inl (cI, 48, .inl g_6)), (p2, .inl (cI, 48, .inl g_7)), (p3, .inl (cI, 48, .inl g_8)), (p4, .inl (cI, 48, .inl g_9))] H := hP
  have hD : va_D A [(s2, .inr (1, [.ref bx, .int ik, .int wy, .int op])), (bx, .inr (0, [.int bx0, .int by0, .int bx1, .int by1])), (t0, .inr (5, [.ref d0, .int w, .int h])), (d0, .inl (cI, 4096, .inl g)), (t3, .inl (cI, 3, .inl uc)), (s6, .inr (4, [.ref w1, .ref w2])), (w1, .inl (cI, 256, .inl gw)), (w2, .inl (cI, 64, .inl gc)), (h0, .inr (8, [.ref s1, .ref s2, .ref s3, .ref s4, .ref s5, .ref s6, .int ds, va_rf sp, va_rf bt])), (s1, .inl (cO, 4, .inr (.inr (.inr (.inr f))))), (s5, .inr (7, [.ref t1, .ref t2, .ref t3, .ref ol])), (t1, .inl (cI, 3, .inl ua)), (t2, .inl (cI, 3, .inl ub)), (ol, .inr (3, [.ref p1, .ref p2, .ref p3, .ref p4, .int v_3, .int v_4, .int v_5])), (p1, .inl (cI, 48, .inl g_6)), (p2, .inl (cI, 48, .inl g_7)), (p3, .inl (cI, 48, .inl g_8)), (p4, .inl (cI, 48, .inl g_9))] := hD
  have hpn3 : 0 ≤ v_3.toInt ∧ v_3.toInt ≤ 48 := by rw [b_10]; decide
  have hT8 := tri_c8 b_10 b_11 htb
  refine lv_iconst (v := 0) hx hb dX8_shade_19 (by decide) ?_
  refine lv_istore_n (lv' := [(3, .int 0), (2, .ref t0), (0, .ref h0), (1, .int k)]) hx hb dX8_shade_20 rfl hl (by decide) rfl (fun ls hl => ?_)
  refine lv_iconst (v := 0) hx hb dX8_shade_21 (by decide) ?_
  refine lv_istore (lv' := [(4, .int 0), (3, .int 0), (2, .ref t0), (0, .ref h0), (1, .int k)]) hx hb dX8_shade_22 hl (by decide) rfl (fun ls hl => ?_)
  have loop_12 : ∀ (n : Nat) (j : Nat) (x4 : Int32) (x3 : Int32) (ga : Nat → Int32) (gb : Nat → Int32) (gd : Nat → Int32) (H : Heap) (locs : List Loc) (ls : Array Slot), (j ≤ 64) → (64 + 1 ≤ j + n) → (x4 = nI j) → (j ≤ H9) → (ga = (gL (shQ ua ub uc op) W9 j).foldl (layG w h bx0 by0 bx1 by1 wy) g) → (x3 = (gL (shQ ua ub uc op) W9 j).foldl (layT w h bx0 by0 bx1 by1) 0) → va_P D vwCl [(s2, .inr (1, [.ref bx, .int ik, .int wy, .int op])), (bx, .inr (0, [.int bx0, .int by0, .int bx1, .int by1])), (t0, .inr (5, [.ref d0, .int w, .int h])), (d0, .inl (cI, 4096, .inl ga)), (t3, .inl (cI, 3, .inl uc)), (s6, .inr (4, [.ref w1, .ref w2])), (w1, .inl (cI, 256, .inl gb)), (w2, .inl (cI, 64, .inl gd)), (h0, .inr (8, [.ref s1, .ref s2, .ref s3, .ref s4, .ref s5, .ref s6, .int ds, va_rf sp, va_rf bt])), (s1, .inl (cO, 4, .inr (.inr (.inr (.inr f))))), (s5, .inr (7, [.ref t1, .ref t2, .ref t3, .ref ol])), (t1, .inl (cI, 3, .inl ua)), (t2, .inl (cI, 3, .inl ub)), (ol, .inr (3, [.ref p1, .ref p2, .ref p3, .ref p4, .int v_3, .int v_4, .int v_5])), (p1, .inl (cI, 48, .inl g_6)), (p2, .inl (cI, 48, .inl g_7)), (p3, .inl (cI, 48, .inl g_8)), (p4, .inl (cI, 48, .inl g_9))] H → va_D A [(s2, .inr (1, [.ref bx, .int ik, .int wy, .int op])), (bx, .inr (0, [.int bx0, .int by0, .int bx1, .int by1])), (t0, .inr (5, [.ref d0, .int w, .int h])), (d0, .inl (cI, 4096, .inl ga)), (t3, .inl (cI, 3, .inl uc)), (s6, .inr (4, [.ref w1, .ref w2])), (w1, .inl (cI, 256, .inl gb)), (w2, .inl (cI, 64, .inl gd)), (h0, .inr (8, [.ref s1, .ref s2, .ref s3, .ref s4, .ref s5, .ref s6, .int ds, va_rf sp, va_rf bt])), (s1, .inl (cO, 4, .inr (.inr (.inr (.inr f))))), (s5, .inr (7, [.ref t1, .ref t2, .ref t3, .ref ol])), (t1, .inl (cI, 3, .inl ua)), (t2, .inl (cI, 3, .inl ub)), (ol, .inr (3, [.ref p1, .ref p2, .ref p3, .ref p4, .int v_3, .int v_4, .int v_5])), (p1, .inl (cI, 48, .inl g_6)), (p2, .inl (cI, 48, .inl g_7)), (p3, .inl (cI, 48, .inl g_8)), (p4, .inl (cI, 48, .inl g_9))] → va_S A s.heap H locs → lv_has ls 6 [(4, .int x4), (3, .int x3), (2, .ref t0), (0, .ref h0), (1, .int k)] → W p l e R s m ([.ref h0, .int k] : List Value).toArray below meth c H locs 0 0 Q (F0 m 24 ls []) := by
    intro n
    induction n with
    | zero =>
      intro j x4 x3 ga gb gd H locs ls hi_j hm_j ex_j hjo hgo eto hP hD hS hl
      exact absurd (show False by omega) not_false
    | succ n ih_13 =>
      intro j x4 x3 ga gb gd H locs ls hi_j hm_j ex_j hjo hgo eto hP hD hS hl
      have hx_j : x4.toInt = (j : Int) := by rw [ex_j]; exact nI_toInt (by omega)
      have hc_j : x4.toNatClampNeg = j := by rw [ex_j]; exact nI_clamp (by omega)
      refine lv_iload hx hb dX8_shade_24 (lv_at hl 0 rfl) ?_
      refine lv_aload_n hx hb dX8_shade_26 rfl (lv_at hl 2 rfl) ?_
      refine va_getN (host := RX8) (D := D) (ci := 5) (v := .int h) (C := RX5) (T := TX5) (N := 3) hx hb hts hi_X5 hown hK hP 2 rfl rfl 2 (by decide) ((hN.1 (RX8, 145, "DotBench$Sheet", "height", "I", RX8) (by decide +kernel)).use rfl) (fun _ h9 => h9) rfl dX8_shade_27 ?_
      refine lv_icmp_ge (tgt := 124) hx hb dX8_shade_30 (by decide) (fun c_14 => ?_) (fun c_14 => ?_)
      · skip
        have f_15 : h.toInt ≤ (j : Int) := f_le rfl hx_j c_14
        refine lv_iload_n hx hb dX8_shade_124 rfl (lv_at hl 1 rfl) ?_
        have hP : va_P D vwCl [(s2, .inr (1, [.ref bx, .int ik, .int wy, .int op])), (bx, .inr (0, [.int bx0, .int by0, .int bx1, .int by1])), (t0, .inr (5, [.ref d0, .int w, .int h])), (d0, .inl (cI, 4096, .inl ((gL (shQ ua ub uc op) w.toNatClampNeg h.toNatClampNeg).foldl (layG w h bx0 by0 bx1 by1 wy) g))), (t3, .inl (cI, 3, .inl uc)), (s6, .inr (4, [.ref w1, .ref w2])), (w1, .inl (cI, 256, .inl gb)), (w2, .inl (cI, 64, .inl gd)), (h0, .inr (8, [.ref s1, .ref s2, .ref s3, .ref s4, .ref s5, .ref s6, .int ds, va_rf sp, va_rf bt])), (s1, .inl (cO, 4, .inr (.inr (.inr (.inr f))))), (s5, .inr (7, [.ref t1, .ref t2, .ref t3, .ref ol])), (t1, .inl (cI, 3, .inl ua)), (t2, .inl (cI, 3, .inl ub)), (ol, .inr (3, [.ref p1, .ref p2, .ref p3, .ref p4, .int v_3, .int v_4, .int v_5])), (p1, .inl (cI, 48, .inl g_6)), (p2, .inl (cI, 48, .inl g_7)), (p3, .inl (cI, 48, .inl g_8)), (p4, .inl (cI, 48, .inl g_9))] H := by rw [eW9n, eH9n, ← show j = H9 by omega, ← hgo]; exact hP
        have hD : va_D A [(s2, .inr (1, [.ref bx, .int ik, .int wy, .int op])), (bx, .inr (0, [.int bx0, .int by0, .int bx1, .int by1])), (t0, .inr (5, [.ref d0, .int w, .int h])), (d0, .inl (cI, 4096, .inl ((gL (shQ ua ub uc op) w.toNatClampNeg h.toNatClampNeg).foldl (layG w h bx0 by0 bx1 by1 wy) g))), (t3, .inl (cI, 3, .inl uc)), (s6, .inr (4, [.ref w1, .ref w2])), (w1, .inl (cI, 256, .inl gb)), (w2, .inl (cI, 64, .inl gd)), (h0, .inr (8, [.ref s1, .ref s2, .ref s3, .ref s4, .ref s5, .ref s6, .int ds, va_rf sp, va_rf bt])), (s1, .inl (cO, 4, .inr (.inr (.inr (.inr f))))), (s5, .inr (7, [.ref t1, .ref t2, .ref t3, .ref ol])), (t1, .inl (cI, 3, .inl ua)), (t2, .inl (cI, 3, .inl ub)), (ol, .inr (3, [.ref p1, .ref p2, .ref p3, .ref p4, .int v_3, .int v_4, .int v_5])), (p1, .inl (cI, 48, .inl g_6)), (p2, .inl (cI, 48, .inl g_7)), (p3, .inl (cI, 48, .inl g_8)), (p4, .inl (cI, 48, .inl g_9))] := by rw [eW9n, eH9n, ← show j = H9 by omega, ← hgo]; exact hD
        have hP9 := hP.sub (ws' := [(h0, .inr (8, [.ref s1, .ref s2, .ref s3, .ref s4, .ref s5, .ref s6, .int ds, va_rf sp, va_rf bt])), (s1, .inl (cO, 4, .inr (.inr (.inr (.inr f))))), (s2, .inr (1, [.ref bx, .int ik, .int wy, .int op])), (bx, .inr (0, [.int bx0, .int by0, .int bx1, .int by1])), (t0, .inr (5, [.ref d0, .int w, .int h])), (d0, .inl (cI, 4096, .inl ((gL (shQ ua ub uc op) w.toNatClampNeg h.toNatClampNeg).foldl (layG w h bx0 by0 bx1 by1 wy) g))), (s5, .inr (7, [.ref t1, .ref t2, .ref t3, .ref ol])), (t1, .inl (cI, 3, .inl ua)), (t2, .inl (cI, 3, .inl ub)), (t3, .inl (cI, 3, .inl uc)), (ol, .inr (3, [.ref p1, .ref p2, .ref p3, .ref p4, .int v_3, .int v_4, .int v_5])), (p1, .inl (cI, 48, .inl g_6)), (p2, .inl (cI, 48, .inl g_7)), (p3, .inl (cI, 48, .inl g_8)), (p4, .inl (cI, 48, .inl g_9)), (s6, .inr (4, [.ref w1, .ref w2])), (w1, .inl (cI, 256, .inl gb)), (w2, .inl (cI, 64, .inl gd))]) [8, 9, 0, 1, 2, 3, 10, 11, 12, 4, 13, 14, 15, 16, 17, 5, 6, 7] rfl
        have hD9 := hD.sub (ws' := [(h0, .inr (8, [.ref s1, .ref s2, .ref s3, .ref s4, .ref s5, .ref s6, .int ds, va_rf sp, va_rf bt])), (s1, .inl (cO, 4, .inr (.inr (.inr (.inr f))))), (s2, .inr (1, [.ref bx, .int ik, .int wy, .int op])), (bx, .inr (0, [.int bx0, .int by0, .int bx1, .int by1])), (t0, .inr (5, [.ref d0, .int w, .int h])), (d0, .inl (cI, 4096, .inl ((gL (shQ ua ub uc op) w.toNatClampNeg h.toNatClampNeg).foldl (layG w h bx0 by0 bx1 by1 wy) g))), (s5, .inr (7, [.ref t1, .ref t2, .ref t3, .ref ol])), (t1, .inl (cI, 3, .inl ua)), (t2, .inl (cI, 3, .inl ub)), (t3, .inl (cI, 3, .inl uc)), (ol, .inr (3, [.ref p1, .ref p2, .ref p3, .ref p4, .int v_3, .int v_4, .int v_5])), (p1, .inl (cI, 48, .inl g_6)), (p2, .inl (cI, 48, .inl g_7)), (p3, .inl (cI, 48, .inl g_8)), (p4, .inl (cI, 48, .inl g_9)), (s6, .inr (4, [.ref w1, .ref w2])), (w1, .inl (cI, 256, .inl gb)), (w2, .inl (cI, 64, .inl gd))]) [8, 9, 0, 1, 2, 3, 10, 11, 12, 4, 13, 14, 15, 16, 17, 5, 6, 7] (by decide) rfl
        have hK9 := hK.sub (tys' := [(cO, .object "DotBench$Sheet"), (cI, .int)]) [0, 1] rfl
        refine hQ _ _ _ _ _ ?_
        exact W.iret (v := x3) hx hb hr (fun t ht hW => ⟨⟨x3, (), rfl, (by rw [eW9n, eH9n, ← show j = H9 by omega]; exact eto), ⟨gb, gd, g_6, g_7, g_8, g_9, v_3, v_4, v_5, by rw [ht]; exact hP9, va_K.moved hW.alike hK9, hD9⟩⟩, hS.F ht⟩) hS.2.2 dX8_shade_125
      · skip
        have f_15 : ¬ (h.toInt ≤ (j : Int)) := fn_le rfl hx_j c_14
        refine lv_aload_n hx hb dX8_shade_33 rfl (lv_at hl 3 rfl) ?_
        refine va_get (D := D) (ci := 8) (v := .ref s6) (C := RX8) (T := TX8) (N := 9) hx hb hts hi_X8 hown hK hP 8 rfl rfl 5 (by decide) (hts _ bw_239) (fun _ h9 => h9) rfl dX8_shade_34 ?_
        refine lv_aload_n hx hb dX8_shade_37 rfl (lv_at hl 3 rfl) ?_
        refine va_get (D := D) (ci := 8) (v := .ref s5) (C := RX8) (T := TX8) (N := 9) hx hb hts hi_X8 hown hK hP 8 rfl rfl 4 (by decide) (hts _ bw_237) (fun _ h9 => h9) rfl dX8_shade_38 ?_
        refine va_getN (host := RX8) (D := D) (ci := 7) (v := .ref ol) (C := RX7) (T := TX7) (N := 4) hx hb hts hi_X7 hown hK hP 10 rfl rfl 3 (by decide) ((hN.1 (RX8, 167, "DotBench$Triangle", "outline", "LDotBench$Path;", RX8) (by decide +kernel)).use rfl) (fun _ h9 => h9) rfl dX8_shade_41 ?_
        refine lv_iload hx hb dX8_shade_44 (lv_at hl 0 rfl) ?_
        refine lv_aload_n hx hb dX8_shade_46 rfl (lv_at hl 2 rfl) ?_
        refine va_getN (host := RX8) (D := D) (ci := 5) (v := .int w) (C := RX5) (T := TX5) (N := 3) hx hb hts hi_X5 hown hK hP 2 rfl rfl 1 (by decide) ((hN.1 (RX8, 148, "DotBench$Sheet", "width", "I", RX8) (by decide +kernel)).use rfl) (fun _ h9 => h9) rfl dX8_shade_47 ?_
        refine lv_iconst (v := 5) hx hb dX8_shade_50 (by decide) ?_
        refine lv_iconst (v := 1) hx hb dX8_shade_51 (by decide) ?_
        have hPc := hP.sub (ws' := [(s6, .inr (4, [.ref w1, .ref w2])), (w1, .inl (cI, 256, .inl gb)), (w2, .inl (cI, 64, .inl gd)), (ol, .inr (3, [.ref p1, .ref p2, .ref p3, .ref p4, .int v_3, .int v_4, .int v_5])), (p1, .inl (cI, 48, .inl g_6)), (p2, .inl (cI, 48, .inl g_7)), (p3, .inl (cI, 48, .inl g_8)), (p4, .inl (cI, 48, .inl g_9))]) [5, 6, 7, 13, 14, 15, 16, 17] rfl
        have hDc := hD.sub (ws' := [(s6, .inr (4, [.ref w1, .ref w2])), (w1, .inl (cI, 256, .inl gb)), (w2, .inl (cI, 64, .inl gd)), (ol, .inr (3, [.ref p1, .ref p2, .ref p3, .ref p4, .int v_3, .int v_4, .int v_5])), (p1, .inl (cI, 48, .inl g_6)), (p2, .inl (cI, 48, .inl g_7)), (p3, .inl (cI, 48, .inl g_8)), (p4, .inl (cI, 48, .inl g_9))]) [5, 6, 7, 13, 14, 15, 16, 17] (by decide) rfl
        have hKc := hK.sub (tys' := [(cI, .int)]) [1] rfl
        have hFc := va_free (wc := [(s6, .inr (4, [.ref w1, .ref w2])), (w1, .inl (cI, 256, .inl gb)), (w2, .inl (cI, 64, .inl gd)), (ol, .inr (3, [.ref p1, .ref p2, .ref p3, .ref p4, .int v_3, .int v_4, .int v_5])), (p1, .inl (cI, 48, .inl g_6)), (p2, .inl (cI, 48, .inl g_7)), (p3, .inl (cI, 48, .inl g_8)), (p4, .inl (cI, 48, .inl g_9))]) hD hS hA [5, 6, 7, 13, 14, 15, 16, 17] rfl
        refine va_callv (va_runV (As := [.ref ol, .int x4, .int w, .int 5, .int 1]) (rest := []) ⟨hx, hb, hml, hown, hts⟩ (k_X4_read_5e l D H.size s6 ol w1 w2 p1 p2 p3 p4 v_3 v_4 v_5 g_6 g_7 g_8 g_9 gb gd x4 w 1 W9 cI hpn3 hT8 eW9 (by omega) hW9t) (cwV 5 hts (gV bw_294 bw_119 bw_120 bw_111 bw_118) rfl rfl rfl (by decide +kernel) ⟨(by rw [hR]; exact Nat.le_of_ble_eq_true rfl), (by rw [hR]; exact Nat.le_of_ble_eq_true rfl)⟩) ⟨cP_blind, va_recv hKc hPc (ci := 4) (q0 := 0) rfl rfl, cP_at hPc hKc hDc hN⟩ rfl rfl hl.1 rfl (lv_room (Nat.le_of_ble_eq_true rfl)) dX8_shade_52 ⟨(by rw [hR]; exact Nat.le_of_ble_eq_true rfl), (by rw [hR]; exact Nat.le_of_ble_eq_true rfl)⟩) hS (fun q _ h => hFc q h) hFc (fun u9 t9 H1 locs ht hvm hr_16 hB hz1 hk1 hS => ?_)
        try dsimp only at hr_16
        obtain ⟨g_17, g_18, b_19, hP1, hK1, hD1⟩ := hB
        rw [ht] at hP1
        obtain ⟨hP, hD⟩ := va_join (wr := [(s2, .inr (1, [.ref bx, .int ik, .int wy, .int op])), (bx, .inr (0, [.int bx0, .int by0, .int bx1, .int by1])), (t0, .inr (5, [.ref d0, .int w, .int h])), (d0, .inl (cI, 4096, .inl ga)), (t3, .inl (cI, 3, .inl uc)), (h0, .inr (8, [.ref s1, .ref s2, .ref s3, .ref s4, .ref s5, .ref s6, .int ds, va_rf sp, va_rf bt])), (s1, .inl (cO, 4, .inr (.inr (.inr (.inr f))))), (s5, .inr (7, [.ref t1, .ref t2, .ref t3, .ref ol])), (t1, .inl (cI, 3, .inl ua)), (t2, .inl (cI, 3, .inl ub))]) (w1 := [(s6, .inr (4, [.ref w1, .ref w2])), (w1, .inl (cI, 256, .inl g_17)), (w2, .inl (cI, 64, .inl g_18)), (ol, .inr (3, [.ref p1, .ref p2, .ref p3, .ref p4, .int v_3, .int v_4, .int v_5])), (p1, .inl (cI, 48, .inl g_6)), (p2, .inl (cI, 48, .inl g_7)), (p3, .inl (cI, 48, .inl g_8)), (p4, .inl (cI, 48, .inl g_9))]) hP hD [5, 6, 7, 13, 14, 15, 16, 17] [0, 1, 2, 3, 4, 8, 9, 10, 11, 12] rfl rfl (by decide) (by decide) hk1 hFc hP1 hD1
        clear hz1 hk1 hFc hKc hDc hPc
        generalize H1 = H at hP hS ⊢
        have hP : va_P D vwCl [(s2, .inr (1, [.ref bx, .int ik, .int wy, .int op])), (bx, .inr (0, [.int bx0, .int by0, .int bx1, .int by1])), (t0, .inr (5, [.ref d0, .int w, .int h])), (d0, .inl (cI, 4096, .inl ga)), (t3, .inl (cI, 3, .inl uc)), (h0, .inr (8, [.ref s1, .ref s2, .ref s3, .ref s4, .ref s5, .ref s6, .int ds, va_rf sp, va_rf bt])), (s1, .inl (cO, 4, .inr (.inr (.inr (.inr f))))), (s5, .inr (7, [.ref t1, .ref t2, .ref t3, .ref ol])), (t1, .inl (cI, 3, .inl ua)), (t2, .inl (cI, 3, .inl ub)), (s6, .inr (4, [.ref w1, .ref w2])), (w1, .inl (cI, 256, .inl g_17)), (w2, .inl (cI, 64, .inl g_18)), (ol, .inr (3, [.ref p1, .ref p2, .ref p3, .ref p4, .int v_3, .int v_4, .int v_5])), (p1, .inl (cI, 48, .inl g_6)), (p2, .inl (cI, 48, .inl g_7)), (p3, .inl (cI, 48, .inl g_8)), (p4, .inl (cI, 48, .inl g_9))] H := hP
        have hD : va_D A [(s2, .inr (1, [.ref bx, .int ik, .int wy, .int op])), (bx, .inr (0, [.int bx0, .int by0, .int bx1, .int by1])), (t0, .inr (5, [.ref d0, .int w, .int h])), (d0, .inl (cI, 4096, .inl ga)), (t3, .inl (cI, 3, .inl uc)), (h0, .inr (8, [.ref s1, .ref s2, .ref s3, .ref s4, .ref s5, .ref s6, .int ds, va_rf sp, va_rf bt])), (s1, .inl (cO, 4, .inr (.inr (.inr (.inr f))))), (s5, .inr (7, [.ref t1, .ref t2, .ref t3, .ref ol])), (t1, .inl (cI, 3, .inl ua)), (t2, .inl (cI, 3, .inl ub)), (s6, .inr (4, [.ref w1, .ref w2])), (w1, .inl (cI, 256, .inl g_17)), (w2, .inl (cI, 64, .inl g_18)), (ol, .inr (3, [.ref p1, .ref p2, .ref p3, .ref p4, .int v_3, .int v_4, .int v_5])), (p1, .inl (cI, 48, .inl g_6)), (p2, .inl (cI, 48, .inl g_7)), (p3, .inl (cI, 48, .inl g_8)), (p4, .inl (cI, 48, .inl g_9))] := hD
        refine lv_iconst (v := 0) hx hb dX8_shade_55 (by decide) ?_
        refine lv_istore (lv' := [(5, .int 0), (4, .int x4), (3, .int x3), (2, .ref t0), (0, .ref h0), (1, .int k)]) hx hb dX8_shade_56 hl (by decide) rfl (fun ls hl => ?_)
        have loop_20 : ∀ (n : Nat) (i : Nat) (x5 : Int32) (z3 : Int32) (gz : Nat → Int32) (H : Heap) (locs : List Loc) (ls : Array Slot), (i ≤ 64) → (64 + 1 ≤ i + n) → (x5 = nI i) → (i ≤ W9) → (gz = (gL (shQ ua ub uc op) W9 j ++ gR (shQ ua ub uc op) j i).foldl (layG w h bx0 by0 bx1 by1 wy) g) → (z3 = (gL (shQ ua ub uc op) W9 j ++ gR (shQ ua ub uc op) j i).foldl (layT w h bx0 by0 bx1 by1) 0) → va_P D vwCl [(s2, .inr (1, [.ref bx, .int ik, .int wy, .int op])), (bx, .inr (0, [.int bx0, .int by0, .int bx1, .int by1])), (t0, .inr (5, [.ref d0, .int w, .int h])), (d0, .inl (cI, 4096, .inl gz)), (t3, .inl (cI, 3, .inl uc)), (h0, .inr (8, [.ref s1, .ref s2, .ref s3, .ref s4, .ref s5, .ref s6, .int ds, va_rf sp, va_rf bt])), (s1, .inl (cO, 4, .inr (.inr (.inr (.inr f))))), (s5, .inr (7, [.ref t1, .ref t2, .ref t3, .ref ol])), (t1, .inl (cI, 3, .inl ua)), (t2, .inl (cI, 3, .inl ub)), (s6, .inr (4, [.ref w1, .ref w2])), (w1, .inl (cI, 256, .inl g_17)), (w2, .inl (cI, 64, .inl g_18)), (ol, .inr (3, [.ref p1, .ref p2, .ref p3, .ref p4, .int v_3, .int v_4, .int v_5])), (p1, .inl (cI, 48, .inl g_6)), (p2, .inl (cI, 48, .inl g_7)), (p3, .inl (cI, 48, .inl g_8)), (p4, .inl (cI, 48, .inl g_9))] H → va_D A [(s2, .inr (1, [.ref bx, .int ik, .int wy, .int op])), (bx, .inr (0, [.int bx0, .int by0, .int bx1, .int by1])), (t0, .inr (5, [.ref d0, .int w, .int h])), (d0, .inl (cI, 4096, .inl gz)), (t3, .inl (cI, 3, .inl uc)), (h0, .inr (8, [.ref s1, .ref s2, .ref s3, .ref s4, .ref s5, .ref s6, .int ds, va_rf sp, va_rf bt])), (s1, .inl (cO, 4, .inr (.inr (.inr (.inr f))))), (s5, .inr (7, [.ref t1, .ref t2, .ref t3, .ref ol])), (t1, .inl (cI, 3, .inl ua)), (t2, .inl (cI, 3, .inl ub)), (s6, .inr (4, [.ref w1, .ref w2])), (w1, .inl (cI, 256, .inl g_17)), (w2, .inl (cI, 64, .inl g_18)), (ol, .inr (3, [.ref p1, .ref p2, .ref p3, .ref p4, .int v_3, .int v_4, .int v_5])), (p1, .inl (cI, 48, .inl g_6)), (p2, .inl (cI, 48, .inl g_7)), (p3, .inl (cI, 48, .inl g_8)), (p4, .inl (cI, 48, .inl g_9))] → va_S A s.heap H locs → lv_has ls 6 [(5, .int x5), (4, .int x4), (3, .int z3), (2, .ref t0), (0, .ref h0), (1, .int k)] → W p l e R s m ([.ref h0, .int k] : List Value).toArray below meth c H locs 0 0 Q (F0 m 58 ls []) := by
          intro n
          induction n with
          | zero =>
            intro i x5 z3 gz H locs ls hi_i hm_i ex_i hio hgi eti hP hD hS hl
            exact absurd (show False by omega) not_false
          | succ n ih_21 =>
            intro i x5 z3 gz H locs ls hi_i hm_i ex_i hio hgi eti hP hD hS hl
            have hx_i : x5.toInt = (i : Int) := by rw [ex_i]; exact nI_toInt (by omega)
            have hc_i : x5.toNatClampNeg = i := by rw [ex_i]; exact nI_clamp (by omega)
            refine lv_iload hx hb dX8_shade_58 (lv_at hl 0 rfl) ?_
            refine lv_aload_n hx hb dX8_shade_60 rfl (lv_at hl 3 rfl) ?_
            refine va_getN (host := RX8) (D := D) (ci := 5) (v := .int w) (C := RX5) (T := TX5) (N := 3) hx hb hts hi_X5 hown hK hP 2 rfl rfl 1 (by decide) ((hN.1 (RX8, 148, "DotBench$Sheet", "width", "I", RX8) (by decide +kernel)).use rfl) (fun _ h9 => h9) rfl dX8_shade_61 ?_
            refine lv_icmp_ge (tgt := 118) hx hb dX8_shade_64 (by decide) (fun c_22 => ?_) (fun c_22 => ?_)
            · skip
              have f_23 : w.toInt ≤ (i : Int) := f_le rfl hx_i c_22
              obtain ⟨y_24, ey_24⟩ : ∃ y : Int32, y = x4 + 1 := ⟨_, rfl⟩
              refine lv_iinc (v := y_24) (lv' := [(4, .int y_24), (5, .int x5), (3, .int z3), (2, .ref t0), (0, .ref h0), (1, .int k)]) hx hb dX8_shade_118 hl (k := 1) rfl (by rw [ey_24]; rfl) (by decide) rfl (fun ls hl => ?_)
              refine lv_goto (tgt := 24) hx hb dX8_shade_121 (by decide) ?_
              exact ih_13 (j + 1) y_24 z3 gz g_17 g_18 _ _ _ (by omega) (by omega) (by rw [ey_24, ex_j]; exact nI_1 j) (by omega) (gl_nx hgi (by omega)) (gl_nx eti (by omega)) (hP.sub (ws' := [(s2, .inr (1, [.ref bx, .int ik, .int wy, .int op])), (bx, .inr (0, [.int bx0, .int by0, .int bx1, .int by1])), (t0, .inr (5, [.ref d0, .int w, .int h])), (d0, .inl (cI, 4096, .inl gz)), (t3, .inl (cI, 3, .inl uc)), (s6, .inr (4, [.ref w1, .ref w2])), (w1, .inl (cI, 256, .inl g_17)), (w2, .inl (cI, 64, .inl g_18)), (h0, .inr (8, [.ref s1, .ref s2, .ref s3, .ref s4, .ref s5, .ref s6, .int ds, va_rf sp, va_rf bt])), (s1, .inl (cO, 4, .inr (.inr (.inr (.inr f))))), (s5, .inr (7, [.ref t1, .ref t2, .ref t3, .ref ol])), (t1, .inl (cI, 3, .inl ua)), (t2, .inl (cI, 3, .inl ub)), (ol, .inr (3, [.ref p1, .ref p2, .ref p3, .ref p4, .int v_3, .int v_4, .int v_5])), (p1, .inl (cI, 48, .inl g_6)), (p2, .inl (cI, 48, .inl g_7)), (p3, .inl (cI, 48, .inl g_8)), (p4, .inl (cI, 48, .inl g_9))]) [0, 1, 2, 3, 4, 10, 11, 12, 5, 6, 7, 8, 9, 13, 14, 15, 16, 17] rfl) (hD.sub (ws' := [(s2, .inr (1, [.ref bx, .int ik, .int wy, .int op])), (bx, .inr (0, [.int bx0, .int by0, .int bx1, .int by1])), (t0, .inr (5, [.ref d0, .int w, .int h])), (d0, .inl (cI, 4096, .inl gz)), (t3, .inl (cI, 3, .inl uc)), (s6, .inr (4, [.ref w1, .ref w2])), (w1, .inl (cI, 256, .inl g_17)), (w2, .inl (cI, 64, .inl g_18)), (h0, .inr (8, [.ref s1, .ref s2, .ref s3, .ref s4, .ref s5, .ref s6, .int ds, va_rf sp, va_rf bt])), (s1, .inl (cO, 4, .inr (.inr (.inr (.inr f))))), (s5, .inr (7, [.ref t1, .ref t2, .ref t3, .ref ol])), (t1, .inl (cI, 3, .inl ua)), (t2, .inl (cI, 3, .inl ub)), (ol, .inr (3, [.ref p1, .ref p2, .ref p3, .ref p4, .int v_3, .int v_4, .int v_5])), (p1, .inl (cI, 48, .inl g_6)), (p2, .inl (cI, 48, .inl g_7)), (p3, .inl (cI, 48, .inl g_8)), (p4, .inl (cI, 48, .inl g_9))]) [0, 1, 2, 3, 4, 10, 11, 12, 5, 6, 7, 8, 9, 13, 14, 15, 16, 17] (by decide) rfl) hS (lv_sub hl [0, 2, 3, 4, 5] rfl)
            · skip
              have f_23 : ¬ (w.toInt ≤ (i : Int)) := fn_le rfl hx_i c_22
              refine lv_aload_n hx hb dX8_shade_67 rfl (lv_at hl 4 rfl) ?_
              refine va_get (D := D) (ci := 8) (v := .ref s6) (C := RX8) (T := TX8) (N := 9) hx hb hts hi_X8 hown hK hP 5 rfl rfl 5 (by decide) (hts _ bw_239) (fun _ h9 => h9) rfl dX8_shade_68 ?_
              refine lv_iload hx hb dX8_shade_71 (lv_at hl 0 rfl) ?_
              have hPc := hP.sub (ws' := [(s6, .inr (4, [.ref w1, .ref w2])), (w2, .inl (cI, 64, .inl g_18))]) [10, 12] rfl
              have hDc := hD.sub (ws' := [(s6, .inr (4, [.ref w1, .ref w2])), (w2, .inl (cI, 64, .inl g_18))]) [10, 12] (by decide) rfl
              have hKc := hK.sub (tys' := [(cI, .int)]) [1] rfl
              have hFc := va_free (wc := [(s6, .inr (4, [.ref w1, .ref w2])), (w2, .inl (cI, 64, .inl g_18))]) hD hS hA [10, 12] rfl
              refine va_calli (va_runV (As := [.int x5]) (rest := []) ⟨hx, hb, hml, hown, hts⟩ (k_X4_coveredAt l D H.size s6 w1 w2 g_18 x5 cI) (cwV 1 hts (gV bw_295 bw_125 bw_126 bw_111 bw_124) rfl rfl rfl (by decide +kernel) ⟨(by rw [hR]; exact Nat.le_of_ble_eq_true rfl), (by rw [hR]; exact Nat.le_of_ble_eq_true rfl)⟩) ⟨cP_blind, va_recv hKc hPc (ci := 4) (q0 := 0) rfl rfl, cP_at hPc hKc hDc hN⟩ rfl rfl hl.1 rfl (lv_room (Nat.le_of_ble_eq_true rfl)) dX8_shade_73 ⟨(by rw [hR]; exact Nat.le_of_ble_eq_true rfl), (by rw [hR]; exact Nat.le_of_ble_eq_true rfl)⟩) hS (fun q _ h => hFc q h) hFc (fun r_25 u9 t9 H1 locs ht hvm hr_25 hB hz1 hk1 hS => ?_)
              try dsimp only at hr_25
              obtain ⟨hP1, hK1, hD1⟩ := hB
              rw [ht] at hP1
              obtain ⟨hP, hD⟩ := va_join (wr := [(s2, .inr (1, [.ref bx, .int ik, .int wy, .int op])), (bx, .inr (0, [.int bx0, .int by0, .int bx1, .int by1])), (t0, .inr (5, [.ref d0, .int w, .int h])), (d0, .inl (cI, 4096, .inl gz)), (t3, .inl (cI, 3, .inl uc)), (h0, .inr (8, [.ref s1, .ref s2, .ref s3, .ref s4, .ref s5, .ref s6, .int ds, va_rf sp, va_rf bt])), (s1, .inl (cO, 4, .inr (.inr (.inr (.inr f))))), (s5, .inr (7, [.ref t1, .ref t2, .ref t3, .ref ol])), (t1, .inl (cI, 3, .inl ua)), (t2, .inl (cI, 3, .inl ub)), (w1, .inl (cI, 256, .inl g_17)), (ol, .inr (3, [.ref p1, .ref p2, .ref p3, .ref p4, .int v_3, .int v_4, .int v_5])), (p1, .inl (cI, 48, .inl g_6)), (p2, .inl (cI, 48, .inl g_7)), (p3, .inl (cI, 48, .inl g_8)), (p4, .inl (cI, 48, .inl g_9))]) (w1 := [(s6, .inr (4, [.ref w1, .ref w2])), (w2, .inl (cI, 64, .inl g_18))]) hP hD [10, 12] [0, 1, 2, 3, 4, 5, 6, 7, 8, 9, 11, 13, 14, 15, 16, 17] rfl rfl (by decide) (by decide) hk1 hFc hP1 hD1
              clear hz1 hk1 hFc hKc hDc hPc
              generalize H1 = H at hP hS ⊢
              have hP : va_P D vwCl [(s2, .inr (1, [.ref bx, .int ik, .int wy, .int op])), (bx, .inr (0, [.int bx0, .int by0, .int bx1, .int by1])), (t0, .inr (5, [.ref d0, .int w, .int h])), (d0, .inl (cI, 4096, .inl gz)), (t3, .inl (cI, 3, .inl uc)), (h0, .inr (8, [.ref s1, .ref s2, .ref s3, .ref s4, .ref s5, .ref s6, .int ds, va_rf sp, va_rf bt])), (s1, .inl (cO, 4, .inr (.inr (.inr (.inr f))))), (s5, .inr (7, [.ref t1, .ref t2, .ref t3, .ref ol])), (t1, .inl (cI, 3, .inl ua)), (t2, .inl (cI, 3, .inl ub)), (w1, .inl (cI, 256, .inl g_17)), (ol, .inr (3, [.ref p1, .ref p2, .ref p3, .ref p4, .int v_3, .int v_4, .int v_5])), (p1, .inl (cI, 48, .inl g_6)), (p2, .inl (cI, 48, .inl g_7)), (p3, .inl (cI, 48, .inl g_8)), (p4, .inl (cI, 48, .inl g_9)), (s6, .inr (4, [.ref w1, .ref w2])), (w2, .inl (cI, 64, .inl g_18))] H := hP
              have hD : va_D A [(s2, .inr (1, [.ref bx, .int ik, .int wy, .int op])), (bx, .inr (0, [.int bx0, .int by0, .int bx1, .int by1])), (t0, .inr (5, [.ref d0, .int w, .int h])), (d0, .inl (cI, 4096, .inl gz)), (t3, .inl (cI, 3, .inl uc)), (h0, .inr (8, [.ref s1, .ref s2, .ref s3, .ref s4, .ref s5, .ref s6, .int ds, va_rf sp, va_rf bt])), (s1, .inl (cO, 4, .inr (.inr (.inr (.inr f))))), (s5, .inr (7, [.ref t1, .ref t2, .ref t3, .ref ol])), (t1, .inl (cI, 3, .inl ua)), (t2, .inl (cI, 3, .inl ub)), (w1, .inl (cI, 256, .inl g_17)), (ol, .inr (3, [.ref p1, .ref p2, .ref p3, .ref p4, .int v_3, .int v_4, .int v_5])), (p1, .inl (cI, 48, .inl g_6)), (p2, .inl (cI, 48, .inl g_7)), (p3, .inl (cI, 48, .inl g_8)), (p4, .inl (cI, 48, .inl g_9)), (s6, .inr (4, [.ref w1, .ref w2])), (w2, .inl (cI, 64, .inl g_18))] := hD
              have hcvr_25 : r_25 = cfT ua ub j i := by rw [hr_25, if_pos (by omega), hc_i, b_19 i (by omega), tri_cv b_10 b_11, ex_j]; rfl
              refine lv_if_eq (tgt := 112) hx hb dX8_shade_76 (by decide) (fun c_26 => ?_) (fun c_26 => ?_)
              · skip
                have f_27 : r_25.toInt = 0 := f_eq rfl (by decide) c_26
                obtain ⟨y_28, ey_28⟩ : ∃ y : Int32, y = x5 + 1 := ⟨_, rfl⟩
                refine lv_iinc (v := y_28) (lv' := [(5, .int y_28), (4, .int x4), (3, .int z3), (2, .ref t0), (0, .ref h0), (1, .int k)]) hx hb dX8_shade_112 hl (k := 0) rfl (by rw [ey_28]; rfl) (by decide) rfl (fun ls hl => ?_)
                refine lv_goto (tgt := 58) hx hb dX8_shade_115 (by decide) ?_
                exact ih_21 (i + 1) y_28 z3 gz _ _ _ (by omega) (by omega) (by rw [ey_28, ex_i]; exact nI_1 i) (by omega) (by rw [show gR (shQ ua ub uc op) j (i + 1) = gR (shQ ua ub uc op) j i ++ [] from congrArg (gR (shQ ua ub uc op) j i ++ ·) (show shQ ua ub uc op j i = [] from if_pos (hcvr_25.symm.trans c_26)), List.append_nil]; exact hgi) (by rw [show gR (shQ ua ub uc op) j (i + 1) = gR (shQ ua ub uc op) j i ++ [] from congrArg (gR (shQ ua ub uc op) j i ++ ·) (show shQ ua ub uc op j i = [] from if_pos (hcvr_25.symm.trans c_26)), List.append_nil]; exact eti) (hP.sub (ws' := [(s2, .inr (1, [.ref bx, .int ik, .int wy, .int op])), (bx, .inr (0, [.int bx0, .int by0, .int bx1, .int by1])), (t0, .inr (5, [.ref d0, .int w, .int h])), (d0, .inl (cI, 4096, .inl gz)), (t3, .inl (cI, 3, .inl uc)), (h0, .inr (8, [.ref s1, .ref s2, .ref s3, .ref s4, .ref s5, .ref s6, .int ds, va_rf sp, va_rf bt])), (s1, .inl (cO, 4, .inr (.inr (.inr (.inr f))))), (s5, .inr (7, [.ref t1, .ref t2, .ref t3, .ref ol])), (t1, .inl (cI, 3, .inl ua)), (t2, .inl (cI, 3, .inl ub)), (s6, .inr (4, [.ref w1, .ref w2])), (w1, .inl (cI, 256, .inl g_17)), (w2, .inl (cI, 64, .inl g_18)), (ol, .inr (3, [.ref p1, .ref p2, .ref p3, .ref p4, .int v_3, .int v_4, .int v_5])), (p1, .inl (cI, 48, .inl g_6)), (p2, .inl (cI, 48, .inl g_7)), (p3, .inl (cI, 48, .inl g_8)), (p4, .inl (cI, 48, .inl g_9))]) [0, 1, 2, 3, 4, 5, 6, 7, 8, 9, 16, 10, 17, 11, 12, 13, 14, 15] rfl) (hD.sub (ws' := [(s2, .inr (1, [.ref bx, .int ik, .int wy, .int op])), (bx, .inr (0, [.int bx0, .int by0, .int bx1, .int by1])), (t0, .inr (5, [.ref d0, .int w, .int h])), (d0, .inl (cI, 4096, .inl gz)), (t3, .inl (cI, 3, .inl uc)), (h0, .inr (8, [.ref s1, .ref s2, .ref s3, .ref s4, .ref s5, .ref s6, .int ds, va_rf sp, va_rf bt])), (s1, .inl (cO, 4, .inr (.inr (.inr (.inr f))))), (s5, .inr (7, [.ref t1, .ref t2, .ref t3, .ref ol])), (t1, .inl (cI, 3, .inl ua)), (t2, .inl (cI, 3, .inl ub)), (s6, .inr (4, [.ref w1, .ref w2])), (w1, .inl (cI, 256, .inl g_17)), (w2, .inl (cI, 64, .inl g_18)), (ol, .inr (3, [.ref p1, .ref p2, .ref p3, .ref p4, .int v_3, .int v_4, .int v_5])), (p1, .inl (cI, 48, .inl g_6)), (p2, .inl (cI, 48, .inl g_7)), (p3, .inl (cI, 48, .inl g_8)), (p4, .inl (cI, 48, .inl g_9))]) [0, 1, 2, 3, 4, 5, 6, 7, 8, 9, 16, 10, 17, 11, 12, 13, 14, 15] (by decide) rfl) hS (lv_sub hl [0, 1, 2, 3, 4, 5] rfl)
              · skip
                have f_27 : ¬ (r_25.toInt = 0) := fn_eq rfl (by decide) c_26
                refine lv_iload_n hx hb dX8_shade_79 rfl (lv_at hl 2 rfl) ?_
                refine lv_aload_n hx hb dX8_shade_80 rfl (lv_at hl 4 rfl) ?_
                refine va_get (D := D) (ci := 8) (v := .ref s2) (C := RX8) (T := TX8) (N := 9) hx hb hts hi_X8 hown hK hP 5 rfl rfl 1 (by decide) (hts _ bw_231) (fun _ h9 => h9) rfl dX8_shade_81 ?_
                refine lv_aload_n hx hb dX8_shade_84 rfl (lv_at hl 3 rfl) ?_
                refine lv_iload hx hb dX8_shade_85 (lv_at hl 0 rfl) ?_
                refine lv_iload hx hb dX8_shade_87 (lv_at hl 1 rfl) ?_
                refine lv_aload_n hx hb dX8_shade_89 rfl (lv_at hl 4 rfl) ?_
                refine va_get (D := D) (ci := 8) (v := .ref s5) (C := RX8) (T := TX8) (N := 9) hx hb hts hi_X8 hown hK hP 5 rfl rfl 4 (by decide) (hts _ bw_237) (fun _ h9 => h9) rfl dX8_shade_90 ?_
                refine lv_iload hx hb dX8_shade_93 (lv_at hl 0 rfl) ?_
                refine lv_iload hx hb dX8_shade_95 (lv_at hl 1 rfl) ?_
                have hPc := hP.sub (ws' := [(s5, .inr (7, [.ref t1, .ref t2, .ref t3, .ref ol])), (t1, .inl (cI, 3, .inl ua)), (t2, .inl (cI, 3, .inl ub)), (t3, .inl (cI, 3, .inl uc))]) [7, 8, 9, 4] rfl
                have hDc := hD.sub (ws' := [(s5, .inr (7, [.ref t1, .ref t2, .ref t3, .ref ol])), (t1, .inl (cI, 3, .inl ua)), (t2, .inl (cI, 3, .inl ub)), (t3, .inl (cI, 3, .inl uc))]) [7, 8, 9, 4] (by decide) rfl
                have hKc := hK.sub (tys' := [(cI, .int)]) [1] rfl
                have hFc := va_free (wc := [(s5, .inr (7, [.ref t1, .ref t2, .ref t3, .ref ol])), (t1, .inl (cI, 3, .inl ua)), (t2, .inl (cI, 3, .inl ub)), (t3, .inl (cI, 3, .inl uc))]) hD hS hA [7, 8, 9, 4] rfl
                refine va_calli (va_runV (As := [.int x5, .int x4]) (rest := [.int x4, .int x5, .ref t0, .ref s2, .int z3]) ⟨hx, hb, hml, hown, hts⟩ (k_X7_inkAt_e l D H.size s5 t1 t2 t3 ol ua ub uc x5 x4 cI) (cwV 2 hts (gV bw_305 bw_214 bw_215 bw_195 bw_213) rfl rfl rfl (by decide +kernel) ⟨(by rw [hR]; exact Nat.le_of_ble_eq_true rfl), (by rw [hR]; exact Nat.le_of_ble_eq_true rfl)⟩) ⟨cP_blind, va_recv hKc hPc (ci := 7) (q0 := 0) rfl rfl, cP_at hPc hKc hDc hN⟩ rfl rfl hl.1 rfl (lv_room (Nat.le_of_ble_eq_true rfl)) dX8_shade_97 ⟨(by rw [hR]; exact Nat.le_of_ble_eq_true rfl), (by rw [hR]; exact Nat.le_of_ble_eq_true rfl)⟩) hS (fun q _ h => hFc q h) hFc (fun r_29 u9 t9 H1 locs ht hvm hr_29 hB hz1 hk1 hS => ?_)
                try dsimp only at hr_29
                obtain ⟨hP1, hK1, hD1⟩ := hB
                rw [ht] at hP1
                obtain ⟨hP, hD⟩ := va_join (wr := [(s2, .inr (1, [.ref bx, .int ik, .int wy, .int op])), (bx, .inr (0, [.int bx0, .int by0, .int bx1, .int by1])), (t0, .inr (5, [.ref d0, .int w, .int h])), (d0, .inl (cI, 4096, .inl gz)), (h0, .inr (8, [.ref s1, .ref s2, .ref s3, .ref s4, .ref s5, .ref s6, .int ds, va_rf sp, va_rf bt])), (s1, .inl (cO, 4, .inr (.inr (.inr (.inr f))))), (w1, .inl (cI, 256, .inl g_17)), (ol, .inr (3, [.ref p1, .ref p2, .ref p3, .ref p4, .int v_3, .int v_4, .int v_5])), (p1, .inl (cI, 48, .inl g_6)), (p2, .inl (cI, 48, .inl g_7)), (p3, .inl (cI, 48, .inl g_8)), (p4, .inl (cI, 48, .inl g_9)), (s6, .inr (4, [.ref w1, .ref w2])), (w2, .inl (cI, 64, .inl g_18))]) (w1 := [(s5, .inr (7, [.ref t1, .ref t2, .ref t3, .ref ol])), (t1, .inl (cI, 3, .inl ua)), (t2, .inl (cI, 3, .inl ub)), (t3, .inl (cI, 3, .inl uc))]) hP hD [7, 8, 9, 4] [0, 1, 2, 3, 5, 6, 10, 11, 12, 13, 14, 15, 16, 17] rfl rfl (by decide) (by decide) hk1 hFc hP1 hD1
                clear hz1 hk1 hFc hKc hDc hPc
                generalize H1 = H at hP hS ⊢
                have hP : va_P D vwCl [(s2, .inr (1, [.ref bx, .int ik, .int wy, .int op])), (bx, .inr (0, [.int bx0, .int by0, .int bx1, .int by1])), (t0, .inr (5, [.ref d0, .int w, .int h])), (d0, .inl (cI, 4096, .inl gz)), (h0, .inr (8, [.ref s1, .ref s2, .ref s3, .ref s4, .ref s5, .ref s6, .int ds, va_rf sp, va_rf bt])), (s1, .inl (cO, 4, .inr (.inr (.inr (.inr f))))), (w1, .inl (cI, 256, .inl g_17)), (ol, .inr (3, [.ref p1, .ref p2, .ref p3, .ref p4, .int v_3, .int v_4, .int v_5])), (p1, .inl (cI, 48, .inl g_6)), (p2, .inl (cI, 48, .inl g_7)), (p3, .inl (cI, 48, .inl g_8)), (p4, .inl (cI, 48, .inl g_9)), (s6, .inr (4, [.ref w1, .ref w2])), (w2, .inl (cI, 64, .inl g_18)), (s5, .inr (7, [.ref t1, .ref t2, .ref t3, .ref ol])), (t1, .inl (cI, 3, .inl ua)), (t2, .inl (cI, 3, .inl ub)), (t3, .inl (cI, 3, .inl uc))] H := hP
                have hD : va_D A [(s2, .inr (1, [.ref bx, .int ik, .int wy, .int op])), (bx, .inr (0, [.int bx0, .int by0, .int bx1, .int by1])), (t0, .inr (5, [.ref d0, .int w, .int h])), (d0, .inl (cI, 4096, .inl gz)), (h0, .inr (8, [.ref s1, .ref s2, .ref s3, .ref s4, .ref s5, .ref s6, .int ds, va_rf sp, va_rf bt])), (s1, .inl (cO, 4, .inr (.inr (.inr (.inr f))))), (w1, .inl (cI, 256, .inl g_17)), (ol, .inr (3, [.ref p1, .ref p2, .ref p3, .ref p4, .int v_3, .int v_4, .int v_5])), (p1, .inl (cI, 48, .inl g_6)), (p2, .inl (cI, 48, .inl g_7)), (p3, .inl (cI, 48, .inl g_8)), (p4, .inl (cI, 48, .inl g_9)), (s6, .inr (4, [.ref w1, .ref w2])), (w2, .inl (cI, 64, .inl g_18)), (s5, .inr (7, [.ref t1, .ref t2, .ref t3, .ref ol])), (t1, .inl (cI, 3, .inl ua)), (t2, .inl (cI, 3, .inl ub)), (t3, .inl (cI, 3, .inl uc))] := hD
                refine lv_aload_n hx hb dX8_shade_100 rfl (lv_at hl 4 rfl) ?_
                refine va_get (D := D) (ci := 8) (v := .ref s2) (C := RX8) (T := TX8) (N := 9) hx hb hts hi_X8 hown hK hP 4 rfl rfl 1 (by decide) (hts _ bw_231) (fun _ h9 => h9) rfl dX8_shade_101 ?_
                refine va_getN (host := RX8) (D := D) (ci := 1) (v := .int op) (C := RX1) (T := TX1) (N := 4) hx hb hts hi_X1 hown hK hP 0 rfl rfl 3 (by decide) ((hN.1 (RX8, 86, "DotBench$Brush", "opacity", "I", RX8) (by decide +kernel)).use rfl) (fun _ h9 => h9) rfl dX8_shade_104 ?_
                have hPc := hP.sub (ws' := [(s2, .inr (1, [.ref bx, .int ik, .int wy, .int op])), (bx, .inr (0, [.int bx0, .int by0, .int bx1, .int by1])), (t0, .inr (5, [.ref d0, .int w, .int h])), (d0, .inl (cI, 4096, .inl gz))]) [0, 1, 2, 3] rfl
                have hDc := hD.sub (ws' := [(s2, .inr (1, [.ref bx, .int ik, .int wy, .int op])), (bx, .inr (0, [.int bx0, .int by0, .int bx1, .int by1])), (t0, .inr (5, [.ref d0, .int w, .int h])), (d0, .inl (cI, 4096, .inl gz))]) [0, 1, 2, 3] (by decide) rfl
                have hKc := hK.sub (tys' := [(cI, .int)]) [1] rfl
                have hFc := va_free (wc := [(s2, .inr (1, [.ref bx, .int ik, .int wy, .int op])), (bx, .inr (0, [.int bx0, .int by0, .int bx1, .int by1])), (t0, .inr (5, [.ref d0, .int w, .int h])), (d0, .inl (cI, 4096, .inl gz))]) hD hS hA [0, 1, 2, 3] rfl
                refine va_calli (va_runV (As := [.ref t0, .int x5, .int x4, .int r_29, .int op]) (rest := [.int z3]) ⟨hx, hb, hml, hown, hts⟩ (k_X1_lay l D H.size s2 bx ik wy op t0 d0 bx0 by0 bx1 by1 w h gz x5 x4 r_29 op cI (by first | assumption | omega | decide) (by first | assumption | omega | decide) (by first | assumption | omega | decide)) (cwV 5 hts (gV bw_276 bw_33 bw_34 bw_19 bw_32) rfl rfl rfl (by decide +kernel) ⟨(by rw [hR]; exact Nat.le_of_ble_eq_true rfl), (by rw [hR]; exact Nat.le_of_ble_eq_true rfl)⟩) ⟨cP_blind, va_recv hKc hPc (ci := 1) (q0 := 0) rfl rfl, cP_at hPc hKc hDc hN⟩ rfl rfl hl.1 rfl (lv_room (Nat.le_of_ble_eq_true rfl)) dX8_shade_107 ⟨(by rw [hR]; exact Nat.le_of_ble_eq_true rfl), (by rw [hR]; exact Nat.le_of_ble_eq_true rfl)⟩) hS (fun q _ h => hFc q h) hFc (fun r_30 u9 t9 H1 locs ht hvm hr_30 hB hz1 hk1 hS => ?_)
                try dsimp only at hr_30
                obtain ⟨hP1, hK1, hD1⟩ := hB
                rw [ht] at hP1
                obtain ⟨hP, hD⟩ := va_join (wr := [(h0, .inr (8, [.ref s1, .ref s2, .ref s3, .ref s4, .ref s5, .ref s6, .int ds, va_rf sp, va_rf bt])), (s1, .inl (cO, 4, .inr (.inr (.inr (.inr f))))), (w1, .inl (cI, 256, .inl g_17)), (ol, .inr (3, [.ref p1, .ref p2, .ref p3, .ref p4, .int v_3, .int v_4, .int v_5])), (p1, .inl (cI, 48, .inl g_6)), (p2, .inl (cI, 48, .inl g_7)), (p3, .inl (cI, 48, .inl g_8)), (p4, .inl (cI, 48, .inl g_9)), (s6, .inr (4, [.ref w1, .ref w2])), (w2, .inl (cI, 64, .inl g_18)), (s5, .inr (7, [.ref t1, .ref t2, .ref t3, .ref ol])), (t1, .inl (cI, 3, .inl ua)), (t2, .inl (cI, 3, .inl ub)), (t3, .inl (cI, 3, .inl uc))]) (w1 := [(s2, .inr (1, [.ref bx, .int ik, .int wy, .int op])), (bx, .inr (0, [.int bx0, .int by0, .int bx1, .int by1])), (t0, .inr (5, [.ref d0, .int w, .int h])), (d0, .inl (cI, 4096, .inl (if 0 ≤ x5.toInt ∧ x5.toInt < w.toInt ∧ 0 ≤ x4.toInt ∧ x4.toInt < h.toInt ∧ bx0.toInt ≤ x5.toInt ∧ x5.toInt ≤ bx1.toInt ∧ by0.toInt ≤ x4.toInt ∧ x4.toInt ≤ by1.toInt then upd gz (ixP x5 x4) (laidP wy r_29 (gz (ixP x5 x4)) op) else gz)))]) hP hD [0, 1, 2, 3] [4, 5, 6, 7, 8, 9, 10, 11, 12, 13, 14, 15, 16, 17] rfl rfl (by decide) (by decide) hk1 hFc hP1 hD1
                clear hz1 hk1 hFc hKc hDc hPc
                generalize H1 = H at hP hS ⊢
                have hP : va_P D vwCl [(h0, .inr (8, [.ref s1, .ref s2, .ref s3, .ref s4, .ref s5, .ref s6, .int ds, va_rf sp, va_rf bt])), (s1, .inl (cO, 4, .inr (.inr (.inr (.inr f))))), (w1, .inl (cI, 256, .inl g_17)), (ol, .inr (3, [.ref p1, .ref p2, .ref p3, .ref p4, .int v_3, .int v_4, .int v_5])), (p1, .inl (cI, 48, .inl g_6)), (p2, .inl (cI, 48, .inl g_7)), (p3, .inl (cI, 48, .inl g_8)), (p4, .inl (cI, 48, .inl g_9)), (s6, .inr (4, [.ref w1, .ref w2])), (w2, .inl (cI, 64, .inl g_18)), (s5, .inr (7, [.ref t1, .ref t2, .ref t3, .ref ol])), (t1, .inl (cI, 3, .inl ua)), (t2, .inl (cI, 3, .inl ub)), (t3, .inl (cI, 3, .inl uc)), (s2, .inr (1, [.ref bx, .int ik, .int wy, .int op])), (bx, .inr (0, [.int bx0, .int by0, .int bx1, .int by1])), (t0, .inr (5, [.ref d0, .int w, .int h])), (d0, .inl (cI, 4096, .inl (if 0 ≤ x5.toInt ∧ x5.toInt < w.toInt ∧ 0 ≤ x4.toInt ∧ x4.toInt < h.toInt ∧ bx0.toInt ≤ x5.toInt ∧ x5.toInt ≤ bx1.toInt ∧ by0.toInt ≤ x4.toInt ∧ x4.toInt ≤ by1.toInt then upd gz (ixP x5 x4) (laidP wy r_29 (gz (ixP x5 x4)) op) else gz)))] H := hP
                have hD : va_D A [(h0, .inr (8, [.ref s1, .ref s2, .ref s3, .ref s4, .ref s5, .ref s6, .int ds, va_rf sp, va_rf bt])), (s1, .inl (cO, 4, .inr (.inr (.inr (.inr f))))), (w1, .inl (cI, 256, .inl g_17)), (ol, .inr (3, [.ref p1, .ref p2, .ref p3, .ref p4, .int v_3, .int v_4, .int v_5])), (p1, .inl (cI, 48, .inl g_6)), (p2, .inl (cI, 48, .inl g_7)), (p3, .inl (cI, 48, .inl g_8)), (p4, .inl (cI, 48, .inl g_9)), (s6, .inr (4, [.ref w1, .ref w2])), (w2, .inl (cI, 64, .inl g_18)), (s5, .inr (7, [.ref t1, .ref t2, .ref t3, .ref ol])), (t1, .inl (cI, 3, .inl ua)), (t2, .inl (cI, 3, .inl ub)), (t3, .inl (cI, 3, .inl uc)), (s2, .inr (1, [.ref bx, .int ik, .int wy, .int op])), (bx, .inr (0, [.int bx0, .int by0, .int bx1, .int by1])), (t0, .inr (5, [.ref d0, .int w, .int h])), (d0, .inl (cI, 4096, .inl (if 0 ≤ x5.toInt ∧ x5.toInt < w.toInt ∧ 0 ≤ x4.toInt ∧ x4.toInt < h.toInt ∧ bx0.toInt ≤ x5.toInt ∧ x5.toInt ≤ bx1.toInt ∧ by0.toInt ≤ x4.toInt ∧ x4.toInt ≤ by1.toInt then upd gz (ixP x5 x4) (laidP wy r_29 (gz (ixP x5 x4)) op) else gz)))] := hD
                refine lv_iadd hx hb dX8_shade_110 ?_
                refine lv_topi (fun y_31 ey_31 => ?_)
                refine lv_istore_n (lv' := [(3, .int y_31), (5, .int x5), (4, .int x4), (2, .ref t0), (0, .ref h0), (1, .int k)]) hx hb dX8_shade_111 rfl hl (by decide) rfl (fun ls hl => ?_)
                obtain ⟨y_32, ey_32⟩ : ∃ y : Int32, y = x5 + 1 := ⟨_, rfl⟩
                refine lv_iinc (v := y_32) (lv' := [(5, .int y_32), (3, .int y_31), (4, .int x4), (2, .ref t0), (0, .ref h0), (1, .int k)]) hx hb dX8_shade_112 hl (k := 1) rfl (by rw [ey_32]; rfl) (by decide) rfl (fun ls hl => ?_)
                refine lv_goto (tgt := 58) hx hb dX8_shade_115 (by decide) ?_
                exact ih_21 (i + 1) y_32 y_31 (if 0 ≤ x5.toInt ∧ x5.toInt < w.toInt ∧ 0 ≤ x4.toInt ∧ x4.toInt < h.toInt ∧ bx0.toInt ≤ x5.toInt ∧ x5.toInt ≤ bx1.toInt ∧ by0.toInt ≤ x4.toInt ∧ x4.toInt ≤ by1.toInt then upd gz (ixP x5 x4) (laidP wy r_29 (gz (ixP x5 x4)) op) else gz) _ _ _ (by omega) (by omega) (by rw [ey_32, ex_i]; exact nI_1 i) (by omega) (by rw [show gR (shQ ua ub uc op) j (i + 1) = gR (shQ ua ub uc op) j i ++ [(x5, x4, r_29, op)] from congrArg (gR (shQ ua ub uc op) j i ++ ·) (show shQ ua ub uc op j i = [(x5, x4, r_29, op)] by unfold shQ; rw [← hcvr_25, if_neg c_26, ← ex_i, ← ex_j, ← hr_29]), ← List.append_assoc, List.foldl_append, ← hgi]; rfl) (by rw [show gR (shQ ua ub uc op) j (i + 1) = gR (shQ ua ub uc op) j i ++ [(x5, x4, r_29, op)] from congrArg (gR (shQ ua ub uc op) j i ++ ·) (show shQ ua ub uc op j i = [(x5, x4, r_29, op)] by unfold shQ; rw [← hcvr_25, if_neg c_26, ← ex_i, ← ex_j, ← hr_29]), ← List.append_assoc, List.foldl_append, ← eti, ey_31, hr_30]; rfl) (hP.sub (ws' := [(s2, .inr (1, [.ref bx, .int ik, .int wy, .int op])), (bx, .inr (0, [.int bx0, .int by0, .int bx1, .int by1])), (t0, .inr (5, [.ref d0, .int w, .int h])), (d0, .inl (cI, 4096, .inl (if 0 ≤ x5.toInt ∧ x5.toInt < w.toInt ∧ 0 ≤ x4.toInt ∧ x4.toInt < h.toInt ∧ bx0.toInt ≤ x5.toInt ∧ x5.toInt ≤ bx1.toInt ∧ by0.toInt ≤ x4.toInt ∧ x4.toInt ≤ by1.toInt then upd gz (ixP x5 x4) (laidP wy r_29 (gz (ixP x5 x4)) op) else gz))), (t3, .inl (cI, 3, .inl uc)), (h0, .inr (8, [.ref s1, .ref s2, .ref s3, .ref s4, .ref s5, .ref s6, .int ds, va_rf sp, va_rf bt])), (s1, .inl (cO, 4, .inr (.inr (.inr (.inr f))))), (s5, .inr (7, [.ref t1, .ref t2, .ref t3, .ref ol])), (t1, .inl (cI, 3, .inl ua)), (t2, .inl (cI, 3, .inl ub)), (s6, .inr (4, [.ref w1, .ref w2])), (w1, .inl (cI, 256, .inl g_17)), (w2, .inl (cI, 64, .inl g_18)), (ol, .inr (3, [.ref p1, .ref p2, .ref p3, .ref p4, .int v_3, .int v_4, .int v_5])), (p1, .inl (cI, 48, .inl g_6)), (p2, .inl (cI, 48, .inl g_7)), (p3, .inl (cI, 48, .inl g_8)), (p4, .inl (cI, 48, .inl g_9))]) [14, 15, 16, 17, 13, 0, 1, 10, 11, 12, 8, 2, 9, 3, 4, 5, 6, 7] rfl) (hD.sub (ws' := [(s2, .inr (1, [.ref bx, .int ik, .int wy, .int op])), (bx, .inr (0, [.int bx0, .int by0, .int bx1, .int by1])), (t0, .inr (5, [.ref d0, .int w, .int h])), (d0, .inl (cI, 4096, .inl (if 0 ≤ x5.toInt ∧ x5.toInt < w.toInt ∧ 0 ≤ x4.toInt ∧ x4.toInt < h.toInt ∧ bx0.toInt ≤ x5.toInt ∧ x5.toInt ≤ bx1.toInt ∧ by0.toInt ≤ x4.toInt ∧ x4.toInt ≤ by1.toInt then upd gz (ixP x5 x4) (laidP wy r_29 (gz (ixP x5 x4)) op) else gz))), (t3, .inl (cI, 3, .inl uc)), (h0, .inr (8, [.ref s1, .ref s2, .ref s3, .ref s4, .ref s5, .ref s6, .int ds, va_rf sp, va_rf bt])), (s1, .inl (cO, 4, .inr (.inr (.inr (.inr f))))), (s5, .inr (7, [.ref t1, .ref t2, .ref t3, .ref ol])), (t1, .inl (cI, 3, .inl ua)), (t2, .inl (cI, 3, .inl ub)), (s6, .inr (4, [.ref w1, .ref w2])), (w1, .inl (cI, 256, .inl g_17)), (w2, .inl (cI, 64, .inl g_18)), (ol, .inr (3, [.ref p1, .ref p2, .ref p3, .ref p4, .int v_3, .int v_4, .int v_5])), (p1, .inl (cI, 48, .inl g_6)), (p2, .inl (cI, 48, .inl g_7)), (p3, .inl (cI, 48, .inl g_8)), (p4, .inl (cI, 48, .inl g_9))]) [14, 15, 16, 17, 13, 0, 1, 10, 11, 12, 8, 2, 9, 3, 4, 5, 6, 7] (by decide) rfl) hS (lv_sub hl [0, 2, 1, 3, 4, 5] rfl)
        exact loop_20 (64 + 1) 0 0 x3 ga _ _ _ (by omega) (by omega) nI_0.symm (by omega) (by rw [show gR (shQ ua ub uc op) j 0 = [] from rfl, List.append_nil]; exact hgo) (by rw [show gR (shQ ua ub uc op) j 0 = [] from rfl, List.append_nil]; exact eto) hP hD hS (lv_sub hl [0, 1, 2, 3, 4, 5] rfl)
  exact loop_12 (64 + 1) 0 0 0 g gw gc _ _ _ (by omega) (by omega) nI_0.symm (by omega) rfl rfl hP hD hS (lv_sub hl [0, 1, 2, 3, 4] rfl)

set_option maxHeartbeats 4000000 in
set_option maxRecDepth 100000 in
theorem k_X8_carry_de (l : Launch) (D : va_G) (sz : Nat) (h0 s1 s2 s3 s4 s5 s6 : Nat) (ds : Int32) (sp bt : Option Nat) (f : Nat → Option Nat) (bx t0 d0 : Nat) (ik wy op : Int32) (bx0 by0 bx1 by1 : Int32) (w h : Int32) (g : Nat → Int32) (u0 e0 : Nat) (w2 h2 : Int32) (gs : Nat → Int32) (fa fb : Nat) (ax ay aw ah ox oy ow oh : Int32) (k kq : Int32) (cO : ClassId) (cI : ClassId) (hak : 0 ≤ k.toInt ∧ k.toInt ≤ 3) (haf : f k.toNatClampNeg = some u0) (hb0k : 0 ≤ kq.toInt ∧ kq.toInt ≤ 3) (hb0f : f kq.toNatClampNeg = some t0) (hne : ¬ k.toInt = kq.toInt) (hnr : (-200 ≤ ax.toInt ∧ ax.toInt ≤ 200) ∧ (-200 ≤ ay.toInt ∧ ay.toInt ≤ 200) ∧ (-200 ≤ ox.toInt ∧ ox.toInt ≤ 200) ∧ (-200 ≤ oy.toInt ∧ oy.toInt ≤ 200)) (hwy : 0 ≤ wy.toInt ∧ wy.toInt ≤ 12) (hw : w.toInt ≤ 64) (hh : h.toInt ≤ 64) (hw2 : w2.toInt ≤ 64) (hh2 : h2.toInt ≤ 64) (how : 0 ≤ ow.toInt ∧ ow.toInt ≤ 64) (hoh : 0 ≤ oh.toInt ∧ oh.toInt ≤ 64) : Met l yX8_carry (wB yX8_carry cX8_carry 12 (some .int)) ({ frames := 3, cells := 0, slots := 0, locals := 75 }) (cP D [(h0, .inr (8, [.ref s1, .ref s2, .ref s3, .ref s4, .ref s5, .ref s6, .int ds, va_rf sp, va_rf bt])), (s1, .inl (cO, 4, .inr (.inr (.inr (.inr f))))), (s2, .inr (1, [.ref bx, .int ik, .int wy, .int op])), (bx, .inr (0, [.int bx0, .int by0, .int bx1, .int by1])), (t0, .inr (5, [.ref d0, .int w, .int h])), (d0, .inl (cI, 4096, .inl g)), (u0, .inr (5, [.ref e0, .int w2, .int h2])), (e0, .inl (cI, 4096, .inl gs)), (fa, .inr (2, [.int ax, .int ay, .int aw, .int ah])), (fb, .inr (2, [.int ox, .int oy, .int ow, .int oh]))] [(cO, .object "DotBench$Sheet"), (cI, .int)] sz [.ref h0, .int k, .ref fa, .int kq, .ref fb]) (va_Qi (fun (r : Int32) (_ : Unit) => r = (gL (cyQ ax ay aw ah ox oy ow oh w2 h2 op gs) ow.toNatClampNeg oh.toNatClampNeg).foldl (layT w h bx0 by0 bx1 by1) 0) (fun (_ : Unit) (t : State) => cB D (va_A [(h0, .inr (8, [.ref s1, .ref s2, .ref s3, .ref s4, .ref s5, .ref s6, .int ds, va_rf sp, va_rf bt])), (s1, .inl (cO, 4, .inr (.inr (.inr (.inr f))))), (s2, .inr (1, [.ref bx, .int ik, .int wy, .int op])), (bx, .inr (0, [.int bx0, .int by0, .int bx1, .int by1])), (t0, .inr (5, [.ref d0, .int w, .int h])), (d0, .inl (cI, 4096, .inl g)), (u0, .inr (5, [.ref e0, .int w2, .int h2])), (e0, .inl (cI, 4096, .inl gs)), (fa, .inr (2, [.int ax, .int ay, .int aw, .int ah])), (fb, .inr (2, [.int ox, .int oy, .int ow, .int oh]))] sz) [(h0, .inr (8, [.ref s1, .ref s2, .ref s3, .ref s4, .ref s5, .ref s6, .int ds, va_rf sp, va_rf bt])), (s1, .inl (cO, 4, .inr (.inr (.inr (.inr f))))), (s2, .inr (1, [.ref bx, .int ik, .int wy, .int op])), (bx, .inr (0, [.int bx0, .int by0, .int bx1, .int by1])), (t0, .inr (5, [.ref d0, .int w, .int h])), (d0, .inl (cI, 4096, .inl ((gL (cyQ ax ay aw ah ox oy ow oh w2 h2 op gs) ow.toNatClampNeg oh.toNatClampNeg).foldl (layG w h bx0 by0 bx1 by1 wy) g))), (u0, .inr (5, [.ref e0, .int w2, .int h2])), (e0, .inl (cI, 4096, .inl gs))] [(cO, .object "DotBench$Sheet"), (cI, .int)] t) (va_A [(h0, .inr (8, [.ref s1, .ref s2, .ref s3, .ref s4, .ref s5, .ref s6, .int ds, va_rf sp, va_rf bt])), (s1, .inl (cO, 4, .inr (.inr (.inr (.inr f))))), (s2, .inr (1, [.ref bx, .int ik, .int wy, .int op])), (bx, .inr (0, [.int bx0, .int by0, .int bx1, .int by1])), (t0, .inr (5, [.ref d0, .int w, .int h])), (d0, .inl (cI, 4096, .inl g)), (u0, .inr (5, [.ref e0, .int w2, .int h2])), (e0, .inl (cI, 4096, .inl gs)), (fa, .inr (2, [.int ax, .int ay, .int aw, .int ah])), (fb, .inr (2, [.int ox, .int oy, .int ow, .int oh]))] sz)) 0 0 (va_A [(h0, .inr (8, [.ref s1, .ref s2, .ref s3, .ref s4, .ref s5, .ref s6, .int ds, va_rf sp, va_rf bt])), (s1, .inl (cO, 4, .inr (.inr (.inr (.inr f))))), (s2, .inr (1, [.ref bx, .int ik, .int wy, .int op])), (bx, .inr (0, [.int bx0, .int by0, .int bx1, .int by1])), (t0, .inr (5, [.ref d0, .int w, .int h])), (d0, .inl (cI, 4096, .inl g)), (u0, .inr (5, [.ref e0, .int w2, .int h2])), (e0, .inl (cI, 4096, .inl gs)), (fa, .inr (2, [.int ax, .int ay, .int aw, .int ah])), (fb, .inr (2, [.int ox, .int oy, .int ow, .int oh]))] sz) := by
  refine Met.ofW (cc := cX8_carry) (maxL := 12) (ret := (some .int)) (by decide) rfl ?_
  intro p e s m args below meth c s₁ B hml hv
  obtain ⟨rfl, hsz, hP, hK, hD0, hN⟩ := hv
  have hx := B.exec
  have hb := B.bytes
  have hr := B.returns
  have hts0 := atoms_spec (ws := (wB yX8_carry cX8_carry 12 (some .int))) B.pre
  have hts : ∀ w ∈ bigW, w.before _ s = true := fun w h => hts0 w (List.mem_cons_of_mem _ h)
  have hown : s.vm.findClass RX8 = some m.cls := findClass_of_methodNamed B.named
  have hlocks := B.notSynchronized
  subst hsz
  have hD := hD0.self (sz := s.heap.size)
  generalize hAe : va_A [(h0, .inr (8, [.ref s1, .ref s2, .ref s3, .ref s4, .ref s5, .ref s6, .int ds, va_rf sp, va_rf bt])), (s1, .inl (cO, 4, .inr (.inr (.inr (.inr f))))), (s2, .inr (1, [.ref bx, .int ik, .int wy, .int op])), (bx, .inr (0, [.int bx0, .int by0, .int bx1, .int by1])), (t0, .inr (5, [.ref d0, .int w, .int h])), (d0, .inl (cI, 4096, .inl g)), (u0, .inr (5, [.ref e0, .int w2, .int h2])), (e0, .inl (cI, 4096, .inl gs)), (fa, .inr (2, [.int ax, .int ay, .int aw, .int ah])), (fb, .inr (2, [.int ox, .int oy, .int ow, .int oh]))] s.heap.size = A at hD ⊢
  have hA : ∀ q : Nat, s.heap.size ≤ q → A q := fun q h => by rw [← hAe]; exact Or.inr h
  have hS : va_S A s.heap s.heap [] := va_S.rf
  have hP : va_P D vwCl [(h0, .inr (8, [.ref s1, .ref s2, .ref s3, .ref s4, .ref s5, .ref s6, .int ds, va_rf sp, va_rf bt])), (s1, .inl (cO, 4, .inr (.inr (.inr (.inr f))))), (s2, .inr (1, [.ref bx, .int ik, .int wy, .int op])), (bx, .inr (0, [.int bx0, .int by0, .int bx1, .int by1])), (t0, .inr (5, [.ref d0, .int w, .int h])), (d0, .inl (cI, 4096, .inl g)), (u0, .inr (5, [.ref e0, .int w2, .int h2])), (e0, .inl (cI, 4096, .inl gs)), (fa, .inr (2, [.int ax, .int ay, .int aw, .int ah])), (fb, .inr (2, [.int ox, .int oy, .int ow, .int oh]))] s.heap := hP
  have hl := lv_entry ([.ref h0, .int k, .ref fa, .int kq, .ref fb]) (n := 12) (Nat.le_of_ble_eq_true rfl)
  rw [lg_entry_eq]
  generalize (lg_sl ([.ref h0, .int k, .ref fa, .int kq, .ref fb]) ++ List.replicate (12 - (lg_sl ([.ref h0, .int k, .ref fa, .int kq, .ref fb])).length) Slot.unset).toArray = ls at hl ⊢
  have hl : lv_has ls 12 [(0, .ref h0), (1, .int k), (2, .ref fa), (3, .int kq), (4, .ref fb)] := hl
  clear hts0 hD0 hAe
  refine my_abs (fun R Q hR hQ => ?_)
  refine lv_aload_n hx hb dX8_carry_0 rfl (lv_at hl 0 rfl) ?_
  refine lv_iload_n hx hb dX8_carry_1 rfl (lv_at hl 1 rfl) ?_
  have hPc := hP.sub (ws' := [(h0, .inr (8, [.ref s1, .ref s2, .ref s3, .ref s4, .ref s5, .ref s6, .int ds, va_rf sp, va_rf bt])), (s1, .inl (cO, 4, .inr (.inr (.inr (.inr f)))))]) [0, 1] rfl
  have hDc := hD.sub (ws' := [(h0, .inr (8, [.ref s1, .ref s2, .ref s3, .ref s4, .ref s5, .ref s6, .int ds, va_rf sp, va_rf bt])), (s1, .inl (cO, 4, .inr (.inr (.inr (.inr f)))))]) [0, 1] (by decide) rfl
  have hKc := hK.sub (tys' := [(cO, .object "DotBench$Sheet")]) [0] rfl
  have hFc := va_free (wc := [(h0, .inr (8, [.ref s1, .ref s2, .ref s3, .ref s4, .ref s5, .ref s6, .int ds, va_rf sp, va_rf bt])), (s1, .inl (cO, 4, .inr (.inr (.inr (.inr f)))))]) hD hS hA [0, 1] rfl
  refine va_callq (va_runV (As := [.int k]) (rest := []) ⟨hx, hb, hml, hown, hts⟩ (k_X8_sheetAt_y l D s.heap.size h0 s1 s2 s3 s4 s5 s6 ds sp bt f k u0 cO (by first | assumption | omega | decide) (by first | assumption | omega | decide)) (cwV 1 hts (gV bw_267 bw_346 bw_347 bw_223 bw_345) rfl rfl rfl (by decide +kernel) ⟨(by rw [hR]; exact Nat.le_of_ble_eq_true rfl), (by rw [hR]; exact Nat.le_of_ble_eq_true rfl)⟩) ⟨cP_blind, va_recv hKc hPc (ci := 8) (q0 := 0) rfl rfl, cP_at hPc hKc hDc hN⟩ rfl rfl hl.1 rfl (lv_room (Nat.le_of_ble_eq_true rfl)) dX8_carry_2 ⟨(by rw [hR]; exact Nat.le_of_ble_eq_true rfl), (by rw [hR]; exact Nat.le_of_ble_eq_true rfl)⟩) hS (fun q _ h => hFc q h) hFc (fun r_1 u9 t9 H1 locs ht hvm hr_1 hB hz1 hk1 hS => ?_)
  try dsimp only at hr_1
  obtain ⟨hP1, hK1, hD1⟩ := hB
  rw [ht] at hP1
  obtain ⟨hP, hD⟩ := va_join (wr := [(s2, .inr (1, [.ref bx, .int ik, .int wy, .int op])), (bx, .inr (0, [.int bx0, .int by0, .int bx1, .int by1])), (t0, .inr (5, [.ref d0, .int w, .int h])), (d0, .inl (cI, 4096, .inl g)), (u0, .inr (5, [.ref e0, .int w2, .int h2])), (e0, .inl (cI, 4096, .inl gs)), (fa, .inr (2, [.int ax, .int ay, .int aw, .int ah])), (fb, .inr (2, [.int ox, .int oy, .int ow, .int oh]))]) (w1 := [(h0, .inr (8, [.ref s1, .ref s2, .ref s3, .ref s4, .ref s5, .ref s6, .int ds, va_rf sp, va_rf bt])), (s1, .inl (cO, 4, .inr (.inr (.inr (.inr f)))))]) hP hD [0, 1] [2, 3, 4, 5, 6, 7, 8, 9] rfl rfl (by decide) (by decide) hk1 hFc hP1 hD1
  clear hz1 hk1 hFc hKc hDc hPc
  generalize H1 = H at hP hS ⊢
  have hP : va_P D vwCl [(s2, .inr (1, [.ref bx, .int ik, .int wy, .int op])), (bx, .inr (0, [.int bx0, .int by0, .int bx1, .int by1])), (t0, .inr (5, [.ref d0, .int w, .int h])), (d0, .inl (cI, 4096, .inl g)), (u0, .inr (5, [.ref e0, .int w2, .int h2])), (e0, .inl (cI, 4096, .inl gs)), (fa, .inr (2, [.int ax, .int ay, .int aw, .int ah])), (fb, .inr (2, [.int ox, .int oy, .int ow, .int oh])), (h0, .inr (8, [.ref s1, .ref s2, .ref s3, .ref s4, .ref s5, .ref s6, .int ds, va_rf sp, va_rf bt])), (s1, .inl (cO, 4, .inr (.inr (.inr (.inr f)))))] H := hP
  have hD : va_D A [(s2, .inr (1, [.ref bx, .int ik, .int wy, .int op])), (bx, .inr (0, [.int bx0, .int by0, .int bx1, .int by1])), (t0, .inr (5, [.ref d0, .int w, .int h])), (d0, .inl (cI, 4096, .inl g)), (u0, .inr (5, [.ref e0, .int w2, .int h2])), (e0, .inl (cI, 4096, .inl gs)), (fa, .inr (2, [.int ax, .int ay, .int aw, .int ah])), (fb, .inr (2, [.int ox, .int oy, .int ow, .int oh])), (h0, .inr (8, [.ref s1, .ref s2, .ref s3, .ref s4, .ref s5, .ref s6, .int ds, va_rf sp, va_rf bt])), (s1, .inl (cO, 4, .inr (.inr (.inr (.inr f)))))] := hD
  subst hr_1
  refine my_topv (v := .ref u0) rfl ?_
  refine lv_astore (lv' := [(5, .ref u0), (0, .ref h0), (1, .int k), (2, .ref fa), (3, .int kq), (4, .ref fb)]) hx hb dX8_carry_5 hl (by decide) rfl (fun ls hl => ?_)
  refine lv_aload_n hx hb dX8_carry_7 rfl (lv_at hl 1 rfl) ?_
  refine lv_iload_n hx hb dX8_carry_8 rfl (lv_at hl 4 rfl) ?_
  have hPc := hP.sub (ws' := [(h0, .inr (8, [.ref s1, .ref s2, .ref s3, .ref s4, .ref s5, .ref s6, .int ds, va_rf sp, va_rf bt])), (s1, .inl (cO, 4, .inr (.inr (.inr (.inr f)))))]) [8, 9] rfl
  have hDc := hD.sub (ws' := [(h0, .inr (8, [.ref s1, .ref s2, .ref s3, .ref s4, .ref s5, .ref s6, .int ds, va_rf sp, va_rf bt])), (s1, .inl (cO, 4, .inr (.inr (.inr (.inr f)))))]) [8, 9] (by decide) rfl
  have hKc := hK.sub (tys' := [(cO, .object "DotBench$Sheet")]) [0] rfl
  have hFc := va_free (wc := [(h0, .inr (8, [.ref s1, .ref s2, .ref s3, .ref s4, .ref s5, .ref s6, .int ds, va_rf sp, va_rf bt])), (s1, .inl (cO, 4, .inr (.inr (.inr (.inr f)))))]) hD hS hA [8, 9] rfl
  refine va_callq (va_runV (As := [.int kq]) (rest := []) ⟨hx, hb, hml, hown, hts⟩ (k_X8_sheetAt_y l D H.size h0 s1 s2 s3 s4 s5 s6 ds sp bt f kq t0 cO (by first | assumption | omega | decide) (by first | assumption | omega | decide)) (cwV 1 hts (gV bw_267 bw_346 bw_347 bw_223 bw_345) rfl rfl rfl (by decide +kernel) ⟨(by rw [hR]; exact Nat.le_of_ble_eq_true rfl), (by rw [hR]; exact Nat.le_of_ble_eq_true rfl)⟩) ⟨cP_blind, va_recv hKc hPc (ci := 8) (q0 := 0) rfl rfl, cP_at hPc hKc hDc hN⟩ rfl rfl hl.1 rfl (lv_room (Nat.le_of_ble_eq_true rfl)) dX8_carry_9 ⟨(by rw [hR]; exact Nat.le_of_ble_eq_true rfl), (by rw [hR]; exact Nat.le_of_ble_eq_true rfl)⟩) hS (fun q _ h => hFc q h) hFc (fun r_2 u9 t9 H1 locs ht hvm hr_2 hB hz1 hk1 hS => ?_)
  try dsimp only at hr_2
  obtain ⟨hP1, hK1, hD1⟩ := hB
  rw [ht] at hP1
  obtain ⟨hP, hD⟩ := va_join (wr := [(s2, .inr (1, [.ref bx, .int ik, .int wy, .int op])), (bx, .inr (0, [.int bx0, .int by0, .int bx1, .int by1])), (t0, .inr (5, [.ref d0, .int w, .int h])), (d0, .inl (cI, 4096, .inl g)), (u0, .inr (5, [.ref e0, .int w2, .int h2])), (e0, .inl (cI, 4096, .inl gs)), (fa, .inr (2, [.int ax, .int ay, .int aw, .int ah])), (fb, .inr (2, [.int ox, .int oy, .int ow, .int oh]))]) (w1 := [(h0, .inr (8, [.ref s1, .ref s2, .ref s3, .ref s4, .ref s5, .ref s6, .int ds, va_rf sp, va_rf bt])), (s1, .inl (cO, 4, .inr (.inr (.inr (.inr f)))))]) hP hD [8, 9] [0, 1, 2, 3, 4, 5, 6, 7] rfl rfl (by decide) (by decide) hk1 hFc hP1 hD1
  clear hz1 hk1 hFc hKc hDc hPc
  generalize H1 = H at hP hS ⊢
  have hP : va_P D vwCl [(s2, .inr (1, [.ref bx, .int ik, .int wy, .int op])), (bx, .inr (0, [.int bx0, .int by0, .int bx1, .int by1])), (t0, .inr (5, [.ref d0, .int w, .int h])), (d0, .inl (cI, 4096, .inl g)), (u0, .inr (5, [.ref e0, .int w2, .int h2])), (e0, .inl (cI, 4096, .inl gs)), (fa, .inr (2, [.int ax, .int ay, .int aw, .int ah])), (fb, .inr (2, [.int ox, .int oy, .int ow, .int oh])), (h0, .inr (8, [.ref s1, .ref s2, .ref s3, .ref s4, .ref s5, .ref s6, .int ds, va_rf sp, va_rf bt])), (s1, .inl (cO, 4, .inr (.inr (.inr (.inr f)))))] H := hP
  have hD : va_D A [(s2, .inr (1, [.ref bx, .int ik, .int wy, .int op])), (bx, .inr (0, [.int bx0, .int by0, .int bx1, .int by1])), (t0, .inr (5, [.ref d0, .int w, .int h])), (d0, .inl (cI, 4096, .inl g)), (u0, .inr (5, [.ref e0, .int w2, .int h2])), (e0, .inl (cI, 4096, .inl gs)), (fa, .inr (2, [.int ax, .int ay, .int aw, .int ah])), (fb, .inr (2, [.int ox, .int oy, .int ow, .int oh])), (h0, .inr (8, [.ref s1, .ref s2, .ref s3, .ref s4, .ref s5, .ref s6, .int ds, va_rf sp, va_rf bt])), (s1, .inl (cO, 4, .inr (.inr (.inr (.inr f)))))] := hD
  subst hr_2
  refine my_topv (v := .ref t0) rfl ?_
  refine lv_astore (lv' := [(6, .ref t0), (5, .ref u0), (0, .ref h0), (1, .int k), (2, .ref fa), (3, .int kq), (4, .ref fb)]) hx hb dX8_carry_12 hl (by decide) rfl (fun ls hl => ?_)
  refine lv_aload hx hb dX8_carry_14 (lv_at hl 1 rfl) ?_
  refine lv_ifnull hx hb dX8_carry_16 ?_
  refine lv_aload hx hb dX8_carry_19 (lv_at hl 0 rfl) ?_
  refine lv_ifnull hx hb dX8_carry_21 ?_
  refine lv_aload_n hx hb dX8_carry_24 rfl (lv_at hl 4 rfl) ?_
  have hPc := hP.sub (ws' := [(fa, .inr (2, [.int ax, .int ay, .int aw, .int ah]))]) [6] rfl
  have hDc := hD.sub (ws' := [(fa, .inr (2, [.int ax, .int ay, .int aw, .int ah]))]) [6] (by decide) rfl
  have hKc := hK.sub (tys' := []) [] rfl
  have hFc := va_free (wc := [(fa, .inr (2, [.int ax, .int ay, .int aw, .int ah]))]) hD hS hA [6] rfl
  refine va_calli (va_runV (As := []) (rest := []) ⟨hx, hb, hml, hown, hts⟩ (k_X2_isNearby l D H.size fa ax ay aw ah) (cwV 0 hts (gV bw_385 bw_65 bw_66 bw_55 bw_64) rfl rfl rfl (by decide +kernel) ⟨(by rw [hR]; exact Nat.le_of_ble_eq_true rfl), (by rw [hR]; exact Nat.le_of_ble_eq_true rfl)⟩) ⟨cP_blind, va_recv hKc hPc (ci := 2) (q0 := 0) rfl rfl, cP_at hPc hKc hDc hN⟩ rfl rfl hl.1 rfl (lv_room (Nat.le_of_ble_eq_true rfl)) dX8_carry_25 ⟨(by rw [hR]; exact Nat.le_of_ble_eq_true rfl), (by rw [hR]; exact Nat.le_of_ble_eq_true rfl)⟩) hS (fun q _ h => hFc q h) hFc (fun r_3 u9 t9 H1 locs ht hvm hr_3 hB hz1 hk1 hS => ?_)
  try dsimp only at hr_3
  obtain ⟨hP1, hK1, hD1⟩ := hB
  rw [ht] at hP1
  obtain ⟨hP, hD⟩ := va_join (wr := [(s2, .inr (1, [.ref bx, .int ik, .int wy, .int op])), (bx, .inr (0, [.int bx0, .int by0, .int bx1, .int by1])), (t0, .inr (5, [.ref d0, .int w, .int h])), (d0, .inl (cI, 4096, .inl g)), (u0, .inr (5, [.ref e0, .int w2, .int h2])), (e0, .inl (cI, 4096, .inl gs)), (fb, .inr (2, [.int ox, .int oy, .int ow, .int oh])), (h0, .inr (8, [.ref s1, .ref s2, .ref s3, .ref s4, .ref s5, .ref s6, .int ds, va_rf sp, va_rf bt])), (s1, .inl (cO, 4, .inr (.inr (.inr (.inr f)))))]) (w1 := [(fa, .inr (2, [.int ax, .int ay, .int aw, .int ah]))]) hP hD [6] [0, 1, 2, 3, 4, 5, 7, 8, 9] rfl rfl (by decide) (by decide) hk1 hFc hP1 hD1
  clear hz1 hk1 hFc hKc hDc hPc
  generalize H1 = H at hP hS ⊢
  have hP : va_P D vwCl [(s2, .inr (1, [.ref bx, .int ik, .int wy, .int op])), (bx, .inr (0, [.int bx0, .int by0, .int bx1, .int by1])), (t0, .inr (5, [.ref d0, .int w, .int h])), (d0, .inl (cI, 4096, .inl g)), (u0, .inr (5, [.ref e0, .int w2, .int h2])), (e0, .inl (cI, 4096, .inl gs)), (fb, .inr (2, [.int ox, .int oy, .int ow, .int oh])), (h0, .inr (8, [.ref s1, .ref s2, .ref s3, .ref s4, .ref s5, .ref s6, .int ds, va_rf sp, va_rf bt])), (s1, .inl (cO, 4, .inr (.inr (.inr (.inr f))))), (fa, .inr (2, [.int ax, .int ay, .int aw, .int ah]))] H := hP
  have hD : va_D A [(s2, .inr (1, [.ref bx, .int ik, .int wy, .int op])), (bx, .inr (0, [.int bx0, .int by0, .int bx1, .int by1])), (t0, .inr (5, [.ref d0, .int w, .int h])), (d0, .inl (cI, 4096, .inl g)), (u0, .inr (5, [.ref e0, .int w2, .int h2])), (e0, .inl (cI, 4096, .inl gs)), (fb, .inr (2, [.int ox, .int oy, .int ow, .int oh])), (h0, .inr (8, [.ref s1, .ref s2, .ref s3, .ref s4, .ref s5, .ref s6, .int ds, va_rf sp, va_rf bt])), (s1, .inl (cO, 4, .inr (.inr (.inr (.inr f))))), (fa, .inr (2, [.int ax, .int ay, .int aw, .int ah]))] := hD
  refine lv_if_eq (tgt := 39) hx hb dX8_carry_28 (by decide) (fun c_4 => ?_) (fun c_4 => ?_)
  · skip
    have f_5 := bz0 hr_3 c_4
    exact False.elim (by omega)
  · skip
    have f_5 := bz1 hr_3 c_4
    refine lv_aload hx hb dX8_carry_31 (lv_at hl 6 rfl) ?_
    have hPc := hP.sub (ws' := [(fb, .inr (2, [.int ox, .int oy, .int ow, .int oh]))]) [6] rfl
    have hDc := hD.sub (ws' := [(fb, .inr (2, [.int ox, .int oy, .int ow, .int oh]))]) [6] (by decide) rfl
    have hKc := hK.sub (tys' := []) [] rfl
    have hFc := va_free (wc := [(fb, .inr (2, [.int ox, .int oy, .int ow, .int oh]))]) hD hS hA [6] rfl
    refine va_calli (va_runV (As := []) (rest := []) ⟨hx, hb, hml, hown, hts⟩ (k_X2_isNearby l D H.size fb ox oy ow oh) (cwV 0 hts (gV bw_385 bw_65 bw_66 bw_55 bw_64) rfl rfl rfl (by decide +kernel) ⟨(by rw [hR]; exact Nat.le_of_ble_eq_true rfl), (by rw [hR]; exact Nat.le_of_ble_eq_true rfl)⟩) ⟨cP_blind, va_recv hKc hPc (ci := 2) (q0 := 0) rfl rfl, cP_at hPc hKc hDc hN⟩ rfl rfl hl.1 rfl (lv_room (Nat.le_of_ble_eq_true rfl)) dX8_carry_33 ⟨(by rw [hR]; exact Nat.le_of_ble_eq_true rfl), (by rw [hR]; exact Nat.le_of_ble_eq_true rfl)⟩) hS (fun q _ h => hFc q h) hFc (fun r_6 u9 t9 H1 locs ht hvm hr_6 hB hz1 hk1 hS => ?_)
    try dsimp only at hr_6
    obtain ⟨hP1, hK1, hD1⟩ := hB
    rw [ht] at hP1
    obtain ⟨hP, hD⟩ := va_join (wr := [(s2, .inr (1, [.ref bx, .int ik, .int wy, .int op])), (bx, .inr (0, [.int bx0, .int by0, .int bx1, .int by1])), (t0, .inr (5, [.ref d0, .int w, .int h])), (d0, .inl (cI, 4096, .inl g)), (u0, .inr (5, [.ref e0, .int w2, .int h2])), (e0, .inl (cI, 4096, .inl gs)), (h0, .inr (8, [.ref s1, .ref s2, .ref s3, .ref s4, .ref s5, .ref s6, .int ds, va_rf sp, va_rf bt])), (s1, .inl (cO, 4, .inr (.inr (.inr (.inr f))))), (fa, .inr (2, [.int ax, .int ay, .int aw, .int ah]))]) (w1 := [(fb, .inr (2, [.int ox, .int oy, .int ow, .int oh]))]) hP hD [6] [0, 1, 2, 3, 4, 5, 7, 8, 9] rfl rfl (by decide) (by decide) hk1 hFc hP1 hD1
    clear hz1 hk1 hFc hKc hDc hPc
    generalize H1 = H at hP hS ⊢
    have hP : va_P D vwCl [(s2, .inr (1, [.ref bx, .int ik, .int wy, .int op])), (bx, .inr (0, [.int bx0, .int by0, .int bx1, .int by1])), (t0, .inr (5, [.ref d0, .int w, .int h])), (d0, .inl (cI, 4096, .inl g)), (u0, .inr (5, [.ref e0, .int w2, .int h2])), (e0, .inl (cI, 4096, .inl gs)), (h0, .inr (8, [.ref s1, .ref s2, .ref s3, .ref s4, .ref s5, .ref s6, .int ds, va_rf sp, va_rf bt])), (s1, .inl (cO, 4, .inr (.inr (.inr (.inr f))))), (fa, .inr (2, [.int ax, .int ay, .int aw, .int ah])), (fb, .inr (2, [.int ox, .int oy, .int ow, .int oh]))] H := hP
    have hD : va_D A [(s2, .inr (1, [.ref bx, .int ik, .int wy, .int op])), (bx, .inr (0, [.int bx0, .int by0, .int bx1, .int by1])), (t0, .inr (5, [.ref d0, .int w, .int h])), (d0, .inl (cI, 4096, .inl g)), (u0, .inr (5, [.ref e0, .int w2, .int h2])), (e0, .inl (cI, 4096, .inl gs)), (h0, .inr (8, [.ref s1, .ref s2, .ref s3, .ref s4, .ref s5, .ref s6, .int ds, va_rf sp, va_rf bt])), (s1, .inl (cO, 4, .inr (.inr (.inr (.inr f))))), (fa, .inr (2, [.int ax, .int ay, .int aw, .int ah])), (fb, .inr (2, [.int ox, .int oy, .int ow, .int oh]))] := hD
    refine lv_if_ne (tgt := 41) hx hb dX8_carry_36 (by decide) (fun c_7 => ?_) (fun c_7 => ?_)
    · skip
      have f_8 := bz1 hr_6 c_7
      refine lv_iload_n hx hb dX8_carry_41 rfl (lv_at hl 3 rfl) ?_
      refine lv_iload_n hx hb dX8_carry_42 rfl (lv_at hl 5 rfl) ?_
      refine lv_icmp_ne (tgt := 54) hx hb dX8_carry_43 (by decide) (fun c_9 => ?_) (fun c_9 => ?_)
      · skip
        have f_10 : ¬ (k.toInt = kq.toInt) := fn_eq rfl rfl c_9
        obtain ⟨W9, hW9, eW9⟩ := i_of (x := ow) (N := 65) (by omega) (by omega) (by decide)
        have eW9n : ow.toNatClampNeg = W9 := by rw [eW9]; exact nI_clamp (by omega)
        have hW9t : ow.toInt = (W9 : Int) := by rw [eW9]; exact nI_toInt (by omega)
        obtain ⟨H9, hH9, eH9⟩ := i_of (x := oh) (N := 65) (by omega) (by omega) (by decide)
        have eH9n : oh.toNatClampNeg = H9 := by rw [eH9]; exact nI_clamp (by omega)
        have hH9t : oh.toInt = (H9 : Int) := by rw [eH9]; exact nI_toInt (by omega)
        refine lv_iconst (v := 0) hx hb dX8_carry_54 (by decide) ?_
        refine lv_istore (lv' := [(7, .int 0), (6, .ref t0), (5, .ref u0), (0, .ref h0), (1, .int k), (2, .ref fa), (3, .int kq), (4, .ref fb)]) hx hb dX8_carry_55 hl (by decide) rfl (fun ls hl => ?_)
        refine lv_iconst (v := 0) hx hb dX8_carry_57 (by decide) ?_
        refine lv_istore (lv' := [(8, .int 0), (7, .int 0), (6, .ref t0), (5, .ref u0), (0, .ref h0), (1, .int k), (2, .ref fa), (3, .int kq), (4, .ref fb)]) hx hb dX8_carry_58 hl (by decide) rfl (fun ls hl => ?_)
        have loop_11 : ∀ (n : Nat) (j : Nat) (x8 : Int32) (x7 : Int32) (ga : Nat → Int32) (H : Heap) (locs : List Loc) (ls : Array Slot), (j ≤ 64) → (64 + 1 ≤ j + n) → (x8 = nI j) → (j ≤ H9) → (ga = (gL (cyQ ax ay aw ah ox oy ow oh w2 h2 op gs) W9 j).foldl (layG w h bx0 by0 bx1 by1 wy) g) → (x7 = (gL (cyQ ax ay aw ah ox oy ow oh w2 h2 op gs) W9 j).foldl (layT w h bx0 by0 bx1 by1) 0) → va_P D vwCl [(s2, .inr (1, [.ref bx, .int ik, .int wy, .int op])), (bx, .inr (0, [.int bx0, .int by0, .int bx1, .int by1])), (t0, .inr (5, [.ref d0, .int w, .int h])), (d0, .inl (cI, 4096, .inl ga)), (u0, .inr (5, [.ref e0, .int w2, .int h2])), (e0, .inl (cI, 4096, .inl gs)), (h0, .inr (8, [.ref s1, .ref s2, .ref s3, .ref s4, .ref s5, .ref s6, .int ds, va_rf sp, va_rf bt])), (s1, .inl (cO, 4, .inr (.inr (.inr (.inr f))))), (fa, .inr (2, [.int ax, .int ay, .int aw, .int ah])), (fb, .inr (2, [.int ox, .int oy, .int ow, .int oh]))] H → va_D A [(s2, .inr (1, [.ref bx, .int ik, .int wy, .int op])), (bx, .inr (0, [.int bx0, .int by0, .int bx1, .int by1])), (t0, .inr (5, [.ref d0, .int w, .int h])), (d0, .inl (cI, 4096, .inl ga)), (u0, .inr (5, [.ref e0, .int w2, .int h2])), (e0, .inl (cI, 4096, .inl gs)), (h0, .inr (8, [.ref s1, .ref s2, .ref s3, .ref s4, .ref s5, .ref s6, .int ds, va_rf sp, va_rf bt])), (s1, .inl (cO, 4, .inr (.inr (.inr (.inr f))))), (fa, .inr (2, [.int ax, .int ay, .int aw, .int ah])), (fb, .inr (2, [.int ox, .int oy, .int ow, .int oh]))] → va_S A s.heap H locs → lv_has ls 12 [(8, .int x8), (7, .int x7), (6, .ref t0), (5, .ref u0), (0, .ref h0), (1, .int k), (2, .ref fa), (3, .int kq), (4, .ref fb)] → W p l e R s m ([.ref h0, .int k, .ref fa, .int kq, .ref fb] : List Value).toArray below meth c H locs 0 0 Q (F0 m 60 ls []) := by
          intro n
          induction n with
          | zero =>
            intro j x8 x7 ga H locs ls hi_j hm_j ex_j hjo hgo eto hP hD hS hl
            exact absurd (show False by omega) not_false
          | succ n ih_12 =>
            intro j x8 x7 ga H locs ls hi_j hm_j ex_j hjo hgo eto hP hD hS hl
            have hx_j : x8.toInt = (j : Int) := by rw [ex_j]; exact nI_toInt (by omega)
            have hc_j : x8.toNatClampNeg = j := by rw [ex_j]; exact nI_clamp (by omega)
            refine lv_iload hx hb dX8_carry_60 (lv_at hl 0 rfl) ?_
            refine lv_aload hx hb dX8_carry_62 (lv_at hl 8 rfl) ?_
            refine va_getN (host := RX8) (D := D) (ci := 2) (v := .int oh) (C := RX2) (T := TX2) (N := 4) hx hb hts hi_X2 hown hK hP 9 rfl rfl 3 (by decide) ((hN.1 (RX8, 238, "DotBench$Frame", "h", "I", RX8) (by decide +kernel)).use rfl) (fun _ h9 => h9) rfl dX8_carry_64 ?_
            refine lv_icmp_ge (tgt := 193) hx hb dX8_carry_67 (by decide) (fun c_13 => ?_) (fun c_13 => ?_)
            · skip
              have f_14 : oh.toInt ≤ (j : Int) := f_le rfl hx_j c_13
              refine lv_iload hx hb dX8_carry_193 (lv_at hl 1 rfl) ?_
              have hP : va_P D vwCl [(s2, .inr (1, [.ref bx, .int ik, .int wy, .int op])), (bx, .inr (0, [.int bx0, .int by0, .int bx1, .int by1])), (t0, .inr (5, [.ref d0, .int w, .int h])), (d0, .inl (cI, 4096, .inl ((gL (cyQ ax ay aw ah ox oy ow oh w2 h2 op gs) ow.toNatClampNeg oh.toNatClampNeg).foldl (layG w h bx0 by0 bx1 by1 wy) g))), (u0, .inr (5, [.ref e0, .int w2, .int h2])), (e0, .inl (cI, 4096, .inl gs)), (h0, .inr (8, [.ref s1, .ref s2, .ref s3, .ref s4, .ref s5, .ref s6, .int ds, va_rf sp, va_rf bt])), (s1, .inl (cO, 4, .inr (.inr (.inr (.inr f))))), (fa, .inr (2, [.int ax, .int ay, .int aw, .int ah])), (fb, .inr (2, [.int ox, .int oy, .int ow, .int oh]))] H := by rw [eW9n, eH9n, ← show j = H9 by omega, ← hgo]; exact hP
              have hD : va_D A [(s2, .inr (1, [.ref bx, .int ik, .int wy, .int op])), (bx, .inr (0, [.int bx0, .int by0, .int bx1, .int by1])), (t0, .inr (5, [.ref d0, .int w, .int h])), (d0, .inl (cI, 4096, .inl ((gL (cyQ ax ay aw ah ox oy ow oh w2 h2 op gs) ow.toNatClampNeg oh.toNatClampNeg).foldl (layG w h bx0 by0 bx1 by1 wy) g))), (u0, .inr (5, [.ref e0, .int w2, .int h2])), (e0, .inl (cI, 4096, .inl gs)), (h0, .inr (8, [.ref s1, .ref s2, .ref s3, .ref s4, .ref s5, .ref s6, .int ds, va_rf sp, va_rf bt])), (s1, .inl (cO, 4, .inr (.inr (.inr (.inr f))))), (fa, .inr (2, [.int ax, .int ay, .int aw, .int ah])), (fb, .inr (2, [.int ox, .int oy, .int ow, .int oh]))] := by rw [eW9n, eH9n, ← show j = H9 by omega, ← hgo]; exact hD
              have hP9 := hP.sub (ws' := [(h0, .inr (8, [.ref s1, .ref s2, .ref s3, .ref s4, .ref s5, .ref s6, .int ds, va_rf sp, va_rf bt])), (s1, .inl (cO, 4, .inr (.inr (.inr (.inr f))))), (s2, .inr (1, [.ref bx, .int ik, .int wy, .int op])), (bx, .inr (0, [.int bx0, .int by0, .int bx1, .int by1])), (t0, .inr (5, [.ref d0, .int w, .int h])), (d0, .inl (cI, 4096, .inl ((gL (cyQ ax ay aw ah ox oy ow oh w2 h2 op gs) ow.toNatClampNeg oh.toNatClampNeg).foldl (layG w h bx0 by0 bx1 by1 wy) g))), (u0, .inr (5, [.ref e0, .int w2, .int h2])), (e0, .inl (cI, 4096, .inl gs))]) [6, 7, 0, 1, 2, 3, 4, 5] rfl
              have hD9 := hD.sub (ws' := [(h0, .inr (8, [.ref s1, .ref s2, .ref s3, .ref s4, .ref s5, .ref s6, .int ds, va_rf sp, va_rf bt])), (s1, .inl (cO, 4, .inr (.inr (.inr (.inr f))))), (s2, .inr (1, [.ref bx, .int ik, .int wy, .int op])), (bx, .inr (0, [.int bx0, .int by0, .int bx1, .int by1])), (t0, .inr (5, [.ref d0, .int w, .int h])), (d0, .inl (cI, 4096, .inl ((gL (cyQ ax ay aw ah ox oy ow oh w2 h2 op gs) ow.toNatClampNeg oh.toNatClampNeg).foldl (layG w h bx0 by0 bx1 by1 wy) g))), (u0, .inr (5, [.ref e0, .int w2, .int h2])), (e0, .inl (cI, 4096, .inl gs))]) [6, 7, 0, 1, 2, 3, 4, 5] (by decide) rfl
              have hK9 := hK.sub (tys' := [(cO, .object "DotBench$Sheet"), (cI, .int)]) [0, 1] rfl
              refine hQ _ _ _ _ _ ?_
              exact W.iret (v := x7) hx hb hr (fun t ht hW => ⟨⟨x7, (), rfl, (by rw [eW9n, eH9n, ← show j = H9 by omega]; exact eto), ⟨by rw [ht]; exact hP9, va_K.moved hW.alike hK9, hD9⟩⟩, hS.F ht⟩) hS.2.2 dX8_carry_195
            · skip
              have f_14 : ¬ (oh.toInt ≤ (j : Int)) := fn_le rfl hx_j c_13
              refine lv_aload_n hx hb dX8_carry_70 rfl (lv_at hl 6 rfl) ?_
              refine va_getN (host := RX8) (D := D) (ci := 2) (v := .int ay) (C := RX2) (T := TX2) (N := 4) hx hb hts hi_X2 hown hK hP 8 rfl rfl 1 (by decide) ((hN.1 (RX8, 241, "DotBench$Frame", "y", "I", RX8) (by decide +kernel)).use rfl) (fun _ h9 => h9) rfl dX8_carry_71 ?_
              refine lv_iload hx hb dX8_carry_74 (lv_at hl 0 rfl) ?_
              refine lv_aload_n hx hb dX8_carry_76 rfl (lv_at hl 6 rfl) ?_
              refine va_getN (host := RX8) (D := D) (ci := 2) (v := .int ah) (C := RX2) (T := TX2) (N := 4) hx hb hts hi_X2 hown hK hP 8 rfl rfl 3 (by decide) ((hN.1 (RX8, 238, "DotBench$Frame", "h", "I", RX8) (by decide +kernel)).use rfl) (fun _ h9 => h9) rfl dX8_carry_77 ?_
              refine lv_imul hx hb dX8_carry_80 ?_
              refine lv_topi (fun y_15 ey_15 => ?_)
              refine lv_aload hx hb dX8_carry_81 (lv_at hl 8 rfl) ?_
              refine va_getN (host := RX8) (D := D) (ci := 2) (v := .int oh) (C := RX2) (T := TX2) (N := 4) hx hb hts hi_X2 hown hK hP 9 rfl rfl 3 (by decide) ((hN.1 (RX8, 238, "DotBench$Frame", "h", "I", RX8) (by decide +kernel)).use rfl) (fun _ h9 => h9) rfl dX8_carry_83 ?_
              refine lv_idiv hx hb dX8_carry_86 (ne0_of (by omega)) ?_
              refine lv_topi (fun y_16 ey_16 => ?_)
              refine lv_iadd hx hb dX8_carry_87 ?_
              refine lv_topi (fun y_17 ey_17 => ?_)
              have hcyy_17 : y_17 = cyX ay ah oh j := by rw [ey_17, ey_16, ey_15, ex_j]; rfl
              refine lv_istore (lv' := [(9, .int y_17), (8, .int x8), (7, .int x7), (6, .ref t0), (5, .ref u0), (0, .ref h0), (1, .int k), (2, .ref fa), (3, .int kq), (4, .ref fb)]) hx hb dX8_carry_88 hl (by decide) rfl (fun ls hl => ?_)
              refine lv_iconst (v := 0) hx hb dX8_carry_90 (by decide) ?_
              refine lv_istore (lv' := [(10, .int 0), (9, .int y_17), (8, .int x8), (7, .int x7), (6, .ref t0), (5, .ref u0), (0, .ref h0), (1, .int k), (2, .ref fa), (3, .int kq), (4, .ref fb)]) hx hb dX8_carry_91 hl (by decide) rfl (fun ls hl => ?_)
              have loop_18 : ∀ (n : Nat) (i : Nat) (x10 : Int32) (z7 : Int32) (gz : Nat → Int32) (H : Heap) (locs : List Loc) (ls : Array Slot), (i ≤ 64) → (64 + 1 ≤ i + n) → (x10 = nI i) → (i ≤ W9) → (gz = (gL (cyQ ax ay aw ah ox oy ow oh w2 h2 op gs) W9 j ++ gR (cyQ ax ay aw ah ox oy ow oh w2 h2 op gs) j i).foldl (layG w h bx0 by0 bx1 by1 wy) g) → (z7 = (gL (cyQ ax ay aw ah ox oy ow oh w2 h2 op gs) W9 j ++ gR (cyQ ax ay aw ah ox oy ow oh w2 h2 op gs) j i).foldl (layT w h bx0 by0 bx1 by1) 0) → va_P D vwCl [(s2, .inr (1, [.ref bx, .int ik, .int wy, .int op])), (bx, .inr (0, [.int bx0, .int by0, .int bx1, .int by1])), (t0, .inr (5, [.ref d0, .int w, .int h])), (d0, .inl (cI, 4096, .inl gz)), (u0, .inr (5, [.ref e0, .int w2, .int h2])), (e0, .inl (cI, 4096, .inl gs)), (h0, .inr (8, [.ref s1, .ref s2, .ref s3, .ref s4, .ref s5, .ref s6, .int ds, va_rf sp, va_rf bt])), (s1, .inl (cO, 4, .inr (.inr (.inr (.inr f))))), (fa, .inr (2, [.int ax, .int ay, .int aw, .int ah])), (fb, .inr (2, [.int ox, .int oy, .int ow, .int oh]))] H → va_D A [(s2, .inr (1, [.ref bx, .int ik, .int wy, .int op])), (bx, .inr (0, [.int bx0, .int by0, .int bx1, .int by1])), (t0, .inr (5, [.ref d0, .int w, .int h])), (d0, .inl (cI, 4096, .inl gz)), (u0, .inr (5, [.ref e0, .int w2, .int h2])), (e0, .inl (cI, 4096, .inl gs)), (h0, .inr (8, [.ref s1, .ref s2, .ref s3, .ref s4, .ref s5, .ref s6, .int ds, va_rf sp, va_rf bt])), (s1, .inl (cO, 4, .inr (.inr (.inr (.inr f))))), (fa, .inr (2, [.int ax, .int ay, .int aw, .int ah])), (fb, .inr (2, [.int ox, .int oy, .int ow, .int oh]))] → va_S A s.heap H locs → lv_has ls 12 [(10, .int x10), (9, .int y_17), (8, .int x8), (7, .int z7), (6, .ref t0), (5, .ref u0), (0, .ref h0), (1, .int k), (2, .ref fa), (3, .int kq), (4, .ref fb)] → W p l e R s m ([.ref h0, .int k, .ref fa, .int kq, .ref fb] : List Value).toArray below meth c H locs 0 0 Q (F0 m 93 ls []) := by
                intro n
                induction n with
                | zero =>
                  intro i x10 z7 gz H locs ls hi_i hm_i ex_i hio hgi eti hP hD hS hl
                  exact absurd (show False by omega) not_false
                | succ n ih_19 =>
                  intro i x10 z7 gz H locs ls hi_i hm_i ex_i hio hgi eti hP hD hS hl
                  have hx_i : x10.toInt = (i : Int) := by rw [ex_i]; exact nI_toInt (by omega)
                  have hc_i : x10.toNatClampNeg = i := by rw [ex_i]; exact nI_clamp (by omega)
                  refine lv_iload hx hb dX8_carry_93 (lv_at hl 0 rfl) ?_
                  refine lv_aload hx hb dX8_carry_95 (lv_at hl 10 rfl) ?_
                  refine va_getN (host := RX8) (D := D) (ci := 2) (v := .int ow) (C := RX2) (T := TX2) (N := 4) hx hb hts hi_X2 hown hK hP 9 rfl rfl 2 (by decide) ((hN.1 (RX8, 244, "DotBench$Frame", "w", "I", RX8) (by decide +kernel)).use rfl) (fun _ h9 => h9) rfl dX8_carry_97 ?_
                  refine lv_icmp_ge (tgt := 187) hx hb dX8_carry_100 (by decide) (fun c_20 => ?_) (fun c_20 => ?_)
                  · skip
                    have f_21 : ow.toInt ≤ (i : Int) := f_le rfl hx_i c_20
                    obtain ⟨y_22, ey_22⟩ : ∃ y : Int32, y = x8 + 1 := ⟨_, rfl⟩
                    refine lv_iinc (v := y_22) (lv' := [(8, .int y_22), (10, .int x10), (9, .int y_17), (7, .int z7), (6, .ref t0), (5, .ref u0), (0, .ref h0), (1, .int k), (2, .ref fa), (3, .int kq), (4, .ref fb)]) hx hb dX8_carry_187 hl (k := 2) rfl (by rw [ey_22]; rfl) (by decide) rfl (fun ls hl => ?_)
                    refine lv_goto (tgt := 60) hx hb dX8_carry_190 (by decide) ?_
                    exact ih_12 (j + 1) y_22 z7 gz _ _ _ (by omega) (by omega) (by rw [ey_22, ex_j]; exact nI_1 j) (by omega) (gl_nx hgi (by omega)) (gl_nx eti (by omega)) (hP.sub (ws' := [(s2, .inr (1, [.ref bx, .int ik, .int wy, .int op])), (bx, .inr (0, [.int bx0, .int by0, .int bx1, .int by1])), (t0, .inr (5, [.ref d0, .int w, .int h])), (d0, .inl (cI, 4096, .inl gz)), (u0, .inr (5, [.ref e0, .int w2, .int h2])), (e0, .inl (cI, 4096, .inl gs)), (h0, .inr (8, [.ref s1, .ref s2, .ref s3, .ref s4, .ref s5, .ref s6, .int ds, va_rf sp, va_rf bt])), (s1, .inl (cO, 4, .inr (.inr (.inr (.inr f))))), (fa, .inr (2, [.int ax, .int ay, .int aw, .int ah])), (fb, .inr (2, [.int ox, .int oy, .int ow, .int oh]))]) [0, 1, 2, 3, 4, 5, 6, 7, 8, 9] rfl) (hD.sub (ws' := [(s2, .inr (1, [.ref bx, .int ik, .int wy, .int op])), (bx, .inr (0, [.int bx0, .int by0, .int bx1, .int by1])), (t0, .inr (5, [.ref d0, .int w, .int h])), (d0, .inl (cI, 4096, .inl gz)), (u0, .inr (5, [.ref e0, .int w2, .int h2])), (e0, .inl (cI, 4096, .inl gs)), (h0, .inr (8, [.ref s1, .ref s2, .ref s3, .ref s4, .ref s5, .ref s6, .int ds, va_rf sp, va_rf bt])), (s1, .inl (cO, 4, .inr (.inr (.inr (.inr f))))), (fa, .inr (2, [.int ax, .int ay, .int aw, .int ah])), (fb, .inr (2, [.int ox, .int oy, .int ow, .int oh]))]) [0, 1, 2, 3, 4, 5, 6, 7, 8, 9] (by decide) rfl) hS (lv_sub hl [0, 3, 4, 5, 6, 7, 8, 9, 10] rfl)
                  · skip
                    have f_21 : ¬ (ow.toInt ≤ (i : Int)) := fn_le rfl hx_i c_20
                    refine lv_aload_n hx hb dX8_carry_103 rfl (lv_at hl 8 rfl) ?_
                    refine va_getN (host := RX8) (D := D) (ci := 2) (v := .int ax) (C := RX2) (T := TX2) (N := 4) hx hb hts hi_X2 hown hK hP 8 rfl rfl 0 (by decide) ((hN.1 (RX8, 247, "DotBench$Frame", "x", "I", RX8) (by decide +kernel)).use rfl) (fun _ h9 => h9) rfl dX8_carry_104 ?_
                    refine lv_iload hx hb dX8_carry_107 (lv_at hl 0 rfl) ?_
                    refine lv_aload_n hx hb dX8_carry_109 rfl (lv_at hl 8 rfl) ?_
                    refine va_getN (host := RX8) (D := D) (ci := 2) (v := .int aw) (C := RX2) (T := TX2) (N := 4) hx hb hts hi_X2 hown hK hP 8 rfl rfl 2 (by decide) ((hN.1 (RX8, 244, "DotBench$Frame", "w", "I", RX8) (by decide +kernel)).use rfl) (fun _ h9 => h9) rfl dX8_carry_110 ?_
                    refine lv_imul hx hb dX8_carry_113 ?_
                    refine lv_topi (fun y_23 ey_23 => ?_)
                    refine lv_aload hx hb dX8_carry_114 (lv_at hl 10 rfl) ?_
                    refine va_getN (host := RX8) (D := D) (ci := 2) (v := .int ow) (C := RX2) (T := TX2) (N := 4) hx hb hts hi_X2 hown hK hP 9 rfl rfl 2 (by decide) ((hN.1 (RX8, 244, "DotBench$Frame", "w", "I", RX8) (by decide +kernel)).use rfl) (fun _ h9 => h9) rfl dX8_carry_116 ?_
                    refine lv_idiv hx hb dX8_carry_119 (ne0_of (by omega)) ?_
                    refine lv_topi (fun y_24 ey_24 => ?_)
                    refine lv_iadd hx hb dX8_carry_120 ?_
                    refine lv_topi (fun y_25 ey_25 => ?_)
                    have hcyy_25 : y_25 = cyX ax aw ow i := by rw [ey_25, ey_24, ey_23, ex_i]; rfl
                    refine lv_istore (lv' := [(11, .int y_25), (10, .int x10), (9, .int y_17), (8, .int x8), (7, .int z7), (6, .ref t0), (5, .ref u0), (0, .ref h0), (1, .int k), (2, .ref fa), (3, .int kq), (4, .ref fb)]) hx hb dX8_carry_121 hl (by decide) rfl (fun ls hl => ?_)
                    refine lv_aload hx hb dX8_carry_123 (lv_at hl 6 rfl) ?_
                    refine lv_iload hx hb dX8_carry_125 (lv_at hl 0 rfl) ?_
                    refine lv_iload hx hb dX8_carry_127 (lv_at hl 2 rfl) ?_
                    have hPc := hP.sub (ws' := [(u0, .inr (5, [.ref e0, .int w2, .int h2]))]) [4] rfl
                    have hDc := hD.sub (ws' := [(u0, .inr (5, [.ref e0, .int w2, .int h2]))]) [4] (by decide) rfl
                    have hKc := hK.sub (tys' := []) [] rfl
                    have hFc := va_free (wc := [(u0, .inr (5, [.ref e0, .int w2, .int h2]))]) hD hS hA [4] rfl
                    refine va_calli (va_runV (As := [.int y_25, .int y_17]) (rest := []) ⟨hx, hb, hml, hown, hts⟩ (k_X5_has l D H.size u0 e0 w2 h2 y_25 y_17) (cwV 2 hts (gV bw_309 bw_150 bw_151 bw_130 bw_149) rfl rfl rfl (by decide +kernel) ⟨(by rw [hR]; exact Nat.le_of_ble_eq_true rfl), (by rw [hR]; exact Nat.le_of_ble_eq_true rfl)⟩) ⟨cP_blind, va_recv hKc hPc (ci := 5) (q0 := 0) rfl rfl, cP_at hPc hKc hDc hN⟩ rfl rfl hl.1 rfl (lv_room (Nat.le_of_ble_eq_true rfl)) dX8_carry_129 ⟨(by rw [hR]; exact Nat.le_of_ble_eq_true rfl), (by rw [hR]; exact Nat.le_of_ble_eq_true rfl)⟩) hS (fun q _ h => hFc q h) hFc (fun r_26 u9 t9 H1 locs ht hvm hr_26 hB hz1 hk1 hS => ?_)
                    try dsimp only at hr_26
                    obtain ⟨hP1, hK1, hD1⟩ := hB
                    rw [ht] at hP1
                    obtain ⟨hP, hD⟩ := va_join (wr := [(s2, .inr (1, [.ref bx, .int ik, .int wy, .int op])), (bx, .inr (0, [.int bx0, .int by0, .int bx1, .int by1])), (t0, .inr (5, [.ref d0, .int w, .int h])), (d0, .inl (cI, 4096, .inl gz)), (e0, .inl (cI, 4096, .inl gs)), (h0, .inr (8, [.ref s1, .ref s2, .ref s3, .ref s4, .ref s5, .ref s6, .int ds, va_rf sp, va_rf bt])), (s1, .inl (cO, 4, .inr (.inr (.inr (.inr f))))), (fa, .inr (2, [.int ax, .int ay, .int aw, .int ah])), (fb, .inr (2, [.int ox, .int oy, .int ow, .int oh]))]) (w1 := [(u0, .inr (5, [.ref e0, .int w2, .int h2]))]) hP hD [4] [0, 1, 2, 3, 5, 6, 7, 8, 9] rfl rfl (by decide) (by decide) hk1 hFc hP1 hD1
                    clear hz1 hk1 hFc hKc hDc hPc
                    generalize H1 = H at hP hS ⊢
                    have hP : va_P D vwCl [(s2, .inr (1, [.ref bx, .int ik, .int wy, .int op])), (bx, .inr (0, [.int bx0, .int by0, .int bx1, .int by1])), (t0, .inr (5, [.ref d0, .int w, .int h])), (d0, .inl (cI, 4096, .inl gz)), (e0, .inl (cI, 4096, .inl gs)), (h0, .inr (8, [.ref s1, .ref s2, .ref s3, .ref s4, .ref s5, .ref s6, .int ds, va_rf sp, va_rf bt])), (s1, .inl (cO, 4, .inr (.inr (.inr (.inr f))))), (fa, .inr (2, [.int ax, .int ay, .int aw, .int ah])), (fb, .inr (2, [.int ox, .int oy, .int ow, .int oh])), (u0, .inr (5, [.ref e0, .int w2, .int h2]))] H := hP
                    have hD : va_D A [(s2, .inr (1, [.ref bx, .int ik, .int wy, .int op])), (bx, .inr (0, [.int bx0, .int by0, .int bx1, .int by1])), (t0, .inr (5, [.ref d0, .int w, .int h])), (d0, .inl (cI, 4096, .inl gz)), (e0, .inl (cI, 4096, .inl gs)), (h0, .inr (8, [.ref s1, .ref s2, .ref s3, .ref s4, .ref s5, .ref s6, .int ds, va_rf sp, va_rf bt])), (s1, .inl (cO, 4, .inr (.inr (.inr (.inr f))))), (fa, .inr (2, [.int ax, .int ay, .int aw, .int ah])), (fb, .inr (2, [.int ox, .int oy, .int ow, .int oh])), (u0, .inr (5, [.ref e0, .int w2, .int h2]))] := hD
                    refine lv_if_eq (tgt := 181) hx hb dX8_carry_132 (by decide) (fun c_27 => ?_) (fun c_27 => ?_)
                    · skip
                      have f_28 := bz0 hr_26 c_27
                      obtain ⟨y_29, ey_29⟩ : ∃ y : Int32, y = x10 + 1 := ⟨_, rfl⟩
                      refine lv_iinc (v := y_29) (lv' := [(10, .int y_29), (11, .int y_25), (9, .int y_17), (8, .int x8), (7, .int z7), (6, .ref t0), (5, .ref u0), (0, .ref h0), (1, .int k), (2, .ref fa), (3, .int kq), (4, .ref fb)]) hx hb dX8_carry_181 hl (k := 1) rfl (by rw [ey_29]; rfl) (by decide) rfl (fun ls hl => ?_)
                      refine lv_goto (tgt := 93) hx hb dX8_carry_184 (by decide) ?_
                      exact ih_19 (i + 1) y_29 z7 gz _ _ _ (by omega) (by omega) (by rw [ey_29, ex_i]; exact nI_1 i) (by omega) (by rw [show gR (cyQ ax ay aw ah ox oy ow oh w2 h2 op gs) j (i + 1) = gR (cyQ ax ay aw ah ox oy ow oh w2 h2 op gs) j i ++ [] from congrArg (gR (cyQ ax ay aw ah ox oy ow oh w2 h2 op gs) j i ++ ·) (show (cyQ ax ay aw ah ox oy ow oh w2 h2 op gs) j i = [] from if_neg (by rw [← hcyy_25, ← hcyy_17]; exact f_28)), List.append_nil]; exact hgi) (by rw [show gR (cyQ ax ay aw ah ox oy ow oh w2 h2 op gs) j (i + 1) = gR (cyQ ax ay aw ah ox oy ow oh w2 h2 op gs) j i ++ [] from congrArg (gR (cyQ ax ay aw ah ox oy ow oh w2 h2 op gs) j i ++ ·) (show (cyQ ax ay aw ah ox oy ow oh w2 h2 op gs) j i = [] from if_neg (by rw [← hcyy_25, ← hcyy_17]; exact f_28)), List.append_nil]; exact eti) (hP.sub (ws' := [(s2, .inr (1, [.ref bx, .int ik, .int wy, .int op])), (bx, .inr (0, [.int bx0, .int by0, .int bx1, .int by1])), (t0, .inr (5, [.ref d0, .int w, .int h])), (d0, .inl (cI, 4096, .inl gz)), (u0, .inr (5, [.ref e0, .int w2, .int h2])), (e0, .inl (cI, 4096, .inl gs)), (h0, .inr (8, [.ref s1, .ref s2, .ref s3, .ref s4, .ref s5, .ref s6, .int ds, va_rf sp, va_rf bt])), (s1, .inl (cO, 4, .inr (.inr (.inr (.inr f))))), (fa, .inr (2, [.int ax, .int ay, .int aw, .int ah])), (fb, .inr (2, [.int ox, .int oy, .int ow, .int oh]))]) [0, 1, 2, 3, 9, 4, 5, 6, 7, 8] rfl) (hD.sub (ws' := [(s2, .inr (1, [.ref bx, .int ik, .int wy, .int op])), (bx, .inr (0, [.int bx0, .int by0, .int bx1, .int by1])), (t0, .inr (5, [.ref d0, .int w, .int h])), (d0, .inl (cI, 4096, .inl gz)), (u0, .inr (5, [.ref e0, .int w2, .int h2])), (e0, .inl (cI, 4096, .inl gs)), (h0, .inr (8, [.ref s1, .ref s2, .ref s3, .ref s4, .ref s5, .ref s6, .int ds, va_rf sp, va_rf bt])), (s1, .inl (cO, 4, .inr (.inr (.inr (.inr f))))), (fa, .inr (2, [.int ax, .int ay, .int aw, .int ah])), (fb, .inr (2, [.int ox, .int oy, .int ow, .int oh]))]) [0, 1, 2, 3, 9, 4, 5, 6, 7, 8] (by decide) rfl) hS (lv_sub hl [0, 2, 3, 4, 5, 6, 7, 8, 9, 10, 11] rfl)
                    · skip
                      have f_28 := bz1 hr_26 c_27
                      refine lv_iload hx hb dX8_carry_135 (lv_at hl 4 rfl) ?_
                      refine lv_aload_n hx hb dX8_carry_137 rfl (lv_at hl 7 rfl) ?_
                      refine va_get (D := D) (ci := 8) (v := .ref s2) (C := RX8) (T := TX8) (N := 9) hx hb hts hi_X8 hown hK hP 5 rfl rfl 1 (by decide) (hts _ bw_231) (fun _ h9 => h9) rfl dX8_carry_138 ?_
                      refine lv_aload hx hb dX8_carry_141 (lv_at hl 5 rfl) ?_
                      refine lv_aload hx hb dX8_carry_143 (lv_at hl 11 rfl) ?_
                      refine va_getN (host := RX8) (D := D) (ci := 2) (v := .int ox) (C := RX2) (T := TX2) (N := 4) hx hb hts hi_X2 hown hK hP 8 rfl rfl 0 (by decide) ((hN.1 (RX8, 247, "DotBench$Frame", "x", "I", RX8) (by decide +kernel)).use rfl) (fun _ h9 => h9) rfl dX8_carry_145 ?_
                      refine lv_iload hx hb dX8_carry_148 (lv_at hl 1 rfl) ?_
                      refine lv_iadd hx hb dX8_carry_150 ?_
                      refine lv_topi (fun y_30 ey_30 => ?_)
                      have hply_30 : y_30 = ox + nI i := by rw [ey_30, ex_i]
                      refine lv_aload hx hb dX8_carry_151 (lv_at hl 11 rfl) ?_
                      refine va_getN (host := RX8) (D := D) (ci := 2) (v := .int oy) (C := RX2) (T := TX2) (N := 4) hx hb hts hi_X2 hown hK hP 8 rfl rfl 1 (by decide) ((hN.1 (RX8, 241, "DotBench$Frame", "y", "I", RX8) (by decide +kernel)).use rfl) (fun _ h9 => h9) rfl dX8_carry_153 ?_
                      refine lv_iload hx hb dX8_carry_156 (lv_at hl 3 rfl) ?_
                      refine lv_iadd hx hb dX8_carry_158 ?_
                      refine lv_topi (fun y_31 ey_31 => ?_)
                      have hply_31 : y_31 = oy + nI j := by rw [ey_31, ex_j]
                      refine lv_aload hx hb dX8_carry_159 (lv_at hl 6 rfl) ?_
                      refine lv_iload hx hb dX8_carry_161 (lv_at hl 0 rfl) ?_
                      refine lv_iload hx hb dX8_carry_163 (lv_at hl 2 rfl) ?_
                      have hPc := hP.sub (ws' := [(u0, .inr (5, [.ref e0, .int w2, .int h2])), (e0, .inl (cI, 4096, .inl gs))]) [9, 4] rfl
                      have hDc := hD.sub (ws' := [(u0, .inr (5, [.ref e0, .int w2, .int h2])), (e0, .inl (cI, 4096, .inl gs))]) [9, 4] (by decide) rfl
                      have hKc := hK.sub (tys' := [(cI, .int)]) [1] rfl
                      have hFc := va_free (wc := [(u0, .inr (5, [.ref e0, .int w2, .int h2])), (e0, .inl (cI, 4096, .inl gs))]) hD hS hA [9, 4] rfl
                      refine va_calli (va_runV (As := [.int y_25, .int y_17]) (rest := [.int y_31, .int y_30, .ref t0, .ref s2, .int z7]) ⟨hx, hb, hml, hown, hts⟩ (k_X5_at l D H.size u0 e0 w2 h2 gs y_25 y_17 cI (by first | assumption | omega | decide) (by first | assumption | omega | decide)) (cwV 2 hts (gV bw_325 bw_153 bw_154 bw_130 bw_152) rfl rfl rfl (by decide +kernel) ⟨(by rw [hR]; exact Nat.le_of_ble_eq_true rfl), (by rw [hR]; exact Nat.le_of_ble_eq_true rfl)⟩) ⟨cP_blind, va_recv hKc hPc (ci := 5) (q0 := 0) rfl rfl, cP_at hPc hKc hDc hN⟩ rfl rfl hl.1 rfl (lv_room (Nat.le_of_ble_eq_true rfl)) dX8_carry_165 ⟨(by rw [hR]; exact Nat.le_of_ble_eq_true rfl), (by rw [hR]; exact Nat.le_of_ble_eq_true rfl)⟩) hS (fun q _ h => hFc q h) hFc (fun r_32 u9 t9 H1 locs ht hvm hr_32 hB hz1 hk1 hS => ?_)
                      try dsimp only at hr_32
                      obtain ⟨hP1, hK1, hD1⟩ := hB
                      rw [ht] at hP1
                      obtain ⟨hP, hD⟩ := va_join (wr := [(s2, .inr (1, [.ref bx, .int ik, .int wy, .int op])), (bx, .inr (0, [.int bx0, .int by0, .int bx1, .int by1])), (t0, .inr (5, [.ref d0, .int w, .int h])), (d0, .inl (cI, 4096, .inl gz)), (h0, .inr (8, [.ref s1, .ref s2, .ref s3, .ref s4, .ref s5, .ref s6, .int ds, va_rf sp, va_rf bt])), (s1, .inl (cO, 4, .inr (.inr (.inr (.inr f))))), (fa, .inr (2, [.int ax, .int ay, .int aw, .int ah])), (fb, .inr (2, [.int ox, .int oy, .int ow, .int oh]))]) (w1 := [(u0, .inr (5, [.ref e0, .int w2, .int h2])), (e0, .inl (cI, 4096, .inl gs))]) hP hD [9, 4] [0, 1, 2, 3, 5, 6, 7, 8] rfl rfl (by decide) (by decide) hk1 hFc hP1 hD1
                      clear hz1 hk1 hFc hKc hDc hPc
                      generalize H1 = H at hP hS ⊢
                      have hP : va_P D vwCl [(s2, .inr (1, [.ref bx, .int ik, .int wy, .int op])), (bx, .inr (0, [.int bx0, .int by0, .int bx1, .int by1])), (t0, .inr (5, [.ref d0, .int w, .int h])), (d0, .inl (cI, 4096, .inl gz)), (h0, .inr (8, [.ref s1, .ref s2, .ref s3, .ref s4, .ref s5, .ref s6, .int ds, va_rf sp, va_rf bt])), (s1, .inl (cO, 4, .inr (.inr (.inr (.inr f))))), (fa, .inr (2, [.int ax, .int ay, .int aw, .int ah])), (fb, .inr (2, [.int ox, .int oy, .int ow, .int oh])), (u0, .inr (5, [.ref e0, .int w2, .int h2])), (e0, .inl (cI, 4096, .inl gs))] H := hP
                      have hD : va_D A [(s2, .inr (1, [.ref bx, .int ik, .int wy, .int op])), (bx, .inr (0, [.int bx0, .int by0, .int bx1, .int by1])), (t0, .inr (5, [.ref d0, .int w, .int h])), (d0, .inl (cI, 4096, .inl gz)), (h0, .inr (8, [.ref s1, .ref s2, .ref s3, .ref s4, .ref s5, .ref s6, .int ds, va_rf sp, va_rf bt])), (s1, .inl (cO, 4, .inr (.inr (.inr (.inr f))))), (fa, .inr (2, [.int ax, .int ay, .int aw, .int ah])), (fb, .inr (2, [.int ox, .int oy, .int ow, .int oh])), (u0, .inr (5, [.ref e0, .int w2, .int h2])), (e0, .inl (cI, 4096, .inl gs))] := hD
                      have hsv : gs (ixP y_25 y_17) = r_32 := by rw [hr_32, if_pos f_28]
                      refine lv_aload_n hx hb dX8_carry_168 rfl (lv_at hl 7 rfl) ?_
                      refine va_get (D := D) (ci := 8) (v := .ref s2) (C := RX8) (T := TX8) (N := 9) hx hb hts hi_X8 hown hK hP 4 rfl rfl 1 (by decide) (hts _ bw_231) (fun _ h9 => h9) rfl dX8_carry_169 ?_
                      refine va_getN (host := RX8) (D := D) (ci := 1) (v := .int op) (C := RX1) (T := TX1) (N := 4) hx hb hts hi_X1 hown hK hP 0 rfl rfl 3 (by decide) ((hN.1 (RX8, 86, "DotBench$Brush", "opacity", "I", RX8) (by decide +kernel)).use rfl) (fun _ h9 => h9) rfl dX8_carry_172 ?_
                      have hPc := hP.sub (ws' := [(s2, .inr (1, [.ref bx, .int ik, .int wy, .int op])), (bx, .inr (0, [.int bx0, .int by0, .int bx1, .int by1])), (t0, .inr (5, [.ref d0, .int w, .int h])), (d0, .inl (cI, 4096, .inl gz))]) [0, 1, 2, 3] rfl
                      have hDc := hD.sub (ws' := [(s2, .inr (1, [.ref bx, .int ik, .int wy, .int op])), (bx, .inr (0, [.int bx0, .int by0, .int bx1, .int by1])), (t0, .inr (5, [.ref d0, .int w, .int h])), (d0, .inl (cI, 4096, .inl gz))]) [0, 1, 2, 3] (by decide) rfl
                      have hKc := hK.sub (tys' := [(cI, .int)]) [1] rfl
                      have hFc := va_free (wc := [(s2, .inr (1, [.ref bx, .int ik, .int wy, .int op])), (bx, .inr (0, [.int bx0, .int by0, .int bx1, .int by1])), (t0, .inr (5, [.ref d0, .int w, .int h])), (d0, .inl (cI, 4096, .inl gz))]) hD hS hA [0, 1, 2, 3] rfl
                      refine va_calli (va_runV (As := [.ref t0, .int y_30, .int y_31, .int r_32, .int op]) (rest := [.int z7]) ⟨hx, hb, hml, hown, hts⟩ (k_X1_lay l D H.size s2 bx ik wy op t0 d0 bx0 by0 bx1 by1 w h gz y_30 y_31 r_32 op cI (by first | assumption | omega | decide) (by first | assumption | omega | decide) (by first | assumption | omega | decide)) (cwV 5 hts (gV bw_276 bw_33 bw_34 bw_19 bw_32) rfl rfl rfl (by decide +kernel) ⟨(by rw [hR]; exact Nat.le_of_ble_eq_true rfl), (by rw [hR]; exact Nat.le_of_ble_eq_true rfl)⟩) ⟨cP_blind, va_recv hKc hPc (ci := 1) (q0 := 0) rfl rfl, cP_at hPc hKc hDc hN⟩ rfl rfl hl.1 rfl (lv_room (Nat.le_of_ble_eq_true rfl)) dX8_carry_175 ⟨(by rw [hR]; exact Nat.le_of_ble_eq_true rfl), (by rw [hR]; exact Nat.le_of_ble_eq_true rfl)⟩) hS (fun q _ h => hFc q h) hFc (fun r_33 u9 t9 H1 locs ht hvm hr_33 hB hz1 hk1 hS => ?_)
                      try dsimp only at hr_33
                      obtain ⟨hP1, hK1, hD1⟩ := hB
                      rw [ht] at hP1
                      obtain ⟨hP, hD⟩ := va_join (wr := [(h0, .inr (8, [.ref s1, .ref s2, .ref s3, .ref s4, .ref s5, .ref s6, .int ds, va_rf sp, va_rf bt])), (s1, .inl (cO, 4, .inr (.inr (.inr (.inr f))))), (fa, .inr (2, [.int ax, .int ay, .int aw, .int ah])), (fb, .inr (2, [.int ox, .int oy, .int ow, .int oh])), (u0, .inr (5, [.ref e0, .int w2, .int h2])), (e0, .inl (cI, 4096, .inl gs))]) (w1 := [(s2, .inr (1, [.ref bx, .int ik, .int wy, .int op])), (bx, .inr (0, [.int bx0, .int by0, .int bx1, .int by1])), (t0, .inr (5, [.ref d0, .int w, .int h])), (d0, .inl (cI, 4096, .inl (if 0 ≤ y_30.toInt ∧ y_30.toInt < w.toInt ∧ 0 ≤ y_31.toInt ∧ y_31.toInt < h.toInt ∧ bx0.toInt ≤ y_30.toInt ∧ y_30.toInt ≤ bx1.toInt ∧ by0.toInt ≤ y_31.toInt ∧ y_31.toInt ≤ by1.toInt then upd gz (ixP y_30 y_31) (laidP wy r_32 (gz (ixP y_30 y_31)) op) else gz)))]) hP hD [0, 1, 2, 3] [4, 5, 6, 7, 8, 9] rfl rfl (by decide) (by decide) hk1 hFc hP1 hD1
                      clear hz1 hk1 hFc hKc hDc hPc
                      generalize H1 = H at hP hS ⊢
                      have hP : va_P D vwCl [(h0, .inr (8, [.ref s1, .ref s2, .ref s3, .ref s4, .ref s5, .ref s6, .int ds, va_rf sp, va_rf bt])), (s1, .inl (cO, 4, .inr (.inr (.inr (.inr f))))), (fa, .inr (2, [.int ax, .int ay, .int aw, .int ah])), (fb, .inr (2, [.int ox, .int oy, .int ow, .int oh])), (u0, .inr (5, [.ref e0, .int w2, .int h2])), (e0, .inl (cI, 4096, .inl gs)), (s2, .inr (1, [.ref bx, .int ik, .int wy, .int op])), (bx, .inr (0, [.int bx0, .int by0, .int bx1, .int by1])), (t0, .inr (5, [.ref d0, .int w, .int h])), (d0, .inl (cI, 4096, .inl (if 0 ≤ y_30.toInt ∧ y_30.toInt < w.toInt ∧ 0 ≤ y_31.toInt ∧ y_31.toInt < h.toInt ∧ bx0.toInt ≤ y_30.toInt ∧ y_30.toInt ≤ bx1.toInt ∧ by0.toInt ≤ y_31.toInt ∧ y_31.toInt ≤ by1.toInt then upd gz (ixP y_30 y_31) (laidP wy r_32 (gz (ixP y_30 y_31)) op) else gz)))] H := hP
                      have hD : va_D A [(h0, .inr (8, [.ref s1, .ref s2, .ref s3, .ref s4, .ref s5, .ref s6, .int ds, va_rf sp, va_rf bt])), (s1, .inl (cO, 4, .inr (.inr (.inr (.inr f))))), (fa, .inr (2, [.int ax, .int ay, .int aw, .int ah])), (fb, .inr (2, [.int ox, .int oy, .int ow, .int oh])), (u0, .inr (5, [.ref e0, .int w2, .int h2])), (e0, .inl (cI, 4096, .inl gs)), (s2, .inr (1, [.ref bx, .int ik, .int wy, .int op])), (bx, .inr (0, [.int bx0, .int by0, .int bx1, .int by1])), (t0, .inr (5, [.ref d0, .int w, .int h])), (d0, .inl (cI, 4096, .inl (if 0 ≤ y_30.toInt ∧ y_30.toInt < w.toInt ∧ 0 ≤ y_31.toInt ∧ y_31.toInt < h.toInt ∧ bx0.toInt ≤ y_30.toInt ∧ y_30.toInt ≤ bx1.toInt ∧ by0.toInt ≤ y_31.toInt ∧ y_31.toInt ≤ by1.toInt then upd gz (ixP y_30 y_31) (laidP wy r_32 (gz (ixP y_30 y_31)) op) else gz)))] := hD
                      refine lv_iadd hx hb dX8_carry_178 ?_
                      refine lv_topi (fun y_34 ey_34 => ?_)
                      refine lv_istore (lv' := [(7, .int y_34), (11, .int y_25), (10, .int x10), (9, .int y_17), (8, .int x8), (6, .ref t0), (5, .ref u0), (0, .ref h0), (1, .int k), (2, .ref fa), (3, .int kq), (4, .ref fb)]) hx hb dX8_carry_179 hl (by decide) rfl (fun ls hl => ?_)
                      obtain ⟨y_35, ey_35⟩ : ∃ y : Int32, y = x10 + 1 := ⟨_, rfl⟩
                      refine lv_iinc (v := y_35) (lv' := [(10, .int y_35), (7, .int y_34), (11, .int y_25), (9, .int y_17), (8, .int x8), (6, .ref t0), (5, .ref u0), (0, .ref h0), (1, .int k), (2, .ref fa), (3, .int kq), (4, .ref fb)]) hx hb dX8_carry_181 hl (k := 2) rfl (by rw [ey_35]; rfl) (by decide) rfl (fun ls hl => ?_)
                      refine lv_goto (tgt := 93) hx hb dX8_carry_184 (by decide) ?_
                      exact ih_19 (i + 1) y_35 y_34 (if 0 ≤ y_30.toInt ∧ y_30.toInt < w.toInt ∧ 0 ≤ y_31.toInt ∧ y_31.toInt < h.toInt ∧ bx0.toInt ≤ y_30.toInt ∧ y_30.toInt ≤ bx1.toInt ∧ by0.toInt ≤ y_31.toInt ∧ y_31.toInt ≤ by1.toInt then upd gz (ixP y_30 y_31) (laidP wy r_32 (gz (ixP y_30 y_31)) op) else gz) _ _ _ (by omega) (by omega) (by rw [ey_35, ex_i]; exact nI_1 i) (by omega) (by rw [show gR (cyQ ax ay aw ah ox oy ow oh w2 h2 op gs) j (i + 1) = gR (cyQ ax ay aw ah ox oy ow oh w2 h2 op gs) j i ++ [(y_30, y_31, r_32, op)] from congrArg (gR (cyQ ax ay aw ah ox oy ow oh w2 h2 op gs) j i ++ ·) (show (cyQ ax ay aw ah ox oy ow oh w2 h2 op gs) j i = [(y_30, y_31, r_32, op)] by unfold cyQ; rw [if_pos (by rw [← hcyy_25, ← hcyy_17]; exact f_28), ← hcyy_25, ← hcyy_17, ← hply_30, ← hply_31, hsv]), ← List.append_assoc, List.foldl_append, ← hgi]; rfl) (by rw [show gR (cyQ ax ay aw ah ox oy ow oh w2 h2 op gs) j (i + 1) = gR (cyQ ax ay aw ah ox oy ow oh w2 h2 op gs) j i ++ [(y_30, y_31, r_32, op)] from congrArg (gR (cyQ ax ay aw ah ox oy ow oh w2 h2 op gs) j i ++ ·) (show (cyQ ax ay aw ah ox oy ow oh w2 h2 op gs) j i = [(y_30, y_31, r_32, op)] by unfold cyQ; rw [if_pos (by rw [← hcyy_25, ← hcyy_17]; exact f_28), ← hcyy_25, ← hcyy_17, ← hply_30, ← hply_31, hsv]), ← List.append_assoc, List.foldl_append, ← eti, ey_34, hr_33]; rfl) (hP.sub (ws' := [(s2, .inr (1, [.ref bx, .int ik, .int wy, .int op])), (bx, .inr (0, [.int bx0, .int by0, .int bx1, .int by1])), (t0, .inr (5, [.ref d0, .int w, .int h])), (d0, .inl (cI, 4096, .inl (if 0 ≤ y_30.toInt ∧ y_30.toInt < w.toInt ∧ 0 ≤ y_31.toInt ∧ y_31.toInt < h.toInt ∧ bx0.toInt ≤ y_30.toInt ∧ y_30.toInt ≤ bx1.toInt ∧ by0.toInt ≤ y_31.toInt ∧ y_31.toInt ≤ by1.toInt then upd gz (ixP y_30 y_31) (laidP wy r_32 (gz (ixP y_30 y_31)) op) else gz))), (u0, .inr (5, [.ref e0, .int w2, .int h2])), (e0, .inl (cI, 4096, .inl gs)), (h0, .inr (8, [.ref s1, .ref s2, .ref s3, .ref s4, .ref s5, .ref s6, .int ds, va_rf sp, va_rf bt])), (s1, .inl (cO, 4, .inr (.inr (.inr (.inr f))))), (fa, .inr (2, [.int ax, .int ay, .int aw, .int ah])), (fb, .inr (2, [.int ox, .int oy, .int ow, .int oh]))]) [6, 7, 8, 9, 4, 5, 0, 1, 2, 3] rfl) (hD.sub (ws' := [(s2, .inr (1, [.ref bx, .int ik, .int wy, .int op])), (bx, .inr (0, [.int bx0, .int by0, .int bx1, .int by1])), (t0, .inr (5, [.ref d0, .int w, .int h])), (d0, .inl (cI, 4096, .inl (if 0 ≤ y_30.toInt ∧ y_30.toInt < w.toInt ∧ 0 ≤ y_31.toInt ∧ y_31.toInt < h.toInt ∧ bx0.toInt ≤ y_30.toInt ∧ y_30.toInt ≤ bx1.toInt ∧ by0.toInt ≤ y_31.toInt ∧ y_31.toInt ≤ by1.toInt then upd gz (ixP y_30 y_31) (laidP wy r_32 (gz (ixP y_30 y_31)) op) else gz))), (u0, .inr (5, [.ref e0, .int w2, .int h2])), (e0, .inl (cI, 4096, .inl gs)), (h0, .inr (8, [.ref s1, .ref s2, .ref s3, .ref s4, .ref s5, .ref s6, .int ds, va_rf sp, va_rf bt])), (s1, .inl (cO, 4, .inr (.inr (.inr (.inr f))))), (fa, .inr (2, [.int ax, .int ay, .int aw, .int ah])), (fb, .inr (2, [.int ox, .int oy, .int ow, .int oh]))]) [6, 7, 8, 9, 4, 5, 0, 1, 2, 3] (by decide) rfl) hS (lv_sub hl [0, 3, 4, 1, 5, 6, 7, 8, 9, 10, 11] rfl)
              exact loop_18 (64 + 1) 0 0 x7 ga _ _ _ (by omega) (by omega) nI_0.symm (by omega) (by rw [show gR (cyQ ax ay aw ah ox oy ow oh w2 h2 op gs) j 0 = [] from rfl, List.append_nil]; exact hgo) (by rw [show gR (cyQ ax ay aw ah ox oy ow oh w2 h2 op gs) j 0 = [] from rfl, List.append_nil]; exact eto) hP hD hS (lv_sub hl [0, 1, 2, 3, 4, 5, 6, 7, 8, 9, 10] rfl)
        exact loop_11 (64 + 1) 0 0 0 g _ _ _ (by omega) (by omega) nI_0.symm (by omega) rfl rfl hP hD hS (lv_sub hl [0, 1, 2, 3, 4, 5, 6, 7, 8] rfl)
      · skip
        have f_10 : k.toInt = kq.toInt := f_eq rfl rfl c_9
        exact False.elim (by omega)
    · skip
      have f_8 := bz0 hr_6 c_7
      exact False.elim (by omega)

set_option maxHeartbeats 4000000 in
set_option maxRecDepth 100000 in
theorem k_X8_carry_s1e (l : Launch) (D : va_G) (sz : Nat) (h0 s1 s2 s3 s4 s5 s6 : Nat) (ds : Int32) (sp : Option Nat) (f : Nat → Option Nat) (bx t0 d0 : Nat) (ik wy op : Int32) (bx0 by0 bx1 by1 : Int32) (w h : Int32) (g : Nat → Int32) (bq bd : Nat) (bw bh : Int32) (gb : Nat → Int32) (fa fb : Nat) (ax ay aw ah ox oy ow oh : Int32) (k kq : Int32) (cO : ClassId) (cI : ClassId) (hak : 0 ≤ k.toInt ∧ k.toInt ≤ 3) (haf : f k.toNatClampNeg = some t0) (hb0k : 0 ≤ kq.toInt ∧ kq.toInt ≤ 3) (hb0f : f kq.toNatClampNeg = some t0) (hne : k.toInt = kq.toInt) (hnr : (-200 ≤ ax.toInt ∧ ax.toInt ≤ 200) ∧ (-200 ≤ ay.toInt ∧ ay.toInt ≤ 200) ∧ (-200 ≤ ox.toInt ∧ ox.toInt ≤ 200) ∧ (-200 ≤ oy.toInt ∧ oy.toInt ≤ 200)) (hwy : 0 ≤ wy.toInt ∧ wy.toInt ≤ 12) (hw : w.toInt ≤ 64) (hh : h.toInt ≤ 64) (how : 0 ≤ ow.toInt ∧ ow.toInt ≤ 64) (hoh : 0 ≤ oh.toInt ∧ oh.toInt ≤ 64) : Met l yX8_carry (wB yX8_carry cX8_carry 12 (some .int)) ({ frames := 3, cells := 0, slots := 0, locals := 75 }) (cP D [(h0, .inr (8, [.ref s1, .ref s2, .ref s3, .ref s4, .ref s5, .ref s6, .int ds, va_rf sp, .ref bq])), (s1, .inl (cO, 4, .inr (.inr (.inr (.inr f))))), (s2, .inr (1, [.ref bx, .int ik, .int wy, .int op])), (bx, .inr (0, [.int bx0, .int by0, .int bx1, .int by1])), (t0, .inr (5, [.ref d0, .int w, .int h])), (d0, .inl (cI, 4096, .inl g)), (bq, .inr (5, [.ref bd, .int bw, .int bh])), (bd, .inl (cI, 4096, .inl gb)), (fa, .inr (2, [.int ax, .int ay, .int aw, .int ah])), (fb, .inr (2, [.int ox, .int oy, .int ow, .int oh]))] [(cO, .object "DotBench$Sheet"), (cI, .int)] sz [.ref h0, .int k, .ref fa, .int kq, .ref fb]) (va_Qi (fun (r : Int32) (_ : Unit) => r = (gL (cyQ ax ay aw ah ox oy ow oh w h op g) ow.toNatClampNeg oh.toNatClampNeg).foldl (layT w h bx0 by0 bx1 by1) 0) (fun (_ : Unit) (t : State) => ∃ (g3 : Nat → Int32), cB D (va_A [(h0, .inr (8, [.ref s1, .ref s2, .ref s3, .ref s4, .ref s5, .ref s6, .int ds, va_rf sp, .ref bq])), (s1, .inl (cO, 4, .inr (.inr (.inr (.inr f))))), (s2, .inr (1, [.ref bx, .int ik, .int wy, .int op])), (bx, .inr (0, [.int bx0, .int by0, .int bx1, .int by1])), (t0, .inr (5, [.ref d0, .int w, .int h])), (d0, .inl (cI, 4096, .inl g)), (bq, .inr (5, [.ref bd, .int bw, .int bh])), (bd, .inl (cI, 4096, .inl gb)), (fa, .inr (2, [.int ax, .int ay, .int aw, .int ah])), (fb, .inr (2, [.int ox, .int oy, .int ow, .int oh]))] sz) [(h0, .inr (8, [.ref s1, .ref s2, .ref s3, .ref s4, .ref s5, .ref s6, .int ds, va_rf sp, .ref bq])), (s1, .inl (cO, 4, .inr (.inr (.inr (.inr f))))), (s2, .inr (1, [.ref bx, .int ik, .int wy, .int op])), (bx, .inr (0, [.int bx0, .int by0, .int bx1, .int by1])), (t0, .inr (5, [.ref d0, .int w, .int h])), (d0, .inl (cI, 4096, .inl ((gL (cyQ ax ay aw ah ox oy ow oh w h op g) ow.toNatClampNeg oh.toNatClampNeg).foldl (layG w h bx0 by0 bx1 by1 wy) g))), (bq, .inr (5, [.ref bd, .int w, .int h])), (bd, .inl (cI, 4096, .inl g3))] [(cO, .object "DotBench$Sheet"), (cI, .int)] t) (va_A [(h0, .inr (8, [.ref s1, .ref s2, .ref s3, .ref s4, .ref s5, .ref s6, .int ds, va_rf sp, .ref bq])), (s1, .inl (cO, 4, .inr (.inr (.inr (.inr f))))), (s2, .inr (1, [.ref bx, .int ik, .int wy, .int op])), (bx, .inr (0, [.int bx0, .int by0, .int bx1, .int by1])), (t0, .inr (5, [.ref d0, .int w, .int h])), (d0, .inl (cI, 4096, .inl g)), (bq, .inr (5, [.ref bd, .int bw, .int bh])), (bd, .inl (cI, 4096, .inl gb)), (fa, .inr (2, [.int ax, .int ay, .int aw, .int ah])), (fb, .inr (2, [.int ox, .int oy, .int ow, .int oh]))] sz)) 0 0 (va_A [(h0, .inr (8, [.ref s1, .ref s2, .ref s3, .ref s4, .ref s5, .ref s6, .int ds, va_rf sp, .ref bq])), (s1, .inl (cO, 4, .inr (.inr (.inr (.inr f))))), (s2, .inr (1, [.ref bx, .int ik, .int wy, .int op])), (bx, .inr (0, [.int bx0, .int by0, .int bx1, .int by1])), (t0, .inr (5, [.ref d0, .int w, .int h])), (d0, .inl (cI, 4096, .inl g)), (bq, .inr (5, [.ref bd, .int bw, .int bh])), (bd, .inl (cI, 4096, .inl gb)), (fa, .inr (2, [.int ax, .int ay, .int aw, .int ah])), (fb, .inr (2, [.int ox, .int oy, .int ow, .int oh]))] sz) := by
  refine Met.ofW (cc := cX8_carry) (maxL := 12) (ret := (some .int)) (by decide) rfl ?_
  intro p e s m args below meth c s₁ B hml hv
  obtain ⟨rfl, hsz, hP, hK, hD0, hN⟩ := hv
  have hx := B.exec
  have hb := B.bytes
  have hr := B.returns
  have hts0 := atoms_spec (ws := (wB yX8_carry cX8_carry 12 (some .int))) B.pre
  have hts : ∀ w ∈ bigW, w.before _ s = true := fun w h => hts0 w (List.mem_cons_of_mem _ h)
  have hown : s.vm.findClass RX8 = some m.cls := findClass_of_methodNamed B.named
  have hlocks := B.notSynchronized
  subst hsz
  have hD := hD0.self (sz := s.heap.size)
  generalize hAe : va_A [(h0, .inr (8, [.ref s1, .ref s2, .ref s3, .ref s4, .ref s5, .ref s6, .int ds, va_rf sp, .ref bq])), (s1, .inl (cO, 4, .inr (.inr (.inr (.inr f))))), (s2, .inr (1, [.ref bx, .int ik, .int wy, .int op])), (bx, .inr (0, [.int bx0, .int by0, .int bx1, .int by1])), (t0, .inr (5, [.ref d0, .int w, .int h])), (d0, .inl (cI, 4096, .inl g)), (bq, .inr (5, [.ref bd, .int bw, .int bh])), (bd, .inl (cI, 4096, .inl gb)), (fa, .inr (2, [.int ax, .int ay, .int aw, .int ah])), (fb, .inr (2, [.int ox, .int oy, .int ow, .int oh]))] s.heap.size = A at hD ⊢
  have hA : ∀ q : Nat, s.heap.size ≤ q → A q := fun q h => by rw [← hAe]; exact Or.inr h
  have hS : va_S A s.heap s.heap [] := va_S.rf
  have hP : va_P D vwCl [(h0, .inr (8, [.ref s1, .ref s2, .ref s3, .ref s4, .ref s5, .ref s6, .int ds, va_rf sp, .ref bq])), (s1, .inl (cO, 4, .inr (.inr (.inr (.inr f))))), (s2, .inr (1, [.ref bx, .int ik, .int wy, .int op])), (bx, .inr (0, [.int bx0, .int by0, .int bx1, .int by1])), (t0, .inr (5, [.ref d0, .int w, .int h])), (d0, .inl (cI, 4096, .inl g)), (bq, .inr (5, [.ref bd, .int bw, .int bh])), (bd, .inl (cI, 4096, .inl gb)), (fa, .inr (2, [.int ax, .int ay, .int aw, .int ah])), (fb, .inr (2, [.int ox, .int oy, .int ow, .int oh]))] s.heap := hP
  have hl := lv_entry ([.ref h0, .int k, .ref fa, .int kq, .ref fb]) (n := 12) (Nat.le_of_ble_eq_true rfl)
  rw [lg_entry_eq]
  generalize (lg_sl ([.ref h0, .int k, .ref fa, .int kq, .ref fb]) ++ List.replicate (12 - (lg_sl ([.ref h0, .int k, .ref fa, .int kq, .ref fb])).length) Slot.unset).toArray = ls at hl ⊢
  have hl : lv_has ls 12 [(0, .ref h0), (1, .int k), (2, .ref fa), (3, .int kq), (4, .ref fb)] := hl
  clear hts0 hD0 hAe
  refine my_abs (fun R Q hR hQ => ?_)
  refine lv_aload_n hx hb dX8_carry_0 rfl (lv_at hl 0 rfl) ?_
  refine lv_iload_n hx hb dX8_carry_1 rfl (lv_at hl 1 rfl) ?_
  have hPc := hP.sub (ws' := [(h0, .inr (8, [.ref s1, .ref s2, .ref s3, .ref s4, .ref s5, .ref s6, .int ds, va_rf sp, .ref bq])), (s1, .inl (cO, 4, .inr (.inr (.inr (.inr f)))))]) [0, 1] rfl
  have hDc := hD.sub (ws' := [(h0, .inr (8, [.ref s1, .ref s2, .ref s3, .ref s4, .ref s5, .ref s6, .int ds, va_rf sp, .ref bq])), (s1, .inl (cO, 4, .inr (.inr (.inr (.inr f)))))]) [0, 1] (by decide) rfl
  have hKc := hK.sub (tys' := [(cO, .object "DotBench$Sheet")]) [0] rfl
  have hFc := va_free (wc := [(h0, .inr (8, [.ref s1, .ref s2, .ref s3, .ref s4, .ref s5, .ref s6, .int ds, va_rf sp, .ref bq])), (s1, .inl (cO, 4, .inr (.inr (.inr (.inr f)))))]) hD hS hA [0, 1] rfl
  refine va_callq (va_runV (As := [.int k]) (rest := []) ⟨hx, hb, hml, hown, hts⟩ (k_X8_sheetAt_y l D s.heap.size h0 s1 s2 s3 s4 s5 s6 ds sp (some bq) f k t0 cO (by first | assumption | omega | decide) (by first | assumption | omega | decide)) (cwV 1 hts (gV bw_267 bw_346 bw_347 bw_223 bw_345) rfl rfl rfl (by decide +kernel) ⟨(by rw [hR]; exact Nat.le_of_ble_eq_true rfl), (by rw [hR]; exact Nat.le_of_ble_eq_true rfl)⟩) ⟨cP_blind, va_recv hKc hPc (ci := 8) (q0 := 0) rfl rfl, cP_at hPc hKc hDc hN⟩ rfl rfl hl.1 rfl (lv_room (Nat.le_of_ble_eq_true rfl)) dX8_carry_2 ⟨(by rw [hR]; exact Nat.le_of_ble_eq_true rfl), (by rw [hR]; exact Nat.le_of_ble_eq_true rfl)⟩) hS (fun q _ h => hFc q h) hFc (fun r_1 u9 t9 H1 locs ht hvm hr_1 hB hz1 hk1 hS => ?_)
  try dsimp only at hr_1
  obtain ⟨hP1, hK1, hD1⟩ := hB
  rw [ht] at hP1
  obtain ⟨hP, hD⟩ := va_join (wr := [(s2, .inr (1, [.ref bx, .int ik, .int wy, .int op])), (bx, .inr (0, [.int bx0, .int by0, .int bx1, .int by1])), (t0, .inr (5, [.ref d0, .int w, .int h])), (d0, .inl (cI, 4096, .inl g)), (bq, .inr (5, [.ref bd, .int bw, .int bh])), (bd, .inl (cI, 4096, .inl gb)), (fa, .inr (2, [.int ax, .int ay, .int aw, .int ah])), (fb, .inr (2, [.int ox, .int oy, .int ow, .int oh]))]) (w1 := [(h0, .inr (8, [.ref s1, .ref s2, .ref s3, .ref s4, .ref s5, .ref s6, .int ds, va_rf sp, .ref bq])), (s1, .inl (cO, 4, .inr (.inr (.inr (.inr f)))))]) hP hD [0, 1] [2, 3, 4, 5, 6, 7, 8, 9] rfl rfl (by decide) (by decide) hk1 hFc hP1 hD1
  clear hz1 hk1 hFc hKc hDc hPc
  generalize H1 = H at hP hS ⊢
  have hP : va_P D vwCl [(s2, .inr (1, [.ref bx, .int ik, .int wy, .int op])), (bx, .inr (0, [.int bx0, .int by0, .int bx1, .int by1])), (t0, .inr (5, [.ref d0, .int w, .int h])), (d0, .inl (cI, 4096, .inl g)), (bq, .inr (5, [.ref bd, .int bw, .int bh])), (bd, .inl (cI, 4096, .inl gb)), (fa, .inr (2, [.int ax, .int ay, .int aw, .int ah])), (fb, .inr (2, [.int ox, .int oy, .int ow, .int oh])), (h0, .inr (8, [.ref s1, .ref s2, .ref s3, .ref s4, .ref s5, .ref s6, .int ds, va_rf sp, .ref bq])), (s1, .inl (cO, 4, .inr (.inr (.inr (.inr f)))))] H := hP
  have hD : va_D A [(s2, .inr (1, [.ref bx, .int ik, .int wy, .int op])), (bx, .inr (0, [.int bx0, .int by0, .int bx1, .int by1])), (t0, .inr (5, [.ref d0, .int w, .int h])), (d0, .inl (cI, 4096, .inl g)), (bq, .inr (5, [.ref bd, .int bw, .int bh])), (bd, .inl (cI, 4096, .inl gb)), (fa, .inr (2, [.int ax, .int ay, .int aw, .int ah])), (fb, .inr (2, [.int ox, .int oy, .int ow, .int oh])), (h0, .inr (8, [.ref s1, .ref s2, .ref s3, .ref s4, .ref s5, .ref s6, .int ds, va_rf sp, .ref bq])), (s1, .inl (cO, 4, .inr (.inr (.inr (.inr f)))))] := hD
  subst hr_1
  refine my_topv (v := .ref t0) rfl ?_
  refine lv_astore (lv' := [(5, .ref t0), (0, .ref h0), (1, .int k), (2, .ref fa), (3, .int kq), (4, .ref fb)]) hx hb dX8_carry_5 hl (by decide) rfl (fun ls hl => ?_)
  refine lv_aload_n hx hb dX8_carry_7 rfl (lv_at hl 1 rfl) ?_
  refine lv_iload_n hx hb dX8_carry_8 rfl (lv_at hl 4 rfl) ?_
  have hPc := hP.sub (ws' := [(h0, .inr (8, [.ref s1, .ref s2, .ref s3, .ref s4, .ref s5, .ref s6, .int ds, va_rf sp, .ref bq])), (s1, .inl (cO, 4, .inr (.inr (.inr (.inr f)))))]) [8, 9] rfl
  have hDc := hD.sub (ws' := [(h0, .inr (8, [.ref s1, .ref s2, .ref s3, .ref s4, .ref s5, .ref s6, .int ds, va_rf sp, .ref bq])), (s1, .inl (cO, 4, .inr (.inr (.inr (.inr f)))))]) [8, 9] (by decide) rfl
  have hKc := hK.sub (tys' := [(cO, .object "DotBench$Sheet")]) [0] rfl
  have hFc := va_free (wc := [(h0, .inr (8, [.ref s1, .ref s2, .ref s3, .ref s4, .ref s5, .ref s6, .int ds, va_rf sp, .ref bq])), (s1, .inl (cO, 4, .inr (.inr (.inr (.inr f)))))]) hD hS hA [8, 9] rfl
  refine va_callq (va_runV (As := [.int kq]) (rest := []) ⟨hx, hb, hml, hown, hts⟩ (k_X8_sheetAt_y l D H.size h0 s1 s2 s3 s4 s5 s6 ds sp (some bq) f kq t0 cO (by first | assumption | omega | decide) (by first | assumption | omega | decide)) (cwV 1 hts (gV bw_267 bw_346 bw_347 bw_223 bw_345) rfl rfl rfl (by decide +kernel) ⟨(by rw [hR]; exact Nat.le_of_ble_eq_true rfl), (by rw [hR]; exact Nat.le_of_ble_eq_true rfl)⟩) ⟨cP_blind, va_recv hKc hPc (ci := 8) (q0 := 0) rfl rfl, cP_at hPc hKc hDc hN⟩ rfl rfl hl.1 rfl (lv_room (Nat.le_of_ble_eq_true rfl)) dX8_carry_9 ⟨(by rw [hR]; exact Nat.le_of_ble_eq_true rfl), (by rw [hR]; exact Nat.le_of_ble_eq_true rfl)⟩) hS (fun q _ h => hFc q h) hFc (fun r_2 u9 t9 H1 locs ht hvm hr_2 hB hz1 hk1 hS => ?_)
  try dsimp only at hr_2
  obtain ⟨hP1, hK1, hD1⟩ := hB
  rw [ht] at hP1
  obtain ⟨hP, hD⟩ := va_join (wr := [(s2, .inr (1, [.ref bx, .int ik, .int wy, .int op])), (bx, .inr (0, [.int bx0, .int by0, .int bx1, .int by1])), (t0, .inr (5, [.ref d0, .int w, .int h])), (d0, .inl (cI, 4096, .inl g)), (bq, .inr (5, [.ref bd, .int bw, .int bh])), (bd, .inl (cI, 4096, .inl gb)), (fa, .inr (2, [.int ax, .int ay, .int aw, .int ah])), (fb, .inr (2, [.int ox, .int oy, .int ow, .int oh]))]) (w1 := [(h0, .inr (8, [.ref s1, .ref s2, .ref s3, .ref s4, .ref s5, .ref s6, .int ds, va_rf sp, .ref bq])), (s1, .inl (cO, 4, .inr (.inr (.inr (.inr f)))))]) hP hD [8, 9] [0, 1, 2, 3, 4, 5, 6, 7] rfl rfl (by decide) (by decide) hk1 hFc hP1 hD1
  clear hz1 hk1 hFc hKc hDc hPc
  generalize H1 = H at hP hS ⊢
  have hP : va_P D vwCl [(s2, .inr (1, [.ref bx, .int ik, .int wy, .int op])), (bx, .inr (0, [.int bx0, .int by0, .int bx1, .int by1])), (t0, .inr (5, [.ref d0, .int w, .int h])), (d0, .inl (cI, 4096, .inl g)), (bq, .inr (5, [.ref bd, .int bw, .int bh])), (bd, .inl (cI, 4096, .inl gb)), (fa, .inr (2, [.int ax, .int ay, .int aw, .int ah])), (fb, .inr (2, [.int ox, .int oy, .int ow, .int oh])), (h0, .inr (8, [.ref s1, .ref s2, .ref s3, .ref s4, .ref s5, .ref s6, .int ds, va_rf sp, .ref bq])), (s1, .inl (cO, 4, .inr (.inr (.inr (.inr f)))))] H := hP
  have hD : va_D A [(s2, .inr (1, [.ref bx, .int ik, .int wy, .int op])), (bx, .inr (0, [.int bx0, .int by0, .int bx1, .int by1])), (t0, .inr (5, [.ref d0, .int w, .int h])), (d0, .inl (cI, 4096, .inl g)), (bq, .inr (5, [.ref bd, .int bw, .int bh])), (bd, .inl (cI, 4096, .inl gb)), (fa, .inr (2, [.int ax, .int ay, .int aw, .int ah])), (fb, .inr (2, [.int ox, .int oy, .int ow, .int oh])), (h0, .inr (8, [.ref s1, .ref s2, .ref s3, .ref s4, .ref s5, .ref s6, .int ds, va_rf sp, .ref bq])), (s1, .inl (cO, 4, .inr (.inr (.inr (.inr f)))))] := hD
  subst hr_2
  refine my_topv (v := .ref t0) rfl ?_
  refine lv_astore (lv' := [(6, .ref t0), (5, .ref t0), (0, .ref h0), (1, .int k), (2, .ref fa), (3, .int kq), (4, .ref fb)]) hx hb dX8_carry_12 hl (by decide) rfl (fun ls hl => ?_)
  refine lv_aload hx hb dX8_carry_14 (lv_at hl 1 rfl) ?_
  refine lv_ifnull hx hb dX8_carry_16 ?_
  refine lv_aload hx hb dX8_carry_19 (lv_at hl 0 rfl) ?_
  refine lv_ifnull hx hb dX8_carry_21 ?_
  refine lv_aload_n hx hb dX8_carry_24 rfl (lv_at hl 4 rfl) ?_
  have hPc := hP.sub (ws' := [(fa, .inr (2, [.int ax, .int ay, .int aw, .int ah]))]) [6] rfl
  have hDc := hD.sub (ws' := [(fa, .inr (2, [.int ax, .int ay, .int aw, .int ah]))]) [6] (by decide) rfl
  have hKc := hK.sub (tys' := []) [] rfl
  have hFc := va_free (wc := [(fa, .inr (2, [.int ax, .int ay, .int aw, .int ah]))]) hD hS hA [6] rfl
  refine va_calli (va_runV (As := []) (rest := []) ⟨hx, hb, hml, hown, hts⟩ (k_X2_isNearby l D H.size fa ax ay aw ah) (cwV 0 hts (gV bw_385 bw_65 bw_66 bw_55 bw_64) rfl rfl rfl (by decide +kernel) ⟨(by rw [hR]; exact Nat.le_of_ble_eq_true rfl), (by rw [hR]; exact Nat.le_of_ble_eq_true rfl)⟩) ⟨cP_blind, va_recv hKc hPc (ci := 2) (q0 := 0) rfl rfl, cP_at hPc hKc hDc hN⟩ rfl rfl hl.1 rfl (lv_room (Nat.le_of_ble_eq_true rfl)) dX8_carry_25 ⟨(by rw [hR]; exact Nat.le_of_ble_eq_true rfl), (by rw [hR]; exact Nat.le_of_ble_eq_true rfl)⟩) hS (fun q _ h => hFc q h) hFc (fun r_3 u9 t9 H1 locs ht hvm hr_3 hB hz1 hk1 hS => ?_)
  try dsimp only at hr_3
  obtain ⟨hP1, hK1, hD1⟩ := hB
  rw [ht] at hP1
  obtain ⟨hP, hD⟩ := va_join (wr := [(s2, .inr (1, [.ref bx, .int ik, .int wy, .int op])), (bx, .inr (0, [.int bx0, .int by0, .int bx1, .int by1])), (t0, .inr (5, [.ref d0, .int w, .int h])), (d0, .inl (cI, 4096, .inl g)), (bq, .inr (5, [.ref bd, .int bw, .int bh])), (bd, .inl (cI, 4096, .inl gb)), (fb, .inr (2, [.int ox, .int oy, .int ow, .int oh])), (h0, .inr (8, [.ref s1, .ref s2, .ref s3, .ref s4, .ref s5, .ref s6, .int ds, va_rf sp, .ref bq])), (s1, .inl (cO, 4, .inr (.inr (.inr (.inr f)))))]) (w1 := [(fa, .inr (2, [.int ax, .int ay, .int aw, .int ah]))]) hP hD [6] [0, 1, 2, 3, 4, 5, 7, 8, 9] rfl rfl (by decide) (by decide) hk1 hFc hP1 hD1
  clear hz1 hk1 hFc hKc hDc hPc
  generalize H1 = H at hP hS ⊢
  have hP : va_P D vwCl [(s2, .inr (1, [.ref bx, .int ik, .int wy, .int op])), (bx, .inr (0, [.int bx0, .int by0, .int bx1, .int by1])), (t0, .inr (5, [.ref d0, .int w, .int h])), (d0, .inl (cI, 4096, .inl g)), (bq, .inr (5, [.ref bd, .int bw, .int bh])), (bd, .inl (cI, 4096, .inl gb)), (fb, .inr (2, [.int ox, .int oy, .int ow, .int oh])), (h0, .inr (8, [.ref s1, .ref s2, .ref s3, .ref s4, .ref s5, .ref s6, .int ds, va_rf sp, .ref bq])), (s1, .inl (cO, 4, .inr (.inr (.inr (.inr f))))), (fa, .inr (2, [.int ax, .int ay, .int aw, .int ah]))] H := hP
  have hD : va_D A [(s2, .inr (1, [.ref bx, .int ik, .int wy, .int op])), (bx, .inr (0, [.int bx0, .int by0, .int bx1, .int by1])), (t0, .inr (5, [.ref d0, .int w, .int h])), (d0, .inl (cI, 4096, .inl g)), (bq, .inr (5, [.ref bd, .int bw, .int bh])), (bd, .inl (cI, 4096, .inl gb)), (fb, .inr (2, [.int ox, .int oy, .int ow, .int oh])), (h0, .inr (8, [.ref s1, .ref s2, .ref s3, .ref s4, .ref s5, .ref s6, .int ds, va_rf sp, .ref bq])), (s1, .inl (cO, 4, .inr (.inr (.inr (.inr f))))), (fa, .inr (2, [.int ax, .int ay, .int aw, .int ah]))] := hD
  refine lv_if_eq (tgt := 39) hx hb dX8_carry_28 (by decide) (fun c_4 => ?_) (fun c_4 => ?_)
  · skip
    have f_5 := bz0 hr_3 c_4
    exact False.elim (by omega)
  · skip
    have f_5 := bz1 hr_3 c_4
    refine lv_aload hx hb dX8_carry_31 (lv_at hl 6 rfl) ?_
    have hPc := hP.sub (ws' := [(fb, .inr (2, [.int ox, .int oy, .int ow, .int oh]))]) [6] rfl
    have hDc := hD.sub (ws' := [(fb, .inr (2, [.int ox, .int oy, .int ow, .int oh]))]) [6] (by decide) rfl
    have hKc := hK.sub (tys' := []) [] rfl
    have hFc := va_free (wc := [(fb, .inr (2, [.int ox, .int oy, .int ow, .int oh]))]) hD hS hA [6] rfl
    refine va_calli (va_runV (As := []) (rest := []) ⟨hx, hb, hml, hown, hts⟩ (k_X2_isNearby l D H.size fb ox oy ow oh) (cwV 0 hts (gV bw_385 bw_65 bw_66 bw_55 bw_64) rfl rfl rfl (by decide +kernel) ⟨(by rw [hR]; exact Nat.le_of_ble_eq_true rfl), (by rw [hR]; exact Nat.le_of_ble_eq_true rfl)⟩) ⟨cP_blind, va_recv hKc hPc (ci := 2) (q0 := 0) rfl rfl, cP_at hPc hKc hDc hN⟩ rfl rfl hl.1 rfl (lv_room (Nat.le_of_ble_eq_true rfl)) dX8_carry_33 ⟨(by rw [hR]; exact Nat.le_of_ble_eq_true rfl), (by rw [hR]; exact Nat.le_of_ble_eq_true rfl)⟩) hS (fun q _ h => hFc q h) hFc (fun r_6 u9 t9 H1 locs ht hvm hr_6 hB hz1 hk1 hS => ?_)
    try dsimp only at hr_6
    obtain ⟨hP1, hK1, hD1⟩ := hB
    rw [ht] at hP1
    obtain ⟨hP, hD⟩ := va_join (wr := [(s2, .inr (1, [.ref bx, .int ik, .int wy, .int op])), (bx, .inr (0, [.int bx0, .int by0, .int bx1, .int by1])), (t0, .inr (5, [.ref d0, .int w, .int h])), (d0, .inl (cI, 4096, .inl g)), (bq, .inr (5, [.ref bd, .int bw, .int bh])), (bd, .inl (cI, 4096, .inl gb)), (h0, .inr (8, [.ref s1, .ref s2, .ref s3, .ref s4, .ref s5, .ref s6, .int ds, va_rf sp, .ref bq])), (s1, .inl (cO, 4, .inr (.inr (.inr (.inr f))))), (fa, .inr (2, [.int ax, .int ay, .int aw, .int ah]))]) (w1 := [(fb, .inr (2, [.int ox, .int oy, .int ow, .int oh]))]) hP hD [6] [0, 1, 2, 3, 4, 5, 7, 8, 9] rfl rfl (by decide) (by decide) hk1 hFc hP1 hD1
    clear hz1 hk1 hFc hKc hDc hPc
    generalize H1 = H at hP hS ⊢
    have hP : va_P D vwCl [(s2, .inr (1, [.ref bx, .int ik, .int wy, .int op])), (bx, .inr (0, [.int bx0, .int by0, .int bx1, .int by1])), (t0, .inr (5, [.ref d0, .int w, .int h])), (d0, .inl (cI, 4096, .inl g)), (bq, .inr (5, [.ref bd, .int bw, .int bh])), (bd, .inl (cI, 4096, .inl gb)), (h0, .inr (8, [.ref s1, .ref s2, .ref s3, .ref s4, .ref s5, .ref s6, .int ds, va_rf sp, .ref bq])), (s1, .inl (cO, 4, .inr (.inr (.inr (.inr f))))), (fa, .inr (2, [.int ax, .int ay, .int aw, .int ah])), (fb, .inr (2, [.int ox, .int oy, .int ow, .int oh]))] H := hP
    have hD : va_D A [(s2, .inr (1, [.ref bx, .int ik, .int wy, .int op])), (bx, .inr (0, [.int bx0, .int by0, .int bx1, .int by1])), (t0, .inr (5, [.ref d0, .int w, .int h])), (d0, .inl (cI, 4096, .inl g)), (bq, .inr (5, [.ref bd, .int bw, .int bh])), (bd, .inl (cI, 4096, .inl gb)), (h0, .inr (8, [.ref s1, .ref s2, .ref s3, .ref s4, .ref s5, .ref s6, .int ds, va_rf sp, .ref bq])), (s1, .inl (cO, 4, .inr (.inr (.inr (.inr f))))), (fa, .inr (2, [.int ax, .int ay, .int aw, .int ah])), (fb, .inr (2, [.int ox, .int oy, .int ow, .int oh]))] := hD
    refine lv_if_ne (tgt := 41) hx hb dX8_carry_36 (by decide) (fun c_7 => ?_) (fun c_7 => ?_)
    · skip
      have f_8 := bz1 hr_6 c_7
      refine lv_iload_n hx hb dX8_carry_41 rfl (lv_at hl 3 rfl) ?_
      refine lv_iload_n hx hb dX8_carry_42 rfl (lv_at hl 5 rfl) ?_
      refine lv_icmp_ne (tgt := 54) hx hb dX8_carry_43 (by decide) (fun c_9 => ?_) (fun c_9 => ?_)
      · skip
        have f_10 : ¬ (k.toInt = kq.toInt) := fn_eq rfl rfl c_9
        exact False.elim (by omega)
      · skip
        have f_10 : k.toInt = kq.toInt := f_eq rfl rfl c_9
        refine lv_aload_n hx hb dX8_carry_46 rfl (lv_at hl 2 rfl) ?_
        refine lv_aload hx hb dX8_carry_47 (lv_at hl 1 rfl) ?_
        have hPc := hP.sub (ws' := [(h0, .inr (8, [.ref s1, .ref s2, .ref s3, .ref s4, .ref s5, .ref s6, .int ds, va_rf sp, .ref bq])), (bq, .inr (5, [.ref bd, .int bw, .int bh])), (bd, .inl (cI, 4096, .inl gb)), (t0, .inr (5, [.ref d0, .int w, .int h])), (d0, .inl (cI, 4096, .inl g))]) [6, 4, 5, 2, 3] rfl
        have hDc := hD.sub (ws' := [(h0, .inr (8, [.ref s1, .ref s2, .ref s3, .ref s4, .ref s5, .ref s6, .int ds, va_rf sp, .ref bq])), (bq, .inr (5, [.ref bd, .int bw, .int bh])), (bd, .inl (cI, 4096, .inl gb)), (t0, .inr (5, [.ref d0, .int w, .int h])), (d0, .inl (cI, 4096, .inl g))]) [6, 4, 5, 2, 3] (by decide) rfl
        have hKc := hK.sub (tys' := [(cI, .int)]) [1] rfl
        have hFc := va_free (wc := [(h0, .inr (8, [.ref s1, .ref s2, .ref s3, .ref s4, .ref s5, .ref s6, .int ds, va_rf sp, .ref bq])), (bq, .inr (5, [.ref bd, .int bw, .int bh])), (bd, .inl (cI, 4096, .inl gb)), (t0, .inr (5, [.ref d0, .int w, .int h])), (d0, .inl (cI, 4096, .inl g))]) hD hS hA [6, 4, 5, 2, 3] rfl
        refine va_callq (va_runV (As := [.ref t0]) (rest := []) ⟨hx, hb, hml, hown, hts⟩ (k_X8_likenessOf_1 l D H.size h0 s1 s2 s3 s4 s5 s6 ds sp bq bd bw bh gb t0 d0 w h g cI) (cwV 1 hts (gV bw_386 bw_388 bw_389 bw_223 bw_387) rfl rfl rfl (by decide +kernel) ⟨(by rw [hR]; exact Nat.le_of_ble_eq_true rfl), (by rw [hR]; exact Nat.le_of_ble_eq_true rfl)⟩) ⟨cP_blind, va_recv hKc hPc (ci := 8) (q0 := 0) rfl rfl, cP_at hPc hKc hDc hN⟩ rfl rfl hl.1 rfl (lv_room (Nat.le_of_ble_eq_true rfl)) dX8_carry_49 ⟨(by rw [hR]; exact Nat.le_of_ble_eq_true rfl), (by rw [hR]; exact Nat.le_of_ble_eq_true rfl)⟩) hS (fun q _ h => hFc q h) hFc (fun r_11 u9 t9 H1 locs ht hvm hr_11 hB hz1 hk1 hS => ?_)
        try dsimp only at hr_11
        obtain ⟨g_12, b_13, hP1, hK1, hD1⟩ := hB
        rw [ht] at hP1
        obtain ⟨hP, hD⟩ := va_join (wr := [(s2, .inr (1, [.ref bx, .int ik, .int wy, .int op])), (bx, .inr (0, [.int bx0, .int by0, .int bx1, .int by1])), (s1, .inl (cO, 4, .inr (.inr (.inr (.inr f))))), (fa, .inr (2, [.int ax, .int ay, .int aw, .int ah])), (fb, .inr (2, [.int ox, .int oy, .int ow, .int oh]))]) (w1 := [(h0, .inr (8, [.ref s1, .ref s2, .ref s3, .ref s4, .ref s5, .ref s6, .int ds, va_rf sp, .ref bq])), (bq, .inr (5, [.ref bd, .int w, .int h])), (bd, .inl (cI, 4096, .inl g_12)), (t0, .inr (5, [.ref d0, .int w, .int h])), (d0, .inl (cI, 4096, .inl g))]) hP hD [6, 4, 5, 2, 3] [0, 1, 7, 8, 9] rfl rfl (by decide) (by decide) hk1 hFc hP1 hD1
        clear hz1 hk1 hFc hKc hDc hPc
        generalize H1 = H at hP hS ⊢
        have hP : va_P D vwCl [(s2, .inr (1, [.ref bx, .int ik, .int wy, .int op])), (bx, .inr (0, [.int bx0, .int by0, .int bx1, .int by1])), (s1, .inl (cO, 4, .inr (.inr (.inr (.inr f))))), (fa, .inr (2, [.int ax, .int ay, .int aw, .int ah])), (fb, .inr (2, [.int ox, .int oy, .int ow, .int oh])), (h0, .inr (8, [.ref s1, .ref s2, .ref s3, .ref s4, .ref s5, .ref s6, .int ds, va_rf sp, .ref bq])), (bq, .inr (5, [.ref bd, .int w, .int h])), (bd, .inl (cI, 4096, .inl g_12)), (t0, .inr (5, [.ref d0, .int w, .int h])), (d0, .inl (cI, 4096, .inl g))] H := hP
        have hD : va_D A [(s2, .inr (1, [.ref bx, .int ik, .int wy, .int op])), (bx, .inr (0, [.int bx0, .int by0, .int bx1, .int by1])), (s1, .inl (cO, 4, .inr (.inr (.inr (.inr f))))), (fa, .inr (2, [.int ax, .int ay, .int aw, .int ah])), (fb, .inr (2, [.int ox, .int oy, .int ow, .int oh])), (h0, .inr (8, [.ref s1, .ref s2, .ref s3, .ref s4, .ref s5, .ref s6, .int ds, va_rf sp, .ref bq])), (bq, .inr (5, [.ref bd, .int w, .int h])), (bd, .inl (cI, 4096, .inl g_12)), (t0, .inr (5, [.ref d0, .int w, .int h])), (d0, .inl (cI, 4096, .inl g))] := hD
        subst hr_11
        refine my_topv (v := .ref bq) rfl ?_
        refine lv_astore (lv' := [(5, .ref bq), (6, .ref t0), (0, .ref h0), (1, .int k), (2, .ref fa), (3, .int kq), (4, .ref fb)]) hx hb dX8_carry_52 hl (by decide) rfl (fun ls hl => ?_)
        obtain ⟨W9, hW9, eW9⟩ := i_of (x := ow) (N := 65) (by omega) (by omega) (by decide)
        have eW9n : ow.toNatClampNeg = W9 := by rw [eW9]; exact nI_clamp (by omega)
        have hW9t : ow.toInt = (W9 : Int) := by rw [eW9]; exact nI_toInt (by omega)
        obtain ⟨H9, hH9, eH9⟩ := i_of (x := oh) (N := 65) (by omega) (by omega) (by decide)
        have eH9n : oh.toNatClampNeg = H9 := by rw [eH9]; exact nI_clamp (by omega)
        have hH9t : oh.toInt = (H9 : Int) := by rw [eH9]; exact nI_toInt (by omega)
        refine lv_iconst (v := 0) hx hb dX8_carry_54 (by decide) ?_
        refine lv_istore (lv' := [(7, .int 0), (5, .ref bq), (6, .ref t0), (0, .ref h0), (1, .int k), (2, .ref fa), (3, .int kq), (4, .ref fb)]) hx hb dX8_carry_55 hl (by decide) rfl (fun ls hl => ?_)
        refine lv_iconst (v := 0) hx hb dX8_carry_57 (by decide) ?_
        refine lv_istore (lv' := [(8, .int 0), (7, .int 0), (5, .ref bq), (6, .ref t0), (0, .ref h0), (1, .int k), (2, .ref fa), (3, .int kq), (4, .ref fb)]) hx hb dX8_carry_58 hl (by decide) rfl (fun ls hl => ?_)
        have loop_14 : ∀ (n : Nat) (j : Nat) (x8 : Int32) (x7 : Int32) (ga : Nat → Int32) (H : Heap) (locs : List Loc) (ls : Array Slot), (j ≤ 64) → (64 + 1 ≤ j + n) → (x8 = nI j) → (j ≤ H9) → (ga = (gL (cyQ ax ay aw ah ox oy ow oh w h op g) W9 j).foldl (layG w h bx0 by0 bx1 by1 wy) g) → (x7 = (gL (cyQ ax ay aw ah ox oy ow oh w h op g) W9 j).foldl (layT w h bx0 by0 bx1 by1) 0) → va_P D vwCl [(s2, .inr (1, [.ref bx, .int ik, .int wy, .int op])), (bx, .inr (0, [.int bx0, .int by0, .int bx1, .int by1])), (s1, .inl (cO, 4, .inr (.inr (.inr (.inr f))))), (fa, .inr (2, [.int ax, .int ay, .int aw, .int ah])), (fb, .inr (2, [.int ox, .int oy, .int ow, .int oh])), (h0, .inr (8, [.ref s1, .ref s2, .ref s3, .ref s4, .ref s5, .ref s6, .int ds, va_rf sp, .ref bq])), (bq, .inr (5, [.ref bd, .int w, .int h])), (bd, .inl (cI, 4096, .inl g_12)), (t0, .inr (5, [.ref d0, .int w, .int h])), (d0, .inl (cI, 4096, .inl ga))] H → va_D A [(s2, .inr (1, [.ref bx, .int ik, .int wy, .int op])), (bx, .inr (0, [.int bx0, .int by0, .int bx1, .int by1])), (s1, .inl (cO, 4, .inr (.inr (.inr (.inr f))))), (fa, .inr (2, [.int ax, .int ay, .int aw, .int ah])), (fb, .inr (2, [.int ox, .int oy, .int ow, .int oh])), (h0, .inr (8, [.ref s1, .ref s2, .ref s3, .ref s4, .ref s5, .ref s6, .int ds, va_rf sp, .ref bq])), (bq, .inr (5, [.ref bd, .int w, .int h])), (bd, .inl (cI, 4096, .inl g_12)), (t0, .inr (5, [.ref d0, .int w, .int h])), (d0, .inl (cI, 4096, .inl ga))] → va_S A s.heap H locs → lv_has ls 12 [(8, .int x8), (7, .int x7), (5, .ref bq), (6, .ref t0), (0, .ref h0), (1, .int k), (2, .ref fa), (3, .int kq), (4, .ref fb)] → W p l e R s m ([.ref h0, .int k, .ref fa, .int kq, .ref fb] : List Value).toArray below meth c H locs 0 0 Q (F0 m 60 ls []) := by
          intro n
          induction n with
          | zero =>
            intro j x8 x7 ga H locs ls hi_j hm_j ex_j hjo hgo eto hP hD hS hl
            exact absurd (show False by omega) not_false
          | succ n ih_15 =>
            intro j x8 x7 ga H locs ls hi_j hm_j ex_j hjo hgo eto hP hD hS hl
            have hx_j : x8.toInt = (j : Int) := by rw [ex_j]; exact nI_toInt (by omega)
            have hc_j : x8.toNatClampNeg = j := by rw [ex_j]; exact nI_clamp (by omega)
            refine lv_iload hx hb dX8_carry_60 (lv_at hl 0 rfl) ?_
            refine lv_aload hx hb dX8_carry_62 (lv_at hl 8 rfl) ?_
            refine va_getN (host := RX8) (D := D) (ci := 2) (v := .int oh) (C := RX2) (T := TX2) (N := 4) hx hb hts hi_X2 hown hK hP 4 rfl rfl 3 (by decide) ((hN.1 (RX8, 238, "DotBench$Frame", "h", "I", RX8) (by decide +kernel)).use rfl) (fun _ h9 => h9) rfl dX8_carry_64 ?_
            refine lv_icmp_ge (tgt := 193) hx hb dX8_carry_67 (by decide) (fun c_16 => ?_) (fun c_16 => ?_)
            · skip
              have f_17 : oh.toInt ≤ (j : Int) := f_le rfl hx_j c_16
              refine lv_iload hx hb dX8_carry_193 (lv_at hl 1 rfl) ?_
              have hP : va_P D vwCl [(s2, .inr (1, [.ref bx, .int ik, .int wy, .int op])), (bx, .inr (0, [.int bx0, .int by0, .int bx1, .int by1])), (s1, .inl (cO, 4, .inr (.inr (.inr (.inr f))))), (fa, .inr (2, [.int ax, .int ay, .int aw, .int ah])), (fb, .inr (2, [.int ox, .int oy, .int ow, .int oh])), (h0, .inr (8, [.ref s1, .ref s2, .ref s3, .ref s4, .ref s5, .ref s6, .int ds, va_rf sp, .ref bq])), (bq, .inr (5, [.ref bd, .int w, .int h])), (bd, .inl (cI, 4096, .inl g_12)), (t0, .inr (5, [.ref d0, .int w, .int h])), (d0, .inl (cI, 4096, .inl ((gL (cyQ ax ay aw ah ox oy ow oh w h op g) ow.toNatClampNeg oh.toNatClampNeg).foldl (layG w h bx0 by0 bx1 by1 wy) g)))] H := by rw [eW9n, eH9n, ← show j = H9 by omega, ← hgo]; exact hP
              have hD : va_D A [(s2, .inr (1, [.ref bx, .int ik, .int wy, .int op])), (bx, .inr (0, [.int bx0, .int by0, .int bx1, .int by1])), (s1, .inl (cO, 4, .inr (.inr (.inr (.inr f))))), (fa, .inr (2, [.int ax, .int ay, .int aw, .int ah])), (fb, .inr (2, [.int ox, .int oy, .int ow, .int oh])), (h0, .inr (8, [.ref s1, .ref s2, .ref s3, .ref s4, .ref s5, .ref s6, .int ds, va_rf sp, .ref bq])), (bq, .inr (5, [.ref bd, .int w, .int h])), (bd, .inl (cI, 4096, .inl g_12)), (t0, .inr (5, [.ref d0, .int w, .int h])), (d0, .inl (cI, 4096, .inl ((gL (cyQ ax ay aw ah ox oy ow oh w h op g) ow.toNatClampNeg oh.toNatClampNeg).foldl (layG w h bx0 by0 bx1 by1 wy) g)))] := by rw [eW9n, eH9n, ← show j = H9 by omega, ← hgo]; exact hD
              have hP9 := hP.sub (ws' := [(h0, .inr (8, [.ref s1, .ref s2, .ref s3, .ref s4, .ref s5, .ref s6, .int ds, va_rf sp, .ref bq])), (s1, .inl (cO, 4, .inr (.inr (.inr (.inr f))))), (s2, .inr (1, [.ref bx, .int ik, .int wy, .int op])), (bx, .inr (0, [.int bx0, .int by0, .int bx1, .int by1])), (t0, .inr (5, [.ref d0, .int w, .int h])), (d0, .inl (cI, 4096, .inl ((gL (cyQ ax ay aw ah ox oy ow oh w h op g) ow.toNatClampNeg oh.toNatClampNeg).foldl (layG w h bx0 by0 bx1 by1 wy) g))), (bq, .inr (5, [.ref bd, .int w, .int h])), (bd, .inl (cI, 4096, .inl g_12))]) [5, 2, 0, 1, 8, 9, 6, 7] rfl
              have hD9 := hD.sub (ws' := [(h0, .inr (8, [.ref s1, .ref s2, .ref s3, .ref s4, .ref s5, .ref s6, .int ds, va_rf sp, .ref bq])), (s1, .inl (cO, 4, .inr (.inr (.inr (.inr f))))), (s2, .inr (1, [.ref bx, .int ik, .int wy, .int op])), (bx, .inr (0, [.int bx0, .int by0, .int bx1, .int by1])), (t0, .inr (5, [.ref d0, .int w, .int h])), (d0, .inl (cI, 4096, .inl ((gL (cyQ ax ay aw ah ox oy ow oh w h op g) ow.toNatClampNeg oh.toNatClampNeg).foldl (layG w h bx0 by0 bx1 by1 wy) g))), (bq, .inr (5, [.ref bd, .int w, .int h])), (bd, .inl (cI, 4096, .inl g_12))]) [5, 2, 0, 1, 8, 9, 6, 7] (by decide) rfl
              have hK9 := hK.sub (tys' := [(cO, .object "DotBench$Sheet"), (cI, .int)]) [0, 1] rfl
              refine hQ _ _ _ _ _ ?_
              exact W.iret (v := x7) hx hb hr (fun t ht hW => ⟨⟨x7, (), rfl, (by rw [eW9n, eH9n, ← show j = H9 by omega]; exact eto), ⟨g_12, by rw [ht]; exact hP9, va_K.moved hW.alike hK9, hD9⟩⟩, hS.F ht⟩) hS.2.2 dX8_carry_195
            · skip
              have f_17 : ¬ (oh.toInt ≤ (j : Int)) := fn_le rfl hx_j c_16
              refine lv_aload_n hx hb dX8_carry_70 rfl (lv_at hl 6 rfl) ?_
              refine va_getN (host := RX8) (D := D) (ci := 2) (v := .int ay) (C := RX2) (T := TX2) (N := 4) hx hb hts hi_X2 hown hK hP 3 rfl rfl 1 (by decide) ((hN.1 (RX8, 241, "DotBench$Frame", "y", "I", RX8) (by decide +kernel)).use rfl) (fun _ h9 => h9) rfl dX8_carry_71 ?_
              refine lv_iload hx hb dX8_carry_74 (lv_at hl 0 rfl) ?_
              refine lv_aload_n hx hb dX8_carry_76 rfl (lv_at hl 6 rfl) ?_
              refine va_getN (host := RX8) (D := D) (ci := 2) (v := .int ah) (C := RX2) (T := TX2) (N := 4) hx hb hts hi_X2 hown hK hP 3 rfl rfl 3 (by decide) ((hN.1 (RX8, 238, "DotBench$Frame", "h", "I", RX8) (by decide +kernel)).use rfl) (fun _ h9 => h9) rfl dX8_carry_77 ?_
              refine lv_imul hx hb dX8_carry_80 ?_
              refine lv_topi (fun y_18 ey_18 => ?_)
              refine lv_aload hx hb dX8_carry_81 (lv_at hl 8 rfl) ?_
              refine va_getN (host := RX8) (D := D) (ci := 2) (v := .int oh) (C := RX2) (T := TX2) (N := 4) hx hb hts hi_X2 hown hK hP 4 rfl rfl 3 (by decide) ((hN.1 (RX8, 238, "DotBench$Frame", "h", "I", RX8) (by decide +kernel)).use rfl) (fun _ h9 => h9) rfl dX8_carry_83 ?_
              refine lv_idiv hx hb dX8_carry_86 (ne0_of (by omega)) ?_
              refine lv_topi (fun y_19 ey_19 => ?_)
              refine lv_iadd hx hb dX8_carry_87 ?_
              refine lv_topi (fun y_20 ey_20 => ?_)
              have hcyy_20 : y_20 = cyX ay ah oh j := by rw [ey_20, ey_19, ey_18, ex_j]; rfl
              refine lv_istore (lv' := [(9, .int y_20), (8, .int x8), (7, .int x7), (5, .ref bq), (6, .ref t0), (0, .ref h0), (1, .int k), (2, .ref fa), (3, .int kq), (4, .ref fb)]) hx hb dX8_carry_88 hl (by decide) rfl (fun ls hl => ?_)
              refine lv_iconst (v := 0) hx hb dX8_carry_90 (by decide) ?_
              refine lv_istore (lv' := [(10, .int 0), (9, .int y_20), (8, .int x8), (7, .int x7), (5, .ref bq), (6, .ref t0), (0, .ref h0), (1, .int k), (2, .ref fa), (3, .int kq), (4, .ref fb)]) hx hb dX8_carry_91 hl (by decide) rfl (fun ls hl => ?_)
              have loop_21 : ∀ (n : Nat) (i : Nat) (x10 : Int32) (z7 : Int32) (gz : Nat → Int32) (H : Heap) (locs : List Loc) (ls : Array Slot), (i ≤ 64) → (64 + 1 ≤ i + n) → (x10 = nI i) → (i ≤ W9) → (gz = (gL (cyQ ax ay aw ah ox oy ow oh w h op g) W9 j ++ gR (cyQ ax ay aw ah ox oy ow oh w h op g) j i).foldl (layG w h bx0 by0 bx1 by1 wy) g) → (z7 = (gL (cyQ ax ay aw ah ox oy ow oh w h op g) W9 j ++ gR (cyQ ax ay aw ah ox oy ow oh w h op g) j i).foldl (layT w h bx0 by0 bx1 by1) 0) → va_P D vwCl [(s2, .inr (1, [.ref bx, .int ik, .int wy, .int op])), (bx, .inr (0, [.int bx0, .int by0, .int bx1, .int by1])), (s1, .inl (cO, 4, .inr (.inr (.inr (.inr f))))), (fa, .inr (2, [.int ax, .int ay, .int aw, .int ah])), (fb, .inr (2, [.int ox, .int oy, .int ow, .int oh])), (h0, .inr (8, [.ref s1, .ref s2, .ref s3, .ref s4, .ref s5, .ref s6, .int ds, va_rf sp, .ref bq])), (bq, .inr (5, [.ref bd, .int w, .int h])), (bd, .inl (cI, 4096, .inl g_12)), (t0, .inr (5, [.ref d0, .int w, .int h])), (d0, .inl (cI, 4096, .inl gz))] H → va_D A [(s2, .inr (1, [.ref bx, .int ik, .int wy, .int op])), (bx, .inr (0, [.int bx0, .int by0, .int bx1, .int by1])), (s1, .inl (cO, 4, .inr (.inr (.inr (.inr f))))), (fa, .inr (2, [.int ax, .int ay, .int aw, .int ah])), (fb, .inr (2, [.int ox, .int oy, .int ow, .int oh])), (h0, .inr (8, [.ref s1, .ref s2, .ref s3, .ref s4, .ref s5, .ref s6, .int ds, va_rf sp, .ref bq])), (bq, .inr (5, [.ref bd, .int w, .int h])), (bd, .inl (cI, 4096, .inl g_12)), (t0, .inr (5, [.ref d0, .int w, .int h])), (d0, .inl (cI, 4096, .inl gz))] → va_S A s.heap H locs → lv_has ls 12 [(10, .int x10), (9, .int y_20), (8, .int x8), (7, .int z7), (5, .ref bq), (6, .ref t0), (0, .ref h0), (1, .int k), (2, .ref fa), (3, .int kq), (4, .ref fb)] → W p l e R s m ([.ref h0, .int k, .ref fa, .int kq, .ref fb] : List Value).toArray below meth c H locs 0 0 Q (F0 m 93 ls []) := by
                intro n
                induction n with
                | zero =>
                  intro i x10 z7 gz H locs ls hi_i hm_i ex_i hio hgi eti hP hD hS hl
                  exact absurd (show False by omega) not_false
                | succ n ih_22 =>
                  intro i x10 z7 gz H locs ls hi_i hm_i ex_i hio hgi eti hP hD hS hl
                  have hx_i : x10.toInt = (i : Int) := by rw [ex_i]; exact nI_toInt (by omega)
                  have hc_i : x10.toNatClampNeg = i := by rw [ex_i]; exact nI_clamp (by omega)
                  refine lv_iload hx hb dX8_carry_93 (lv_at hl 0 rfl) ?_
                  refine lv_aload hx hb dX8_carry_95 (lv_at hl 10 rfl) ?_
                  refine va_getN (host := RX8) (D := D) (ci := 2) (v := .int ow) (C := RX2) (T := TX2) (N := 4) hx hb hts hi_X2 hown hK hP 4 rfl rfl 2 (by decide) ((hN.1 (RX8, 244, "DotBench$Frame", "w", "I", RX8) (by decide +kernel)).use rfl) (fun _ h9 => h9) rfl dX8_carry_97 ?_
                  refine lv_icmp_ge (tgt := 187) hx hb dX8_carry_100 (by decide) (fun c_23 => ?_) (fun c_23 => ?_)
                  · skip
                    have f_24 : ow.toInt ≤ (i : Int) := f_le rfl hx_i c_23
                    obtain ⟨y_25, ey_25⟩ : ∃ y : Int32, y = x8 + 1 := ⟨_, rfl⟩
                    refine lv_iinc (v := y_25) (lv' := [(8, .int y_25), (10, .int x10), (9, .int y_20), (7, .int z7), (5, .ref bq), (6, .ref t0), (0, .ref h0), (1, .int k), (2, .ref fa), (3, .int kq), (4, .ref fb)]) hx hb dX8_carry_187 hl (k := 2) rfl (by rw [ey_25]; rfl) (by decide) rfl (fun ls hl => ?_)
                    refine lv_goto (tgt := 60) hx hb dX8_carry_190 (by decide) ?_
                    exact ih_15 (j + 1) y_25 z7 gz _ _ _ (by omega) (by omega) (by rw [ey_25, ex_j]; exact nI_1 j) (by omega) (gl_nx hgi (by omega)) (gl_nx eti (by omega)) (hP.sub (ws' := [(s2, .inr (1, [.ref bx, .int ik, .int wy, .int op])), (bx, .inr (0, [.int bx0, .int by0, .int bx1, .int by1])), (s1, .inl (cO, 4, .inr (.inr (.inr (.inr f))))), (fa, .inr (2, [.int ax, .int ay, .int aw, .int ah])), (fb, .inr (2, [.int ox, .int oy, .int ow, .int oh])), (h0, .inr (8, [.ref s1, .ref s2, .ref s3, .ref s4, .ref s5, .ref s6, .int ds, va_rf sp, .ref bq])), (bq, .inr (5, [.ref bd, .int w, .int h])), (bd, .inl (cI, 4096, .inl g_12)), (t0, .inr (5, [.ref d0, .int w, .int h])), (d0, .inl (cI, 4096, .inl gz))]) [0, 1, 2, 3, 4, 5, 6, 7, 8, 9] rfl) (hD.sub (ws' := [(s2, .inr (1, [.ref bx, .int ik, .int wy, .int op])), (bx, .inr (0, [.int bx0, .int by0, .int bx1, .int by1])), (s1, .inl (cO, 4, .inr (.inr (.inr (.inr f))))), (fa, .inr (2, [.int ax, .int ay, .int aw, .int ah])), (fb, .inr (2, [.int ox, .int oy, .int ow, .int oh])), (h0, .inr (8, [.ref s1, .ref s2, .ref s3, .ref s4, .ref s5, .ref s6, .int ds, va_rf sp, .ref bq])), (bq, .inr (5, [.ref bd, .int w, .int h])), (bd, .inl (cI, 4096, .inl g_12)), (t0, .inr (5, [.ref d0, .int w, .int h])), (d0, .inl (cI, 4096, .inl gz))]) [0, 1, 2, 3, 4, 5, 6, 7, 8, 9] (by decide) rfl) hS (lv_sub hl [0, 3, 4, 5, 6, 7, 8, 9, 10] rfl)
                  · skip
                    have f_24 : ¬ (ow.toInt ≤ (i : Int)) := fn_le rfl hx_i c_23
                    refine lv_aload_n hx hb dX8_carry_103 rfl (lv_at hl 8 rfl) ?_
                    refine va_getN (host := RX8) (D := D) (ci := 2) (v := .int ax) (C := RX2) (T := TX2) (N := 4) hx hb hts hi_X2 hown hK hP 3 rfl rfl 0 (by decide) ((hN.1 (RX8, 247, "DotBench$Frame", "x", "I", RX8) (by decide +kernel)).use rfl) (fun _ h9 => h9) rfl dX8_carry_104 ?_
                    refine lv_iload hx hb dX8_carry_107 (lv_at hl 0 rfl) ?_
                    refine lv_aload_n hx hb dX8_carry_109 rfl (lv_at hl 8 rfl) ?_
                    refine va_getN (host := RX8) (D := D) (ci := 2) (v := .int aw) (C := RX2) (T := TX2) (N := 4) hx hb hts hi_X2 hown hK hP 3 rfl rfl 2 (by decide) ((hN.1 (RX8, 244, "DotBench$Frame", "w", "I", RX8) (by decide +kernel)).use rfl) (fun _ h9 => h9) rfl dX8_carry_110 ?_
                    refine lv_imul hx hb dX8_carry_113 ?_
                    refine lv_topi (fun y_26 ey_26 => ?_)
                    refine lv_aload hx hb dX8_carry_114 (lv_at hl 10 rfl) ?_
                    refine va_getN (host := RX8) (D := D) (ci := 2) (v := .int ow) (C := RX2) (T := TX2) (N := 4) hx hb hts hi_X2 hown hK hP 4 rfl rfl 2 (by decide) ((hN.1 (RX8, 244, "DotBench$Frame", "w", "I", RX8) (by decide +kernel)).use rfl) (fun _ h9 => h9) rfl dX8_carry_116 ?_
                    refine lv_idiv hx hb dX8_carry_119 (ne0_of (by omega)) ?_
                    refine lv_topi (fun y_27 ey_27 => ?_)
                    refine lv_iadd hx hb dX8_carry_120 ?_
                    refine lv_topi (fun y_28 ey_28 => ?_)
                    have hcyy_28 : y_28 = cyX ax aw ow i := by rw [ey_28, ey_27, ey_26, ex_i]; rfl
                    refine lv_istore (lv' := [(11, .int y_28), (10, .int x10), (9, .int y_20), (8, .int x8), (7, .int z7), (5, .ref bq), (6, .ref t0), (0, .ref h0), (1, .int k), (2, .ref fa), (3, .int kq), (4, .ref fb)]) hx hb dX8_carry_121 hl (by decide) rfl (fun ls hl => ?_)
                    refine lv_aload hx hb dX8_carry_123 (lv_at hl 5 rfl) ?_
                    refine lv_iload hx hb dX8_carry_125 (lv_at hl 0 rfl) ?_
                    refine lv_iload hx hb dX8_carry_127 (lv_at hl 2 rfl) ?_
                    have hPc := hP.sub (ws' := [(bq, .inr (5, [.ref bd, .int w, .int h]))]) [6] rfl
                    have hDc := hD.sub (ws' := [(bq, .inr (5, [.ref bd, .int w, .int h]))]) [6] (by decide) rfl
                    have hKc := hK.sub (tys' := []) [] rfl
                    have hFc := va_free (wc := [(bq, .inr (5, [.ref bd, .int w, .int h]))]) hD hS hA [6] rfl
                    refine va_calli (va_runV (As := [.int y_28, .int y_20]) (rest := []) ⟨hx, hb, hml, hown, hts⟩ (k_X5_has l D H.size bq bd w h y_28 y_20) (cwV 2 hts (gV bw_309 bw_150 bw_151 bw_130 bw_149) rfl rfl rfl (by decide +kernel) ⟨(by rw [hR]; exact Nat.le_of_ble_eq_true rfl), (by rw [hR]; exact Nat.le_of_ble_eq_true rfl)⟩) ⟨cP_blind, va_recv hKc hPc (ci := 5) (q0 := 0) rfl rfl, cP_at hPc hKc hDc hN⟩ rfl rfl hl.1 rfl (lv_room (Nat.le_of_ble_eq_true rfl)) dX8_carry_129 ⟨(by rw [hR]; exact Nat.le_of_ble_eq_true rfl), (by rw [hR]; exact Nat.le_of_ble_eq_true rfl)⟩) hS (fun q _ h => hFc q h) hFc (fun r_29 u9 t9 H1 locs ht hvm hr_29 hB hz1 hk1 hS => ?_)
                    try dsimp only at hr_29
                    obtain ⟨hP1, hK1, hD1⟩ := hB
                    rw [ht] at hP1
                    obtain ⟨hP, hD⟩ := va_join (wr := [(s2, .inr (1, [.ref bx, .int ik, .int wy, .int op])), (bx, .inr (0, [.int bx0, .int by0, .int bx1, .int by1])), (s1, .inl (cO, 4, .inr (.inr (.inr (.inr f))))), (fa, .inr (2, [.int ax, .int ay, .int aw, .int ah])), (fb, .inr (2, [.int ox, .int oy, .int ow, .int oh])), (h0, .inr (8, [.ref s1, .ref s2, .ref s3, .ref s4, .ref s5, .ref s6, .int ds, va_rf sp, .ref bq])), (bd, .inl (cI, 4096, .inl g_12)), (t0, .inr (5, [.ref d0, .int w, .int h])), (d0, .inl (cI, 4096, .inl gz))]) (w1 := [(bq, .inr (5, [.ref bd, .int w, .int h]))]) hP hD [6] [0, 1, 2, 3, 4, 5, 7, 8, 9] rfl rfl (by decide) (by decide) hk1 hFc hP1 hD1
                    clear hz1 hk1 hFc hKc hDc hPc
                    generalize H1 = H at hP hS ⊢
                    have hP : va_P D vwCl [(s2, .inr (1, [.ref bx, .int ik, .int wy, .int op])), (bx, .inr (0, [.int bx0, .int by0, .int bx1, .int by1])), (s1, .inl (cO, 4, .inr (.inr (.inr (.inr f))))), (fa, .inr (2, [.int ax, .int ay, .int aw, .int ah])), (fb, .inr (2, [.int ox, .int oy, .int ow, .int oh])), (h0, .inr (8, [.ref s1, .ref s2, .ref s3, .ref s4, .ref s5, .ref s6, .int ds, va_rf sp, .ref bq])), (bd, .inl (cI, 4096, .inl g_12)), (t0, .inr (5, [.ref d0, .int w, .int h])), (d0, .inl (cI, 4096, .inl gz)), (bq, .inr (5, [.ref bd, .int w, .int h]))] H := hP
                    have hD : va_D A [(s2, .inr (1, [.ref bx, .int ik, .int wy, .int op])), (bx, .inr (0, [.int bx0, .int by0, .int bx1, .int by1])), (s1, .inl (cO, 4, .inr (.inr (.inr (.inr f))))), (fa, .inr (2, [.int ax, .int ay, .int aw, .int ah])), (fb, .inr (2, [.int ox, .int oy, .int ow, .int oh])), (h0, .inr (8, [.ref s1, .ref s2, .ref s3, .ref s4, .ref s5, .ref s6, .int ds, va_rf sp, .ref bq])), (bd, .inl (cI, 4096, .inl g_12)), (t0, .inr (5, [.ref d0, .int w, .int h])), (d0, .inl (cI, 4096, .inl gz)), (bq, .inr (5, [.ref bd, .int w, .int h]))] := hD
                    refine lv_if_eq (tgt := 181) hx hb dX8_carry_132 (by decide) (fun c_30 => ?_) (fun c_30 => ?_)
                    · skip
                      have f_31 := bz0 hr_29 c_30
                      obtain ⟨y_32, ey_32⟩ : ∃ y : Int32, y = x10 + 1 := ⟨_, rfl⟩
                      refine lv_iinc (v := y_32) (lv' := [(10, .int y_32), (11, .int y_28), (9, .int y_20), (8, .int x8), (7, .int z7), (5, .ref bq), (6, .ref t0), (0, .ref h0), (1, .int k), (2, .ref fa), (3, .int kq), (4, .ref fb)]) hx hb dX8_carry_181 hl (k := 1) rfl (by rw [ey_32]; rfl) (by decide) rfl (fun ls hl => ?_)
                      refine lv_goto (tgt := 93) hx hb dX8_carry_184 (by decide) ?_
                      exact ih_22 (i + 1) y_32 z7 gz _ _ _ (by omega) (by omega) (by rw [ey_32, ex_i]; exact nI_1 i) (by omega) (by rw [show gR (cyQ ax ay aw ah ox oy ow oh w h op g) j (i + 1) = gR (cyQ ax ay aw ah ox oy ow oh w h op g) j i ++ [] from congrArg (gR (cyQ ax ay aw ah ox oy ow oh w h op g) j i ++ ·) (show (cyQ ax ay aw ah ox oy ow oh w h op g) j i = [] from if_neg (by rw [← hcyy_28, ← hcyy_20]; exact f_31)), List.append_nil]; exact hgi) (by rw [show gR (cyQ ax ay aw ah ox oy ow oh w h op g) j (i + 1) = gR (cyQ ax ay aw ah ox oy ow oh w h op g) j i ++ [] from congrArg (gR (cyQ ax ay aw ah ox oy ow oh w h op g) j i ++ ·) (show (cyQ ax ay aw ah ox oy ow oh w h op g) j i = [] from if_neg (by rw [← hcyy_28, ← hcyy_20]; exact f_31)), List.append_nil]; exact eti) (hP.sub (ws' := [(s2, .inr (1, [.ref bx, .int ik, .int wy, .int op])), (bx, .inr (0, [.int bx0, .int by0, .int bx1, .int by1])), (s1, .inl (cO, 4, .inr (.inr (.inr (.inr f))))), (fa, .inr (2, [.int ax, .int ay, .int aw, .int ah])), (fb, .inr (2, [.int ox, .int oy, .int ow, .int oh])), (h0, .inr (8, [.ref s1, .ref s2, .ref s3, .ref s4, .ref s5, .ref s6, .int ds, va_rf sp, .ref bq])), (bq, .inr (5, [.ref bd, .int w, .int h])), (bd, .inl (cI, 4096, .inl g_12)), (t0, .inr (5, [.ref d0, .int w, .int h])), (d0, .inl (cI, 4096, .inl gz))]) [0, 1, 2, 3, 4, 5, 9, 6, 7, 8] rfl) (hD.sub (ws' := [(s2, .inr (1, [.ref bx, .int ik, .int wy, .int op])), (bx, .inr (0, [.int bx0, .int by0, .int bx1, .int by1])), (s1, .inl (cO, 4, .inr (.inr (.inr (.inr f))))), (fa, .inr (2, [.int ax, .int ay, .int aw, .int ah])), (fb, .inr (2, [.int ox, .int oy, .int ow, .int oh])), (h0, .inr (8, [.ref s1, .ref s2, .ref s3, .ref s4, .ref s5, .ref s6, .int ds, va_rf sp, .ref bq])), (bq, .inr (5, [.ref bd, .int w, .int h])), (bd, .inl (cI, 4096, .inl g_12)), (t0, .inr (5, [.ref d0, .int w, .int h])), (d0, .inl (cI, 4096, .inl gz))]) [0, 1, 2, 3, 4, 5, 9, 6, 7, 8] (by decide) rfl) hS (lv_sub hl [0, 2, 3, 4, 5, 6, 7, 8, 9, 10, 11] rfl)
                    · skip
                      have f_31 := bz1 hr_29 c_30
                      refine lv_iload hx hb dX8_carry_135 (lv_at hl 4 rfl) ?_
                      refine lv_aload_n hx hb dX8_carry_137 rfl (lv_at hl 7 rfl) ?_
                      refine va_get (D := D) (ci := 8) (v := .ref s2) (C := RX8) (T := TX8) (N := 9) hx hb hts hi_X8 hown hK hP 5 rfl rfl 1 (by decide) (hts _ bw_231) (fun _ h9 => h9) rfl dX8_carry_138 ?_
                      refine lv_aload hx hb dX8_carry_141 (lv_at hl 6 rfl) ?_
                      refine lv_aload hx hb dX8_carry_143 (lv_at hl 11 rfl) ?_
                      refine va_getN (host := RX8) (D := D) (ci := 2) (v := .int ox) (C := RX2) (T := TX2) (N := 4) hx hb hts hi_X2 hown hK hP 4 rfl rfl 0 (by decide) ((hN.1 (RX8, 247, "DotBench$Frame", "x", "I", RX8) (by decide +kernel)).use rfl) (fun _ h9 => h9) rfl dX8_carry_145 ?_
                      refine lv_iload hx hb dX8_carry_148 (lv_at hl 1 rfl) ?_
                      refine lv_iadd hx hb dX8_carry_150 ?_
                      refine lv_topi (fun y_33 ey_33 => ?_)
                      have hply_33 : y_33 = ox + nI i := by rw [ey_33, ex_i]
                      refine lv_aload hx hb dX8_carry_151 (lv_at hl 11 rfl) ?_
                      refine va_getN (host := RX8) (D := D) (ci := 2) (v := .int oy) (C := RX2) (T := TX2) (N := 4) hx hb hts hi_X2 hown hK hP 4 rfl rfl 1 (by decide) ((hN.1 (RX8, 241, "DotBench$Frame", "y", "I", RX8) (by decide +kernel)).use rfl) (fun _ h9 => h9) rfl dX8_carry_153 ?_
                      refine lv_iload hx hb dX8_carry_156 (lv_at hl 3 rfl) ?_
                      refine lv_iadd hx hb dX8_carry_158 ?_
                      refine lv_topi (fun y_34 ey_34 => ?_)
                      have hply_34 : y_34 = oy + nI j := by rw [ey_34, ex_j]
                      refine lv_aload hx hb dX8_carry_159 (lv_at hl 5 rfl) ?_
                      refine lv_iload hx hb dX8_carry_161 (lv_at hl 0 rfl) ?_
                      refine lv_iload hx hb dX8_carry_163 (lv_at hl 2 rfl) ?_
                      have hPc := hP.sub (ws' := [(bq, .inr (5, [.ref bd, .int w, .int h])), (bd, .inl (cI, 4096, .inl g_12))]) [9, 6] rfl
                      have hDc := hD.sub (ws' := [(bq, .inr (5, [.ref bd, .int w, .int h])), (bd, .inl (cI, 4096, .inl g_12))]) [9, 6] (by decide) rfl
                      have hKc := hK.sub (tys' := [(cI, .int)]) [1] rfl
                      have hFc := va_free (wc := [(bq, .inr (5, [.ref bd, .int w, .int h])), (bd, .inl (cI, 4096, .inl g_12))]) hD hS hA [9, 6] rfl
                      refine va_calli (va_runV (As := [.int y_28, .int y_20]) (rest := [.int y_34, .int y_33, .ref t0, .ref s2, .int z7]) ⟨hx, hb, hml, hown, hts⟩ (k_X5_at l D H.size bq bd w h g_12 y_28 y_20 cI (by first | assumption | omega | decide) (by first | assumption | omega | decide)) (cwV 2 hts (gV bw_325 bw_153 bw_154 bw_130 bw_152) rfl rfl rfl (by decide +kernel) ⟨(by rw [hR]; exact Nat.le_of_ble_eq_true rfl), (by rw [hR]; exact Nat.le_of_ble_eq_true rfl)⟩) ⟨cP_blind, va_recv hKc hPc (ci := 5) (q0 := 0) rfl rfl, cP_at hPc hKc hDc hN⟩ rfl rfl hl.1 rfl (lv_room (Nat.le_of_ble_eq_true rfl)) dX8_carry_165 ⟨(by rw [hR]; exact Nat.le_of_ble_eq_true rfl), (by rw [hR]; exact Nat.le_of_ble_eq_true rfl)⟩) hS (fun q _ h => hFc q h) hFc (fun r_35 u9 t9 H1 locs ht hvm hr_35 hB hz1 hk1 hS => ?_)
                      try dsimp only at hr_35
                      obtain ⟨hP1, hK1, hD1⟩ := hB
                      rw [ht] at hP1
                      obtain ⟨hP, hD⟩ := va_join (wr := [(s2, .inr (1, [.ref bx, .int ik, .int wy, .int op])), (bx, .inr (0, [.int bx0, .int by0, .int bx1, .int by1])), (s1, .inl (cO, 4, .inr (.inr (.inr (.inr f))))), (fa, .inr (2, [.int ax, .int ay, .int aw, .int ah])), (fb, .inr (2, [.int ox, .int oy, .int ow, .int oh])), (h0, .inr (8, [.ref s1, .ref s2, .ref s3, .ref s4, .ref s5, .ref s6, .int ds, va_rf sp, .ref bq])), (t0, .inr (5, [.ref d0, .int w, .int h])), (d0, .inl (cI, 4096, .inl gz))]) (w1 := [(bq, .inr (5, [.ref bd, .int w, .int h])), (bd, .inl (cI, 4096, .inl g_12))]) hP hD [9, 6] [0, 1, 2, 3, 4, 5, 7, 8] rfl rfl (by decide) (by decide) hk1 hFc hP1 hD1
                      clear hz1 hk1 hFc hKc hDc hPc
                      generalize H1 = H at hP hS ⊢
                      have hP : va_P D vwCl [(s2, .inr (1, [.ref bx, .int ik, .int wy, .int op])), (bx, .inr (0, [.int bx0, .int by0, .int bx1, .int by1])), (s1, .inl (cO, 4, .inr (.inr (.inr (.inr f))))), (fa, .inr (2, [.int ax, .int ay, .int aw, .int ah])), (fb, .inr (2, [.int ox, .int oy, .int ow, .int oh])), (h0, .inr (8, [.ref s1, .ref s2, .ref s3, .ref s4, .ref s5, .ref s6, .int ds, va_rf sp, .ref bq])), (t0, .inr (5, [.ref d0, .int w, .int h])), (d0, .inl (cI, 4096, .inl gz)), (bq, .inr (5, [.ref bd, .int w, .int h])), (bd, .inl (cI, 4096, .inl g_12))] H := hP
                      have hD : va_D A [(s2, .inr (1, [.ref bx, .int ik, .int wy, .int op])), (bx, .inr (0, [.int bx0, .int by0, .int bx1, .int by1])), (s1, .inl (cO, 4, .inr (.inr (.inr (.inr f))))), (fa, .inr (2, [.int ax, .int ay, .int aw, .int ah])), (fb, .inr (2, [.int ox, .int oy, .int ow, .int oh])), (h0, .inr (8, [.ref s1, .ref s2, .ref s3, .ref s4, .ref s5, .ref s6, .int ds, va_rf sp, .ref bq])), (t0, .inr (5, [.ref d0, .int w, .int h])), (d0, .inl (cI, 4096, .inl gz)), (bq, .inr (5, [.ref bd, .int w, .int h])), (bd, .inl (cI, 4096, .inl g_12))] := hD
                      have hsv : g (ixP y_28 y_20) = r_35 := by rw [hr_35, if_pos f_31]; exact (b_13 _ (ix_lt (by omega) (by omega) (by omega) (by omega))).symm
                      refine lv_aload_n hx hb dX8_carry_168 rfl (lv_at hl 7 rfl) ?_
                      refine va_get (D := D) (ci := 8) (v := .ref s2) (C := RX8) (T := TX8) (N := 9) hx hb hts hi_X8 hown hK hP 5 rfl rfl 1 (by decide) (hts _ bw_231) (fun _ h9 => h9) rfl dX8_carry_169 ?_
                      refine va_getN (host := RX8) (D := D) (ci := 1) (v := .int op) (C := RX1) (T := TX1) (N := 4) hx hb hts hi_X1 hown hK hP 0 rfl rfl 3 (by decide) ((hN.1 (RX8, 86, "DotBench$Brush", "opacity", "I", RX8) (by decide +kernel)).use rfl) (fun _ h9 => h9) rfl dX8_carry_172 ?_
                      have hPc := hP.sub (ws' := [(s2, .inr (1, [.ref bx, .int ik, .int wy, .int op])), (bx, .inr (0, [.int bx0, .int by0, .int bx1, .int by1])), (t0, .inr (5, [.ref d0, .int w, .int h])), (d0, .inl (cI, 4096, .inl gz))]) [0, 1, 6, 7] rfl
                      have hDc := hD.sub (ws' := [(s2, .inr (1, [.ref bx, .int ik, .int wy, .int op])), (bx, .inr (0, [.int bx0, .int by0, .int bx1, .int by1])), (t0, .inr (5, [.ref d0, .int w, .int h])), (d0, .inl (cI, 4096, .inl gz))]) [0, 1, 6, 7] (by decide) rfl
                      have hKc := hK.sub (tys' := [(cI, .int)]) [1] rfl
                      have hFc := va_free (wc := [(s2, .inr (1, [.ref bx, .int ik, .int wy, .int op])), (bx, .inr (0, [.int bx0, .int by0, .int bx1, .int by1])), (t0, .inr (5, [.ref d0, .int w, .int h])), (d0, .inl (cI, 4096, .inl gz))]) hD hS hA [0, 1, 6, 7] rfl
                      refine va_calli (va_runV (As := [.ref t0, .int y_33, .int y_34, .int r_35, .int op]) (rest := [.int z7]) ⟨hx, hb, hml, hown, hts⟩ (k_X1_lay l D H.size s2 bx ik wy op t0 d0 bx0 by0 bx1 by1 w h gz y_33 y_34 r_35 op cI (by first | assumption | omega | decide) (by first | assumption | omega | decide) (by first | assumption | omega | decide)) (cwV 5 hts (gV bw_276 bw_33 bw_34 bw_19 bw_32) rfl rfl rfl (by decide +kernel) ⟨(by rw [hR]; exact Nat.le_of_ble_eq_true rfl), (by rw [hR]; exact Nat.le_of_ble_eq_true rfl)⟩) ⟨cP_blind, va_recv hKc hPc (ci := 1) (q0 := 0) rfl rfl, cP_at hPc hKc hDc hN⟩ rfl rfl hl.1 rfl (lv_room (Nat.le_of_ble_eq_true rfl)) dX8_carry_175 ⟨(by rw [hR]; exact Nat.le_of_ble_eq_true rfl), (by rw [hR]; exact Nat.le_of_ble_eq_true rfl)⟩) hS (fun q _ h => hFc q h) hFc (fun r_36 u9 t9 H1 locs ht hvm hr_36 hB hz1 hk1 hS => ?_)
                      try dsimp only at hr_36
                      obtain ⟨hP1, hK1, hD1⟩ := hB
                      rw [ht] at hP1
                      obtain ⟨hP, hD⟩ := va_join (wr := [(s1, .inl (cO, 4, .inr (.inr (.inr (.inr f))))), (fa, .inr (2, [.int ax, .int ay, .int aw, .int ah])), (fb, .inr (2, [.int ox, .int oy, .int ow, .int oh])), (h0, .inr (8, [.ref s1, .ref s2, .ref s3, .ref s4, .ref s5, .ref s6, .int ds, va_rf sp, .ref bq])), (bq, .inr (5, [.ref bd, .int w, .int h])), (bd, .inl (cI, 4096, .inl g_12))]) (w1 := [(s2, .inr (1, [.ref bx, .int ik, .int wy, .int op])), (bx, .inr (0, [.int bx0, .int by0, .int bx1, .int by1])), (t0, .inr (5, [.ref d0, .int w, .int h])), (d0, .inl (cI, 4096, .inl (if 0 ≤ y_33.toInt ∧ y_33.toInt < w.toInt ∧ 0 ≤ y_34.toInt ∧ y_34.toInt < h.toInt ∧ bx0.toInt ≤ y_33.toInt ∧ y_33.toInt ≤ bx1.toInt ∧ by0.toInt ≤ y_34.toInt ∧ y_34.toInt ≤ by1.toInt then upd gz (ixP y_33 y_34) (laidP wy r_35 (gz (ixP y_33 y_34)) op) else gz)))]) hP hD [0, 1, 6, 7] [2, 3, 4, 5, 8, 9] rfl rfl (by decide) (by decide) hk1 hFc hP1 hD1
                      clear hz1 hk1 hFc hKc hDc hPc
                      generalize H1 = H at hP hS ⊢
                      have hP : va_P D vwCl [(s1, .inl (cO, 4, .inr (.inr (.inr (.inr f))))), (fa, .inr (2, [.int ax, .int ay, .int aw, .int ah])), (fb, .inr (2, [.int ox, .int oy, .int ow, .int oh])), (h0, .inr (8, [.ref s1, .ref s2, .ref s3, .ref s4, .ref s5, .ref s6, .int ds, va_rf sp, .ref bq])), (bq, .inr (5, [.ref bd, .int w, .int h])), (bd, .inl (cI, 4096, .inl g_12)), (s2, .inr (1, [.ref bx, .int ik, .int wy, .int op])), (bx, .inr (0, [.int bx0, .int by0, .int bx1, .int by1])), (t0, .inr (5, [.ref d0, .int w, .int h])), (d0, .inl (cI, 4096, .inl (if 0 ≤ y_33.toInt ∧ y_33.toInt < w.toInt ∧ 0 ≤ y_34.toInt ∧ y_34.toInt < h.toInt ∧ bx0.toInt ≤ y_33.toInt ∧ y_33.toInt ≤ bx1.toInt ∧ by0.toInt ≤ y_34.toInt ∧ y_34.toInt ≤ by1.toInt then upd gz (ixP y_33 y_34) (laidP wy r_35 (gz (ixP y_33 y_34)) op) else gz)))] H := hP
                      have hD : va_D A [(s1, .inl (cO, 4, .inr (.inr (.inr (.inr f))))), (fa, .inr (2, [.int ax, .int ay, .int aw, .int ah])), (fb, .inr (2, [.int ox, .int oy, .int ow, .int oh])), (h0, .inr (8, [.ref s1, .ref s2, .ref s3, .ref s4, .ref s5, .ref s6, .int ds, va_rf sp, .ref bq])), (bq, .inr (5, [.ref bd, .int w, .int h])), (bd, .inl (cI, 4096, .inl g_12)), (s2, .inr (1, [.ref bx, .int ik, .int wy, .int op])), (bx, .inr (0, [.int bx0, .int by0, .int bx1, .int by1])), (t0, .inr (5, [.ref d0, .int w, .int h])), (d0, .inl (cI, 4096, .inl (if 0 ≤ y_33.toInt ∧ y_33.toInt < w.toInt ∧ 0 ≤ y_34.toInt ∧ y_34.toInt < h.toInt ∧ bx0.toInt ≤ y_33.toInt ∧ y_33.toInt ≤ bx1.toInt ∧ by0.toInt ≤ y_34.toInt ∧ y_34.toInt ≤ by1.toInt then upd gz (ixP y_33 y_34) (laidP wy r_35 (gz (ixP y_33 y_34)) op) else gz)))] := hD
                      refine lv_iadd hx hb dX8_carry_178 ?_
                      refine lv_topi (fun y_37 ey_37 => ?_)
                      refine lv_istore (lv' := [(7, .int y_37), (11, .int y_28), (10, .int x10), (9, .int y_20), (8, .int x8), (5, .ref bq), (6, .ref t0), (0, .ref h0), (1, .int k), (2, .ref fa), (3, .int kq), (4, .ref fb)]) hx hb dX8_carry_179 hl (by decide) rfl (fun ls hl => ?_)
                      obtain ⟨y_38, ey_38⟩ : ∃ y : Int32, y = x10 + 1 := ⟨_, rfl⟩
                      refine lv_iinc (v := y_38) (lv' := [(10, .int y_38), (7, .int y_37), (11, .int y_28), (9, .int y_20), (8, .int x8), (5, .ref bq), (6, .ref t0), (0, .ref h0), (1, .int k), (2, .ref fa), (3, .int kq), (4, .ref fb)]) hx hb dX8_carry_181 hl (k := 2) rfl (by rw [ey_38]; rfl) (by decide) rfl (fun ls hl => ?_)
                      refine lv_goto (tgt := 93) hx hb dX8_carry_184 (by decide) ?_
                      exact ih_22 (i + 1) y_38 y_37 (if 0 ≤ y_33.toInt ∧ y_33.toInt < w.toInt ∧ 0 ≤ y_34.toInt ∧ y_34.toInt < h.toInt ∧ bx0.toInt ≤ y_33.toInt ∧ y_33.toInt ≤ bx1.toInt ∧ by0.toInt ≤ y_34.toInt ∧ y_34.toInt ≤ by1.toInt then upd gz (ixP y_33 y_34) (laidP wy r_35 (gz (ixP y_33 y_34)) op) else gz) _ _ _ (by omega) (by omega) (by rw [ey_38, ex_i]; exact nI_1 i) (by omega) (by rw [show gR (cyQ ax ay aw ah ox oy ow oh w h op g) j (i + 1) = gR (cyQ ax ay aw ah ox oy ow oh w h op g) j i ++ [(y_33, y_34, r_35, op)] from congrArg (gR (cyQ ax ay aw ah ox oy ow oh w h op g) j i ++ ·) (show (cyQ ax ay aw ah ox oy ow oh w h op g) j i = [(y_33, y_34, r_35, op)] by unfold cyQ; rw [if_pos (by rw [← hcyy_28, ← hcyy_20]; exact f_31), ← hcyy_28, ← hcyy_20, ← hply_33, ← hply_34, hsv]), ← List.append_assoc, List.foldl_append, ← hgi]; rfl) (by rw [show gR (cyQ ax ay aw ah ox oy ow oh w h op g) j (i + 1) = gR (cyQ ax ay aw ah ox oy ow oh w h op g) j i ++ [(y_33, y_34, r_35, op)] from congrArg (gR (cyQ ax ay aw ah ox oy ow oh w h op g) j i ++ ·) (show (cyQ ax ay aw ah ox oy ow oh w h op g) j i = [(y_33, y_34, r_35, op)] by unfold cyQ; rw [if_pos (by rw [← hcyy_28, ← hcyy_20]; exact f_31), ← hcyy_28, ← hcyy_20, ← hply_33, ← hply_34, hsv]), ← List.append_assoc, List.foldl_append, ← eti, ey_37, hr_36]; rfl) (hP.sub (ws' := [(s2, .inr (1, [.ref bx, .int ik, .int wy, .int op])), (bx, .inr (0, [.int bx0, .int by0, .int bx1, .int by1])), (s1, .inl (cO, 4, .inr (.inr (.inr (.inr f))))), (fa, .inr (2, [.int ax, .int ay, .int aw, .int ah])), (fb, .inr (2, [.int ox, .int oy, .int ow, .int oh])), (h0, .inr (8, [.ref s1, .ref s2, .ref s3, .ref s4, .ref s5, .ref s6, .int ds, va_rf sp, .ref bq])), (bq, .inr (5, [.ref bd, .int w, .int h])), (bd, .inl (cI, 4096, .inl g_12)), (t0, .inr (5, [.ref d0, .int w, .int h])), (d0, .inl (cI, 4096, .inl (if 0 ≤ y_33.toInt ∧ y_33.toInt < w.toInt ∧ 0 ≤ y_34.toInt ∧ y_34.toInt < h.toInt ∧ bx0.toInt ≤ y_33.toInt ∧ y_33.toInt ≤ bx1.toInt ∧ by0.toInt ≤ y_34.toInt ∧ y_34.toInt ≤ by1.toInt then upd gz (ixP y_33 y_34) (laidP wy r_35 (gz (ixP y_33 y_34)) op) else gz)))]) [6, 7, 0, 1, 2, 3, 4, 5, 8, 9] rfl) (hD.sub (ws' := [(s2, .inr (1, [.ref bx, .int ik, .int wy, .int op])), (bx, .inr (0, [.int bx0, .int by0, .int bx1, .int by1])), (s1, .inl (cO, 4, .inr (.inr (.inr (.inr f))))), (fa, .inr (2, [.int ax, .int ay, .int aw, .int ah])), (fb, .inr (2, [.int ox, .int oy, .int ow, .int oh])), (h0, .inr (8, [.ref s1, .ref s2, .ref s3, .ref s4, .ref s5, .ref s6, .int ds, va_rf sp, .ref bq])), (bq, .inr (5, [.ref bd, .int w, .int h])), (bd, .inl (cI, 4096, .inl g_12)), (t0, .inr (5, [.ref d0, .int w, .int h])), (d0, .inl (cI, 4096, .inl (if 0 ≤ y_33.toInt ∧ y_33.toInt < w.toInt ∧ 0 ≤ y_34.toInt ∧ y_34.toInt < h.toInt ∧ bx0.toInt ≤ y_33.toInt ∧ y_33.toInt ≤ bx1.toInt ∧ by0.toInt ≤ y_34.toInt ∧ y_34.toInt ≤ by1.toInt then upd gz (ixP y_33 y_34) (laidP wy r_35 (gz (ixP y_33 y_34)) op) else gz)))]) [6, 7, 0, 1, 2, 3, 4, 5, 8, 9] (by decide) rfl) hS (lv_sub hl [0, 3, 4, 1, 5, 6, 7, 8, 9, 10, 11] rfl)
              exact loop_21 (64 + 1) 0 0 x7 ga _ _ _ (by omega) (by omega) nI_0.symm (by omega) (by rw [show gR (cyQ ax ay aw ah ox oy ow oh w h op g) j 0 = [] from rfl, List.append_nil]; exact hgo) (by rw [show gR (cyQ ax ay aw ah ox oy ow oh w h op g) j 0 = [] from rfl, List.append_nil]; exact eto) hP hD hS (lv_sub hl [0, 1, 2, 3, 4, 5, 6, 7, 8, 9, 10] rfl)
        exact loop_14 (64 + 1) 0 0 0 g _ _ _ (by omega) (by omega) nI_0.symm (by omega) rfl rfl hP hD hS (lv_sub hl [0, 1, 2, 3, 4, 5, 6, 7, 8] rfl)
    · skip
      have f_8 := bz0 hr_6 c_7
      exact False.elim (by omega)

set_option maxHeartbeats 4000000 in
set_option maxRecDepth 100000 in
theorem k_X8_carry_s0e (l : Launch) (D : va_G) (sz : Nat) (h0 s1 s2 s3 s4 s5 s6 : Nat) (ds : Int32) (sp : Option Nat) (f : Nat → Option Nat) (bx t0 d0 : Nat) (ik wy op : Int32) (bx0 by0 bx1 by1 : Int32) (w h : Int32) (g : Nat → Int32) (fa fb : Nat) (ax ay aw ah ox oy ow oh : Int32) (k kq : Int32) (cO : ClassId) (cI : ClassId) (hak : 0 ≤ k.toInt ∧ k.toInt ≤ 3) (haf : f k.toNatClampNeg = some t0) (hb0k : 0 ≤ kq.toInt ∧ kq.toInt ≤ 3) (hb0f : f kq.toNatClampNeg = some t0) (hne : k.toInt = kq.toInt) (hnr : (-200 ≤ ax.toInt ∧ ax.toInt ≤ 200) ∧ (-200 ≤ ay.toInt ∧ ay.toInt ≤ 200) ∧ (-200 ≤ ox.toInt ∧ ox.toInt ≤ 200) ∧ (-200 ≤ oy.toInt ∧ oy.toInt ≤ 200)) (hwy : 0 ≤ wy.toInt ∧ wy.toInt ≤ 12) (hw : w.toInt ≤ 64) (hh : h.toInt ≤ 64) (how : 0 ≤ ow.toInt ∧ ow.toInt ≤ 64) (hoh : 0 ≤ oh.toInt ∧ oh.toInt ≤ 64) : Met l yX8_carry (wB yX8_carry cX8_carry 12 (some .int)) ({ frames := 3, cells := 2, slots := 4099, locals := 75 }) (cP D [(h0, .inr (8, [.ref s1, .ref s2, .ref s3, .ref s4, .ref s5, .ref s6, .int ds, va_rf sp, .null])), (s1, .inl (cO, 4, .inr (.inr (.inr (.inr f))))), (s2, .inr (1, [.ref bx, .int ik, .int wy, .int op])), (bx, .inr (0, [.int bx0, .int by0, .int bx1, .int by1])), (t0, .inr (5, [.ref d0, .int w, .int h])), (d0, .inl (cI, 4096, .inl g)), (fa, .inr (2, [.int ax, .int ay, .int aw, .int ah])), (fb, .inr (2, [.int ox, .int oy, .int ow, .int oh]))] [(cO, .object "DotBench$Sheet"), (cI, .int)] sz [.ref h0, .int k, .ref fa, .int kq, .ref fb]) (va_Qi (fun (r : Int32) (_ : Unit) => r = (gL (cyQ ax ay aw ah ox oy ow oh w h op g) ow.toNatClampNeg oh.toNatClampNeg).foldl (layT w h bx0 by0 bx1 by1) 0) (fun (_ : Unit) (t : State) => ∃ (bq bd : Nat), ∃ (g3 : Nat → Int32), cB D (va_A [(h0, .inr (8, [.ref s1, .ref s2, .ref s3, .ref s4, .ref s5, .ref s6, .int ds, va_rf sp, .null])), (s1, .inl (cO, 4, .inr (.inr (.inr (.inr f))))), (s2, .inr (1, [.ref bx, .int ik, .int wy, .int op])), (bx, .inr (0, [.int bx0, .int by0, .int bx1, .int by1])), (t0, .inr (5, [.ref d0, .int w, .int h])), (d0, .inl (cI, 4096, .inl g)), (fa, .inr (2, [.int ax, .int ay, .int aw, .int ah])), (fb, .inr (2, [.int ox, .int oy, .int ow, .int oh]))] sz) [(h0, .inr (8, [.ref s1, .ref s2, .ref s3, .ref s4, .ref s5, .ref s6, .int ds, va_rf sp, .ref bq])), (s1, .inl (cO, 4, .inr (.inr (.inr (.inr f))))), (s2, .inr (1, [.ref bx, .int ik, .int wy, .int op])), (bx, .inr (0, [.int bx0, .int by0, .int bx1, .int by1])), (t0, .inr (5, [.ref d0, .int w, .int h])), (d0, .inl (cI, 4096, .inl ((gL (cyQ ax ay aw ah ox oy ow oh w h op g) ow.toNatClampNeg oh.toNatClampNeg).foldl (layG w h bx0 by0 bx1 by1 wy) g))), (bq, .inr (5, [.ref bd, .int w, .int h])), (bd, .inl (cI, 4096, .inl g3))] [(cO, .object "DotBench$Sheet"), (cI, .int)] t) (va_A [(h0, .inr (8, [.ref s1, .ref s2, .ref s3, .ref s4, .ref s5, .ref s6, .int ds, va_rf sp, .null])), (s1, .inl (cO, 4, .inr (.inr (.inr (.inr f))))), (s2, .inr (1, [.ref bx, .int ik, .int wy, .int op])), (bx, .inr (0, [.int bx0, .int by0, .int bx1, .int by1])), (t0, .inr (5, [.ref d0, .int w, .int h])), (d0, .inl (cI, 4096, .inl g)), (fa, .inr (2, [.int ax, .int ay, .int aw, .int ah])), (fb, .inr (2, [.int ox, .int oy, .int ow, .int oh]))] sz)) 2 4099 (va_A [(h0, .inr (8, [.ref s1, .ref s2, .ref s3, .ref s4, .ref s5, .ref s6, .int ds, va_rf sp, .null])), (s1, .inl (cO, 4, .inr (.inr (.inr (.inr f))))), (s2, .inr (1, [.ref bx, .int ik, .int wy, .int op])), (bx, .inr (0, [.int bx0, .int by0, .int bx1, .int by1])), (t0, .inr (5, [.ref d0, .int w, .int h])), (d0, .inl (cI, 4096, .inl g)), (fa, .inr (2, [.int ax, .int ay, .int aw, .int ah])), (fb, .inr (2, [.int ox, .int oy, .int ow, .int oh]))] sz) := by
  refine Met.ofW (cc := cX8_carry) (maxL := 12) (ret := (some .int)) (by decide) rfl ?_
  intro p e s m args below meth c s₁ B hml hv
  obtain ⟨rfl, hsz, hP, hK, hD0, hN⟩ := hv
  have hx := B.exec
  have hb := B.bytes
  have hr := B.returns
  have hts0 := atoms_spec (ws := (wB yX8_carry cX8_carry 12 (some .int))) B.pre
  have hts : ∀ w ∈ bigW, w.before _ s = true := fun w h => hts0 w (List.mem_cons_of_mem _ h)
  have hown : s.vm.findClass RX8 = some m.cls := findClass_of_methodNamed B.named
  have hlocks := B.notSynchronized
  subst hsz
  have hD := hD0.self (sz := s.heap.size)
  generalize hAe : va_A [(h0, .inr (8, [.ref s1, .ref s2, .ref s3, .ref s4, .ref s5, .ref s6, .int ds, va_rf sp, .null])), (s1, .inl (cO, 4, .inr (.inr (.inr (.inr f))))), (s2, .inr (1, [.ref bx, .int ik, .int wy, .int op])), (bx, .inr (0, [.int bx0, .int by0, .int bx1, .int by1])), (t0, .inr (5, [.ref d0, .int w, .int h])), (d0, .inl (cI, 4096, .inl g)), (fa, .inr (2, [.int ax, .int ay, .int aw, .int ah])), (fb, .inr (2, [.int ox, .int oy, .int ow, .int oh]))] s.heap.size = A at hD ⊢
  have hA : ∀ q : Nat, s.heap.size ≤ q → A q := fun q h => by rw [← hAe]; exact Or.inr h
  have hS : va_S A s.heap s.heap [] := va_S.rf
  have hP : va_P D vwCl [(h0, .inr (8, [.ref s1, .ref s2, .ref s3, .ref s4, .ref s5, .ref s6, .int ds, va_rf sp, .null])), (s1, .inl (cO, 4, .inr (.inr (.inr (.inr f))))), (s2, .inr (1, [.ref bx, .int ik, .int wy, .int op])), (bx, .inr (0, [.int bx0, .int by0, .int bx1, .int by1])), (t0, .inr (5, [.ref d0, .int w, .int h])), (d0, .inl (cI, 4096, .inl g)), (fa, .inr (2, [.int ax, .int ay, .int aw, .int ah])), (fb, .inr (2, [.int ox, .int oy, .int ow, .int oh]))] s.heap := hP
  have hl := lv_entry ([.ref h0, .int k, .ref fa, .int kq, .ref fb]) (n := 12) (Nat.le_of_ble_eq_true rfl)
  rw [lg_entry_eq]
  generalize (lg_sl ([.ref h0, .int k, .ref fa, .int kq, .ref fb]) ++ List.replicate (12 - (lg_sl ([.ref h0, .int k, .ref fa, .int kq, .ref fb])).length) Slot.unset).toArray = ls at hl ⊢
  have hl : lv_has ls 12 [(0, .ref h0), (1, .int k), (2, .ref fa), (3, .int kq), (4, .ref fb)] := hl
  clear hts0 hD0 hAe
  refine my_abs (fun R Q hR hQ => ?_)
  refine lv_aload_n hx hb dX8_carry_0 rfl (lv_at hl 0 rfl) ?_
  refine lv_iload_n hx hb dX8_carry_1 rfl (lv_at hl 1 rfl) ?_
  have hPc := hP.sub (ws' := [(h0, .inr (8, [.ref s1, .ref s2, .ref s3, .ref s4, .ref s5, .ref s6, .int ds, va_rf sp, .null])), (s1, .inl (cO, 4, .inr (.inr (.inr (.inr f)))))]) [0, 1] rfl
  have hDc := hD.sub (ws' := [(h0, .inr (8, [.ref s1, .ref s2, .ref s3, .ref s4, .ref s5, .ref s6, .int ds, va_rf sp, .null])), (s1, .inl (cO, 4, .inr (.inr (.inr (.inr f)))))]) [0, 1] (by decide) rfl
  have hKc := hK.sub (tys' := [(cO, .object "DotBench$Sheet")]) [0] rfl
  have hFc := va_free (wc := [(h0, .inr (8, [.ref s1, .ref s2, .ref s3, .ref s4, .ref s5, .ref s6, .int ds, va_rf sp, .null])), (s1, .inl (cO, 4, .inr (.inr (.inr (.inr f)))))]) hD hS hA [0, 1] rfl
  refine va_callq (va_runV (As := [.int k]) (rest := []) ⟨hx, hb, hml, hown, hts⟩ (k_X8_sheetAt_y l D s.heap.size h0 s1 s2 s3 s4 s5 s6 ds sp none f k t0 cO (by first | assumption | omega | decide) (by first | assumption | omega | decide)) (cwV 1 hts (gV bw_267 bw_346 bw_347 bw_223 bw_345) rfl rfl rfl (by decide +kernel) ⟨(by rw [hR]; exact Nat.le_of_ble_eq_true rfl), (by rw [hR]; exact Nat.le_of_ble_eq_true rfl)⟩) ⟨cP_blind, va_recv hKc hPc (ci := 8) (q0 := 0) rfl rfl, cP_at hPc hKc hDc hN⟩ rfl rfl hl.1 rfl (lv_room (Nat.le_of_ble_eq_true rfl)) dX8_carry_2 ⟨(by rw [hR]; exact Nat.le_of_ble_eq_true rfl), (by rw [hR]; exact Nat.le_of_ble_eq_true rfl)⟩) hS (fun q _ h => hFc q h) hFc (fun r_1 u9 t9 H1 locs ht hvm hr_1 hB hz1 hk1 hS => ?_)
  try dsimp only at hr_1
  obtain ⟨hP1, hK1, hD1⟩ := hB
  rw [ht] at hP1
  obtain ⟨hP, hD⟩ := va_join (wr := [(s2, .inr (1, [.ref bx, .int ik, .int wy, .int op])), (bx, .inr (0, [.int bx0, .int by0, .int bx1, .int by1])), (t0, .inr (5, [.ref d0, .int w, .int h])), (d0, .inl (cI, 4096, .inl g)), (fa, .inr (2, [.int ax, .int ay, .int aw, .int ah])), (fb, .inr (2, [.int ox, .int oy, .int ow, .int oh]))]) (w1 := [(h0, .inr (8, [.ref s1, .ref s2, .ref s3, .ref s4, .ref s5, .ref s6, .int ds, va_rf sp, .null])), (s1, .inl (cO, 4, .inr (.inr (.inr (.inr f)))))]) hP hD [0, 1] [2, 3, 4, 5, 6, 7] rfl rfl (by decide) (by decide) hk1 hFc hP1 hD1
  clear hz1 hk1 hFc hKc hDc hPc
  generalize H1 = H at hP hS ⊢
  have hP : va_P D vwCl [(s2, .inr (1, [.ref bx, .int ik, .int wy, .int op])), (bx, .inr (0, [.int bx0, .int by0, .int bx1, .int by1])), (t0, .inr (5, [.ref d0, .int w, .int h])), (d0, .inl (cI, 4096, .inl g)), (fa, .inr (2, [.int ax, .int ay, .int aw, .int ah])), (fb, .inr (2, [.int ox, .int oy, .int ow, .int oh])), (h0, .inr (8, [.ref s1, .ref s2, .ref s3, .ref s4, .ref s5, .ref s6, .int ds, va_rf sp, .null])), (s1, .inl (cO, 4, .inr (.inr (.inr (.inr f)))))] H := hP
  have hD : va_D A [(s2, .inr (1, [.ref bx, .int ik, .int wy, .int op])), (bx, .inr (0, [.int bx0, .int by0, .int bx1, .int by1])), (t0, .inr (5, [.ref d0, .int w, .int h])), (d0, .inl (cI, 4096, .inl g)), (fa, .inr (2, [.int ax, .int ay, .int aw, .int ah])), (fb, .inr (2, [.int ox, .int oy, .int ow, .int oh])), (h0, .inr (8, [.ref s1, .ref s2, .ref s3, .ref s4, .ref s5, .ref s6, .int ds, va_rf sp, .null])), (s1, .inl (cO, 4, .inr (.inr (.inr (.inr f)))))] := hD
  subst hr_1
  refine my_topv (v := .ref t0) rfl ?_
  refine lv_astore (lv' := [(5, .ref t0), (0, .ref h0), (1, .int k), (2, .ref fa), (3, .int kq), (4, .ref fb)]) hx hb dX8_carry_5 hl (by decide) rfl (fun ls hl => ?_)
  refine lv_aload_n hx hb dX8_carry_7 rfl (lv_at hl 1 rfl) ?_
  refine lv_iload_n hx hb dX8_carry_8 rfl (lv_at hl 4 rfl) ?_
  have hPc := hP.sub (ws' := [(h0, .inr (8, [.ref s1, .ref s2, .ref s3, .ref s4, .ref s5, .ref s6, .int ds, va_rf sp, .null])), (s1, .inl (cO, 4, .inr (.inr (.inr (.inr f)))))]) [6, 7] rfl
  have hDc := hD.sub (ws' := [(h0, .inr (8, [.ref s1, .ref s2, .ref s3, .ref s4, .ref s5, .ref s6, .int ds, va_rf sp, .null])), (s1, .inl (cO, 4, .inr (.inr (.inr (.inr f)))))]) [6, 7] (by decide) rfl
  have hKc := hK.sub (tys' := [(cO, .object "DotBench$Sheet")]) [0] rfl
  have hFc := va_free (wc := [(h0, .inr (8, [.ref s1, .ref s2, .ref s3, .ref s4, .ref s5, .ref s6, .int ds, va_rf sp, .null])), (s1, .inl (cO, 4, .inr (.inr (.inr (.inr f)))))]) hD hS hA [6, 7] rfl
  refine va_callq (va_runV (As := [.int kq]) (rest := []) ⟨hx, hb, hml, hown, hts⟩ (k_X8_sheetAt_y l D H.size h0 s1 s2 s3 s4 s5 s6 ds sp none f kq t0 cO (by first | assumption | omega | decide) (by first | assumption | omega | decide)) (cwV 1 hts (gV bw_267 bw_346 bw_347 bw_223 bw_345) rfl rfl rfl (by decide +kernel) ⟨(by rw [hR]; exact Nat.le_of_ble_eq_true rfl), (by rw [hR]; exact Nat.le_of_ble_eq_true rfl)⟩) ⟨cP_blind, va_recv hKc hPc (ci := 8) (q0 := 0) rfl rfl, cP_at hPc hKc hDc hN⟩ rfl rfl hl.1 rfl (lv_room (Nat.le_of_ble_eq_true rfl)) dX8_carry_9 ⟨(by rw [hR]; exact Nat.le_of_ble_eq_true rfl), (by rw [hR]; exact Nat.le_of_ble_eq_true rfl)⟩) hS (fun q _ h => hFc q h) hFc (fun r_2 u9 t9 H1 locs ht hvm hr_2 hB hz1 hk1 hS => ?_)
  try dsimp only at hr_2
  obtain ⟨hP1, hK1, hD1⟩ := hB
  rw [ht] at hP1
  obtain ⟨hP, hD⟩ := va_join (wr := [(s2, .inr (1, [.ref bx, .int ik, .int wy, .int op])), (bx, .inr (0, [.int bx0, .int by0, .int bx1, .int by1])), (t0, .inr (5, [.ref d0, .int w, .int h])), (d0, .inl (cI, 4096, .inl g)), (fa, .inr (2, [.int ax, .int ay, .int aw, .int ah])), (fb, .inr (2, [.int ox, .int oy, .int ow, .int oh]))]) (w1 := [(h0, .inr (8, [.ref s1, .ref s2, .ref s3, .ref s4, .ref s5, .ref s6, .int ds, va_rf sp, .null])), (s1, .inl (cO, 4, .inr (.inr (.inr (.inr f)))))]) hP hD [6, 7] [0, 1, 2, 3, 4, 5] rfl rfl (by decide) (by decide) hk1 hFc hP1 hD1
  clear hz1 hk1 hFc hKc hDc hPc
  generalize H1 = H at hP hS ⊢
  have hP : va_P D vwCl [(s2, .inr (1, [.ref bx, .int ik, .int wy, .int op])), (bx, .inr (0, [.int bx0, .int by0, .int bx1, .int by1])), (t0, .inr (5, [.ref d0, .int w, .int h])), (d0, .inl (cI, 4096, .inl g)), (fa, .inr (2, [.int ax, .int ay, .int aw, .int ah])), (fb, .inr (2, [.int ox, .int oy, .int ow, .int oh])), (h0, .inr (8, [.ref s1, .ref s2, .ref s3, .ref s4, .ref s5, .ref s6, .int ds, va_rf sp, .null])), (s1, .inl (cO, 4, .inr (.inr (.inr (.inr f)))))] H := hP
  have hD : va_D A [(s2, .inr (1, [.ref bx, .int ik, .int wy, .int op])), (bx, .inr (0, [.int bx0, .int by0, .int bx1, .int by1])), (t0, .inr (5, [.ref d0, .int w, .int h])), (d0, .inl (cI, 4096, .inl g)), (fa, .inr (2, [.int ax, .int ay, .int aw, .int ah])), (fb, .inr (2, [.int ox, .int oy, .int ow, .int oh])), (h0, .inr (8, [.ref s1, .ref s2, .ref s3, .ref s4, .ref s5, .ref s6, .int ds, va_rf sp, .null])), (s1, .inl (cO, 4, .inr (.inr (.inr (.inr f)))))] := hD
  subst hr_2
  refine my_topv (v := .ref t0) rfl ?_
  refine lv_astore (lv' := [(6, .ref t0), (5, .ref t0), (0, .ref h0), (1, .int k), (2, .ref fa), (3, .int kq), (4, .ref fb)]) hx hb dX8_carry_12 hl (by decide) rfl (fun ls hl => ?_)
  refine lv_aload hx hb dX8_carry_14 (lv_at hl 1 rfl) ?_
  refine lv_ifnull hx hb dX8_carry_16 ?_
  refine lv_aload hx hb dX8_carry_19 (lv_at hl 0 rfl) ?_
  refine lv_ifnull hx hb dX8_carry_21 ?_
  refine lv_aload_n hx hb dX8_carry_24 rfl (lv_at hl 4 rfl) ?_
  have hPc := hP.sub (ws' := [(fa, .inr (2, [.int ax, .int ay, .int aw, .int ah]))]) [4] rfl
  have hDc := hD.sub (ws' := [(fa, .inr (2, [.int ax, .int ay, .int aw, .int ah]))]) [4] (by decide) rfl
  have hKc := hK.sub (tys' := []) [] rfl
  have hFc := va_free (wc := [(fa, .inr (2, [.int ax, .int ay, .int aw, .int ah]))]) hD hS hA [4] rfl
  refine va_calli (va_runV (As := []) (rest := []) ⟨hx, hb, hml, hown, hts⟩ (k_X2_isNearby l D H.size fa ax ay aw ah) (cwV 0 hts (gV bw_385 bw_65 bw_66 bw_55 bw_64) rfl rfl rfl (by decide +kernel) ⟨(by rw [hR]; exact Nat.le_of_ble_eq_true rfl), (by rw [hR]; exact Nat.le_of_ble_eq_true rfl)⟩) ⟨cP_blind, va_recv hKc hPc (ci := 2) (q0 := 0) rfl rfl, cP_at hPc hKc hDc hN⟩ rfl rfl hl.1 rfl (lv_room (Nat.le_of_ble_eq_true rfl)) dX8_carry_25 ⟨(by rw [hR]; exact Nat.le_of_ble_eq_true rfl), (by rw [hR]; exact Nat.le_of_ble_eq_true rfl)⟩) hS (fun q _ h => hFc q h) hFc (fun r_3 u9 t9 H1 locs ht hvm hr_3 hB hz1 hk1 hS => ?_)
  try dsimp only at hr_3
  obtain ⟨hP1, hK1, hD1⟩ := hB
  rw [ht] at hP1
  obtain ⟨hP, hD⟩ := va_join (wr := [(s2, .inr (1, [.ref bx, .int ik, .int wy, .int op])), (bx, .inr (0, [.int bx0, .int by0, .int bx1, .int by1])), (t0, .inr (5, [.ref d0, .int w, .int h])), (d0, .inl (cI, 4096, .inl g)), (fb, .inr (2, [.int ox, .int oy, .int ow, .int oh])), (h0, .inr (8, [.ref s1, .ref s2, .ref s3, .ref s4, .ref s5, .ref s6, .int ds, va_rf sp, .null])), (s1, .inl (cO, 4, .inr (.inr (.inr (.inr f)))))]) (w1 := [(fa, .inr (2, [.int ax, .int ay, .int aw, .int ah]))]) hP hD [4] [0, 1, 2, 3, 5, 6, 7] rfl rfl (by decide) (by decide) hk1 hFc hP1 hD1
  clear hz1 hk1 hFc hKc hDc hPc
  generalize H1 = H at hP hS ⊢
  have hP : va_P D vwCl [(s2, .inr (1, [.ref bx, .int ik, .int wy, .int op])), (bx, .inr (0, [.int bx0, .int by0, .int bx1, .int by1])), (t0, .inr (5, [.ref d0, .int w, .int h])), (d0, .inl (cI, 4096, .inl g)), (fb, .inr (2, [.int ox, .int oy, .int ow, .int oh])), (h0, .inr (8, [.ref s1, .ref s2, .ref s3, .ref s4, .ref s5, .ref s6, .int ds, va_rf sp, .null])), (s1, .inl (cO, 4, .inr (.inr (.inr (.inr f))))), (fa, .inr (2, [.int ax, .int ay, .int aw, .int ah]))] H := hP
  have hD : va_D A [(s2, .inr (1, [.ref bx, .int ik, .int wy, .int op])), (bx, .inr (0, [.int bx0, .int by0, .int bx1, .int by1])), (t0, .inr (5, [.ref d0, .int w, .int h])), (d0, .inl (cI, 4096, .inl g)), (fb, .inr (2, [.int ox, .int oy, .int ow, .int oh])), (h0, .inr (8, [.ref s1, .ref s2, .ref s3, .ref s4, .ref s5, .ref s6, .int ds, va_rf sp, .null])), (s1, .inl (cO, 4, .inr (.inr (.inr (.inr f))))), (fa, .inr (2, [.int ax, .int ay, .int aw, .int ah]))] := hD
  refine lv_if_eq (tgt := 39) hx hb dX8_carry_28 (by decide) (fun c_4 => ?_) (fun c_4 => ?_)
  · skip
    have f_5 := bz0 hr_3 c_4
    exact False.elim (by omega)
  · skip
    have f_5 := bz1 hr_3 c_4
    refine lv_aload hx hb dX8_carry_31 (lv_at hl 6 rfl) ?_
    have hPc := hP.sub (ws' := [(fb, .inr (2, [.int ox, .int oy, .int ow, .int oh]))]) [4] rfl
    have hDc := hD.sub (ws' := [(fb, .inr (2, [.int ox, .int oy, .int ow, .int oh]))]) [4] (by decide) rfl
    have hKc := hK.sub (tys' := []) [] rfl
    have hFc := va_free (wc := [(fb, .inr (2, [.int ox, .int oy, .int ow, .int oh]))]) hD hS hA [4] rfl
    refine va_calli (va_runV (As := []) (rest := []) ⟨hx, hb, hml, hown, hts⟩ (k_X2_isNearby l D H.size fb ox oy ow oh) (cwV 0 hts (gV bw_385 bw_65 bw_66 bw_55 bw_64) rfl rfl rfl (by decide +kernel) ⟨(by rw [hR]; exact Nat.le_of_ble_eq_true rfl), (by rw [hR]; exact Nat.le_of_ble_eq_true rfl)⟩) ⟨cP_blind, va_recv hKc hPc (ci := 2) (q0 := 0) rfl rfl, cP_at hPc hKc hDc hN⟩ rfl rfl hl.1 rfl (lv_room (Nat.le_of_ble_eq_true rfl)) dX8_carry_33 ⟨(by rw [hR]; exact Nat.le_of_ble_eq_true rfl), (by rw [hR]; exact Nat.le_of_ble_eq_true rfl)⟩) hS (fun q _ h => hFc q h) hFc (fun r_6 u9 t9 H1 locs ht hvm hr_6 hB hz1 hk1 hS => ?_)
    try dsimp only at hr_6
    obtain ⟨hP1, hK1, hD1⟩ := hB
    rw [ht] at hP1
    obtain ⟨hP, hD⟩ := va_join (wr := [(s2, .inr (1, [.ref bx, .int ik, .int wy, .int op])), (bx, .inr (0, [.int bx0, .int by0, .int bx1, .int by1])), (t0, .inr (5, [.ref d0, .int w, .int h])), (d0, .inl (cI, 4096, .inl g)), (h0, .inr (8, [.ref s1, .ref s2, .ref s3, .ref s4, .ref s5, .ref s6, .int ds, va_rf sp, .null])), (s1, .inl (cO, 4, .inr (.inr (.inr (.inr f))))), (fa, .inr (2, [.int ax, .int ay, .int aw, .int ah]))]) (w1 := [(fb, .inr (2, [.int ox, .int oy, .int ow, .int oh]))]) hP hD [4] [0, 1, 2, 3, 5, 6, 7] rfl rfl (by decide) (by decide) hk1 hFc hP1 hD1
    clear hz1 hk1 hFc hKc hDc hPc
    generalize H1 = H at hP hS ⊢
    have hP : va_P D vwCl [(s2, .inr (1, [.ref bx, .int ik, .int wy, .int op])), (bx, .inr (0, [.int bx0, .int by0, .int bx1, .int by1])), (t0, .inr (5, [.ref d0, .int w, .int h])), (d0, .inl (cI, 4096, .inl g)), (h0, .inr (8, [.ref s1, .ref s2, .ref s3, .ref s4, .ref s5, .ref s6, .int ds, va_rf sp, .null])), (s1, .inl (cO, 4, .inr (.inr (.inr (.inr f))))), (fa, .inr (2, [.int ax, .int ay, .int aw, .int ah])), (fb, .inr (2, [.int ox, .int oy, .int ow, .int oh]))] H := hP
    have hD : va_D A [(s2, .inr (1, [.ref bx, .int ik, .int wy, .int op])), (bx, .inr (0, [.int bx0, .int by0, .int bx1, .int by1])), (t0, .inr (5, [.ref d0, .int w, .int h])), (d0, .inl (cI, 4096, .inl g)), (h0, .inr (8, [.ref s1, .ref s2, .ref s3, .ref s4, .ref s5, .ref s6, .int ds, va_rf sp, .null])), (s1, .inl (cO, 4, .inr (.inr (.inr (.inr f))))), (fa, .inr (2, [.int ax, .int ay, .int aw, .int ah])), (fb, .inr (2, [.int ox, .int oy, .int ow, .int oh]))] := hD
    refine lv_if_ne (tgt := 41) hx hb dX8_carry_36 (by decide) (fun c_7 => ?_) (fun c_7 => ?_)
    · skip
      have f_8 := bz1 hr_6 c_7
      refine lv_iload_n hx hb dX8_carry_41 rfl (lv_at hl 3 rfl) ?_
      refine lv_iload_n hx hb dX8_carry_42 rfl (lv_at hl 5 rfl) ?_
      refine lv_icmp_ne (tgt := 54) hx hb dX8_carry_43 (by decide) (fun c_9 => ?_) (fun c_9 => ?_)
      · skip
        have f_10 : ¬ (k.toInt = kq.toInt) := fn_eq rfl rfl c_9
        exact False.elim (by omega)
      · skip
        have f_10 : k.toInt = kq.toInt := f_eq rfl rfl c_9
        refine lv_aload_n hx hb dX8_carry_46 rfl (lv_at hl 2 rfl) ?_
        refine lv_aload hx hb dX8_carry_47 (lv_at hl 1 rfl) ?_
        have hPc := hP.sub (ws' := [(h0, .inr (8, [.ref s1, .ref s2, .ref s3, .ref s4, .ref s5, .ref s6, .int ds, va_rf sp, .null])), (t0, .inr (5, [.ref d0, .int w, .int h])), (d0, .inl (cI, 4096, .inl g))]) [4, 2, 3] rfl
        have hDc := hD.sub (ws' := [(h0, .inr (8, [.ref s1, .ref s2, .ref s3, .ref s4, .ref s5, .ref s6, .int ds, va_rf sp, .null])), (t0, .inr (5, [.ref d0, .int w, .int h])), (d0, .inl (cI, 4096, .inl g))]) [4, 2, 3] (by decide) rfl
        have hKc := hK.sub (tys' := [(cI, .int)]) [1] rfl
        have hFc := va_free (wc := [(h0, .inr (8, [.ref s1, .ref s2, .ref s3, .ref s4, .ref s5, .ref s6, .int ds, va_rf sp, .null])), (t0, .inr (5, [.ref d0, .int w, .int h])), (d0, .inl (cI, 4096, .inl g))]) hD hS hA [4, 2, 3] rfl
        refine va_callq (va_runV (As := [.ref t0]) (rest := []) ⟨hx, hb, hml, hown, hts⟩ (k_X8_likenessOf_0 l D H.size h0 s1 s2 s3 s4 s5 s6 ds sp t0 d0 w h g cI) (cwV 1 hts (gV bw_386 bw_388 bw_389 bw_223 bw_387) rfl rfl rfl (by decide +kernel) ⟨(by rw [hR]; exact Nat.le_of_ble_eq_true rfl), (by rw [hR]; exact Nat.le_of_ble_eq_true rfl)⟩) ⟨cP_blind, va_recv hKc hPc (ci := 8) (q0 := 0) rfl rfl, cP_at hPc hKc hDc hN⟩ rfl rfl hl.1 rfl (lv_room (Nat.le_of_ble_eq_true rfl)) dX8_carry_49 ⟨(by rw [hR]; exact Nat.le_of_ble_eq_true rfl), (by rw [hR]; exact Nat.le_of_ble_eq_true rfl)⟩) hS (fun q _ h => hFc q h) hFc (fun r_11 q_12 t9 H1 locs ht hvm hr_11 hB hz1 hk1 hS => ?_)
        try dsimp only at hr_11
        obtain ⟨q_13, g_14, b_15, hP1, hK1, hD1⟩ := hB
        rw [ht] at hP1
        obtain ⟨hP, hD⟩ := va_join (wr := [(s2, .inr (1, [.ref bx, .int ik, .int wy, .int op])), (bx, .inr (0, [.int bx0, .int by0, .int bx1, .int by1])), (s1, .inl (cO, 4, .inr (.inr (.inr (.inr f))))), (fa, .inr (2, [.int ax, .int ay, .int aw, .int ah])), (fb, .inr (2, [.int ox, .int oy, .int ow, .int oh]))]) (w1 := [(h0, .inr (8, [.ref s1, .ref s2, .ref s3, .ref s4, .ref s5, .ref s6, .int ds, va_rf sp, .ref q_12])), (q_12, .inr (5, [.ref q_13, .int w, .int h])), (q_13, .inl (cI, 4096, .inl g_14)), (t0, .inr (5, [.ref d0, .int w, .int h])), (d0, .inl (cI, 4096, .inl g))]) hP hD [4, 2, 3] [0, 1, 5, 6, 7] rfl rfl (by decide) (by decide) hk1 hFc hP1 hD1
        clear hz1 hk1 hFc hKc hDc hPc
        generalize H1 = H at hP hS ⊢
        have hP : va_P D vwCl [(s2, .inr (1, [.ref bx, .int ik, .int wy, .int op])), (bx, .inr (0, [.int bx0, .int by0, .int bx1, .int by1])), (s1, .inl (cO, 4, .inr (.inr (.inr (.inr f))))), (fa, .inr (2, [.int ax, .int ay, .int aw, .int ah])), (fb, .inr (2, [.int ox, .int oy, .int ow, .int oh])), (h0, .inr (8, [.ref s1, .ref s2, .ref s3, .ref s4, .ref s5, .ref s6, .int ds, va_rf sp, .ref q_12])), (q_12, .inr (5, [.ref q_13, .int w, .int h])), (q_13, .inl (cI, 4096, .inl g_14)), (t0, .inr (5, [.ref d0, .int w, .int h])), (d0, .inl (cI, 4096, .inl g))] H := hP
        have hD : va_D A [(s2, .inr (1, [.ref bx, .int ik, .int wy, .int op])), (bx, .inr (0, [.int bx0, .int by0, .int bx1, .int by1])), (s1, .inl (cO, 4, .inr (.inr (.inr (.inr f))))), (fa, .inr (2, [.int ax, .int ay, .int aw, .int ah])), (fb, .inr (2, [.int ox, .int oy, .int ow, .int oh])), (h0, .inr (8, [.ref s1, .ref s2, .ref s3, .ref s4, .ref s5, .ref s6, .int ds, va_rf sp, .ref q_12])), (q_12, .inr (5, [.ref q_13, .int w, .int h])), (q_13, .inl (cI, 4096, .inl g_14)), (t0, .inr (5, [.ref d0, .int w, .int h])), (d0, .inl (cI, 4096, .inl g))] := hD
        refine W.widen (k := 2) (n := 4099) (by omega) (by omega) ?_
        subst hr_11
        refine my_topv (v := .ref q_12) rfl ?_
        refine lv_astore (lv' := [(5, .ref q_12), (6, .ref t0), (0, .ref h0), (1, .int k), (2, .ref fa), (3, .int kq), (4, .ref fb)]) hx hb dX8_carry_52 hl (by decide) rfl (fun ls hl => ?_)
        obtain ⟨W9, hW9, eW9⟩ := i_of (x := ow) (N := 65) (by omega) (by omega) (by decide)
        have eW9n : ow.toNatClampNeg = W9 := by rw [eW9]; exact nI_clamp (by omega)
        have hW9t : ow.toInt = (W9 : Int) := by rw [eW9]; exact nI_toInt (by omega)
        obtain ⟨H9, hH9, eH9⟩ := i_of (x := oh) (N := 65) (by omega) (by omega) (by decide)
        have eH9n : oh.toNatClampNeg = H9 := by rw [eH9]; exact nI_clamp (by omega)
        have hH9t : oh.toInt = (H9 : Int) := by rw [eH9]; exact nI_toInt (by omega)
        refine lv_iconst (v := 0) hx hb dX8_carry_54 (by decide) ?_
        refine lv_istore (lv' := [(7, .int 0), (5, .ref q_12), (6, .ref t0), (0, .ref h0), (1, .int k), (2, .ref fa), (3, .int kq), (4, .ref fb)]) hx hb dX8_carry_55 hl (by decide) rfl (fun ls hl => ?_)
        refine lv_iconst (v := 0) hx hb dX8_carry_57 (by decide) ?_
        refine lv_istore (lv' := [(8, .int 0), (7, .int 0), (5, .ref q_12), (6, .ref t0), (0, .ref h0), (1, .int k), (2, .ref fa), (3, .int kq), (4, .ref fb)]) hx hb dX8_carry_58 hl (by decide) rfl (fun ls hl => ?_)
        have loop_16 : ∀ (n : Nat) (j : Nat) (x8 : Int32) (x7 : Int32) (ga : Nat → Int32) (H : Heap) (locs : List Loc) (ls : Array Slot), (j ≤ 64) → (64 + 1 ≤ j + n) → (x8 = nI j) → (j ≤ H9) → (ga = (gL (cyQ ax ay aw ah ox oy ow oh w h op g) W9 j).foldl (layG w h bx0 by0 bx1 by1 wy) g) → (x7 = (gL (cyQ ax ay aw ah ox oy ow oh w h op g) W9 j).foldl (layT w h bx0 by0 bx1 by1) 0) → va_P D vwCl [(s2, .inr (1, [.ref bx, .int ik, .int wy, .int op])), (bx, .inr (0, [.int bx0, .int by0, .int bx1, .int by1])), (s1, .inl (cO, 4, .inr (.inr (.inr (.inr f))))), (fa, .inr (2, [.int ax, .int ay, .int aw, .int ah])), (fb, .inr (2, [.int ox, .int oy, .int ow, .int oh])), (h0, .inr (8, [.ref s1, .ref s2, .ref s3, .ref s4, .ref s5, .ref s6, .int ds, va_rf sp, .ref q_12])), (q_12, .inr (5, [.ref q_13, .int w, .int h])), (q_13, .inl (cI, 4096, .inl g_14)), (t0, .inr (5, [.ref d0, .int w, .int h])), (d0, .inl (cI, 4096, .inl ga))] H → va_D A [(s2, .inr (1, [.ref bx, .int ik, .int wy, .int op])), (bx, .inr (0, [.int bx0, .int by0, .int bx1, .int by1])), (s1, .inl (cO, 4, .inr (.inr (.inr (.inr f))))), (fa, .inr (2, [.int ax, .int ay, .int aw, .int ah])), (fb, .inr (2, [.int ox, .int oy, .int ow, .int oh])), (h0, .inr (8, [.ref s1, .ref s2, .ref s3, .ref s4, .ref s5, .ref s6, .int ds, va_rf sp, .ref q_12])), (q_12, .inr (5, [.ref q_13, .int w, .int h])), (q_13, .inl (cI, 4096, .inl g_14)), (t0, .inr (5, [.ref d0, .int w, .int h])), (d0, .inl (cI, 4096, .inl ga))] → va_S A s.heap H locs → lv_has ls 12 [(8, .int x8), (7, .int x7), (5, .ref q_12), (6, .ref t0), (0, .ref h0), (1, .int k), (2, .ref fa), (3, .int kq), (4, .ref fb)] → W p l e R s m ([.ref h0, .int k, .ref fa, .int kq, .ref fb] : List Value).toArray below meth c H locs 2 4099 Q (F0 m 60 ls []) := by
          intro n
          induction n with
          | zero =>
            intro j x8 x7 ga H locs ls hi_j hm_j ex_j hjo hgo eto hP hD hS hl
            exact absurd (show False by omega) not_false
          | succ n ih_17 =>
            intro j x8 x7 ga H locs ls hi_j hm_j ex_j hjo hgo eto hP hD hS hl
            have hx_j : x8.toInt = (j : Int) := by rw [ex_j]; exact nI_toInt (by omega)
            have hc_j : x8.toNatClampNeg = j := by rw [ex_j]; exact nI_clamp (by omega)
            refine lv_iload hx hb dX8_carry_60 (lv_at hl 0 rfl) ?_
            refine lv_aload hx hb dX8_carry_62 (lv_at hl 8 rfl) ?_
            refine va_getN (host := RX8) (D := D) (ci := 2) (v := .int oh) (C := RX2) (T := TX2) (N := 4) hx hb hts hi_X2 hown hK hP 4 rfl rfl 3 (by decide) ((hN.1 (RX8, 238, "DotBench$Frame", "h", "I", RX8) (by decide +kernel)).use rfl) (fun _ h9 => h9) rfl dX8_carry_64 ?_
            refine lv_icmp_ge (tgt := 193) hx hb dX8_carry_67 (by decide) (fun c_18 => ?_) (fun c_18 => ?_)
            · skip
              have f_19 : oh.toInt ≤ (j : Int) := f_le rfl hx_j c_18
              refine lv_iload hx hb dX8_carry_193 (lv_at hl 1 rfl) ?_
              have hP : va_P D vwCl [(s2, .inr (1, [.ref bx, .int ik, .int wy, .int op])), (bx, .inr (0, [.int bx0, .int by0, .int bx1, .int by1])), (s1, .inl (cO, 4, .inr (.inr (.inr (.inr f))))), (fa, .inr (2, [.int ax, .int ay, .int aw, .int ah])), (fb, .inr (2, [.int ox, .int oy, .int ow, .int oh])), (h0, .inr (8, [.ref s1, .ref s2, .ref s3, .ref s4, .ref s5, .ref s6, .int ds, va_rf sp, .ref q_12])), (q_12, .inr (5, [.ref q_13, .int w, .int h])), (q_13, .inl (cI, 4096, .inl g_14)), (t0, .inr (5, [.ref d0, .int w, .int h])), (d0, .inl (cI, 4096, .inl ((gL (cyQ ax ay aw ah ox oy ow oh w h op g) ow.toNatClampNeg oh.toNatClampNeg).foldl (layG w h bx0 by0 bx1 by1 wy) g)))] H := by rw [eW9n, eH9n, ← show j = H9 by omega, ← hgo]; exact hP
              have hD : va_D A [(s2, .inr (1, [.ref bx, .int ik, .int wy, .int op])), (bx, .inr (0, [.int bx0, .int by0, .int bx1, .int by1])), (s1, .inl (cO, 4, .inr (.inr (.inr (.inr f))))), (fa, .inr (2, [.int ax, .int ay, .int aw, .int ah])), (fb, .inr (2, [.int ox, .int oy, .int ow, .int oh])), (h0, .inr (8, [.ref s1, .ref s2, .ref s3, .ref s4, .ref s5, .ref s6, .int ds, va_rf sp, .ref q_12])), (q_12, .inr (5, [.ref q_13, .int w, .int h])), (q_13, .inl (cI, 4096, .inl g_14)), (t0, .inr (5, [.ref d0, .int w, .int h])), (d0, .inl (cI, 4096, .inl ((gL (cyQ ax ay aw ah ox oy ow oh w h op g) ow.toNatClampNeg oh.toNatClampNeg).foldl (layG w h bx0 by0 bx1 by1 wy) g)))] := by rw [eW9n, eH9n, ← show j = H9 by omega, ← hgo]; exact hD
              have hP9 := hP.sub (ws' := [(h0, .inr (8, [.ref s1, .ref s2, .ref s3, .ref s4, .ref s5, .ref s6, .int ds, va_rf sp, .ref q_12])), (s1, .inl (cO, 4, .inr (.inr (.inr (.inr f))))), (s2, .inr (1, [.ref bx, .int ik, .int wy, .int op])), (bx, .inr (0, [.int bx0, .int by0, .int bx1, .int by1])), (t0, .inr (5, [.ref d0, .int w, .int h])), (d0, .inl (cI, 4096, .inl ((gL (cyQ ax ay aw ah ox oy ow oh w h op g) ow.toNatClampNeg oh.toNatClampNeg).foldl (layG w h bx0 by0 bx1 by1 wy) g))), (q_12, .inr (5, [.ref q_13, .int w, .int h])), (q_13, .inl (cI, 4096, .inl g_14))]) [5, 2, 0, 1, 8, 9, 6, 7] rfl
              have hD9 := hD.sub (ws' := [(h0, .inr (8, [.ref s1, .ref s2, .ref s3, .ref s4, .ref s5, .ref s6, .int ds, va_rf sp, .ref q_12])), (s1, .inl (cO, 4, .inr (.inr (.inr (.inr f))))), (s2, .inr (1, [.ref bx, .int ik, .int wy, .int op])), (bx, .inr (0, [.int bx0, .int by0, .int bx1, .int by1])), (t0, .inr (5, [.ref d0, .int w, .int h])), (d0, .inl (cI, 4096, .inl ((gL (cyQ ax ay aw ah ox oy ow oh w h op g) ow.toNatClampNeg oh.toNatClampNeg).foldl (layG w h bx0 by0 bx1 by1 wy) g))), (q_12, .inr (5, [.ref q_13, .int w, .int h])), (q_13, .inl (cI, 4096, .inl g_14))]) [5, 2, 0, 1, 8, 9, 6, 7] (by decide) rfl
              have hK9 := hK.sub (tys' := [(cO, .object "DotBench$Sheet"), (cI, .int)]) [0, 1] rfl
              refine hQ _ _ _ _ _ ?_
              exact W.iret (v := x7) hx hb hr (fun t ht hW => ⟨⟨x7, (), rfl, (by rw [eW9n, eH9n, ← show j = H9 by omega]; exact eto), ⟨q_12, q_13, g_14, by rw [ht]; exact hP9, va_K.moved hW.alike hK9, hD9⟩⟩, hS.F ht⟩) hS.2.2 dX8_carry_195
            · skip
              have f_19 : ¬ (oh.toInt ≤ (j : Int)) := fn_le rfl hx_j c_18
              refine lv_aload_n hx hb dX8_carry_70 rfl (lv_at hl 6 rfl) ?_
              refine va_getN (host := RX8) (D := D) (ci := 2) (v := .int ay) (C := RX2) (T := TX2) (N := 4) hx hb hts hi_X2 hown hK hP 3 rfl rfl 1 (by decide) ((hN.1 (RX8, 241, "DotBench$Frame", "y", "I", RX8) (by decide +kernel)).use rfl) (fun _ h9 => h9) rfl dX8_carry_71 ?_
              refine lv_iload hx hb dX8_carry_74 (lv_at hl 0 rfl) ?_
              refine lv_aload_n hx hb dX8_carry_76 rfl (lv_at hl 6 rfl) ?_
              refine va_getN (host := RX8) (D := D) (ci := 2) (v := .int ah) (C := RX2) (T := TX2) (N := 4) hx hb hts hi_X2 hown hK hP 3 rfl rfl 3 (by decide) ((hN.1 (RX8, 238, "DotBench$Frame", "h", "I", RX8) (by decide +kernel)).use rfl) (fun _ h9 => h9) rfl dX8_carry_77 ?_
              refine lv_imul hx hb dX8_carry_80 ?_
              refine lv_topi (fun y_20 ey_20 => ?_)
              refine lv_aload hx hb dX8_carry_81 (lv_at hl 8 rfl) ?_
              refine va_getN (host := RX8) (D := D) (ci := 2) (v := .int oh) (C := RX2) (T := TX2) (N := 4) hx hb hts hi_X2 hown hK hP 4 rfl rfl 3 (by decide) ((hN.1 (RX8, 238, "DotBench$Frame", "h", "I", RX8) (by decide +kernel)).use rfl) (fun _ h9 => h9) rfl dX8_carry_83 ?_
              refine lv_idiv hx hb dX8_carry_86 (ne0_of (by omega)) ?_
              refine lv_topi (fun y_21 ey_21 => ?_)
              refine lv_iadd hx hb dX8_carry_87 ?_
              refine lv_topi (fun y_22 ey_22 => ?_)
              have hcyy_22 : y_22 = cyX ay ah oh j := by rw [ey_22, ey_21, ey_20, ex_j]; rfl
              refine lv_istore (lv' := [(9, .int y_22), (8, .int x8), (7, .int x7), (5, .ref q_12), (6, .ref t0), (0, .ref h0), (1, .int k), (2, .ref fa), (3, .int kq), (4, .ref fb)]) hx hb dX8_carry_88 hl (by decide) rfl (fun ls hl => ?_)
              refine lv_iconst (v := 0) hx hb dX8_carry_90 (by decide) ?_
              refine lv_istore (lv' := [(10, .int 0), (9, .int y_22), (8, .int x8), (7, .int x7), (5, .ref q_12), (6, .ref t0), (0, .ref h0), (1, .int k), (2, .ref fa), (3, .int kq), (4, .ref fb)]) hx hb dX8_carry_91 hl (by decide) rfl (fun ls hl => ?_)
              have loop_23 : ∀ (n : Nat) (i : Nat) (x10 : Int32) (z7 : Int32) (gz : Nat → Int32) (H : Heap) (locs : List Loc) (ls : Array Slot), (i ≤ 64) → (64 + 1 ≤ i + n) → (x10 = nI i) → (i ≤ W9) → (gz = (gL (cyQ ax ay aw ah ox oy ow oh w h op g) W9 j ++ gR (cyQ ax ay aw ah ox oy ow oh w h op g) j i).foldl (layG w h bx0 by0 bx1 by1 wy) g) → (z7 = (gL (cyQ ax ay aw ah ox oy ow oh w h op g) W9 j ++ gR (cyQ ax ay aw ah ox oy ow oh w h op g) j i).foldl (layT w h bx0 by0 bx1 by1) 0) → va_P D vwCl [(s2, .inr (1, [.ref bx, .int ik, .int wy, .int op])), (bx, .inr (0, [.int bx0, .int by0, .int bx1, .int by1])), (s1, .inl (cO, 4, .inr (.inr (.inr (.inr f))))), (fa, .inr (2, [.int ax, .int ay, .int aw, .int ah])), (fb, .inr (2, [.int ox, .int oy, .int ow, .int oh])), (h0, .inr (8, [.ref s1, .ref s2, .ref s3, .ref s4, .ref s5, .ref s6, .int ds, va_rf sp, .ref q_12])), (q_12, .inr (5, [.ref q_13, .int w, .int h])), (q_13, .inl (cI, 4096, .inl g_14)), (t0, .inr (5, [.ref d0, .int w, .int h])), (d0, .inl (cI, 4096, .inl gz))] H → va_D A [(s2, .inr (1, [.ref bx, .int ik, .int wy, .int op])), (bx, .inr (0, [.int bx0, .int by0, .int bx1, .int by1])), (s1, .inl (cO, 4, .inr (.inr (.inr (.inr f))))), (fa, .inr (2, [.int ax, .int ay, .int aw, .int ah])), (fb, .inr (2, [.int ox, .int oy, .int ow, .int oh])), (h0, .inr (8, [.ref s1, .ref s2, .ref s3, .ref s4, .ref s5, .ref s6, .int ds, va_rf sp, .ref q_12])), (q_12, .inr (5, [.ref q_13, .int w, .int h])), (q_13, .inl (cI, 4096, .inl g_14)), (t0, .inr (5, [.ref d0, .int w, .int h])), (d0, .inl (cI, 4096, .inl gz))] → va_S A s.heap H locs → lv_has ls 12 [(10, .int x10), (9, .int y_22), (8, .int x8), (7, .int z7), (5, .ref q_12), (6, .ref t0), (0, .ref h0), (1, .int k), (2, .ref fa), (3, .int kq), (4, .ref fb)] → W p l e R s m ([.ref h0, .int k, .ref fa, .int kq, .ref fb] : List Value).toArray below meth c H locs 2 4099 Q (F0 m 93 ls []) := by
                intro n
                induction n with
                | zero =>
                  intro i x10 z7 gz H locs ls hi_i hm_i ex_i hio hgi eti hP hD hS hl
                  exact absurd (show False by omega) not_false
                | succ n ih_24 =>
                  intro i x10 z7 gz H locs ls hi_i hm_i ex_i hio hgi eti hP hD hS hl
                  have hx_i : x10.toInt = (i : Int) := by rw [ex_i]; exact nI_toInt (by omega)
                  have hc_i : x10.toNatClampNeg = i := by rw [ex_i]; exact nI_clamp (by omega)
                  refine lv_iload hx hb dX8_carry_93 (lv_at hl 0 rfl) ?_
                  refine lv_aload hx hb dX8_carry_95 (lv_at hl 10 rfl) ?_
                  refine va_getN (host := RX8) (D := D) (ci := 2) (v := .int ow) (C := RX2) (T := TX2) (N := 4) hx hb hts hi_X2 hown hK hP 4 rfl rfl 2 (by decide) ((hN.1 (RX8, 244, "DotBench$Frame", "w", "I", RX8) (by decide +kernel)).use rfl) (fun _ h9 => h9) rfl dX8_carry_97 ?_
                  refine lv_icmp_ge (tgt := 187) hx hb dX8_carry_100 (by decide) (fun c_25 => ?_) (fun c_25 => ?_)
                  · skip
                    have f_26 : ow.toInt ≤ (i : Int) := f_le rfl hx_i c_25
                    obtain ⟨y_27, ey_27⟩ : ∃ y : Int32, y = x8 + 1 := ⟨_, rfl⟩
                    refine lv_iinc (v := y_27) (lv' := [(8, .int y_27), (10, .int x10), (9, .int y_22), (7, .int z7), (5, .ref q_12), (6, .ref t0), (0, .ref h0), (1, .int k), (2, .ref fa), (3, .int kq), (4, .ref fb)]) hx hb dX8_carry_187 hl (k := 2) rfl (by rw [ey_27]; rfl) (by decide) rfl (fun ls hl => ?_)
                    refine lv_goto (tgt := 60) hx hb dX8_carry_190 (by decide) ?_
                    exact ih_17 (j + 1) y_27 z7 gz _ _ _ (by omega) (by omega) (by rw [ey_27, ex_j]; exact nI_1 j) (by omega) (gl_nx hgi (by omega)) (gl_nx eti (by omega)) (hP.sub (ws' := [(s2, .inr (1, [.ref bx, .int ik, .int wy, .int op])), (bx, .inr (0, [.int bx0, .int by0, .int bx1, .int by1])), (s1, .inl (cO, 4, .inr (.inr (.inr (.inr f))))), (fa, .inr (2, [.int ax, .int ay, .int aw, .int ah])), (fb, .inr (2, [.int ox, .int oy, .int ow, .int oh])), (h0, .inr (8, [.ref s1, .ref s2, .ref s3, .ref s4, .ref s5, .ref s6, .int ds, va_rf sp, .ref q_12])), (q_12, .inr (5, [.ref q_13, .int w, .int h])), (q_13, .inl (cI, 4096, .inl g_14)), (t0, .inr (5, [.ref d0, .int w, .int h])), (d0, .inl (cI, 4096, .inl gz))]) [0, 1, 2, 3, 4, 5, 6, 7, 8, 9] rfl) (hD.sub (ws' := [(s2, .inr (1, [.ref bx, .int ik, .int wy, .int op])), (bx, .inr (0, [.int bx0, .int by0, .int bx1, .int by1])), (s1, .inl (cO, 4, .inr (.inr (.inr (.inr f))))), (fa, .inr (2, [.int ax, .int ay, .int aw, .int ah])), (fb, .inr (2, [.int ox, .int oy, .int ow, .int oh])), (h0, .inr (8, [.ref s1, .ref s2, .ref s3, .ref s4, .ref s5, .ref s6, .int ds, va_rf sp, .ref q_12])), (q_12, .inr (5, [.ref q_13, .int w, .int h])), (q_13, .inl (cI, 4096, .inl g_14)), (t0, .inr (5, [.ref d0, .int w, .int h])), (d0, .inl (cI, 4096, .inl gz))]) [0, 1, 2, 3, 4, 5, 6, 7, 8, 9] (by decide) rfl) hS (lv_sub hl [0, 3, 4, 5, 6, 7, 8, 9, 10] rfl)
                  · skip
                    have f_26 : ¬ (ow.toInt ≤ (i : Int)) := fn_le rfl hx_i c_25
                    refine lv_aload_n hx hb dX8_carry_103 rfl (lv_at hl 8 rfl) ?_
                    refine va_getN (host := RX8) (D := D) (ci := 2) (v := .int ax) (C := RX2) (T := TX2) (N := 4) hx hb hts hi_X2 hown hK hP 3 rfl rfl 0 (by decide) ((hN.1 (RX8, 247, "DotBench$Frame", "x", "I", RX8) (by decide +kernel)).use rfl) (fun _ h9 => h9) rfl dX8_carry_104 ?_
                    refine lv_iload hx hb dX8_carry_107 (lv_at hl 0 rfl) ?_
                    refine lv_aload_n hx hb dX8_carry_109 rfl (lv_at hl 8 rfl) ?_
                    refine va_getN (host := RX8) (D := D) (ci := 2) (v := .int aw) (C := RX2) (T := TX2) (N := 4) hx hb hts hi_X2 hown hK hP 3 rfl rfl 2 (by decide) ((hN.1 (RX8, 244, "DotBench$Frame", "w", "I", RX8) (by decide +kernel)).use rfl) (fun _ h9 => h9) rfl dX8_carry_110 ?_
                    refine lv_imul hx hb dX8_carry_113 ?_
                    refine lv_topi (fun y_28 ey_28 => ?_)
                    refine lv_aload hx hb dX8_carry_114 (lv_at hl 10 rfl) ?_
                    refine va_getN (host := RX8) (D := D) (ci := 2) (v := .int ow) (C := RX2) (T := TX2) (N := 4) hx hb hts hi_X2 hown hK hP 4 rfl rfl 2 (by decide) ((hN.1 (RX8, 244, "DotBench$Frame", "w", "I", RX8) (by decide +kernel)).use rfl) (fun _ h9 => h9) rfl dX8_carry_116 ?_
                    refine lv_idiv hx hb dX8_carry_119 (ne0_of (by omega)) ?_
                    refine lv_topi (fun y_29 ey_29 => ?_)
                    refine lv_iadd hx hb dX8_carry_120 ?_
                    refine lv_topi (fun y_30 ey_30 => ?_)
                    have hcyy_30 : y_30 = cyX ax aw ow i := by rw [ey_30, ey_29, ey_28, ex_i]; rfl
                    refine lv_istore (lv' := [(11, .int y_30), (10, .int x10), (9, .int y_22), (8, .int x8), (7, .int z7), (5, .ref q_12), (6, .ref t0), (0, .ref h0), (1, .int k), (2, .ref fa), (3, .int kq), (4, .ref fb)]) hx hb dX8_carry_121 hl (by decide) rfl (fun ls hl => ?_)
                    refine lv_aload hx hb dX8_carry_123 (lv_at hl 5 rfl) ?_
                    refine lv_iload hx hb dX8_carry_125 (lv_at hl 0 rfl) ?_
                    refine lv_iload hx hb dX8_carry_127 (lv_at hl 2 rfl) ?_
                    have hPc := hP.sub (ws' := [(q_12, .inr (5, [.ref q_13, .int w, .int h]))]) [6] rfl
                    have hDc := hD.sub (ws' := [(q_12, .inr (5, [.ref q_13, .int w, .int h]))]) [6] (by decide) rfl
                    have hKc := hK.sub (tys' := []) [] rfl
                    have hFc := va_free (wc := [(q_12, .inr (5, [.ref q_13, .int w, .int h]))]) hD hS hA [6] rfl
                    refine va_calli (va_runV (As := [.int y_30, .int y_22]) (rest := []) ⟨hx, hb, hml, hown, hts⟩ (k_X5_has l D H.size q_12 q_13 w h y_30 y_22) (cwV 2 hts (gV bw_309 bw_150 bw_151 bw_130 bw_149) rfl rfl rfl (by decide +kernel) ⟨(by rw [hR]; exact Nat.le_of_ble_eq_true rfl), (by rw [hR]; exact Nat.le_of_ble_eq_true rfl)⟩) ⟨cP_blind, va_recv hKc hPc (ci := 5) (q0 := 0) rfl rfl, cP_at hPc hKc hDc hN⟩ rfl rfl hl.1 rfl (lv_room (Nat.le_of_ble_eq_true rfl)) dX8_carry_129 ⟨(by rw [hR]; exact Nat.le_of_ble_eq_true rfl), (by rw [hR]; exact Nat.le_of_ble_eq_true rfl)⟩) hS (fun q _ h => hFc q h) hFc (fun r_31 u9 t9 H1 locs ht hvm hr_31 hB hz1 hk1 hS => ?_)
                    try dsimp only at hr_31
                    obtain ⟨hP1, hK1, hD1⟩ := hB
                    rw [ht] at hP1
                    obtain ⟨hP, hD⟩ := va_join (wr := [(s2, .inr (1, [.ref bx, .int ik, .int wy, .int op])), (bx, .inr (0, [.int bx0, .int by0, .int bx1, .int by1])), (s1, .inl (cO, 4, .inr (.inr (.inr (.inr f))))), (fa, .inr (2, [.int ax, .int ay, .int aw, .int ah])), (fb, .inr (2, [.int ox, .int oy, .int ow, .int oh])), (h0, .inr (8, [.ref s1, .ref s2, .ref s3, .ref s4, .ref s5, .ref s6, .int ds, va_rf sp, .ref q_12])), (q_13, .inl (cI, 4096, .inl g_14)), (t0, .inr (5, [.ref d0, .int w, .int h])), (d0, .inl (cI, 4096, .inl gz))]) (w1 := [(q_12, .inr (5, [.ref q_13, .int w, .int h]))]) hP hD [6] [0, 1, 2, 3, 4, 5, 7, 8, 9] rfl rfl (by decide) (by decide) hk1 hFc hP1 hD1
                    clear hz1 hk1 hFc hKc hDc hPc
                    generalize H1 = H at hP hS ⊢
                    have hP : va_P D vwCl [(s2, .inr (1, [.ref bx, .int ik, .int wy, .int op])), (bx, .inr (0, [.int bx0, .int by0, .int bx1, .int by1])), (s1, .inl (cO, 4, .inr (.inr (.inr (.inr f))))), (fa, .inr (2, [.int ax, .int ay, .int aw, .int ah])), (fb, .inr (2, [.int ox, .int oy, .int ow, .int oh])), (h0, .inr (8, [.ref s1, .ref s2, .ref s3, .ref s4, .ref s5, .ref s6, .int ds, va_rf sp, .ref q_12])), (q_13, .inl (cI, 4096, .inl g_14)), (t0, .inr (5, [.ref d0, .int w, .int h])), (d0, .inl (cI, 4096, .inl gz)), (q_12, .inr (5, [.ref q_13, .int w, .int h]))] H := hP
                    have hD : va_D A [(s2, .inr (1, [.ref bx, .int ik, .int wy, .int op])), (bx, .inr (0, [.int bx0, .int by0, .int bx1, .int by1])), (s1, .inl (cO, 4, .inr (.inr (.inr (.inr f))))), (fa, .inr (2, [.int ax, .int ay, .int aw, .int ah])), (fb, .inr (2, [.int ox, .int oy, .int ow, .int oh])), (h0, .inr (8, [.ref s1, .ref s2, .ref s3, .ref s4, .ref s5, .ref s6, .int ds, va_rf sp, .ref q_12])), (q_13, .inl (cI, 4096, .inl g_14)), (t0, .inr (5, [.ref d0, .int w, .int h])), (d0, .inl (cI, 4096, .inl gz)), (q_12, .inr (5, [.ref q_13, .int w, .int h]))] := hD
                    refine lv_if_eq (tgt := 181) hx hb dX8_carry_132 (by decide) (fun c_32 => ?_) (fun c_32 => ?_)
                    · skip
                      have f_33 := bz0 hr_31 c_32
                      obtain ⟨y_34, ey_34⟩ : ∃ y : Int32, y = x10 + 1 := ⟨_, rfl⟩
                      refine lv_iinc (v := y_34) (lv' := [(10, .int y_34), (11, .int y_30), (9, .int y_22), (8, .int x8), (7, .int z7), (5, .ref q_12), (6, .ref t0), (0, .ref h0), (1, .int k), (2, .ref fa), (3, .int kq), (4, .ref fb)]) hx hb dX8_carry_181 hl (k := 1) rfl (by rw [ey_34]; rfl) (by decide) rfl (fun ls hl => ?_)
                      refine lv_goto (tgt := 93) hx hb dX8_carry_184 (by decide) ?_
                      exact ih_24 (i + 1) y_34 z7 gz _ _ _ (by omega) (by omega) (by rw [ey_34, ex_i]; exact nI_1 i) (by omega) (by rw [show gR (cyQ ax ay aw ah ox oy ow oh w h op g) j (i + 1) = gR (cyQ ax ay aw ah ox oy ow oh w h op g) j i ++ [] from congrArg (gR (cyQ ax ay aw ah ox oy ow oh w h op g) j i ++ ·) (show (cyQ ax ay aw ah ox oy ow oh w h op g) j i = [] from if_neg (by rw [← hcyy_30, ← hcyy_22]; exact f_33)), List.append_nil]; exact hgi) (by rw [show gR (cyQ ax ay aw ah ox oy ow oh w h op g) j (i + 1) = gR (cyQ ax ay aw ah ox oy ow oh w h op g) j i ++ [] from congrArg (gR (cyQ ax ay aw ah ox oy ow oh w h op g) j i ++ ·) (show (cyQ ax ay aw ah ox oy ow oh w h op g) j i = [] from if_neg (by rw [← hcyy_30, ← hcyy_22]; exact f_33)), List.append_nil]; exact eti) (hP.sub (ws' := [(s2, .inr (1, [.ref bx, .int ik, .int wy, .int op])), (bx, .inr (0, [.int bx0, .int by0, .int bx1, .int by1])), (s1, .inl (cO, 4, .inr (.inr (.inr (.inr f))))), (fa, .inr (2, [.int ax, .int ay, .int aw, .int ah])), (fb, .inr (2, [.int ox, .int oy, .int ow, .int oh])), (h0, .inr (8, [.ref s1, .ref s2, .ref s3, .ref s4, .ref s5, .ref s6, .int ds, va_rf sp, .ref q_12])), (q_12, .inr (5, [.ref q_13, .int w, .int h])), (q_13, .inl (cI, 4096, .inl g_14)), (t0, .inr (5, [.ref d0, .int w, .int h])), (d0, .inl (cI, 4096, .inl gz))]) [0, 1, 2, 3, 4, 5, 9, 6, 7, 8] rfl) (hD.sub (ws' := [(s2, .inr (1, [.ref bx, .int ik, .int wy, .int op])), (bx, .inr (0, [.int bx0, .int by0, .int bx1, .int by1])), (s1, .inl (cO, 4, .inr (.inr (.inr (.inr f))))), (fa, .inr (2, [.int ax, .int ay, .int aw, .int ah])), (fb, .inr (2, [.int ox, .int oy, .int ow, .int oh])), (h0, .inr (8, [.ref s1, .ref s2, .ref s3, .ref s4, .ref s5, .ref s6, .int ds, va_rf sp, .ref q_12])), (q_12, .inr (5, [.ref q_13, .int w, .int h])), (q_13, .inl (cI, 4096, .inl g_14)), (t0, .inr (5, [.ref d0, .int w, .int h])), (d0, .inl (cI, 4096, .inl gz))]) [0, 1, 2, 3, 4, 5, 9, 6, 7, 8] (by decide) rfl) hS (lv_sub hl [0, 2, 3, 4, 5, 6, 7, 8, 9, 10, 11] rfl)
                    · skip
                      have f_33 := bz1 hr_31 c_32
                      refine lv_iload hx hb dX8_carry_135 (lv_at hl 4 rfl) ?_
                      refine lv_aload_n hx hb dX8_carry_137 rfl (lv_at hl 7 rfl) ?_
                      refine va_get (D := D) (ci := 8) (v := .ref s2) (C := RX8) (T := TX8) (N := 9) hx hb hts hi_X8 hown hK hP 5 rfl rfl 1 (by decide) (hts _ bw_231) (fun _ h9 => h9) rfl dX8_carry_138 ?_
                      refine lv_aload hx hb dX8_carry_141 (lv_at hl 6 rfl) ?_
                      refine lv_aload hx hb dX8_carry_143 (lv_at hl 11 rfl) ?_
                      refine va_getN (host := RX8) (D := D) (ci := 2) (v := .int ox) (C := RX2) (T := TX2) (N := 4) hx hb hts hi_X2 hown hK hP 4 rfl rfl 0 (by decide) ((hN.1 (RX8, 247, "DotBench$Frame", "x", "I", RX8) (by decide +kernel)).use rfl) (fun _ h9 => h9) rfl dX8_carry_145 ?_
                      refine lv_iload hx hb dX8_carry_148 (lv_at hl 1 rfl) ?_
                      refine lv_iadd hx hb dX8_carry_150 ?_
                      refine lv_topi (fun y_35 ey_35 => ?_)
                      have hply_35 : y_35 = ox + nI i := by rw [ey_35, ex_i]
                      refine lv_aload hx hb dX8_carry_151 (lv_at hl 11 rfl) ?_
                      refine va_getN (host := RX8) (D := D) (ci := 2) (v := .int oy) (C := RX2) (T := TX2) (N := 4) hx hb hts hi_X2 hown hK hP 4 rfl rfl 1 (by decide) ((hN.1 (RX8, 241, "DotBench$Frame", "y", "I", RX8) (by decide +kernel)).use rfl) (fun _ h9 => h9) rfl dX8_carry_153 ?_
                      refine lv_iload hx hb dX8_carry_156 (lv_at hl 3 rfl) ?_
                      refine lv_iadd hx hb dX8_carry_158 ?_
                      refine lv_topi (fun y_36 ey_36 => ?_)
                      have hply_36 : y_36 = oy + nI j := by rw [ey_36, ex_j]
                      refine lv_aload hx hb dX8_carry_159 (lv_at hl 5 rfl) ?_
                      refine lv_iload hx hb dX8_carry_161 (lv_at hl 0 rfl) ?_
                      refine lv_iload hx hb dX8_carry_163 (lv_at hl 2 rfl) ?_
                      have hPc := hP.sub (ws' := [(q_12, .inr (5, [.ref q_13, .int w, .int h])), (q_13, .inl (cI, 4096, .inl g_14))]) [9, 6] rfl
                      have hDc := hD.sub (ws' := [(q_12, .inr (5, [.ref q_13, .int w, .int h])), (q_13, .inl (cI, 4096, .inl g_14))]) [9, 6] (by decide) rfl
                      have hKc := hK.sub (tys' := [(cI, .int)]) [1] rfl
                      have hFc := va_free (wc := [(q_12, .inr (5, [.ref q_13, .int w, .int h])), (q_13, .inl (cI, 4096, .inl g_14))]) hD hS hA [9, 6] rfl
                      refine va_calli (va_runV (As := [.int y_30, .int y_22]) (rest := [.int y_36, .int y_35, .ref t0, .ref s2, .int z7]) ⟨hx, hb, hml, hown, hts⟩ (k_X5_at l D H.size q_12 q_13 w h g_14 y_30 y_22 cI (by first | assumption | omega | decide) (by first | assumption | omega | decide)) (cwV 2 hts (gV bw_325 bw_153 bw_154 bw_130 bw_152) rfl rfl rfl (by decide +kernel) ⟨(by rw [hR]; exact Nat.le_of_ble_eq_true rfl), (by rw [hR]; exact Nat.le_of_ble_eq_true rfl)⟩) ⟨cP_blind, va_recv hKc hPc (ci := 5) (q0 := 0) rfl rfl, cP_at hPc hKc hDc hN⟩ rfl rfl hl.1 rfl (lv_room (Nat.le_of_ble_eq_true rfl)) dX8_carry_165 ⟨(by rw [hR]; exact Nat.le_of_ble_eq_true rfl), (by rw [hR]; exact Nat.le_of_ble_eq_true rfl)⟩) hS (fun q _ h => hFc q h) hFc (fun r_37 u9 t9 H1 locs ht hvm hr_37 hB hz1 hk1 hS => ?_)
                      try dsimp only at hr_37
                      obtain ⟨hP1, hK1, hD1⟩ := hB
                      rw [ht] at hP1
                      obtain ⟨hP, hD⟩ := va_join (wr := [(s2, .inr (1, [.ref bx, .int ik, .int wy, .int op])), (bx, .inr (0, [.int bx0, .int by0, .int bx1, .int by1])), (s1, .inl (cO, 4, .inr (.inr (.inr (.inr f))))), (fa, .inr (2, [.int ax, .int ay, .int aw, .int ah])), (fb, .inr (2, [.int ox, .int oy, .int ow, .int oh])), (h0, .inr (8, [.ref s1, .ref s2, .ref s3, .ref s4, .ref s5, .ref s6, .int ds, va_rf sp, .ref q_12])), (t0, .inr (5, [.ref d0, .int w, .int h])), (d0, .inl (cI, 4096, .inl gz))]) (w1 := [(q_12, .inr (5, [.ref q_13, .int w, .int h])), (q_13, .inl (cI, 4096, .inl g_14))]) hP hD [9, 6] [0, 1, 2, 3, 4, 5, 7, 8] rfl rfl (by decide) (by decide) hk1 hFc hP1 hD1
                      clear hz1 hk1 hFc hKc hDc hPc
                      generalize H1 = H at hP hS ⊢
                      have hP : va_P D vwCl [(s2, .inr (1, [.ref bx, .int ik, .int wy, .int op])), (bx, .inr (0, [.int bx0, .int by0, .int bx1, .int by1])), (s1, .inl (cO, 4, .inr (.inr (.inr (.inr f))))), (fa, .inr (2, [.int ax, .int ay, .int aw, .int ah])), (fb, .inr (2, [.int ox, .int oy, .int ow, .int oh])), (h0, .inr (8, [.ref s1, .ref s2, .ref s3, .ref s4, .ref s5, .ref s6, .int ds, va_rf sp, .ref q_12])), (t0, .inr (5, [.ref d0, .int w, .int h])), (d0, .inl (cI, 4096, .inl gz)), (q_12, .inr (5, [.ref q_13, .int w, .int h])), (q_13, .inl (cI, 4096, .inl g_14))] H := hP
                      have hD : va_D A [(s2, .inr (1, [.ref bx, .int ik, .int wy, .int op])), (bx, .inr (0, [.int bx0, .int by0, .int bx1, .int by1])), (s1, .inl (cO, 4, .inr (.inr (.inr (.inr f))))), (fa, .inr (2, [.int ax, .int ay, .int aw, .int ah])), (fb, .inr (2, [.int ox, .int oy, .int ow, .int oh])), (h0, .inr (8, [.ref s1, .ref s2, .ref s3, .ref s4, .ref s5, .ref s6, .int ds, va_rf sp, .ref q_12])), (t0, .inr (5, [.ref d0, .int w, .int h])), (d0, .inl (cI, 4096, .inl gz)), (q_12, .inr (5, [.ref q_13, .int w, .int h])), (q_13, .inl (cI, 4096, .inl g_14))] := hD
                      have hsv : g (ixP y_30 y_22) = r_37 := by rw [hr_37, if_pos f_33]; exact (b_15 _ (ix_lt (by omega) (by omega) (by omega) (by omega))).symm
                      refine lv_aload_n hx hb dX8_carry_168 rfl (lv_at hl 7 rfl) ?_
                      refine va_get (D := D) (ci := 8) (v := .ref s2) (C := RX8) (T := TX8) (N := 9) hx hb hts hi_X8 hown hK hP 5 rfl rfl 1 (by decide) (hts _ bw_231) (fun _ h9 => h9) rfl dX8_carry_169 ?_
                      refine va_getN (host := RX8) (D := D) (ci := 1) (v := .int op) (C := RX1) (T := TX1) (N := 4) hx hb hts hi_X1 hown hK hP 0 rfl rfl 3 (by decide) ((hN.1 (RX8, 86, "DotBench$Brush", "opacity", "I", RX8) (by decide +kernel)).use rfl) (fun _ h9 => h9) rfl dX8_carry_172 ?_
                      have hPc := hP.sub (ws' := [(s2, .inr (1, [.ref bx, .int ik, .int wy, .int op])), (bx, .inr (0, [.int bx0, .int by0, .int bx1, .int by1])), (t0, .inr (5, [.ref d0, .int w, .int h])), (d0, .inl (cI, 4096, .inl gz))]) [0, 1, 6, 7] rfl
                      have hDc := hD.sub (ws' := [(s2, .inr (1, [.ref bx, .int ik, .int wy, .int op])), (bx, .inr (0, [.int bx0, .int by0, .int bx1, .int by1])), (t0, .inr (5, [.ref d0, .int w, .int h])), (d0, .inl (cI, 4096, .inl gz))]) [0, 1, 6, 7] (by decide) rfl
                      have hKc := hK.sub (tys' := [(cI, .int)]) [1] rfl
                      have hFc := va_free (wc := [(s2, .inr (1, [.ref bx, .int ik, .int wy, .int op])), (bx, .inr (0, [.int bx0, .int by0, .int bx1, .int by1])), (t0, .inr (5, [.ref d0, .int w, .int h])), (d0, .inl (cI, 4096, .inl gz))]) hD hS hA [0, 1, 6, 7] rfl
                      refine va_calli (va_runV (As := [.ref t0, .int y_35, .int y_36, .int r_37, .int op]) (rest := [.int z7]) ⟨hx, hb, hml, hown, hts⟩ (k_X1_lay l D H.size s2 bx ik wy op t0 d0 bx0 by0 bx1 by1 w h gz y_35 y_36 r_37 op cI (by first | assumption | omega | decide) (by first | assumption | omega | decide) (by first | assumption | omega | decide)) (cwV 5 hts (gV bw_276 bw_33 bw_34 bw_19 bw_32) rfl rfl rfl (by decide +kernel) ⟨(by rw [hR]; exact Nat.le_of_ble_eq_true rfl), (by rw [hR]; exact Nat.le_of_ble_eq_true rfl)⟩) ⟨cP_blind, va_recv hKc hPc (ci := 1) (q0 := 0) rfl rfl, cP_at hPc hKc hDc hN⟩ rfl rfl hl.1 rfl (lv_room (Nat.le_of_ble_eq_true rfl)) dX8_carry_175 ⟨(by rw [hR]; exact Nat.le_of_ble_eq_true rfl), (by rw [hR]; exact Nat.le_of_ble_eq_true rfl)⟩) hS (fun q _ h => hFc q h) hFc (fun r_38 u9 t9 H1 locs ht hvm hr_38 hB hz1 hk1 hS => ?_)
                      try dsimp only at hr_38
                      obtain ⟨hP1, hK1, hD1⟩ := hB
                      rw [ht] at hP1
                      obtain ⟨hP, hD⟩ := va_join (wr := [(s1, .inl (cO, 4, .inr (.inr (.inr (.inr f))))), (fa, .inr (2, [.int ax, .int ay, .int aw, .int ah])), (fb, .inr (2, [.int ox, .int oy, .int ow, .int oh])), (h0, .inr (8, [.ref s1, .ref s2, .ref s3, .ref s4, .ref s5, .ref s6, .int ds, va_rf sp, .ref q_12])), (q_12, .inr (5, [.ref q_13, .int w, .int h])), (q_13, .inl (cI, 4096, .inl g_14))]) (w1 := [(s2, .inr (1, [.ref bx, .int ik, .int wy, .int op])), (bx, .inr (0, [.int bx0, .int by0, .int bx1, .int by1])), (t0, .inr (5, [.ref d0, .int w, .int h])), (d0, .inl (cI, 4096, .inl (if 0 ≤ y_35.toInt ∧ y_35.toInt < w.toInt ∧ 0 ≤ y_36.toInt ∧ y_36.toInt < h.toInt ∧ bx0.toInt ≤ y_35.toInt ∧ y_35.toInt ≤ bx1.toInt ∧ by0.toInt ≤ y_36.toInt ∧ y_36.toInt ≤ by1.toInt then upd gz (ixP y_35 y_36) (laidP wy r_37 (gz (ixP y_35 y_36)) op) else gz)))]) hP hD [0, 1, 6, 7] [2, 3, 4, 5, 8, 9] rfl rfl (by decide) (by decide) hk1 hFc hP1 hD1
                      clear hz1 hk1 hFc hKc hDc hPc
                      generalize H1 = H at hP hS ⊢
                      have hP : va_P D vwCl [(s1, .inl (cO, 4, .inr (.inr (.inr (.inr f))))), (fa, .inr (2, [.int ax, .int ay, .int aw, .int ah])), (fb, .inr (2, [.int ox, .int oy, .int ow, .int oh])), (h0, .inr (8, [.ref s1, .ref s2, .ref s3, .ref s4, .ref s5, .ref s6, .int ds, va_rf sp, .ref q_12])), (q_12, .inr (5, [.ref q_13, .int w, .int h])), (q_13, .inl (cI, 4096, .inl g_14)), (s2, .inr (1, [.ref bx, .int ik, .int wy, .int op])), (bx, .inr (0, [.int bx0, .int by0, .int bx1, .int by1])), (t0, .inr (5, [.ref d0, .int w, .int h])), (d0, .inl (cI, 4096, .inl (if 0 ≤ y_35.toInt ∧ y_35.toInt < w.toInt ∧ 0 ≤ y_36.toInt ∧ y_36.toInt < h.toInt ∧ bx0.toInt ≤ y_35.toInt ∧ y_35.toInt ≤ bx1.toInt ∧ by0.toInt ≤ y_36.toInt ∧ y_36.toInt ≤ by1.toInt then upd gz (ixP y_35 y_36) (laidP wy r_37 (gz (ixP y_35 y_36)) op) else gz)))] H := hP
                      have hD : va_D A [(s1, .inl (cO, 4, .inr (.inr (.inr (.inr f))))), (fa, .inr (2, [.int ax, .int ay, .int aw, .int ah])), (fb, .inr (2, [.int ox, .int oy, .int ow, .int oh])), (h0, .inr (8, [.ref s1, .ref s2, .ref s3, .ref s4, .ref s5, .ref s6, .int ds, va_rf sp, .ref q_12])), (q_12, .inr (5, [.ref q_13, .int w, .int h])), (q_13, .inl (cI, 4096, .inl g_14)), (s2, .inr (1, [.ref bx, .int ik, .int wy, .int op])), (bx, .inr (0, [.int bx0, .int by0, .int bx1, .int by1])), (t0, .inr (5, [.ref d0, .int w, .int h])), (d0, .inl (cI, 4096, .inl (if 0 ≤ y_35.toInt ∧ y_35.toInt < w.toInt ∧ 0 ≤ y_36.toInt ∧ y_36.toInt < h.toInt ∧ bx0.toInt ≤ y_35.toInt ∧ y_35.toInt ≤ bx1.toInt ∧ by0.toInt ≤ y_36.toInt ∧ y_36.toInt ≤ by1.toInt then upd gz (ixP y_35 y_36) (laidP wy r_37 (gz (ixP y_35 y_36)) op) else gz)))] := hD
                      refine lv_iadd hx hb dX8_carry_178 ?_
                      refine lv_topi (fun y_39 ey_39 => ?_)
                      refine lv_istore (lv' := [(7, .int y_39), (11, .int y_30), (10, .int x10), (9, .int y_22), (8, .int x8), (5, .ref q_12), (6, .ref t0), (0, .ref h0), (1, .int k), (2, .ref fa), (3, .int kq), (4, .ref fb)]) hx hb dX8_carry_179 hl (by decide) rfl (fun ls hl => ?_)
                      obtain ⟨y_40, ey_40⟩ : ∃ y : Int32, y = x10 + 1 := ⟨_, rfl⟩
                      refine lv_iinc (v := y_40) (lv' := [(10, .int y_40), (7, .int y_39), (11, .int y_30), (9, .int y_22), (8, .int x8), (5, .ref q_12), (6, .ref t0), (0, .ref h0), (1, .int k), (2, .ref fa), (3, .int kq), (4, .ref fb)]) hx hb dX8_carry_181 hl (k := 2) rfl (by rw [ey_40]; rfl) (by decide) rfl (fun ls hl => ?_)
                      refine lv_goto (tgt := 93) hx hb dX8_carry_184 (by decide) ?_
                      exact ih_24 (i + 1) y_40 y_39 (if 0 ≤ y_35.toInt ∧ y_35.toInt < w.toInt ∧ 0 ≤ y_36.toInt ∧ y_36.toInt < h.toInt ∧ bx0.toInt ≤ y_35.toInt ∧ y_35.toInt ≤ bx1.toInt ∧ by0.toInt ≤ y_36.toInt ∧ y_36.toInt ≤ by1.toInt then upd gz (ixP y_35 y_36) (laidP wy r_37 (gz (ixP y_35 y_36)) op) else gz) _ _ _ (by omega) (by omega) (by rw [ey_40, ex_i]; exact nI_1 i) (by omega) (by rw [show gR (cyQ ax ay aw ah ox oy ow oh w h op g) j (i + 1) = gR (cyQ ax ay aw ah ox oy ow oh w h op g) j i ++ [(y_35, y_36, r_37, op)] from congrArg (gR (cyQ ax ay aw ah ox oy ow oh w h op g) j i ++ ·) (show (cyQ ax ay aw ah ox oy ow oh w h op g) j i = [(y_35, y_36, r_37, op)] by unfold cyQ; rw [if_pos (by rw [← hcyy_30, ← hcyy_22]; exact f_33), ← hcyy_30, ← hcyy_22, ← hply_35, ← hply_36, hsv]), ← List.append_assoc, List.foldl_append, ← hgi]; rfl) (by rw [show gR (cyQ ax ay aw ah ox oy ow oh w h op g) j (i + 1) = gR (cyQ ax ay aw ah ox oy ow oh w h op g) j i ++ [(y_35, y_36, r_37, op)] from congrArg (gR (cyQ ax ay aw ah ox oy ow oh w h op g) j i ++ ·) (show (cyQ ax ay aw ah ox oy ow oh w h op g) j i = [(y_35, y_36, r_37, op)] by unfold cyQ; rw [if_pos (by rw [← hcyy_30, ← hcyy_22]; exact f_33), ← hcyy_30, ← hcyy_22, ← hply_35, ← hply_36, hsv]), ← List.append_assoc, List.foldl_append, ← eti, ey_39, hr_38]; rfl) (hP.sub (ws' := [(s2, .inr (1, [.ref bx, .int ik, .int wy, .int op])), (bx, .inr (0, [.int bx0, .int by0, .int bx1, .int by1])), (s1, .inl (cO, 4, .inr (.inr (.inr (.inr f))))), (fa, .inr (2, [.int ax, .int ay, .int aw, .int ah])), (fb, .inr (2, [.int ox, .int oy, .int ow, .int oh])), (h0, .inr (8, [.ref s1, .ref s2, .ref s3, .ref s4, .ref s5, .ref s6, .int ds, va_rf sp, .ref q_12])), (q_12, .inr (5, [.ref q_13, .int w, .int h])), (q_13, .inl (cI, 4096, .inl g_14)), (t0, .inr (5, [.ref d0, .int w, .int h])), (d0, .inl (cI, 4096, .inl (if 0 ≤ y_35.toInt ∧ y_35.toInt < w.toInt ∧ 0 ≤ y_36.toInt ∧ y_36.toInt < h.toInt ∧ bx0.toInt ≤ y_35.toInt ∧ y_35.toInt ≤ bx1.toInt ∧ by0.toInt ≤ y_36.toInt ∧ y_36.toInt ≤ by1.toInt then upd gz (ixP y_35 y_36) (laidP wy r_37 (gz (ixP y_35 y_36)) op) else gz)))]) [6, 7, 0, 1, 2, 3, 4, 5, 8, 9] rfl) (hD.sub (ws' := [(s2, .inr (1, [.ref bx, .int ik, .int wy, .int op])), (bx, .inr (0, [.int bx0, .int by0, .int bx1, .int by1])), (s1, .inl (cO, 4, .inr (.inr (.inr (.inr f))))), (fa, .inr (2, [.int ax, .int ay, .int aw, .int ah])), (fb, .inr (2, [.int ox, .int oy, .int ow, .int oh])), (h0, .inr (8, [.ref s1, .ref s2, .ref s3, .ref s4, .ref s5, .ref s6, .int ds, va_rf sp, .ref q_12])), (q_12, .inr (5, [.ref q_13, .int w, .int h])), (q_13, .inl (cI, 4096, .inl g_14)), (t0, .inr (5, [.ref d0, .int w, .int h])), (d0, .inl (cI, 4096, .inl (if 0 ≤ y_35.toInt ∧ y_35.toInt < w.toInt ∧ 0 ≤ y_36.toInt ∧ y_36.toInt < h.toInt ∧ bx0.toInt ≤ y_35.toInt ∧ y_35.toInt ≤ bx1.toInt ∧ by0.toInt ≤ y_36.toInt ∧ y_36.toInt ≤ by1.toInt then upd gz (ixP y_35 y_36) (laidP wy r_37 (gz (ixP y_35 y_36)) op) else gz)))]) [6, 7, 0, 1, 2, 3, 4, 5, 8, 9] (by decide) rfl) hS (lv_sub hl [0, 3, 4, 1, 5, 6, 7, 8, 9, 10, 11] rfl)
              exact loop_23 (64 + 1) 0 0 x7 ga _ _ _ (by omega) (by omega) nI_0.symm (by omega) (by rw [show gR (cyQ ax ay aw ah ox oy ow oh w h op g) j 0 = [] from rfl, List.append_nil]; exact hgo) (by rw [show gR (cyQ ax ay aw ah ox oy ow oh w h op g) j 0 = [] from rfl, List.append_nil]; exact eto) hP hD hS (lv_sub hl [0, 1, 2, 3, 4, 5, 6, 7, 8, 9, 10] rfl)
        exact loop_16 (64 + 1) 0 0 0 g _ _ _ (by omega) (by omega) nI_0.symm (by omega) rfl rfl hP hD hS (lv_sub hl [0, 1, 2, 3, 4, 5, 6, 7, 8] rfl)
    · skip
      have f_8 := bz0 hr_6 c_7
      exact False.elim (by omega)

set_option maxHeartbeats 4000000 in
set_option maxRecDepth 100000 in
theorem k_X8_copy_de (l : Launch) (D : va_G) (sz : Nat) (h0 s1 s2 s3 s4 s5 s6 : Nat) (ds : Int32) (sp bt : Option Nat) (f : Nat → Option Nat) (bx t0 d0 : Nat) (ik wy op : Int32) (bx0 by0 bx1 by1 : Int32) (w h : Int32) (g : Nat → Int32) (u0 e0 : Nat) (w2 h2 : Int32) (gs : Nat → Int32) (k ax ay aw ah kq ox oy : Int32) (cO : ClassId) (cI : ClassId) (hsz : (0 ≤ aw.toInt ∧ aw.toInt ≤ 64) ∧ (0 ≤ ah.toInt ∧ ah.toInt ≤ 64)) (hak : 0 ≤ k.toInt ∧ k.toInt ≤ 3) (haf : f k.toNatClampNeg = some u0) (hb0k : 0 ≤ kq.toInt ∧ kq.toInt ≤ 3) (hb0f : f kq.toNatClampNeg = some t0) (hne : ¬ k.toInt = kq.toInt) (hnr : (-200 ≤ ax.toInt ∧ ax.toInt ≤ 200) ∧ (-200 ≤ ay.toInt ∧ ay.toInt ≤ 200) ∧ (-200 ≤ ox.toInt ∧ ox.toInt ≤ 200) ∧ (-200 ≤ oy.toInt ∧ oy.toInt ≤ 200)) (hwy : 0 ≤ wy.toInt ∧ wy.toInt ≤ 12) (hw : w.toInt ≤ 64) (hh : h.toInt ≤ 64) (hw2 : w2.toInt ≤ 64) (hh2 : h2.toInt ≤ 64) : Met l yX8_copy (wB yX8_copy cX8_copy 9 (some .int)) ({ frames := 4, cells := 2, slots := 8, locals := 106 }) (cP D [(h0, .inr (8, [.ref s1, .ref s2, .ref s3, .ref s4, .ref s5, .ref s6, .int ds, va_rf sp, va_rf bt])), (s1, .inl (cO, 4, .inr (.inr (.inr (.inr f))))), (s2, .inr (1, [.ref bx, .int ik, .int wy, .int op])), (bx, .inr (0, [.int bx0, .int by0, .int bx1, .int by1])), (t0, .inr (5, [.ref d0, .int w, .int h])), (d0, .inl (cI, 4096, .inl g)), (u0, .inr (5, [.ref e0, .int w2, .int h2])), (e0, .inl (cI, 4096, .inl gs))] [(cO, .object "DotBench$Sheet"), (cI, .int)] sz [.ref h0, .int k, .int ax, .int ay, .int aw, .int ah, .int kq, .int ox, .int oy]) (va_Qi (fun (r : Int32) (_ : Unit) => r = (gL (cyQ ax ay aw ah ox oy aw ah w2 h2 op gs) aw.toNatClampNeg ah.toNatClampNeg).foldl (layT w h bx0 by0 bx1 by1) 0) (fun (_ : Unit) (t : State) => cB D (va_A [(h0, .inr (8, [.ref s1, .ref s2, .ref s3, .ref s4, .ref s5, .ref s6, .int ds, va_rf sp, va_rf bt])), (s1, .inl (cO, 4, .inr (.inr (.inr (.inr f))))), (s2, .inr (1, [.ref bx, .int ik, .int wy, .int op])), (bx, .inr (0, [.int bx0, .int by0, .int bx1, .int by1])), (t0, .inr (5, [.ref d0, .int w, .int h])), (d0, .inl (cI, 4096, .inl g)), (u0, .inr (5, [.ref e0, .int w2, .int h2])), (e0, .inl (cI, 4096, .inl gs))] sz) [(h0, .inr (8, [.ref s1, .ref s2, .ref s3, .ref s4, .ref s5, .ref s6, .int ds, va_rf sp, va_rf bt])), (s1, .inl (cO, 4, .inr (.inr (.inr (.inr f))))), (s2, .inr (1, [.ref bx, .int ik, .int wy, .int op])), (bx, .inr (0, [.int bx0, .int by0, .int bx1, .int by1])), (t0, .inr (5, [.ref d0, .int w, .int h])), (d0, .inl (cI, 4096, .inl ((gL (cyQ ax ay aw ah ox oy aw ah w2 h2 op gs) aw.toNatClampNeg ah.toNatClampNeg).foldl (layG w h bx0 by0 bx1 by1 wy) g))), (u0, .inr (5, [.ref e0, .int w2, .int h2])), (e0, .inl (cI, 4096, .inl gs))] [(cO, .object "DotBench$Sheet"), (cI, .int)] t) (va_A [(h0, .inr (8, [.ref s1, .ref s2, .ref s3, .ref s4, .ref s5, .ref s6, .int ds, va_rf sp, va_rf bt])), (s1, .inl (cO, 4, .inr (.inr (.inr (.inr f))))), (s2, .inr (1, [.ref bx, .int ik, .int wy, .int op])), (bx, .inr (0, [.int bx0, .int by0, .int bx1, .int by1])), (t0, .inr (5, [.ref d0, .int w, .int h])), (d0, .inl (cI, 4096, .inl g)), (u0, .inr (5, [.ref e0, .int w2, .int h2])), (e0, .inl (cI, 4096, .inl gs))] sz)) 2 8 (va_A [(h0, .inr (8, [.ref s1, .ref s2, .ref s3, .ref s4, .ref s5, .ref s6, .int ds, va_rf sp, va_rf bt])), (s1, .inl (cO, 4, .inr (.inr (.inr (.inr f))))), (s2, .inr (1, [.ref bx, .int ik, .int wy, .int op])), (bx, .inr (0, [.int bx0, .int by0, .int bx1, .int by1])), (t0, .inr (5, [.ref d0, .int w, .int h])), (d0, .inl (cI, 4096, .inl g)), (u0, .inr (5, [.ref e0, .int w2, .int h2])), (e0, .inl (cI, 4096, .inl gs))] sz) := by
  refine Met.ofW (cc := cX8_copy) (maxL := 9) (ret := (some .int)) (by decide) rfl ?_
  intro p e s m args below meth c s₁ B hml hv
  obtain ⟨rfl, hsz, hP, hK, hD0, hN⟩ := hv
  have hx := B.exec
  have hb := B.bytes
  have hr := B.returns
  have hts0 := atoms_spec (ws := (wB yX8_copy cX8_copy 9 (some .int))) B.pre
  have hts : ∀ w ∈ bigW, w.before _ s = true := fun w h => hts0 w (List.mem_cons_of_mem _ h)
  have hown : s.vm.findClass RX8 = some m.cls := findClass_of_methodNamed B.named
  have hlocks := B.notSynchronized
  subst hsz
  have hD := hD0.self (sz := s.heap.size)
  generalize hAe : va_A [(h0, .inr (8, [.ref s1, .ref s2, .ref s3, .ref s4, .ref s5, .ref s6, .int ds, va_rf sp, va_rf bt])), (s1, .inl (cO, 4, .inr (.inr (.inr (.inr f))))), (s2, .inr (1, [.ref bx, .int ik, .int wy, .int op])), (bx, .inr (0, [.int bx0, .int by0, .int bx1, .int by1])), (t0, .inr (5, [.ref d0, .int w, .int h])), (d0, .inl (cI, 4096, .inl g)), (u0, .inr (5, [.ref e0, .int w2, .int h2])), (e0, .inl (cI, 4096, .inl gs))] s.heap.size = A at hD ⊢
  have hA : ∀ q : Nat, s.heap.size ≤ q → A q := fun q h => by rw [← hAe]; exact Or.inr h
  have hS : va_S A s.heap s.heap [] := va_S.rf
  have hP : va_P D vwCl [(h0, .inr (8, [.ref s1, .ref s2, .ref s3, .ref s4, .ref s5, .ref s6, .int ds, va_rf sp, va_rf bt])), (s1, .inl (cO, 4, .inr (.inr (.inr (.inr f))))), (s2, .inr (1, [.ref bx, .int ik, .int wy, .int op])), (bx, .inr (0, [.int bx0, .int by0, .int bx1, .int by1])), (t0, .inr (5, [.ref d0, .int w, .int h])), (d0, .inl (cI, 4096, .inl g)), (u0, .inr (5, [.ref e0, .int w2, .int h2])), (e0, .inl (cI, 4096, .inl gs))] s.heap := hP
  have hl := lv_entry ([.ref h0, .int k, .int ax, .int ay, .int aw, .int ah, .int kq, .int ox, .int oy]) (n := 9) (Nat.le_of_ble_eq_true rfl)
  rw [lg_entry_eq]
  generalize (lg_sl ([.ref h0, .int k, .int ax, .int ay, .int aw, .int ah, .int kq, .int ox, .int oy]) ++ List.replicate (9 - (lg_sl ([.ref h0, .int k, .int ax, .int ay, .int aw, .int ah, .int kq, .int ox, .int oy])).length) Slot.unset).toArray = ls at hl ⊢
  have hl : lv_has ls 9 [(0, .ref h0), (1, .int k), (2, .int ax), (3, .int ay), (4, .int aw), (5, .int ah), (6, .int kq), (7, .int ox), (8, .int oy)] := hl
  clear hts0 hD0 hAe
  refine my_abs (fun R Q hR hQ => ?_)
  refine lv_iload hx hb dX8_copy_0 (lv_at hl 4 rfl) ?_
  refine lv_iconst (v := 0) hx hb dX8_copy_2 (by decide) ?_
  refine lv_bipush (v := 64) hx hb dX8_copy_3 (by decide) ?_
  have hPc := hP.sub (ws' := []) [] rfl
  have hDc := hD.sub (ws' := []) [] (by decide) rfl
  have hKc := hK.sub (tys' := []) [] rfl
  have hFc := va_free (wc := []) hD hS hA [] rfl
  refine va_calli (va_runS (As := [.int aw, .int 0, .int 64]) (rest := []) ⟨hx, hb, hml, hown, hts⟩ (k_X8_isWithin l D s.heap.size aw 0 64 0 64 (by decide) (by decide)) (va_cwS 3 hts (gS bw_256 bw_349 bw_223 bw_348) rfl rfl rfl (by decide +kernel) ⟨(by rw [hR]; exact Nat.le_of_ble_eq_true rfl), (by rw [hR]; exact Nat.le_of_ble_eq_true rfl)⟩) ⟨cP_blind, cP_at hPc hKc hDc hN⟩ rfl rfl hl.1 rfl (lv_room (Nat.le_of_ble_eq_true rfl)) dX8_copy_5 ⟨(by rw [hR]; exact Nat.le_of_ble_eq_true rfl), (by rw [hR]; exact Nat.le_of_ble_eq_true rfl)⟩) hS (fun q _ h => hFc q h) hFc (fun r_1 u9 t9 H1 locs ht hvm hr_1 hB hz1 hk1 hS => ?_)
  try dsimp only at hr_1
  have hP1 : va_P D vwCl [] H1 := vP_nil
  have hD1 : va_D (va_A [] s.heap.size) [] := vD_nil
  obtain ⟨hP, hD⟩ := va_join (wr := [(h0, .inr (8, [.ref s1, .ref s2, .ref s3, .ref s4, .ref s5, .ref s6, .int ds, va_rf sp, va_rf bt])), (s1, .inl (cO, 4, .inr (.inr (.inr (.inr f))))), (s2, .inr (1, [.ref bx, .int ik, .int wy, .int op])), (bx, .inr (0, [.int bx0, .int by0, .int bx1, .int by1])), (t0, .inr (5, [.ref d0, .int w, .int h])), (d0, .inl (cI, 4096, .inl g)), (u0, .inr (5, [.ref e0, .int w2, .int h2])), (e0, .inl (cI, 4096, .inl gs))]) (w1 := []) hP hD [] [0, 1, 2, 3, 4, 5, 6, 7] rfl rfl (by decide) (by decide) hk1 hFc hP1 hD1
  clear hz1 hk1 hFc hKc hDc hPc
  generalize H1 = H at hP hS ⊢
  have hP : va_P D vwCl [(h0, .inr (8, [.ref s1, .ref s2, .ref s3, .ref s4, .ref s5, .ref s6, .int ds, va_rf sp, va_rf bt])), (s1, .inl (cO, 4, .inr (.inr (.inr (.inr f))))), (s2, .inr (1, [.ref bx, .int ik, .int wy, .int op])), (bx, .inr (0, [.int bx0, .int by0, .int bx1, .int by1])), (t0, .inr (5, [.ref d0, .int w, .int h])), (d0, .inl (cI, 4096, .inl g)), (u0, .inr (5, [.ref e0, .int w2, .int h2])), (e0, .inl (cI, 4096, .inl gs))] H := hP
  have hD : va_D A [(h0, .inr (8, [.ref s1, .ref s2, .ref s3, .ref s4, .ref s5, .ref s6, .int ds, va_rf sp, va_rf bt])), (s1, .inl (cO, 4, .inr (.inr (.inr (.inr f))))), (s2, .inr (1, [.ref bx, .int ik, .int wy, .int op])), (bx, .inr (0, [.int bx0, .int by0, .int bx1, .int by1])), (t0, .inr (5, [.ref d0, .int w, .int h])), (d0, .inl (cI, 4096, .inl g)), (u0, .inr (5, [.ref e0, .int w2, .int h2])), (e0, .inl (cI, 4096, .inl gs))] := hD
  refine lv_if_eq (tgt := 22) hx hb dX8_copy_8 (by decide) (fun c_2 => ?_) (fun c_2 => ?_)
  · skip
    have f_3 := bz0 hr_1 c_2
    exact False.elim (by omega)
  · skip
    have f_3 := bz1 hr_1 c_2
    refine lv_iload hx hb dX8_copy_11 (lv_at hl 5 rfl) ?_
    refine lv_iconst (v := 0) hx hb dX8_copy_13 (by decide) ?_
    refine lv_bipush (v := 64) hx hb dX8_copy_14 (by decide) ?_
    have hPc := hP.sub (ws' := []) [] rfl
    have hDc := hD.sub (ws' := []) [] (by decide) rfl
    have hKc := hK.sub (tys' := []) [] rfl
    have hFc := va_free (wc := []) hD hS hA [] rfl
    refine va_calli (va_runS (As := [.int ah, .int 0, .int 64]) (rest := []) ⟨hx, hb, hml, hown, hts⟩ (k_X8_isWithin l D H.size ah 0 64 0 64 (by decide) (by decide)) (va_cwS 3 hts (gS bw_256 bw_349 bw_223 bw_348) rfl rfl rfl (by decide +kernel) ⟨(by rw [hR]; exact Nat.le_of_ble_eq_true rfl), (by rw [hR]; exact Nat.le_of_ble_eq_true rfl)⟩) ⟨cP_blind, cP_at hPc hKc hDc hN⟩ rfl rfl hl.1 rfl (lv_room (Nat.le_of_ble_eq_true rfl)) dX8_copy_16 ⟨(by rw [hR]; exact Nat.le_of_ble_eq_true rfl), (by rw [hR]; exact Nat.le_of_ble_eq_true rfl)⟩) hS (fun q _ h => hFc q h) hFc (fun r_4 u9 t9 H1 locs ht hvm hr_4 hB hz1 hk1 hS => ?_)
    try dsimp only at hr_4
    have hP1 : va_P D vwCl [] H1 := vP_nil
    have hD1 : va_D (va_A [] H.size) [] := vD_nil
    obtain ⟨hP, hD⟩ := va_join (wr := [(h0, .inr (8, [.ref s1, .ref s2, .ref s3, .ref s4, .ref s5, .ref s6, .int ds, va_rf sp, va_rf bt])), (s1, .inl (cO, 4, .inr (.inr (.inr (.inr f))))), (s2, .inr (1, [.ref bx, .int ik, .int wy, .int op])), (bx, .inr (0, [.int bx0, .int by0, .int bx1, .int by1])), (t0, .inr (5, [.ref d0, .int w, .int h])), (d0, .inl (cI, 4096, .inl g)), (u0, .inr (5, [.ref e0, .int w2, .int h2])), (e0, .inl (cI, 4096, .inl gs))]) (w1 := []) hP hD [] [0, 1, 2, 3, 4, 5, 6, 7] rfl rfl (by decide) (by decide) hk1 hFc hP1 hD1
    clear hz1 hk1 hFc hKc hDc hPc
    generalize H1 = H at hP hS ⊢
    have hP : va_P D vwCl [(h0, .inr (8, [.ref s1, .ref s2, .ref s3, .ref s4, .ref s5, .ref s6, .int ds, va_rf sp, va_rf bt])), (s1, .inl (cO, 4, .inr (.inr (.inr (.inr f))))), (s2, .inr (1, [.ref bx, .int ik, .int wy, .int op])), (bx, .inr (0, [.int bx0, .int by0, .int bx1, .int by1])), (t0, .inr (5, [.ref d0, .int w, .int h])), (d0, .inl (cI, 4096, .inl g)), (u0, .inr (5, [.ref e0, .int w2, .int h2])), (e0, .inl (cI, 4096, .inl gs))] H := hP
    have hD : va_D A [(h0, .inr (8, [.ref s1, .ref s2, .ref s3, .ref s4, .ref s5, .ref s6, .int ds, va_rf sp, va_rf bt])), (s1, .inl (cO, 4, .inr (.inr (.inr (.inr f))))), (s2, .inr (1, [.ref bx, .int ik, .int wy, .int op])), (bx, .inr (0, [.int bx0, .int by0, .int bx1, .int by1])), (t0, .inr (5, [.ref d0, .int w, .int h])), (d0, .inl (cI, 4096, .inl g)), (u0, .inr (5, [.ref e0, .int w2, .int h2])), (e0, .inl (cI, 4096, .inl gs))] := hD
    refine lv_if_ne (tgt := 24) hx hb dX8_copy_19 (by decide) (fun c_5 => ?_) (fun c_5 => ?_)
    · skip
      have f_6 := bz1 hr_4 c_5
      refine lv_aload_n hx hb dX8_copy_24 rfl (lv_at hl 0 rfl) ?_
      refine lv_iload_n hx hb dX8_copy_25 rfl (lv_at hl 1 rfl) ?_
      refine va_new (ci := 2) (fs := [.int 0, .int 0, .int 0, .int 0]) (C := RX2) (T := TX2) (N := 4) hx hb hts hi_X2 tyX2 tyX2_ok hown (hts _ bw_316) (hts _ bw_56) (hts _ bw_55) hK hP hD hS hA rfl z_X2 (by rw [hR]; exact Nat.le_of_ble_eq_true rfl) (by rw [hR]; exact Nat.le_of_ble_eq_true rfl) dX8_copy_26 (fun q_7 H hP hD hS => ?_)
      have hP : va_P D vwCl [(h0, .inr (8, [.ref s1, .ref s2, .ref s3, .ref s4, .ref s5, .ref s6, .int ds, va_rf sp, va_rf bt])), (s1, .inl (cO, 4, .inr (.inr (.inr (.inr f))))), (s2, .inr (1, [.ref bx, .int ik, .int wy, .int op])), (bx, .inr (0, [.int bx0, .int by0, .int bx1, .int by1])), (t0, .inr (5, [.ref d0, .int w, .int h])), (d0, .inl (cI, 4096, .inl g)), (u0, .inr (5, [.ref e0, .int w2, .int h2])), (e0, .inl (cI, 4096, .inl gs)), (q_7, .inr (2, [.int 0, .int 0, .int 0, .int 0]))] H := hP
      have hD : va_D A [(h0, .inr (8, [.ref s1, .ref s2, .ref s3, .ref s4, .ref s5, .ref s6, .int ds, va_rf sp, va_rf bt])), (s1, .inl (cO, 4, .inr (.inr (.inr (.inr f))))), (s2, .inr (1, [.ref bx, .int ik, .int wy, .int op])), (bx, .inr (0, [.int bx0, .int by0, .int bx1, .int by1])), (t0, .inr (5, [.ref d0, .int w, .int h])), (d0, .inl (cI, 4096, .inl g)), (u0, .inr (5, [.ref e0, .int w2, .int h2])), (e0, .inl (cI, 4096, .inl gs)), (q_7, .inr (2, [.int 0, .int 0, .int 0, .int 0]))] := hD
      refine W.widen (k := 1) (n := 4) (by omega) (by omega) ?_
      refine lv_dup hx hb dX8_copy_29 rfl ?_
      refine lv_iload_n hx hb dX8_copy_30 rfl (lv_at hl 2 rfl) ?_
      refine lv_iload_n hx hb dX8_copy_31 rfl (lv_at hl 3 rfl) ?_
      refine lv_iload hx hb dX8_copy_32 (lv_at hl 4 rfl) ?_
      refine lv_iload hx hb dX8_copy_34 (lv_at hl 5 rfl) ?_
      have hPc := hP.sub (ws' := [(q_7, .inr (2, [.int 0, .int 0, .int 0, .int 0]))]) [8] rfl
      have hDc := hD.sub (ws' := [(q_7, .inr (2, [.int 0, .int 0, .int 0, .int 0]))]) [8] (by decide) rfl
      have hKc := hK.sub (tys' := []) [] rfl
      have hFc := va_free (wc := [(q_7, .inr (2, [.int 0, .int 0, .int 0, .int 0]))]) hD hS hA [8] rfl
      refine va_callv (va_runI (As := [.int ax, .int ay, .int aw, .int ah]) (rest := [.ref q_7, .int k, .ref h0]) ⟨hx, hb, hml, hown, hts⟩ (k_X2_init l D H.size q_7 ax ay aw ah) (cwI 4 hts (gI bw_57) rfl rfl rfl (hts _ bw_55) (hts _ bw_317) (hts _ bw_58) rfl (by decide +kernel) ⟨(by rw [hR]; exact Nat.le_of_ble_eq_true rfl), (by rw [hR]; exact Nat.le_of_ble_eq_true rfl)⟩) ⟨cP_blind, cP_at hPc hKc hDc hN⟩ rfl rfl hl.1 rfl (lv_room (Nat.le_of_ble_eq_true rfl)) dX8_copy_36 ⟨(by rw [hR]; exact Nat.le_of_ble_eq_true rfl), (by rw [hR]; exact Nat.le_of_ble_eq_true rfl)⟩) hS (fun q _ h => hFc q h) hFc (fun u9 t9 H1 locs ht hvm hr_8 hB hz1 hk1 hS => ?_)
      try dsimp only at hr_8
      obtain ⟨hP1, hK1, hD1⟩ := hB
      rw [ht] at hP1
      obtain ⟨hP, hD⟩ := va_join (wr := [(h0, .inr (8, [.ref s1, .ref s2, .ref s3, .ref s4, .ref s5, .ref s6, .int ds, va_rf sp, va_rf bt])), (s1, .inl (cO, 4, .inr (.inr (.inr (.inr f))))), (s2, .inr (1, [.ref bx, .int ik, .int wy, .int op])), (bx, .inr (0, [.int bx0, .int by0, .int bx1, .int by1])), (t0, .inr (5, [.ref d0, .int w, .int h])), (d0, .inl (cI, 4096, .inl g)), (u0, .inr (5, [.ref e0, .int w2, .int h2])), (e0, .inl (cI, 4096, .inl gs))]) (w1 := [(q_7, .inr (2, [.int ax, .int ay, .int aw, .int ah]))]) hP hD [8] [0, 1, 2, 3, 4, 5, 6, 7] rfl rfl (by decide) (by decide) hk1 hFc hP1 hD1
      clear hz1 hk1 hFc hKc hDc hPc
      generalize H1 = H at hP hS ⊢
      have hP : va_P D vwCl [(h0, .inr (8, [.ref s1, .ref s2, .ref s3, .ref s4, .ref s5, .ref s6, .int ds, va_rf sp, va_rf bt])), (s1, .inl (cO, 4, .inr (.inr (.inr (.inr f))))), (s2, .inr (1, [.ref bx, .int ik, .int wy, .int op])), (bx, .inr (0, [.int bx0, .int by0, .int bx1, .int by1])), (t0, .inr (5, [.ref d0, .int w, .int h])), (d0, .inl (cI, 4096, .inl g)), (u0, .inr (5, [.ref e0, .int w2, .int h2])), (e0, .inl (cI, 4096, .inl gs)), (q_7, .inr (2, [.int ax, .int ay, .int aw, .int ah]))] H := hP
      have hD : va_D A [(h0, .inr (8, [.ref s1, .ref s2, .ref s3, .ref s4, .ref s5, .ref s6, .int ds, va_rf sp, va_rf bt])), (s1, .inl (cO, 4, .inr (.inr (.inr (.inr f))))), (s2, .inr (1, [.ref bx, .int ik, .int wy, .int op])), (bx, .inr (0, [.int bx0, .int by0, .int bx1, .int by1])), (t0, .inr (5, [.ref d0, .int w, .int h])), (d0, .inl (cI, 4096, .inl g)), (u0, .inr (5, [.ref e0, .int w2, .int h2])), (e0, .inl (cI, 4096, .inl gs)), (q_7, .inr (2, [.int ax, .int ay, .int aw, .int ah]))] := hD
      refine lv_iload hx hb dX8_copy_39 (lv_at hl 6 rfl) ?_
      refine va_new (ci := 2) (fs := [.int 0, .int 0, .int 0, .int 0]) (C := RX2) (T := TX2) (N := 4) hx hb hts hi_X2 tyX2 tyX2_ok hown (hts _ bw_316) (hts _ bw_56) (hts _ bw_55) hK hP hD hS hA rfl z_X2 (by rw [hR]; exact Nat.le_of_ble_eq_true rfl) (by rw [hR]; exact Nat.le_of_ble_eq_true rfl) dX8_copy_41 (fun q_9 H hP hD hS => ?_)
      have hP : va_P D vwCl [(h0, .inr (8, [.ref s1, .ref s2, .ref s3, .ref s4, .ref s5, .ref s6, .int ds, va_rf sp, va_rf bt])), (s1, .inl (cO, 4, .inr (.inr (.inr (.inr f))))), (s2, .inr (1, [.ref bx, .int ik, .int wy, .int op])), (bx, .inr (0, [.int bx0, .int by0, .int bx1, .int by1])), (t0, .inr (5, [.ref d0, .int w, .int h])), (d0, .inl (cI, 4096, .inl g)), (u0, .inr (5, [.ref e0, .int w2, .int h2])), (e0, .inl (cI, 4096, .inl gs)), (q_7, .inr (2, [.int ax, .int ay, .int aw, .int ah])), (q_9, .inr (2, [.int 0, .int 0, .int 0, .int 0]))] H := hP
      have hD : va_D A [(h0, .inr (8, [.ref s1, .ref s2, .ref s3, .ref s4, .ref s5, .ref s6, .int ds, va_rf sp, va_rf bt])), (s1, .inl (cO, 4, .inr (.inr (.inr (.inr f))))), (s2, .inr (1, [.ref bx, .int ik, .int wy, .int op])), (bx, .inr (0, [.int bx0, .int by0, .int bx1, .int by1])), (t0, .inr (5, [.ref d0, .int w, .int h])), (d0, .inl (cI, 4096, .inl g)), (u0, .inr (5, [.ref e0, .int w2, .int h2])), (e0, .inl (cI, 4096, .inl gs)), (q_7, .inr (2, [.int ax, .int ay, .int aw, .int ah])), (q_9, .inr (2, [.int 0, .int 0, .int 0, .int 0]))] := hD
      refine W.widen (k := 2) (n := 8) (by omega) (by omega) ?_
      refine lv_dup hx hb dX8_copy_44 rfl ?_
      refine lv_iload hx hb dX8_copy_45 (lv_at hl 7 rfl) ?_
      refine lv_iload hx hb dX8_copy_47 (lv_at hl 8 rfl) ?_
      refine lv_iload hx hb dX8_copy_49 (lv_at hl 4 rfl) ?_
      refine lv_iload hx hb dX8_copy_51 (lv_at hl 5 rfl) ?_
      have hPc := hP.sub (ws' := [(q_9, .inr (2, [.int 0, .int 0, .int 0, .int 0]))]) [9] rfl
      have hDc := hD.sub (ws' := [(q_9, .inr (2, [.int 0, .int 0, .int 0, .int 0]))]) [9] (by decide) rfl
      have hKc := hK.sub (tys' := []) [] rfl
      have hFc := va_free (wc := [(q_9, .inr (2, [.int 0, .int 0, .int 0, .int 0]))]) hD hS hA [9] rfl
      refine va_callv (va_runI (As := [.int ox, .int oy, .int aw, .int ah]) (rest := [.ref q_9, .int kq, .ref q_7, .int k, .ref h0]) ⟨hx, hb, hml, hown, hts⟩ (k_X2_init l D H.size q_9 ox oy aw ah) (cwI 4 hts (gI bw_57) rfl rfl rfl (hts _ bw_55) (hts _ bw_317) (hts _ bw_58) rfl (by decide +kernel) ⟨(by rw [hR]; exact Nat.le_of_ble_eq_true rfl), (by rw [hR]; exact Nat.le_of_ble_eq_true rfl)⟩) ⟨cP_blind, cP_at hPc hKc hDc hN⟩ rfl rfl hl.1 rfl (lv_room (Nat.le_of_ble_eq_true rfl)) dX8_copy_53 ⟨(by rw [hR]; exact Nat.le_of_ble_eq_true rfl), (by rw [hR]; exact Nat.le_of_ble_eq_true rfl)⟩) hS (fun q _ h => hFc q h) hFc (fun u9 t9 H1 locs ht hvm hr_10 hB hz1 hk1 hS => ?_)
      try dsimp only at hr_10
      obtain ⟨hP1, hK1, hD1⟩ := hB
      rw [ht] at hP1
      obtain ⟨hP, hD⟩ := va_join (wr := [(h0, .inr (8, [.ref s1, .ref s2, .ref s3, .ref s4, .ref s5, .ref s6, .int ds, va_rf sp, va_rf bt])), (s1, .inl (cO, 4, .inr (.inr (.inr (.inr f))))), (s2, .inr (1, [.ref bx, .int ik, .int wy, .int op])), (bx, .inr (0, [.int bx0, .int by0, .int bx1, .int by1])), (t0, .inr (5, [.ref d0, .int w, .int h])), (d0, .inl (cI, 4096, .inl g)), (u0, .inr (5, [.ref e0, .int w2, .int h2])), (e0, .inl (cI, 4096, .inl gs)), (q_7, .inr (2, [.int ax, .int ay, .int aw, .int ah]))]) (w1 := [(q_9, .inr (2, [.int ox, .int oy, .int aw, .int ah]))]) hP hD [9] [0, 1, 2, 3, 4, 5, 6, 7, 8] rfl rfl (by decide) (by decide) hk1 hFc hP1 hD1
      clear hz1 hk1 hFc hKc hDc hPc
      generalize H1 = H at hP hS ⊢
      have hP : va_P D vwCl [(h0, .inr (8, [.ref s1, .ref s2, .ref s3, .ref s4, .ref s5, .ref s6, .int ds, va_rf sp, va_rf bt])), (s1, .inl (cO, 4, .inr (.inr (.inr (.inr f))))), (s2, .inr (1, [.ref bx, .int ik, .int wy, .int op])), (bx, .inr (0, [.int bx0, .int by0, .int bx1, .int by1])), (t0, .inr (5, [.ref d0, .int w, .int h])), (d0, .inl (cI, 4096, .inl g)), (u0, .inr (5, [.ref e0, .int w2, .int h2])), (e0, .inl (cI, 4096, .inl gs)), (q_7, .inr (2, [.int ax, .int ay, .int aw, .int ah])), (q_9, .inr (2, [.int ox, .int oy, .int aw, .int ah]))] H := hP
      have hD : va_D A [(h0, .inr (8, [.ref s1, .ref s2, .ref s3, .ref s4, .ref s5, .ref s6, .int ds, va_rf sp, va_rf bt])), (s1, .inl (cO, 4, .inr (.inr (.inr (.inr f))))), (s2, .inr (1, [.ref bx, .int ik, .int wy, .int op])), (bx, .inr (0, [.int bx0, .int by0, .int bx1, .int by1])), (t0, .inr (5, [.ref d0, .int w, .int h])), (d0, .inl (cI, 4096, .inl g)), (u0, .inr (5, [.ref e0, .int w2, .int h2])), (e0, .inl (cI, 4096, .inl gs)), (q_7, .inr (2, [.int ax, .int ay, .int aw, .int ah])), (q_9, .inr (2, [.int ox, .int oy, .int aw, .int ah]))] := hD
      have hPc := hP.sub (ws' := [(h0, .inr (8, [.ref s1, .ref s2, .ref s3, .ref s4, .ref s5, .ref s6, .int ds, va_rf sp, va_rf bt])), (s1, .inl (cO, 4, .inr (.inr (.inr (.inr f))))), (s2, .inr (1, [.ref bx, .int ik, .int wy, .int op])), (bx, .inr (0, [.int bx0, .int by0, .int bx1, .int by1])), (t0, .inr (5, [.ref d0, .int w, .int h])), (d0, .inl (cI, 4096, .inl g)), (u0, .inr (5, [.ref e0, .int w2, .int h2])), (e0, .inl (cI, 4096, .inl gs)), (q_7, .inr (2, [.int ax, .int ay, .int aw, .int ah])), (q_9, .inr (2, [.int ox, .int oy, .int aw, .int ah]))]) [0, 1, 2, 3, 4, 5, 6, 7, 8, 9] rfl
      have hDc := hD.sub (ws' := [(h0, .inr (8, [.ref s1, .ref s2, .ref s3, .ref s4, .ref s5, .ref s6, .int ds, va_rf sp, va_rf bt])), (s1, .inl (cO, 4, .inr (.inr (.inr (.inr f))))), (s2, .inr (1, [.ref bx, .int ik, .int wy, .int op])), (bx, .inr (0, [.int bx0, .int by0, .int bx1, .int by1])), (t0, .inr (5, [.ref d0, .int w, .int h])), (d0, .inl (cI, 4096, .inl g)), (u0, .inr (5, [.ref e0, .int w2, .int h2])), (e0, .inl (cI, 4096, .inl gs)), (q_7, .inr (2, [.int ax, .int ay, .int aw, .int ah])), (q_9, .inr (2, [.int ox, .int oy, .int aw, .int ah]))]) [0, 1, 2, 3, 4, 5, 6, 7, 8, 9] (by decide) rfl
      have hKc := hK.sub (tys' := [(cO, .object "DotBench$Sheet"), (cI, .int)]) [0, 1] rfl
      have hFc := va_free (wc := [(h0, .inr (8, [.ref s1, .ref s2, .ref s3, .ref s4, .ref s5, .ref s6, .int ds, va_rf sp, va_rf bt])), (s1, .inl (cO, 4, .inr (.inr (.inr (.inr f))))), (s2, .inr (1, [.ref bx, .int ik, .int wy, .int op])), (bx, .inr (0, [.int bx0, .int by0, .int bx1, .int by1])), (t0, .inr (5, [.ref d0, .int w, .int h])), (d0, .inl (cI, 4096, .inl g)), (u0, .inr (5, [.ref e0, .int w2, .int h2])), (e0, .inl (cI, 4096, .inl gs)), (q_7, .inr (2, [.int ax, .int ay, .int aw, .int ah])), (q_9, .inr (2, [.int ox, .int oy, .int aw, .int ah]))]) hD hS hA [0, 1, 2, 3, 4, 5, 6, 7, 8, 9] rfl
      refine va_calli (va_runV (As := [.int k, .ref q_7, .int kq, .ref q_9]) (rest := []) ⟨hx, hb, hml, hown, hts⟩ (k_X8_carry_de l D H.size h0 s1 s2 s3 s4 s5 s6 ds sp bt f bx t0 d0 ik wy op bx0 by0 bx1 by1 w h g u0 e0 w2 h2 gs q_7 q_9 ax ay aw ah ox oy aw ah k kq cO cI (by first | assumption | omega | decide) (by first | assumption | omega | decide) (by first | assumption | omega | decide) (by first | assumption | omega | decide) (by first | assumption | omega | decide) (by first | assumption | omega | decide) (by first | assumption | omega | decide) (by first | assumption | omega | decide) (by first | assumption | omega | decide) (by first | assumption | omega | decide) (by first | assumption | omega | decide) (by first | assumption | omega | decide) (by first | assumption | omega | decide)) (cwV 4 hts (gV bw_318 bw_383 bw_384 bw_223 bw_382) rfl rfl rfl (by decide +kernel) ⟨(by rw [hR]; exact Nat.le_of_ble_eq_true rfl), (by rw [hR]; exact Nat.le_of_ble_eq_true rfl)⟩) ⟨cP_blind, va_recv hKc hPc (ci := 8) (q0 := 0) rfl rfl, cP_at hPc hKc hDc hN⟩ rfl rfl hl.1 rfl (lv_room (Nat.le_of_ble_eq_true rfl)) dX8_copy_56 ⟨(by rw [hR]; exact Nat.le_of_ble_eq_true rfl), (by rw [hR]; exact Nat.le_of_ble_eq_true rfl)⟩) hS (fun q _ h => hFc q h) hFc (fun r_11 u9 t9 H1 locs ht hvm hr_11 hB hz1 hk1 hS => ?_)
      try dsimp only at hr_11
      obtain ⟨hP1, hK1, hD1⟩ := hB
      rw [ht] at hP1
      obtain ⟨hP, hD⟩ := va_join (wr := []) (w1 := [(h0, .inr (8, [.ref s1, .ref s2, .ref s3, .ref s4, .ref s5, .ref s6, .int ds, va_rf sp, va_rf bt])), (s1, .inl (cO, 4, .inr (.inr (.inr (.inr f))))), (s2, .inr (1, [.ref bx, .int ik, .int wy, .int op])), (bx, .inr (0, [.int bx0, .int by0, .int bx1, .int by1])), (t0, .inr (5, [.ref d0, .int w, .int h])), (d0, .inl (cI, 4096, .inl ((gL (cyQ ax ay aw ah ox oy aw ah w2 h2 op gs) aw.toNatClampNeg ah.toNatClampNeg).foldl (layG w h bx0 by0 bx1 by1 wy) g))), (u0, .inr (5, [.ref e0, .int w2, .int h2])), (e0, .inl (cI, 4096, .inl gs))]) hP hD [0, 1, 2, 3, 4, 5, 6, 7, 8, 9] [] rfl rfl (by decide) (by decide) hk1 hFc hP1 hD1
      clear hz1 hk1 hFc hKc hDc hPc
      generalize H1 = H at hP hS ⊢
      have hP : va_P D vwCl [(h0, .inr (8, [.ref s1, .ref s2, .ref s3, .ref s4, .ref s5, .ref s6, .int ds, va_rf sp, va_rf bt])), (s1, .inl (cO, 4, .inr (.inr (.inr (.inr f))))), (s2, .inr (1, [.ref bx, .int ik, .int wy, .int op])), (bx, .inr (0, [.int bx0, .int by0, .int bx1, .int by1])), (t0, .inr (5, [.ref d0, .int w, .int h])), (d0, .inl (cI, 4096, .inl ((gL (cyQ ax ay aw ah ox oy aw ah w2 h2 op gs) aw.toNatClampNeg ah.toNatClampNeg).foldl (layG w h bx0 by0 bx1 by1 wy) g))), (u0, .inr (5, [.ref e0, .int w2, .int h2])), (e0, .inl (cI, 4096, .inl gs))] H := hP
      have hD : va_D A [(h0, .inr (8, [.ref s1, .ref s2, .ref s3, .ref s4, .ref s5, .ref s6, .int ds, va_rf sp, va_rf bt])), (s1, .inl (cO, 4, .inr (.inr (.inr (.inr f))))), (s2, .inr (1, [.ref bx, .int ik, .int wy, .int op])), (bx, .inr (0, [.int bx0, .int by0, .int bx1, .int by1])), (t0, .inr (5, [.ref d0, .int w, .int h])), (d0, .inl (cI, 4096, .inl ((gL (cyQ ax ay aw ah ox oy aw ah w2 h2 op gs) aw.toNatClampNeg ah.toNatClampNeg).foldl (layG w h bx0 by0 bx1 by1 wy) g))), (u0, .inr (5, [.ref e0, .int w2, .int h2])), (e0, .inl (cI, 4096, .inl gs))] := hD
      have hP9 := hP.sub (ws' := [(h0, .inr (8, [.ref s1, .ref s2, .ref s3, .ref s4, .ref s5, .ref s6, .int ds, va_rf sp, va_rf bt])), (s1, .inl (cO, 4, .inr (.inr (.inr (.inr f))))), (s2, .inr (1, [.ref bx, .int ik, .int wy, .int op])), (bx, .inr (0, [.int bx0, .int by0, .int bx1, .int by1])), (t0, .inr (5, [.ref d0, .int w, .int h])), (d0, .inl (cI, 4096, .inl ((gL (cyQ ax ay aw ah ox oy aw ah w2 h2 op gs) aw.toNatClampNeg ah.toNatClampNeg).foldl (layG w h bx0 by0 bx1 by1 wy) g))), (u0, .inr (5, [.ref e0, .int w2, .int h2])), (e0, .inl (cI, 4096, .inl gs))]) [0, 1, 2, 3, 4, 5, 6, 7] rfl
      have hD9 := hD.sub (ws' := [(h0, .inr (8, [.ref s1, .ref s2, .ref s3, .ref s4, .ref s5, .ref s6, .int ds, va_rf sp, va_rf bt])), (s1, .inl (cO, 4, .inr (.inr (.inr (.inr f))))), (s2, .inr (1, [.ref bx, .int ik, .int wy, .int op])), (bx, .inr (0, [.int bx0, .int by0, .int bx1, .int by1])), (t0, .inr (5, [.ref d0, .int w, .int h])), (d0, .inl (cI, 4096, .inl ((gL (cyQ ax ay aw ah ox oy aw ah w2 h2 op gs) aw.toNatClampNeg ah.toNatClampNeg).foldl (layG w h bx0 by0 bx1 by1 wy) g))), (u0, .inr (5, [.ref e0, .int w2, .int h2])), (e0, .inl (cI, 4096, .inl gs))]) [0, 1, 2, 3, 4, 5, 6, 7] (by decide) rfl
      have hK9 := hK.sub (tys' := [(cO, .object "DotBench$Sheet"), (cI, .int)]) [0, 1] rfl
      refine hQ _ _ _ _ _ ?_
      exact W.iret (v := r_11) hx hb hr (fun t ht hW => ⟨⟨r_11, (), rfl, hr_11, ⟨by rw [ht]; exact hP9, va_K.moved hW.alike hK9, hD9⟩⟩, hS.F ht⟩) hS.2.2 dX8_copy_59
    · skip
      have f_6 := bz0 hr_4 c_5
      exact False.elim (by omega)

set_option maxHeartbeats 4000000 in
set_option maxRecDepth 100000 in
theorem k_X8_copy_s1e (l : Launch) (D : va_G) (sz : Nat) (h0 s1 s2 s3 s4 s5 s6 : Nat) (ds : Int32) (sp : Option Nat) (f : Nat → Option Nat) (bx t0 d0 : Nat) (ik wy op : Int32) (bx0 by0 bx1 by1 : Int32) (w h : Int32) (g : Nat → Int32) (bq bd : Nat) (bw bh : Int32) (gb : Nat → Int32) (k ax ay aw ah kq ox oy : Int32) (cO : ClassId) (cI : ClassId) (hsz : (0 ≤ aw.toInt ∧ aw.toInt ≤ 64) ∧ (0 ≤ ah.toInt ∧ ah.toInt ≤ 64)) (hak : 0 ≤ k.toInt ∧ k.toInt ≤ 3) (haf : f k.toNatClampNeg = some t0) (hb0k : 0 ≤ kq.toInt ∧ kq.toInt ≤ 3) (hb0f : f kq.toNatClampNeg = some t0) (hne : k.toInt = kq.toInt) (hnr : (-200 ≤ ax.toInt ∧ ax.toInt ≤ 200) ∧ (-200 ≤ ay.toInt ∧ ay.toInt ≤ 200) ∧ (-200 ≤ ox.toInt ∧ ox.toInt ≤ 200) ∧ (-200 ≤ oy.toInt ∧ oy.toInt ≤ 200)) (hwy : 0 ≤ wy.toInt ∧ wy.toInt ≤ 12) (hw : w.toInt ≤ 64) (hh : h.toInt ≤ 64) : Met l yX8_copy (wB yX8_copy cX8_copy 9 (some .int)) ({ frames := 4, cells := 2, slots := 8, locals := 106 }) (cP D [(h0, .inr (8, [.ref s1, .ref s2, .ref s3, .ref s4, .ref s5, .ref s6, .int ds, va_rf sp, .ref bq])), (s1, .inl (cO, 4, .inr (.inr (.inr (.inr f))))), (s2, .inr (1, [.ref bx, .int ik, .int wy, .int op])), (bx, .inr (0, [.int bx0, .int by0, .int bx1, .int by1])), (t0, .inr (5, [.ref d0, .int w, .int h])), (d0, .inl (cI, 4096, .inl g)), (bq, .inr (5, [.ref bd, .int bw, .int bh])), (bd, .inl (cI, 4096, .inl gb))] [(cO, .object "DotBench$Sheet"), (cI, .int)] sz [.ref h0, .int k, .int ax, .int ay, .int aw, .int ah, .int kq, .int ox, .int oy]) (va_Qi (fun (r : Int32) (_ : Unit) => r = (gL (cyQ ax ay aw ah ox oy aw ah w h op g) aw.toNatClampNeg ah.toNatClampNeg).foldl (layT w h bx0 by0 bx1 by1) 0) (fun (_ : Unit) (t : State) => ∃ (g3 : Nat → Int32), cB D (va_A [(h0, .inr (8, [.ref s1, .ref s2, .ref s3, .ref s4, .ref s5, .ref s6, .int ds, va_rf sp, .ref bq])), (s1, .inl (cO, 4, .inr (.inr (.inr (.inr f))))), (s2, .inr (1, [.ref bx, .int ik, .int wy, .int op])), (bx, .inr (0, [.int bx0, .int by0, .int bx1, .int by1])), (t0, .inr (5, [.ref d0, .int w, .int h])), (d0, .inl (cI, 4096, .inl g)), (bq, .inr (5, [.ref bd, .int bw, .int bh])), (bd, .inl (cI, 4096, .inl gb))] sz) [(h0, .inr (8, [.ref s1, .ref s2, .ref s3, .ref s4, .ref s5, .ref s6, .int ds, va_rf sp, .ref bq])), (s1, .inl (cO, 4, .inr (.inr (.inr (.inr f))))), (s2, .inr (1, [.ref bx, .int ik, .int wy, .int op])), (bx, .inr (0, [.int bx0, .int by0, .int bx1, .int by1])), (t0, .inr (5, [.ref d0, .int w, .int h])), (d0, .inl (cI, 4096, .inl ((gL (cyQ ax ay aw ah ox oy aw ah w h op g) aw.toNatClampNeg ah.toNatClampNeg).foldl (layG w h bx0 by0 bx1 by1 wy) g))), (bq, .inr (5, [.ref bd, .int w, .int h])), (bd, .inl (cI, 4096, .inl g3))] [(cO, .object "DotBench$Sheet"), (cI, .int)] t) (va_A [(h0, .inr (8, [.ref s1, .ref s2, .ref s3, .ref s4, .ref s5, .ref s6, .int ds, va_rf sp, .ref bq])), (s1, .inl (cO, 4, .inr (.inr (.inr (.inr f))))), (s2, .inr (1, [.ref bx, .int ik, .int wy, .int op])), (bx, .inr (0, [.int bx0, .int by0, .int bx1, .int by1])), (t0, .inr (5, [.ref d0, .int w, .int h])), (d0, .inl (cI, 4096, .inl g)), (bq, .inr (5, [.ref bd, .int bw, .int bh])), (bd, .inl (cI, 4096, .inl gb))] sz)) 2 8 (va_A [(h0, .inr (8, [.ref s1, .ref s2, .ref s3, .ref s4, .ref s5, .ref s6, .int ds, va_rf sp, .ref bq])), (s1, .inl (cO, 4, .inr (.inr (.inr (.inr f))))), (s2, .inr (1, [.ref bx, .int ik, .int wy, .int op])), (bx, .inr (0, [.int bx0, .int by0, .int bx1, .int by1])), (t0, .inr (5, [.ref d0, .int w, .int h])), (d0, .inl (cI, 4096, .inl g)), (bq, .inr (5, [.ref bd, .int bw, .int bh])), (bd, .inl (cI, 4096, .inl gb))] sz) := by
  refine Met.ofW (cc := cX8_copy) (maxL := 9) (ret := (some .int)) (by decide) rfl ?_
  intro p e s m args below meth c s₁ B hml hv
  obtain ⟨rfl, hsz, hP, hK, hD0, hN⟩ := hv
  have hx := B.exec
  have hb := B.bytes
  have hr := B.returns
  have hts0 := atoms_spec (ws := (wB yX8_copy cX8_copy 9 (some .int))) B.pre
  have hts : ∀ w ∈ bigW, w.before _ s = true := fun w h => hts0 w (List.mem_cons_of_mem _ h)
  have hown : s.vm.findClass RX8 = some m.cls := findClass_of_methodNamed B.named
  have hlocks := B.notSynchronized
  subst hsz
  have hD := hD0.self (sz := s.heap.size)
  generalize hAe : va_A [(h0, .inr (8, [.ref s1, .ref s2, .ref s3, .ref s4, .ref s5, .ref s6, .int ds, va_rf sp, .ref bq])), (s1, .inl (cO, 4, .inr (.inr (.inr (.inr f))))), (s2, .inr (1, [.ref bx, .int ik, .int wy, .int op])), (bx, .inr (0, [.int bx0, .int by0, .int bx1, .int by1])), (t0, .inr (5, [.ref d0, .int w, .int h])), (d0, .inl (cI, 4096, .inl g)), (bq, .inr (5, [.ref bd, .int bw, .int bh])), (bd, .inl (cI, 4096, .inl gb))] s.heap.size = A at hD ⊢
  have hA : ∀ q : Nat, s.heap.size ≤ q → A q := fun q h => by rw [← hAe]; exact Or.inr h
  have hS : va_S A s.heap s.heap [] := va_S.rf
  have hP : va_P D vwCl [(h0, .inr (8, [.ref s1, .ref s2, .ref s3, .ref s4, .ref s5, .ref s6, .int ds, va_rf sp, .ref bq])), (s1, .inl (cO, 4, .inr (.inr (.inr (.inr f))))), (s2, .inr (1, [.ref bx, .int ik, .int wy, .int op])), (bx, .inr (0, [.int bx0, .int by0, .int bx1, .int by1])), (t0, .inr (5, [.ref d0, .int w, .int h])), (d0, .inl (cI, 4096, .inl g)), (bq, .inr (5, [.ref bd, .int bw, .int bh])), (bd, .inl (cI, 4096, .inl gb))] s.heap := hP
  have hl := lv_entry ([.ref h0, .int k, .int ax, .int ay, .int aw, .int ah, .int kq, .int ox, .int oy]) (n := 9) (Nat.le_of_ble_eq_true rfl)
  rw [lg_entry_eq]
  generalize (lg_sl ([.ref h0, .int k, .int ax, .int ay, .int aw, .int ah, .int kq, .int ox, .int oy]) ++ List.replicate (9 - (lg_sl ([.ref h0, .int k, .int ax, .int ay, .int aw, .int ah, .int kq, .int ox, .int oy])).length) Slot.unset).toArray = ls at hl ⊢
  have hl : lv_has ls 9 [(0, .ref h0), (1, .int k), (2, .int ax), (3, .int ay), (4, .int aw), (5, .int ah), (6, .int kq), (7, .int ox), (8, .int oy)] := hl
  clear hts0 hD0 hAe
  refine my_abs (fun R Q hR hQ => ?_)
  refine lv_iload hx hb dX8_copy_0 (lv_at hl 4 rfl) ?_
  refine lv_iconst (v := 0) hx hb dX8_copy_2 (by decide) ?_
  refine lv_bipush (v := 64) hx hb dX8_copy_3 (by decide) ?_
  have hPc := hP.sub (ws' := []) [] rfl
  have hDc := hD.sub (ws' := []) [] (by decide) rfl
  have hKc := hK.sub (tys' := []) [] rfl
  have hFc := va_free (wc := []) hD hS hA [] rfl
  refine va_calli (va_runS (As := [.int aw, .int 0, .int 64]) (rest := []) ⟨hx, hb, hml, hown, hts⟩ (k_X8_isWithin l D s.heap.size aw 0 64 0 64 (by decide) (by decide)) (va_cwS 3 hts (gS bw_256 bw_349 bw_223 bw_348) rfl rfl rfl (by decide +kernel) ⟨(by rw [hR]; exact Nat.le_of_ble_eq_true rfl), (by rw [hR]; exact Nat.le_of_ble_eq_true rfl)⟩) ⟨cP_blind, cP_at hPc hKc hDc hN⟩ rfl rfl hl.1 rfl (lv_room (Nat.le_of_ble_eq_true rfl)) dX8_copy_5 ⟨(by rw [hR]; exact Nat.le_of_ble_eq_true rfl), (by rw [hR]; exact Nat.le_of_ble_eq_true rfl)⟩) hS (fun q _ h => hFc q h) hFc (fun r_1 u9 t9 H1 locs ht hvm hr_1 hB hz1 hk1 hS => ?_)
  try dsimp only at hr_1
  have hP1 : va_P D vwCl [] H1 := vP_nil
  have hD1 : va_D (va_A [] s.heap.size) [] := vD_nil
  obtain ⟨hP, hD⟩ := va_join (wr := [(h0, .inr (8, [.ref s1, .ref s2, .ref s3, .ref s4, .ref s5, .ref s6, .int ds, va_rf sp, .ref bq])), (s1, .inl (cO, 4, .inr (.inr (.inr (.inr f))))), (s2, .inr (1, [.ref bx, .int ik, .int wy, .int op])), (bx, .inr (0, [.int bx0, .int by0, .int bx1, .int by1])), (t0, .inr (5, [.ref d0, .int w, .int h])), (d0, .inl (cI, 4096, .inl g)), (bq, .inr (5, [.ref bd, .int bw, .int bh])), (bd, .inl (cI, 4096, .inl gb))]) (w1 := []) hP hD [] [0, 1, 2, 3, 4, 5, 6, 7] rfl rfl (by decide) (by decide) hk1 hFc hP1 hD1
  clear hz1 hk1 hFc hKc hDc hPc
  generalize H1 = H at hP hS ⊢
  have hP : va_P D vwCl [(h0, .inr (8, [.ref s1, .ref s2, .ref s3, .ref s4, .ref s5, .ref s6, .int ds, va_rf sp, .ref bq])), (s1, .inl (cO, 4, .inr (.inr (.inr (.inr f))))), (s2, .inr (1, [.ref bx, .int ik, .int wy, .int op])), (bx, .inr (0, [.int bx0, .int by0, .int bx1, .int by1])), (t0, .inr (5, [.ref d0, .int w, .int h])), (d0, .inl (cI, 4096, .inl g)), (bq, .inr (5, [.ref bd, .int bw, .int bh])), (bd, .inl (cI, 4096, .inl gb))] H := hP
  have hD : va_D A [(h0, .inr (8, [.ref s1, .ref s2, .ref s3, .ref s4, .ref s5, .ref s6, .int ds, va_rf sp, .ref bq])), (s1, .inl (cO, 4, .inr (.inr (.inr (.inr f))))), (s2, .inr (1, [.ref bx, .int ik, .int wy, .int op])), (bx, .inr (0, [.int bx0, .int by0, .int bx1, .int by1])), (t0, .inr (5, [.ref d0, .int w, .int h])), (d0, .inl (cI, 4096, .inl g)), (bq, .inr (5, [.ref bd, .int bw, .int bh])), (bd, .inl (cI, 4096, .inl gb))] := hD
  refine lv_if_eq (tgt := 22) hx hb dX8_copy_8 (by decide) (fun c_2 => ?_) (fun c_2 => ?_)
  · skip
    have f_3 := bz0 hr_1 c_2
    exact False.elim (by omega)
  · skip
    have f_3 := bz1 hr_1 c_2
    refine lv_iload hx hb dX8_copy_11 (lv_at hl 5 rfl) ?_
    refine lv_iconst (v := 0) hx hb dX8_copy_13 (by decide) ?_
    refine lv_bipush (v := 64) hx hb dX8_copy_14 (by decide) ?_
    have hPc := hP.sub (ws' := []) [] rfl
    have hDc := hD.sub (ws' := []) [] (by decide) rfl
    have hKc := hK.sub (tys' := []) [] rfl
    have hFc := va_free (wc := []) hD hS hA [] rfl
    refine va_calli (va_runS (As := [.int ah, .int 0, .int 64]) (rest := []) ⟨hx, hb, hml, hown, hts⟩ (k_X8_isWithin l D H.size ah 0 64 0 64 (by decide) (by decide)) (va_cwS 3 hts (gS bw_256 bw_349 bw_223 bw_348) rfl rfl rfl (by decide +kernel) ⟨(by rw [hR]; exact Nat.le_of_ble_eq_true rfl), (by rw [hR]; exact Nat.le_of_ble_eq_true rfl)⟩) ⟨cP_blind, cP_at hPc hKc hDc hN⟩ rfl rfl hl.1 rfl (lv_room (Nat.le_of_ble_eq_true rfl)) dX8_copy_16 ⟨(by rw [hR]; exact Nat.le_of_ble_eq_true rfl), (by rw [hR]; exact Nat.le_of_ble_eq_true rfl)⟩) hS (fun q _ h => hFc q h) hFc (fun r_4 u9 t9 H1 locs ht hvm hr_4 hB hz1 hk1 hS => ?_)
    try dsimp only at hr_4
    have hP1 : va_P D vwCl [] H1 := vP_nil
    have hD1 : va_D (va_A [] H.size) [] := vD_nil
    obtain ⟨hP, hD⟩ := va_join (wr := [(h0, .inr (8, [.ref s1, .ref s2, .ref s3, .ref s4, .ref s5, .ref s6, .int ds, va_rf sp, .ref bq])), (s1, .inl (cO, 4, .inr (.inr (.inr (.inr f))))), (s2, .inr (1, [.ref bx, .int ik, .int wy, .int op])), (bx, .inr (0, [.int bx0, .int by0, .int bx1, .int by1])), (t0, .inr (5, [.ref d0, .int w, .int h])), (d0, .inl (cI, 4096, .inl g)), (bq, .inr (5, [.ref bd, .int bw, .int bh])), (bd, .inl (cI, 4096, .inl gb))]) (w1 := []) hP hD [] [0, 1, 2, 3, 4, 5, 6, 7] rfl rfl (by decide) (by decide) hk1 hFc hP1 hD1
    clear hz1 hk1 hFc hKc hDc hPc
    generalize H1 = H at hP hS ⊢
    have hP : va_P D vwCl [(h0, .inr (8, [.ref s1, .ref s2, .ref s3, .ref s4, .ref s5, .ref s6, .int ds, va_rf sp, .ref bq])), (s1, .inl (cO, 4, .inr (.inr (.inr (.inr f))))), (s2, .inr (1, [.ref bx, .int ik, .int wy, .int op])), (bx, .inr (0, [.int bx0, .int by0, .int bx1, .int by1])), (t0, .inr (5, [.ref d0, .int w, .int h])), (d0, .inl (cI, 4096, .inl g)), (bq, .inr (5, [.ref bd, .int bw, .int bh])), (bd, .inl (cI, 4096, .inl gb))] H := hP
    have hD : va_D A [(h0, .inr (8, [.ref s1, .ref s2, .ref s3, .ref s4, .ref s5, .ref s6, .int ds, va_rf sp, .ref bq])), (s1, .inl (cO, 4, .inr (.inr (.inr (.inr f))))), (s2, .inr (1, [.ref bx, .int ik, .int wy, .int op])), (bx, .inr (0, [.int bx0, .int by0, .int bx1, .int by1])), (t0, .inr (5, [.ref d0, .int w, .int h])), (d0, .inl (cI, 4096, .inl g)), (bq, .inr (5, [.ref bd, .int bw, .int bh])), (bd, .inl (cI, 4096, .inl gb))] := hD
    refine lv_if_ne (tgt := 24) hx hb dX8_copy_19 (by decide) (fun c_5 => ?_) (fun c_5 => ?_)
    · skip
      have f_6 := bz1 hr_4 c_5
      refine lv_aload_n hx hb dX8_copy_24 rfl (lv_at hl 0 rfl) ?_
      refine lv_iload_n hx hb dX8_copy_25 rfl (lv_at hl 1 rfl) ?_
      refine va_new (ci := 2) (fs := [.int 0, .int 0, .int 0, .int 0]) (C := RX2) (T := TX2) (N := 4) hx hb hts hi_X2 tyX2 tyX2_ok hown (hts _ bw_316) (hts _ bw_56) (hts _ bw_55) hK hP hD hS hA rfl z_X2 (by rw [hR]; exact Nat.le_of_ble_eq_true rfl) (by rw [hR]; exact Nat.le_of_ble_eq_true rfl) dX8_copy_26 (fun q_7 H hP hD hS => ?_)
      have hP : va_P D vwCl [(h0, .inr (8, [.ref s1, .ref s2, .ref s3, .ref s4, .ref s5, .ref s6, .int ds, va_rf sp, .ref bq])), (s1, .inl (cO, 4, .inr (.inr (.inr (.inr f))))), (s2, .inr (1, [.ref bx, .int ik, .int wy, .int op])), (bx, .inr (0, [.int bx0, .int by0, .int bx1, .int by1])), (t0, .inr (5, [.ref d0, .int w, .int h])), (d0, .inl (cI, 4096, .inl g)), (bq, .inr (5, [.ref bd, .int bw, .int bh])), (bd, .inl (cI, 4096, .inl gb)), (q_7, .inr (2, [.int 0, .int 0, .int 0, .int 0]))] H := hP
      have hD : va_D A [(h0, .inr (8, [.ref s1, .ref s2, .ref s3, .ref s4, .ref s5, .ref s6, .int ds, va_rf sp, .ref bq])), (s1, .inl (cO, 4, .inr (.inr (.inr (.inr f))))), (s2, .inr (1, [.ref bx, .int ik, .int wy, .int op])), (bx, .inr (0, [.int bx0, .int by0, .int bx1, .int by1])), (t0, .inr (5, [.ref d0, .int w, .int h])), (d0, .inl (cI, 4096, .inl g)), (bq, .inr (5, [.ref bd, .int bw, .int bh])), (bd, .inl (cI, 4096, .inl gb)), (q_7, .inr (2, [.int 0, .int 0, .int 0, .int 0]))] := hD
      refine W.widen (k := 1) (n := 4) (by omega) (by omega) ?_
      refine lv_dup hx hb dX8_copy_29 rfl ?_
      refine lv_iload_n hx hb dX8_copy_30 rfl (lv_at hl 2 rfl) ?_
      refine lv_iload_n hx hb dX8_copy_31 rfl (lv_at hl 3 rfl) ?_
      refine lv_iload hx hb dX8_copy_32 (lv_at hl 4 rfl) ?_
      refine lv_iload hx hb dX8_copy_34 (lv_at hl 5 rfl) ?_
      have hPc := hP.sub (ws' := [(q_7, .inr (2, [.int 0, .int 0, .int 0, .int 0]))]) [8] rfl
      have hDc := hD.sub (ws' := [(q_7, .inr (2, [.int 0, .int 0, .int 0, .int 0]))]) [8] (by decide) rfl
      have hKc := hK.sub (tys' := []) [] rfl
      have hFc := va_free (wc := [(q_7, .inr (2, [.int 0, .int 0, .int 0, .int 0]))]) hD hS hA [8] rfl
      refine va_callv (va_runI (As := [.int ax, .int ay, .int aw, .int ah]) (rest := [.ref q_7, .int k, .ref h0]) ⟨hx, hb, hml, hown, hts⟩ (k_X2_init l D H.size q_7 ax ay aw ah) (cwI 4 hts (gI bw_57) rfl rfl rfl (hts _ bw_55) (hts _ bw_317) (hts _ bw_58) rfl (by decide +kernel) ⟨(by rw [hR]; exact Nat.le_of_ble_eq_true rfl), (by rw [hR]; exact Nat.le_of_ble_eq_true rfl)⟩) ⟨cP_blind, cP_at hPc hKc hDc hN⟩ rfl rfl hl.1 rfl (lv_room (Nat.le_of_ble_eq_true rfl)) dX8_copy_36 ⟨(by rw [hR]; exact Nat.le_of_ble_eq_true rfl), (by rw [hR]; exact Nat.le_of_ble_eq_true rfl)⟩) hS (fun q _ h => hFc q h) hFc (fun u9 t9 H1 locs ht hvm hr_8 hB hz1 hk1 hS => ?_)
      try dsimp only at hr_8
      obtain ⟨hP1, hK1, hD1⟩ := hB
      rw [ht] at hP1
      obtain ⟨hP, hD⟩ := va_join (wr := [(h0, .inr (8, [.ref s1, .ref s2, .ref s3, .ref s4, .ref s5, .ref s6, .int ds, va_rf sp, .ref bq])), (s1, .inl (cO, 4, .inr (.inr (.inr (.inr f))))), (s2, .inr (1, [.ref bx, .int ik, .int wy, .int op])), (bx, .inr (0, [.int bx0, .int by0, .int bx1, .int by1])), (t0, .inr (5, [.ref d0, .int w, .int h])), (d0, .inl (cI, 4096, .inl g)), (bq, .inr (5, [.ref bd, .int bw, .int bh])), (bd, .inl (cI, 4096, .inl gb))]) (w1 := [(q_7, .inr (2, [.int ax, .int ay, .int aw, .int ah]))]) hP hD [8] [0, 1, 2, 3, 4, 5, 6, 7] rfl rfl (by decide) (by decide) hk1 hFc hP1 hD1
      clear hz1 hk1 hFc hKc hDc hPc
      generalize H1 = H at hP hS ⊢
      have hP : va_P D vwCl [(h0, .inr (8, [.ref s1, .ref s2, .ref s3, .ref s4, .ref s5, .ref s6, .int ds, va_rf sp, .ref bq])), (s1, .inl (cO, 4, .inr (.inr (.inr (.inr f))))), (s2, .inr (1, [.ref bx, .int ik, .int wy, .int op])), (bx, .inr (0, [.int bx0, .int by0, .int bx1, .int by1])), (t0, .inr (5, [.ref d0, .int w, .int h])), (d0, .inl (cI, 4096, .inl g)), (bq, .inr (5, [.ref bd, .int bw, .int bh])), (bd, .inl (cI, 4096, .inl gb)), (q_7, .inr (2, [.int ax, .int ay, .int aw, .int ah]))] H := hP
      have hD : va_D A [(h0, .inr (8, [.ref s1, .ref s2, .ref s3, .ref s4, .ref s5, .ref s6, .int ds, va_rf sp, .ref bq])), (s1, .inl (cO, 4, .inr (.inr (.inr (.inr f))))), (s2, .inr (1, [.ref bx, .int ik, .int wy, .int op])), (bx, .inr (0, [.int bx0, .int by0, .int bx1, .int by1])), (t0, .inr (5, [.ref d0, .int w, .int h])), (d0, .inl (cI, 4096, .inl g)), (bq, .inr (5, [.ref bd, .int bw, .int bh])), (bd, .inl (cI, 4096, .inl gb)), (q_7, .inr (2, [.int ax, .int ay, .int aw, .int ah]))] := hD
      refine lv_iload hx hb dX8_copy_39 (lv_at hl 6 rfl) ?_
      refine va_new (ci := 2) (fs := [.int 0, .int 0, .int 0, .int 0]) (C := RX2) (T := TX2) (N := 4) hx hb hts hi_X2 tyX2 tyX2_ok hown (hts _ bw_316) (hts _ bw_56) (hts _ bw_55) hK hP hD hS hA rfl z_X2 (by rw [hR]; exact Nat.le_of_ble_eq_true rfl) (by rw [hR]; exact Nat.le_of_ble_eq_true rfl) dX8_copy_41 (fun q_9 H hP hD hS => ?_)
      have hP : va_P D vwCl [(h0, .inr (8, [.ref s1, .ref s2, .ref s3, .ref s4, .ref s5, .ref s6, .int ds, va_rf sp, .ref bq])), (s1, .inl (cO, 4, .inr (.inr (.inr (.inr f))))), (s2, .inr (1, [.ref bx, .int ik, .int wy, .int op])), (bx, .inr (0, [.int bx0, .int by0, .int bx1, .int by1])), (t0, .inr (5, [.ref d0, .int w, .int h])), (d0, .inl (cI, 4096, .inl g)), (bq, .inr (5, [.ref bd, .int bw, .int bh])), (bd, .inl (cI, 4096, .inl gb)), (q_7, .inr (2, [.int ax, .int ay, .int aw, .int ah])), (q_9, .inr (2, [.int 0, .int 0, .int 0, .int 0]))] H := hP
      have hD : va_D A [(h0, .inr (8, [.ref s1, .ref s2, .ref s3, .ref s4, .ref s5, .ref s6, .int ds, va_rf sp, .ref bq])), (s1, .inl (cO, 4, .inr (.inr (.inr (.inr f))))), (s2, .inr (1, [.ref bx, .int ik, .int wy, .int op])), (bx, .inr (0, [.int bx0, .int by0, .int bx1, .int by1])), (t0, .inr (5, [.ref d0, .int w, .int h])), (d0, .inl (cI, 4096, .inl g)), (bq, .inr (5, [.ref bd, .int bw, .int bh])), (bd, .inl (cI, 4096, .inl gb)), (q_7, .inr (2, [.int ax, .int ay, .int aw, .int ah])), (q_9, .inr (2, [.int 0, .int 0, .int 0, .int 0]))] := hD
      refine W.widen (k := 2) (n := 8) (by omega) (by omega) ?_
      refine lv_dup hx hb dX8_copy_44 rfl ?_
      refine lv_iload hx hb dX8_copy_45 (lv_at hl 7 rfl) ?_
      refine lv_iload hx hb dX8_copy_47 (lv_at hl 8 rfl) ?_
      refine lv_iload hx hb dX8_copy_49 (lv_at hl 4 rfl) ?_
      refine lv_iload hx hb dX8_copy_51 (lv_at hl 5 rfl) ?_
      have hPc := hP.sub (ws' := [(q_9, .inr (2, [.int 0, .int 0, .int 0, .int 0]))]) [9] rfl
      have hDc := hD.sub (ws' := [(q_9, .inr (2, [.int 0, .int 0, .int 0, .int 0]))]) [9] (by decide) rfl
      have hKc := hK.sub (tys' := []) [] rfl
      have hFc := va_free (wc := [(q_9, .inr (2, [.int 0, .int 0, .int 0, .int 0]))]) hD hS hA [9] rfl
      refine va_callv (va_runI (As := [.int ox, .int oy, .int aw, .int ah]) (rest := [.ref q_9, .int kq, .ref q_7, .int k, .ref h0]) ⟨hx, hb, hml, hown, hts⟩ (k_X2_init l D H.size q_9 ox oy aw ah) (cwI 4 hts (gI bw_57) rfl rfl rfl (hts _ bw_55) (hts _ bw_317) (hts _ bw_58) rfl (by decide +kernel) ⟨(by rw [hR]; exact Nat.le_of_ble_eq_true rfl), (by rw [hR]; exact Nat.le_of_ble_eq_true rfl)⟩) ⟨cP_blind, cP_at hPc hKc hDc hN⟩ rfl rfl hl.1 rfl (lv_room (Nat.le_of_ble_eq_true rfl)) dX8_copy_53 ⟨(by rw [hR]; exact Nat.le_of_ble_eq_true rfl), (by rw [hR]; exact Nat.le_of_ble_eq_true rfl)⟩) hS (fun q _ h => hFc q h) hFc (fun u9 t9 H1 locs ht hvm hr_10 hB hz1 hk1 hS => ?_)
      try dsimp only at hr_10
      obtain ⟨hP1, hK1, hD1⟩ := hB
      rw [ht] at hP1
      obtain ⟨hP, hD⟩ := va_join (wr := [(h0, .inr (8, [.ref s1, .ref s2, .ref s3, .ref s4, .ref s5, .ref s6, .int ds, va_rf sp, .ref bq])), (s1, .inl (cO, 4, .inr (.inr (.inr (.inr f))))), (s2, .inr (1, [.ref bx, .int ik, .int wy, .int op])), (bx, .inr (0, [.int bx0, .int by0, .int bx1, .int by1])), (t0, .inr (5, [.ref d0, .int w, .int h])), (d0, .inl (cI, 4096, .inl g)), (bq, .inr (5, [.ref bd, .int bw, .int bh])), (bd, .inl (cI, 4096, .inl gb)), (q_7, .inr (2, [.int ax, .int ay, .int aw, .int ah]))]) (w1 := [(q_9, .inr (2, [.int ox, .int oy, .int aw, .int ah]))]) hP hD [9] [0, 1, 2, 3, 4, 5, 6, 7, 8] rfl rfl (by decide) (by decide) hk1 hFc hP1 hD1
      clear hz1 hk1 hFc hKc hDc hPc
      generalize H1 = H at hP hS ⊢
      have hP : va_P D vwCl [(h0, .inr (8, [.ref s1, .ref s2, .ref s3, .ref s4, .ref s5, .ref s6, .int ds, va_rf sp, .ref bq])), (s1, .inl (cO, 4, .inr (.inr (.inr (.inr f))))), (s2, .inr (1, [.ref bx, .int ik, .int wy, .int op])), (bx, .inr (0, [.int bx0, .int by0, .int bx1, .int by1])), (t0, .inr (5, [.ref d0, .int w, .int h])), (d0, .inl (cI, 4096, .inl g)), (bq, .inr (5, [.ref bd, .int bw, .int bh])), (bd, .inl (cI, 4096, .inl gb)), (q_7, .inr (2, [.int ax, .int ay, .int aw, .int ah])), (q_9, .inr (2, [.int ox, .int oy, .int aw, .int ah]))] H := hP
      have hD : va_D A [(h0, .inr (8, [.ref s1, .ref s2, .ref s3, .ref s4, .ref s5, .ref s6, .int ds, va_rf sp, .ref bq])), (s1, .inl (cO, 4, .inr (.inr (.inr (.inr f))))), (s2, .inr (1, [.ref bx, .int ik, .int wy, .int op])), (bx, .inr (0, [.int bx0, .int by0, .int bx1, .int by1])), (t0, .inr (5, [.ref d0, .int w, .int h])), (d0, .inl (cI, 4096, .inl g)), (bq, .inr (5, [.ref bd, .int bw, .int bh])), (bd, .inl (cI, 4096, .inl gb)), (q_7, .inr (2, [.int ax, .int ay, .int aw, .int ah])), (q_9, .inr (2, [.int ox, .int oy, .int aw, .int ah]))] := hD
      have hPc := hP.sub (ws' := [(h0, .inr (8, [.ref s1, .ref s2, .ref s3, .ref s4, .ref s5, .ref s6, .int ds, va_rf sp, .ref bq])), (s1, .inl (cO, 4, .inr (.inr (.inr (.inr f))))), (s2, .inr (1, [.ref bx, .int ik, .int wy, .int op])), (bx, .inr (0, [.int bx0, .int by0, .int bx1, .int by1])), (t0, .inr (5, [.ref d0, .int w, .int h])), (d0, .inl (cI, 4096, .inl g)), (bq, .inr (5, [.ref bd, .int bw, .int bh])), (bd, .inl (cI, 4096, .inl gb)), (q_7, .inr (2, [.int ax, .int ay, .int aw, .int ah])), (q_9, .inr (2, [.int ox, .int oy, .int aw, .int ah]))]) [0, 1, 2, 3, 4, 5, 6, 7, 8, 9] rfl
      have hDc := hD.sub (ws' := [(h0, .inr (8, [.ref s1, .ref s2, .ref s3, .ref s4, .ref s5, .ref s6, .int ds, va_rf sp, .ref bq])), (s1, .inl (cO, 4, .inr (.inr (.inr (.inr f))))), (s2, .inr (1, [.ref bx, .int ik, .int wy, .int op])), (bx, .inr (0, [.int bx0, .int by0, .int bx1, .int by1])), (t0, .inr (5, [.ref d0, .int w, .int h])), (d0, .inl (cI, 4096, .inl g)), (bq, .inr (5, [.ref bd, .int bw, .int bh])), (bd, .inl (cI, 4096, .inl gb)), (q_7, .inr (2, [.int ax, .int ay, .int aw, .int ah])), (q_9, .inr (2, [.int ox, .int oy, .int aw, .int ah]))]) [0, 1, 2, 3, 4, 5, 6, 7, 8, 9] (by decide) rfl
      have hKc := hK.sub (tys' := [(cO, .object "DotBench$Sheet"), (cI, .int)]) [0, 1] rfl
      have hFc := va_free (wc := [(h0, .inr (8, [.ref s1, .ref s2, .ref s3, .ref s4, .ref s5, .ref s6, .int ds, va_rf sp, .ref bq])), (s1, .inl (cO, 4, .inr (.inr (.inr (.inr f))))), (s2, .inr (1, [.ref bx, .int ik, .int wy, .int op])), (bx, .inr (0, [.int bx0, .int by0, .int bx1, .int by1])), (t0, .inr (5, [.ref d0, .int w, .int h])), (d0, .inl (cI, 4096, .inl g)), (bq, .inr (5, [.ref bd, .int bw, .int bh])), (bd, .inl (cI, 4096, .inl gb)), (q_7, .inr (2, [.int ax, .int ay, .int aw, .int ah])), (q_9, .inr (2, [.int ox, .int oy, .int aw, .int ah]))]) hD hS hA [0, 1, 2, 3, 4, 5, 6, 7, 8, 9] rfl
      refine va_calli (va_runV (As := [.int k, .ref q_7, .int kq, .ref q_9]) (rest := []) ⟨hx, hb, hml, hown, hts⟩ (k_X8_carry_s1e l D H.size h0 s1 s2 s3 s4 s5 s6 ds sp f bx t0 d0 ik wy op bx0 by0 bx1 by1 w h g bq bd bw bh gb q_7 q_9 ax ay aw ah ox oy aw ah k kq cO cI (by first | assumption | omega | decide) (by first | assumption | omega | decide) (by first | assumption | omega | decide) (by first | assumption | omega | decide) (by first | assumption | omega | decide) (by first | assumption | omega | decide) (by first | assumption | omega | decide) (by first | assumption | omega | decide) (by first | assumption | omega | decide) (by first | assumption | omega | decide) (by first | assumption | omega | decide)) (cwV 4 hts (gV bw_318 bw_383 bw_384 bw_223 bw_382) rfl rfl rfl (by decide +kernel) ⟨(by rw [hR]; exact Nat.le_of_ble_eq_true rfl), (by rw [hR]; exact Nat.le_of_ble_eq_true rfl)⟩) ⟨cP_blind, va_recv hKc hPc (ci := 8) (q0 := 0) rfl rfl, cP_at hPc hKc hDc hN⟩ rfl rfl hl.1 rfl (lv_room (Nat.le_of_ble_eq_true rfl)) dX8_copy_56 ⟨(by rw [hR]; exact Nat.le_of_ble_eq_true rfl), (by rw [hR]; exact Nat.le_of_ble_eq_true rfl)⟩) hS (fun q _ h => hFc q h) hFc (fun r_11 u9 t9 H1 locs ht hvm hr_11 hB hz1 hk1 hS => ?_)
      try dsimp only at hr_11
      obtain ⟨g_12, hP1, hK1, hD1⟩ := hB
      rw [ht] at hP1
      obtain ⟨hP, hD⟩ := va_join (wr := []) (w1 := [(h0, .inr (8, [.ref s1, .ref s2, .ref s3, .ref s4, .ref s5, .ref s6, .int ds, va_rf sp, .ref bq])), (s1, .inl (cO, 4, .inr (.inr (.inr (.inr f))))), (s2, .inr (1, [.ref bx, .int ik, .int wy, .int op])), (bx, .inr (0, [.int bx0, .int by0, .int bx1, .int by1])), (t0, .inr (5, [.ref d0, .int w, .int h])), (d0, .inl (cI, 4096, .inl ((gL (cyQ ax ay aw ah ox oy aw ah w h op g) aw.toNatClampNeg ah.toNatClampNeg).foldl (layG w h bx0 by0 bx1 by1 wy) g))), (bq, .inr (5, [.ref bd, .int w, .int h])), (bd, .inl (cI, 4096, .inl g_12))]) hP hD [0, 1, 2, 3, 4, 5, 6, 7, 8, 9] [] rfl rfl (by decide) (by decide) hk1 hFc hP1 hD1
      clear hz1 hk1 hFc hKc hDc hPc
      generalize H1 = H at hP hS ⊢
      have hP : va_P D vwCl [(h0, .inr (8, [.ref s1, .ref s2, .ref s3, .ref s4, .ref s5, .ref s6, .int ds, va_rf sp, .ref bq])), (s1, .inl (cO, 4, .inr (.inr (.inr (.inr f))))), (s2, .inr (1, [.ref bx, .int ik, .int wy, .int op])), (bx, .inr (0, [.int bx0, .int by0, .int bx1, .int by1])), (t0, .inr (5, [.ref d0, .int w, .int h])), (d0, .inl (cI, 4096, .inl ((gL (cyQ ax ay aw ah ox oy aw ah w h op g) aw.toNatClampNeg ah.toNatClampNeg).foldl (layG w h bx0 by0 bx1 by1 wy) g))), (bq, .inr (5, [.ref bd, .int w, .int h])), (bd, .inl (cI, 4096, .inl g_12))] H := hP
      have hD : va_D A [(h0, .inr (8, [.ref s1, .ref s2, .ref s3, .ref s4, .ref s5, .ref s6, .int ds, va_rf sp, .ref bq])), (s1, .inl (cO, 4, .inr (.inr (.inr (.inr f))))), (s2, .inr (1, [.ref bx, .int ik, .int wy, .int op])), (bx, .inr (0, [.int bx0, .int by0, .int bx1, .int by1])), (t0, .inr (5, [.ref d0, .int w, .int h])), (d0, .inl (cI, 4096, .inl ((gL (cyQ ax ay aw ah ox oy aw ah w h op g) aw.toNatClampNeg ah.toNatClampNeg).foldl (layG w h bx0 by0 bx1 by1 wy) g))), (bq, .inr (5, [.ref bd, .int w, .int h])), (bd, .inl (cI, 4096, .inl g_12))] := hD
      have hP9 := hP.sub (ws' := [(h0, .inr (8, [.ref s1, .ref s2, .ref s3, .ref s4, .ref s5, .ref s6, .int ds, va_rf sp, .ref bq])), (s1, .inl (cO, 4, .inr (.inr (.inr (.inr f))))), (s2, .inr (1, [.ref bx, .int ik, .int wy, .int op])), (bx, .inr (0, [.int bx0, .int by0, .int bx1, .int by1])), (t0, .inr (5, [.ref d0, .int w, .int h])), (d0, .inl (cI, 4096, .inl ((gL (cyQ ax ay aw ah ox oy aw ah w h op g) aw.toNatClampNeg ah.toNatClampNeg).foldl (layG w h bx0 by0 bx1 by1 wy) g))), (bq, .inr (5, [.ref bd, .int w, .int h])), (bd, .inl (cI, 4096, .inl g_12))]) [0, 1, 2, 3, 4, 5, 6, 7] rfl
      have hD9 := hD.sub (ws' := [(h0, .inr (8, [.ref s1, .ref s2, .ref s3, .ref s4, .ref s5, .ref s6, .int ds, va_rf sp, .ref bq])), (s1, .inl (cO, 4, .inr (.inr (.inr (.inr f))))), (s2, .inr (1, [.ref bx, .int ik, .int wy, .int op])), (bx, .inr (0, [.int bx0, .int by0, .int bx1, .int by1])), (t0, .inr (5, [.ref d0, .int w, .int h])), (d0, .inl (cI, 4096, .inl ((gL (cyQ ax ay aw ah ox oy aw ah w h op g) aw.toNatClampNeg ah.toNatClampNeg).foldl (layG w h bx0 by0 bx1 by1 wy) g))), (bq, .inr (5, [.ref bd, .int w, .int h])), (bd, .inl (cI, 4096, .inl g_12))]) [0, 1, 2, 3, 4, 5, 6, 7] (by decide) rfl
      have hK9 := hK.sub (tys' := [(cO, .object "DotBench$Sheet"), (cI, .int)]) [0, 1] rfl
      refine hQ _ _ _ _ _ ?_
      exact W.iret (v := r_11) hx hb hr (fun t ht hW => ⟨⟨r_11, (), rfl, hr_11, ⟨g_12, by rw [ht]; exact hP9, va_K.moved hW.alike hK9, hD9⟩⟩, hS.F ht⟩) hS.2.2 dX8_copy_59
    · skip
      have f_6 := bz0 hr_4 c_5
      exact False.elim (by omega)

set_option maxHeartbeats 4000000 in
set_option maxRecDepth 100000 in
theorem k_X8_copy_s0e (l : Launch) (D : va_G) (sz : Nat) (h0 s1 s2 s3 s4 s5 s6 : Nat) (ds : Int32) (sp : Option Nat) (f : Nat → Option Nat) (bx t0 d0 : Nat) (ik wy op : Int32) (bx0 by0 bx1 by1 : Int32) (w h : Int32) (g : Nat → Int32) (k ax ay aw ah kq ox oy : Int32) (cO : ClassId) (cI : ClassId) (hsz : (0 ≤ aw.toInt ∧ aw.toInt ≤ 64) ∧ (0 ≤ ah.toInt ∧ ah.toInt ≤ 64)) (hak : 0 ≤ k.toInt ∧ k.toInt ≤ 3) (haf : f k.toNatClampNeg = some t0) (hb0k : 0 ≤ kq.toInt ∧ kq.toInt ≤ 3) (hb0f : f kq.toNatClampNeg = some t0) (hne : k.toInt = kq.toInt) (hnr : (-200 ≤ ax.toInt ∧ ax.toInt ≤ 200) ∧ (-200 ≤ ay.toInt ∧ ay.toInt ≤ 200) ∧ (-200 ≤ ox.toInt ∧ ox.toInt ≤ 200) ∧ (-200 ≤ oy.toInt ∧ oy.toInt ≤ 200)) (hwy : 0 ≤ wy.toInt ∧ wy.toInt ≤ 12) (hw : w.toInt ≤ 64) (hh : h.toInt ≤ 64) : Met l yX8_copy (wB yX8_copy cX8_copy 9 (some .int)) ({ frames := 4, cells := 4, slots := 4107, locals := 106 }) (cP D [(h0, .inr (8, [.ref s1, .ref s2, .ref s3, .ref s4, .ref s5, .ref s6, .int ds, va_rf sp, .null])), (s1, .inl (cO, 4, .inr (.inr (.inr (.inr f))))), (s2, .inr (1, [.ref bx, .int ik, .int wy, .int op])), (bx, .inr (0, [.int bx0, .int by0, .int bx1, .int by1])), (t0, .inr (5, [.ref d0, .int w, .int h])), (d0, .inl (cI, 4096, .inl g))] [(cO, .object "DotBench$Sheet"), (cI, .int)] sz [.ref h0, .int k, .int ax, .int ay, .int aw, .int ah, .int kq, .int ox, .int oy]) (va_Qi (fun (r : Int32) (_ : Unit) => r = (gL (cyQ ax ay aw ah ox oy aw ah w h op g) aw.toNatClampNeg ah.toNatClampNeg).foldl (layT w h bx0 by0 bx1 by1) 0) (fun (_ : Unit) (t : State) => ∃ (bq bd : Nat), ∃ (g3 : Nat → Int32), cB D (va_A [(h0, .inr (8, [.ref s1, .ref s2, .ref s3, .ref s4, .ref s5, .ref s6, .int ds, va_rf sp, .null])), (s1, .inl (cO, 4, .inr (.inr (.inr (.inr f))))), (s2, .inr (1, [.ref bx, .int ik, .int wy, .int op])), (bx, .inr (0, [.int bx0, .int by0, .int bx1, .int by1])), (t0, .inr (5, [.ref d0, .int w, .int h])), (d0, .inl (cI, 4096, .inl g))] sz) [(h0, .inr (8, [.ref s1, .ref s2, .ref s3, .ref s4, .ref s5, .ref s6, .int ds, va_rf sp, .ref bq])), (s1, .inl (cO, 4, .inr (.inr (.inr (.inr f))))), (s2, .inr (1, [.ref bx, .int ik, .int wy, .int op])), (bx, .inr (0, [.int bx0, .int by0, .int bx1, .int by1])), (t0, .inr (5, [.ref d0, .int w, .int h])), (d0, .inl (cI, 4096, .inl ((gL (cyQ ax ay aw ah ox oy aw ah w h op g) aw.toNatClampNeg ah.toNatClampNeg).foldl (layG w h bx0 by0 bx1 by1 wy) g))), (bq, .inr (5, [.ref bd, .int w, .int h])), (bd, .inl (cI, 4096, .inl g3))] [(cO, .object "DotBench$Sheet"), (cI, .int)] t) (va_A [(h0, .inr (8, [.ref s1, .ref s2, .ref s3, .ref s4, .ref s5, .ref s6, .int ds, va_rf sp, .null])), (s1, .inl (cO, 4, .inr (.inr (.inr (.inr f))))), (s2, .inr (1, [.ref bx, .int ik, .int wy, .int op])), (bx, .inr (0, [.int bx0, .int by0, .int bx1, .int by1])), (t0, .inr (5, [.ref d0, .int w, .int h])), (d0, .inl (cI, 4096, .inl g))] sz)) 4 4107 (va_A [(h0, .inr (8, [.ref s1, .ref s2, .ref s3, .ref s4, .ref s5, .ref s6, .int ds, va_rf sp, .null])), (s1, .inl (cO, 4, .inr (.inr (.inr (.inr f))))), (s2, .inr (1, [.ref bx, .int ik, .int wy, .int op])), (bx, .inr (0, [.int bx0, .int by0, .int bx1, .int by1])), (t0, .inr (5, [.ref d0, .int w, .int h])), (d0, .inl (cI, 4096, .inl g))] sz) := by
  refine Met.ofW (cc := cX8_copy) (maxL := 9) (ret := (some .int)) (by decide) rfl ?_
  intro p e s m args below meth c s₁ B hml hv
  obtain ⟨rfl, hsz, hP, hK, hD0, hN⟩ := hv
  have hx := B.exec
  have hb := B.bytes
  have hr := B.returns
  have hts0 := atoms_spec (ws := (wB yX8_copy cX8_copy 9 (some .int))) B.pre
  have hts : ∀ w ∈ bigW, w.before _ s = true := fun w h => hts0 w (List.mem_cons_of_mem _ h)
  have hown : s.vm.findClass RX8 = some m.cls := findClass_of_methodNamed B.named
  have hlocks := B.notSynchronized
  subst hsz
  have hD := hD0.self (sz := s.heap.size)
  generalize hAe : va_A [(h0, .inr (8, [.ref s1, .ref s2, .ref s3, .ref s4, .ref s5, .ref s6, .int ds, va_rf sp, .null])), (s1, .inl (cO, 4, .inr (.inr (.inr (.inr f))))), (s2, .inr (1, [.ref bx, .int ik, .int wy, .int op])), (bx, .inr (0, [.int bx0, .int by0, .int bx1, .int by1])), (t0, .inr (5, [.ref d0, .int w, .int h])), (d0, .inl (cI, 4096, .inl g))] s.heap.size = A at hD ⊢
  have hA : ∀ q : Nat, s.heap.size ≤ q → A q := fun q h => by rw [← hAe]; exact Or.inr h
  have hS : va_S A s.heap s.heap [] := va_S.rf
  have hP : va_P D vwCl [(h0, .inr (8, [.ref s1, .ref s2, .ref s3, .ref s4, .ref s5, .ref s6, .int ds, va_rf sp, .null])), (s1, .inl (cO, 4, .inr (.inr (.inr (.inr f))))), (s2, .inr (1, [.ref bx, .int ik, .int wy, .int op])), (bx, .inr (0, [.int bx0, .int by0, .int bx1, .int by1])), (t0, .inr (5, [.ref d0, .int w, .int h])), (d0, .inl (cI, 4096, .inl g))] s.heap := hP
  have hl := lv_entry ([.ref h0, .int k, .int ax, .int ay, .int aw, .int ah, .int kq, .int ox, .int oy]) (n := 9) (Nat.le_of_ble_eq_true rfl)
  rw [lg_entry_eq]
  generalize (lg_sl ([.ref h0, .int k, .int ax, .int ay, .int aw, .int ah, .int kq, .int ox, .int oy]) ++ List.replicate (9 - (lg_sl ([.ref h0, .int k, .int ax, .int ay, .int aw, .int ah, .int kq, .int ox, .int oy])).length) Slot.unset).toArray = ls at hl ⊢
  have hl : lv_has ls 9 [(0, .ref h0), (1, .int k), (2, .int ax), (3, .int ay), (4, .int aw), (5, .int ah), (6, .int kq), (7, .int ox), (8, .int oy)] := hl
  clear hts0 hD0 hAe
  refine my_abs (fun R Q hR hQ => ?_)
  refine lv_iload hx hb dX8_copy_0 (lv_at hl 4 rfl) ?_
  refine lv_iconst (v := 0) hx hb dX8_copy_2 (by decide) ?_
  refine lv_bipush (v := 64) hx hb dX8_copy_3 (by decide) ?_
  have hPc := hP.sub (ws' := []) [] rfl
  have hDc := hD.sub (ws' := []) [] (by decide) rfl
  have hKc := hK.sub (tys' := []) [] rfl
  have hFc := va_free (wc := []) hD hS hA [] rfl
  refine va_calli (va_runS (As := [.int aw, .int 0, .int 64]) (rest := []) ⟨hx, hb, hml, hown, hts⟩ (k_X8_isWithin l D s.heap.size aw 0 64 0 64 (by decide) (by decide)) (va_cwS 3 hts (gS bw_256 bw_349 bw_223 bw_348) rfl rfl rfl (by decide +kernel) ⟨(by rw [hR]; exact Nat.le_of_ble_eq_true rfl), (by rw [hR]; exact Nat.le_of_ble_eq_true rfl)⟩) ⟨cP_blind, cP_at hPc hKc hDc hN⟩ rfl rfl hl.1 rfl (lv_room (Nat.le_of_ble_eq_true rfl)) dX8_copy_5 ⟨(by rw [hR]; exact Nat.le_of_ble_eq_true rfl), (by rw [hR]; exact Nat.le_of_ble_eq_true rfl)⟩) hS (fun q _ h => hFc q h) hFc (fun r_1 u9 t9 H1 locs ht hvm hr_1 hB hz1 hk1 hS => ?_)
  try dsimp only at hr_1
  have hP1 : va_P D vwCl [] H1 := vP_nil
  have hD1 : va_D (va_A [] s.heap.size) [] := vD_nil
  obtain ⟨hP, hD⟩ := va_join (wr := [(h0, .inr (8, [.ref s1, .ref s2, .ref s3, .ref s4, .ref s5, .ref s6, .int ds, va_rf sp, .null])), (s1, .inl (cO, 4, .inr (.inr (.inr (.inr f))))), (s2, .inr (1, [.ref bx, .int ik, .int wy, .int op])), (bx, .inr (0, [.int bx0, .int by0, .int bx1, .int by1])), (t0, .inr (5, [.ref d0, .int w, .int h])), (d0, .inl (cI, 4096, .inl g))]) (w1 := []) hP hD [] [0, 1, 2, 3, 4, 5] rfl rfl (by decide) (by decide) hk1 hFc hP1 hD1
  clear hz1 hk1 hFc hKc hDc hPc
  generalize H1 = H at hP hS ⊢
  have hP : va_P D vwCl [(h0, .inr (8, [.ref s1, .ref s2, .ref s3, .ref s4, .ref s5, .ref s6, .int ds, va_rf sp, .null])), (s1, .inl (cO, 4, .inr (.inr (.inr (.inr f))))), (s2, .inr (1, [.ref bx, .int ik, .int wy, .int op])), (bx, .inr (0, [.int bx0, .int by0, .int bx1, .int by1])), (t0, .inr (5, [.ref d0, .int w, .int h])), (d0, .inl (cI, 4096, .inl g))] H := hP
  have hD : va_D A [(h0, .inr (8, [.ref s1, .ref s2, .ref s3, .ref s4, .ref s5, .ref s6, .int ds, va_rf sp, .null])), (s1, .inl (cO, 4, .inr (.inr (.inr (.inr f))))), (s2, .inr (1, [.ref bx, .int ik, .int wy, .int op])), (bx, .inr (0, [.int bx0, .int by0, .int bx1, .int by1])), (t0, .inr (5, [.ref d0, .int w, .int h])), (d0, .inl (cI, 4096, .inl g))] := hD
  refine lv_if_eq (tgt := 22) hx hb dX8_copy_8 (by decide) (fun c_2 => ?_) (fun c_2 => ?_)
  · skip
    have f_3 := bz0 hr_1 c_2
    exact False.elim (by omega)
  · skip
    have f_3 := bz1 hr_1 c_2
    refine lv_iload hx hb dX8_copy_11 (lv_at hl 5 rfl) ?_
    refine lv_iconst (v := 0) hx hb dX8_copy_13 (by decide) ?_
    refine lv_bipush (v := 64) hx hb dX8_copy_14 (by decide) ?_
    have hPc := hP.sub (ws' := []) [] rfl
    have hDc := hD.sub (ws' := []) [] (by decide) rfl
    have hKc := hK.sub (tys' := []) [] rfl
    have hFc := va_free (wc := []) hD hS hA [] rfl
    refine va_calli (va_runS (As := [.int ah, .int 0, .int 64]) (rest := []) ⟨hx, hb, hml, hown, hts⟩ (k_X8_isWithin l D H.size ah 0 64 0 64 (by decide) (by decide)) (va_cwS 3 hts (gS bw_256 bw_349 bw_223 bw_348) rfl rfl rfl (by decide +kernel) ⟨(by rw [hR]; exact Nat.le_of_ble_eq_true rfl), (by rw [hR]; exact Nat.le_of_ble_eq_true rfl)⟩) ⟨cP_blind, cP_at hPc hKc hDc hN⟩ rfl rfl hl.1 rfl (lv_room (Nat.le_of_ble_eq_true rfl)) dX8_copy_16 ⟨(by rw [hR]; exact Nat.le_of_ble_eq_true rfl), (by rw [hR]; exact Nat.le_of_ble_eq_true rfl)⟩) hS (fun q _ h => hFc q h) hFc (fun r_4 u9 t9 H1 locs ht hvm hr_4 hB hz1 hk1 hS => ?_)
    try dsimp only at hr_4
    have hP1 : va_P D vwCl [] H1 := vP_nil
    have hD1 : va_D (va_A [] H.size) [] := vD_nil
    obtain ⟨hP, hD⟩ := va_join (wr := [(h0, .inr (8, [.ref s1, .ref s2, .ref s3, .ref s4, .ref s5, .ref s6, .int ds, va_rf sp, .null])), (s1, .inl (cO, 4, .inr (.inr (.inr (.inr f))))), (s2, .inr (1, [.ref bx, .int ik, .int wy, .int op])), (bx, .inr (0, [.int bx0, .int by0, .int bx1, .int by1])), (t0, .inr (5, [.ref d0, .int w, .int h])), (d0, .inl (cI, 4096, .inl g))]) (w1 := []) hP hD [] [0, 1, 2, 3, 4, 5] rfl rfl (by decide) (by decide) hk1 hFc hP1 hD1
    clear hz1 hk1 hFc hKc hDc hPc
    generalize H1 = H at hP hS ⊢
    have hP : va_P D vwCl [(h0, .inr (8, [.ref s1, .ref s2, .ref s3, .ref s4, .ref s5, .ref s6, .int ds, va_rf sp, .null])), (s1, .inl (cO, 4, .inr (.inr (.inr (.inr f))))), (s2, .inr (1, [.ref bx, .int ik, .int wy, .int op])), (bx, .inr (0, [.int bx0, .int by0, .int bx1, .int by1])), (t0, .inr (5, [.ref d0, .int w, .int h])), (d0, .inl (cI, 4096, .inl g))] H := hP
    have hD : va_D A [(h0, .inr (8, [.ref s1, .ref s2, .ref s3, .ref s4, .ref s5, .ref s6, .int ds, va_rf sp, .null])), (s1, .inl (cO, 4, .inr (.inr (.inr (.inr f))))), (s2, .inr (1, [.ref bx, .int ik, .int wy, .int op])), (bx, .inr (0, [.int bx0, .int by0, .int bx1, .int by1])), (t0, .inr (5, [.ref d0, .int w, .int h])), (d0, .inl (cI, 4096, .inl g))] := hD
    refine lv_if_ne (tgt := 24) hx hb dX8_copy_19 (by decide) (fun c_5 => ?_) (fun c_5 => ?_)
    · skip
      have f_6 := bz1 hr_4 c_5
      refine lv_aload_n hx hb dX8_copy_24 rfl (lv_at hl 0 rfl) ?_
      refine lv_iload_n hx hb dX8_copy_25 rfl (lv_at hl 1 rfl) ?_
      refine va_new (ci := 2) (fs := [.int 0, .int 0, .int 0, .int 0]) (C := RX2) (T := TX2) (N := 4) hx hb hts hi_X2 tyX2 tyX2_ok hown (hts _ bw_316) (hts _ bw_56) (hts _ bw_55) hK hP hD hS hA rfl z_X2 (by rw [hR]; exact Nat.le_of_ble_eq_true rfl) (by rw [hR]; exact Nat.le_of_ble_eq_true rfl) dX8_copy_26 (fun q_7 H hP hD hS => ?_)
      have hP : va_P D vwCl [(h0, .inr (8, [.ref s1, .ref s2, .ref s3, .ref s4, .ref s5, .ref s6, .int ds, va_rf sp, .null])), (s1, .inl (cO, 4, .inr (.inr (.inr (.inr f))))), (s2, .inr (1, [.ref bx, .int ik, .int wy, .int op])), (bx, .inr (0, [.int bx0, .int by0, .int bx1, .int by1])), (t0, .inr (5, [.ref d0, .int w, .int h])), (d0, .inl (cI, 4096, .inl g)), (q_7, .inr (2, [.int 0, .int 0, .int 0, .int 0]))] H := hP
      have hD : va_D A [(h0, .inr (8, [.ref s1, .ref s2, .ref s3, .ref s4, .ref s5, .ref s6, .int ds, va_rf sp, .null])), (s1, .inl (cO, 4, .inr (.inr (.inr (.inr f))))), (s2, .inr (1, [.ref bx, .int ik, .int wy, .int op])), (bx, .inr (0, [.int bx0, .int by0, .int bx1, .int by1])), (t0, .inr (5, [.ref d0, .int w, .int h])), (d0, .inl (cI, 4096, .inl g)), (q_7, .inr (2, [.int 0, .int 0, .int 0, .int 0]))] := hD
      refine W.widen (k := 1) (n := 4) (by omega) (by omega) ?_
      refine lv_dup hx hb dX8_copy_29 rfl ?_
      refine lv_iload_n hx hb dX8_copy_30 rfl (lv_at hl 2 rfl) ?_
      refine lv_iload_n hx hb dX8_copy_31 rfl (lv_at hl 3 rfl) ?_
      refine lv_iload hx hb dX8_copy_32 (lv_at hl 4 rfl) ?_
      refine lv_iload hx hb dX8_copy_34 (lv_at hl 5 rfl) ?_
      have hPc := hP.sub (ws' := [(q_7, .inr (2, [.int 0, .int 0, .int 0, .int 0]))]) [6] rfl
      have hDc := hD.sub (ws' := [(q_7, .inr (2, [.int 0, .int 0, .int 0, .int 0]))]) [6] (by decide) rfl
      have hKc := hK.sub (tys' := []) [] rfl
      have hFc := va_free (wc := [(q_7, .inr (2, [.int 0, .int 0, .int 0, .int 0]))]) hD hS hA [6] rfl
      refine va_callv (va_runI (As := [.int ax, .int ay, .int aw, .int ah]) (rest := [.ref q_7, .int k, .ref h0]) ⟨hx, hb, hml, hown, hts⟩ (k_X2_init l D H.size q_7 ax ay aw ah) (cwI 4 hts (gI bw_57) rfl rfl rfl (hts _ bw_55) (hts _ bw_317) (hts _ bw_58) rfl (by decide +kernel) ⟨(by rw [hR]; exact Nat.le_of_ble_eq_true rfl), (by rw [hR]; exact Nat.le_of_ble_eq_true rfl)⟩) ⟨cP_blind, cP_at hPc hKc hDc hN⟩ rfl rfl hl.1 rfl (lv_room (Nat.le_of_ble_eq_true rfl)) dX8_copy_36 ⟨(by rw [hR]; exact Nat.le_of_ble_eq_true rfl), (by rw [hR]; exact Nat.le_of_ble_eq_true rfl)⟩) hS (fun q _ h => hFc q h) hFc (fun u9 t9 H1 locs ht hvm hr_8 hB hz1 hk1 hS => ?_)
      try dsimp only at hr_8
      obtain ⟨hP1, hK1, hD1⟩ := hB
      rw [ht] at hP1
      obtain ⟨hP, hD⟩ := va_join (wr := [(h0, .inr (8, [.ref s1, .ref s2, .ref s3, .ref s4, .ref s5, .ref s6, .int ds, va_rf sp, .null])), (s1, .inl (cO, 4, .inr (.inr (.inr (.inr f))))), (s2, .inr (1, [.ref bx, .int ik, .int wy, .int op])), (bx, .inr (0, [.int bx0, .int by0, .int bx1, .int by1])), (t0, .inr (5, [.ref d0, .int w, .int h])), (d0, .inl (cI, 4096, .inl g))]) (w1 := [(q_7, .inr (2, [.int ax, .int ay, .int aw, .int ah]))]) hP hD [6] [0, 1, 2, 3, 4, 5] rfl rfl (by decide) (by decide) hk1 hFc hP1 hD1
      clear hz1 hk1 hFc hKc hDc hPc
      generalize H1 = H at hP hS ⊢
      have hP : va_P D vwCl [(h0, .inr (8, [.ref s1, .ref s2, .ref s3, .ref s4, .ref s5, .ref s6, .int ds, va_rf sp, .null])), (s1, .inl (cO, 4, .inr (.inr (.inr (.inr f))))), (s2, .inr (1, [.ref bx, .int ik, .int wy, .int op])), (bx, .inr (0, [.int bx0, .int by0, .int bx1, .int by1])), (t0, .inr (5, [.ref d0, .int w, .int h])), (d0, .inl (cI, 4096, .inl g)), (q_7, .inr (2, [.int ax, .int ay, .int aw, .int ah]))] H := hP
      have hD : va_D A [(h0, .inr (8, [.ref s1, .ref s2, .ref s3, .ref s4, .ref s5, .ref s6, .int ds, va_rf sp, .null])), (s1, .inl (cO, 4, .inr (.inr (.inr (.inr f))))), (s2, .inr (1, [.ref bx, .int ik, .int wy, .int op])), (bx, .inr (0, [.int bx0, .int by0, .int bx1, .int by1])), (t0, .inr (5, [.ref d0, .int w, .int h])), (d0, .inl (cI, 4096, .inl g)), (q_7, .inr (2, [.int ax, .int ay, .int aw, .int ah]))] := hD
      refine lv_iload hx hb dX8_copy_39 (lv_at hl 6 rfl) ?_
      refine va_new (ci := 2) (fs := [.int 0, .int 0, .int 0, .int 0]) (C := RX2) (T := TX2) (N := 4) hx hb hts hi_X2 tyX2 tyX2_ok hown (hts _ bw_316) (hts _ bw_56) (hts _ bw_55) hK hP hD hS hA rfl z_X2 (by rw [hR]; exact Nat.le_of_ble_eq_true rfl) (by rw [hR]; exact Nat.le_of_ble_eq_true rfl) dX8_copy_41 (fun q_9 H hP hD hS => ?_)
      have hP : va_P D vwCl [(h0, .inr (8, [.ref s1, .ref s2, .ref s3, .ref s4, .ref s5, .ref s6, .int ds, va_rf sp, .null])), (s1, .inl (cO, 4, .inr (.inr (.inr (.inr f))))), (s2, .inr (1, [.ref bx, .int ik, .int wy, .int op])), (bx, .inr (0, [.int bx0, .int by0, .int bx1, .int by1])), (t0, .inr (5, [.ref d0, .int w, .int h])), (d0, .inl (cI, 4096, .inl g)), (q_7, .inr (2, [.int ax, .int ay, .int aw, .int ah])), (q_9, .inr (2, [.int 0, .int 0, .int 0, .int 0]))] H := hP
      have hD : va_D A [(h0, .inr (8, [.ref s1, .ref s2, .ref s3, .ref s4, .ref s5, .ref s6, .int ds, va_rf sp, .null])), (s1, .inl (cO, 4, .inr (.inr (.inr (.inr f))))), (s2, .inr (1, [.ref bx, .int ik, .int wy, .int op])), (bx, .inr (0, [.int bx0, .int by0, .int bx1, .int by1])), (t0, .inr (5, [.ref d0, .int w, .int h])), (d0, .inl (cI, 4096, .inl g)), (q_7, .inr (2, [.int ax, .int ay, .int aw, .int ah])), (q_9, .inr (2, [.int 0, .int 0, .int 0, .int 0]))] := hD
      refine W.widen (k := 2) (n := 8) (by omega) (by omega) ?_
      refine lv_dup hx hb dX8_copy_44 rfl ?_
      refine lv_iload hx hb dX8_copy_45 (lv_at hl 7 rfl) ?_
      refine lv_iload hx hb dX8_copy_47 (lv_at hl 8 rfl) ?_
      refine lv_iload hx hb dX8_copy_49 (lv_at hl 4 rfl) ?_
      refine lv_iload hx hb dX8_copy_51 (lv_at hl 5 rfl) ?_
      have hPc := hP.sub (ws' := [(q_9, .inr (2, [.int 0, .int 0, .int 0, .int 0]))]) [7] rfl
      have hDc := hD.sub (ws' := [(q_9, .inr (2, [.int 0, .int 0, .int 0, .int 0]))]) [7] (by decide) rfl
      have hKc := hK.sub (tys' := []) [] rfl
      have hFc := va_free (wc := [(q_9, .inr (2, [.int 0, .int 0, .int 0, .int 0]))]) hD hS hA [7] rfl
      refine va_callv (va_runI (As := [.int ox, .int oy, .int aw, .int ah]) (rest := [.ref q_9, .int kq, .ref q_7, .int k, .ref h0]) ⟨hx, hb, hml, hown, hts⟩ (k_X2_init l D H.size q_9 ox oy aw ah) (cwI 4 hts (gI bw_57) rfl rfl rfl (hts _ bw_55) (hts _ bw_317) (hts _ bw_58) rfl (by decide +kernel) ⟨(by rw [hR]; exact Nat.le_of_ble_eq_true rfl), (by rw [hR]; exact Nat.le_of_ble_eq_true rfl)⟩) ⟨cP_blind, cP_at hPc hKc hDc hN⟩ rfl rfl hl.1 rfl (lv_room (Nat.le_of_ble_eq_true rfl)) dX8_copy_53 ⟨(by rw [hR]; exact Nat.le_of_ble_eq_true rfl), (by rw [hR]; exact Nat.le_of_ble_eq_true rfl)⟩) hS (fun q _ h => hFc q h) hFc (fun u9 t9 H1 locs ht hvm hr_10 hB hz1 hk1 hS => ?_)
      try dsimp only at hr_10
      obtain ⟨hP1, hK1, hD1⟩ := hB
      rw [ht] at hP1
      obtain ⟨hP, hD⟩ := va_join (wr := [(h0, .inr (8, [.ref s1, .ref s2, .ref s3, .ref s4, .ref s5, .ref s6, .int ds, va_rf sp, .null])), (s1, .inl (cO, 4, .inr (.inr (.inr (.inr f))))), (s2, .inr (1, [.ref bx, .int ik, .int wy, .int op])), (bx, .inr (0, [.int bx0, .int by0, .int bx1, .int by1])), (t0, .inr (5, [.ref d0, .int w, .int h])), (d0, .inl (cI, 4096, .inl g)), (q_7, .inr (2, [.int ax, .int ay, .int aw, .int ah]))]) (w1 := [(q_9, .inr (2, [.int ox, .int oy, .int aw, .int ah]))]) hP hD [7] [0, 1, 2, 3, 4, 5, 6] rfl rfl (by decide) (by decide) hk1 hFc hP1 hD1
      clear hz1 hk1 hFc hKc hDc hPc
      generalize H1 = H at hP hS ⊢
      have hP : va_P D vwCl [(h0, .inr (8, [.ref s1, .ref s2, .ref s3, .ref s4, .ref s5, .ref s6, .int ds, va_rf sp, .null])), (s1, .inl (cO, 4, .inr (.inr (.inr (.inr f))))), (s2, .inr (1, [.ref bx, .int ik, .int wy, .int op])), (bx, .inr (0, [.int bx0, .int by0, .int bx1, .int by1])), (t0, .inr (5, [.ref d0, .int w, .int h])), (d0, .inl (cI, 4096, .inl g)), (q_7, .inr (2, [.int ax, .int ay, .int aw, .int ah])), (q_9, .inr (2, [.int ox, .int oy, .int aw, .int ah]))] H := hP
      have hD : va_D A [(h0, .inr (8, [.ref s1, .ref s2, .ref s3, .ref s4, .ref s5, .ref s6, .int ds, va_rf sp, .null])), (s1, .inl (cO, 4, .inr (.inr (.inr (.inr f))))), (s2, .inr (1, [.ref bx, .int ik, .int wy, .int op])), (bx, .inr (0, [.int bx0, .int by0, .int bx1, .int by1])), (t0, .inr (5, [.ref d0, .int w, .int h])), (d0, .inl (cI, 4096, .inl g)), (q_7, .inr (2, [.int ax, .int ay, .int aw, .int ah])), (q_9, .inr (2, [.int ox, .int oy, .int aw, .int ah]))] := hD
      have hPc := hP.sub (ws' := [(h0, .inr (8, [.ref s1, .ref s2, .ref s3, .ref s4, .ref s5, .ref s6, .int ds, va_rf sp, .null])), (s1, .inl (cO, 4, .inr (.inr (.inr (.inr f))))), (s2, .inr (1, [.ref bx, .int ik, .int wy, .int op])), (bx, .inr (0, [.int bx0, .int by0, .int bx1, .int by1])), (t0, .inr (5, [.ref d0, .int w, .int h])), (d0, .inl (cI, 4096, .inl g)), (q_7, .inr (2, [.int ax, .int ay, .int aw, .int ah])), (q_9, .inr (2, [.int ox, .int oy, .int aw, .int ah]))]) [0, 1, 2, 3, 4, 5, 6, 7] rfl
      have hDc := hD.sub (ws' := [(h0, .inr (8, [.ref s1, .ref s2, .ref s3, .ref s4, .ref s5, .ref s6, .int ds, va_rf sp, .null])), (s1, .inl (cO, 4, .inr (.inr (.inr (.inr f))))), (s2, .inr (1, [.ref bx, .int ik, .int wy, .int op])), (bx, .inr (0, [.int bx0, .int by0, .int bx1, .int by1])), (t0, .inr (5, [.ref d0, .int w, .int h])), (d0, .inl (cI, 4096, .inl g)), (q_7, .inr (2, [.int ax, .int ay, .int aw, .int ah])), (q_9, .inr (2, [.int ox, .int oy, .int aw, .int ah]))]) [0, 1, 2, 3, 4, 5, 6, 7] (by decide) rfl
      have hKc := hK.sub (tys' := [(cO, .object "DotBench$Sheet"), (cI, .int)]) [0, 1] rfl
      have hFc := va_free (wc := [(h0, .inr (8, [.ref s1, .ref s2, .ref s3, .ref s4, .ref s5, .ref s6, .int ds, va_rf sp, .null])), (s1, .inl (cO, 4, .inr (.inr (.inr (.inr f))))), (s2, .inr (1, [.ref bx, .int ik, .int wy, .int op])), (bx, .inr (0, [.int bx0, .int by0, .int bx1, .int by1])), (t0, .inr (5, [.ref d0, .int w, .int h])), (d0, .inl (cI, 4096, .inl g)), (q_7, .inr (2, [.int ax, .int ay, .int aw, .int ah])), (q_9, .inr (2, [.int ox, .int oy, .int aw, .int ah]))]) hD hS hA [0, 1, 2, 3, 4, 5, 6, 7] rfl
      refine va_calli (va_runV (As := [.int k, .ref q_7, .int kq, .ref q_9]) (rest := []) ⟨hx, hb, hml, hown, hts⟩ (k_X8_carry_s0e l D H.size h0 s1 s2 s3 s4 s5 s6 ds sp f bx t0 d0 ik wy op bx0 by0 bx1 by1 w h g q_7 q_9 ax ay aw ah ox oy aw ah k kq cO cI (by first | assumption | omega | decide) (by first | assumption | omega | decide) (by first | assumption | omega | decide) (by first | assumption | omega | decide) (by first | assumption | omega | decide) (by first | assumption | omega | decide) (by first | assumption | omega | decide) (by first | assumption | omega | decide) (by first | assumption | omega | decide) (by first | assumption | omega | decide) (by first | assumption | omega | decide)) (cwV 4 hts (gV bw_318 bw_383 bw_384 bw_223 bw_382) rfl rfl rfl (by decide +kernel) ⟨(by rw [hR]; exact Nat.le_of_ble_eq_true rfl), (by rw [hR]; exact Nat.le_of_ble_eq_true rfl)⟩) ⟨cP_blind, va_recv hKc hPc (ci := 8) (q0 := 0) rfl rfl, cP_at hPc hKc hDc hN⟩ rfl rfl hl.1 rfl (lv_room (Nat.le_of_ble_eq_true rfl)) dX8_copy_56 ⟨(by rw [hR]; exact Nat.le_of_ble_eq_true rfl), (by rw [hR]; exact Nat.le_of_ble_eq_true rfl)⟩) hS (fun q _ h => hFc q h) hFc (fun r_11 u9 t9 H1 locs ht hvm hr_11 hB hz1 hk1 hS => ?_)
      try dsimp only at hr_11
      obtain ⟨q_12, q_13, g_14, hP1, hK1, hD1⟩ := hB
      rw [ht] at hP1
      obtain ⟨hP, hD⟩ := va_join (wr := []) (w1 := [(h0, .inr (8, [.ref s1, .ref s2, .ref s3, .ref s4, .ref s5, .ref s6, .int ds, va_rf sp, .ref q_12])), (s1, .inl (cO, 4, .inr (.inr (.inr (.inr f))))), (s2, .inr (1, [.ref bx, .int ik, .int wy, .int op])), (bx, .inr (0, [.int bx0, .int by0, .int bx1, .int by1])), (t0, .inr (5, [.ref d0, .int w, .int h])), (d0, .inl (cI, 4096, .inl ((gL (cyQ ax ay aw ah ox oy aw ah w h op g) aw.toNatClampNeg ah.toNatClampNeg).foldl (layG w h bx0 by0 bx1 by1 wy) g))), (q_12, .inr (5, [.ref q_13, .int w, .int h])), (q_13, .inl (cI, 4096, .inl g_14))]) hP hD [0, 1, 2, 3, 4, 5, 6, 7] [] rfl rfl (by decide) (by decide) hk1 hFc hP1 hD1
      clear hz1 hk1 hFc hKc hDc hPc
      generalize H1 = H at hP hS ⊢
      have hP : va_P D vwCl [(h0, .inr (8, [.ref s1, .ref s2, .ref s3, .ref s4, .ref s5, .ref s6, .int ds, va_rf sp, .ref q_12])), (s1, .inl (cO, 4, .inr (.inr (.inr (.inr f))))), (s2, .inr (1, [.ref bx, .int ik, .int wy, .int op])), (bx, .inr (0, [.int bx0, .int by0, .int bx1, .int by1])), (t0, .inr (5, [.ref d0, .int w, .int h])), (d0, .inl (cI, 4096, .inl ((gL (cyQ ax ay aw ah ox oy aw ah w h op g) aw.toNatClampNeg ah.toNatClampNeg).foldl (layG w h bx0 by0 bx1 by1 wy) g))), (q_12, .inr (5, [.ref q_13, .int w, .int h])), (q_13, .inl (cI, 4096, .inl g_14))] H := hP
      have hD : va_D A [(h0, .inr (8, [.ref s1, .ref s2, .ref s3, .ref s4, .ref s5, .ref s6, .int ds, va_rf sp, .ref q_12])), (s1, .inl (cO, 4, .inr (.inr (.inr (.inr f))))), (s2, .inr (1, [.ref bx, .int ik, .int wy, .int op])), (bx, .inr (0, [.int bx0, .int by0, .int bx1, .int by1])), (t0, .inr (5, [.ref d0, .int w, .int h])), (d0, .inl (cI, 4096, .inl ((gL (cyQ ax ay aw ah ox oy aw ah w h op g) aw.toNatClampNeg ah.toNatClampNeg).foldl (layG w h bx0 by0 bx1 by1 wy) g))), (q_12, .inr (5, [.ref q_13, .int w, .int h])), (q_13, .inl (cI, 4096, .inl g_14))] := hD
      refine W.widen (k := 4) (n := 4107) (by omega) (by omega) ?_
      have hP9 := hP.sub (ws' := [(h0, .inr (8, [.ref s1, .ref s2, .ref s3, .ref s4, .ref s5, .ref s6, .int ds, va_rf sp, .ref q_12])), (s1, .inl (cO, 4, .inr (.inr (.inr (.inr f))))), (s2, .inr (1, [.ref bx, .int ik, .int wy, .int op])), (bx, .inr (0, [.int bx0, .int by0, .int bx1, .int by1])), (t0, .inr (5, [.ref d0, .int w, .int h])), (d0, .inl (cI, 4096, .inl ((gL (cyQ ax ay aw ah ox oy aw ah w h op g) aw.toNatClampNeg ah.toNatClampNeg).foldl (layG w h bx0 by0 bx1 by1 wy) g))), (q_12, .inr (5, [.ref q_13, .int w, .int h])), (q_13, .inl (cI, 4096, .inl g_14))]) [0, 1, 2, 3, 4, 5, 6, 7] rfl
      have hD9 := hD.sub (ws' := [(h0, .inr (8, [.ref s1, .ref s2, .ref s3, .ref s4, .ref s5, .ref s6, .int ds, va_rf sp, .ref q_12])), (s1, .inl (cO, 4, .inr (.inr (.inr (.inr f))))), (s2, .inr (1, [.ref bx, .int ik, .int wy, .int op])), (bx, .inr (0, [.int bx0, .int by0, .int bx1, .int by1])), (t0, .inr (5, [.ref d0, .int w, .int h])), (d0, .inl (cI, 4096, .inl ((gL (cyQ ax ay aw ah ox oy aw ah w h op g) aw.toNatClampNeg ah.toNatClampNeg).foldl (layG w h bx0 by0 bx1 by1 wy) g))), (q_12, .inr (5, [.ref q_13, .int w, .int h])), (q_13, .inl (cI, 4096, .inl g_14))]) [0, 1, 2, 3, 4, 5, 6, 7] (by decide) rfl
      have hK9 := hK.sub (tys' := [(cO, .object "DotBench$Sheet"), (cI, .int)]) [0, 1] rfl
      refine hQ _ _ _ _ _ ?_
      exact W.iret (v := r_11) hx hb hr (fun t ht hW => ⟨⟨r_11, (), rfl, hr_11, ⟨q_12, q_13, g_14, by rw [ht]; exact hP9, va_K.moved hW.alike hK9, hD9⟩⟩, hS.F ht⟩) hS.2.2 dX8_copy_59
    · skip
      have f_6 := bz0 hr_4 c_5
      exact False.elim (by omega)

set_option maxHeartbeats 4000000 in
set_option maxRecDepth 100000 in
theorem k_X8_stretch_de (l : Launch) (D : va_G) (sz : Nat) (h0 s1 s2 s3 s4 s5 s6 : Nat) (ds : Int32) (sp bt : Option Nat) (f : Nat → Option Nat) (bx t0 d0 : Nat) (ik wy op : Int32) (bx0 by0 bx1 by1 : Int32) (w h : Int32) (g : Nat → Int32) (u0 e0 : Nat) (w2 h2 : Int32) (gs : Nat → Int32) (k ax ay aw ah kq ox oy ow oh : Int32) (cO : ClassId) (cI : ClassId) (hsz : (1 ≤ aw.toInt ∧ aw.toInt ≤ 64) ∧ (1 ≤ ah.toInt ∧ ah.toInt ≤ 64) ∧ (1 ≤ ow.toInt ∧ ow.toInt ≤ 64) ∧ (1 ≤ oh.toInt ∧ oh.toInt ≤ 64)) (hak : 0 ≤ k.toInt ∧ k.toInt ≤ 3) (haf : f k.toNatClampNeg = some u0) (hb0k : 0 ≤ kq.toInt ∧ kq.toInt ≤ 3) (hb0f : f kq.toNatClampNeg = some t0) (hne : ¬ k.toInt = kq.toInt) (hnr : (-200 ≤ ax.toInt ∧ ax.toInt ≤ 200) ∧ (-200 ≤ ay.toInt ∧ ay.toInt ≤ 200) ∧ (-200 ≤ ox.toInt ∧ ox.toInt ≤ 200) ∧ (-200 ≤ oy.toInt ∧ oy.toInt ≤ 200)) (hwy : 0 ≤ wy.toInt ∧ wy.toInt ≤ 12) (hw : w.toInt ≤ 64) (hh : h.toInt ≤ 64) (hw2 : w2.toInt ≤ 64) (hh2 : h2.toInt ≤ 64) : Met l yX8_stretch (wB yX8_stretch cX8_stretch 11 (some .int)) ({ frames := 4, cells := 2, slots := 8, locals := 106 }) (cP D [(h0, .inr (8, [.ref s1, .ref s2, .ref s3, .ref s4, .ref s5, .ref s6, .int ds, va_rf sp, va_rf bt])), (s1, .inl (cO, 4, .inr (.inr (.inr (.inr f))))), (s2, .inr (1, [.ref bx, .int ik, .int wy, .int op])), (bx, .inr (0, [.int bx0, .int by0, .int bx1, .int by1])), (t0, .inr (5, [.ref d0, .int w, .int h])), (d0, .inl (cI, 4096, .inl g)), (u0, .inr (5, [.ref e0, .int w2, .int h2])), (e0, .inl (cI, 4096, .inl gs))] [(cO, .object "DotBench$Sheet"), (cI, .int)] sz [.ref h0, .int k, .int ax, .int ay, .int aw, .int ah, .int kq, .int ox, .int oy, .int ow, .int oh]) (va_Qi (fun (r : Int32) (_ : Unit) => r = (gL (cyQ ax ay aw ah ox oy ow oh w2 h2 op gs) ow.toNatClampNeg oh.toNatClampNeg).foldl (layT w h bx0 by0 bx1 by1) 0) (fun (_ : Unit) (t : State) => cB D (va_A [(h0, .inr (8, [.ref s1, .ref s2, .ref s3, .ref s4, .ref s5, .ref s6, .int ds, va_rf sp, va_rf bt])), (s1, .inl (cO, 4, .inr (.inr (.inr (.inr f))))), (s2, .inr (1, [.ref bx, .int ik, .int wy, .int op])), (bx, .inr (0, [.int bx0, .int by0, .int bx1, .int by1])), (t0, .inr (5, [.ref d0, .int w, .int h])), (d0, .inl (cI, 4096, .inl g)), (u0, .inr (5, [.ref e0, .int w2, .int h2])), (e0, .inl (cI, 4096, .inl gs))] sz) [(h0, .inr (8, [.ref s1, .ref s2, .ref s3, .ref s4, .ref s5, .ref s6, .int ds, va_rf sp, va_rf bt])), (s1, .inl (cO, 4, .inr (.inr (.inr (.inr f))))), (s2, .inr (1, [.ref bx, .int ik, .int wy, .int op])), (bx, .inr (0, [.int bx0, .int by0, .int bx1, .int by1])), (t0, .inr (5, [.ref d0, .int w, .int h])), (d0, .inl (cI, 4096, .inl ((gL (cyQ ax ay aw ah ox oy ow oh w2 h2 op gs) ow.toNatClampNeg oh.toNatClampNeg).foldl (layG w h bx0 by0 bx1 by1 wy) g))), (u0, .inr (5, [.ref e0, .int w2, .int h2])), (e0, .inl (cI, 4096, .inl gs))] [(cO, .object "DotBench$Sheet"), (cI, .int)] t) (va_A [(h0, .inr (8, [.ref s1, .ref s2, .ref s3, .ref s4, .ref s5, .ref s6, .int ds, va_rf sp, va_rf bt])), (s1, .inl (cO, 4, .inr (.inr (.inr (.inr f))))), (s2, .inr (1, [.ref bx, .int ik, .int wy, .int op])), (bx, .inr (0, [.int bx0, .int by0, .int bx1, .int by1])), (t0, .inr (5, [.ref d0, .int w, .int h])), (d0, .inl (cI, 4096, .inl g)), (u0, .inr (5, [.ref e0, .int w2, .int h2])), (e0, .inl (cI, 4096, .inl gs))] sz)) 2 8 (va_A [(h0, .inr (8, [.ref s1, .ref s2, .ref s3, .ref s4, .ref s5, .ref s6, .int ds, va_rf sp, va_rf bt])), (s1, .inl (cO, 4, .inr (.inr (.inr (.inr f))))), (s2, .inr (1, [.ref bx, .int ik, .int wy, .int op])), (bx, .inr (0, [.int bx0, .int by0, .int bx1, .int by1])), (t0, .inr (5, [.ref d0, .int w, .int h])), (d0, .inl (cI, 4096, .inl g)), (u0, .inr (5, [.ref e0, .int w2, .int h2])), (e0, .inl (cI, 4096, .inl gs))] sz) := by
  refine Met.ofW (cc := cX8_stretch) (maxL := 11) (ret := (some .int)) (by decide) rfl ?_
  intro p e s m args below meth c s₁ B hml hv
  obtain ⟨rfl, hsz, hP, hK, hD0, hN⟩ := hv
  have hx := B.exec
  have hb := B.bytes
  have hr := B.returns
  have hts0 := atoms_spec (ws := (wB yX8_stretch cX8_stretch 11 (some .int))) B.pre
  have hts : ∀ w ∈ bigW, w.before _ s = true := fun w h => hts0 w (List.mem_cons_of_mem _ h)
  have hown : s.vm.findClass RX8 = some m.cls := findClass_of_methodNamed B.named
  have hlocks := B.notSynchronized
  subst hsz
  have hD := hD0.self (sz := s.heap.size)
  generalize hAe : va_A [(h0, .inr (8, [.ref s1, .ref s2, .ref s3, .ref s4, .ref s5, .ref s6, .int ds, va_rf sp, va_rf bt])), (s1, .inl (cO, 4, .inr (.inr (.inr (.inr f))))), (s2, .inr (1, [.ref bx, .int ik, .int wy, .int op])), (bx, .inr (0, [.int bx0, .int by0, .int bx1, .int by1])), (t0, .inr (5, [.ref d0, .int w, .int h])), (d0, .inl (cI, 4096, .inl g)), (u0, .inr (5, [.ref e0, .int w2, .int h2])), (e0, .inl (cI, 4096, .inl gs))] s.heap.size = A at hD ⊢
  have hA : ∀ q : Nat, s.heap.size ≤ q → A q := fun q h => by rw [← hAe]; exact Or.inr h
  have hS : va_S A s.heap s.heap [] := va_S.rf
  have hP : va_P D vwCl [(h0, .inr (8, [.ref s1, .ref s2, .ref s3, .ref s4, .ref s5, .ref s6, .int ds, va_rf sp, va_rf bt])), (s1, .inl (cO, 4, .inr (.inr (.inr (.inr f))))), (s2, .inr (1, [.ref bx, .int ik, .int wy, .int op])), (bx, .inr (0, [.int bx0, .int by0, .int bx1, .int by1])), (t0, .inr (5, [.ref d0, .int w, .int h])), (d0, .inl (cI, 4096, .inl g)), (u0, .inr (5, [.ref e0, .int w2, .int h2])), (e0, .inl (cI, 4096, .inl gs))] s.heap := hP
  have hl := lv_entry ([.ref h0, .int k, .int ax, .int ay, .int aw, .int ah, .int kq, .int ox, .int oy, .int ow, .int oh]) (n := 11) (Nat.le_of_ble_eq_true rfl)
  rw [lg_entry_eq]
  generalize (lg_sl ([.ref h0, .int k, .int ax, .int ay, .int aw, .int ah, .int kq, .int ox, .int oy, .int ow, .int oh]) ++ List.replicate (11 - (lg_sl ([.ref h0, .int k, .int ax, .int ay, .int aw, .int ah, .int kq, .int ox, .int oy, .int ow, .int oh])).length) Slot.unset).toArray = ls at hl ⊢
  have hl : lv_has ls 11 [(0, .ref h0), (1, .int k), (2, .int ax), (3, .int ay), (4, .int aw), (5, .int ah), (6, .int kq), (7, .int ox), (8, .int oy), (9, .int ow), (10, .int oh)] := hl
  clear hts0 hD0 hAe
  refine my_abs (fun R Q hR hQ => ?_)
  refine lv_iload hx hb dX8_stretch_0 (lv_at hl 4 rfl) ?_
  have hPc := hP.sub (ws' := []) [] rfl
  have hDc := hD.sub (ws' := []) [] (by decide) rfl
  have hKc := hK.sub (tys' := []) [] rfl
  have hFc := va_free (wc := []) hD hS hA [] rfl
  refine va_calli (va_runS (As := [.int aw]) (rest := []) ⟨hx, hb, hml, hown, hts⟩ (k_X8_isSide l D s.heap.size aw) (va_cwS 1 hts (gS bw_247 bw_353 bw_223 bw_352) rfl rfl rfl (by decide +kernel) ⟨(by rw [hR]; exact Nat.le_of_ble_eq_true rfl), (by rw [hR]; exact Nat.le_of_ble_eq_true rfl)⟩) ⟨cP_blind, cP_at hPc hKc hDc hN⟩ rfl rfl hl.1 rfl (lv_room (Nat.le_of_ble_eq_true rfl)) dX8_stretch_2 ⟨(by rw [hR]; exact Nat.le_of_ble_eq_true rfl), (by rw [hR]; exact Nat.le_of_ble_eq_true rfl)⟩) hS (fun q _ h => hFc q h) hFc (fun r_1 u9 t9 H1 locs ht hvm hr_1 hB hz1 hk1 hS => ?_)
  try dsimp only at hr_1
  have hP1 : va_P D vwCl [] H1 := vP_nil
  have hD1 : va_D (va_A [] s.heap.size) [] := vD_nil
  obtain ⟨hP, hD⟩ := va_join (wr := [(h0, .inr (8, [.ref s1, .ref s2, .ref s3, .ref s4, .ref s5, .ref s6, .int ds, va_rf sp, va_rf bt])), (s1, .inl (cO, 4, .inr (.inr (.inr (.inr f))))), (s2, .inr (1, [.ref bx, .int ik, .int wy, .int op])), (bx, .inr (0, [.int bx0, .int by0, .int bx1, .int by1])), (t0, .inr (5, [.ref d0, .int w, .int h])), (d0, .inl (cI, 4096, .inl g)), (u0, .inr (5, [.ref e0, .int w2, .int h2])), (e0, .inl (cI, 4096, .inl gs))]) (w1 := []) hP hD [] [0, 1, 2, 3, 4, 5, 6, 7] rfl rfl (by decide) (by decide) hk1 hFc hP1 hD1
  clear hz1 hk1 hFc hKc hDc hPc
  generalize H1 = H at hP hS ⊢
  have hP : va_P D vwCl [(h0, .inr (8, [.ref s1, .ref s2, .ref s3, .ref s4, .ref s5, .ref s6, .int ds, va_rf sp, va_rf bt])), (s1, .inl (cO, 4, .inr (.inr (.inr (.inr f))))), (s2, .inr (1, [.ref bx, .int ik, .int wy, .int op])), (bx, .inr (0, [.int bx0, .int by0, .int bx1, .int by1])), (t0, .inr (5, [.ref d0, .int w, .int h])), (d0, .inl (cI, 4096, .inl g)), (u0, .inr (5, [.ref e0, .int w2, .int h2])), (e0, .inl (cI, 4096, .inl gs))] H := hP
  have hD : va_D A [(h0, .inr (8, [.ref s1, .ref s2, .ref s3, .ref s4, .ref s5, .ref s6, .int ds, va_rf sp, va_rf bt])), (s1, .inl (cO, 4, .inr (.inr (.inr (.inr f))))), (s2, .inr (1, [.ref bx, .int ik, .int wy, .int op])), (bx, .inr (0, [.int bx0, .int by0, .int bx1, .int by1])), (t0, .inr (5, [.ref d0, .int w, .int h])), (d0, .inl (cI, 4096, .inl g)), (u0, .inr (5, [.ref e0, .int w2, .int h2])), (e0, .inl (cI, 4096, .inl gs))] := hD
  refine lv_if_eq (tgt := 32) hx hb dX8_stretch_5 (by decide) (fun c_2 => ?_) (fun c_2 => ?_)
  · skip
    have f_3 := bz0 hr_1 c_2
    exact False.elim (by omega)
  · skip
    have f_3 := bz1 hr_1 c_2
    refine lv_iload hx hb dX8_stretch_8 (lv_at hl 5 rfl) ?_
    have hPc := hP.sub (ws' := []) [] rfl
    have hDc := hD.sub (ws' := []) [] (by decide) rfl
    have hKc := hK.sub (tys' := []) [] rfl
    have hFc := va_free (wc := []) hD hS hA [] rfl
    refine va_calli (va_runS (As := [.int ah]) (rest := []) ⟨hx, hb, hml, hown, hts⟩ (k_X8_isSide l D H.size ah) (va_cwS 1 hts (gS bw_247 bw_353 bw_223 bw_352) rfl rfl rfl (by decide +kernel) ⟨(by rw [hR]; exact Nat.le_of_ble_eq_true rfl), (by rw [hR]; exact Nat.le_of_ble_eq_true rfl)⟩) ⟨cP_blind, cP_at hPc hKc hDc hN⟩ rfl rfl hl.1 rfl (lv_room (Nat.le_of_ble_eq_true rfl)) dX8_stretch_10 ⟨(by rw [hR]; exact Nat.le_of_ble_eq_true rfl), (by rw [hR]; exact Nat.le_of_ble_eq_true rfl)⟩) hS (fun q _ h => hFc q h) hFc (fun r_4 u9 t9 H1 locs ht hvm hr_4 hB hz1 hk1 hS => ?_)
    try dsimp only at hr_4
    have hP1 : va_P D vwCl [] H1 := vP_nil
    have hD1 : va_D (va_A [] H.size) [] := vD_nil
    obtain ⟨hP, hD⟩ := va_join (wr := [(h0, .inr (8, [.ref s1, .ref s2, .ref s3, .ref s4, .ref s5, .ref s6, .int ds, va_rf sp, va_rf bt])), (s1, .inl (cO, 4, .inr (.inr (.inr (.inr f))))), (s2, .inr (1, [.ref bx, .int ik, .int wy, .int op])), (bx, .inr (0, [.int bx0, .int by0, .int bx1, .int by1])), (t0, .inr (5, [.ref d0, .int w, .int h])), (d0, .inl (cI, 4096, .inl g)), (u0, .inr (5, [.ref e0, .int w2, .int h2])), (e0, .inl (cI, 4096, .inl gs))]) (w1 := []) hP hD [] [0, 1, 2, 3, 4, 5, 6, 7] rfl rfl (by decide) (by decide) hk1 hFc hP1 hD1
    clear hz1 hk1 hFc hKc hDc hPc
    generalize H1 = H at hP hS ⊢
    have hP : va_P D vwCl [(h0, .inr (8, [.ref s1, .ref s2, .ref s3, .ref s4, .ref s5, .ref s6, .int ds, va_rf sp, va_rf bt])), (s1, .inl (cO, 4, .inr (.inr (.inr (.inr f))))), (s2, .inr (1, [.ref bx, .int ik, .int wy, .int op])), (bx, .inr (0, [.int bx0, .int by0, .int bx1, .int by1])), (t0, .inr (5, [.ref d0, .int w, .int h])), (d0, .inl (cI, 4096, .inl g)), (u0, .inr (5, [.ref e0, .int w2, .int h2])), (e0, .inl (cI, 4096, .inl gs))] H := hP
    have hD : va_D A [(h0, .inr (8, [.ref s1, .ref s2, .ref s3, .ref s4, .ref s5, .ref s6, .int ds, va_rf sp, va_rf bt])), (s1, .inl (cO, 4, .inr (.inr (.inr (.inr f))))), (s2, .inr (1, [.ref bx, .int ik, .int wy, .int op])), (bx, .inr (0, [.int bx0, .int by0, .int bx1, .int by1])), (t0, .inr (5, [.ref d0, .int w, .int h])), (d0, .inl (cI, 4096, .inl g)), (u0, .inr (5, [.ref e0, .int w2, .int h2])), (e0, .inl (cI, 4096, .inl gs))] := hD
    refine lv_if_eq (tgt := 32) hx hb dX8_stretch_13 (by decide) (fun c_5 => ?_) (fun c_5 => ?_)
    · skip
      have f_6 := bz0 hr_4 c_5
      exact False.elim (by omega)
    · skip
      have f_6 := bz1 hr_4 c_5
      refine lv_iload hx hb dX8_stretch_16 (lv_at hl 9 rfl) ?_
      have hPc := hP.sub (ws' := []) [] rfl
      have hDc := hD.sub (ws' := []) [] (by decide) rfl
      have hKc := hK.sub (tys' := []) [] rfl
      have hFc := va_free (wc := []) hD hS hA [] rfl
      refine va_calli (va_runS (As := [.int ow]) (rest := []) ⟨hx, hb, hml, hown, hts⟩ (k_X8_isSide l D H.size ow) (va_cwS 1 hts (gS bw_247 bw_353 bw_223 bw_352) rfl rfl rfl (by decide +kernel) ⟨(by rw [hR]; exact Nat.le_of_ble_eq_true rfl), (by rw [hR]; exact Nat.le_of_ble_eq_true rfl)⟩) ⟨cP_blind, cP_at hPc hKc hDc hN⟩ rfl rfl hl.1 rfl (lv_room (Nat.le_of_ble_eq_true rfl)) dX8_stretch_18 ⟨(by rw [hR]; exact Nat.le_of_ble_eq_true rfl), (by rw [hR]; exact Nat.le_of_ble_eq_true rfl)⟩) hS (fun q _ h => hFc q h) hFc (fun r_7 u9 t9 H1 locs ht hvm hr_7 hB hz1 hk1 hS => ?_)
      try dsimp only at hr_7
      have hP1 : va_P D vwCl [] H1 := vP_nil
      have hD1 : va_D (va_A [] H.size) [] := vD_nil
      obtain ⟨hP, hD⟩ := va_join (wr := [(h0, .inr (8, [.ref s1, .ref s2, .ref s3, .ref s4, .ref s5, .ref s6, .int ds, va_rf sp, va_rf bt])), (s1, .inl (cO, 4, .inr (.inr (.inr (.inr f))))), (s2, .inr (1, [.ref bx, .int ik, .int wy, .int op])), (bx, .inr (0, [.int bx0, .int by0, .int bx1, .int by1])), (t0, .inr (5, [.ref d0, .int w, .int h])), (d0, .inl (cI, 4096, .inl g)), (u0, .inr (5, [.ref e0, .int w2, .int h2])), (e0, .inl (cI, 4096, .inl gs))]) (w1 := []) hP hD [] [0, 1, 2, 3, 4, 5, 6, 7] rfl rfl (by decide) (by decide) hk1 hFc hP1 hD1
      clear hz1 hk1 hFc hKc hDc hPc
      generalize H1 = H at hP hS ⊢
      have hP : va_P D vwCl [(h0, .inr (8, [.ref s1, .ref s2, .ref s3, .ref s4, .ref s5, .ref s6, .int ds, va_rf sp, va_rf bt])), (s1, .inl (cO, 4, .inr (.inr (.inr (.inr f))))), (s2, .inr (1, [.ref bx, .int ik, .int wy, .int op])), (bx, .inr (0, [.int bx0, .int by0, .int bx1, .int by1])), (t0, .inr (5, [.ref d0, .int w, .int h])), (d0, .inl (cI, 4096, .inl g)), (u0, .inr (5, [.ref e0, .int w2, .int h2])), (e0, .inl (cI, 4096, .inl gs))] H := hP
      have hD : va_D A [(h0, .inr (8, [.ref s1, .ref s2, .ref s3, .ref s4, .ref s5, .ref s6, .int ds, va_rf sp, va_rf bt])), (s1, .inl (cO, 4, .inr (.inr (.inr (.inr f))))), (s2, .inr (1, [.ref bx, .int ik, .int wy, .int op])), (bx, .inr (0, [.int bx0, .int by0, .int bx1, .int by1])), (t0, .inr (5, [.ref d0, .int w, .int h])), (d0, .inl (cI, 4096, .inl g)), (u0, .inr (5, [.ref e0, .int w2, .int h2])), (e0, .inl (cI, 4096, .inl gs))] := hD
      refine lv_if_eq (tgt := 32) hx hb dX8_stretch_21 (by decide) (fun c_8 => ?_) (fun c_8 => ?_)
      · skip
        have f_9 := bz0 hr_7 c_8
        exact False.elim (by omega)
      · skip
        have f_9 := bz1 hr_7 c_8
        refine lv_iload hx hb dX8_stretch_24 (lv_at hl 10 rfl) ?_
        have hPc := hP.sub (ws' := []) [] rfl
        have hDc := hD.sub (ws' := []) [] (by decide) rfl
        have hKc := hK.sub (tys' := []) [] rfl
        have hFc := va_free (wc := []) hD hS hA [] rfl
        refine va_calli (va_runS (As := [.int oh]) (rest := []) ⟨hx, hb, hml, hown, hts⟩ (k_X8_isSide l D H.size oh) (va_cwS 1 hts (gS bw_247 bw_353 bw_223 bw_352) rfl rfl rfl (by decide +kernel) ⟨(by rw [hR]; exact Nat.le_of_ble_eq_true rfl), (by rw [hR]; exact Nat.le_of_ble_eq_true rfl)⟩) ⟨cP_blind, cP_at hPc hKc hDc hN⟩ rfl rfl hl.1 rfl (lv_room (Nat.le_of_ble_eq_true rfl)) dX8_stretch_26 ⟨(by rw [hR]; exact Nat.le_of_ble_eq_true rfl), (by rw [hR]; exact Nat.le_of_ble_eq_true rfl)⟩) hS (fun q _ h => hFc q h) hFc (fun r_10 u9 t9 H1 locs ht hvm hr_10 hB hz1 hk1 hS => ?_)
        try dsimp only at hr_10
        have hP1 : va_P D vwCl [] H1 := vP_nil
        have hD1 : va_D (va_A [] H.size) [] := vD_nil
        obtain ⟨hP, hD⟩ := va_join (wr := [(h0, .inr (8, [.ref s1, .ref s2, .ref s3, .ref s4, .ref s5, .ref s6, .int ds, va_rf sp, va_rf bt])), (s1, .inl (cO, 4, .inr (.inr (.inr (.inr f))))), (s2, .inr (1, [.ref bx, .int ik, .int wy, .int op])), (bx, .inr (0, [.int bx0, .int by0, .int bx1, .int by1])), (t0, .inr (5, [.ref d0, .int w, .int h])), (d0, .inl (cI, 4096, .inl g)), (u0, .inr (5, [.ref e0, .int w2, .int h2])), (e0, .inl (cI, 4096, .inl gs))]) (w1 := []) hP hD [] [0, 1, 2, 3, 4, 5, 6, 7] rfl rfl (by decide) (by decide) hk1 hFc hP1 hD1
        clear hz1 hk1 hFc hKc hDc hPc
        generalize H1 = H at hP hS ⊢
        have hP : va_P D vwCl [(h0, .inr (8, [.ref s1, .ref s2, .ref s3, .ref s4, .ref s5, .ref s6, .int ds, va_rf sp, va_rf bt])), (s1, .inl (cO, 4, .inr (.inr (.inr (.inr f))))), (s2, .inr (1, [.ref bx, .int ik, .int wy, .int op])), (bx, .inr (0, [.int bx0, .int by0, .int bx1, .int by1])), (t0, .inr (5, [.ref d0, .int w, .int h])), (d0, .inl (cI, 4096, .inl g)), (u0, .inr (5, [.ref e0, .int w2, .int h2])), (e0, .inl (cI, 4096, .inl gs))] H := hP
        have hD : va_D A [(h0, .inr (8, [.ref s1, .ref s2, .ref s3, .ref s4, .ref s5, .ref s6, .int ds, va_rf sp, va_rf bt])), (s1, .inl (cO, 4, .inr (.inr (.inr (.inr f))))), (s2, .inr (1, [.ref bx, .int ik, .int wy, .int op])), (bx, .inr (0, [.int bx0, .int by0, .int bx1, .int by1])), (t0, .inr (5, [.ref d0, .int w, .int h])), (d0, .inl (cI, 4096, .inl g)), (u0, .inr (5, [.ref e0, .int w2, .int h2])), (e0, .inl (cI, 4096, .inl gs))] := hD
        refine lv_if_ne (tgt := 34) hx hb dX8_stretch_29 (by decide) (fun c_11 => ?_) (fun c_11 => ?_)
        · skip
          have f_12 := bz1 hr_10 c_11
          refine lv_aload_n hx hb dX8_stretch_34 rfl (lv_at hl 0 rfl) ?_
          refine lv_iload_n hx hb dX8_stretch_35 rfl (lv_at hl 1 rfl) ?_
          refine va_new (ci := 2) (fs := [.int 0, .int 0, .int 0, .int 0]) (C := RX2) (T := TX2) (N := 4) hx hb hts hi_X2 tyX2 tyX2_ok hown (hts _ bw_316) (hts _ bw_56) (hts _ bw_55) hK hP hD hS hA rfl z_X2 (by rw [hR]; exact Nat.le_of_ble_eq_true rfl) (by rw [hR]; exact Nat.le_of_ble_eq_true rfl) dX8_stretch_36 (fun q_13 H hP hD hS => ?_)
          have hP : va_P D vwCl [(h0, .inr (8, [.ref s1, .ref s2, .ref s3, .ref s4, .ref s5, .ref s6, .int ds, va_rf sp, va_rf bt])), (s1, .inl (cO, 4, .inr (.inr (.inr (.inr f))))), (s2, .inr (1, [.ref bx, .int ik, .int wy, .int op])), (bx, .inr (0, [.int bx0, .int by0, .int bx1, .int by1])), (t0, .inr (5, [.ref d0, .int w, .int h])), (d0, .inl (cI, 4096, .inl g)), (u0, .inr (5, [.ref e0, .int w2, .int h2])), (e0, .inl (cI, 4096, .inl gs)), (q_13, .inr (2, [.int 0, .int 0, .int 0, .int 0]))] H := hP
          have hD : va_D A [(h0, .inr (8, [.ref s1, .ref s2, .ref s3, .ref s4, .ref s5, .ref s6, .int ds, va_rf sp, va_rf bt])), (s1, .inl (cO, 4, .inr (.inr (.inr (.inr f))))), (s2, .inr (1, [.ref bx, .int ik, .int wy, .int op])), (bx, .inr (0, [.int bx0, .int by0, .int bx1, .int by1])), (t0, .inr (5, [.ref d0, .int w, .int h])), (d0, .inl (cI, 4096, .inl g)), (u0, .inr (5, [.ref e0, .int w2, .int h2])), (e0, .inl (cI, 4096, .inl gs)), (q_13, .inr (2, [.int 0, .int 0, .int 0, .int 0]))] := hD
          refine W.widen (k := 1) (n := 4) (by omega) (by omega) ?_
          refine lv_dup hx hb dX8_stretch_39 rfl ?_
          refine lv_iload_n hx hb dX8_stretch_40 rfl (lv_at hl 2 rfl) ?_
          refine lv_iload_n hx hb dX8_stretch_41 rfl (lv_at hl 3 rfl) ?_
          refine lv_iload hx hb dX8_stretch_42 (lv_at hl 4 rfl) ?_
          refine lv_iload hx hb dX8_stretch_44 (lv_at hl 5 rfl) ?_
          have hPc := hP.sub (ws' := [(q_13, .inr (2, [.int 0, .int 0, .int 0, .int 0]))]) [8] rfl
          have hDc := hD.sub (ws' := [(q_13, .inr (2, [.int 0, .int 0, .int 0, .int 0]))]) [8] (by decide) rfl
          have hKc := hK.sub (tys' := []) [] rfl
          have hFc := va_free (wc := [(q_13, .inr (2, [.int 0, .int 0, .int 0, .int 0]))]) hD hS hA [8] rfl
          refine va_callv (va_runI (As := [.int ax, .int ay, .int aw, .int ah]) (rest := [.ref q_13, .int k, .ref h0]) ⟨hx, hb, hml, hown, hts⟩ (k_X2_init l D H.size q_13 ax ay aw ah) (cwI 4 hts (gI bw_57) rfl rfl rfl (hts _ bw_55) (hts _ bw_317) (hts _ bw_58) rfl (by decide +kernel) ⟨(by rw [hR]; exact Nat.le_of_ble_eq_true rfl), (by rw [hR]; exact Nat.le_of_ble_eq_true rfl)⟩) ⟨cP_blind, cP_at hPc hKc hDc hN⟩ rfl rfl hl.1 rfl (lv_room (Nat.le_of_ble_eq_true rfl)) dX8_stretch_46 ⟨(by rw [hR]; exact Nat.le_of_ble_eq_true rfl), (by rw [hR]; exact Nat.le_of_ble_eq_true rfl)⟩) hS (fun q _ h => hFc q h) hFc (fun u9 t9 H1 locs ht hvm hr_14 hB hz1 hk1 hS => ?_)
          try dsimp only at hr_14
          obtain ⟨hP1, hK1, hD1⟩ := hB
          rw [ht] at hP1
          obtain ⟨hP, hD⟩ := va_join (wr := [(h0, .inr (8, [.ref s1, .ref s2, .ref s3, .ref s4, .ref s5, .ref s6, .int ds, va_rf sp, va_rf bt])), (s1, .inl (cO, 4, .inr (.inr (.inr (.inr f))))), (s2, .inr (1, [.ref bx, .int ik, .int wy, .int op])), (bx, .inr (0, [.int bx0, .int by0, .int bx1, .int by1])), (t0, .inr (5, [.ref d0, .int w, .int h])), (d0, .inl (cI, 4096, .inl g)), (u0, .inr (5, [.ref e0, .int w2, .int h2])), (e0, .inl (cI, 4096, .inl gs))]) (w1 := [(q_13, .inr (2, [.int ax, .int ay, .int aw, .int ah]))]) hP hD [8] [0, 1, 2, 3, 4, 5, 6, 7] rfl rfl (by decide) (by decide) hk1 hFc hP1 hD1
          clear hz1 hk1 hFc hKc hDc hPc
          generalize H1 = H at hP hS ⊢
          have hP : va_P D vwCl [(h0, .inr (8, [.ref s1, .ref s2, .ref s3, .ref s4, .ref s5, .ref s6, .int ds, va_rf sp, va_rf bt])), (s1, .inl (cO, 4, .inr (.inr (.inr (.inr f))))), (s2, .inr (1, [.ref bx, .int ik, .int wy, .int op])), (bx, .inr (0, [.int bx0, .int by0, .int bx1, .int by1])), (t0, .inr (5, [.ref d0, .int w, .int h])), (d0, .inl (cI, 4096, .inl g)), (u0, .inr (5, [.ref e0, .int w2, .int h2])), (e0, .inl (cI, 4096, .inl gs)), (q_13, .inr (2, [.int ax, .int ay, .int aw, .int ah]))] H := hP
          have hD : va_D A [(h0, .inr (8, [.ref s1, .ref s2, .ref s3, .ref s4, .ref s5, .ref s6, .int ds, va_rf sp, va_rf bt])), (s1, .inl (cO, 4, .inr (.inr (.inr (.inr f))))), (s2, .inr (1, [.ref bx, .int ik, .int wy, .int op])), (bx, .inr (0, [.int bx0, .int by0, .int bx1, .int by1])), (t0, .inr (5, [.ref d0, .int w, .int h])), (d0, .inl (cI, 4096, .inl g)), (u0, .inr (5, [.ref e0, .int w2, .int h2])), (e0, .inl (cI, 4096, .inl gs)), (q_13, .inr (2, [.int ax, .int ay, .int aw, .int ah]))] := hD
          refine lv_iload hx hb dX8_stretch_49 (lv_at hl 6 rfl) ?_
          refine va_new (ci := 2) (fs := [.int 0, .int 0, .int 0, .int 0]) (C := RX2) (T := TX2) (N := 4) hx hb hts hi_X2 tyX2 tyX2_ok hown (hts _ bw_316) (hts _ bw_56) (hts _ bw_55) hK hP hD hS hA rfl z_X2 (by rw [hR]; exact Nat.le_of_ble_eq_true rfl) (by rw [hR]; exact Nat.le_of_ble_eq_true rfl) dX8_stretch_51 (fun q_15 H hP hD hS => ?_)
          have hP : va_P D vwCl [(h0, .inr (8, [.ref s1, .ref s2, .ref s3, .ref s4, .ref s5, .ref s6, .int ds, va_rf sp, va_rf bt])), (s1, .inl (cO, 4, .inr (.inr (.inr (.inr f))))), (s2, .inr (1, [.ref bx, .int ik, .int wy, .int op])), (bx, .inr (0, [.int bx0, .int by0, .int bx1, .int by1])), (t0, .inr (5, [.ref d0, .int w, .int h])), (d0, .inl (cI, 4096, .inl g)), (u0, .inr (5, [.ref e0, .int w2, .int h2])), (e0, .inl (cI, 4096, .inl gs)), (q_13, .inr (2, [.int ax, .int ay, .int aw, .int ah])), (q_15, .inr (2, [.int 0, .int 0, .int 0, .int 0]))] H := hP
          have hD : va_D A [(h0, .inr (8, [.ref s1, .ref s2, .ref s3, .ref s4, .ref s5, .ref s6, .int ds, va_rf sp, va_rf bt])), (s1, .inl (cO, 4, .inr (.inr (.inr (.inr f))))), (s2, .inr (1, [.ref bx, .int ik, .int wy, .int op])), (bx, .inr (0, [.int bx0, .int by0, .int bx1, .int by1])), (t0, .inr (5, [.ref d0, .int w, .int h])), (d0, .inl (cI, 4096, .inl g)), (u0, .inr (5, [.ref e0, .int w2, .int h2])), (e0, .inl (cI, 4096, .inl gs)), (q_13, .inr (2, [.int ax, .int ay, .int aw, .int ah])), (q_15, .inr (2, [.int 0, .int 0, .int 0, .int 0]))] := hD
          refine W.widen (k := 2) (n := 8) (by omega) (by omega) ?_
          refine lv_dup hx hb dX8_stretch_54 rfl ?_
          refine lv_iload hx hb dX8_stretch_55 (lv_at hl 7 rfl) ?_
          refine lv_iload hx hb dX8_stretch_57 (lv_at hl 8 rfl) ?_
          refine lv_iload hx hb dX8_stretch_59 (lv_at hl 9 rfl) ?_
          refine lv_iload hx hb dX8_stretch_61 (lv_at hl 10 rfl) ?_
          have hPc := hP.sub (ws' := [(q_15, .inr (2, [.int 0, .int 0, .int 0, .int 0]))]) [9] rfl
          have hDc := hD.sub (ws' := [(q_15, .inr (2, [.int 0, .int 0, .int 0, .int 0]))]) [9] (by decide) rfl
          have hKc := hK.sub (tys' := []) [] rfl
          have hFc := va_free (wc := [(q_15, .inr (2, [.int 0, .int 0, .int 0, .int 0]))]) hD hS hA [9] rfl
          refine va_callv (va_runI (As := [.int ox, .int oy, .int ow, .int oh]) (rest := [.ref q_15, .int kq, .ref q_13, .int k, .ref h0]) ⟨hx, hb, hml, hown, hts⟩ (k_X2_init l D H.size q_15 ox oy ow oh) (cwI 4 hts (gI bw_57) rfl rfl rfl (hts _ bw_55) (hts _ bw_317) (hts _ bw_58) rfl (by decide +kernel) ⟨(by rw [hR]; exact Nat.le_of_ble_eq_true rfl), (by rw [hR]; exact Nat.le_of_ble_eq_true rfl)⟩) ⟨cP_blind, cP_at hPc hKc hDc hN⟩ rfl rfl hl.1 rfl (lv_room (Nat.le_of_ble_eq_true rfl)) dX8_stretch_63 ⟨(by rw [hR]; exact Nat.le_of_ble_eq_true rfl), (by rw [hR]; exact Nat.le_of_ble_eq_true rfl)⟩) hS (fun q _ h => hFc q h) hFc (fun u9 t9 H1 locs ht hvm hr_16 hB hz1 hk1 hS => ?_)
          try dsimp only at hr_16
          obtain ⟨hP1, hK1, hD1⟩ := hB
          rw [ht] at hP1
          obtain ⟨hP, hD⟩ := va_join (wr := [(h0, .inr (8, [.ref s1, .ref s2, .ref s3, .ref s4, .ref s5, .ref s6, .int ds, va_rf sp, va_rf bt])), (s1, .inl (cO, 4, .inr (.inr (.inr (.inr f))))), (s2, .inr (1, [.ref bx, .int ik, .int wy, .int op])), (bx, .inr (0, [.int bx0, .int by0, .int bx1, .int by1])), (t0, .inr (5, [.ref d0, .int w, .int h])), (d0, .inl (cI, 4096, .inl g)), (u0, .inr (5, [.ref e0, .int w2, .int h2])), (e0, .inl (cI, 4096, .inl gs)), (q_13, .inr (2, [.int ax, .int ay, .int aw, .int ah]))]) (w1 := [(q_15, .inr (2, [.int ox, .int oy, .int ow, .int oh]))]) hP hD [9] [0, 1, 2, 3, 4, 5, 6, 7, 8] rfl rfl (by decide) (by decide) hk1 hFc hP1 hD1
          clear hz1 hk1 hFc hKc hDc hPc
          generalize H1 = H at hP hS ⊢
          have hP : va_P D vwCl [(h0, .inr (8, [.ref s1, .ref s2, .ref s3, .ref s4, .ref s5, .ref s6, .int ds, va_rf sp, va_rf bt])), (s1, .inl (cO, 4, .inr (.inr (.inr (.inr f))))), (s2, .inr (1, [.ref bx, .int ik, .int wy, .int op])), (bx, .inr (0, [.int bx0, .int by0, .int bx1, .int by1])), (t0, .inr (5, [.ref d0, .int w, .int h])), (d0, .inl (cI, 4096, .inl g)), (u0, .inr (5, [.ref e0, .int w2, .int h2])), (e0, .inl (cI, 4096, .inl gs)), (q_13, .inr (2, [.int ax, .int ay, .int aw, .int ah])), (q_15, .inr (2, [.int ox, .int oy, .int ow, .int oh]))] H := hP
          have hD : va_D A [(h0, .inr (8, [.ref s1, .ref s2, .ref s3, .ref s4, .ref s5, .ref s6, .int ds, va_rf sp, va_rf bt])), (s1, .inl (cO, 4, .inr (.inr (.inr (.inr f))))), (s2, .inr (1, [.ref bx, .int ik, .int wy, .int op])), (bx, .inr (0, [.int bx0, .int by0, .int bx1, .int by1])), (t0, .inr (5, [.ref d0, .int w, .int h])), (d0, .inl (cI, 4096, .inl g)), (u0, .inr (5, [.ref e0, .int w2, .int h2])), (e0, .inl (cI, 4096, .inl gs)), (q_13, .inr (2, [.int ax, .int ay, .int aw, .int ah])), (q_15, .inr (2, [.int ox, .int oy, .int ow, .int oh]))] := hD
          have hPc := hP.sub (ws' := [(h0, .inr (8, [.ref s1, .ref s2, .ref s3, .ref s4, .ref s5, .ref s6, .int ds, va_rf sp, va_rf bt])), (s1, .inl (cO, 4, .inr (.inr (.inr (.inr f))))), (s2, .inr (1, [.ref bx, .int ik, .int wy, .int op])), (bx, .inr (0, [.int bx0, .int by0, .int bx1, .int by1])), (t0, .inr (5, [.ref d0, .int w, .int h])), (d0, .inl (cI, 4096, .inl g)), (u0, .inr (5, [.ref e0, .int w2, .int h2])), (e0, .inl (cI, 4096, .inl gs)), (q_13, .inr (2, [.int ax, .int ay, .int aw, .int ah])), (q_15, .inr (2, [.int ox, .int oy, .int ow, .int oh]))]) [0, 1, 2, 3, 4, 5, 6, 7, 8, 9] rfl
          have hDc := hD.sub (ws' := [(h0, .inr (8, [.ref s1, .ref s2, .ref s3, .ref s4, .ref s5, .ref s6, .int ds, va_rf sp, va_rf bt])), (s1, .inl (cO, 4, .inr (.inr (.inr (.inr f))))), (s2, .inr (1, [.ref bx, .int ik, .int wy, .int op])), (bx, .inr (0, [.int bx0, .int by0, .int bx1, .int by1])), (t0, .inr (5, [.ref d0, .int w, .int h])), (d0, .inl (cI, 4096, .inl g)), (u0, .inr (5, [.ref e0, .int w2, .int h2])), (e0, .inl (cI, 4096, .inl gs)), (q_13, .inr (2, [.int ax, .int ay, .int aw, .int ah])), (q_15, .inr (2, [.int ox, .int oy, .int ow, .int oh]))]) [0, 1, 2, 3, 4, 5, 6, 7, 8, 9] (by decide) rfl
          have hKc := hK.sub (tys' := [(cO, .object "DotBench$Sheet"), (cI, .int)]) [0, 1] rfl
          have hFc := va_free (wc := [(h0, .inr (8, [.ref s1, .ref s2, .ref s3, .ref s4, .ref s5, .ref s6, .int ds, va_rf sp, va_rf bt])), (s1, .inl (cO, 4, .inr (.inr (.inr (.inr f))))), (s2, .inr (1, [.ref bx, .int ik, .int wy, .int op])), (bx, .inr (0, [.int bx0, .int by0, .int bx1, .int by1])), (t0, .inr (5, [.ref d0, .int w, .int h])), (d0, .inl (cI, 4096, .inl g)), (u0, .inr (5, [.ref e0, .int w2, .int h2])), (e0, .inl (cI, 4096, .inl gs)), (q_13, .inr (2, [.int ax, .int ay, .int aw, .int ah])), (q_15, .inr (2, [.int ox, .int oy, .int ow, .int oh]))]) hD hS hA [0, 1, 2, 3, 4, 5, 6, 7, 8, 9] rfl
          refine va_calli (va_runV (As := [.int k, .ref q_13, .int kq, .ref q_15]) (rest := []) ⟨hx, hb, hml, hown, hts⟩ (k_X8_carry_de l D H.size h0 s1 s2 s3 s4 s5 s6 ds sp bt f bx t0 d0 ik wy op bx0 by0 bx1 by1 w h g u0 e0 w2 h2 gs q_13 q_15 ax ay aw ah ox oy ow oh k kq cO cI (by first | assumption | omega | decide) (by first | assumption | omega | decide) (by first | assumption | omega | decide) (by first | assumption | omega | decide) (by first | assumption | omega | decide) (by first | assumption | omega | decide) (by first | assumption | omega | decide) (by first | assumption | omega | decide) (by first | assumption | omega | decide) (by first | assumption | omega | decide) (by first | assumption | omega | decide) (by first | assumption | omega | decide) (by first | assumption | omega | decide)) (cwV 4 hts (gV bw_318 bw_383 bw_384 bw_223 bw_382) rfl rfl rfl (by decide +kernel) ⟨(by rw [hR]; exact Nat.le_of_ble_eq_true rfl), (by rw [hR]; exact Nat.le_of_ble_eq_true rfl)⟩) ⟨cP_blind, va_recv hKc hPc (ci := 8) (q0 := 0) rfl rfl, cP_at hPc hKc hDc hN⟩ rfl rfl hl.1 rfl (lv_room (Nat.le_of_ble_eq_true rfl)) dX8_stretch_66 ⟨(by rw [hR]; exact Nat.le_of_ble_eq_true rfl), (by rw [hR]; exact Nat.le_of_ble_eq_true rfl)⟩) hS (fun q _ h => hFc q h) hFc (fun r_17 u9 t9 H1 locs ht hvm hr_17 hB hz1 hk1 hS => ?_)
          try dsimp only at hr_17
          obtain ⟨hP1, hK1, hD1⟩ := hB
          rw [ht] at hP1
          obtain ⟨hP, hD⟩ := va_join (wr := []) (w1 := [(h0, .inr (8, [.ref s1, .ref s2, .ref s3, .ref s4, .ref s5, .ref s6, .int ds, va_rf sp, va_rf bt])), (s1, .inl (cO, 4, .inr (.inr (.inr (.inr f))))), (s2, .inr (1, [.ref bx, .int ik, .int wy, .int op])), (bx, .inr (0, [.int bx0, .int by0, .int bx1, .int by1])), (t0, .inr (5, [.ref d0, .int w, .int h])), (d0, .inl (cI, 4096, .inl ((gL (cyQ ax ay aw ah ox oy ow oh w2 h2 op gs) ow.toNatClampNeg oh.toNatClampNeg).foldl (layG w h bx0 by0 bx1 by1 wy) g))), (u0, .inr (5, [.ref e0, .int w2, .int h2])), (e0, .inl (cI, 4096, .inl gs))]) hP hD [0, 1, 2, 3, 4, 5, 6, 7, 8, 9] [] rfl rfl (by decide) (by decide) hk1 hFc hP1 hD1
          clear hz1 hk1 hFc hKc hDc hPc
          generalize H1 = H at hP hS ⊢
          have hP : va_P D vwCl [(h0, .inr (8, [.ref s1, .ref s2, .ref s3, .ref s4, .ref s5, .ref s6, .int ds, va_rf sp, va_rf bt])), (s1, .inl (cO, 4, .inr (.inr (.inr (.inr f))))), (s2, .inr (1, [.ref bx, .int ik, .int wy, .int op])), (bx, .inr (0, [.int bx0, .int by0, .int bx1, .int by1])), (t0, .inr (5, [.ref d0, .int w, .int h])), (d0, .inl (cI, 4096, .inl ((gL (cyQ ax ay aw ah ox oy ow oh w2 h2 op gs) ow.toNatClampNeg oh.toNatClampNeg).foldl (layG w h bx0 by0 bx1 by1 wy) g))), (u0, .inr (5, [.ref e0, .int w2, .int h2])), (e0, .inl (cI, 4096, .inl gs))] H := hP
          have hD : va_D A [(h0, .inr (8, [.ref s1, .ref s2, .ref s3, .ref s4, .ref s5, .ref s6, .int ds, va_rf sp, va_rf bt])), (s1, .inl (cO, 4, .inr (.inr (.inr (.inr f))))), (s2, .inr (1, [.ref bx, .int ik, .int wy, .int op])), (bx, .inr (0, [.int bx0, .int by0, .int bx1, .int by1])), (t0, .inr (5, [.ref d0, .int w, .int h])), (d0, .inl (cI, 4096, .inl ((gL (cyQ ax ay aw ah ox oy ow oh w2 h2 op gs) ow.toNatClampNeg oh.toNatClampNeg).foldl (layG w h bx0 by0 bx1 by1 wy) g))), (u0, .inr (5, [.ref e0, .int w2, .int h2])), (e0, .inl (cI, 4096, .inl gs))] := hD
          have hP9 := hP.sub (ws' := [(h0, .inr (8, [.ref s1, .ref s2, .ref s3, .ref s4, .ref s5, .ref s6, .int ds, va_rf sp, va_rf bt])), (s1, .inl (cO, 4, .inr (.inr (.inr (.inr f))))), (s2, .inr (1, [.ref bx, .int ik, .int wy, .int op])), (bx, .inr (0, [.int bx0, .int by0, .int bx1, .int by1])), (t0, .inr (5, [.ref d0, .int w, .int h])), (d0, .inl (cI, 4096, .inl ((gL (cyQ ax ay aw ah ox oy ow oh w2 h2 op gs) ow.toNatClampNeg oh.toNatClampNeg).foldl (layG w h bx0 by0 bx1 by1 wy) g))), (u0, .inr (5, [.ref e0, .int w2, .int h2])), (e0, .inl (cI, 4096, .inl gs))]) [0, 1, 2, 3, 4, 5, 6, 7] rfl
          have hD9 := hD.sub (ws' := [(h0, .inr (8, [.ref s1, .ref s2, .ref s3, .ref s4, .ref s5, .ref s6, .int ds, va_rf sp, va_rf bt])), (s1, .inl (cO, 4, .inr (.inr (.inr (.inr f))))), (s2, .inr (1, [.ref bx, .int ik, .int wy, .int op])), (bx, .inr (0, [.int bx0, .int by0, .int bx1, .int by1])), (t0, .inr (5, [.ref d0, .int w, .int h])), (d0, .inl (cI, 4096, .inl ((gL (cyQ ax ay aw ah ox oy ow oh w2 h2 op gs) ow.toNatClampNeg oh.toNatClampNeg).foldl (layG w h bx0 by0 bx1 by1 wy) g))), (u0, .inr (5, [.ref e0, .int w2, .int h2])), (e0, .inl (cI, 4096, .inl gs))]) [0, 1, 2, 3, 4, 5, 6, 7] (by decide) rfl
          have hK9 := hK.sub (tys' := [(cO, .object "DotBench$Sheet"), (cI, .int)]) [0, 1] rfl
          refine hQ _ _ _ _ _ ?_
          exact W.iret (v := r_17) hx hb hr (fun t ht hW => ⟨⟨r_17, (), rfl, hr_17, ⟨by rw [ht]; exact hP9, va_K.moved hW.alike hK9, hD9⟩⟩, hS.F ht⟩) hS.2.2 dX8_stretch_69
        · skip
          have f_12 := bz0 hr_10 c_11
          exact False.elim (by omega)

set_option maxHeartbeats 4000000 in
set_option maxRecDepth 100000 in
theorem k_X8_stretch_s1e (l : Launch) (D : va_G) (sz : Nat) (h0 s1 s2 s3 s4 s5 s6 : Nat) (ds : Int32) (sp : Option Nat) (f : Nat → Option Nat) (bx t0 d0 : Nat) (ik wy op : Int32) (bx0 by0 bx1 by1 : Int32) (w h : Int32) (g : Nat → Int32) (bq bd : Nat) (bw bh : Int32) (gb : Nat → Int32) (k ax ay aw ah kq ox oy ow oh : Int32) (cO : ClassId) (cI : ClassId) (hsz : (1 ≤ aw.toInt ∧ aw.toInt ≤ 64) ∧ (1 ≤ ah.toInt ∧ ah.toInt ≤ 64) ∧ (1 ≤ ow.toInt ∧ ow.toInt ≤ 64) ∧ (1 ≤ oh.toInt ∧ oh.toInt ≤ 64)) (hak : 0 ≤ k.toInt ∧ k.toInt ≤ 3) (haf : f k.toNatClampNeg = some t0) (hb0k : 0 ≤ kq.toInt ∧ kq.toInt ≤ 3) (hb0f : f kq.toNatClampNeg = some t0) (hne : k.toInt = kq.toInt) (hnr : (-200 ≤ ax.toInt ∧ ax.toInt ≤ 200) ∧ (-200 ≤ ay.toInt ∧ ay.toInt ≤ 200) ∧ (-200 ≤ ox.toInt ∧ ox.toInt ≤ 200) ∧ (-200 ≤ oy.toInt ∧ oy.toInt ≤ 200)) (hwy : 0 ≤ wy.toInt ∧ wy.toInt ≤ 12) (hw : w.toInt ≤ 64) (hh : h.toInt ≤ 64) : Met l yX8_stretch (wB yX8_stretch cX8_stretch 11 (some .int)) ({ frames := 4, cells := 2, slots := 8, locals := 106 }) (cP D [(h0, .inr (8, [.ref s1, .ref s2, .ref s3, .ref s4, .ref s5, .ref s6, .int ds, va_rf sp, .ref bq])), (s1, .inl (cO, 4, .inr (.inr (.inr (.inr f))))), (s2, .inr (1, [.ref bx, .int ik, .int wy, .int op])), (bx, .inr (0, [.int bx0, .int by0, .int bx1, .int by1])), (t0, .inr (5, [.ref d0, .int w, .int h])), (d0, .inl (cI, 4096, .inl g)), (bq, .inr (5, [.ref bd, .int bw, .int bh])), (bd, .inl (cI, 4096, .inl gb))] [(cO, .object "DotBench$Sheet"), (cI, .int)] sz [.ref h0, .int k, .int ax, .int ay, .int aw, .int ah, .int kq, .int ox, .int oy, .int ow, .int oh]) (va_Qi (fun (r : Int32) (_ : Unit) => r = (gL (cyQ ax ay aw ah ox oy ow oh w h op g) ow.toNatClampNeg oh.toNatClampNeg).foldl (layT w h bx0 by0 bx1 by1) 0) (fun (_ : Unit) (t : State) => ∃ (g3 : Nat → Int32), cB D (va_A [(h0, .inr (8, [.ref s1, .ref s2, .ref s3, .ref s4, .ref s5, .ref s6, .int ds, va_rf sp, .ref bq])), (s1, .inl (cO, 4, .inr (.inr (.inr (.inr f))))), (s2, .inr (1, [.ref bx, .int ik, .int wy, .int op])), (bx, .inr (0, [.int bx0, .int by0, .int bx1, .int by1])), (t0, .inr (5, [.ref d0, .int w, .int h])), (d0, .inl (cI, 4096, .inl g)), (bq, .inr (5, [.ref bd, .int bw, .int bh])), (bd, .inl (cI, 4096, .inl gb))] sz) [(h0, .inr (8, [.ref s1, .ref s2, .ref s3, .ref s4, .ref s5, .ref s6, .int ds, va_rf sp, .ref bq])), (s1, .inl (cO, 4, .inr (.inr (.inr (.inr f))))), (s2, .inr (1, [.ref bx, .int ik, .int wy, .int op])), (bx, .inr (0, [.int bx0, .int by0, .int bx1, .int by1])), (t0, .inr (5, [.ref d0, .int w, .int h])), (d0, .inl (cI, 4096, .inl ((gL (cyQ ax ay aw ah ox oy ow oh w h op g) ow.toNatClampNeg oh.toNatClampNeg).foldl (layG w h bx0 by0 bx1 by1 wy) g))), (bq, .inr (5, [.ref bd, .int w, .int h])), (bd, .inl (cI, 4096, .inl g3))] [(cO, .object "DotBench$Sheet"), (cI, .int)] t) (va_A [(h0, .inr (8, [.ref s1, .ref s2, .ref s3, .ref s4, .ref s5, .ref s6, .int ds, va_rf sp, .ref bq])), (s1, .inl (cO, 4, .inr (.inr (.inr (.inr f))))), (s2, .inr (1, [.ref bx, .int ik, .int wy, .int op])), (bx, .inr (0, [.int bx0, .int by0, .int bx1, .int by1])), (t0, .inr (5, [.ref d0, .int w, .int h])), (d0, .inl (cI, 4096, .inl g)), (bq, .inr (5, [.ref bd, .int bw, .int bh])), (bd, .inl (cI, 4096, .inl gb))] sz)) 2 8 (va_A [(h0, .inr (8, [.ref s1, .ref s2, .ref s3, .ref s4, .ref s5, .ref s6, .int ds, va_rf sp, .ref bq])), (s1, .inl (cO, 4, .inr (.inr (.inr (.inr f))))), (s2, .inr (1, [.ref bx, .int ik, .int wy, .int op])), (bx, .inr (0, [.int bx0, .int by0, .int bx1, .int by1])), (t0, .inr (5, [.ref d0, .int w, .int h])), (d0, .inl (cI, 4096, .inl g)), (bq, .inr (5, [.ref bd, .int bw, .int bh])), (bd, .inl (cI, 4096, .inl gb))] sz) := by
  refine Met.ofW (cc := cX8_stretch) (maxL := 11) (ret := (some .int)) (by decide) rfl ?_
  intro p e s m args below meth c s₁ B hml hv
  obtain ⟨rfl, hsz, hP, hK, hD0, hN⟩ := hv
  have hx := B.exec
  have hb := B.bytes
  have hr := B.returns
  have hts0 := atoms_spec (ws := (wB yX8_stretch cX8_stretch 11 (some .int))) B.pre
  have hts : ∀ w ∈ bigW, w.before _ s = true := fun w h => hts0 w (List.mem_cons_of_mem _ h)
  have hown : s.vm.findClass RX8 = some m.cls := findClass_of_methodNamed B.named
  have hlocks := B.notSynchronized
  subst hsz
  have hD := hD0.self (sz := s.heap.size)
  generalize hAe : va_A [(h0, .inr (8, [.ref s1, .ref s2, .ref s3, .ref s4, .ref s5, .ref s6, .int ds, va_rf sp, .ref bq])), (s1, .inl (cO, 4, .inr (.inr (.inr (.inr f))))), (s2, .inr (1, [.ref bx, .int ik, .int wy, .int op])), (bx, .inr (0, [.int bx0, .int by0, .int bx1, .int by1])), (t0, .inr (5, [.ref d0, .int w, .int h])), (d0, .inl (cI, 4096, .inl g)), (bq, .inr (5, [.ref bd, .int bw, .int bh])), (bd, .inl (cI, 4096, .inl gb))] s.heap.size = A at hD ⊢
  have hA : ∀ q : Nat, s.heap.size ≤ q → A q := fun q h => by rw [← hAe]; exact Or.inr h
  have hS : va_S A s.heap s.heap [] := va_S.rf
  have hP : va_P D vwCl [(h0, .inr (8, [.ref s1, .ref s2, .ref s3, .ref s4, .ref s5, .ref s6, .int ds, va_rf sp, .ref bq])), (s1, .inl (cO, 4, .inr (.inr (.inr (.inr f))))), (s2, .inr (1, [.ref bx, .int ik, .int wy, .int op])), (bx, .inr (0, [.int bx0, .int by0, .int bx1, .int by1])), (t0, .inr (5, [.ref d0, .int w, .int h])), (d0, .inl (cI, 4096, .inl g)), (bq, .inr (5, [.ref bd, .int bw, .int bh])), (bd, .inl (cI, 4096, .inl gb))] s.heap := hP
  have hl := lv_entry ([.ref h0, .int k, .int ax, .int ay, .int aw, .int ah, .int kq, .int ox, .int oy, .int ow, .int oh]) (n := 11) (Nat.le_of_ble_eq_true rfl)
  rw [lg_entry_eq]
  generalize (lg_sl ([.ref h0, .int k, .int ax, .int ay, .int aw, .int ah, .int kq, .int ox, .int oy, .int ow, .int oh]) ++ List.replicate (11 - (lg_sl ([.ref h0, .int k, .int ax, .int ay, .int aw, .int ah, .int kq, .int ox, .int oy, .int ow, .int oh])).length) Slot.unset).toArray = ls at hl ⊢
  have hl : lv_has ls 11 [(0, .ref h0), (1, .int k), (2, .int ax), (3, .int ay), (4, .int aw), (5, .int ah), (6, .int kq), (7, .int ox), (8, .int oy), (9, .int ow), (10, .int oh)] := hl
  clear hts0 hD0 hAe
  refine my_abs (fun R Q hR hQ => ?_)
  refine lv_iload hx hb dX8_stretch_0 (lv_at hl 4 rfl) ?_
  have hPc := hP.sub (ws' := []) [] rfl
  have hDc := hD.sub (ws' := []) [] (by decide) rfl
  have hKc := hK.sub (tys' := []) [] rfl
  have hFc := va_free (wc := []) hD hS hA [] rfl
  refine va_calli (va_runS (As := [.int aw]) (rest := []) ⟨hx, hb, hml, hown, hts⟩ (k_X8_isSide l D s.heap.size aw) (va_cwS 1 hts (gS bw_247 bw_353 bw_223 bw_352) rfl rfl rfl (by decide +kernel) ⟨(by rw [hR]; exact Nat.le_of_ble_eq_true rfl), (by rw [hR]; exact Nat.le_of_ble_eq_true rfl)⟩) ⟨cP_blind, cP_at hPc hKc hDc hN⟩ rfl rfl hl.1 rfl (lv_room (Nat.le_of_ble_eq_true rfl)) dX8_stretch_2 ⟨(by rw [hR]; exact Nat.le_of_ble_eq_true rfl), (by rw [hR]; exact Nat.le_of_ble_eq_true rfl)⟩) hS (fun q _ h => hFc q h) hFc (fun r_1 u9 t9 H1 locs ht hvm hr_1 hB hz1 hk1 hS => ?_)
  try dsimp only at hr_1
  have hP1 : va_P D vwCl [] H1 := vP_nil
  have hD1 : va_D (va_A [] s.heap.size) [] := vD_nil
  obtain ⟨hP, hD⟩ := va_join (wr := [(h0, .inr (8, [.ref s1, .ref s2, .ref s3, .ref s4, .ref s5, .ref s6, .int ds, va_rf sp, .ref bq])), (s1, .inl (cO, 4, .inr (.inr (.inr (.inr f))))), (s2, .inr (1, [.ref bx, .int ik, .int wy, .int op])), (bx, .inr (0, [.int bx0, .int by0, .int bx1, .int by1])), (t0, .inr (5, [.ref d0, .int w, .int h])), (d0, .inl (cI, 4096, .inl g)), (bq, .inr (5, [.ref bd, .int bw, .int bh])), (bd, .inl (cI, 4096, .inl gb))]) (w1 := []) hP hD [] [0, 1, 2, 3, 4, 5, 6, 7] rfl rfl (by decide) (by decide) hk1 hFc hP1 hD1
  clear hz1 hk1 hFc hKc hDc hPc
  generalize H1 = H at hP hS ⊢
  have hP : va_P D vwCl [(h0, .inr (8, [.ref s1, .ref s2, .ref s3, .ref s4, .ref s5, .ref s6, .int ds, va_rf sp, .ref bq])), (s1, .inl (cO, 4, .inr (.inr (.inr (.inr f))))), (s2, .inr (1, [.ref bx, .int ik, .int wy, .int op])), (bx, .inr (0, [.int bx0, .int by0, .int bx1, .int by1])), (t0, .inr (5, [.ref d0, .int w, .int h])), (d0, .inl (cI, 4096, .inl g)), (bq, .inr (5, [.ref bd, .int bw, .int bh])), (bd, .inl (cI, 4096, .inl gb))] H := hP
  have hD : va_D A [(h0, .inr (8, [.ref s1, .ref s2, .ref s3, .ref s4, .ref s5, .ref s6, .int ds, va_rf sp, .ref bq])), (s1, .inl (cO, 4, .inr (.inr (.inr (.inr f))))), (s2, .inr (1, [.ref bx, .int ik, .int wy, .int op])), (bx, .inr (0, [.int bx0, .int by0, .int bx1, .int by1])), (t0, .inr (5, [.ref d0, .int w, .int h])), (d0, .inl (cI, 4096, .inl g)), (bq, .inr (5, [.ref bd, .int bw, .int bh])), (bd, .inl (cI, 4096, .inl gb))] := hD
  refine lv_if_eq (tgt := 32) hx hb dX8_stretch_5 (by decide) (fun c_2 => ?_) (fun c_2 => ?_)
  · skip
    have f_3 := bz0 hr_1 c_2
    exact False.elim (by omega)
  · skip
    have f_3 := bz1 hr_1 c_2
    refine lv_iload hx hb dX8_stretch_8 (lv_at hl 5 rfl) ?_
    have hPc := hP.sub (ws' := []) [] rfl
    have hDc := hD.sub (ws' := []) [] (by decide) rfl
    have hKc := hK.sub (tys' := []) [] rfl
    have hFc := va_free (wc := []) hD hS hA [] rfl
    refine va_calli (va_runS (As := [.int ah]) (rest := []) ⟨hx, hb, hml, hown, hts⟩ (k_X8_isSide l D H.size ah) (va_cwS 1 hts (gS bw_247 bw_353 bw_223 bw_352) rfl rfl rfl (by decide +kernel) ⟨(by rw [hR]; exact Nat.le_of_ble_eq_true rfl), (by rw [hR]; exact Nat.le_of_ble_eq_true rfl)⟩) ⟨cP_blind, cP_at hPc hKc hDc hN⟩ rfl rfl hl.1 rfl (lv_room (Nat.le_of_ble_eq_true rfl)) dX8_stretch_10 ⟨(by rw [hR]; exact Nat.le_of_ble_eq_true rfl), (by rw [hR]; exact Nat.le_of_ble_eq_true rfl)⟩) hS (fun q _ h => hFc q h) hFc (fun r_4 u9 t9 H1 locs ht hvm hr_4 hB hz1 hk1 hS => ?_)
    try dsimp only at hr_4
    have hP1 : va_P D vwCl [] H1 := vP_nil
    have hD1 : va_D (va_A [] H.size) [] := vD_nil
    obtain ⟨hP, hD⟩ := va_join (wr := [(h0, .inr (8, [.ref s1, .ref s2, .ref s3, .ref s4, .ref s5, .ref s6, .int ds, va_rf sp, .ref bq])), (s1, .inl (cO, 4, .inr (.inr (.inr (.inr f))))), (s2, .inr (1, [.ref bx, .int ik, .int wy, .int op])), (bx, .inr (0, [.int bx0, .int by0, .int bx1, .int by1])), (t0, .inr (5, [.ref d0, .int w, .int h])), (d0, .inl (cI, 4096, .inl g)), (bq, .inr (5, [.ref bd, .int bw, .int bh])), (bd, .inl (cI, 4096, .inl gb))]) (w1 := []) hP hD [] [0, 1, 2, 3, 4, 5, 6, 7] rfl rfl (by decide) (by decide) hk1 hFc hP1 hD1
    clear hz1 hk1 hFc hKc hDc hPc
    generalize H1 = H at hP hS ⊢
    have hP : va_P D vwCl [(h0, .inr (8, [.ref s1, .ref s2, .ref s3, .ref s4, .ref s5, .ref s6, .int ds, va_rf sp, .ref bq])), (s1, .inl (cO, 4, .inr (.inr (.inr (.inr f))))), (s2, .inr (1, [.ref bx, .int ik, .int wy, .int op])), (bx, .inr (0, [.int bx0, .int by0, .int bx1, .int by1])), (t0, .inr (5, [.ref d0, .int w, .int h])), (d0, .inl (cI, 4096, .inl g)), (bq, .inr (5, [.ref bd, .int bw, .int bh])), (bd, .inl (cI, 4096, .inl gb))] H := hP
    have hD : va_D A [(h0, .inr (8, [.ref s1, .ref s2, .ref s3, .ref s4, .ref s5, .ref s6, .int ds, va_rf sp, .ref bq])), (s1, .inl (cO, 4, .inr (.inr (.inr (.inr f))))), (s2, .inr (1, [.ref bx, .int ik, .int wy, .int op])), (bx, .inr (0, [.int bx0, .int by0, .int bx1, .int by1])), (t0, .inr (5, [.ref d0, .int w, .int h])), (d0, .inl (cI, 4096, .inl g)), (bq, .inr (5, [.ref bd, .int bw, .int bh])), (bd, .inl (cI, 4096, .inl gb))] := hD
    refine lv_if_eq (tgt := 32) hx hb dX8_stretch_13 (by decide) (fun c_5 => ?_) (fun c_5 => ?_)
    · skip
      have f_6 := bz0 hr_4 c_5
      exact False.elim (by omega)
    · skip
      have f_6 := bz1 hr_4 c_5
      refine lv_iload hx hb dX8_stretch_16 (lv_at hl 9 rfl) ?_
      have hPc := hP.sub (ws' := []) [] rfl
      have hDc := hD.sub (ws' := []) [] (by decide) rfl
      have hKc := hK.sub (tys' := []) [] rfl
      have hFc := va_free (wc := []) hD hS hA [] rfl
      refine va_calli (va_runS (As := [.int ow]) (rest := []) ⟨hx, hb, hml, hown, hts⟩ (k_X8_isSide l D H.size ow) (va_cwS 1 hts (gS bw_247 bw_353 bw_223 bw_352) rfl rfl rfl (by decide +kernel) ⟨(by rw [hR]; exact Nat.le_of_ble_eq_true rfl), (by rw [hR]; exact Nat.le_of_ble_eq_true rfl)⟩) ⟨cP_blind, cP_at hPc hKc hDc hN⟩ rfl rfl hl.1 rfl (lv_room (Nat.le_of_ble_eq_true rfl)) dX8_stretch_18 ⟨(by rw [hR]; exact Nat.le_of_ble_eq_true rfl), (by rw [hR]; exact Nat.le_of_ble_eq_true rfl)⟩) hS (fun q _ h => hFc q h) hFc (fun r_7 u9 t9 H1 locs ht hvm hr_7 hB hz1 hk1 hS => ?_)
      try dsimp only at hr_7
      have hP1 : va_P D vwCl [] H1 := vP_nil
      have hD1 : va_D (va_A [] H.size) [] := vD_nil
      obtain ⟨hP, hD⟩ := va_join (wr := [(h0, .inr (8, [.ref s1, .ref s2, .ref s3, .ref s4, .ref s5, .ref s6, .int ds, va_rf sp, .ref bq])), (s1, .inl (cO, 4, .inr (.inr (.inr (.inr f))))), (s2, .inr (1, [.ref bx, .int ik, .int wy, .int op])), (bx, .inr (0, [.int bx0, .int by0, .int bx1, .int by1])), (t0, .inr (5, [.ref d0, .int w, .int h])), (d0, .inl (cI, 4096, .inl g)), (bq, .inr (5, [.ref bd, .int bw, .int bh])), (bd, .inl (cI, 4096, .inl gb))]) (w1 := []) hP hD [] [0, 1, 2, 3, 4, 5, 6, 7] rfl rfl (by decide) (by decide) hk1 hFc hP1 hD1
      clear hz1 hk1 hFc hKc hDc hPc
      generalize H1 = H at hP hS ⊢
      have hP : va_P D vwCl [(h0, .inr (8, [.ref s1, .ref s2, .ref s3, .ref s4, .ref s5, .ref s6, .int ds, va_rf sp, .ref bq])), (s1, .inl (cO, 4, .inr (.inr (.inr (.inr f))))), (s2, .inr (1, [.ref bx, .int ik, .int wy, .int op])), (bx, .inr (0, [.int bx0, .int by0, .int bx1, .int by1])), (t0, .inr (5, [.ref d0, .int w, .int h])), (d0, .inl (cI, 4096, .inl g)), (bq, .inr (5, [.ref bd, .int bw, .int bh])), (bd, .inl (cI, 4096, .inl gb))] H := hP
      have hD : va_D A [(h0, .inr (8, [.ref s1, .ref s2, .ref s3, .ref s4, .ref s5, .ref s6, .int ds, va_rf sp, .ref bq])), (s1, .inl (cO, 4, .inr (.inr (.inr (.inr f))))), (s2, .inr (1, [.ref bx, .int ik, .int wy, .int op])), (bx, .inr (0, [.int bx0, .int by0, .int bx1, .int by1])), (t0, .inr (5, [.ref d0, .int w, .int h])), (d0, .inl (cI, 4096, .inl g)), (bq, .inr (5, [.ref bd, .int bw, .int bh])), (bd, .inl (cI, 4096, .inl gb))] := hD
      refine lv_if_eq (tgt := 32) hx hb dX8_stretch_21 (by decide) (fun c_8 => ?_) (fun c_8 => ?_)
      · skip
        have f_9 := bz0 hr_7 c_8
        exact False.elim (by omega)
      · skip
        have f_9 := bz1 hr_7 c_8
        refine lv_iload hx hb dX8_stretch_24 (lv_at hl 10 rfl) ?_
        have hPc := hP.sub (ws' := []) [] rfl
        have hDc := hD.sub (ws' := []) [] (by decide) rfl
        have hKc := hK.sub (tys' := []) [] rfl
        have hFc := va_free (wc := []) hD hS hA [] rfl
        refine va_calli (va_runS (As := [.int oh]) (rest := []) ⟨hx, hb, hml, hown, hts⟩ (k_X8_isSide l D H.size oh) (va_cwS 1 hts (gS bw_247 bw_353 bw_223 bw_352) rfl rfl rfl (by decide +kernel) ⟨(by rw [hR]; exact Nat.le_of_ble_eq_true rfl), (by rw [hR]; exact Nat.le_of_ble_eq_true rfl)⟩) ⟨cP_blind, cP_at hPc hKc hDc hN⟩ rfl rfl hl.1 rfl (lv_room (Nat.le_of_ble_eq_true rfl)) dX8_stretch_26 ⟨(by rw [hR]; exact Nat.le_of_ble_eq_true rfl), (by rw [hR]; exact Nat.le_of_ble_eq_true rfl)⟩) hS (fun q _ h => hFc q h) hFc (fun r_10 u9 t9 H1 locs ht hvm hr_10 hB hz1 hk1 hS => ?_)
        try dsimp only at hr_10
        have hP1 : va_P D vwCl [] H1 := vP_nil
        have hD1 : va_D (va_A [] H.size) [] := vD_nil
        obtain ⟨hP, hD⟩ := va_join (wr := [(h0, .inr (8, [.ref s1, .ref s2, .ref s3, .ref s4, .ref s5, .ref s6, .int ds, va_rf sp, .ref bq])), (s1, .inl (cO, 4, .inr (.inr (.inr (.inr f))))), (s2, .inr (1, [.ref bx, .int ik, .int wy, .int op])), (bx, .inr (0, [.int bx0, .int by0, .int bx1, .int by1])), (t0, .inr (5, [.ref d0, .int w, .int h])), (d0, .inl (cI, 4096, .inl g)), (bq, .inr (5, [.ref bd, .int bw, .int bh])), (bd, .inl (cI, 4096, .inl gb))]) (w1 := []) hP hD [] [0, 1, 2, 3, 4, 5, 6, 7] rfl rfl (by decide) (by decide) hk1 hFc hP1 hD1
        clear hz1 hk1 hFc hKc hDc hPc
        generalize H1 = H at hP hS ⊢
        have hP : va_P D vwCl [(h0, .inr (8, [.ref s1, .ref s2, .ref s3, .ref s4, .ref s5, .ref s6, .int ds, va_rf sp, .ref bq])), (s1, .inl (cO, 4, .inr (.inr (.inr (.inr f))))), (s2, .inr (1, [.ref bx, .int ik, .int wy, .int op])), (bx, .inr (0, [.int bx0, .int by0, .int bx1, .int by1])), (t0, .inr (5, [.ref d0, .int w, .int h])), (d0, .inl (cI, 4096, .inl g)), (bq, .inr (5, [.ref bd, .int bw, .int bh])), (bd, .inl (cI, 4096, .inl gb))] H := hP
        have hD : va_D A [(h0, .inr (8, [.ref s1, .ref s2, .ref s3, .ref s4, .ref s5, .ref s6, .int ds, va_rf sp, .ref bq])), (s1, .inl (cO, 4, .inr (.inr (.inr (.inr f))))), (s2, .inr (1, [.ref bx, .int ik, .int wy, .int op])), (bx, .inr (0, [.int bx0, .int by0, .int bx1, .int by1])), (t0, .inr (5, [.ref d0, .int w, .int h])), (d0, .inl (cI, 4096, .inl g)), (bq, .inr (5, [.ref bd, .int bw, .int bh])), (bd, .inl (cI, 4096, .inl gb))] := hD
        refine lv_if_ne (tgt := 34) hx hb dX8_stretch_29 (by decide) (fun c_11 => ?_) (fun c_11 => ?_)
        · skip
          have f_12 := bz1 hr_10 c_11
          refine lv_aload_n hx hb dX8_stretch_34 rfl (lv_at hl 0 rfl) ?_
          refine lv_iload_n hx hb dX8_stretch_35 rfl (lv_at hl 1 rfl) ?_
          refine va_new (ci := 2) (fs := [.int 0, .int 0, .int 0, .int 0]) (C := RX2) (T := TX2) (N := 4) hx hb hts hi_X2 tyX2 tyX2_ok hown (hts _ bw_316) (hts _ bw_56) (hts _ bw_55) hK hP hD hS hA rfl z_X2 (by rw [hR]; exact Nat.le_of_ble_eq_true rfl) (by rw [hR]; exact Nat.le_of_ble_eq_true rfl) dX8_stretch_36 (fun q_13 H hP hD hS => ?_)
          have hP : va_P D vwCl [(h0, .inr (8, [.ref s1, .ref s2, .ref s3, .ref s4, .ref s5, .ref s6, .int ds, va_rf sp, .ref bq])), (s1, .inl (cO, 4, .inr (.inr (.inr (.inr f))))), (s2, .inr (1, [.ref bx, .int ik, .int wy, .int op])), (bx, .inr (0, [.int bx0, .int by0, .int bx1, .int by1])), (t0, .inr (5, [.ref d0, .int w, .int h])), (d0, .inl (cI, 4096, .inl g)), (bq, .inr (5, [.ref bd, .int bw, .int bh])), (bd, .inl (cI, 4096, .inl gb)), (q_13, .inr (2, [.int 0, .int 0, .int 0, .int 0]))] H := hP
          have hD : va_D A [(h0, .inr (8, [.ref s1, .ref s2, .ref s3, .ref s4, .ref s5, .ref s6, .int ds, va_rf sp, .ref bq])), (s1, .inl (cO, 4, .inr (.inr (.inr (.inr f))))), (s2, .inr (1, [.ref bx, .int ik, .int wy, .int op])), (bx, .inr (0, [.int bx0, .int by0, .int bx1, .int by1])), (t0, .inr (5, [.ref d0, .int w, .int h])), (d0, .inl (cI, 4096, .inl g)), (bq, .inr (5, [.ref bd, .int bw, .int bh])), (bd, .inl (cI, 4096, .inl gb)), (q_13, .inr (2, [.int 0, .int 0, .int 0, .int 0]))] := hD
          refine W.widen (k := 1) (n := 4) (by omega) (by omega) ?_
          refine lv_dup hx hb dX8_stretch_39 rfl ?_
          refine lv_iload_n hx hb dX8_stretch_40 rfl (lv_at hl 2 rfl) ?_
          refine lv_iload_n hx hb dX8_stretch_41 rfl (lv_at hl 3 rfl) ?_
          refine lv_iload hx hb dX8_stretch_42 (lv_at hl 4 rfl) ?_
          refine lv_iload hx hb dX8_stretch_44 (lv_at hl 5 rfl) ?_
          have hPc := hP.sub (ws' := [(q_13, .inr (2, [.int 0, .int 0, .int 0, .int 0]))]) [8] rfl
          have hDc := hD.sub (ws' := [(q_13, .inr (2, [.int 0, .int 0, .int 0, .int 0]))]) [8] (by decide) rfl
          have hKc := hK.sub (tys' := []) [] rfl
          have hFc := va_free (wc := [(q_13, .inr (2, [.int 0, .int 0, .int 0, .int 0]))]) hD hS hA [8] rfl
          refine va_callv (va_runI (As := [.int ax, .int ay, .int aw, .int ah]) (rest := [.ref q_13, .int k, .ref h0]) ⟨hx, hb, hml, hown, hts⟩ (k_X2_init l D H.size q_13 ax ay aw ah) (cwI 4 hts (gI bw_57) rfl rfl rfl (hts _ bw_55) (hts _ bw_317) (hts _ bw_58) rfl (by decide +kernel) ⟨(by rw [hR]; exact Nat.le_of_ble_eq_true rfl), (by rw [hR]; exact Nat.le_of_ble_eq_true rfl)⟩) ⟨cP_blind, cP_at hPc hKc hDc hN⟩ rfl rfl hl.1 rfl (lv_room (Nat.le_of_ble_eq_true rfl)) dX8_stretch_46 ⟨(by rw [hR]; exact Nat.le_of_ble_eq_true rfl), (by rw [hR]; exact Nat.le_of_ble_eq_true rfl)⟩) hS (fun q _ h => hFc q h) hFc (fun u9 t9 H1 locs ht hvm hr_14 hB hz1 hk1 hS => ?_)
          try dsimp only at hr_14
          obtain ⟨hP1, hK1, hD1⟩ := hB
          rw [ht] at hP1
          obtain ⟨hP, hD⟩ := va_join (wr := [(h0, .inr (8, [.ref s1, .ref s2, .ref s3, .ref s4, .ref s5, .ref s6, .int ds, va_rf sp, .ref bq])), (s1, .inl (cO, 4, .inr (.inr (.inr (.inr f))))), (s2, .inr (1, [.ref bx, .int ik, .int wy, .int op])), (bx, .inr (0, [.int bx0, .int by0, .int bx1, .int by1])), (t0, .inr (5, [.ref d0, .int w, .int h])), (d0, .inl (cI, 4096, .inl g)), (bq, .inr (5, [.ref bd, .int bw, .int bh])), (bd, .inl (cI, 4096, .inl gb))]) (w1 := [(q_13, .inr (2, [.int ax, .int ay, .int aw, .int ah]))]) hP hD [8] [0, 1, 2, 3, 4, 5, 6, 7] rfl rfl (by decide) (by decide) hk1 hFc hP1 hD1
          clear hz1 hk1 hFc hKc hDc hPc
          generalize H1 = H at hP hS ⊢
          have hP : va_P D vwCl [(h0, .inr (8, [.ref s1, .ref s2, .ref s3, .ref s4, .ref s5, .ref s6, .int ds, va_rf sp, .ref bq])), (s1, .inl (cO, 4, .inr (.inr (.inr (.inr f))))), (s2, .inr (1, [.ref bx, .int ik, .int wy, .int op])), (bx, .inr (0, [.int bx0, .int by0, .int bx1, .int by1])), (t0, .inr (5, [.ref d0, .int w, .int h])), (d0, .inl (cI, 4096, .inl g)), (bq, .inr (5, [.ref bd, .int bw, .int bh])), (bd, .inl (cI, 4096, .inl gb)), (q_13, .inr (2, [.int ax, .int ay, .int aw, .int ah]))] H := hP
          have hD : va_D A [(h0, .inr (8, [.ref s1, .ref s2, .ref s3, .ref s4, .ref s5, .ref s6, .int ds, va_rf sp, .ref bq])), (s1, .inl (cO, 4, .inr (.inr (.inr (.inr f))))), (s2, .inr (1, [.ref bx, .int ik, .int wy, .int op])), (bx, .inr (0, [.int bx0, .int by0, .int bx1, .int by1])), (t0, .inr (5, [.ref d0, .int w, .int h])), (d0, .inl (cI, 4096, .inl g)), (bq, .inr (5, [.ref bd, .int bw, .int bh])), (bd, .inl (cI, 4096, .inl gb)), (q_13, .inr (2, [.int ax, .int ay, .int aw, .int ah]))] := hD
          refine lv_iload hx hb dX8_stretch_49 (lv_at hl 6 rfl) ?_
          refine va_new (ci := 2) (fs := [.int 0, .int 0, .int 0, .int 0]) (C := RX2) (T := TX2) (N := 4) hx hb hts hi_X2 tyX2 tyX2_ok hown (hts _ bw_316) (hts _ bw_56) (hts _ bw_55) hK hP hD hS hA rfl z_X2 (by rw [hR]; exact Nat.le_of_ble_eq_true rfl) (by rw [hR]; exact Nat.le_of_ble_eq_true rfl) dX8_stretch_51 (fun q_15 H hP hD hS => ?_)
          have hP : va_P D vwCl [(h0, .inr (8, [.ref s1, .ref s2, .ref s3, .ref s4, .ref s5, .ref s6, .int ds, va_rf sp, .ref bq])), (s1, .inl (cO, 4, .inr (.inr (.inr (.inr f))))), (s2, .inr (1, [.ref bx, .int ik, .int wy, .int op])), (bx, .inr (0, [.int bx0, .int by0, .int bx1, .int by1])), (t0, .inr (5, [.ref d0, .int w, .int h])), (d0, .inl (cI, 4096, .inl g)), (bq, .inr (5, [.ref bd, .int bw, .int bh])), (bd, .inl (cI, 4096, .inl gb)), (q_13, .inr (2, [.int ax, .int ay, .int aw, .int ah])), (q_15, .inr (2, [.int 0, .int 0, .int 0, .int 0]))] H := hP
          have hD : va_D A [(h0, .inr (8, [.ref s1, .ref s2, .ref s3, .ref s4, .ref s5, .ref s6, .int ds, va_rf sp, .ref bq])), (s1, .inl (cO, 4, .inr (.inr (.inr (.inr f))))), (s2, .inr (1, [.ref bx, .int ik, .int wy, .int op])), (bx, .inr (0, [.int bx0, .int by0, .int bx1, .int by1])), (t0, .inr (5, [.ref d0, .int w, .int h])), (d0, .inl (cI, 4096, .inl g)), (bq, .inr (5, [.ref bd, .int bw, .int bh])), (bd, .inl (cI, 4096, .inl gb)), (q_13, .inr (2, [.int ax, .int ay, .int aw, .int ah])), (q_15, .inr (2, [.int 0, .int 0, .int 0, .int 0]))] := hD
          refine W.widen (k := 2) (n := 8) (by omega) (by omega) ?_
          refine lv_dup hx hb dX8_stretch_54 rfl ?_
          refine lv_iload hx hb dX8_stretch_55 (lv_at hl 7 rfl) ?_
          refine lv_iload hx hb dX8_stretch_57 (lv_at hl 8 rfl) ?_
          refine lv_iload hx hb dX8_stretch_59 (lv_at hl 9 rfl) ?_
          refine lv_iload hx hb dX8_stretch_61 (lv_at hl 10 rfl) ?_
          have hPc := hP.sub (ws' := [(q_15, .inr (2, [.int 0, .int 0, .int 0, .int 0]))]) [9] rfl
          have hDc := hD.sub (ws' := [(q_15, .inr (2, [.int 0, .int 0, .int 0, .int 0]))]) [9] (by decide) rfl
          have hKc := hK.sub (tys' := []) [] rfl
          have hFc := va_free (wc := [(q_15, .inr (2, [.int 0, .int 0, .int 0, .int 0]))]) hD hS hA [9] rfl
          refine va_callv (va_runI (As := [.int ox, .int oy, .int ow, .int oh]) (rest := [.ref q_15, .int kq, .ref q_13, .int k, .ref h0]) ⟨hx, hb, hml, hown, hts⟩ (k_X2_init l D H.size q_15 ox oy ow oh) (cwI 4 hts (gI bw_57) rfl rfl rfl (hts _ bw_55) (hts _ bw_317) (hts _ bw_58) rfl (by decide +kernel) ⟨(by rw [hR]; exact Nat.le_of_ble_eq_true rfl), (by rw [hR]; exact Nat.le_of_ble_eq_true rfl)⟩) ⟨cP_blind, cP_at hPc hKc hDc hN⟩ rfl rfl hl.1 rfl (lv_room (Nat.le_of_ble_eq_true rfl)) dX8_stretch_63 ⟨(by rw [hR]; exact Nat.le_of_ble_eq_true rfl), (by rw [hR]; exact Nat.le_of_ble_eq_true rfl)⟩) hS (fun q _ h => hFc q h) hFc (fun u9 t9 H1 locs ht hvm hr_16 hB hz1 hk1 hS => ?_)
          try dsimp only at hr_16
          obtain ⟨hP1, hK1, hD1⟩ := hB
          rw [ht] at hP1
          obtain ⟨hP, hD⟩ := va_join (wr := [(h0, .inr (8, [.ref s1, .ref s2, .ref s3, .ref s4, .ref s5, .ref s6, .int ds, va_rf sp, .ref bq])), (s1, .inl (cO, 4, .inr (.inr (.inr (.inr f))))), (s2, .inr (1, [.ref bx, .int ik, .int wy, .int op])), (bx, .inr (0, [.int bx0, .int by0, .int bx1, .int by1])), (t0, .inr (5, [.ref d0, .int w, .int h])), (d0, .inl (cI, 4096, .inl g)), (bq, .inr (5, [.ref bd, .int bw, .int bh])), (bd, .inl (cI, 4096, .inl gb)), (q_13, .inr (2, [.int ax, .int ay, .int aw, .int ah]))]) (w1 := [(q_15, .inr (2, [.int ox, .int oy, .int ow, .int oh]))]) hP hD [9] [0, 1, 2, 3, 4, 5, 6, 7, 8] rfl rfl (by decide) (by decide) hk1 hFc hP1 hD1
          clear hz1 hk1 hFc hKc hDc hPc
          generalize H1 = H at hP hS ⊢
          have hP : va_P D vwCl [(h0, .inr (8, [.ref s1, .ref s2, .ref s3, .ref s4, .ref s5, .ref s6, .int ds, va_rf sp, .ref bq])), (s1, .inl (cO, 4, .inr (.inr (.inr (.inr f))))), (s2, .inr (1, [.ref bx, .int ik, .int wy, .int op])), (bx, .inr (0, [.int bx0, .int by0, .int bx1, .int by1])), (t0, .inr (5, [.ref d0, .int w, .int h])), (d0, .inl (cI, 4096, .inl g)), (bq, .inr (5, [.ref bd, .int bw, .int bh])), (bd, .inl (cI, 4096, .inl gb)), (q_13, .inr (2, [.int ax, .int ay, .int aw, .int ah])), (q_15, .inr (2, [.int ox, .int oy, .int ow, .int oh]))] H := hP
          have hD : va_D A [(h0, .inr (8, [.ref s1, .ref s2, .ref s3, .ref s4, .ref s5, .ref s6, .int ds, va_rf sp, .ref bq])), (s1, .inl (cO, 4, .inr (.inr (.inr (.inr f))))), (s2, .inr (1, [.ref bx, .int ik, .int wy, .int op])), (bx, .inr (0, [.int bx0, .int by0, .int bx1, .int by1])), (t0, .inr (5, [.ref d0, .int w, .int h])), (d0, .inl (cI, 4096, .inl g)), (bq, .inr (5, [.ref bd, .int bw, .int bh])), (bd, .inl (cI, 4096, .inl gb)), (q_13, .inr (2, [.int ax, .int ay, .int aw, .int ah])), (q_15, .inr (2, [.int ox, .int oy, .int ow, .int oh]))] := hD
          have hPc := hP.sub (ws' := [(h0, .inr (8, [.ref s1, .ref s2, .ref s3, .ref s4, .ref s5, .ref s6, .int ds, va_rf sp, .ref bq])), (s1, .inl (cO, 4, .inr (.inr (.inr (.inr f))))), (s2, .inr (1, [.ref bx, .int ik, .int wy, .int op])), (bx, .inr (0, [.int bx0, .int by0, .int bx1, .int by1])), (t0, .inr (5, [.ref d0, .int w, .int h])), (d0, .inl (cI, 4096, .inl g)), (bq, .inr (5, [.ref bd, .int bw, .int bh])), (bd, .inl (cI, 4096, .inl gb)), (q_13, .inr (2, [.int ax, .int ay, .int aw, .int ah])), (q_15, .inr (2, [.int ox, .int oy, .int ow, .int oh]))]) [0, 1, 2, 3, 4, 5, 6, 7, 8, 9] rfl
          have hDc := hD.sub (ws' := [(h0, .inr (8, [.ref s1, .ref s2, .ref s3, .ref s4, .ref s5, .ref s6, .int ds, va_rf sp, .ref bq])), (s1, .inl (cO, 4, .inr (.inr (.inr (.inr f))))), (s2, .inr (1, [.ref bx, .int ik, .int wy, .int op])), (bx, .inr (0, [.int bx0, .int by0, .int bx1, .int by1])), (t0, .inr (5, [.ref d0, .int w, .int h])), (d0, .inl (cI, 4096, .inl g)), (bq, .inr (5, [.ref bd, .int bw, .int bh])), (bd, .inl (cI, 4096, .inl gb)), (q_13, .inr (2, [.int ax, .int ay, .int aw, .int ah])), (q_15, .inr (2, [.int ox, .int oy, .int ow, .int oh]))]) [0, 1, 2, 3, 4, 5, 6, 7, 8, 9] (by decide) rfl
          have hKc := hK.sub (tys' := [(cO, .object "DotBench$Sheet"), (cI, .int)]) [0, 1] rfl
          have hFc := va_free (wc := [(h0, .inr (8, [.ref s1, .ref s2, .ref s3, .ref s4, .ref s5, .ref s6, .int ds, va_rf sp, .ref bq])), (s1, .inl (cO, 4, .inr (.inr (.inr (.inr f))))), (s2, .inr (1, [.ref bx, .int ik, .int wy, .int op])), (bx, .inr (0, [.int bx0, .int by0, .int bx1, .int by1])), (t0, .inr (5, [.ref d0, .int w, .int h])), (d0, .inl (cI, 4096, .inl g)), (bq, .inr (5, [.ref bd, .int bw, .int bh])), (bd, .inl (cI, 4096, .inl gb)), (q_13, .inr (2, [.int ax, .int ay, .int aw, .int ah])), (q_15, .inr (2, [.int ox, .int oy, .int ow, .int oh]))]) hD hS hA [0, 1, 2, 3, 4, 5, 6, 7, 8, 9] rfl
          refine va_calli (va_runV (As := [.int k, .ref q_13, .int kq, .ref q_15]) (rest := []) ⟨hx, hb, hml, hown, hts⟩ (k_X8_carry_s1e l D H.size h0 s1 s2 s3 s4 s5 s6 ds sp f bx t0 d0 ik wy op bx0 by0 bx1 by1 w h g bq bd bw bh gb q_13 q_15 ax ay aw ah ox oy ow oh k kq cO cI (by first | assumption | omega | decide) (by first | assumption | omega | decide) (by first | assumption | omega | decide) (by first | assumption | omega | decide) (by first | assumption | omega | decide) (by first | assumption | omega | decide) (by first | assumption | omega | decide) (by first | assumption | omega | decide) (by first | assumption | omega | decide) (by first | assumption | omega | decide) (by first | assumption | omega | decide)) (cwV 4 hts (gV bw_318 bw_383 bw_384 bw_223 bw_382) rfl rfl rfl (by decide +kernel) ⟨(by rw [hR]; exact Nat.le_of_ble_eq_true rfl), (by rw [hR]; exact Nat.le_of_ble_eq_true rfl)⟩) ⟨cP_blind, va_recv hKc hPc (ci := 8) (q0 := 0) rfl rfl, cP_at hPc hKc hDc hN⟩ rfl rfl hl.1 rfl (lv_room (Nat.le_of_ble_eq_true rfl)) dX8_stretch_66 ⟨(by rw [hR]; exact Nat.le_of_ble_eq_true rfl), (by rw [hR]; exact Nat.le_of_ble_eq_true rfl)⟩) hS (fun q _ h => hFc q h) hFc (fun r_17 u9 t9 H1 locs ht hvm hr_17 hB hz1 hk1 hS => ?_)
          try dsimp only at hr_17
          obtain ⟨g_18, hP1, hK1, hD1⟩ := hB
          rw [ht] at hP1
          obtain ⟨hP, hD⟩ := va_join (wr := []) (w1 := [(h0, .inr (8, [.ref s1, .ref s2, .ref s3, .ref s4, .ref s5, .ref s6, .int ds, va_rf sp, .ref bq])), (s1, .inl (cO, 4, .inr (.inr (.inr (.inr f))))), (s2, .inr (1, [.ref bx, .int ik, .int wy, .int op])), (bx, .inr (0, [.int bx0, .int by0, .int bx1, .int by1])), (t0, .inr (5, [.ref d0, .int w, .int h])), (d0, .inl (cI, 4096, .inl ((gL (cyQ ax ay aw ah ox oy ow oh w h op g) ow.toNatClampNeg oh.toNatClampNeg).foldl (layG w h bx0 by0 bx1 by1 wy) g))), (bq, .inr (5, [.ref bd, .int w, .int h])), (bd, .inl (cI, 4096, .inl g_18))]) hP hD [0, 1, 2, 3, 4, 5, 6, 7, 8, 9] [] rfl rfl (by decide) (by decide) hk1 hFc hP1 hD1
          clear hz1 hk1 hFc hKc hDc hPc
          generalize H1 = H at hP hS ⊢
          have hP : va_P D vwCl [(h0, .inr (8, [.ref s1, .ref s2, .ref s3, .ref s4, .ref s5, .ref s6, .int ds, va_rf sp, .ref bq])), (s1, .inl (cO, 4, .inr (.inr (.inr (.inr f))))), (s2, .inr (1, [.ref bx, .int ik, .int wy, .int op])), (bx, .inr (0, [.int bx0, .int by0, .int bx1, .int by1])), (t0, .inr (5, [.ref d0, .int w, .int h])), (d0, .inl (cI, 4096, .inl ((gL (cyQ ax ay aw ah ox oy ow oh w h op g) ow.toNatClampNeg oh.toNatClampNeg).foldl (layG w h bx0 by0 bx1 by1 wy) g))), (bq, .inr (5, [.ref bd, .int w, .int h])), (bd, .inl (cI, 4096, .inl g_18))] H := hP
          have hD : va_D A [(h0, .inr (8, [.ref s1, .ref s2, .ref s3, .ref s4, .ref s5, .ref s6, .int ds, va_rf sp, .ref bq])), (s1, .inl (cO, 4, .inr (.inr (.inr (.inr f))))), (s2, .inr (1, [.ref bx, .int ik, .int wy, .int op])), (bx, .inr (0, [.int bx0, .int by0, .int bx1, .int by1])), (t0, .inr (5, [.ref d0, .int w, .int h])), (d0, .inl (cI, 4096, .inl ((gL (cyQ ax ay aw ah ox oy ow oh w h op g) ow.toNatClampNeg oh.toNatClampNeg).foldl (layG w h bx0 by0 bx1 by1 wy) g))), (bq, .inr (5, [.ref bd, .int w, .int h])), (bd, .inl (cI, 4096, .inl g_18))] := hD
          have hP9 := hP.sub (ws' := [(h0, .inr (8, [.ref s1, .ref s2, .ref s3, .ref s4, .ref s5, .ref s6, .int ds, va_rf sp, .ref bq])), (s1, .inl (cO, 4, .inr (.inr (.inr (.inr f))))), (s2, .inr (1, [.ref bx, .int ik, .int wy, .int op])), (bx, .inr (0, [.int bx0, .int by0, .int bx1, .int by1])), (t0, .inr (5, [.ref d0, .int w, .int h])), (d0, .inl (cI, 4096, .inl ((gL (cyQ ax ay aw ah ox oy ow oh w h op g) ow.toNatClampNeg oh.toNatClampNeg).foldl (layG w h bx0 by0 bx1 by1 wy) g))), (bq, .inr (5, [.ref bd, .int w, .int h])), (bd, .inl (cI, 4096, .inl g_18))]) [0, 1, 2, 3, 4, 5, 6, 7] rfl
          have hD9 := hD.sub (ws' := [(h0, .inr (8, [.ref s1, .ref s2, .ref s3, .ref s4, .ref s5, .ref s6, .int ds, va_rf sp, .ref bq])), (s1, .inl (cO, 4, .inr (.inr (.inr (.inr f))))), (s2, .inr (1, [.ref bx, .int ik, .int wy, .int op])), (bx, .inr (0, [.int bx0, .int by0, .int bx1, .int by1])), (t0, .inr (5, [.ref d0, .int w, .int h])), (d0, .inl (cI, 4096, .inl ((gL (cyQ ax ay aw ah ox oy ow oh w h op g) ow.toNatClampNeg oh.toNatClampNeg).foldl (layG w h bx0 by0 bx1 by1 wy) g))), (bq, .inr (5, [.ref bd, .int w, .int h])), (bd, .inl (cI, 4096, .inl g_18))]) [0, 1, 2, 3, 4, 5, 6, 7] (by decide) rfl
          have hK9 := hK.sub (tys' := [(cO, .object "DotBench$Sheet"), (cI, .int)]) [0, 1] rfl
          refine hQ _ _ _ _ _ ?_
          exact W.iret (v := r_17) hx hb hr (fun t ht hW => ⟨⟨r_17, (), rfl, hr_17, ⟨g_18, by rw [ht]; exact hP9, va_K.moved hW.alike hK9, hD9⟩⟩, hS.F ht⟩) hS.2.2 dX8_stretch_69
        · skip
          have f_12 := bz0 hr_10 c_11
          exact False.elim (by omega)

set_option maxHeartbeats 4000000 in
set_option maxRecDepth 100000 in
theorem k_X8_stretch_s0e (l : Launch) (D : va_G) (sz : Nat) (h0 s1 s2 s3 s4 s5 s6 : Nat) (ds : Int32) (sp : Option Nat) (f : Nat → Option Nat) (bx t0 d0 : Nat) (ik wy op : Int32) (bx0 by0 bx1 by1 : Int32) (w h : Int32) (g : Nat → Int32) (k ax ay aw ah kq ox oy ow oh : Int32) (cO : ClassId) (cI : ClassId) (hsz : (1 ≤ aw.toInt ∧ aw.toInt ≤ 64) ∧ (1 ≤ ah.toInt ∧ ah.toInt ≤ 64) ∧ (1 ≤ ow.toInt ∧ ow.toInt ≤ 64) ∧ (1 ≤ oh.toInt ∧ oh.toInt ≤ 64)) (hak : 0 ≤ k.toInt ∧ k.toInt ≤ 3) (haf : f k.toNatClampNeg = some t0) (hb0k : 0 ≤ kq.toInt ∧ kq.toInt ≤ 3) (hb0f : f kq.toNatClampNeg = some t0) (hne : k.toInt = kq.toInt) (hnr : (-200 ≤ ax.toInt ∧ ax.toInt ≤ 200) ∧ (-200 ≤ ay.toInt ∧ ay.toInt ≤ 200) ∧ (-200 ≤ ox.toInt ∧ ox.toInt ≤ 200) ∧ (-200 ≤ oy.toInt ∧ oy.toInt ≤ 200)) (hwy : 0 ≤ wy.toInt ∧ wy.toInt ≤ 12) (hw : w.toInt ≤ 64) (hh : h.toInt ≤ 64) : Met l yX8_stretch (wB yX8_stretch cX8_stretch 11 (some .int)) ({ frames := 4, cells := 4, slots := 4107, locals := 106 }) (cP D [(h0, .inr (8, [.ref s1, .ref s2, .ref s3, .ref s4, .ref s5, .ref s6, .int ds, va_rf sp, .null])), (s1, .inl (cO, 4, .inr (.inr (.inr (.inr f))))), (s2, .inr (1, [.ref bx, .int ik, .int wy, .int op])), (bx, .inr (0, [.int bx0, .int by0, .int bx1, .int by1])), (t0, .inr (5, [.ref d0, .int w, .int h])), (d0, .inl (cI, 4096, .inl g))] [(cO, .object "DotBench$Sheet"), (cI, .int)] sz [.ref h0, .int k, .int ax, .int ay, .int aw, .int ah, .int kq, .int ox, .int oy, .int ow, .int oh]) (va_Qi (fun (r : Int32) (_ : Unit) => r = (gL (cyQ ax ay aw ah ox oy ow oh w h op g) ow.toNatClampNeg oh.toNatClampNeg).foldl (layT w h bx0 by0 bx1 by1) 0) (fun (_ : Unit) (t : State) => ∃ (bq bd : Nat), ∃ (g3 : Nat → Int32), cB D (va_A [(h0, .inr (8, [.ref s1, .ref s2, .ref s3, .ref s4, .ref s5, .ref s6, .int ds, va_rf sp, .null])), (s1, .inl (cO, 4, .inr (.inr (.inr (.inr f))))), (s2, .inr (1, [.ref bx, .int ik, .int wy, .int op])), (bx, .inr (0, [.int bx0, .int by0, .int bx1, .int by1])), (t0, .inr (5, [.ref d0, .int w, .int h])), (d0, .inl (cI, 4096, .inl g))] sz) [(h0, .inr (8, [.ref s1, .ref s2, .ref s3, .ref s4, .ref s5, .ref s6, .int ds, va_rf sp, .ref bq])), (s1, .inl (cO, 4, .inr (.inr (.inr (.inr f))))), (s2, .inr (1, [.ref bx, .int ik, .int wy, .int op])), (bx, .inr (0, [.int bx0, .int by0, .int bx1, .int by1])), (t0, .inr (5, [.ref d0, .int w, .int h])), (d0, .inl (cI, 4096, .inl ((gL (cyQ ax ay aw ah ox oy ow oh w h op g) ow.toNatClampNeg oh.toNatClampNeg).foldl (layG w h bx0 by0 bx1 by1 wy) g))), (bq, .inr (5, [.ref bd, .int w, .int h])), (bd, .inl (cI, 4096, .inl g3))] [(cO, .object "DotBench$Sheet"), (cI, .int)] t) (va_A [(h0, .inr (8, [.ref s1, .ref s2, .ref s3, .ref s4, .ref s5, .ref s6, .int ds, va_rf sp, .null])), (s1, .inl (cO, 4, .inr (.inr (.inr (.inr f))))), (s2, .inr (1, [.ref bx, .int ik, .int wy, .int op])), (bx, .inr (0, [.int bx0, .int by0, .int bx1, .int by1])), (t0, .inr (5, [.ref d0, .int w, .int h])), (d0, .inl (cI, 4096, .inl g))] sz)) 4 4107 (va_A [(h0, .inr (8, [.ref s1, .ref s2, .ref s3, .ref s4, .ref s5, .ref s6, .int ds, va_rf sp, .null])), (s1, .inl (cO, 4, .inr (.inr (.inr (.inr f))))), (s2, .inr (1, [.ref bx, .int ik, .int wy, .int op])), (bx, .inr (0, [.int bx0, .int by0, .int bx1, .int by1])), (t0, .inr (5, [.ref d0, .int w, .int h])), (d0, .inl (cI, 4096, .inl g))] sz) := by
  refine Met.ofW (cc := cX8_stretch) (maxL := 11) (ret := (some .int)) (by decide) rfl ?_
  intro p e s m args below meth c s₁ B hml hv
  obtain ⟨rfl, hsz, hP, hK, hD0, hN⟩ := hv
  have hx := B.exec
  have hb := B.bytes
  have hr := B.returns
  have hts0 := atoms_spec (ws := (wB yX8_stretch cX8_stretch 11 (some .int))) B.pre
  have hts : ∀ w ∈ bigW, w.before _ s = true := fun w h => hts0 w (List.mem_cons_of_mem _ h)
  have hown : s.vm.findClass RX8 = some m.cls := findClass_of_methodNamed B.named
  have hlocks := B.notSynchronized
  subst hsz
  have hD := hD0.self (sz := s.heap.size)
  generalize hAe : va_A [(h0, .inr (8, [.ref s1, .ref s2, .ref s3, .ref s4, .ref s5, .ref s6, .int ds, va_rf sp, .null])), (s1, .inl (cO, 4, .inr (.inr (.inr (.inr f))))), (s2, .inr (1, [.ref bx, .int ik, .int wy, .int op])), (bx, .inr (0, [.int bx0, .int by0, .int bx1, .int by1])), (t0, .inr (5, [.ref d0, .int w, .int h])), (d0, .inl (cI, 4096, .inl g))] s.heap.size = A at hD ⊢
  have hA : ∀ q : Nat, s.heap.size ≤ q → A q := fun q h => by rw [← hAe]; exact Or.inr h
  have hS : va_S A s.heap s.heap [] := va_S.rf
  have hP : va_P D vwCl [(h0, .inr (8, [.ref s1, .ref s2, .ref s3, .ref s4, .ref s5, .ref s6, .int ds, va_rf sp, .null])), (s1, .inl (cO, 4, .inr (.inr (.inr (.inr f))))), (s2, .inr (1, [.ref bx, .int ik, .int wy, .int op])), (bx, .inr (0, [.int bx0, .int by0, .int bx1, .int by1])), (t0, .inr (5, [.ref d0, .int w, .int h])), (d0, .inl (cI, 4096, .inl g))] s.heap := hP
  have hl := lv_entry ([.ref h0, .int k, .int ax, .int ay, .int aw, .int ah, .int kq, .int ox, .int oy, .int ow, .int oh]) (n := 11) (Nat.le_of_ble_eq_true rfl)
  rw [lg_entry_eq]
  generalize (lg_sl ([.ref h0, .int k, .int ax, .int ay, .int aw, .int ah, .int kq, .int ox, .int oy, .int ow, .int oh]) ++ List.replicate (11 - (lg_sl ([.ref h0, .int k, .int ax, .int ay, .int aw, .int ah, .int kq, .int ox, .int oy, .int ow, .int oh])).length) Slot.unset).toArray = ls at hl ⊢
  have hl : lv_has ls 11 [(0, .ref h0), (1, .int k), (2, .int ax), (3, .int ay), (4, .int aw), (5, .int ah), (6, .int kq), (7, .int ox), (8, .int oy), (9, .int ow), (10, .int oh)] := hl
  clear hts0 hD0 hAe
  refine my_abs (fun R Q hR hQ => ?_)
  refine lv_iload hx hb dX8_stretch_0 (lv_at hl 4 rfl) ?_
  have hPc := hP.sub (ws' := []) [] rfl
  have hDc := hD.sub (ws' := []) [] (by decide) rfl
  have hKc := hK.sub (tys' := []) [] rfl
  have hFc := va_free (wc := []) hD hS hA [] rfl
  refine va_calli (va_runS (As := [.int aw]) (rest := []) ⟨hx, hb, hml, hown, hts⟩ (k_X8_isSide l D s.heap.size aw) (va_cwS 1 hts (gS bw_247 bw_353 bw_223 bw_352) rfl rfl rfl (by decide +kernel) ⟨(by rw [hR]; exact Nat.le_of_ble_eq_true rfl), (by rw [hR]; exact Nat.le_of_ble_eq_true rfl)⟩) ⟨cP_blind, cP_at hPc hKc hDc hN⟩ rfl rfl hl.1 rfl (lv_room (Nat.le_of_ble_eq_true rfl)) dX8_stretch_2 ⟨(by rw [hR]; exact Nat.le_of_ble_eq_true rfl), (by rw [hR]; exact Nat.le_of_ble_eq_true rfl)⟩) hS (fun q _ h => hFc q h) hFc (fun r_1 u9 t9 H1 locs ht hvm hr_1 hB hz1 hk1 hS => ?_)
  try dsimp only at hr_1
  have hP1 : va_P D vwCl [] H1 := vP_nil
  have hD1 : va_D (va_A [] s.heap.size) [] := vD_nil
  obtain ⟨hP, hD⟩ := va_join (wr := [(h0, .inr (8, [.ref s1, .ref s2, .ref s3, .ref s4, .ref s5, .ref s6, .int ds, va_rf sp, .null])), (s1, .inl (cO, 4, .inr (.inr (.inr (.inr f))))), (s2, .inr (1, [.ref bx, .int ik, .int wy, .int op])), (bx, .inr (0, [.int bx0, .int by0, .int bx1, .int by1])), (t0, .inr (5, [.ref d0, .int w, .int h])), (d0, .inl (cI, 4096, .inl g))]) (w1 := []) hP hD [] [0, 1, 2, 3, 4, 5] rfl rfl (by decide) (by decide) hk1 hFc hP1 hD1
  clear hz1 hk1 hFc hKc hDc hPc
  generalize H1 = H at hP hS ⊢
  have hP : va_P D vwCl [(h0, .inr (8, [.ref s1, .ref s2, .ref s3, .ref s4, .ref s5, .ref s6, .int ds, va_rf sp, .null])), (s1, .inl (cO, 4, .inr (.inr (.inr (.inr f))))), (s2, .inr (1, [.ref bx, .int ik, .int wy, .int op])), (bx, .inr (0, [.int bx0, .int by0, .int bx1, .int by1])), (t0, .inr (5, [.ref d0, .int w, .int h])), (d0, .inl (cI, 4096, .inl g))] H := hP
  have hD : va_D A [(h0, .inr (8, [.ref s1, .ref s2, .ref s3, .ref s4, .ref s5, .ref s6, .int ds, va_rf sp, .null])), (s1, .inl (cO, 4, .inr (.inr (.inr (.inr f))))), (s2, .inr (1, [.ref bx, .int ik, .int wy, .int op])), (bx, .inr (0, [.int bx0, .int by0, .int bx1, .int by1])), (t0, .inr (5, [.ref d0, .int w, .int h])), (d0, .inl (cI, 4096, .inl g))] := hD
  refine lv_if_eq (tgt := 32) hx hb dX8_stretch_5 (by decide) (fun c_2 => ?_) (fun c_2 => ?_)
  · skip
    have f_3 := bz0 hr_1 c_2
    exact False.elim (by omega)
  · skip
    have f_3 := bz1 hr_1 c_2
    refine lv_iload hx hb dX8_stretch_8 (lv_at hl 5 rfl) ?_
    have hPc := hP.sub (ws' := []) [] rfl
    have hDc := hD.sub (ws' := []) [] (by decide) rfl
    have hKc := hK.sub (tys' := []) [] rfl
    have hFc := va_free (wc := []) hD hS hA [] rfl
    refine va_calli (va_runS (As := [.int ah]) (rest := []) ⟨hx, hb, hml, hown, hts⟩ (k_X8_isSide l D H.size ah) (va_cwS 1 hts (gS bw_247 bw_353 bw_223 bw_352) rfl rfl rfl (by decide +kernel) ⟨(by rw [hR]; exact Nat.le_of_ble_eq_true rfl), (by rw [hR]; exact Nat.le_of_ble_eq_true rfl)⟩) ⟨cP_blind, cP_at hPc hKc hDc hN⟩ rfl rfl hl.1 rfl (lv_room (Nat.le_of_ble_eq_true rfl)) dX8_stretch_10 ⟨(by rw [hR]; exact Nat.le_of_ble_eq_true rfl), (by rw [hR]; exact Nat.le_of_ble_eq_true rfl)⟩) hS (fun q _ h => hFc q h) hFc (fun r_4 u9 t9 H1 locs ht hvm hr_4 hB hz1 hk1 hS => ?_)
    try dsimp only at hr_4
    have hP1 : va_P D vwCl [] H1 := vP_nil
    have hD1 : va_D (va_A [] H.size) [] := vD_nil
    obtain ⟨hP, hD⟩ := va_join (wr := [(h0, .inr (8, [.ref s1, .ref s2, .ref s3, .ref s4, .ref s5, .ref s6, .int ds, va_rf sp, .null])), (s1, .inl (cO, 4, .inr (.inr (.inr (.inr f))))), (s2, .inr (1, [.ref bx, .int ik, .int wy, .int op])), (bx, .inr (0, [.int bx0, .int by0, .int bx1, .int by1])), (t0, .inr (5, [.ref d0, .int w, .int h])), (d0, .inl (cI, 4096, .inl g))]) (w1 := []) hP hD [] [0, 1, 2, 3, 4, 5] rfl rfl (by decide) (by decide) hk1 hFc hP1 hD1
    clear hz1 hk1 hFc hKc hDc hPc
    generalize H1 = H at hP hS ⊢
    have hP : va_P D vwCl [(h0, .inr (8, [.ref s1, .ref s2, .ref s3, .ref s4, .ref s5, .ref s6, .int ds, va_rf sp, .null])), (s1, .inl (cO, 4, .inr (.inr (.inr (.inr f))))), (s2, .inr (1, [.ref bx, .int ik, .int wy, .int op])), (bx, .inr (0, [.int bx0, .int by0, .int bx1, .int by1])), (t0, .inr (5, [.ref d0, .int w, .int h])), (d0, .inl (cI, 4096, .inl g))] H := hP
    have hD : va_D A [(h0, .inr (8, [.ref s1, .ref s2, .ref s3, .ref s4, .ref s5, .ref s6, .int ds, va_rf sp, .null])), (s1, .inl (cO, 4, .inr (.inr (.inr (.inr f))))), (s2, .inr (1, [.ref bx, .int ik, .int wy, .int op])), (bx, .inr (0, [.int bx0, .int by0, .int bx1, .int by1])), (t0, .inr (5, [.ref d0, .int w, .int h])), (d0, .inl (cI, 4096, .inl g))] := hD
    refine lv_if_eq (tgt := 32) hx hb dX8_stretch_13 (by decide) (fun c_5 => ?_) (fun c_5 => ?_)
    · skip
      have f_6 := bz0 hr_4 c_5
      exact False.elim (by omega)
    · skip
      have f_6 := bz1 hr_4 c_5
      refine lv_iload hx hb dX8_stretch_16 (lv_at hl 9 rfl) ?_
      have hPc := hP.sub (ws' := []) [] rfl
      have hDc := hD.sub (ws' := []) [] (by decide) rfl
      have hKc := hK.sub (tys' := []) [] rfl
      have hFc := va_free (wc := []) hD hS hA [] rfl
      refine va_calli (va_runS (As := [.int ow]) (rest := []) ⟨hx, hb, hml, hown, hts⟩ (k_X8_isSide l D H.size ow) (va_cwS 1 hts (gS bw_247 bw_353 bw_223 bw_352) rfl rfl rfl (by decide +kernel) ⟨(by rw [hR]; exact Nat.le_of_ble_eq_true rfl), (by rw [hR]; exact Nat.le_of_ble_eq_true rfl)⟩) ⟨cP_blind, cP_at hPc hKc hDc hN⟩ rfl rfl hl.1 rfl (lv_room (Nat.le_of_ble_eq_true rfl)) dX8_stretch_18 ⟨(by rw [hR]; exact Nat.le_of_ble_eq_true rfl), (by rw [hR]; exact Nat.le_of_ble_eq_true rfl)⟩) hS (fun q _ h => hFc q h) hFc (fun r_7 u9 t9 H1 locs ht hvm hr_7 hB hz1 hk1 hS => ?_)
      try dsimp only at hr_7
      have hP1 : va_P D vwCl [] H1 := vP_nil
      have hD1 : va_D (va_A [] H.size) [] := vD_nil
      obtain ⟨hP, hD⟩ := va_join (wr := [(h0, .inr (8, [.ref s1, .ref s2, .ref s3, .ref s4, .ref s5, .ref s6, .int ds, va_rf sp, .null])), (s1, .inl (cO, 4, .inr (.inr (.inr (.inr f))))), (s2, .inr (1, [.ref bx, .int ik, .int wy, .int op])), (bx, .inr (0, [.int bx0, .int by0, .int bx1, .int by1])), (t0, .inr (5, [.ref d0, .int w, .int h])), (d0, .inl (cI, 4096, .inl g))]) (w1 := []) hP hD [] [0, 1, 2, 3, 4, 5] rfl rfl (by decide) (by decide) hk1 hFc hP1 hD1
      clear hz1 hk1 hFc hKc hDc hPc
      generalize H1 = H at hP hS ⊢
      have hP : va_P D vwCl [(h0, .inr (8, [.ref s1, .ref s2, .ref s3, .ref s4, .ref s5, .ref s6, .int ds, va_rf sp, .null])), (s1, .inl (cO, 4, .inr (.inr (.inr (.inr f))))), (s2, .inr (1, [.ref bx, .int ik, .int wy, .int op])), (bx, .inr (0, [.int bx0, .int by0, .int bx1, .int by1])), (t0, .inr (5, [.ref d0, .int w, .int h])), (d0, .inl (cI, 4096, .inl g))] H := hP
      have hD : va_D A [(h0, .inr (8, [.ref s1, .ref s2, .ref s3, .ref s4, .ref s5, .ref s6, .int ds, va_rf sp, .null])), (s1, .inl (cO, 4, .inr (.inr (.inr (.inr f))))), (s2, .inr (1, [.ref bx, .int ik, .int wy, .int op])), (bx, .inr (0, [.int bx0, .int by0, .int bx1, .int by1])), (t0, .inr (5, [.ref d0, .int w, .int h])), (d0, .inl (cI, 4096, .inl g))] := hD
      refine lv_if_eq (tgt := 32) hx hb dX8_stretch_21 (by decide) (fun c_8 => ?_) (fun c_8 => ?_)
      · skip
        have f_9 := bz0 hr_7 c_8
        exact False.elim (by omega)
      · skip
        have f_9 := bz1 hr_7 c_8
        refine lv_iload hx hb dX8_stretch_24 (lv_at hl 10 rfl) ?_
        have hPc := hP.sub (ws' := []) [] rfl
        have hDc := hD.sub (ws' := []) [] (by decide) rfl
        have hKc := hK.sub (tys' := []) [] rfl
        have hFc := va_free (wc := []) hD hS hA [] rfl
        refine va_calli (va_runS (As := [.int oh]) (rest := []) ⟨hx, hb, hml, hown, hts⟩ (k_X8_isSide l D H.size oh) (va_cwS 1 hts (gS bw_247 bw_353 bw_223 bw_352) rfl rfl rfl (by decide +kernel) ⟨(by rw [hR]; exact Nat.le_of_ble_eq_true rfl), (by rw [hR]; exact Nat.le_of_ble_eq_true rfl)⟩) ⟨cP_blind, cP_at hPc hKc hDc hN⟩ rfl rfl hl.1 rfl (lv_room (Nat.le_of_ble_eq_true rfl)) dX8_stretch_26 ⟨(by rw [hR]; exact Nat.le_of_ble_eq_true rfl), (by rw [hR]; exact Nat.le_of_ble_eq_true rfl)⟩) hS (fun q _ h => hFc q h) hFc (fun r_10 u9 t9 H1 locs ht hvm hr_10 hB hz1 hk1 hS => ?_)
        try dsimp only at hr_10
        have hP1 : va_P D vwCl [] H1 := vP_nil
        have hD1 : va_D (va_A [] H.size) [] := vD_nil
        obtain ⟨hP, hD⟩ := va_join (wr := [(h0, .inr (8, [.ref s1, .ref s2, .ref s3, .ref s4, .ref s5, .ref s6, .int ds, va_rf sp, .null])), (s1, .inl (cO, 4, .inr (.inr (.inr (.inr f))))), (s2, .inr (1, [.ref bx, .int ik, .int wy, .int op])), (bx, .inr (0, [.int bx0, .int by0, .int bx1, .int by1])), (t0, .inr (5, [.ref d0, .int w, .int h])), (d0, .inl (cI, 4096, .inl g))]) (w1 := []) hP hD [] [0, 1, 2, 3, 4, 5] rfl rfl (by decide) (by decide) hk1 hFc hP1 hD1
        clear hz1 hk1 hFc hKc hDc hPc
        generalize H1 = H at hP hS ⊢
        have hP : va_P D vwCl [(h0, .inr (8, [.ref s1, .ref s2, .ref s3, .ref s4, .ref s5, .ref s6, .int ds, va_rf sp, .null])), (s1, .inl (cO, 4, .inr (.inr (.inr (.inr f))))), (s2, .inr (1, [.ref bx, .int ik, .int wy, .int op])), (bx, .inr (0, [.int bx0, .int by0, .int bx1, .int by1])), (t0, .inr (5, [.ref d0, .int w, .int h])), (d0, .inl (cI, 4096, .inl g))] H := hP
        have hD : va_D A [(h0, .inr (8, [.ref s1, .ref s2, .ref s3, .ref s4, .ref s5, .ref s6, .int ds, va_rf sp, .null])), (s1, .inl (cO, 4, .inr (.inr (.inr (.inr f))))), (s2, .inr (1, [.ref bx, .int ik, .int wy, .int op])), (bx, .inr (0, [.int bx0, .int by0, .int bx1, .int by1])), (t0, .inr (5, [.ref d0, .int w, .int h])), (d0, .inl (cI, 4096, .inl g))] := hD
        refine lv_if_ne (tgt := 34) hx hb dX8_stretch_29 (by decide) (fun c_11 => ?_) (fun c_11 => ?_)
        · skip
          have f_12 := bz1 hr_10 c_11
          refine lv_aload_n hx hb dX8_stretch_34 rfl (lv_at hl 0 rfl) ?_
          refine lv_iload_n hx hb dX8_stretch_35 rfl (lv_at hl 1 rfl) ?_
          refine va_new (ci := 2) (fs := [.int 0, .int 0, .int 0, .int 0]) (C := RX2) (T := TX2) (N := 4) hx hb hts hi_X2 tyX2 tyX2_ok hown (hts _ bw_316) (hts _ bw_56) (hts _ bw_55) hK hP hD hS hA rfl z_X2 (by rw [hR]; exact Nat.le_of_ble_eq_true rfl) (by rw [hR]; exact Nat.le_of_ble_eq_true rfl) dX8_stretch_36 (fun q_13 H hP hD hS => ?_)
          have hP : va_P D vwCl [(h0, .inr (8, [.ref s1, .ref s2, .ref s3, .ref s4, .ref s5, .ref s6, .int ds, va_rf sp, .null])), (s1, .inl (cO, 4, .inr (.inr (.inr (.inr f))))), (s2, .inr (1, [.ref bx, .int ik, .int wy, .int op])), (bx, .inr (0, [.int bx0, .int by0, .int bx1, .int by1])), (t0, .inr (5, [.ref d0, .int w, .int h])), (d0, .inl (cI, 4096, .inl g)), (q_13, .inr (2, [.int 0, .int 0, .int 0, .int 0]))] H := hP
          have hD : va_D A [(h0, .inr (8, [.ref s1, .ref s2, .ref s3, .ref s4, .ref s5, .ref s6, .int ds, va_rf sp, .null])), (s1, .inl (cO, 4, .inr (.inr (.inr (.inr f))))), (s2, .inr (1, [.ref bx, .int ik, .int wy, .int op])), (bx, .inr (0, [.int bx0, .int by0, .int bx1, .int by1])), (t0, .inr (5, [.ref d0, .int w, .int h])), (d0, .inl (cI, 4096, .inl g)), (q_13, .inr (2, [.int 0, .int 0, .int 0, .int 0]))] := hD
          refine W.widen (k := 1) (n := 4) (by omega) (by omega) ?_
          refine lv_dup hx hb dX8_stretch_39 rfl ?_
          refine lv_iload_n hx hb dX8_stretch_40 rfl (lv_at hl 2 rfl) ?_
          refine lv_iload_n hx hb dX8_stretch_41 rfl (lv_at hl 3 rfl) ?_
          refine lv_iload hx hb dX8_stretch_42 (lv_at hl 4 rfl) ?_
          refine lv_iload hx hb dX8_stretch_44 (lv_at hl 5 rfl) ?_
          have hPc := hP.sub (ws' := [(q_13, .inr (2, [.int 0, .int 0, .int 0, .int 0]))]) [6] rfl
          have hDc := hD.sub (ws' := [(q_13, .inr (2, [.int 0, .int 0, .int 0, .int 0]))]) [6] (by decide) rfl
          have hKc := hK.sub (tys' := []) [] rfl
          have hFc := va_free (wc := [(q_13, .inr (2, [.int 0, .int 0, .int 0, .int 0]))]) hD hS hA [6] rfl
          refine va_callv (va_runI (As := [.int ax, .int ay, .int aw, .int ah]) (rest := [.ref q_13, .int k, .ref h0]) ⟨hx, hb, hml, hown, hts⟩ (k_X2_init l D H.size q_13 ax ay aw ah) (cwI 4 hts (gI bw_57) rfl rfl rfl (hts _ bw_55) (hts _ bw_317) (hts _ bw_58) rfl (by decide +kernel) ⟨(by rw [hR]; exact Nat.le_of_ble_eq_true rfl), (by rw [hR]; exact Nat.le_of_ble_eq_true rfl)⟩) ⟨cP_blind, cP_at hPc hKc hDc hN⟩ rfl rfl hl.1 rfl (lv_room (Nat.le_of_ble_eq_true rfl)) dX8_stretch_46 ⟨(by rw [hR]; exact Nat.le_of_ble_eq_true rfl), (by rw [hR]; exact Nat.le_of_ble_eq_true rfl)⟩) hS (fun q _ h => hFc q h) hFc (fun u9 t9 H1 locs ht hvm hr_14 hB hz1 hk1 hS => ?_)
          try dsimp only at hr_14
          obtain ⟨hP1, hK1, hD1⟩ := hB
          rw [ht] at hP1
          obtain ⟨hP, hD⟩ := va_join (wr := [(h0, .inr (8, [.ref s1, .ref s2, .ref s3, .ref s4, .ref s5, .ref s6, .int ds, va_rf sp, .null])), (s1, .inl (cO, 4, .inr (.inr (.inr (.inr f))))), (s2, .inr (1, [.ref bx, .int ik, .int wy, .int op])), (bx, .inr (0, [.int bx0, .int by0, .int bx1, .int by1])), (t0, .inr (5, [.ref d0, .int w, .int h])), (d0, .inl (cI, 4096, .inl g))]) (w1 := [(q_13, .inr (2, [.int ax, .int ay, .int aw, .int ah]))]) hP hD [6] [0, 1, 2, 3, 4, 5] rfl rfl (by decide) (by decide) hk1 hFc hP1 hD1
          clear hz1 hk1 hFc hKc hDc hPc
          generalize H1 = H at hP hS ⊢
          have hP : va_P D vwCl [(h0, .inr (8, [.ref s1, .ref s2, .ref s3, .ref s4, .ref s5, .ref s6, .int ds, va_rf sp, .null])), (s1, .inl (cO, 4, .inr (.inr (.inr (.inr f))))), (s2, .inr (1, [.ref bx, .int ik, .int wy, .int op])), (bx, .inr (0, [.int bx0, .int by0, .int bx1, .int by1])), (t0, .inr (5, [.ref d0, .int w, .int h])), (d0, .inl (cI, 4096, .inl g)), (q_13, .inr (2, [.int ax, .int ay, .int aw, .int ah]))] H := hP
          have hD : va_D A [(h0, .inr (8, [.ref s1, .ref s2, .ref s3, .ref s4, .ref s5, .ref s6, .int ds, va_rf sp, .null])), (s1, .inl (cO, 4, .inr (.inr (.inr (.inr f))))), (s2, .inr (1, [.ref bx, .int ik, .int wy, .int op])), (bx, .inr (0, [.int bx0, .int by0, .int bx1, .int by1])), (t0, .inr (5, [.ref d0, .int w, .int h])), (d0, .inl (cI, 4096, .inl g)), (q_13, .inr (2, [.int ax, .int ay, .int aw, .int ah]))] := hD
          refine lv_iload hx hb dX8_stretch_49 (lv_at hl 6 rfl) ?_
          refine va_new (ci := 2) (fs := [.int 0, .int 0, .int 0, .int 0]) (C := RX2) (T := TX2) (N := 4) hx hb hts hi_X2 tyX2 tyX2_ok hown (hts _ bw_316) (hts _ bw_56) (hts _ bw_55) hK hP hD hS hA rfl z_X2 (by rw [hR]; exact Nat.le_of_ble_eq_true rfl) (by rw [hR]; exact Nat.le_of_ble_eq_true rfl) dX8_stretch_51 (fun q_15 H hP hD hS => ?_)
          have hP : va_P D vwCl [(h0, .inr (8, [.ref s1, .ref s2, .ref s3, .ref s4, .ref s5, .ref s6, .int ds, va_rf sp, .null])), (s1, .inl (cO, 4, .inr (.inr (.inr (.inr f))))), (s2, .inr (1, [.ref bx, .int ik, .int wy, .int op])), (bx, .inr (0, [.int bx0, .int by0, .int bx1, .int by1])), (t0, .inr (5, [.ref d0, .int w, .int h])), (d0, .inl (cI, 4096, .inl g)), (q_13, .inr (2, [.int ax, .int ay, .int aw, .int ah])), (q_15, .inr (2, [.int 0, .int 0, .int 0, .int 0]))] H := hP
          have hD : va_D A [(h0, .inr (8, [.ref s1, .ref s2, .ref s3, .ref s4, .ref s5, .ref s6, .int ds, va_rf sp, .null])), (s1, .inl (cO, 4, .inr (.inr (.inr (.inr f))))), (s2, .inr (1, [.ref bx, .int ik, .int wy, .int op])), (bx, .inr (0, [.int bx0, .int by0, .int bx1, .int by1])), (t0, .inr (5, [.ref d0, .int w, .int h])), (d0, .inl (cI, 4096, .inl g)), (q_13, .inr (2, [.int ax, .int ay, .int aw, .int ah])), (q_15, .inr (2, [.int 0, .int 0, .int 0, .int 0]))] := hD
          refine W.widen (k := 2) (n := 8) (by omega) (by omega) ?_
          refine lv_dup hx hb dX8_stretch_54 rfl ?_
          refine lv_iload hx hb dX8_stretch_55 (lv_at hl 7 rfl) ?_
          refine lv_iload hx hb dX8_stretch_57 (lv_at hl 8 rfl) ?_
          refine lv_iload hx hb dX8_stretch_59 (lv_at hl 9 rfl) ?_
          refine lv_iload hx hb dX8_stretch_61 (lv_at hl 10 rfl) ?_
          have hPc := hP.sub (ws' := [(q_15, .inr (2, [.int 0, .int 0, .int 0, .int 0]))]) [7] rfl
          have hDc := hD.sub (ws' := [(q_15, .inr (2, [.int 0, .int 0, .int 0, .int 0]))]) [7] (by decide) rfl
          have hKc := hK.sub (tys' := []) [] rfl
          have hFc := va_free (wc := [(q_15, .inr (2, [.int 0, .int 0, .int 0, .int 0]))]) hD hS hA [7] rfl
          refine va_callv (va_runI (As := [.int ox, .int oy, .int ow, .int oh]) (rest := [.ref q_15, .int kq, .ref q_13, .int k, .ref h0]) ⟨hx, hb, hml, hown, hts⟩ (k_X2_init l D H.size q_15 ox oy ow oh) (cwI 4 hts (gI bw_57) rfl rfl rfl (hts _ bw_55) (hts _ bw_317) (hts _ bw_58) rfl (by decide +kernel) ⟨(by rw [hR]; exact Nat.le_of_ble_eq_true rfl), (by rw [hR]; exact Nat.le_of_ble_eq_true rfl)⟩) ⟨cP_blind, cP_at hPc hKc hDc hN⟩ rfl rfl hl.1 rfl (lv_room (Nat.le_of_ble_eq_true rfl)) dX8_stretch_63 ⟨(by rw [hR]; exact Nat.le_of_ble_eq_true rfl), (by rw [hR]; exact Nat.le_of_ble_eq_true rfl)⟩) hS (fun q _ h => hFc q h) hFc (fun u9 t9 H1 locs ht hvm hr_16 hB hz1 hk1 hS => ?_)
          try dsimp only at hr_16
          obtain ⟨hP1, hK1, hD1⟩ := hB
          rw [ht] at hP1
          obtain ⟨hP, hD⟩ := va_join (wr := [(h0, .inr (8, [.ref s1, .ref s2, .ref s3, .ref s4, .ref s5, .ref s6, .int ds, va_rf sp, .null])), (s1, .inl (cO, 4, .inr (.inr (.inr (.inr f))))), (s2, .inr (1, [.ref bx, .int ik, .int wy, .int op])), (bx, .inr (0, [.int bx0, .int by0, .int bx1, .int by1])), (t0, .inr (5, [.ref d0, .int w, .int h])), (d0, .inl (cI, 4096, .inl g)), (q_13, .inr (2, [.int ax, .int ay, .int aw, .int ah]))]) (w1 := [(q_15, .inr (2, [.int ox, .int oy, .int ow, .int oh]))]) hP hD [7] [0, 1, 2, 3, 4, 5, 6] rfl rfl (by decide) (by decide) hk1 hFc hP1 hD1
          clear hz1 hk1 hFc hKc hDc hPc
          generalize H1 = H at hP hS ⊢
          have hP : va_P D vwCl [(h0, .inr (8, [.ref s1, .ref s2, .ref s3, .ref s4, .ref s5, .ref s6, .int ds, va_rf sp, .null])), (s1, .inl (cO, 4, .inr (.inr (.inr (.inr f))))), (s2, .inr (1, [.ref bx, .int ik, .int wy, .int op])), (bx, .inr (0, [.int bx0, .int by0, .int bx1, .int by1])), (t0, .inr (5, [.ref d0, .int w, .int h])), (d0, .inl (cI, 4096, .inl g)), (q_13, .inr (2, [.int ax, .int ay, .int aw, .int ah])), (q_15, .inr (2, [.int ox, .int oy, .int ow, .int oh]))] H := hP
          have hD : va_D A [(h0, .inr (8, [.ref s1, .ref s2, .ref s3, .ref s4, .ref s5, .ref s6, .int ds, va_rf sp, .null])), (s1, .inl (cO, 4, .inr (.inr (.inr (.inr f))))), (s2, .inr (1, [.ref bx, .int ik, .int wy, .int op])), (bx, .inr (0, [.int bx0, .int by0, .int bx1, .int by1])), (t0, .inr (5, [.ref d0, .int w, .int h])), (d0, .inl (cI, 4096, .inl g)), (q_13, .inr (2, [.int ax, .int ay, .int aw, .int ah])), (q_15, .inr (2, [.int ox, .int oy, .int ow, .int oh]))] := hD
          have hPc := hP.sub (ws' := [(h0, .inr (8, [.ref s1, .ref s2, .ref s3, .ref s4, .ref s5, .ref s6, .int ds, va_rf sp, .null])), (s1, .inl (cO, 4, .inr (.inr (.inr (.inr f))))), (s2, .inr (1, [.ref bx, .int ik, .int wy, .int op])), (bx, .inr (0, [.int bx0, .int by0, .int bx1, .int by1])), (t0, .inr (5, [.ref d0, .int w, .int h])), (d0, .inl (cI, 4096, .inl g)), (q_13, .inr (2, [.int ax, .int ay, .int aw, .int ah])), (q_15, .inr (2, [.int ox, .int oy, .int ow, .int oh]))]) [0, 1, 2, 3, 4, 5, 6, 7] rfl
          have hDc := hD.sub (ws' := [(h0, .inr (8, [.ref s1, .ref s2, .ref s3, .ref s4, .ref s5, .ref s6, .int ds, va_rf sp, .null])), (s1, .inl (cO, 4, .inr (.inr (.inr (.inr f))))), (s2, .inr (1, [.ref bx, .int ik, .int wy, .int op])), (bx, .inr (0, [.int bx0, .int by0, .int bx1, .int by1])), (t0, .inr (5, [.ref d0, .int w, .int h])), (d0, .inl (cI, 4096, .inl g)), (q_13, .inr (2, [.int ax, .int ay, .int aw, .int ah])), (q_15, .inr (2, [.int ox, .int oy, .int ow, .int oh]))]) [0, 1, 2, 3, 4, 5, 6, 7] (by decide) rfl
          have hKc := hK.sub (tys' := [(cO, .object "DotBench$Sheet"), (cI, .int)]) [0, 1] rfl
          have hFc := va_free (wc := [(h0, .inr (8, [.ref s1, .ref s2, .ref s3, .ref s4, .ref s5, .ref s6, .int ds, va_rf sp, .null])), (s1, .inl (cO, 4, .inr (.inr (.inr (.inr f))))), (s2, .inr (1, [.ref bx, .int ik, .int wy, .int op])), (bx, .inr (0, [.int bx0, .int by0, .int bx1, .int by1])), (t0, .inr (5, [.ref d0, .int w, .int h])), (d0, .inl (cI, 4096, .inl g)), (q_13, .inr (2, [.int ax, .int ay, .int aw, .int ah])), (q_15, .inr (2, [.int ox, .int oy, .int ow, .int oh]))]) hD hS hA [0, 1, 2, 3, 4, 5, 6, 7] rfl
          refine va_calli (va_runV (As := [.int k, .ref q_13, .int kq, .ref q_15]) (rest := []) ⟨hx, hb, hml, hown, hts⟩ (k_X8_carry_s0e l D H.size h0 s1 s2 s3 s4 s5 s6 ds sp f bx t0 d0 ik wy op bx0 by0 bx1 by1 w h g q_13 q_15 ax ay aw ah ox oy ow oh k kq cO cI (by first | assumption | omega | decide) (by first | assumption | omega | decide) (by first | assumption | omega | decide) (by first | assumption | omega | decide) (by first | assumption | omega | decide) (by first | assumption | omega | decide) (by first | assumption | omega | decide) (by first | assumption | omega | decide) (by first | assumption | omega | decide) (by first | assumption | omega | decide) (by first | assumption | omega | decide)) (cwV 4 hts (gV bw_318 bw_383 bw_384 bw_223 bw_382) rfl rfl rfl (by decide +kernel) ⟨(by rw [hR]; exact Nat.le_of_ble_eq_true rfl), (by rw [hR]; exact Nat.le_of_ble_eq_true rfl)⟩) ⟨cP_blind, va_recv hKc hPc (ci := 8) (q0 := 0) rfl rfl, cP_at hPc hKc hDc hN⟩ rfl rfl hl.1 rfl (lv_room (Nat.le_of_ble_eq_true rfl)) dX8_stretch_66 ⟨(by rw [hR]; exact Nat.le_of_ble_eq_true rfl), (by rw [hR]; exact Nat.le_of_ble_eq_true rfl)⟩) hS (fun q _ h => hFc q h) hFc (fun r_17 u9 t9 H1 locs ht hvm hr_17 hB hz1 hk1 hS => ?_)
          try dsimp only at hr_17
          obtain ⟨q_18, q_19, g_20, hP1, hK1, hD1⟩ := hB
          rw [ht] at hP1
          obtain ⟨hP, hD⟩ := va_join (wr := []) (w1 := [(h0, .inr (8, [.ref s1, .ref s2, .ref s3, .ref s4, .ref s5, .ref s6, .int ds, va_rf sp, .ref q_18])), (s1, .inl (cO, 4, .inr (.inr (.inr (.inr f))))), (s2, .inr (1, [.ref bx, .int ik, .int wy, .int op])), (bx, .inr (0, [.int bx0, .int by0, .int bx1, .int by1])), (t0, .inr (5, [.ref d0, .int w, .int h])), (d0, .inl (cI, 4096, .inl ((gL (cyQ ax ay aw ah ox oy ow oh w h op g) ow.toNatClampNeg oh.toNatClampNeg).foldl (layG w h bx0 by0 bx1 by1 wy) g))), (q_18, .inr (5, [.ref q_19, .int w, .int h])), (q_19, .inl (cI, 4096, .inl g_20))]) hP hD [0, 1, 2, 3, 4, 5, 6, 7] [] rfl rfl (by decide) (by decide) hk1 hFc hP1 hD1
          clear hz1 hk1 hFc hKc hDc hPc
          generalize H1 = H at hP hS ⊢
          have hP : va_P D vwCl [(h0, .inr (8, [.ref s1, .ref s2, .ref s3, .ref s4, .ref s5, .ref s6, .int ds, va_rf sp, .ref q_18])), (s1, .inl (cO, 4, .inr (.inr (.inr (.inr f))))), (s2, .inr (1, [.ref bx, .int ik, .int wy, .int op])), (bx, .inr (0, [.int bx0, .int by0, .int bx1, .int by1])), (t0, .inr (5, [.ref d0, .int w, .int h])), (d0, .inl (cI, 4096, .inl ((gL (cyQ ax ay aw ah ox oy ow oh w h op g) ow.toNatClampNeg oh.toNatClampNeg).foldl (layG w h bx0 by0 bx1 by1 wy) g))), (q_18, .inr (5, [.ref q_19, .int w, .int h])), (q_19, .inl (cI, 4096, .inl g_20))] H := hP
          have hD : va_D A [(h0, .inr (8, [.ref s1, .ref s2, .ref s3, .ref s4, .ref s5, .ref s6, .int ds, va_rf sp, .ref q_18])), (s1, .inl (cO, 4, .inr (.inr (.inr (.inr f))))), (s2, .inr (1, [.ref bx, .int ik, .int wy, .int op])), (bx, .inr (0, [.int bx0, .int by0, .int bx1, .int by1])), (t0, .inr (5, [.ref d0, .int w, .int h])), (d0, .inl (cI, 4096, .inl ((gL (cyQ ax ay aw ah ox oy ow oh w h op g) ow.toNatClampNeg oh.toNatClampNeg).foldl (layG w h bx0 by0 bx1 by1 wy) g))), (q_18, .inr (5, [.ref q_19, .int w, .int h])), (q_19, .inl (cI, 4096, .inl g_20))] := hD
          refine W.widen (k := 4) (n := 4107) (by omega) (by omega) ?_
          have hP9 := hP.sub (ws' := [(h0, .inr (8, [.ref s1, .ref s2, .ref s3, .ref s4, .ref s5, .ref s6, .int ds, va_rf sp, .ref q_18])), (s1, .inl (cO, 4, .inr (.inr (.inr (.inr f))))), (s2, .inr (1, [.ref bx, .int ik, .int wy, .int op])), (bx, .inr (0, [.int bx0, .int by0, .int bx1, .int by1])), (t0, .inr (5, [.ref d0, .int w, .int h])), (d0, .inl (cI, 4096, .inl ((gL (cyQ ax ay aw ah ox oy ow oh w h op g) ow.toNatClampNeg oh.toNatClampNeg).foldl (layG w h bx0 by0 bx1 by1 wy) g))), (q_18, .inr (5, [.ref q_19, .int w, .int h])), (q_19, .inl (cI, 4096, .inl g_20))]) [0, 1, 2, 3, 4, 5, 6, 7] rfl
          have hD9 := hD.sub (ws' := [(h0, .inr (8, [.ref s1, .ref s2, .ref s3, .ref s4, .ref s5, .ref s6, .int ds, va_rf sp, .ref q_18])), (s1, .inl (cO, 4, .inr (.inr (.inr (.inr f))))), (s2, .inr (1, [.ref bx, .int ik, .int wy, .int op])), (bx, .inr (0, [.int bx0, .int by0, .int bx1, .int by1])), (t0, .inr (5, [.ref d0, .int w, .int h])), (d0, .inl (cI, 4096, .inl ((gL (cyQ ax ay aw ah ox oy ow oh w h op g) ow.toNatClampNeg oh.toNatClampNeg).foldl (layG w h bx0 by0 bx1 by1 wy) g))), (q_18, .inr (5, [.ref q_19, .int w, .int h])), (q_19, .inl (cI, 4096, .inl g_20))]) [0, 1, 2, 3, 4, 5, 6, 7] (by decide) rfl
          have hK9 := hK.sub (tys' := [(cO, .object "DotBench$Sheet"), (cI, .int)]) [0, 1] rfl
          refine hQ _ _ _ _ _ ?_
          exact W.iret (v := r_17) hx hb hr (fun t ht hW => ⟨⟨r_17, (), rfl, hr_17, ⟨q_18, q_19, g_20, by rw [ht]; exact hP9, va_K.moved hW.alike hK9, hD9⟩⟩, hS.F ht⟩) hS.2.2 dX8_stretch_69
        · skip
          have f_12 := bz0 hr_10 c_11
          exact False.elim (by omega)

set_option maxHeartbeats 4000000 in
set_option maxRecDepth 100000 in
theorem k_X5_channelSum_e (l : Launch) (D : va_G) (sz : Nat) (h0 d0 : Nat) (w h : Int32) (g : Nat → Int32) (sf : Int32) (cI : ClassId) (hw : 0 ≤ w.toInt ∧ w.toInt ≤ 64) (hh : 0 ≤ h.toInt ∧ h.toInt ≤ 64) : Met l yX5_channelSum (wB yX5_channelSum cX5_channelSum 5 (some .int)) ({ frames := 2, cells := 0, slots := 0, locals := 44 }) (cP D [(h0, .inr (5, [.ref d0, .int w, .int h])), (d0, .inl (cI, 4096, .inl g))] [(cI, .int)] sz [.ref h0, .int sf]) (va_Qi (fun (r : Int32) (_ : Unit) => r = smL (chF g sf) w.toNatClampNeg 0 h.toNatClampNeg) (fun (_ : Unit) (t : State) => cB D (va_A [(h0, .inr (5, [.ref d0, .int w, .int h])), (d0, .inl (cI, 4096, .inl g))] sz) [(h0, .inr (5, [.ref d0, .int w, .int h])), (d0, .inl (cI, 4096, .inl g))] [(cI, .int)] t) (va_A [(h0, .inr (5, [.ref d0, .int w, .int h])), (d0, .inl (cI, 4096, .inl g))] sz)) 0 0 (va_A [(h0, .inr (5, [.ref d0, .int w, .int h])), (d0, .inl (cI, 4096, .inl g))] sz) := by
  refine Met.ofW (cc := cX5_channelSum) (maxL := 5) (ret := (some .int)) (by decide) rfl ?_
  intro p e s m args below meth c s₁ B hml hv
  obtain ⟨rfl, hsz, hP, hK, hD0, hN⟩ := hv
  have hx := B.exec
  have hb := B.bytes
  have hr := B.returns
  have hts0 := atoms_spec (ws := (wB yX5_channelSum cX5_channelSum 5 (some .int))) B.pre
  have hts : ∀ w ∈ bigW, w.before _ s = true := fun w h => hts0 w (List.mem_cons_of_mem _ h)
  have hown : s.vm.findClass RX5 = some m.cls := findClass_of_methodNamed B.named
  have hlocks := B.notSynchronized
  subst hsz
  have hD := hD0.self (sz := s.heap.size)
  generalize hAe : va_A [(h0, .inr (5, [.ref d0, .int w, .int h])), (d0, .inl (cI, 4096, .inl g))] s.heap.size = A at hD ⊢
  have hA : ∀ q : Nat, s.heap.size ≤ q → A q := fun q h => by rw [← hAe]; exact Or.inr h
  have hS : va_S A s.heap s.heap [] := va_S.rf
  have hP : va_P D vwCl [(h0, .inr (5, [.ref d0, .int w, .int h])), (d0, .inl (cI, 4096, .inl g))] s.heap := hP
  have hl := lv_entry ([.ref h0, .int sf]) (n := 5) (Nat.le_of_ble_eq_true rfl)
  rw [lg_entry_eq]
  generalize (lg_sl ([.ref h0, .int sf]) ++ List.replicate (5 - (lg_sl ([.ref h0, .int sf])).length) Slot.unset).toArray = ls at hl ⊢
  have hl : lv_has ls 5 [(0, .ref h0), (1, .int sf)] := hl
  clear hts0 hD0 hAe
  refine my_abs (fun R Q hR hQ => ?_)
  obtain ⟨W9, hW9, eW9⟩ := i_of (x := w) (N := 65) (by omega) (by omega) (by decide)
  have eW9n : w.toNatClampNeg = W9 := by rw [eW9]; exact nI_clamp (by omega)
  have hW9t : w.toInt = (W9 : Int) := by rw [eW9]; exact nI_toInt (by omega)
  obtain ⟨H9, hH9, eH9⟩ := i_of (x := h) (N := 65) (by omega) (by omega) (by decide)
  have eH9n : h.toNatClampNeg = H9 := by rw [eH9]; exact nI_clamp (by omega)
  have hH9t : h.toInt = (H9 : Int) := by rw [eH9]; exact nI_toInt (by omega)
  refine lv_iconst (v := 0) hx hb dX5_channelSum_0 (by decide) ?_
  refine lv_istore_n (lv' := [(2, .int 0), (0, .ref h0), (1, .int sf)]) hx hb dX5_channelSum_1 rfl hl (by decide) rfl (fun ls hl => ?_)
  refine lv_iconst (v := 0) hx hb dX5_channelSum_2 (by decide) ?_
  refine lv_istore_n (lv' := [(3, .int 0), (2, .int 0), (0, .ref h0), (1, .int sf)]) hx hb dX5_channelSum_3 rfl hl (by decide) rfl (fun ls hl => ?_)
  have loop_1 : ∀ (n : Nat) (j : Nat) (x3 : Int32) (x2 : Int32) (H : Heap) (locs : List Loc) (ls : Array Slot), (j ≤ 64) → (64 + 1 ≤ j + n) → (x3 = nI j) → (j ≤ H9) → (x2 = smL (chF g sf) W9 0 j) → va_P D vwCl [(h0, .inr (5, [.ref d0, .int w, .int h])), (d0, .inl (cI, 4096, .inl g))] H → va_D A [(h0, .inr (5, [.ref d0, .int w, .int h])), (d0, .inl (cI, 4096, .inl g))] → va_S A s.heap H locs → lv_has ls 5 [(3, .int x3), (2, .int x2), (0, .ref h0), (1, .int sf)] → W p l e R s m ([.ref h0, .int sf] : List Value).toArray below meth c H locs 0 0 Q (F0 m 4 ls []) := by
    intro n
    induction n with
    | zero =>
      intro j x3 x2 H locs ls hi_j hm_j ex_j hjo eto hP hD hS hl
      exact absurd (show False by omega) not_false
    | succ n ih_2 =>
      intro j x3 x2 H locs ls hi_j hm_j ex_j hjo eto hP hD hS hl
      have hx_j : x3.toInt = (j : Int) := by rw [ex_j]; exact nI_toInt (by omega)
      have hc_j : x3.toNatClampNeg = j := by rw [ex_j]; exact nI_clamp (by omega)
      refine lv_iload_n hx hb dX5_channelSum_4 rfl (lv_at hl 0 rfl) ?_
      refine lv_aload_n hx hb dX5_channelSum_5 rfl (lv_at hl 2 rfl) ?_
      refine va_get (D := D) (ci := 5) (v := .int h) (C := RX5) (T := TX5) (N := 3) hx hb hts hi_X5 hown hK hP 0 rfl rfl 2 (by decide) (hts _ bw_137) (fun _ h9 => h9) rfl dX5_channelSum_6 ?_
      refine lv_icmp_ge (tgt := 50) hx hb dX5_channelSum_9 (by decide) (fun c_3 => ?_) (fun c_3 => ?_)
      · skip
        have f_4 : h.toInt ≤ (j : Int) := f_le rfl hx_j c_3
        refine lv_iload_n hx hb dX5_channelSum_50 rfl (lv_at hl 1 rfl) ?_
        have hP9 := hP.sub (ws' := [(h0, .inr (5, [.ref d0, .int w, .int h])), (d0, .inl (cI, 4096, .inl g))]) [0, 1] rfl
        have hD9 := hD.sub (ws' := [(h0, .inr (5, [.ref d0, .int w, .int h])), (d0, .inl (cI, 4096, .inl g))]) [0, 1] (by decide) rfl
        have hK9 := hK.sub (tys' := [(cI, .int)]) [0] rfl
        refine hQ _ _ _ _ _ ?_
        exact W.iret (v := x2) hx hb hr (fun t ht hW => ⟨⟨x2, (), rfl, (by rw [eW9n, eH9n, ← show j = H9 by omega]; exact eto), ⟨by rw [ht]; exact hP9, va_K.moved hW.alike hK9, hD9⟩⟩, hS.F ht⟩) hS.2.2 dX5_channelSum_51
      · skip
        have f_4 : ¬ (h.toInt ≤ (j : Int)) := fn_le rfl hx_j c_3
        refine lv_iconst (v := 0) hx hb dX5_channelSum_12 (by decide) ?_
        refine lv_istore (lv' := [(4, .int 0), (3, .int x3), (2, .int x2), (0, .ref h0), (1, .int sf)]) hx hb dX5_channelSum_13 hl (by decide) rfl (fun ls hl => ?_)
        have loop_5 : ∀ (n : Nat) (i : Nat) (x4 : Int32) (z2 : Int32) (H : Heap) (locs : List Loc) (ls : Array Slot), (i ≤ 64) → (64 + 1 ≤ i + n) → (x4 = nI i) → (i ≤ W9) → (z2 = smR (chF g sf) j (smL (chF g sf) W9 0 j) i) → va_P D vwCl [(h0, .inr (5, [.ref d0, .int w, .int h])), (d0, .inl (cI, 4096, .inl g))] H → va_D A [(h0, .inr (5, [.ref d0, .int w, .int h])), (d0, .inl (cI, 4096, .inl g))] → va_S A s.heap H locs → lv_has ls 5 [(4, .int x4), (3, .int x3), (2, .int z2), (0, .ref h0), (1, .int sf)] → W p l e R s m ([.ref h0, .int sf] : List Value).toArray below meth c H locs 0 0 Q (F0 m 15 ls []) := by
          intro n
          induction n with
          | zero =>
            intro i x4 z2 H locs ls hi_i hm_i ex_i hio eti hP hD hS hl
            exact absurd (show False by omega) not_false
          | succ n ih_6 =>
            intro i x4 z2 H locs ls hi_i hm_i ex_i hio eti hP hD hS hl
            have hx_i : x4.toInt = (i : Int) := by rw [ex_i]; exact nI_toInt (by omega)
            have hc_i : x4.toNatClampNeg = i := by rw [ex_i]; exact nI_clamp (by omega)
            refine lv_iload hx hb dX5_channelSum_15 (lv_at hl 0 rfl) ?_
            refine lv_aload_n hx hb dX5_channelSum_17 rfl (lv_at hl 3 rfl) ?_
            refine va_get (D := D) (ci := 5) (v := .int w) (C := RX5) (T := TX5) (N := 3) hx hb hts hi_X5 hown hK hP 0 rfl rfl 1 (by decide) (hts _ bw_136) (fun _ h9 => h9) rfl dX5_channelSum_18 ?_
            refine lv_icmp_ge (tgt := 44) hx hb dX5_channelSum_21 (by decide) (fun c_7 => ?_) (fun c_7 => ?_)
            · skip
              have f_8 : w.toInt ≤ (i : Int) := f_le rfl hx_i c_7
              obtain ⟨y_9, ey_9⟩ : ∃ y : Int32, y = x3 + 1 := ⟨_, rfl⟩
              refine lv_iinc (v := y_9) (lv' := [(3, .int y_9), (4, .int x4), (2, .int z2), (0, .ref h0), (1, .int sf)]) hx hb dX5_channelSum_44 hl (k := 1) rfl (by rw [ey_9]; rfl) (by decide) rfl (fun ls hl => ?_)
              refine lv_goto (tgt := 4) hx hb dX5_channelSum_47 (by decide) ?_
              exact ih_2 (j + 1) y_9 z2 _ _ _ (by omega) (by omega) (by rw [ey_9, ex_j]; exact nI_1 j) (by omega) (sm_nx eti (by omega)) (hP.sub (ws' := [(h0, .inr (5, [.ref d0, .int w, .int h])), (d0, .inl (cI, 4096, .inl g))]) [0, 1] rfl) (hD.sub (ws' := [(h0, .inr (5, [.ref d0, .int w, .int h])), (d0, .inl (cI, 4096, .inl g))]) [0, 1] (by decide) rfl) hS (lv_sub hl [0, 2, 3, 4] rfl)
            · skip
              have f_8 : ¬ (w.toInt ≤ (i : Int)) := fn_le rfl hx_i c_7
              refine lv_iload_n hx hb dX5_channelSum_24 rfl (lv_at hl 2 rfl) ?_
              refine lv_aload_n hx hb dX5_channelSum_25 rfl (lv_at hl 3 rfl) ?_
              refine lv_iload hx hb dX5_channelSum_26 (lv_at hl 0 rfl) ?_
              refine lv_iload_n hx hb dX5_channelSum_28 rfl (lv_at hl 1 rfl) ?_
              have hPc := hP.sub (ws' := [(h0, .inr (5, [.ref d0, .int w, .int h])), (d0, .inl (cI, 4096, .inl g))]) [0, 1] rfl
              have hDc := hD.sub (ws' := [(h0, .inr (5, [.ref d0, .int w, .int h])), (d0, .inl (cI, 4096, .inl g))]) [0, 1] (by decide) rfl
              have hKc := hK.sub (tys' := [(cI, .int)]) [0] rfl
              have hFc := va_free (wc := [(h0, .inr (5, [.ref d0, .int w, .int h])), (d0, .inl (cI, 4096, .inl g))]) hD hS hA [0, 1] rfl
              refine va_calli (va_runV (As := [.int x4, .int x3]) (rest := [.int z2]) ⟨hx, hb, hml, hown, hts⟩ (k_X5_at l D H.size h0 d0 w h g x4 x3 cI (by first | assumption | omega | decide) (by first | assumption | omega | decide)) (cwV 2 hts (gV bw_162 bw_153 bw_154 bw_130 bw_152) rfl rfl rfl (by decide +kernel) ⟨(by rw [hR]; exact Nat.le_of_ble_eq_true rfl), (by rw [hR]; exact Nat.le_of_ble_eq_true rfl)⟩) ⟨cP_blind, va_recv hKc hPc (ci := 5) (q0 := 0) rfl rfl, cP_at hPc hKc hDc hN⟩ rfl rfl hl.1 rfl (lv_room (Nat.le_of_ble_eq_true rfl)) dX5_channelSum_29 ⟨(by rw [hR]; exact Nat.le_of_ble_eq_true rfl), (by rw [hR]; exact Nat.le_of_ble_eq_true rfl)⟩) hS (fun q _ h => hFc q h) hFc (fun r_10 u9 t9 H1 locs ht hvm hr_10 hB hz1 hk1 hS => ?_)
              try dsimp only at hr_10
              obtain ⟨hP1, hK1, hD1⟩ := hB
              rw [ht] at hP1
              obtain ⟨hP, hD⟩ := va_join (wr := []) (w1 := [(h0, .inr (5, [.ref d0, .int w, .int h])), (d0, .inl (cI, 4096, .inl g))]) hP hD [0, 1] [] rfl rfl (by decide) (by decide) hk1 hFc hP1 hD1
              clear hz1 hk1 hFc hKc hDc hPc
              generalize H1 = H at hP hS ⊢
              have hP : va_P D vwCl [(h0, .inr (5, [.ref d0, .int w, .int h])), (d0, .inl (cI, 4096, .inl g))] H := hP
              have hD : va_D A [(h0, .inr (5, [.ref d0, .int w, .int h])), (d0, .inl (cI, 4096, .inl g))] := hD
              have hvr_10 : r_10 = g (ixP (nI i) (nI j)) := by rw [hr_10, if_pos (by omega), ex_i, ex_j]
              refine lv_iload_n hx hb dX5_channelSum_32 rfl (lv_at hl 4 rfl) ?_
              have hPc := hP.sub (ws' := []) [] rfl
              have hDc := hD.sub (ws' := []) [] (by decide) rfl
              have hKc := hK.sub (tys' := []) [] rfl
              have hFc := va_free (wc := []) hD hS hA [] rfl
              refine va_calli (va_runSN (host := RX8) (As := [.int r_10, .int sf]) (rest := [.int z2]) ⟨hx, hb, hml, hown, hts⟩ (k_X8_channel l D H.size r_10 sf) ⟨va_cnB 2 hts (gI bw_360) rfl rfl rfl (hN.2.1 (RX5, 42, yX8_channel, RX8) (by decide +kernel)) (hts _ bw_223) (by decide +kernel) ⟨(by rw [hR]; exact Nat.le_of_ble_eq_true rfl), (by rw [hR]; exact Nat.le_of_ble_eq_true rfl)⟩, (hts _ bw_361), trivial⟩ ⟨cP_blind, cP_at hPc hKc hDc hN⟩ rfl rfl hl.1 rfl (lv_room (Nat.le_of_ble_eq_true rfl)) dX5_channelSum_33 ⟨(by rw [hR]; exact Nat.le_of_ble_eq_true rfl), (by rw [hR]; exact Nat.le_of_ble_eq_true rfl)⟩) hS (fun q _ h => hFc q h) hFc (fun r_11 u9 t9 H1 locs ht hvm hr_11 hB hz1 hk1 hS => ?_)
              try dsimp only at hr_11
              have hP1 : va_P D vwCl [] H1 := vP_nil
              have hD1 : va_D (va_A [] H.size) [] := vD_nil
              obtain ⟨hP, hD⟩ := va_join (wr := [(h0, .inr (5, [.ref d0, .int w, .int h])), (d0, .inl (cI, 4096, .inl g))]) (w1 := []) hP hD [] [0, 1] rfl rfl (by decide) (by decide) hk1 hFc hP1 hD1
              clear hz1 hk1 hFc hKc hDc hPc
              generalize H1 = H at hP hS ⊢
              have hP : va_P D vwCl [(h0, .inr (5, [.ref d0, .int w, .int h])), (d0, .inl (cI, 4096, .inl g))] H := hP
              have hD : va_D A [(h0, .inr (5, [.ref d0, .int w, .int h])), (d0, .inl (cI, 4096, .inl g))] := hD
              have hchr_11 : r_11 = chS (g (ixP (nI i) (nI j))) sf := by rw [hr_11, hvr_10]
              refine lv_iadd hx hb dX5_channelSum_36 ?_
              refine lv_topi (fun y_12 ey_12 => ?_)
              refine lv_istore_n (lv' := [(2, .int y_12), (4, .int x4), (3, .int x3), (0, .ref h0), (1, .int sf)]) hx hb dX5_channelSum_37 rfl hl (by decide) rfl (fun ls hl => ?_)
              obtain ⟨y_13, ey_13⟩ : ∃ y : Int32, y = x4 + 1 := ⟨_, rfl⟩
              refine lv_iinc (v := y_13) (lv' := [(4, .int y_13), (2, .int y_12), (3, .int x3), (0, .ref h0), (1, .int sf)]) hx hb dX5_channelSum_38 hl (k := 1) rfl (by rw [ey_13]; rfl) (by decide) rfl (fun ls hl => ?_)
              refine lv_goto (tgt := 15) hx hb dX5_channelSum_41 (by decide) ?_
              exact ih_6 (i + 1) y_13 y_12 _ _ _ (by omega) (by omega) (by rw [ey_13, ex_i]; exact nI_1 i) (by omega) (by rw [ey_12, hchr_11, eti]; rfl) (hP.sub (ws' := [(h0, .inr (5, [.ref d0, .int w, .int h])), (d0, .inl (cI, 4096, .inl g))]) [0, 1] rfl) (hD.sub (ws' := [(h0, .inr (5, [.ref d0, .int w, .int h])), (d0, .inl (cI, 4096, .inl g))]) [0, 1] (by decide) rfl) hS (lv_sub hl [0, 2, 1, 3, 4] rfl)
        exact loop_5 (64 + 1) 0 0 x2 _ _ _ (by omega) (by omega) nI_0.symm (by omega) eto hP hD hS (lv_sub hl [0, 1, 2, 3, 4] rfl)
  exact loop_1 (64 + 1) 0 0 0 _ _ _ (by omega) (by omega) nI_0.symm (by omega) rfl hP hD hS (lv_sub hl [0, 1, 2, 3] rfl)

set_option maxHeartbeats 4000000 in
set_option maxRecDepth 100000 in
theorem k_X8_count_ye (l : Launch) (D : va_G) (sz : Nat) (h0 s1 s2 s3 s4 s5 s6 : Nat) (ds : Int32) (sp bt : Option Nat) (f : Nat → Option Nat) (t0 d0 : Nat) (w h : Int32) (g : Nat → Int32) (k vl : Int32) (cO : ClassId) (cI : ClassId) (hk : 0 ≤ k.toInt ∧ k.toInt ≤ 3) (hf : f k.toNatClampNeg = some t0) (hw : 0 ≤ w.toInt ∧ w.toInt ≤ 64) (hh : 0 ≤ h.toInt ∧ h.toInt ≤ 64) : Met l yX8_count (wB yX8_count cX8_count 7 (some .int)) ({ frames := 2, cells := 0, slots := 0, locals := 44 }) (cP D [(h0, .inr (8, [.ref s1, .ref s2, .ref s3, .ref s4, .ref s5, .ref s6, .int ds, va_rf sp, va_rf bt])), (s1, .inl (cO, 4, .inr (.inr (.inr (.inr f))))), (t0, .inr (5, [.ref d0, .int w, .int h])), (d0, .inl (cI, 4096, .inl g))] [(cO, .object "DotBench$Sheet"), (cI, .int)] sz [.ref h0, .int k, .int vl]) (va_Qi (fun (r : Int32) (_ : Unit) => r = smL (ctF g vl) w.toNatClampNeg 0 h.toNatClampNeg) (fun (_ : Unit) (t : State) => cB D (va_A [(h0, .inr (8, [.ref s1, .ref s2, .ref s3, .ref s4, .ref s5, .ref s6, .int ds, va_rf sp, va_rf bt])), (s1, .inl (cO, 4, .inr (.inr (.inr (.inr f))))), (t0, .inr (5, [.ref d0, .int w, .int h])), (d0, .inl (cI, 4096, .inl g))] sz) [(h0, .inr (8, [.ref s1, .ref s2, .ref s3, .ref s4, .ref s5, .ref s6, .int ds, va_rf sp, va_rf bt])), (s1, .inl (cO, 4, .inr (.inr (.inr (.inr f))))), (t0, .inr (5, [.ref d0, .int w, .int h])), (d0, .inl (cI, 4096, .inl g))] [(cO, .object "DotBench$Sheet"), (cI, .int)] t) (va_A [(h0, .inr (8, [.ref s1, .ref s2, .ref s3, .ref s4, .ref s5, .ref s6, .int ds, va_rf sp, va_rf bt])), (s1, .inl (cO, 4, .inr (.inr (.inr (.inr f))))), (t0, .inr (5, [.ref d0, .int w, .int h])), (d0, .inl (cI, 4096, .inl g))] sz)) 0 0 (va_A [(h0, .inr (8, [.ref s1, .ref s2, .ref s3, .ref s4, .ref s5, .ref s6, .int ds, va_rf sp, va_rf bt])), (s1, .inl (cO, 4, .inr (.inr (.inr (.inr f))))), (t0, .inr (5, [.ref d0, .int w, .int h])), (d0, .inl (cI, 4096, .inl g))] sz) := by
  refine Met.ofW (cc := cX8_count) (maxL := 7) (ret := (some .int)) (by decide) rfl ?_
  intro p e s m args below meth c s₁ B hml hv
  obtain ⟨rfl, hsz, hP, hK, hD0, hN⟩ := hv
  have hx := B.exec
  have hb := B.bytes
  have hr := B.returns
  have hts0 := atoms_spec (ws := (wB yX8_count cX8_count 7 (some .int))) B.pre
  have hts : ∀ w ∈ bigW, w.before _ s = true := fun w h => hts0 w (List.mem_cons_of_mem _ h)
  have hown : s.vm.findClass RX8 = some m.cls := findClass_of_methodNamed B.named
  have hlocks := B.notSynchronized
  subst hsz
  have hD := hD0.self (sz := s.heap.size)
  generalize hAe : va_A [(h0, .inr (8, [.ref s1, .ref s2, .ref s3, .ref s4, .ref s5, .ref s6, .int ds, va_rf sp, va_rf bt])), (s1, .inl (cO, 4, .inr (.inr (.inr (.inr f))))), (t0, .inr (5, [.ref d0, .int w, .int h])), (d0, .inl (cI, 4096, .inl g))] s.heap.size = A at hD ⊢
  have hA : ∀ q : Nat, s.heap.size ≤ q → A q := fun q h => by rw [← hAe]; exact Or.inr h
  have hS : va_S A s.heap s.heap [] := va_S.rf
  have hP : va_P D vwCl [(h0, .inr (8, [.ref s1, .ref s2, .ref s3, .ref s4, .ref s5, .ref s6, .int ds, va_rf sp, va_rf bt])), (s1, .inl (cO, 4, .inr (.inr (.inr (.inr f))))), (t0, .inr (5, [.ref d0, .int w, .int h])), (d0, .inl (cI, 4096, .inl g))] s.heap := hP
  have hl := lv_entry ([.ref h0, .int k, .int vl]) (n := 7) (Nat.le_of_ble_eq_true rfl)
  rw [lg_entry_eq]
  generalize (lg_sl ([.ref h0, .int k, .int vl]) ++ List.replicate (7 - (lg_sl ([.ref h0, .int k, .int vl])).length) Slot.unset).toArray = ls at hl ⊢
  have hl : lv_has ls 7 [(0, .ref h0), (1, .int k), (2, .int vl)] := hl
  clear hts0 hD0 hAe
  refine my_abs (fun R Q hR hQ => ?_)
  obtain ⟨W9, hW9, eW9⟩ := i_of (x := w) (N := 65) (by omega) (by omega) (by decide)
  have eW9n : w.toNatClampNeg = W9 := by rw [eW9]; exact nI_clamp (by omega)
  have hW9t : w.toInt = (W9 : Int) := by rw [eW9]; exact nI_toInt (by omega)
  obtain ⟨H9, hH9, eH9⟩ := i_of (x := h) (N := 65) (by omega) (by omega) (by decide)
  have eH9n : h.toNatClampNeg = H9 := by rw [eH9]; exact nI_clamp (by omega)
  have hH9t : h.toInt = (H9 : Int) := by rw [eH9]; exact nI_toInt (by omega)
  refine lv_aload_n hx hb dX8_count_0 rfl (lv_at hl 0 rfl) ?_
  refine lv_iload_n hx hb dX8_count_1 rfl (lv_at hl 1 rfl) ?_
  have hPc := hP.sub (ws' := [(h0, .inr (8, [.ref s1, .ref s2, .ref s3, .ref s4, .ref s5, .ref s6, .int ds, va_rf sp, va_rf bt])), (s1, .inl (cO, 4, .inr (.inr (.inr (.inr f)))))]) [0, 1] rfl
  have hDc := hD.sub (ws' := [(h0, .inr (8, [.ref s1, .ref s2, .ref s3, .ref s4, .ref s5, .ref s6, .int ds, va_rf sp, va_rf bt])), (s1, .inl (cO, 4, .inr (.inr (.inr (.inr f)))))]) [0, 1] (by decide) rfl
  have hKc := hK.sub (tys' := [(cO, .object "DotBench$Sheet")]) [0] rfl
  have hFc := va_free (wc := [(h0, .inr (8, [.ref s1, .ref s2, .ref s3, .ref s4, .ref s5, .ref s6, .int ds, va_rf sp, va_rf bt])), (s1, .inl (cO, 4, .inr (.inr (.inr (.inr f)))))]) hD hS hA [0, 1] rfl
  refine va_callq (va_runV (As := [.int k]) (rest := []) ⟨hx, hb, hml, hown, hts⟩ (k_X8_sheetAt_y l D s.heap.size h0 s1 s2 s3 s4 s5 s6 ds sp bt f k t0 cO (by first | assumption | omega | decide) (by first | assumption | omega | decide)) (cwV 1 hts (gV bw_267 bw_346 bw_347 bw_223 bw_345) rfl rfl rfl (by decide +kernel) ⟨(by rw [hR]; exact Nat.le_of_ble_eq_true rfl), (by rw [hR]; exact Nat.le_of_ble_eq_true rfl)⟩) ⟨cP_blind, va_recv hKc hPc (ci := 8) (q0 := 0) rfl rfl, cP_at hPc hKc hDc hN⟩ rfl rfl hl.1 rfl (lv_room (Nat.le_of_ble_eq_true rfl)) dX8_count_2 ⟨(by rw [hR]; exact Nat.le_of_ble_eq_true rfl), (by rw [hR]; exact Nat.le_of_ble_eq_true rfl)⟩) hS (fun q _ h => hFc q h) hFc (fun r_1 u9 t9 H1 locs ht hvm hr_1 hB hz1 hk1 hS => ?_)
  try dsimp only at hr_1
  obtain ⟨hP1, hK1, hD1⟩ := hB
  rw [ht] at hP1
  obtain ⟨hP, hD⟩ := va_join (wr := [(t0, .inr (5, [.ref d0, .int w, .int h])), (d0, .inl (cI, 4096, .inl g))]) (w1 := [(h0, .inr (8, [.ref s1, .ref s2, .ref s3, .ref s4, .ref s5, .ref s6, .int ds, va_rf sp, va_rf bt])), (s1, .inl (cO, 4, .inr (.inr (.inr (.inr f)))))]) hP hD [0, 1] [2, 3] rfl rfl (by decide) (by decide) hk1 hFc hP1 hD1
  clear hz1 hk1 hFc hKc hDc hPc
  generalize H1 = H at hP hS ⊢
  have hP : va_P D vwCl [(t0, .inr (5, [.ref d0, .int w, .int h])), (d0, .inl (cI, 4096, .inl g)), (h0, .inr (8, [.ref s1, .ref s2, .ref s3, .ref s4, .ref s5, .ref s6, .int ds, va_rf sp, va_rf bt])), (s1, .inl (cO, 4, .inr (.inr (.inr (.inr f)))))] H := hP
  have hD : va_D A [(t0, .inr (5, [.ref d0, .int w, .int h])), (d0, .inl (cI, 4096, .inl g)), (h0, .inr (8, [.ref s1, .ref s2, .ref s3, .ref s4, .ref s5, .ref s6, .int ds, va_rf sp, va_rf bt])), (s1, .inl (cO, 4, .inr (.inr (.inr (.inr f)))))] := hD
  subst hr_1
  refine my_topv (v := .ref t0) rfl ?_
  refine lv_astore_n (lv' := [(3, .ref t0), (0, .ref h0), (1, .int k), (2, .int vl)]) hx hb dX8_count_5 rfl hl (by decide) rfl (fun ls hl => ?_)
  refine lv_aload_n hx hb dX8_count_6 rfl (lv_at hl 0 rfl) ?_
  refine lv_ifnonnull (tgt := 12) hx hb dX8_count_7 (by decide) ?_
  refine lv_iconst (v := 0) hx hb dX8_count_12 (by decide) ?_
  refine lv_istore (lv' := [(4, .int 0), (3, .ref t0), (0, .ref h0), (1, .int k), (2, .int vl)]) hx hb dX8_count_13 hl (by decide) rfl (fun ls hl => ?_)
  refine lv_iconst (v := 0) hx hb dX8_count_15 (by decide) ?_
  refine lv_istore (lv' := [(5, .int 0), (4, .int 0), (3, .ref t0), (0, .ref h0), (1, .int k), (2, .int vl)]) hx hb dX8_count_16 hl (by decide) rfl (fun ls hl => ?_)
  have loop_2 : ∀ (n : Nat) (j : Nat) (x5 : Int32) (x4 : Int32) (H : Heap) (locs : List Loc) (ls : Array Slot), (j ≤ 64) → (64 + 1 ≤ j + n) → (x5 = nI j) → (j ≤ H9) → (x4 = smL (ctF g vl) W9 0 j) → va_P D vwCl [(t0, .inr (5, [.ref d0, .int w, .int h])), (d0, .inl (cI, 4096, .inl g)), (h0, .inr (8, [.ref s1, .ref s2, .ref s3, .ref s4, .ref s5, .ref s6, .int ds, va_rf sp, va_rf bt])), (s1, .inl (cO, 4, .inr (.inr (.inr (.inr f)))))] H → va_D A [(t0, .inr (5, [.ref d0, .int w, .int h])), (d0, .inl (cI, 4096, .inl g)), (h0, .inr (8, [.ref s1, .ref s2, .ref s3, .ref s4, .ref s5, .ref s6, .int ds, va_rf sp, va_rf bt])), (s1, .inl (cO, 4, .inr (.inr (.inr (.inr f)))))] → va_S A s.heap H locs → lv_has ls 7 [(5, .int x5), (4, .int x4), (3, .ref t0), (0, .ref h0), (1, .int k), (2, .int vl)] → W p l e R s m ([.ref h0, .int k, .int vl] : List Value).toArray below meth c H locs 0 0 Q (F0 m 18 ls []) := by
    intro n
    induction n with
    | zero =>
      intro j x5 x4 H locs ls hi_j hm_j ex_j hjo eto hP hD hS hl
      exact absurd (show False by omega) not_false
    | succ n ih_3 =>
      intro j x5 x4 H locs ls hi_j hm_j ex_j hjo eto hP hD hS hl
      have hx_j : x5.toInt = (j : Int) := by rw [ex_j]; exact nI_toInt (by omega)
      have hc_j : x5.toNatClampNeg = j := by rw [ex_j]; exact nI_clamp (by omega)
      refine lv_iload hx hb dX8_count_18 (lv_at hl 0 rfl) ?_
      refine lv_aload_n hx hb dX8_count_20 rfl (lv_at hl 2 rfl) ?_
      refine va_getN (host := RX8) (D := D) (ci := 5) (v := .int h) (C := RX5) (T := TX5) (N := 3) hx hb hts hi_X5 hown hK hP 0 rfl rfl 2 (by decide) ((hN.1 (RX8, 145, "DotBench$Sheet", "height", "I", RX8) (by decide +kernel)).use rfl) (fun _ h9 => h9) rfl dX8_count_21 ?_
      refine lv_icmp_ge (tgt := 66) hx hb dX8_count_24 (by decide) (fun c_4 => ?_) (fun c_4 => ?_)
      · skip
        have f_5 : h.toInt ≤ (j : Int) := f_le rfl hx_j c_4
        refine lv_iload hx hb dX8_count_66 (lv_at hl 1 rfl) ?_
        have hP9 := hP.sub (ws' := [(h0, .inr (8, [.ref s1, .ref s2, .ref s3, .ref s4, .ref s5, .ref s6, .int ds, va_rf sp, va_rf bt])), (s1, .inl (cO, 4, .inr (.inr (.inr (.inr f))))), (t0, .inr (5, [.ref d0, .int w, .int h])), (d0, .inl (cI, 4096, .inl g))]) [2, 3, 0, 1] rfl
        have hD9 := hD.sub (ws' := [(h0, .inr (8, [.ref s1, .ref s2, .ref s3, .ref s4, .ref s5, .ref s6, .int ds, va_rf sp, va_rf bt])), (s1, .inl (cO, 4, .inr (.inr (.inr (.inr f))))), (t0, .inr (5, [.ref d0, .int w, .int h])), (d0, .inl (cI, 4096, .inl g))]) [2, 3, 0, 1] (by decide) rfl
        have hK9 := hK.sub (tys' := [(cO, .object "DotBench$Sheet"), (cI, .int)]) [0, 1] rfl
        refine hQ _ _ _ _ _ ?_
        exact W.iret (v := x4) hx hb hr (fun t ht hW => ⟨⟨x4, (), rfl, (by rw [eW9n, eH9n, ← show j = H9 by omega]; exact eto), ⟨by rw [ht]; exact hP9, va_K.moved hW.alike hK9, hD9⟩⟩, hS.F ht⟩) hS.2.2 dX8_count_68
      · skip
        have f_5 : ¬ (h.toInt ≤ (j : Int)) := fn_le rfl hx_j c_4
        refine lv_iconst (v := 0) hx hb dX8_count_27 (by decide) ?_
        refine lv_istore (lv' := [(6, .int 0), (5, .int x5), (4, .int x4), (3, .ref t0), (0, .ref h0), (1, .int k), (2, .int vl)]) hx hb dX8_count_28 hl (by decide) rfl (fun ls hl => ?_)
        have loop_6 : ∀ (n : Nat) (i : Nat) (x6 : Int32) (z4 : Int32) (H : Heap) (locs : List Loc) (ls : Array Slot), (i ≤ 64) → (64 + 1 ≤ i + n) → (x6 = nI i) → (i ≤ W9) → (z4 = smR (ctF g vl) j (smL (ctF g vl) W9 0 j) i) → va_P D vwCl [(t0, .inr (5, [.ref d0, .int w, .int h])), (d0, .inl (cI, 4096, .inl g)), (h0, .inr (8, [.ref s1, .ref s2, .ref s3, .ref s4, .ref s5, .ref s6, .int ds, va_rf sp, va_rf bt])), (s1, .inl (cO, 4, .inr (.inr (.inr (.inr f)))))] H → va_D A [(t0, .inr (5, [.ref d0, .int w, .int h])), (d0, .inl (cI, 4096, .inl g)), (h0, .inr (8, [.ref s1, .ref s2, .ref s3, .ref s4, .ref s5, .ref s6, .int ds, va_rf sp, va_rf bt])), (s1, .inl (cO, 4, .inr (.inr (.inr (.inr f)))))] → va_S A s.heap H locs → lv_has ls 7 [(6, .int x6), (5, .int x5), (4, .int z4), (3, .ref t0), (0, .ref h0), (1, .int k), (2, .int vl)] → W p l e R s m ([.ref h0, .int k, .int vl] : List Value).toArray below meth c H locs 0 0 Q (F0 m 30 ls []) := by
          intro n
          induction n with
          | zero =>
            intro i x6 z4 H locs ls hi_i hm_i ex_i hio eti hP hD hS hl
            exact absurd (show False by omega) not_false
          | succ n ih_7 =>
            intro i x6 z4 H locs ls hi_i hm_i ex_i hio eti hP hD hS hl
            have hx_i : x6.toInt = (i : Int) := by rw [ex_i]; exact nI_toInt (by omega)
            have hc_i : x6.toNatClampNeg = i := by rw [ex_i]; exact nI_clamp (by omega)
            refine lv_iload hx hb dX8_count_30 (lv_at hl 0 rfl) ?_
            refine lv_aload_n hx hb dX8_count_32 rfl (lv_at hl 3 rfl) ?_
            refine va_getN (host := RX8) (D := D) (ci := 5) (v := .int w) (C := RX5) (T := TX5) (N := 3) hx hb hts hi_X5 hown hK hP 0 rfl rfl 1 (by decide) ((hN.1 (RX8, 148, "DotBench$Sheet", "width", "I", RX8) (by decide +kernel)).use rfl) (fun _ h9 => h9) rfl dX8_count_33 ?_
            refine lv_icmp_ge (tgt := 60) hx hb dX8_count_36 (by decide) (fun c_8 => ?_) (fun c_8 => ?_)
            · skip
              have f_9 : w.toInt ≤ (i : Int) := f_le rfl hx_i c_8
              obtain ⟨y_10, ey_10⟩ : ∃ y : Int32, y = x5 + 1 := ⟨_, rfl⟩
              refine lv_iinc (v := y_10) (lv' := [(5, .int y_10), (6, .int x6), (4, .int z4), (3, .ref t0), (0, .ref h0), (1, .int k), (2, .int vl)]) hx hb dX8_count_60 hl (k := 1) rfl (by rw [ey_10]; rfl) (by decide) rfl (fun ls hl => ?_)
              refine lv_goto (tgt := 18) hx hb dX8_count_63 (by decide) ?_
              exact ih_3 (j + 1) y_10 z4 _ _ _ (by omega) (by omega) (by rw [ey_10, ex_j]; exact nI_1 j) (by omega) (sm_nx eti (by omega)) (hP.sub (ws' := [(t0, .inr (5, [.ref d0, .int w, .int h])), (d0, .inl (cI, 4096, .inl g)), (h0, .inr (8, [.ref s1, .ref s2, .ref s3, .ref s4, .ref s5, .ref s6, .int ds, va_rf sp, va_rf bt])), (s1, .inl (cO, 4, .inr (.inr (.inr (.inr f)))))]) [0, 1, 2, 3] rfl) (hD.sub (ws' := [(t0, .inr (5, [.ref d0, .int w, .int h])), (d0, .inl (cI, 4096, .inl g)), (h0, .inr (8, [.ref s1, .ref s2, .ref s3, .ref s4, .ref s5, .ref s6, .int ds, va_rf sp, va_rf bt])), (s1, .inl (cO, 4, .inr (.inr (.inr (.inr f)))))]) [0, 1, 2, 3] (by decide) rfl) hS (lv_sub hl [0, 2, 3, 4, 5, 6] rfl)
            · skip
              have f_9 : ¬ (w.toInt ≤ (i : Int)) := fn_le rfl hx_i c_8
              refine lv_aload_n hx hb dX8_count_39 rfl (lv_at hl 3 rfl) ?_
              refine lv_iload hx hb dX8_count_40 (lv_at hl 0 rfl) ?_
              refine lv_iload hx hb dX8_count_42 (lv_at hl 1 rfl) ?_
              have hPc := hP.sub (ws' := [(t0, .inr (5, [.ref d0, .int w, .int h])), (d0, .inl (cI, 4096, .inl g))]) [0, 1] rfl
              have hDc := hD.sub (ws' := [(t0, .inr (5, [.ref d0, .int w, .int h])), (d0, .inl (cI, 4096, .inl g))]) [0, 1] (by decide) rfl
              have hKc := hK.sub (tys' := [(cI, .int)]) [1] rfl
              have hFc := va_free (wc := [(t0, .inr (5, [.ref d0, .int w, .int h])), (d0, .inl (cI, 4096, .inl g))]) hD hS hA [0, 1] rfl
              refine va_calli (va_runV (As := [.int x6, .int x5]) (rest := []) ⟨hx, hb, hml, hown, hts⟩ (k_X5_at l D H.size t0 d0 w h g x6 x5 cI (by first | assumption | omega | decide) (by first | assumption | omega | decide)) (cwV 2 hts (gV bw_325 bw_153 bw_154 bw_130 bw_152) rfl rfl rfl (by decide +kernel) ⟨(by rw [hR]; exact Nat.le_of_ble_eq_true rfl), (by rw [hR]; exact Nat.le_of_ble_eq_true rfl)⟩) ⟨cP_blind, va_recv hKc hPc (ci := 5) (q0 := 0) rfl rfl, cP_at hPc hKc hDc hN⟩ rfl rfl hl.1 rfl (lv_room (Nat.le_of_ble_eq_true rfl)) dX8_count_44 ⟨(by rw [hR]; exact Nat.le_of_ble_eq_true rfl), (by rw [hR]; exact Nat.le_of_ble_eq_true rfl)⟩) hS (fun q _ h => hFc q h) hFc (fun r_11 u9 t9 H1 locs ht hvm hr_11 hB hz1 hk1 hS => ?_)
              try dsimp only at hr_11
              obtain ⟨hP1, hK1, hD1⟩ := hB
              rw [ht] at hP1
              obtain ⟨hP, hD⟩ := va_join (wr := [(h0, .inr (8, [.ref s1, .ref s2, .ref s3, .ref s4, .ref s5, .ref s6, .int ds, va_rf sp, va_rf bt])), (s1, .inl (cO, 4, .inr (.inr (.inr (.inr f)))))]) (w1 := [(t0, .inr (5, [.ref d0, .int w, .int h])), (d0, .inl (cI, 4096, .inl g))]) hP hD [0, 1] [2, 3] rfl rfl (by decide) (by decide) hk1 hFc hP1 hD1
              clear hz1 hk1 hFc hKc hDc hPc
              generalize H1 = H at hP hS ⊢
              have hP : va_P D vwCl [(h0, .inr (8, [.ref s1, .ref s2, .ref s3, .ref s4, .ref s5, .ref s6, .int ds, va_rf sp, va_rf bt])), (s1, .inl (cO, 4, .inr (.inr (.inr (.inr f))))), (t0, .inr (5, [.ref d0, .int w, .int h])), (d0, .inl (cI, 4096, .inl g))] H := hP
              have hD : va_D A [(h0, .inr (8, [.ref s1, .ref s2, .ref s3, .ref s4, .ref s5, .ref s6, .int ds, va_rf sp, va_rf bt])), (s1, .inl (cO, 4, .inr (.inr (.inr (.inr f))))), (t0, .inr (5, [.ref d0, .int w, .int h])), (d0, .inl (cI, 4096, .inl g))] := hD
              have hvr_11 : r_11 = g (ixP (nI i) (nI j)) := by rw [hr_11, if_pos (by omega), ex_i, ex_j]
              refine lv_iload_n hx hb dX8_count_47 rfl (lv_at hl 6 rfl) ?_
              refine lv_icmp_ne (tgt := 54) hx hb dX8_count_48 (by decide) (fun c_12 => ?_) (fun c_12 => ?_)
              · skip
                have f_13 : ¬ (r_11.toInt = vl.toInt) := fn_eq rfl rfl c_12
                obtain ⟨y_14, ey_14⟩ : ∃ y : Int32, y = x6 + 1 := ⟨_, rfl⟩
                refine lv_iinc (v := y_14) (lv' := [(6, .int y_14), (5, .int x5), (4, .int z4), (3, .ref t0), (0, .ref h0), (1, .int k), (2, .int vl)]) hx hb dX8_count_54 hl (k := 0) rfl (by rw [ey_14]; rfl) (by decide) rfl (fun ls hl => ?_)
                refine lv_goto (tgt := 30) hx hb dX8_count_57 (by decide) ?_
                exact ih_7 (i + 1) y_14 z4 _ _ _ (by omega) (by omega) (by rw [ey_14, ex_i]; exact nI_1 i) (by omega) (eti.trans (ct_n (by rw [← hvr_11]; exact c_12)).symm) (hP.sub (ws' := [(t0, .inr (5, [.ref d0, .int w, .int h])), (d0, .inl (cI, 4096, .inl g)), (h0, .inr (8, [.ref s1, .ref s2, .ref s3, .ref s4, .ref s5, .ref s6, .int ds, va_rf sp, va_rf bt])), (s1, .inl (cO, 4, .inr (.inr (.inr (.inr f)))))]) [2, 3, 0, 1] rfl) (hD.sub (ws' := [(t0, .inr (5, [.ref d0, .int w, .int h])), (d0, .inl (cI, 4096, .inl g)), (h0, .inr (8, [.ref s1, .ref s2, .ref s3, .ref s4, .ref s5, .ref s6, .int ds, va_rf sp, va_rf bt])), (s1, .inl (cO, 4, .inr (.inr (.inr (.inr f)))))]) [2, 3, 0, 1] (by decide) rfl) hS (lv_sub hl [0, 1, 2, 3, 4, 5, 6] rfl)
              · skip
                have f_13 : r_11.toInt = vl.toInt := f_eq rfl rfl c_12
                obtain ⟨y_15, ey_15⟩ : ∃ y : Int32, y = z4 + 1 := ⟨_, rfl⟩
                refine lv_iinc (v := y_15) (lv' := [(4, .int y_15), (6, .int x6), (5, .int x5), (3, .ref t0), (0, .ref h0), (1, .int k), (2, .int vl)]) hx hb dX8_count_51 hl (k := 2) rfl (by rw [ey_15]; rfl) (by decide) rfl (fun ls hl => ?_)
                obtain ⟨y_16, ey_16⟩ : ∃ y : Int32, y = x6 + 1 := ⟨_, rfl⟩
                refine lv_iinc (v := y_16) (lv' := [(6, .int y_16), (4, .int y_15), (5, .int x5), (3, .ref t0), (0, .ref h0), (1, .int k), (2, .int vl)]) hx hb dX8_count_54 hl (k := 1) rfl (by rw [ey_16]; rfl) (by decide) rfl (fun ls hl => ?_)
                refine lv_goto (tgt := 30) hx hb dX8_count_57 (by decide) ?_
                exact ih_7 (i + 1) y_16 y_15 _ _ _ (by omega) (by omega) (by rw [ey_16, ex_i]; exact nI_1 i) (by omega) (by rw [ey_15, eti]; exact (ct_y (by rw [← hvr_11]; exact c_12)).symm) (hP.sub (ws' := [(t0, .inr (5, [.ref d0, .int w, .int h])), (d0, .inl (cI, 4096, .inl g)), (h0, .inr (8, [.ref s1, .ref s2, .ref s3, .ref s4, .ref s5, .ref s6, .int ds, va_rf sp, va_rf bt])), (s1, .inl (cO, 4, .inr (.inr (.inr (.inr f)))))]) [2, 3, 0, 1] rfl) (hD.sub (ws' := [(t0, .inr (5, [.ref d0, .int w, .int h])), (d0, .inl (cI, 4096, .inl g)), (h0, .inr (8, [.ref s1, .ref s2, .ref s3, .ref s4, .ref s5, .ref s6, .int ds, va_rf sp, va_rf bt])), (s1, .inl (cO, 4, .inr (.inr (.inr (.inr f)))))]) [2, 3, 0, 1] (by decide) rfl) hS (lv_sub hl [0, 2, 1, 3, 4, 5, 6] rfl)
        exact loop_6 (64 + 1) 0 0 x4 _ _ _ (by omega) (by omega) nI_0.symm (by omega) eto hP hD hS (lv_sub hl [0, 1, 2, 3, 4, 5, 6] rfl)
  exact loop_2 (64 + 1) 0 0 0 _ _ _ (by omega) (by omega) nI_0.symm (by omega) rfl hP hD hS (lv_sub hl [0, 1, 2, 3, 4, 5] rfl)

set_option maxHeartbeats 4000000 in
set_option maxRecDepth 100000 in
theorem k_X5_boxSide_e (l : Launch) (D : va_G) (sz : Nat) (h0 d0 : Nat) (w h : Int32) (g : Nat → Int32) (al hg : Int32) (cI : ClassId) (hw : 0 ≤ w.toInt ∧ w.toInt ≤ 64) (hh : 0 ≤ h.toInt ∧ h.toInt ≤ 64) : Met l yX5_boxSide (wB yX5_boxSide cX5_boxSide 8 (some .int)) ({ frames := 2, cells := 0, slots := 0, locals := 44 }) (cP D [(h0, .inr (5, [.ref d0, .int w, .int h])), (d0, .inl (cI, 4096, .inl g))] [(cI, .int)] sz [.ref h0, .int al, .int hg]) (va_Qi (fun (r : Int32) (_ : Unit) => r = if hg = 0 then smL (blF g al) w.toNatClampNeg (-1) h.toNatClampNeg else smL (bhF g al) w.toNatClampNeg (-1) h.toNatClampNeg) (fun (_ : Unit) (t : State) => cB D (va_A [(h0, .inr (5, [.ref d0, .int w, .int h])), (d0, .inl (cI, 4096, .inl g))] sz) [(h0, .inr (5, [.ref d0, .int w, .int h])), (d0, .inl (cI, 4096, .inl g))] [(cI, .int)] t) (va_A [(h0, .inr (5, [.ref d0, .int w, .int h])), (d0, .inl (cI, 4096, .inl g))] sz)) 0 0 (va_A [(h0, .inr (5, [.ref d0, .int w, .int h])), (d0, .inl (cI, 4096, .inl g))] sz) := by
  refine Met.ofW (cc := cX5_boxSide) (maxL := 8) (ret := (some .int)) (by decide) rfl ?_
  intro p e s m args below meth c s₁ B hml hv
  obtain ⟨rfl, hsz, hP, hK, hD0, hN⟩ := hv
  have hx := B.exec
  have hb := B.bytes
  have hr := B.returns
  have hts0 := atoms_spec (ws := (wB yX5_boxSide cX5_boxSide 8 (some .int))) B.pre
  have hts : ∀ w ∈ bigW, w.before _ s = true := fun w h => hts0 w (List.mem_cons_of_mem _ h)
  have hown : s.vm.findClass RX5 = some m.cls := findClass_of_methodNamed B.named
  have hlocks := B.notSynchronized
  subst hsz
  have hD := hD0.self (sz := s.heap.size)
  generalize hAe : va_A [(h0, .inr (5, [.ref d0, .int w, .int h])), (d0, .inl (cI, 4096, .inl g))] s.heap.size = A at hD ⊢
  have hA : ∀ q : Nat, s.heap.size ≤ q → A q := fun q h => by rw [← hAe]; exact Or.inr h
  have hS : va_S A s.heap s.heap [] := va_S.rf
  have hP : va_P D vwCl [(h0, .inr (5, [.ref d0, .int w, .int h])), (d0, .inl (cI, 4096, .inl g))] s.heap := hP
  have hl := lv_entry ([.ref h0, .int al, .int hg]) (n := 8) (Nat.le_of_ble_eq_true rfl)
  rw [lg_entry_eq]
  generalize (lg_sl ([.ref h0, .int al, .int hg]) ++ List.replicate (8 - (lg_sl ([.ref h0, .int al, .int hg])).length) Slot.unset).toArray = ls at hl ⊢
  have hl : lv_has ls 8 [(0, .ref h0), (1, .int al), (2, .int hg)] := hl
  clear hts0 hD0 hAe
  refine my_abs (fun R Q hR hQ => ?_)
  obtain ⟨W9, hW9, eW9⟩ := i_of (x := w) (N := 65) (by omega) (by omega) (by decide)
  have eW9n : w.toNatClampNeg = W9 := by rw [eW9]; exact nI_clamp (by omega)
  have hW9t : w.toInt = (W9 : Int) := by rw [eW9]; exact nI_toInt (by omega)
  obtain ⟨H9, hH9, eH9⟩ := i_of (x := h) (N := 65) (by omega) (by omega) (by decide)
  have eH9n : h.toNatClampNeg = H9 := by rw [eH9]; exact nI_clamp (by omega)
  have hH9t : h.toInt = (H9 : Int) := by rw [eH9]; exact nI_toInt (by omega)
  refine lv_iconst (v := (-1)) hx hb dX5_boxSide_0 (by decide) ?_
  refine lv_istore_n (lv' := [(3, .int (-1)), (0, .ref h0), (1, .int al), (2, .int hg)]) hx hb dX5_boxSide_1 rfl hl (by decide) rfl (fun ls hl => ?_)
  refine lv_iconst (v := (-1)) hx hb dX5_boxSide_2 (by decide) ?_
  refine lv_istore (lv' := [(4, .int (-1)), (3, .int (-1)), (0, .ref h0), (1, .int al), (2, .int hg)]) hx hb dX5_boxSide_3 hl (by decide) rfl (fun ls hl => ?_)
  refine lv_iconst (v := 0) hx hb dX5_boxSide_5 (by decide) ?_
  refine lv_istore (lv' := [(5, .int 0), (4, .int (-1)), (3, .int (-1)), (0, .ref h0), (1, .int al), (2, .int hg)]) hx hb dX5_boxSide_6 hl (by decide) rfl (fun ls hl => ?_)
  have loop_1 : ∀ (n : Nat) (j : Nat) (x5 : Int32) (x3 : Int32) (x4 : Int32) (H : Heap) (locs : List Loc) (ls : Array Slot), (j ≤ 64) → (64 + 1 ≤ j + n) → (x5 = nI j) → (j ≤ H9) → (x3 = smL (blF g al) W9 (-1) j) → (x4 = smL (bhF g al) W9 (-1) j) → va_P D vwCl [(h0, .inr (5, [.ref d0, .int w, .int h])), (d0, .inl (cI, 4096, .inl g))] H → va_D A [(h0, .inr (5, [.ref d0, .int w, .int h])), (d0, .inl (cI, 4096, .inl g))] → va_S A s.heap H locs → lv_has ls 8 [(5, .int x5), (4, .int x4), (3, .int x3), (0, .ref h0), (1, .int al), (2, .int hg)] → W p l e R s m ([.ref h0, .int al, .int hg] : List Value).toArray below meth c H locs 0 0 Q (F0 m 8 ls []) := by
    intro n
    induction n with
    | zero =>
      intro j x5 x3 x4 H locs ls hi_j hm_j ex_j hjo eto3 eto4 hP hD hS hl
      exact absurd (show False by omega) not_false
    | succ n ih_2 =>
      intro j x5 x3 x4 H locs ls hi_j hm_j ex_j hjo eto3 eto4 hP hD hS hl
      have hx_j : x5.toInt = (j : Int) := by rw [ex_j]; exact nI_toInt (by omega)
      have hc_j : x5.toNatClampNeg = j := by rw [ex_j]; exact nI_clamp (by omega)
      refine lv_iload hx hb dX5_boxSide_8 (lv_at hl 0 rfl) ?_
      refine lv_aload_n hx hb dX5_boxSide_10 rfl (lv_at hl 3 rfl) ?_
      refine va_get (D := D) (ci := 5) (v := .int h) (C := RX5) (T := TX5) (N := 3) hx hb hts hi_X5 hown hK hP 0 rfl rfl 2 (by decide) (hts _ bw_137) (fun _ h9 => h9) rfl dX5_boxSide_11 ?_
      refine lv_icmp_ge (tgt := 96) hx hb dX5_boxSide_14 (by decide) (fun c_3 => ?_) (fun c_3 => ?_)
      · skip
        have f_4 : h.toInt ≤ (j : Int) := f_le rfl hx_j c_3
        refine lv_iload_n hx hb dX5_boxSide_96 rfl (lv_at hl 5 rfl) ?_
        refine lv_if_eq (tgt := 105) hx hb dX5_boxSide_97 (by decide) (fun c_5 => ?_) (fun c_5 => ?_)
        · skip
          have f_6 : hg.toInt = 0 := f_eq rfl (by decide) c_5
          refine lv_iload_n hx hb dX5_boxSide_105 rfl (lv_at hl 2 rfl) ?_
          have hP9 := hP.sub (ws' := [(h0, .inr (5, [.ref d0, .int w, .int h])), (d0, .inl (cI, 4096, .inl g))]) [0, 1] rfl
          have hD9 := hD.sub (ws' := [(h0, .inr (5, [.ref d0, .int w, .int h])), (d0, .inl (cI, 4096, .inl g))]) [0, 1] (by decide) rfl
          have hK9 := hK.sub (tys' := [(cI, .int)]) [0] rfl
          refine hQ _ _ _ _ _ ?_
          exact W.iret (v := x3) hx hb hr (fun t ht hW => ⟨⟨x3, (), rfl, (by rw [if_pos c_5, eW9n, eH9n, ← show j = H9 by omega]; exact eto3), ⟨by rw [ht]; exact hP9, va_K.moved hW.alike hK9, hD9⟩⟩, hS.F ht⟩) hS.2.2 dX5_boxSide_106
        · skip
          have f_6 : ¬ (hg.toInt = 0) := fn_eq rfl (by decide) c_5
          refine lv_iload hx hb dX5_boxSide_100 (lv_at hl 1 rfl) ?_
          refine lv_goto (tgt := 106) hx hb dX5_boxSide_102 (by decide) ?_
          have hP9 := hP.sub (ws' := [(h0, .inr (5, [.ref d0, .int w, .int h])), (d0, .inl (cI, 4096, .inl g))]) [0, 1] rfl
          have hD9 := hD.sub (ws' := [(h0, .inr (5, [.ref d0, .int w, .int h])), (d0, .inl (cI, 4096, .inl g))]) [0, 1] (by decide) rfl
          have hK9 := hK.sub (tys' := [(cI, .int)]) [0] rfl
          refine hQ _ _ _ _ _ ?_
          exact W.iret (v := x4) hx hb hr (fun t ht hW => ⟨⟨x4, (), rfl, (by rw [if_neg c_5, eW9n, eH9n, ← show j = H9 by omega]; exact eto4), ⟨by rw [ht]; exact hP9, va_K.moved hW.alike hK9, hD9⟩⟩, hS.F ht⟩) hS.2.2 dX5_boxSide_106
      · skip
        have f_4 : ¬ (h.toInt ≤ (j : Int)) := fn_le rfl hx_j c_3
        refine lv_iconst (v := 0) hx hb dX5_boxSide_17 (by decide) ?_
        refine lv_istore (lv' := [(6, .int 0), (5, .int x5), (4, .int x4), (3, .int x3), (0, .ref h0), (1, .int al), (2, .int hg)]) hx hb dX5_boxSide_18 hl (by decide) rfl (fun ls hl => ?_)
        have loop_7 : ∀ (n : Nat) (i : Nat) (x6 : Int32) (z3 : Int32) (z4 : Int32) (H : Heap) (locs : List Loc) (ls : Array Slot), (i ≤ 64) → (64 + 1 ≤ i + n) → (x6 = nI i) → (i ≤ W9) → (z3 = smR (blF g al) j (smL (blF g al) W9 (-1) j) i) → (z4 = smR (bhF g al) j (smL (bhF g al) W9 (-1) j) i) → va_P D vwCl [(h0, .inr (5, [.ref d0, .int w, .int h])), (d0, .inl (cI, 4096, .inl g))] H → va_D A [(h0, .inr (5, [.ref d0, .int w, .int h])), (d0, .inl (cI, 4096, .inl g))] → va_S A s.heap H locs → lv_has ls 8 [(6, .int x6), (5, .int x5), (4, .int z4), (3, .int z3), (0, .ref h0), (1, .int al), (2, .int hg)] → W p l e R s m ([.ref h0, .int al, .int hg] : List Value).toArray below meth c H locs 0 0 Q (F0 m 20 ls []) := by
          intro n
          induction n with
          | zero =>
            intro i x6 z3 z4 H locs ls hi_i hm_i ex_i hio eti3 eti4 hP hD hS hl
            exact absurd (show False by omega) not_false
          | succ n ih_8 =>
            intro i x6 z3 z4 H locs ls hi_i hm_i ex_i hio eti3 eti4 hP hD hS hl
            have hx_i : x6.toInt = (i : Int) := by rw [ex_i]; exact nI_toInt (by omega)
            have hc_i : x6.toNatClampNeg = i := by rw [ex_i]; exact nI_clamp (by omega)
            refine lv_iload hx hb dX5_boxSide_20 (lv_at hl 0 rfl) ?_
            refine lv_aload_n hx hb dX5_boxSide_22 rfl (lv_at hl 4 rfl) ?_
            refine va_get (D := D) (ci := 5) (v := .int w) (C := RX5) (T := TX5) (N := 3) hx hb hts hi_X5 hown hK hP 0 rfl rfl 1 (by decide) (hts _ bw_136) (fun _ h9 => h9) rfl dX5_boxSide_23 ?_
            refine lv_icmp_ge (tgt := 90) hx hb dX5_boxSide_26 (by decide) (fun c_9 => ?_) (fun c_9 => ?_)
            · skip
              have f_10 : w.toInt ≤ (i : Int) := f_le rfl hx_i c_9
              obtain ⟨y_11, ey_11⟩ : ∃ y : Int32, y = x5 + 1 := ⟨_, rfl⟩
              refine lv_iinc (v := y_11) (lv' := [(5, .int y_11), (6, .int x6), (4, .int z4), (3, .int z3), (0, .ref h0), (1, .int al), (2, .int hg)]) hx hb dX5_boxSide_90 hl (k := 1) rfl (by rw [ey_11]; rfl) (by decide) rfl (fun ls hl => ?_)
              refine lv_goto (tgt := 8) hx hb dX5_boxSide_93 (by decide) ?_
              exact ih_2 (j + 1) y_11 z3 z4 _ _ _ (by omega) (by omega) (by rw [ey_11, ex_j]; exact nI_1 j) (by omega) (sm_nx eti3 (by omega)) (sm_nx eti4 (by omega)) (hP.sub (ws' := [(h0, .inr (5, [.ref d0, .int w, .int h])), (d0, .inl (cI, 4096, .inl g))]) [0, 1] rfl) (hD.sub (ws' := [(h0, .inr (5, [.ref d0, .int w, .int h])), (d0, .inl (cI, 4096, .inl g))]) [0, 1] (by decide) rfl) hS (lv_sub hl [0, 2, 3, 4, 5, 6] rfl)
            · skip
              have f_10 : ¬ (w.toInt ≤ (i : Int)) := fn_le rfl hx_i c_9
              refine lv_aload_n hx hb dX5_boxSide_29 rfl (lv_at hl 4 rfl) ?_
              refine lv_iload hx hb dX5_boxSide_30 (lv_at hl 0 rfl) ?_
              refine lv_iload hx hb dX5_boxSide_32 (lv_at hl 1 rfl) ?_
              have hPc := hP.sub (ws' := [(h0, .inr (5, [.ref d0, .int w, .int h])), (d0, .inl (cI, 4096, .inl g))]) [0, 1] rfl
              have hDc := hD.sub (ws' := [(h0, .inr (5, [.ref d0, .int w, .int h])), (d0, .inl (cI, 4096, .inl g))]) [0, 1] (by decide) rfl
              have hKc := hK.sub (tys' := [(cI, .int)]) [0] rfl
              have hFc := va_free (wc := [(h0, .inr (5, [.ref d0, .int w, .int h])), (d0, .inl (cI, 4096, .inl g))]) hD hS hA [0, 1] rfl
              refine va_calli (va_runV (As := [.int x6, .int x5]) (rest := []) ⟨hx, hb, hml, hown, hts⟩ (k_X5_at l D H.size h0 d0 w h g x6 x5 cI (by first | assumption | omega | decide) (by first | assumption | omega | decide)) (cwV 2 hts (gV bw_162 bw_153 bw_154 bw_130 bw_152) rfl rfl rfl (by decide +kernel) ⟨(by rw [hR]; exact Nat.le_of_ble_eq_true rfl), (by rw [hR]; exact Nat.le_of_ble_eq_true rfl)⟩) ⟨cP_blind, va_recv hKc hPc (ci := 5) (q0 := 0) rfl rfl, cP_at hPc hKc hDc hN⟩ rfl rfl hl.1 rfl (lv_room (Nat.le_of_ble_eq_true rfl)) dX5_boxSide_34 ⟨(by rw [hR]; exact Nat.le_of_ble_eq_true rfl), (by rw [hR]; exact Nat.le_of_ble_eq_true rfl)⟩) hS (fun q _ h => hFc q h) hFc (fun r_12 u9 t9 H1 locs ht hvm hr_12 hB hz1 hk1 hS => ?_)
              try dsimp only at hr_12
              obtain ⟨hP1, hK1, hD1⟩ := hB
              rw [ht] at hP1
              obtain ⟨hP, hD⟩ := va_join (wr := []) (w1 := [(h0, .inr (5, [.ref d0, .int w, .int h])), (d0, .inl (cI, 4096, .inl g))]) hP hD [0, 1] [] rfl rfl (by decide) (by decide) hk1 hFc hP1 hD1
              clear hz1 hk1 hFc hKc hDc hPc
              generalize H1 = H at hP hS ⊢
              have hP : va_P D vwCl [(h0, .inr (5, [.ref d0, .int w, .int h])), (d0, .inl (cI, 4096, .inl g))] H := hP
              have hD : va_D A [(h0, .inr (5, [.ref d0, .int w, .int h])), (d0, .inl (cI, 4096, .inl g))] := hD
              have hvr_12 : r_12 = g (ixP (nI i) (nI j)) := by rw [hr_12, if_pos (by omega), ex_i, ex_j]
              refine lv_bipush (v := 24) hx hb dX5_boxSide_37 (by decide) ?_
              have hPc := hP.sub (ws' := []) [] rfl
              have hDc := hD.sub (ws' := []) [] (by decide) rfl
              have hKc := hK.sub (tys' := []) [] rfl
              have hFc := va_free (wc := []) hD hS hA [] rfl
              refine va_calli (va_runSN (host := RX8) (As := [.int r_12, .int 24]) (rest := []) ⟨hx, hb, hml, hown, hts⟩ (k_X8_channel l D H.size r_12 24) ⟨va_cnB 2 hts (gI bw_360) rfl rfl rfl (hN.2.1 (RX5, 42, yX8_channel, RX8) (by decide +kernel)) (hts _ bw_223) (by decide +kernel) ⟨(by rw [hR]; exact Nat.le_of_ble_eq_true rfl), (by rw [hR]; exact Nat.le_of_ble_eq_true rfl)⟩, (hts _ bw_361), trivial⟩ ⟨cP_blind, cP_at hPc hKc hDc hN⟩ rfl rfl hl.1 rfl (lv_room (Nat.le_of_ble_eq_true rfl)) dX5_boxSide_39 ⟨(by rw [hR]; exact Nat.le_of_ble_eq_true rfl), (by rw [hR]; exact Nat.le_of_ble_eq_true rfl)⟩) hS (fun q _ h => hFc q h) hFc (fun r_13 u9 t9 H1 locs ht hvm hr_13 hB hz1 hk1 hS => ?_)
              try dsimp only at hr_13
              have hP1 : va_P D vwCl [] H1 := vP_nil
              have hD1 : va_D (va_A [] H.size) [] := vD_nil
              obtain ⟨hP, hD⟩ := va_join (wr := [(h0, .inr (5, [.ref d0, .int w, .int h])), (d0, .inl (cI, 4096, .inl g))]) (w1 := []) hP hD [] [0, 1] rfl rfl (by decide) (by decide) hk1 hFc hP1 hD1
              clear hz1 hk1 hFc hKc hDc hPc
              generalize H1 = H at hP hS ⊢
              have hP : va_P D vwCl [(h0, .inr (5, [.ref d0, .int w, .int h])), (d0, .inl (cI, 4096, .inl g))] H := hP
              have hD : va_D A [(h0, .inr (5, [.ref d0, .int w, .int h])), (d0, .inl (cI, 4096, .inl g))] := hD
              have hchr_13 : r_13 = chS (g (ixP (nI i) (nI j))) 24 := by rw [hr_13, hvr_12]
              refine lv_if_eq (tgt := 84) hx hb dX5_boxSide_42 (by decide) (fun c_14 => ?_) (fun c_14 => ?_)
              · skip
                have f_15 : r_13.toInt = 0 := f_eq rfl (by decide) c_14
                obtain ⟨y_16, ey_16⟩ : ∃ y : Int32, y = x6 + 1 := ⟨_, rfl⟩
                refine lv_iinc (v := y_16) (lv' := [(6, .int y_16), (5, .int x5), (4, .int z4), (3, .int z3), (0, .ref h0), (1, .int al), (2, .int hg)]) hx hb dX5_boxSide_84 hl (k := 0) rfl (by rw [ey_16]; rfl) (by decide) rfl (fun ls hl => ?_)
                refine lv_goto (tgt := 20) hx hb dX5_boxSide_87 (by decide) ?_
                exact ih_8 (i + 1) y_16 z3 z4 _ _ _ (by omega) (by omega) (by rw [ey_16, ex_i]; exact nI_1 i) (by omega) (eti3.trans (show blF g al j i _ = _ from if_pos (hchr_13.symm.trans c_14)).symm) (eti4.trans (show bhF g al j i _ = _ from if_pos (hchr_13.symm.trans c_14)).symm) (hP.sub (ws' := [(h0, .inr (5, [.ref d0, .int w, .int h])), (d0, .inl (cI, 4096, .inl g))]) [0, 1] rfl) (hD.sub (ws' := [(h0, .inr (5, [.ref d0, .int w, .int h])), (d0, .inl (cI, 4096, .inl g))]) [0, 1] (by decide) rfl) hS (lv_sub hl [0, 1, 2, 3, 4, 5, 6] rfl)
              · skip
                have f_15 : ¬ (r_13.toInt = 0) := fn_eq rfl (by decide) c_14
                refine lv_iload_n hx hb dX5_boxSide_45 rfl (lv_at hl 5 rfl) ?_
                refine lv_if_eq (tgt := 54) hx hb dX5_boxSide_46 (by decide) (fun c_17 => ?_) (fun c_17 => ?_)
                · skip
                  have f_18 : al.toInt = 0 := f_eq rfl (by decide) c_17
                  refine lv_iload hx hb dX5_boxSide_54 (lv_at hl 1 rfl) ?_
                  refine lv_istore (lv' := [(7, .int x5), (6, .int x6), (5, .int x5), (4, .int z4), (3, .int z3), (0, .ref h0), (1, .int al), (2, .int hg)]) hx hb dX5_boxSide_56 hl (by decide) rfl (fun ls hl => ?_)
                  refine lv_iload_n hx hb dX5_boxSide_58 rfl (lv_at hl 4 rfl) ?_
                  refine lv_iconst (v := (-1)) hx hb dX5_boxSide_59 (by decide) ?_
                  refine lv_icmp_ne (tgt := 68) hx hb dX5_boxSide_60 (by decide) (fun c_19 => ?_) (fun c_19 => ?_)
                  · skip
                    have f_20 : ¬ (z3.toInt = (-1)) := fn_eq rfl (by decide) c_19
                    refine lv_iload_n hx hb dX5_boxSide_68 rfl (lv_at hl 4 rfl) ?_
                    refine lv_iload hx hb dX5_boxSide_69 (lv_at hl 0 rfl) ?_
                    refine va_mmin hx hb (by rw [hml]; exact hl.1.symm) hown (hts _ bw_166) (hts _ bw_46) (hts _ bw_47) (hts _ bw_48) (by rw [hR]; exact Nat.le_of_ble_eq_true rfl) (by rw [hR]; exact Nat.le_of_ble_eq_true rfl) (by rw [hR]; exact Nat.le_of_ble_eq_true rfl) (by rw [hR]; exact Nat.le_of_ble_eq_true rfl) dX5_boxSide_71 ?_
                    refine lv_topi (fun y_21 ey_21 => ?_)
                    refine lv_istore_n (lv' := [(3, .int y_21), (7, .int x5), (6, .int x6), (5, .int x5), (4, .int z4), (0, .ref h0), (1, .int al), (2, .int hg)]) hx hb dX5_boxSide_74 rfl hl (by decide) rfl (fun ls hl => ?_)
                    refine lv_iload hx hb dX5_boxSide_75 (lv_at hl 4 rfl) ?_
                    refine lv_iload hx hb dX5_boxSide_77 (lv_at hl 1 rfl) ?_
                    refine va_mmax hx hb (by rw [hml]; exact hl.1.symm) hown (hts _ bw_167) (hts _ bw_99) (hts _ bw_47) (hts _ bw_100) (by rw [hR]; exact Nat.le_of_ble_eq_true rfl) (by rw [hR]; exact Nat.le_of_ble_eq_true rfl) (by rw [hR]; exact Nat.le_of_ble_eq_true rfl) (by rw [hR]; exact Nat.le_of_ble_eq_true rfl) dX5_boxSide_79 ?_
                    refine lv_topi (fun y_22 ey_22 => ?_)
                    refine lv_istore (lv' := [(4, .int y_22), (3, .int y_21), (7, .int x5), (6, .int x6), (5, .int x5), (0, .ref h0), (1, .int al), (2, .int hg)]) hx hb dX5_boxSide_82 hl (by decide) rfl (fun ls hl => ?_)
                    obtain ⟨y_23, ey_23⟩ : ∃ y : Int32, y = x6 + 1 := ⟨_, rfl⟩
                    refine lv_iinc (v := y_23) (lv' := [(6, .int y_23), (4, .int y_22), (3, .int y_21), (7, .int x5), (5, .int x5), (0, .ref h0), (1, .int al), (2, .int hg)]) hx hb dX5_boxSide_84 hl (k := 3) rfl (by rw [ey_23]; rfl) (by decide) rfl (fun ls hl => ?_)
                    refine lv_goto (tgt := 20) hx hb dX5_boxSide_87 (by decide) ?_
                    exact ih_8 (i + 1) y_23 y_21 y_22 _ _ _ (by omega) (by omega) (by rw [ey_23, ex_i]; exact nI_1 i) (by omega) (by rw [show smR (blF g al) j (smL (blF g al) W9 (-1) j) (i + 1) = blF g al j i z3 from congrArg (blF g al j i) eti3.symm]; unfold blF; rw [if_neg (fun q => c_14 (hchr_13.trans q)), if_neg c_19, (show plC al j i = x5 from (if_pos c_17).trans ex_j.symm)]; exact ey_21) (by rw [show smR (bhF g al) j (smL (bhF g al) W9 (-1) j) (i + 1) = bhF g al j i z4 from congrArg (bhF g al j i) eti4.symm]; unfold bhF; rw [if_neg (fun q => c_14 (hchr_13.trans q)), (show plC al j i = x5 from (if_pos c_17).trans ex_j.symm)]; exact ey_22) (hP.sub (ws' := [(h0, .inr (5, [.ref d0, .int w, .int h])), (d0, .inl (cI, 4096, .inl g))]) [0, 1] rfl) (hD.sub (ws' := [(h0, .inr (5, [.ref d0, .int w, .int h])), (d0, .inl (cI, 4096, .inl g))]) [0, 1] (by decide) rfl) hS (lv_sub hl [0, 4, 1, 2, 5, 6, 7] rfl)
                  · skip
                    have f_20 : z3.toInt = (-1) := f_eq rfl (by decide) c_19
                    refine lv_iload hx hb dX5_boxSide_63 (lv_at hl 0 rfl) ?_
                    refine lv_goto (tgt := 74) hx hb dX5_boxSide_65 (by decide) ?_
                    refine lv_istore_n (lv' := [(3, .int x5), (7, .int x5), (6, .int x6), (5, .int x5), (4, .int z4), (0, .ref h0), (1, .int al), (2, .int hg)]) hx hb dX5_boxSide_74 rfl hl (by decide) rfl (fun ls hl => ?_)
                    refine lv_iload hx hb dX5_boxSide_75 (lv_at hl 4 rfl) ?_
                    refine lv_iload hx hb dX5_boxSide_77 (lv_at hl 1 rfl) ?_
                    refine va_mmax hx hb (by rw [hml]; exact hl.1.symm) hown (hts _ bw_167) (hts _ bw_99) (hts _ bw_47) (hts _ bw_100) (by rw [hR]; exact Nat.le_of_ble_eq_true rfl) (by rw [hR]; exact Nat.le_of_ble_eq_true rfl) (by rw [hR]; exact Nat.le_of_ble_eq_true rfl) (by rw [hR]; exact Nat.le_of_ble_eq_true rfl) dX5_boxSide_79 ?_
                    refine lv_topi (fun y_24 ey_24 => ?_)
                    refine lv_istore (lv' := [(4, .int y_24), (3, .int x5), (7, .int x5), (6, .int x6), (5, .int x5), (0, .ref h0), (1, .int al), (2, .int hg)]) hx hb dX5_boxSide_82 hl (by decide) rfl (fun ls hl => ?_)
                    obtain ⟨y_25, ey_25⟩ : ∃ y : Int32, y = x6 + 1 := ⟨_, rfl⟩
                    refine lv_iinc (v := y_25) (lv' := [(6, .int y_25), (4, .int y_24), (3, .int x5), (7, .int x5), (5, .int x5), (0, .ref h0), (1, .int al), (2, .int hg)]) hx hb dX5_boxSide_84 hl (k := 3) rfl (by rw [ey_25]; rfl) (by decide) rfl (fun ls hl => ?_)
                    refine lv_goto (tgt := 20) hx hb dX5_boxSide_87 (by decide) ?_
                    exact ih_8 (i + 1) y_25 x5 y_24 _ _ _ (by omega) (by omega) (by rw [ey_25, ex_i]; exact nI_1 i) (by omega) (by rw [show smR (blF g al) j (smL (blF g al) W9 (-1) j) (i + 1) = blF g al j i z3 from congrArg (blF g al j i) eti3.symm]; unfold blF; rw [if_neg (fun q => c_14 (hchr_13.trans q)), if_pos c_19, (show plC al j i = x5 from (if_pos c_17).trans ex_j.symm)]) (by rw [show smR (bhF g al) j (smL (bhF g al) W9 (-1) j) (i + 1) = bhF g al j i z4 from congrArg (bhF g al j i) eti4.symm]; unfold bhF; rw [if_neg (fun q => c_14 (hchr_13.trans q)), (show plC al j i = x5 from (if_pos c_17).trans ex_j.symm)]; exact ey_24) (hP.sub (ws' := [(h0, .inr (5, [.ref d0, .int w, .int h])), (d0, .inl (cI, 4096, .inl g))]) [0, 1] rfl) (hD.sub (ws' := [(h0, .inr (5, [.ref d0, .int w, .int h])), (d0, .inl (cI, 4096, .inl g))]) [0, 1] (by decide) rfl) hS (lv_sub hl [0, 4, 1, 2, 5, 6, 7] rfl)
                · skip
                  have f_18 : ¬ (al.toInt = 0) := fn_eq rfl (by decide) c_17
                  refine lv_iload hx hb dX5_boxSide_49 (lv_at hl 0 rfl) ?_
                  refine lv_goto (tgt := 56) hx hb dX5_boxSide_51 (by decide) ?_
                  refine lv_istore (lv' := [(7, .int x6), (6, .int x6), (5, .int x5), (4, .int z4), (3, .int z3), (0, .ref h0), (1, .int al), (2, .int hg)]) hx hb dX5_boxSide_56 hl (by decide) rfl (fun ls hl => ?_)
                  refine lv_iload_n hx hb dX5_boxSide_58 rfl (lv_at hl 4 rfl) ?_
                  refine lv_iconst (v := (-1)) hx hb dX5_boxSide_59 (by decide) ?_
                  refine lv_icmp_ne (tgt := 68) hx hb dX5_boxSide_60 (by decide) (fun c_26 => ?_) (fun c_26 => ?_)
                  · skip
                    have f_27 : ¬ (z3.toInt = (-1)) := fn_eq rfl (by decide) c_26
                    refine lv_iload_n hx hb dX5_boxSide_68 rfl (lv_at hl 4 rfl) ?_
                    refine lv_iload hx hb dX5_boxSide_69 (lv_at hl 0 rfl) ?_
                    refine va_mmin hx hb (by rw [hml]; exact hl.1.symm) hown (hts _ bw_166) (hts _ bw_46) (hts _ bw_47) (hts _ bw_48) (by rw [hR]; exact Nat.le_of_ble_eq_true rfl) (by rw [hR]; exact Nat.le_of_ble_eq_true rfl) (by rw [hR]; exact Nat.le_of_ble_eq_true rfl) (by rw [hR]; exact Nat.le_of_ble_eq_true rfl) dX5_boxSide_71 ?_
                    refine lv_topi (fun y_28 ey_28 => ?_)
                    refine lv_istore_n (lv' := [(3, .int y_28), (7, .int x6), (6, .int x6), (5, .int x5), (4, .int z4), (0, .ref h0), (1, .int al), (2, .int hg)]) hx hb dX5_boxSide_74 rfl hl (by decide) rfl (fun ls hl => ?_)
                    refine lv_iload hx hb dX5_boxSide_75 (lv_at hl 4 rfl) ?_
                    refine lv_iload hx hb dX5_boxSide_77 (lv_at hl 1 rfl) ?_
                    refine va_mmax hx hb (by rw [hml]; exact hl.1.symm) hown (hts _ bw_167) (hts _ bw_99) (hts _ bw_47) (hts _ bw_100) (by rw [hR]; exact Nat.le_of_ble_eq_true rfl) (by rw [hR]; exact Nat.le_of_ble_eq_true rfl) (by rw [hR]; exact Nat.le_of_ble_eq_true rfl) (by rw [hR]; exact Nat.le_of_ble_eq_true rfl) dX5_boxSide_79 ?_
                    refine lv_topi (fun y_29 ey_29 => ?_)
                    refine lv_istore (lv' := [(4, .int y_29), (3, .int y_28), (7, .int x6), (6, .int x6), (5, .int x5), (0, .ref h0), (1, .int al), (2, .int hg)]) hx hb dX5_boxSide_82 hl (by decide) rfl (fun ls hl => ?_)
                    obtain ⟨y_30, ey_30⟩ : ∃ y : Int32, y = x6 + 1 := ⟨_, rfl⟩
                    refine lv_iinc (v := y_30) (lv' := [(6, .int y_30), (4, .int y_29), (3, .int y_28), (7, .int x6), (5, .int x5), (0, .ref h0), (1, .int al), (2, .int hg)]) hx hb dX5_boxSide_84 hl (k := 3) rfl (by rw [ey_30]; rfl) (by decide) rfl (fun ls hl => ?_)
                    refine lv_goto (tgt := 20) hx hb dX5_boxSide_87 (by decide) ?_
                    exact ih_8 (i + 1) y_30 y_28 y_29 _ _ _ (by omega) (by omega) (by rw [ey_30, ex_i]; exact nI_1 i) (by omega) (by rw [show smR (blF g al) j (smL (blF g al) W9 (-1) j) (i + 1) = blF g al j i z3 from congrArg (blF g al j i) eti3.symm]; unfold blF; rw [if_neg (fun q => c_14 (hchr_13.trans q)), if_neg c_26, (show plC al j i = x6 from (if_neg c_17).trans ex_i.symm)]; exact ey_28) (by rw [show smR (bhF g al) j (smL (bhF g al) W9 (-1) j) (i + 1) = bhF g al j i z4 from congrArg (bhF g al j i) eti4.symm]; unfold bhF; rw [if_neg (fun q => c_14 (hchr_13.trans q)), (show plC al j i = x6 from (if_neg c_17).trans ex_i.symm)]; exact ey_29) (hP.sub (ws' := [(h0, .inr (5, [.ref d0, .int w, .int h])), (d0, .inl (cI, 4096, .inl g))]) [0, 1] rfl) (hD.sub (ws' := [(h0, .inr (5, [.ref d0, .int w, .int h])), (d0, .inl (cI, 4096, .inl g))]) [0, 1] (by decide) rfl) hS (lv_sub hl [0, 4, 1, 2, 5, 6, 7] rfl)
                  · skip
                    have f_27 : z3.toInt = (-1) := f_eq rfl (by decide) c_26
                    refine lv_iload hx hb dX5_boxSide_63 (lv_at hl 0 rfl) ?_
                    refine lv_goto (tgt := 74) hx hb dX5_boxSide_65 (by decide) ?_
                    refine lv_istore_n (lv' := [(3, .int x6), (7, .int x6), (6, .int x6), (5, .int x5), (4, .int z4), (0, .ref h0), (1, .int al), (2, .int hg)]) hx hb dX5_boxSide_74 rfl hl (by decide) rfl (fun ls hl => ?_)
                    refine lv_iload hx hb dX5_boxSide_75 (lv_at hl 4 rfl) ?_
                    refine lv_iload hx hb dX5_boxSide_77 (lv_at hl 1 rfl) ?_
                    refine va_mmax hx hb (by rw [hml]; exact hl.1.symm) hown (hts _ bw_167) (hts _ bw_99) (hts _ bw_47) (hts _ bw_100) (by rw [hR]; exact Nat.le_of_ble_eq_true rfl) (by rw [hR]; exact Nat.le_of_ble_eq_true rfl) (by rw [hR]; exact Nat.le_of_ble_eq_true rfl) (by rw [hR]; exact Nat.le_of_ble_eq_true rfl) dX5_boxSide_79 ?_
                    refine lv_topi (fun y_31 ey_31 => ?_)
                    refine lv_istore (lv' := [(4, .int y_31), (3, .int x6), (7, .int x6), (6, .int x6), (5, .int x5), (0, .ref h0), (1, .int al), (2, .int hg)]) hx hb dX5_boxSide_82 hl (by decide) rfl (fun ls hl => ?_)
                    obtain ⟨y_32, ey_32⟩ : ∃ y : Int32, y = x6 + 1 := ⟨_, rfl⟩
                    refine lv_iinc (v := y_32) (lv' := [(6, .int y_32), (4, .int y_31), (3, .int x6), (7, .int x6), (5, .int x5), (0, .ref h0), (1, .int al), (2, .int hg)]) hx hb dX5_boxSide_84 hl (k := 3) rfl (by rw [ey_32]; rfl) (by decide) rfl (fun ls hl => ?_)
                    refine lv_goto (tgt := 20) hx hb dX5_boxSide_87 (by decide) ?_
                    exact ih_8 (i + 1) y_32 x6 y_31 _ _ _ (by omega) (by omega) (by rw [ey_32, ex_i]; exact nI_1 i) (by omega) (by rw [show smR (blF g al) j (smL (blF g al) W9 (-1) j) (i + 1) = blF g al j i z3 from congrArg (blF g al j i) eti3.symm]; unfold blF; rw [if_neg (fun q => c_14 (hchr_13.trans q)), if_pos c_26, (show plC al j i = x6 from (if_neg c_17).trans ex_i.symm)]) (by rw [show smR (bhF g al) j (smL (bhF g al) W9 (-1) j) (i + 1) = bhF g al j i z4 from congrArg (bhF g al j i) eti4.symm]; unfold bhF; rw [if_neg (fun q => c_14 (hchr_13.trans q)), (show plC al j i = x6 from (if_neg c_17).trans ex_i.symm)]; exact ey_31) (hP.sub (ws' := [(h0, .inr (5, [.ref d0, .int w, .int h])), (d0, .inl (cI, 4096, .inl g))]) [0, 1] rfl) (hD.sub (ws' := [(h0, .inr (5, [.ref d0, .int w, .int h])), (d0, .inl (cI, 4096, .inl g))]) [0, 1] (by decide) rfl) hS (lv_sub hl [0, 4, 1, 2, 5, 6, 7] rfl)
        exact loop_7 (64 + 1) 0 0 x3 x4 _ _ _ (by omega) (by omega) nI_0.symm (by omega) eto3 eto4 hP hD hS (lv_sub hl [0, 1, 2, 3, 4, 5, 6] rfl)
  exact loop_1 (64 + 1) 0 0 (-1) (-1) _ _ _ (by omega) (by omega) nI_0.symm (by omega) rfl rfl hP hD hS (lv_sub hl [0, 1, 2, 3, 4, 5] rfl)

set_option maxHeartbeats 4000000 in
set_option maxRecDepth 100000 in
theorem k_X8_look_ye (l : Launch) (D : va_G) (sz : Nat) (h0 s1 s2 s3 s4 s5 s6 : Nat) (ds : Int32) (sp bt : Option Nat) (f : Nat → Option Nat) (t0 d0 : Nat) (w h : Int32) (g : Nat → Int32) (k wt : Int32) (cO : ClassId) (cI : ClassId) (hk : 0 ≤ k.toInt ∧ k.toInt ≤ 3) (hf : f k.toNatClampNeg = some t0) (hw : 0 ≤ w.toInt ∧ w.toInt ≤ 64) (hh : 0 ≤ h.toInt ∧ h.toInt ≤ 64) : Met l yX8_look (wB yX8_look cX8_look 4 (some .int)) ({ frames := 3, cells := 0, slots := 0, locals := 71 }) (cP D [(h0, .inr (8, [.ref s1, .ref s2, .ref s3, .ref s4, .ref s5, .ref s6, .int ds, va_rf sp, va_rf bt])), (s1, .inl (cO, 4, .inr (.inr (.inr (.inr f))))), (t0, .inr (5, [.ref d0, .int w, .int h])), (d0, .inl (cI, 4096, .inl g))] [(cO, .object "DotBench$Sheet"), (cI, .int)] sz [.ref h0, .int k, .int wt]) (va_Qi (fun (r : Int32) (_ : Unit) => r = lkP g w h wt) (fun (_ : Unit) (t : State) => cB D (va_A [(h0, .inr (8, [.ref s1, .ref s2, .ref s3, .ref s4, .ref s5, .ref s6, .int ds, va_rf sp, va_rf bt])), (s1, .inl (cO, 4, .inr (.inr (.inr (.inr f))))), (t0, .inr (5, [.ref d0, .int w, .int h])), (d0, .inl (cI, 4096, .inl g))] sz) [(h0, .inr (8, [.ref s1, .ref s2, .ref s3, .ref s4, .ref s5, .ref s6, .int ds, va_rf sp, va_rf bt])), (s1, .inl (cO, 4, .inr (.inr (.inr (.inr f))))), (t0, .inr (5, [.ref d0, .int w, .int h])), (d0, .inl (cI, 4096, .inl g))] [(cO, .object "DotBench$Sheet"), (cI, .int)] t) (va_A [(h0, .inr (8, [.ref s1, .ref s2, .ref s3, .ref s4, .ref s5, .ref s6, .int ds, va_rf sp, va_rf bt])), (s1, .inl (cO, 4, .inr (.inr (.inr (.inr f))))), (t0, .inr (5, [.ref d0, .int w, .int h])), (d0, .inl (cI, 4096, .inl g))] sz)) 0 0 (va_A [(h0, .inr (8, [.ref s1, .ref s2, .ref s3, .ref s4, .ref s5, .ref s6, .int ds, va_rf sp, va_rf bt])), (s1, .inl (cO, 4, .inr (.inr (.inr (.inr f))))), (t0, .inr (5, [.ref d0, .int w, .int h])), (d0, .inl (cI, 4096, .inl g))] sz) := by
  refine Met.ofW (cc := cX8_look) (maxL := 4) (ret := (some .int)) (by decide) rfl ?_
  intro p e s m args below meth c s₁ B hml hv
  obtain ⟨rfl, hsz, hP, hK, hD0, hN⟩ := hv
  have hx := B.exec
  have hb := B.bytes
  have hr := B.returns
  have hts0 := atoms_spec (ws := (wB yX8_look cX8_look 4 (some .int))) B.pre
  have hts : ∀ w ∈ bigW, w.before _ s = true := fun w h => hts0 w (List.mem_cons_of_mem _ h)
  have hown : s.vm.findClass RX8 = some m.cls := findClass_of_methodNamed B.named
  have hlocks := B.notSynchronized
  subst hsz
  have hD := hD0.self (sz := s.heap.size)
  generalize hAe : va_A [(h0, .inr (8, [.ref s1, .ref s2, .ref s3, .ref s4, .ref s5, .ref s6, .int ds, va_rf sp, va_rf bt])), (s1, .inl (cO, 4, .inr (.inr (.inr (.inr f))))), (t0, .inr (5, [.ref d0, .int w, .int h])), (d0, .inl (cI, 4096, .inl g))] s.heap.size = A at hD ⊢
  have hA : ∀ q : Nat, s.heap.size ≤ q → A q := fun q h => by rw [← hAe]; exact Or.inr h
  have hS : va_S A s.heap s.heap [] := va_S.rf
  have hP : va_P D vwCl [(h0, .inr (8, [.ref s1, .ref s2, .ref s3, .ref s4, .ref s5, .ref s6, .int ds, va_rf sp, va_rf bt])), (s1, .inl (cO, 4, .inr (.inr (.inr (.inr f))))), (t0, .inr (5, [.ref d0, .int w, .int h])), (d0, .inl (cI, 4096, .inl g))] s.heap := hP
  have hl := lv_entry ([.ref h0, .int k, .int wt]) (n := 4) (Nat.le_of_ble_eq_true rfl)
  rw [lg_entry_eq]
  generalize (lg_sl ([.ref h0, .int k, .int wt]) ++ List.replicate (4 - (lg_sl ([.ref h0, .int k, .int wt])).length) Slot.unset).toArray = ls at hl ⊢
  have hl : lv_has ls 4 [(0, .ref h0), (1, .int k), (2, .int wt)] := hl
  clear hts0 hD0 hAe
  refine my_abs (fun R Q hR hQ => ?_)
  refine lv_aload_n hx hb dX8_look_0 rfl (lv_at hl 0 rfl) ?_
  refine lv_iload_n hx hb dX8_look_1 rfl (lv_at hl 1 rfl) ?_
  have hPc := hP.sub (ws' := [(h0, .inr (8, [.ref s1, .ref s2, .ref s3, .ref s4, .ref s5, .ref s6, .int ds, va_rf sp, va_rf bt])), (s1, .inl (cO, 4, .inr (.inr (.inr (.inr f)))))]) [0, 1] rfl
  have hDc := hD.sub (ws' := [(h0, .inr (8, [.ref s1, .ref s2, .ref s3, .ref s4, .ref s5, .ref s6, .int ds, va_rf sp, va_rf bt])), (s1, .inl (cO, 4, .inr (.inr (.inr (.inr f)))))]) [0, 1] (by decide) rfl
  have hKc := hK.sub (tys' := [(cO, .object "DotBench$Sheet")]) [0] rfl
  have hFc := va_free (wc := [(h0, .inr (8, [.ref s1, .ref s2, .ref s3, .ref s4, .ref s5, .ref s6, .int ds, va_rf sp, va_rf bt])), (s1, .inl (cO, 4, .inr (.inr (.inr (.inr f)))))]) hD hS hA [0, 1] rfl
  refine va_callq (va_runV (As := [.int k]) (rest := []) ⟨hx, hb, hml, hown, hts⟩ (k_X8_sheetAt_y l D s.heap.size h0 s1 s2 s3 s4 s5 s6 ds sp bt f k t0 cO (by first | assumption | omega | decide) (by first | assumption | omega | decide)) (cwV 1 hts (gV bw_267 bw_346 bw_347 bw_223 bw_345) rfl rfl rfl (by decide +kernel) ⟨(by rw [hR]; exact Nat.le_of_ble_eq_true rfl), (by rw [hR]; exact Nat.le_of_ble_eq_true rfl)⟩) ⟨cP_blind, va_recv hKc hPc (ci := 8) (q0 := 0) rfl rfl, cP_at hPc hKc hDc hN⟩ rfl rfl hl.1 rfl (lv_room (Nat.le_of_ble_eq_true rfl)) dX8_look_2 ⟨(by rw [hR]; exact Nat.le_of_ble_eq_true rfl), (by rw [hR]; exact Nat.le_of_ble_eq_true rfl)⟩) hS (fun q _ h => hFc q h) hFc (fun r_1 u9 t9 H1 locs ht hvm hr_1 hB hz1 hk1 hS => ?_)
  try dsimp only at hr_1
  obtain ⟨hP1, hK1, hD1⟩ := hB
  rw [ht] at hP1
  obtain ⟨hP, hD⟩ := va_join (wr := [(t0, .inr (5, [.ref d0, .int w, .int h])), (d0, .inl (cI, 4096, .inl g))]) (w1 := [(h0, .inr (8, [.ref s1, .ref s2, .ref s3, .ref s4, .ref s5, .ref s6, .int ds, va_rf sp, va_rf bt])), (s1, .inl (cO, 4, .inr (.inr (.inr (.inr f)))))]) hP hD [0, 1] [2, 3] rfl rfl (by decide) (by decide) hk1 hFc hP1 hD1
  clear hz1 hk1 hFc hKc hDc hPc
  generalize H1 = H at hP hS ⊢
  have hP : va_P D vwCl [(t0, .inr (5, [.ref d0, .int w, .int h])), (d0, .inl (cI, 4096, .inl g)), (h0, .inr (8, [.ref s1, .ref s2, .ref s3, .ref s4, .ref s5, .ref s6, .int ds, va_rf sp, va_rf bt])), (s1, .inl (cO, 4, .inr (.inr (.inr (.inr f)))))] H := hP
  have hD : va_D A [(t0, .inr (5, [.ref d0, .int w, .int h])), (d0, .inl (cI, 4096, .inl g)), (h0, .inr (8, [.ref s1, .ref s2, .ref s3, .ref s4, .ref s5, .ref s6, .int ds, va_rf sp, va_rf bt])), (s1, .inl (cO, 4, .inr (.inr (.inr (.inr f)))))] := hD
  subst hr_1
  refine my_topv (v := .ref t0) rfl ?_
  refine lv_astore_n (lv' := [(3, .ref t0), (0, .ref h0), (1, .int k), (2, .int wt)]) hx hb dX8_look_5 rfl hl (by decide) rfl (fun ls hl => ?_)
  refine lv_aload_n hx hb dX8_look_6 rfl (lv_at hl 0 rfl) ?_
  refine lv_ifnonnull (tgt := 12) hx hb dX8_look_7 (by decide) ?_
  refine lv_iload_n hx hb dX8_look_12 rfl (lv_at hl 3 rfl) ?_
  by_cases hsw : 0 ≤ wt.toInt ∧ wt.toInt ≤ 9
  · skip
    obtain ⟨j9, hj9, ej9⟩ := i_of (x := wt) (N := 10) (by omega) (by omega) (by decide)
    subst ej9
    rcases (show j9 = 0 ∨ j9 = 1 ∨ j9 = 2 ∨ j9 = 3 ∨ j9 = 4 ∨ j9 = 5 ∨ j9 = 6 ∨ j9 = 7 ∨ j9 = 8 ∨ j9 = 9 by omega) with rfl | rfl | rfl | rfl | rfl | rfl | rfl | rfl | rfl | rfl
    · skip
      refine lv_tableIn (off := 55) (tgt := 68) hx hb dX8_look_13 (by decide) (by decide) rfl (by decide) ?_
      have hl : lv_has ls 4 [(3, .ref t0), (0, .ref h0), (1, .int k), (2, .int 0)] := hl
      refine lv_aload_n hx hb dX8_look_68 rfl (lv_at hl 0 rfl) ?_
      refine lv_iload_n hx hb dX8_look_69 rfl (lv_at hl 3 rfl) ?_
      refine lv_iconst (v := 2) hx hb dX8_look_70 (by decide) ?_
      refine lv_icmp_ge (tgt := 78) hx hb dX8_look_71 (by decide) (fun c_2 => ?_) (fun c_2 => ?_)
      · skip
        exact absurd c_2 (by decide)
      · skip
        refine lv_iconst (v := 1) hx hb dX8_look_74 (by decide) ?_
        refine lv_goto (tgt := 79) hx hb dX8_look_75 (by decide) ?_
        refine lv_iload_n hx hb dX8_look_79 rfl (lv_at hl 3 rfl) ?_
        refine lv_iconst (v := 2) hx hb dX8_look_80 (by decide) ?_
        refine lv_irem hx hb dX8_look_81 (by decide) ?_
        refine my_fold (v := 0) (by decide) ?_
        refine lv_iconst (v := 1) hx hb dX8_look_82 (by decide) ?_
        refine lv_icmp_ne (tgt := 90) hx hb dX8_look_83 (by decide) (fun c_4 => ?_) (fun c_4 => ?_)
        · skip
          refine lv_iconst (v := 0) hx hb dX8_look_90 (by decide) ?_
          have hPc := hP.sub (ws' := [(t0, .inr (5, [.ref d0, .int w, .int h])), (d0, .inl (cI, 4096, .inl g))]) [0, 1] rfl
          have hDc := hD.sub (ws' := [(t0, .inr (5, [.ref d0, .int w, .int h])), (d0, .inl (cI, 4096, .inl g))]) [0, 1] (by decide) rfl
          have hKc := hK.sub (tys' := [(cI, .int)]) [1] rfl
          have hFc := va_free (wc := [(t0, .inr (5, [.ref d0, .int w, .int h])), (d0, .inl (cI, 4096, .inl g))]) hD hS hA [0, 1] rfl
          refine va_calli (va_runV (As := [.int 1, .int 0]) (rest := []) ⟨hx, hb, hml, hown, hts⟩ (k_X5_boxSide_e l D H.size t0 d0 w h g 1 0 cI (by first | assumption | omega | decide) (by first | assumption | omega | decide)) (cwV 2 hts (gV bw_338 bw_164 bw_165 bw_130 bw_163) rfl rfl rfl (by decide +kernel) ⟨(by rw [hR]; exact Nat.le_of_ble_eq_true rfl), (by rw [hR]; exact Nat.le_of_ble_eq_true rfl)⟩) ⟨cP_blind, va_recv hKc hPc (ci := 5) (q0 := 0) rfl rfl, cP_at hPc hKc hDc hN⟩ rfl rfl hl.1 rfl (lv_room (Nat.le_of_ble_eq_true rfl)) dX8_look_91 ⟨(by rw [hR]; exact Nat.le_of_ble_eq_true rfl), (by rw [hR]; exact Nat.le_of_ble_eq_true rfl)⟩) hS (fun q _ h => hFc q h) hFc (fun r_6 u9 t9 H1 locs ht hvm hr_6 hB hz1 hk1 hS => ?_)
          try dsimp only at hr_6
          obtain ⟨hP1, hK1, hD1⟩ := hB
          rw [ht] at hP1
          obtain ⟨hP, hD⟩ := va_join (wr := [(h0, .inr (8, [.ref s1, .ref s2, .ref s3, .ref s4, .ref s5, .ref s6, .int ds, va_rf sp, va_rf bt])), (s1, .inl (cO, 4, .inr (.inr (.inr (.inr f)))))]) (w1 := [(t0, .inr (5, [.ref d0, .int w, .int h])), (d0, .inl (cI, 4096, .inl g))]) hP hD [0, 1] [2, 3] rfl rfl (by decide) (by decide) hk1 hFc hP1 hD1
          clear hz1 hk1 hFc hKc hDc hPc
          generalize H1 = H at hP hS ⊢
          have hP : va_P D vwCl [(h0, .inr (8, [.ref s1, .ref s2, .ref s3, .ref s4, .ref s5, .ref s6, .int ds, va_rf sp, va_rf bt])), (s1, .inl (cO, 4, .inr (.inr (.inr (.inr f))))), (t0, .inr (5, [.ref d0, .int w, .int h])), (d0, .inl (cI, 4096, .inl g))] H := hP
          have hD : va_D A [(h0, .inr (8, [.ref s1, .ref s2, .ref s3, .ref s4, .ref s5, .ref s6, .int ds, va_rf sp, va_rf bt])), (s1, .inl (cO, 4, .inr (.inr (.inr (.inr f))))), (t0, .inr (5, [.ref d0, .int w, .int h])), (d0, .inl (cI, 4096, .inl g))] := hD
          have hP9 := hP.sub (ws' := [(h0, .inr (8, [.ref s1, .ref s2, .ref s3, .ref s4, .ref s5, .ref s6, .int ds, va_rf sp, va_rf bt])), (s1, .inl (cO, 4, .inr (.inr (.inr (.inr f))))), (t0, .inr (5, [.ref d0, .int w, .int h])), (d0, .inl (cI, 4096, .inl g))]) [0, 1, 2, 3] rfl
          have hD9 := hD.sub (ws' := [(h0, .inr (8, [.ref s1, .ref s2, .ref s3, .ref s4, .ref s5, .ref s6, .int ds, va_rf sp, va_rf bt])), (s1, .inl (cO, 4, .inr (.inr (.inr (.inr f))))), (t0, .inr (5, [.ref d0, .int w, .int h])), (d0, .inl (cI, 4096, .inl g))]) [0, 1, 2, 3] (by decide) rfl
          have hK9 := hK.sub (tys' := [(cO, .object "DotBench$Sheet"), (cI, .int)]) [0, 1] rfl
          refine hQ _ _ _ _ _ ?_
          exact W.iret (v := r_6) hx hb hr (fun t ht hW => ⟨⟨r_6, (), rfl, (show _ = lkP g w h (nI 0) from (hr_6.trans (if_pos (by decide))).trans (if_pos hsw).symm), ⟨by rw [ht]; exact hP9, va_K.moved hW.alike hK9, hD9⟩⟩, hS.F ht⟩) hS.2.2 dX8_look_94
        · skip
          exact absurd c_4 (by decide)
    · skip
      refine lv_tableIn (off := 55) (tgt := 68) hx hb dX8_look_13 (by decide) (by decide) rfl (by decide) ?_
      have hl : lv_has ls 4 [(3, .ref t0), (0, .ref h0), (1, .int k), (2, .int 1)] := hl
      refine lv_aload_n hx hb dX8_look_68 rfl (lv_at hl 0 rfl) ?_
      refine lv_iload_n hx hb dX8_look_69 rfl (lv_at hl 3 rfl) ?_
      refine lv_iconst (v := 2) hx hb dX8_look_70 (by decide) ?_
      refine lv_icmp_ge (tgt := 78) hx hb dX8_look_71 (by decide) (fun c_7 => ?_) (fun c_7 => ?_)
      · skip
        exact absurd c_7 (by decide)
      · skip
        refine lv_iconst (v := 1) hx hb dX8_look_74 (by decide) ?_
        refine lv_goto (tgt := 79) hx hb dX8_look_75 (by decide) ?_
        refine lv_iload_n hx hb dX8_look_79 rfl (lv_at hl 3 rfl) ?_
        refine lv_iconst (v := 2) hx hb dX8_look_80 (by decide) ?_
        refine lv_irem hx hb dX8_look_81 (by decide) ?_
        refine my_fold (v := 1) (by decide) ?_
        refine lv_iconst (v := 1) hx hb dX8_look_82 (by decide) ?_
        refine lv_icmp_ne (tgt := 90) hx hb dX8_look_83 (by decide) (fun c_9 => ?_) (fun c_9 => ?_)
        · skip
          exact absurd c_9 (by decide)
        · skip
          refine lv_iconst (v := 1) hx hb dX8_look_86 (by decide) ?_
          refine lv_goto (tgt := 91) hx hb dX8_look_87 (by decide) ?_
          have hPc := hP.sub (ws' := [(t0, .inr (5, [.ref d0, .int w, .int h])), (d0, .inl (cI, 4096, .inl g))]) [0, 1] rfl
          have hDc := hD.sub (ws' := [(t0, .inr (5, [.ref d0, .int w, .int h])), (d0, .inl (cI, 4096, .inl g))]) [0, 1] (by decide) rfl
          have hKc := hK.sub (tys' := [(cI, .int)]) [1] rfl
          have hFc := va_free (wc := [(t0, .inr (5, [.ref d0, .int w, .int h])), (d0, .inl (cI, 4096, .inl g))]) hD hS hA [0, 1] rfl
          refine va_calli (va_runV (As := [.int 1, .int 1]) (rest := []) ⟨hx, hb, hml, hown, hts⟩ (k_X5_boxSide_e l D H.size t0 d0 w h g 1 1 cI (by first | assumption | omega | decide) (by first | assumption | omega | decide)) (cwV 2 hts (gV bw_338 bw_164 bw_165 bw_130 bw_163) rfl rfl rfl (by decide +kernel) ⟨(by rw [hR]; exact Nat.le_of_ble_eq_true rfl), (by rw [hR]; exact Nat.le_of_ble_eq_true rfl)⟩) ⟨cP_blind, va_recv hKc hPc (ci := 5) (q0 := 0) rfl rfl, cP_at hPc hKc hDc hN⟩ rfl rfl hl.1 rfl (lv_room (Nat.le_of_ble_eq_true rfl)) dX8_look_91 ⟨(by rw [hR]; exact Nat.le_of_ble_eq_true rfl), (by rw [hR]; exact Nat.le_of_ble_eq_true rfl)⟩) hS (fun q _ h => hFc q h) hFc (fun r_11 u9 t9 H1 locs ht hvm hr_11 hB hz1 hk1 hS => ?_)
          try dsimp only at hr_11
          obtain ⟨hP1, hK1, hD1⟩ := hB
          rw [ht] at hP1
          obtain ⟨hP, hD⟩ := va_join (wr := [(h0, .inr (8, [.ref s1, .ref s2, .ref s3, .ref s4, .ref s5, .ref s6, .int ds, va_rf sp, va_rf bt])), (s1, .inl (cO, 4, .inr (.inr (.inr (.inr f)))))]) (w1 := [(t0, .inr (5, [.ref d0, .int w, .int h])), (d0, .inl (cI, 4096, .inl g))]) hP hD [0, 1] [2, 3] rfl rfl (by decide) (by decide) hk1 hFc hP1 hD1
          clear hz1 hk1 hFc hKc hDc hPc
          generalize H1 = H at hP hS ⊢
          have hP : va_P D vwCl [(h0, .inr (8, [.ref s1, .ref s2, .ref s3, .ref s4, .ref s5, .ref s6, .int ds, va_rf sp, va_rf bt])), (s1, .inl (cO, 4, .inr (.inr (.inr (.inr f))))), (t0, .inr (5, [.ref d0, .int w, .int h])), (d0, .inl (cI, 4096, .inl g))] H := hP
          have hD : va_D A [(h0, .inr (8, [.ref s1, .ref s2, .ref s3, .ref s4, .ref s5, .ref s6, .int ds, va_rf sp, va_rf bt])), (s1, .inl (cO, 4, .inr (.inr (.inr (.inr f))))), (t0, .inr (5, [.ref d0, .int w, .int h])), (d0, .inl (cI, 4096, .inl g))] := hD
          have hP9 := hP.sub (ws' := [(h0, .inr (8, [.ref s1, .ref s2, .ref s3, .ref s4, .ref s5, .ref s6, .int ds, va_rf sp, va_rf bt])), (s1, .inl (cO, 4, .inr (.inr (.inr (.inr f))))), (t0, .inr (5, [.ref d0, .int w, .int h])), (d0, .inl (cI, 4096, .inl g))]) [0, 1, 2, 3] rfl
          have hD9 := hD.sub (ws' := [(h0, .inr (8, [.ref s1, .ref s2, .ref s3, .ref s4, .ref s5, .ref s6, .int ds, va_rf sp, va_rf bt])), (s1, .inl (cO, 4, .inr (.inr (.inr (.inr f))))), (t0, .inr (5, [.ref d0, .int w, .int h])), (d0, .inl (cI, 4096, .inl g))]) [0, 1, 2, 3] (by decide) rfl
          have hK9 := hK.sub (tys' := [(cO, .object "DotBench$Sheet"), (cI, .int)]) [0, 1] rfl
          refine hQ _ _ _ _ _ ?_
          exact W.iret (v := r_11) hx hb hr (fun t ht hW => ⟨⟨r_11, (), rfl, (show _ = lkP g w h (nI 1) from (hr_11.trans (if_neg (by decide))).trans (if_pos hsw).symm), ⟨by rw [ht]; exact hP9, va_K.moved hW.alike hK9, hD9⟩⟩, hS.F ht⟩) hS.2.2 dX8_look_94
    · skip
      refine lv_tableIn (off := 55) (tgt := 68) hx hb dX8_look_13 (by decide) (by decide) rfl (by decide) ?_
      have hl : lv_has ls 4 [(3, .ref t0), (0, .ref h0), (1, .int k), (2, .int 2)] := hl
      refine lv_aload_n hx hb dX8_look_68 rfl (lv_at hl 0 rfl) ?_
      refine lv_iload_n hx hb dX8_look_69 rfl (lv_at hl 3 rfl) ?_
      refine lv_iconst (v := 2) hx hb dX8_look_70 (by decide) ?_
      refine lv_icmp_ge (tgt := 78) hx hb dX8_look_71 (by decide) (fun c_12 => ?_) (fun c_12 => ?_)
      · skip
        refine lv_iconst (v := 0) hx hb dX8_look_78 (by decide) ?_
        refine lv_iload_n hx hb dX8_look_79 rfl (lv_at hl 3 rfl) ?_
        refine lv_iconst (v := 2) hx hb dX8_look_80 (by decide) ?_
        refine lv_irem hx hb dX8_look_81 (by decide) ?_
        refine my_fold (v := 0) (by decide) ?_
        refine lv_iconst (v := 1) hx hb dX8_look_82 (by decide) ?_
        refine lv_icmp_ne (tgt := 90) hx hb dX8_look_83 (by decide) (fun c_14 => ?_) (fun c_14 => ?_)
        · skip
          refine lv_iconst (v := 0) hx hb dX8_look_90 (by decide) ?_
          have hPc := hP.sub (ws' := [(t0, .inr (5, [.ref d0, .int w, .int h])), (d0, .inl (cI, 4096, .inl g))]) [0, 1] rfl
          have hDc := hD.sub (ws' := [(t0, .inr (5, [.ref d0, .int w, .int h])), (d0, .inl (cI, 4096, .inl g))]) [0, 1] (by decide) rfl
          have hKc := hK.sub (tys' := [(cI, .int)]) [1] rfl
          have hFc := va_free (wc := [(t0, .inr (5, [.ref d0, .int w, .int h])), (d0, .inl (cI, 4096, .inl g))]) hD hS hA [0, 1] rfl
          refine va_calli (va_runV (As := [.int 0, .int 0]) (rest := []) ⟨hx, hb, hml, hown, hts⟩ (k_X5_boxSide_e l D H.size t0 d0 w h g 0 0 cI (by first | assumption | omega | decide) (by first | assumption | omega | decide)) (cwV 2 hts (gV bw_338 bw_164 bw_165 bw_130 bw_163) rfl rfl rfl (by decide +kernel) ⟨(by rw [hR]; exact Nat.le_of_ble_eq_true rfl), (by rw [hR]; exact Nat.le_of_ble_eq_true rfl)⟩) ⟨cP_blind, va_recv hKc hPc (ci := 5) (q0 := 0) rfl rfl, cP_at hPc hKc hDc hN⟩ rfl rfl hl.1 rfl (lv_room (Nat.le_of_ble_eq_true rfl)) dX8_look_91 ⟨(by rw [hR]; exact Nat.le_of_ble_eq_true rfl), (by rw [hR]; exact Nat.le_of_ble_eq_true rfl)⟩) hS (fun q _ h => hFc q h) hFc (fun r_16 u9 t9 H1 locs ht hvm hr_16 hB hz1 hk1 hS => ?_)
          try dsimp only at hr_16
          obtain ⟨hP1, hK1, hD1⟩ := hB
          rw [ht] at hP1
          obtain ⟨hP, hD⟩ := va_join (wr := [(h0, .inr (8, [.ref s1, .ref s2, .ref s3, .ref s4, .ref s5, .ref s6, .int ds, va_rf sp, va_rf bt])), (s1, .inl (cO, 4, .inr (.inr (.inr (.inr f)))))]) (w1 := [(t0, .inr (5, [.ref d0, .int w, .int h])), (d0, .inl (cI, 4096, .inl g))]) hP hD [0, 1] [2, 3] rfl rfl (by decide) (by decide) hk1 hFc hP1 hD1
          clear hz1 hk1 hFc hKc hDc hPc
          generalize H1 = H at hP hS ⊢
          have hP : va_P D vwCl [(h0, .inr (8, [.ref s1, .ref s2, .ref s3, .ref s4, .ref s5, .ref s6, .int ds, va_rf sp, va_rf bt])), (s1, .inl (cO, 4, .inr (.inr (.inr (.inr f))))), (t0, .inr (5, [.ref d0, .int w, .int h])), (d0, .inl (cI, 4096, .inl g))] H := hP
          have hD : va_D A [(h0, .inr (8, [.ref s1, .ref s2, .ref s3, .ref s4, .ref s5, .ref s6, .int ds, va_rf sp, va_rf bt])), (s1, .inl (cO, 4, .inr (.inr (.inr (.inr f))))), (t0, .inr (5, [.ref d0, .int w, .int h])), (d0, .inl (cI, 4096, .inl g))] := hD
          have hP9 := hP.sub (ws' := [(h0, .inr (8, [.ref s1, .ref s2, .ref s3, .ref s4, .ref s5, .ref s6, .int ds, va_rf sp, va_rf bt])), (s1, .inl (cO, 4, .inr (.inr (.inr (.inr f))))), (t0, .inr (5, [.ref d0, .int w, .int h])), (d0, .inl (cI, 4096, .inl g))]) [0, 1, 2, 3] rfl
          have hD9 := hD.sub (ws' := [(h0, .inr (8, [.ref s1, .ref s2, .ref s3, .ref s4, .ref s5, .ref s6, .int ds, va_rf sp, va_rf bt])), (s1, .inl (cO, 4, .inr (.inr (.inr (.inr f))))), (t0, .inr (5, [.ref d0, .int w, .int h])), (d0, .inl (cI, 4096, .inl g))]) [0, 1, 2, 3] (by decide) rfl
          have hK9 := hK.sub (tys' := [(cO, .object "DotBench$Sheet"), (cI, .int)]) [0, 1] rfl
          refine hQ _ _ _ _ _ ?_
          exact W.iret (v := r_16) hx hb hr (fun t ht hW => ⟨⟨r_16, (), rfl, (show _ = lkP g w h (nI 2) from (hr_16.trans (if_pos (by decide))).trans (if_pos hsw).symm), ⟨by rw [ht]; exact hP9, va_K.moved hW.alike hK9, hD9⟩⟩, hS.F ht⟩) hS.2.2 dX8_look_94
        · skip
          exact absurd c_14 (by decide)
      · skip
        exact absurd c_12 (by decide)
    · skip
      refine lv_tableIn (off := 55) (tgt := 68) hx hb dX8_look_13 (by decide) (by decide) rfl (by decide) ?_
      have hl : lv_has ls 4 [(3, .ref t0), (0, .ref h0), (1, .int k), (2, .int 3)] := hl
      refine lv_aload_n hx hb dX8_look_68 rfl (lv_at hl 0 rfl) ?_
      refine lv_iload_n hx hb dX8_look_69 rfl (lv_at hl 3 rfl) ?_
      refine lv_iconst (v := 2) hx hb dX8_look_70 (by decide) ?_
      refine lv_icmp_ge (tgt := 78) hx hb dX8_look_71 (by decide) (fun c_17 => ?_) (fun c_17 => ?_)
      · skip
        refine lv_iconst (v := 0) hx hb dX8_look_78 (by decide) ?_
        refine lv_iload_n hx hb dX8_look_79 rfl (lv_at hl 3 rfl) ?_
        refine lv_iconst (v := 2) hx hb dX8_look_80 (by decide) ?_
        refine lv_irem hx hb dX8_look_81 (by decide) ?_
        refine my_fold (v := 1) (by decide) ?_
        refine lv_iconst (v := 1) hx hb dX8_look_82 (by decide) ?_
        refine lv_icmp_ne (tgt := 90) hx hb dX8_look_83 (by decide) (fun c_19 => ?_) (fun c_19 => ?_)
        · skip
          exact absurd c_19 (by decide)
        · skip
          refine lv_iconst (v := 1) hx hb dX8_look_86 (by decide) ?_
          refine lv_goto (tgt := 91) hx hb dX8_look_87 (by decide) ?_
          have hPc := hP.sub (ws' := [(t0, .inr (5, [.ref d0, .int w, .int h])), (d0, .inl (cI, 4096, .inl g))]) [0, 1] rfl
          have hDc := hD.sub (ws' := [(t0, .inr (5, [.ref d0, .int w, .int h])), (d0, .inl (cI, 4096, .inl g))]) [0, 1] (by decide) rfl
          have hKc := hK.sub (tys' := [(cI, .int)]) [1] rfl
          have hFc := va_free (wc := [(t0, .inr (5, [.ref d0, .int w, .int h])), (d0, .inl (cI, 4096, .inl g))]) hD hS hA [0, 1] rfl
          refine va_calli (va_runV (As := [.int 0, .int 1]) (rest := []) ⟨hx, hb, hml, hown, hts⟩ (k_X5_boxSide_e l D H.size t0 d0 w h g 0 1 cI (by first | assumption | omega | decide) (by first | assumption | omega | decide)) (cwV 2 hts (gV bw_338 bw_164 bw_165 bw_130 bw_163) rfl rfl rfl (by decide +kernel) ⟨(by rw [hR]; exact Nat.le_of_ble_eq_true rfl), (by rw [hR]; exact Nat.le_of_ble_eq_true rfl)⟩) ⟨cP_blind, va_recv hKc hPc (ci := 5) (q0 := 0) rfl rfl, cP_at hPc hKc hDc hN⟩ rfl rfl hl.1 rfl (lv_room (Nat.le_of_ble_eq_true rfl)) dX8_look_91 ⟨(by rw [hR]; exact Nat.le_of_ble_eq_true rfl), (by rw [hR]; exact Nat.le_of_ble_eq_true rfl)⟩) hS (fun q _ h => hFc q h) hFc (fun r_21 u9 t9 H1 locs ht hvm hr_21 hB hz1 hk1 hS => ?_)
          try dsimp only at hr_21
          obtain ⟨hP1, hK1, hD1⟩ := hB
          rw [ht] at hP1
          obtain ⟨hP, hD⟩ := va_join (wr := [(h0, .inr (8, [.ref s1, .ref s2, .ref s3, .ref s4, .ref s5, .ref s6, .int ds, va_rf sp, va_rf bt])), (s1, .inl (cO, 4, .inr (.inr (.inr (.inr f)))))]) (w1 := [(t0, .inr (5, [.ref d0, .int w, .int h])), (d0, .inl (cI, 4096, .inl g))]) hP hD [0, 1] [2, 3] rfl rfl (by decide) (by decide) hk1 hFc hP1 hD1
          clear hz1 hk1 hFc hKc hDc hPc
          generalize H1 = H at hP hS ⊢
          have hP : va_P D vwCl [(h0, .inr (8, [.ref s1, .ref s2, .ref s3, .ref s4, .ref s5, .ref s6, .int ds, va_rf sp, va_rf bt])), (s1, .inl (cO, 4, .inr (.inr (.inr (.inr f))))), (t0, .inr (5, [.ref d0, .int w, .int h])), (d0, .inl (cI, 4096, .inl g))] H := hP
          have hD : va_D A [(h0, .inr (8, [.ref s1, .ref s2, .ref s3, .ref s4, .ref s5, .ref s6, .int ds, va_rf sp, va_rf bt])), (s1, .inl (cO, 4, .inr (.inr (.inr (.inr f))))), (t0, .inr (5, [.ref d0, .int w, .int h])), (d0, .inl (cI, 4096, .inl g))] := hD
          have hP9 := hP.sub (ws' := [(h0, .inr (8, [.ref s1, .ref s2, .ref s3, .ref s4, .ref s5, .ref s6, .int ds, va_rf sp, va_rf bt])), (s1, .inl (cO, 4, .inr (.inr (.inr (.inr f))))), (t0, .inr (5, [.ref d0, .int w, .int h])), (d0, .inl (cI, 4096, .inl g))]) [0, 1, 2, 3] rfl
          have hD9 := hD.sub (ws' := [(h0, .inr (8, [.ref s1, .ref s2, .ref s3, .ref s4, .ref s5, .ref s6, .int ds, va_rf sp, va_rf bt])), (s1, .inl (cO, 4, .inr (.inr (.inr (.inr f))))), (t0, .inr (5, [.ref d0, .int w, .int h])), (d0, .inl (cI, 4096, .inl g))]) [0, 1, 2, 3] (by decide) rfl
          have hK9 := hK.sub (tys' := [(cO, .object "DotBench$Sheet"), (cI, .int)]) [0, 1] rfl
          refine hQ _ _ _ _ _ ?_
          exact W.iret (v := r_21) hx hb hr (fun t ht hW => ⟨⟨r_21, (), rfl, (show _ = lkP g w h (nI 3) from (hr_21.trans (if_neg (by decide))).trans (if_pos hsw).symm), ⟨by rw [ht]; exact hP9, va_K.moved hW.alike hK9, hD9⟩⟩, hS.F ht⟩) hS.2.2 dX8_look_94
      · skip
        exact absurd c_17 (by decide)
    · skip
      refine lv_tableIn (off := 82) (tgt := 95) hx hb dX8_look_13 (by decide) (by decide) rfl (by decide) ?_
      have hl : lv_has ls 4 [(3, .ref t0), (0, .ref h0), (1, .int k), (2, .int 4)] := hl
      refine lv_aload_n hx hb dX8_look_95 rfl (lv_at hl 0 rfl) ?_
      refine va_getN (host := RX8) (D := D) (ci := 5) (v := .int w) (C := RX5) (T := TX5) (N := 3) hx hb hts hi_X5 hown hK hP 0 rfl rfl 1 (by decide) ((hN.1 (RX8, 148, "DotBench$Sheet", "width", "I", RX8) (by decide +kernel)).use rfl) (fun _ h9 => h9) rfl dX8_look_96 ?_
      have hP9 := hP.sub (ws' := [(h0, .inr (8, [.ref s1, .ref s2, .ref s3, .ref s4, .ref s5, .ref s6, .int ds, va_rf sp, va_rf bt])), (s1, .inl (cO, 4, .inr (.inr (.inr (.inr f))))), (t0, .inr (5, [.ref d0, .int w, .int h])), (d0, .inl (cI, 4096, .inl g))]) [2, 3, 0, 1] rfl
      have hD9 := hD.sub (ws' := [(h0, .inr (8, [.ref s1, .ref s2, .ref s3, .ref s4, .ref s5, .ref s6, .int ds, va_rf sp, va_rf bt])), (s1, .inl (cO, 4, .inr (.inr (.inr (.inr f))))), (t0, .inr (5, [.ref d0, .int w, .int h])), (d0, .inl (cI, 4096, .inl g))]) [2, 3, 0, 1] (by decide) rfl
      have hK9 := hK.sub (tys' := [(cO, .object "DotBench$Sheet"), (cI, .int)]) [0, 1] rfl
      refine hQ _ _ _ _ _ ?_
      exact W.iret (v := w) hx hb hr (fun t ht hW => ⟨⟨w, (), rfl, (show _ = lkP g w h (nI 4) from (if_pos hsw).symm), ⟨by rw [ht]; exact hP9, va_K.moved hW.alike hK9, hD9⟩⟩, hS.F ht⟩) hS.2.2 dX8_look_99
    · skip
      refine lv_tableIn (off := 87) (tgt := 100) hx hb dX8_look_13 (by decide) (by decide) rfl (by decide) ?_
      have hl : lv_has ls 4 [(3, .ref t0), (0, .ref h0), (1, .int k), (2, .int 5)] := hl
      refine lv_aload_n hx hb dX8_look_100 rfl (lv_at hl 0 rfl) ?_
      refine va_getN (host := RX8) (D := D) (ci := 5) (v := .int h) (C := RX5) (T := TX5) (N := 3) hx hb hts hi_X5 hown hK hP 0 rfl rfl 2 (by decide) ((hN.1 (RX8, 145, "DotBench$Sheet", "height", "I", RX8) (by decide +kernel)).use rfl) (fun _ h9 => h9) rfl dX8_look_101 ?_
      have hP9 := hP.sub (ws' := [(h0, .inr (8, [.ref s1, .ref s2, .ref s3, .ref s4, .ref s5, .ref s6, .int ds, va_rf sp, va_rf bt])), (s1, .inl (cO, 4, .inr (.inr (.inr (.inr f))))), (t0, .inr (5, [.ref d0, .int w, .int h])), (d0, .inl (cI, 4096, .inl g))]) [2, 3, 0, 1] rfl
      have hD9 := hD.sub (ws' := [(h0, .inr (8, [.ref s1, .ref s2, .ref s3, .ref s4, .ref s5, .ref s6, .int ds, va_rf sp, va_rf bt])), (s1, .inl (cO, 4, .inr (.inr (.inr (.inr f))))), (t0, .inr (5, [.ref d0, .int w, .int h])), (d0, .inl (cI, 4096, .inl g))]) [2, 3, 0, 1] (by decide) rfl
      have hK9 := hK.sub (tys' := [(cO, .object "DotBench$Sheet"), (cI, .int)]) [0, 1] rfl
      refine hQ _ _ _ _ _ ?_
      exact W.iret (v := h) hx hb hr (fun t ht hW => ⟨⟨h, (), rfl, (show _ = lkP g w h (nI 5) from (if_pos hsw).symm), ⟨by rw [ht]; exact hP9, va_K.moved hW.alike hK9, hD9⟩⟩, hS.F ht⟩) hS.2.2 dX8_look_104
    · skip
      refine lv_tableIn (off := 92) (tgt := 105) hx hb dX8_look_13 (by decide) (by decide) rfl (by decide) ?_
      have hl : lv_has ls 4 [(3, .ref t0), (0, .ref h0), (1, .int k), (2, .int 6)] := hl
      refine lv_aload_n hx hb dX8_look_105 rfl (lv_at hl 0 rfl) ?_
      refine lv_bipush (v := 24) hx hb dX8_look_106 (by decide) ?_
      refine lv_bipush (v := 8) hx hb dX8_look_108 (by decide) ?_
      refine lv_iload_n hx hb dX8_look_110 rfl (lv_at hl 3 rfl) ?_
      refine lv_bipush (v := 6) hx hb dX8_look_111 (by decide) ?_
      refine lv_isub hx hb dX8_look_113 ?_
      refine my_fold (v := 0) (by decide) ?_
      refine lv_imul hx hb dX8_look_114 ?_
      refine my_fold (v := 0) (by decide) ?_
      refine lv_isub hx hb dX8_look_115 ?_
      refine my_fold (v := 24) (by decide) ?_
      have hPc := hP.sub (ws' := [(t0, .inr (5, [.ref d0, .int w, .int h])), (d0, .inl (cI, 4096, .inl g))]) [0, 1] rfl
      have hDc := hD.sub (ws' := [(t0, .inr (5, [.ref d0, .int w, .int h])), (d0, .inl (cI, 4096, .inl g))]) [0, 1] (by decide) rfl
      have hKc := hK.sub (tys' := [(cI, .int)]) [1] rfl
      have hFc := va_free (wc := [(t0, .inr (5, [.ref d0, .int w, .int h])), (d0, .inl (cI, 4096, .inl g))]) hD hS hA [0, 1] rfl
      refine va_calli (va_runV (As := [.int 24]) (rest := []) ⟨hx, hb, hml, hown, hts⟩ (k_X5_channelSum_e l D H.size t0 d0 w h g 24 cI (by first | assumption | omega | decide) (by first | assumption | omega | decide)) (cwV 1 hts (gV bw_339 bw_160 bw_161 bw_130 bw_159) rfl rfl rfl (by decide +kernel) ⟨(by rw [hR]; exact Nat.le_of_ble_eq_true rfl), (by rw [hR]; exact Nat.le_of_ble_eq_true rfl)⟩) ⟨cP_blind, va_recv hKc hPc (ci := 5) (q0 := 0) rfl rfl, cP_at hPc hKc hDc hN⟩ rfl rfl hl.1 rfl (lv_room (Nat.le_of_ble_eq_true rfl)) dX8_look_116 ⟨(by rw [hR]; exact Nat.le_of_ble_eq_true rfl), (by rw [hR]; exact Nat.le_of_ble_eq_true rfl)⟩) hS (fun q _ h => hFc q h) hFc (fun r_22 u9 t9 H1 locs ht hvm hr_22 hB hz1 hk1 hS => ?_)
      try dsimp only at hr_22
      obtain ⟨hP1, hK1, hD1⟩ := hB
      rw [ht] at hP1
      obtain ⟨hP, hD⟩ := va_join (wr := [(h0, .inr (8, [.ref s1, .ref s2, .ref s3, .ref s4, .ref s5, .ref s6, .int ds, va_rf sp, va_rf bt])), (s1, .inl (cO, 4, .inr (.inr (.inr (.inr f)))))]) (w1 := [(t0, .inr (5, [.ref d0, .int w, .int h])), (d0, .inl (cI, 4096, .inl g))]) hP hD [0, 1] [2, 3] rfl rfl (by decide) (by decide) hk1 hFc hP1 hD1
      clear hz1 hk1 hFc hKc hDc hPc
      generalize H1 = H at hP hS ⊢
      have hP : va_P D vwCl [(h0, .inr (8, [.ref s1, .ref s2, .ref s3, .ref s4, .ref s5, .ref s6, .int ds, va_rf sp, va_rf bt])), (s1, .inl (cO, 4, .inr (.inr (.inr (.inr f))))), (t0, .inr (5, [.ref d0, .int w, .int h])), (d0, .inl (cI, 4096, .inl g))] H := hP
      have hD : va_D A [(h0, .inr (8, [.ref s1, .ref s2, .ref s3, .ref s4, .ref s5, .ref s6, .int ds, va_rf sp, va_rf bt])), (s1, .inl (cO, 4, .inr (.inr (.inr (.inr f))))), (t0, .inr (5, [.ref d0, .int w, .int h])), (d0, .inl (cI, 4096, .inl g))] := hD
      have hP9 := hP.sub (ws' := [(h0, .inr (8, [.ref s1, .ref s2, .ref s3, .ref s4, .ref s5, .ref s6, .int ds, va_rf sp, va_rf bt])), (s1, .inl (cO, 4, .inr (.inr (.inr (.inr f))))), (t0, .inr (5, [.ref d0, .int w, .int h])), (d0, .inl (cI, 4096, .inl g))]) [0, 1, 2, 3] rfl
      have hD9 := hD.sub (ws' := [(h0, .inr (8, [.ref s1, .ref s2, .ref s3, .ref s4, .ref s5, .ref s6, .int ds, va_rf sp, va_rf bt])), (s1, .inl (cO, 4, .inr (.inr (.inr (.inr f))))), (t0, .inr (5, [.ref d0, .int w, .int h])), (d0, .inl (cI, 4096, .inl g))]) [0, 1, 2, 3] (by decide) rfl
      have hK9 := hK.sub (tys' := [(cO, .object "DotBench$Sheet"), (cI, .int)]) [0, 1] rfl
      refine hQ _ _ _ _ _ ?_
      exact W.iret (v := r_22) hx hb hr (fun t ht hW => ⟨⟨r_22, (), rfl, (show _ = lkP g w h (nI 6) from hr_22.trans (if_pos hsw).symm), ⟨by rw [ht]; exact hP9, va_K.moved hW.alike hK9, hD9⟩⟩, hS.F ht⟩) hS.2.2 dX8_look_119
    · skip
      refine lv_tableIn (off := 92) (tgt := 105) hx hb dX8_look_13 (by decide) (by decide) rfl (by decide) ?_
      have hl : lv_has ls 4 [(3, .ref t0), (0, .ref h0), (1, .int k), (2, .int 7)] := hl
      refine lv_aload_n hx hb dX8_look_105 rfl (lv_at hl 0 rfl) ?_
      refine lv_bipush (v := 24) hx hb dX8_look_106 (by decide) ?_
      refine lv_bipush (v := 8) hx hb dX8_look_108 (by decide) ?_
      refine lv_iload_n hx hb dX8_look_110 rfl (lv_at hl 3 rfl) ?_
      refine lv_bipush (v := 6) hx hb dX8_look_111 (by decide) ?_
      refine lv_isub hx hb dX8_look_113 ?_
      refine my_fold (v := 1) (by decide) ?_
      refine lv_imul hx hb dX8_look_114 ?_
      refine my_fold (v := 8) (by decide) ?_
      refine lv_isub hx hb dX8_look_115 ?_
      refine my_fold (v := 16) (by decide) ?_
      have hPc := hP.sub (ws' := [(t0, .inr (5, [.ref d0, .int w, .int h])), (d0, .inl (cI, 4096, .inl g))]) [0, 1] rfl
      have hDc := hD.sub (ws' := [(t0, .inr (5, [.ref d0, .int w, .int h])), (d0, .inl (cI, 4096, .inl g))]) [0, 1] (by decide) rfl
      have hKc := hK.sub (tys' := [(cI, .int)]) [1] rfl
      have hFc := va_free (wc := [(t0, .inr (5, [.ref d0, .int w, .int h])), (d0, .inl (cI, 4096, .inl g))]) hD hS hA [0, 1] rfl
      refine va_calli (va_runV (As := [.int 16]) (rest := []) ⟨hx, hb, hml, hown, hts⟩ (k_X5_channelSum_e l D H.size t0 d0 w h g 16 cI (by first | assumption | omega | decide) (by first | assumption | omega | decide)) (cwV 1 hts (gV bw_339 bw_160 bw_161 bw_130 bw_159) rfl rfl rfl (by decide +kernel) ⟨(by rw [hR]; exact Nat.le_of_ble_eq_true rfl), (by rw [hR]; exact Nat.le_of_ble_eq_true rfl)⟩) ⟨cP_blind, va_recv hKc hPc (ci := 5) (q0 := 0) rfl rfl, cP_at hPc hKc hDc hN⟩ rfl rfl hl.1 rfl (lv_room (Nat.le_of_ble_eq_true rfl)) dX8_look_116 ⟨(by rw [hR]; exact Nat.le_of_ble_eq_true rfl), (by rw [hR]; exact Nat.le_of_ble_eq_true rfl)⟩) hS (fun q _ h => hFc q h) hFc (fun r_23 u9 t9 H1 locs ht hvm hr_23 hB hz1 hk1 hS => ?_)
      try dsimp only at hr_23
      obtain ⟨hP1, hK1, hD1⟩ := hB
      rw [ht] at hP1
      obtain ⟨hP, hD⟩ := va_join (wr := [(h0, .inr (8, [.ref s1, .ref s2, .ref s3, .ref s4, .ref s5, .ref s6, .int ds, va_rf sp, va_rf bt])), (s1, .inl (cO, 4, .inr (.inr (.inr (.inr f)))))]) (w1 := [(t0, .inr (5, [.ref d0, .int w, .int h])), (d0, .inl (cI, 4096, .inl g))]) hP hD [0, 1] [2, 3] rfl rfl (by decide) (by decide) hk1 hFc hP1 hD1
      clear hz1 hk1 hFc hKc hDc hPc
      generalize H1 = H at hP hS ⊢
      have hP : va_P D vwCl [(h0, .inr (8, [.ref s1, .ref s2, .ref s3, .ref s4, .ref s5, .ref s6, .int ds, va_rf sp, va_rf bt])), (s1, .inl (cO, 4, .inr (.inr (.inr (.inr f))))), (t0, .inr (5, [.ref d0, .int w, .int h])), (d0, .inl (cI, 4096, .inl g))] H := hP
      have hD : va_D A [(h0, .inr (8, [.ref s1, .ref s2, .ref s3, .ref s4, .ref s5, .ref s6, .int ds, va_rf sp, va_rf bt])), (s1, .inl (cO, 4, .inr (.inr (.inr (.inr f))))), (t0, .inr (5, [.ref d0, .int w, .int h])), (d0, .inl (cI, 4096, .inl g))] := hD
      have hP9 := hP.sub (ws' := [(h0, .inr (8, [.ref s1, .ref s2, .ref s3, .ref s4, .ref s5, .ref s6, .int ds, va_rf sp, va_rf bt])), (s1, .inl (cO, 4, .inr (.inr (.inr (.inr f))))), (t0, .inr (5, [.ref d0, .int w, .int h])), (d0, .inl (cI, 4096, .inl g))]) [0, 1, 2, 3] rfl
      have hD9 := hD.sub (ws' := [(h0, .inr (8, [.ref s1, .ref s2, .ref s3, .ref s4, .ref s5, .ref s6, .int ds, va_rf sp, va_rf bt])), (s1, .inl (cO, 4, .inr (.inr (.inr (.inr f))))), (t0, .inr (5, [.ref d0, .int w, .int h])), (d0, .inl (cI, 4096, .inl g))]) [0, 1, 2, 3] (by decide) rfl
      have hK9 := hK.sub (tys' := [(cO, .object "DotBench$Sheet"), (cI, .int)]) [0, 1] rfl
      refine hQ _ _ _ _ _ ?_
      exact W.iret (v := r_23) hx hb hr (fun t ht hW => ⟨⟨r_23, (), rfl, (show _ = lkP g w h (nI 7) from hr_23.trans (if_pos hsw).symm), ⟨by rw [ht]; exact hP9, va_K.moved hW.alike hK9, hD9⟩⟩, hS.F ht⟩) hS.2.2 dX8_look_119
    · skip
      refine lv_tableIn (off := 92) (tgt := 105) hx hb dX8_look_13 (by decide) (by decide) rfl (by decide) ?_
      have hl : lv_has ls 4 [(3, .ref t0), (0, .ref h0), (1, .int k), (2, .int 8)] := hl
      refine lv_aload_n hx hb dX8_look_105 rfl (lv_at hl 0 rfl) ?_
      refine lv_bipush (v := 24) hx hb dX8_look_106 (by decide) ?_
      refine lv_bipush (v := 8) hx hb dX8_look_108 (by decide) ?_
      refine lv_iload_n hx hb dX8_look_110 rfl (lv_at hl 3 rfl) ?_
      refine lv_bipush (v := 6) hx hb dX8_look_111 (by decide) ?_
      refine lv_isub hx hb dX8_look_113 ?_
      refine my_fold (v := 2) (by decide) ?_
      refine lv_imul hx hb dX8_look_114 ?_
      refine my_fold (v := 16) (by decide) ?_
      refine lv_isub hx hb dX8_look_115 ?_
      refine my_fold (v := 8) (by decide) ?_
      have hPc := hP.sub (ws' := [(t0, .inr (5, [.ref d0, .int w, .int h])), (d0, .inl (cI, 4096, .inl g))]) [0, 1] rfl
      have hDc := hD.sub (ws' := [(t0, .inr (5, [.ref d0, .int w, .int h])), (d0, .inl (cI, 4096, .inl g))]) [0, 1] (by decide) rfl
      have hKc := hK.sub (tys' := [(cI, .int)]) [1] rfl
      have hFc := va_free (wc := [(t0, .inr (5, [.ref d0, .int w, .int h])), (d0, .inl (cI, 4096, .inl g))]) hD hS hA [0, 1] rfl
      refine va_calli (va_runV (As := [.int 8]) (rest := []) ⟨hx, hb, hml, hown, hts⟩ (k_X5_channelSum_e l D H.size t0 d0 w h g 8 cI (by first | assumption | omega | decide) (by first | assumption | omega | decide)) (cwV 1 hts (gV bw_339 bw_160 bw_161 bw_130 bw_159) rfl rfl rfl (by decide +kernel) ⟨(by rw [hR]; exact Nat.le_of_ble_eq_true rfl), (by rw [hR]; exact Nat.le_of_ble_eq_true rfl)⟩) ⟨cP_blind, va_recv hKc hPc (ci := 5) (q0 := 0) rfl rfl, cP_at hPc hKc hDc hN⟩ rfl rfl hl.1 rfl (lv_room (Nat.le_of_ble_eq_true rfl)) dX8_look_116 ⟨(by rw [hR]; exact Nat.le_of_ble_eq_true rfl), (by rw [hR]; exact Nat.le_of_ble_eq_true rfl)⟩) hS (fun q _ h => hFc q h) hFc (fun r_24 u9 t9 H1 locs ht hvm hr_24 hB hz1 hk1 hS => ?_)
      try dsimp only at hr_24
      obtain ⟨hP1, hK1, hD1⟩ := hB
      rw [ht] at hP1
      obtain ⟨hP, hD⟩ := va_join (wr := [(h0, .inr (8, [.ref s1, .ref s2, .ref s3, .ref s4, .ref s5, .ref s6, .int ds, va_rf sp, va_rf bt])), (s1, .inl (cO, 4, .inr (.inr (.inr (.inr f)))))]) (w1 := [(t0, .inr (5, [.ref d0, .int w, .int h])), (d0, .inl (cI, 4096, .inl g))]) hP hD [0, 1] [2, 3] rfl rfl (by decide) (by decide) hk1 hFc hP1 hD1
      clear hz1 hk1 hFc hKc hDc hPc
      generalize H1 = H at hP hS ⊢
      have hP : va_P D vwCl [(h0, .inr (8, [.ref s1, .ref s2, .ref s3, .ref s4, .ref s5, .ref s6, .int ds, va_rf sp, va_rf bt])), (s1, .inl (cO, 4, .inr (.inr (.inr (.inr f))))), (t0, .inr (5, [.ref d0, .int w, .int h])), (d0, .inl (cI, 4096, .inl g))] H := hP
      have hD : va_D A [(h0, .inr (8, [.ref s1, .ref s2, .ref s3, .ref s4, .ref s5, .ref s6, .int ds, va_rf sp, va_rf bt])), (s1, .inl (cO, 4, .inr (.inr (.inr (.inr f))))), (t0, .inr (5, [.ref d0, .int w, .int h])), (d0, .inl (cI, 4096, .inl g))] := hD
      have hP9 := hP.sub (ws' := [(h0, .inr (8, [.ref s1, .ref s2, .ref s3, .ref s4, .ref s5, .ref s6, .int ds, va_rf sp, va_rf bt])), (s1, .inl (cO, 4, .inr (.inr (.inr (.inr f))))), (t0, .inr (5, [.ref d0, .int w, .int h])), (d0, .inl (cI, 4096, .inl g))]) [0, 1, 2, 3] rfl
      have hD9 := hD.sub (ws' := [(h0, .inr (8, [.ref s1, .ref s2, .ref s3, .ref s4, .ref s5, .ref s6, .int ds, va_rf sp, va_rf bt])), (s1, .inl (cO, 4, .inr (.inr (.inr (.inr f))))), (t0, .inr (5, [.ref d0, .int w, .int h])), (d0, .inl (cI, 4096, .inl g))]) [0, 1, 2, 3] (by decide) rfl
      have hK9 := hK.sub (tys' := [(cO, .object "DotBench$Sheet"), (cI, .int)]) [0, 1] rfl
      refine hQ _ _ _ _ _ ?_
      exact W.iret (v := r_24) hx hb hr (fun t ht hW => ⟨⟨r_24, (), rfl, (show _ = lkP g w h (nI 8) from hr_24.trans (if_pos hsw).symm), ⟨by rw [ht]; exact hP9, va_K.moved hW.alike hK9, hD9⟩⟩, hS.F ht⟩) hS.2.2 dX8_look_119
    · skip
      refine lv_tableIn (off := 92) (tgt := 105) hx hb dX8_look_13 (by decide) (by decide) rfl (by decide) ?_
      have hl : lv_has ls 4 [(3, .ref t0), (0, .ref h0), (1, .int k), (2, .int 9)] := hl
      refine lv_aload_n hx hb dX8_look_105 rfl (lv_at hl 0 rfl) ?_
      refine lv_bipush (v := 24) hx hb dX8_look_106 (by decide) ?_
      refine lv_bipush (v := 8) hx hb dX8_look_108 (by decide) ?_
      refine lv_iload_n hx hb dX8_look_110 rfl (lv_at hl 3 rfl) ?_
      refine lv_bipush (v := 6) hx hb dX8_look_111 (by decide) ?_
      refine lv_isub hx hb dX8_look_113 ?_
      refine my_fold (v := 3) (by decide) ?_
      refine lv_imul hx hb dX8_look_114 ?_
      refine my_fold (v := 24) (by decide) ?_
      refine lv_isub hx hb dX8_look_115 ?_
      refine my_fold (v := 0) (by decide) ?_
      have hPc := hP.sub (ws' := [(t0, .inr (5, [.ref d0, .int w, .int h])), (d0, .inl (cI, 4096, .inl g))]) [0, 1] rfl
      have hDc := hD.sub (ws' := [(t0, .inr (5, [.ref d0, .int w, .int h])), (d0, .inl (cI, 4096, .inl g))]) [0, 1] (by decide) rfl
      have hKc := hK.sub (tys' := [(cI, .int)]) [1] rfl
      have hFc := va_free (wc := [(t0, .inr (5, [.ref d0, .int w, .int h])), (d0, .inl (cI, 4096, .inl g))]) hD hS hA [0, 1] rfl
      refine va_calli (va_runV (As := [.int 0]) (rest := []) ⟨hx, hb, hml, hown, hts⟩ (k_X5_channelSum_e l D H.size t0 d0 w h g 0 cI (by first | assumption | omega | decide) (by first | assumption | omega | decide)) (cwV 1 hts (gV bw_339 bw_160 bw_161 bw_130 bw_159) rfl rfl rfl (by decide +kernel) ⟨(by rw [hR]; exact Nat.le_of_ble_eq_true rfl), (by rw [hR]; exact Nat.le_of_ble_eq_true rfl)⟩) ⟨cP_blind, va_recv hKc hPc (ci := 5) (q0 := 0) rfl rfl, cP_at hPc hKc hDc hN⟩ rfl rfl hl.1 rfl (lv_room (Nat.le_of_ble_eq_true rfl)) dX8_look_116 ⟨(by rw [hR]; exact Nat.le_of_ble_eq_true rfl), (by rw [hR]; exact Nat.le_of_ble_eq_true rfl)⟩) hS (fun q _ h => hFc q h) hFc (fun r_25 u9 t9 H1 locs ht hvm hr_25 hB hz1 hk1 hS => ?_)
      try dsimp only at hr_25
      obtain ⟨hP1, hK1, hD1⟩ := hB
      rw [ht] at hP1
      obtain ⟨hP, hD⟩ := va_join (wr := [(h0, .inr (8, [.ref s1, .ref s2, .ref s3, .ref s4, .ref s5, .ref s6, .int ds, va_rf sp, va_rf bt])), (s1, .inl (cO, 4, .inr (.inr (.inr (.inr f)))))]) (w1 := [(t0, .inr (5, [.ref d0, .int w, .int h])), (d0, .inl (cI, 4096, .inl g))]) hP hD [0, 1] [2, 3] rfl rfl (by decide) (by decide) hk1 hFc hP1 hD1
      clear hz1 hk1 hFc hKc hDc hPc
      generalize H1 = H at hP hS ⊢
      have hP : va_P D vwCl [(h0, .inr (8, [.ref s1, .ref s2, .ref s3, .ref s4, .ref s5, .ref s6, .int ds, va_rf sp, va_rf bt])), (s1, .inl (cO, 4, .inr (.inr (.inr (.inr f))))), (t0, .inr (5, [.ref d0, .int w, .int h])), (d0, .inl (cI, 4096, .inl g))] H := hP
      have hD : va_D A [(h0, .inr (8, [.ref s1, .ref s2, .ref s3, .ref s4, .ref s5, .ref s6, .int ds, va_rf sp, va_rf bt])), (s1, .inl (cO, 4, .inr (.inr (.inr (.inr f))))), (t0, .inr (5, [.ref d0, .int w, .int h])), (d0, .inl (cI, 4096, .inl g))] := hD
      have hP9 := hP.sub (ws' := [(h0, .inr (8, [.ref s1, .ref s2, .ref s3, .ref s4, .ref s5, .ref s6, .int ds, va_rf sp, va_rf bt])), (s1, .inl (cO, 4, .inr (.inr (.inr (.inr f))))), (t0, .inr (5, [.ref d0, .int w, .int h])), (d0, .inl (cI, 4096, .inl g))]) [0, 1, 2, 3] rfl
      have hD9 := hD.sub (ws' := [(h0, .inr (8, [.ref s1, .ref s2, .ref s3, .ref s4, .ref s5, .ref s6, .int ds, va_rf sp, va_rf bt])), (s1, .inl (cO, 4, .inr (.inr (.inr (.inr f))))), (t0, .inr (5, [.ref d0, .int w, .int h])), (d0, .inl (cI, 4096, .inl g))]) [0, 1, 2, 3] (by decide) rfl
      have hK9 := hK.sub (tys' := [(cO, .object "DotBench$Sheet"), (cI, .int)]) [0, 1] rfl
      refine hQ _ _ _ _ _ ?_
      exact W.iret (v := r_25) hx hb hr (fun t ht hW => ⟨⟨r_25, (), rfl, (show _ = lkP g w h (nI 9) from hr_25.trans (if_pos hsw).symm), ⟨by rw [ht]; exact hP9, va_K.moved hW.alike hK9, hD9⟩⟩, hS.F ht⟩) hS.2.2 dX8_look_119
  · skip
    refine lv_tableOut (tgt := 120) hx hb dX8_look_13 (by omega) (by decide) ?_
    refine lv_iconst (v := (-1)) hx hb dX8_look_120 (by decide) ?_
    have hP9 := hP.sub (ws' := [(h0, .inr (8, [.ref s1, .ref s2, .ref s3, .ref s4, .ref s5, .ref s6, .int ds, va_rf sp, va_rf bt])), (s1, .inl (cO, 4, .inr (.inr (.inr (.inr f))))), (t0, .inr (5, [.ref d0, .int w, .int h])), (d0, .inl (cI, 4096, .inl g))]) [2, 3, 0, 1] rfl
    have hD9 := hD.sub (ws' := [(h0, .inr (8, [.ref s1, .ref s2, .ref s3, .ref s4, .ref s5, .ref s6, .int ds, va_rf sp, va_rf bt])), (s1, .inl (cO, 4, .inr (.inr (.inr (.inr f))))), (t0, .inr (5, [.ref d0, .int w, .int h])), (d0, .inl (cI, 4096, .inl g))]) [2, 3, 0, 1] (by decide) rfl
    have hK9 := hK.sub (tys' := [(cO, .object "DotBench$Sheet"), (cI, .int)]) [0, 1] rfl
    refine hQ _ _ _ _ _ ?_
    exact W.iret (v := (-1)) hx hb hr (fun t ht hW => ⟨⟨(-1), (), rfl, (if_neg hsw).symm, ⟨by rw [ht]; exact hP9, va_K.moved hW.alike hK9, hD9⟩⟩, hS.F ht⟩) hS.2.2 dX8_look_121

set_option maxHeartbeats 4000000 in
set_option maxRecDepth 100000 in
theorem k_X8_differ_de (l : Launch) (D : va_G) (sz : Nat) (h0 s1 s2 s3 s4 s5 s6 : Nat) (ds : Int32) (sp bt : Option Nat) (f : Nat → Option Nat) (t0 d0 : Nat) (w h : Int32) (g : Nat → Int32) (u0 e0 : Nat) (w2 h2 : Int32) (gs : Nat → Int32) (k kq : Int32) (cO : ClassId) (cI : ClassId) (hak : 0 ≤ k.toInt ∧ k.toInt ≤ 3) (haf : f k.toNatClampNeg = some u0) (hb0k : 0 ≤ kq.toInt ∧ kq.toInt ≤ 3) (hb0f : f kq.toNatClampNeg = some t0) (hw : 0 ≤ w.toInt ∧ w.toInt ≤ 64) (hh : 0 ≤ h.toInt ∧ h.toInt ≤ 64) (hw2 : 0 ≤ w2.toInt ∧ w2.toInt ≤ 64) (hh2 : 0 ≤ h2.toInt ∧ h2.toInt ≤ 64) : Met l yX8_differ (wB yX8_differ cX8_differ 8 (some .int)) ({ frames := 2, cells := 0, slots := 0, locals := 44 }) (cP D [(h0, .inr (8, [.ref s1, .ref s2, .ref s3, .ref s4, .ref s5, .ref s6, .int ds, va_rf sp, va_rf bt])), (s1, .inl (cO, 4, .inr (.inr (.inr (.inr f))))), (t0, .inr (5, [.ref d0, .int w, .int h])), (d0, .inl (cI, 4096, .inl g)), (u0, .inr (5, [.ref e0, .int w2, .int h2])), (e0, .inl (cI, 4096, .inl gs))] [(cO, .object "DotBench$Sheet"), (cI, .int)] sz [.ref h0, .int k, .int kq]) (va_Qi (fun (r : Int32) (_ : Unit) => r = if w2.toInt = w.toInt ∧ h2.toInt = h.toInt then smL (dfF gs g) w2.toNatClampNeg 0 h2.toNatClampNeg else -1) (fun (_ : Unit) (t : State) => cB D (va_A [(h0, .inr (8, [.ref s1, .ref s2, .ref s3, .ref s4, .ref s5, .ref s6, .int ds, va_rf sp, va_rf bt])), (s1, .inl (cO, 4, .inr (.inr (.inr (.inr f))))), (t0, .inr (5, [.ref d0, .int w, .int h])), (d0, .inl (cI, 4096, .inl g)), (u0, .inr (5, [.ref e0, .int w2, .int h2])), (e0, .inl (cI, 4096, .inl gs))] sz) [(h0, .inr (8, [.ref s1, .ref s2, .ref s3, .ref s4, .ref s5, .ref s6, .int ds, va_rf sp, va_rf bt])), (s1, .inl (cO, 4, .inr (.inr (.inr (.inr f))))), (t0, .inr (5, [.ref d0, .int w, .int h])), (d0, .inl (cI, 4096, .inl g)), (u0, .inr (5, [.ref e0, .int w2, .int h2])), (e0, .inl (cI, 4096, .inl gs))] [(cO, .object "DotBench$Sheet"), (cI, .int)] t) (va_A [(h0, .inr (8, [.ref s1, .ref s2, .ref s3, .ref s4, .ref s5, .ref s6, .int ds, va_rf sp, va_rf bt])), (s1, .inl (cO, 4, .inr (.inr (.inr (.inr f))))), (t0, .inr (5, [.ref d0, .int w, .int h])), (d0, .inl (cI, 4096, .inl g)), (u0, .inr (5, [.ref e0, .int w2, .int h2])), (e0, .inl (cI, 4096, .inl gs))] sz)) 0 0 (va_A [(h0, .inr (8, [.ref s1, .ref s2, .ref s3, .ref s4, .ref s5, .ref s6, .int ds, va_rf sp, va_rf bt])), (s1, .inl (cO, 4, .inr (.inr (.inr (.inr f))))), (t0, .inr (5, [.ref d0, .int w, .int h])), (d0, .inl (cI, 4096, .inl g)), (u0, .inr (5, [.ref e0, .int w2, .int h2])), (e0, .inl (cI, 4096, .inl gs))] sz) := by
  refine Met.ofW (cc := cX8_differ) (maxL := 8) (ret := (some .int)) (by decide) rfl ?_
  intro p e s m args below meth c s₁ B hml hv
  obtain ⟨rfl, hsz, hP, hK, hD0, hN⟩ := hv
  have hx := B.exec
  have hb := B.bytes
  have hr := B.returns
  have hts0 := atoms_spec (ws := (wB yX8_differ cX8_differ 8 (some .int))) B.pre
  have hts : ∀ w ∈ bigW, w.before _ s = true := fun w h => hts0 w (List.mem_cons_of_mem _ h)
  have hown : s.vm.findClass RX8 = some m.cls := findClass_of_methodNamed B.named
  have hlocks := B.notSynchronized
  subst hsz
  have hD := hD0.self (sz := s.heap.size)
  generalize hAe : va_A [(h0, .inr (8, [.ref s1, .ref s2, .ref s3, .ref s4, .ref s5, .ref s6, .int ds, va_rf sp, va_rf bt])), (s1, .inl (cO, 4, .inr (.inr (.inr (.inr f))))), (t0, .inr (5, [.ref d0, .int w, .int h])), (d0, .inl (cI, 4096, .inl g)), (u0, .inr (5, [.ref e0, .int w2, .int h2])), (e0, .inl (cI, 4096, .inl gs))] s.heap.size = A at hD ⊢
  have hA : ∀ q : Nat, s.heap.size ≤ q → A q := fun q h => by rw [← hAe]; exact Or.inr h
  have hS : va_S A s.heap s.heap [] := va_S.rf
  have hP : va_P D vwCl [(h0, .inr (8, [.ref s1, .ref s2, .ref s3, .ref s4, .ref s5, .ref s6, .int ds, va_rf sp, va_rf bt])), (s1, .inl (cO, 4, .inr (.inr (.inr (.inr f))))), (t0, .inr (5, [.ref d0, .int w, .int h])), (d0, .inl (cI, 4096, .inl g)), (u0, .inr (5, [.ref e0, .int w2, .int h2])), (e0, .inl (cI, 4096, .inl gs))] s.heap := hP
  have hl := lv_entry ([.ref h0, .int k, .int kq]) (n := 8) (Nat.le_of_ble_eq_true rfl)
  rw [lg_entry_eq]
  generalize (lg_sl ([.ref h0, .int k, .int kq]) ++ List.replicate (8 - (lg_sl ([.ref h0, .int k, .int kq])).length) Slot.unset).toArray = ls at hl ⊢
  have hl : lv_has ls 8 [(0, .ref h0), (1, .int k), (2, .int kq)] := hl
  clear hts0 hD0 hAe
  refine my_abs (fun R Q hR hQ => ?_)
  obtain ⟨W9, hW9, eW9⟩ := i_of (x := w2) (N := 65) (by omega) (by omega) (by decide)
  have eW9n : w2.toNatClampNeg = W9 := by rw [eW9]; exact nI_clamp (by omega)
  have hW9t : w2.toInt = (W9 : Int) := by rw [eW9]; exact nI_toInt (by omega)
  obtain ⟨H9, hH9, eH9⟩ := i_of (x := h2) (N := 65) (by omega) (by omega) (by decide)
  have eH9n : h2.toNatClampNeg = H9 := by rw [eH9]; exact nI_clamp (by omega)
  have hH9t : h2.toInt = (H9 : Int) := by rw [eH9]; exact nI_toInt (by omega)
  refine lv_aload_n hx hb dX8_differ_0 rfl (lv_at hl 0 rfl) ?_
  refine lv_iload_n hx hb dX8_differ_1 rfl (lv_at hl 1 rfl) ?_
  have hPc := hP.sub (ws' := [(h0, .inr (8, [.ref s1, .ref s2, .ref s3, .ref s4, .ref s5, .ref s6, .int ds, va_rf sp, va_rf bt])), (s1, .inl (cO, 4, .inr (.inr (.inr (.inr f)))))]) [0, 1] rfl
  have hDc := hD.sub (ws' := [(h0, .inr (8, [.ref s1, .ref s2, .ref s3, .ref s4, .ref s5, .ref s6, .int ds, va_rf sp, va_rf bt])), (s1, .inl (cO, 4, .inr (.inr (.inr (.inr f)))))]) [0, 1] (by decide) rfl
  have hKc := hK.sub (tys' := [(cO, .object "DotBench$Sheet")]) [0] rfl
  have hFc := va_free (wc := [(h0, .inr (8, [.ref s1, .ref s2, .ref s3, .ref s4, .ref s5, .ref s6, .int ds, va_rf sp, va_rf bt])), (s1, .inl (cO, 4, .inr (.inr (.inr (.inr f)))))]) hD hS hA [0, 1] rfl
  refine va_callq (va_runV (As := [.int k]) (rest := []) ⟨hx, hb, hml, hown, hts⟩ (k_X8_sheetAt_y l D s.heap.size h0 s1 s2 s3 s4 s5 s6 ds sp bt f k u0 cO (by first | assumption | omega | decide) (by first | assumption | omega | decide)) (cwV 1 hts (gV bw_267 bw_346 bw_347 bw_223 bw_345) rfl rfl rfl (by decide +kernel) ⟨(by rw [hR]; exact Nat.le_of_ble_eq_true rfl), (by rw [hR]; exact Nat.le_of_ble_eq_true rfl)⟩) ⟨cP_blind, va_recv hKc hPc (ci := 8) (q0 := 0) rfl rfl, cP_at hPc hKc hDc hN⟩ rfl rfl hl.1 rfl (lv_room (Nat.le_of_ble_eq_true rfl)) dX8_differ_2 ⟨(by rw [hR]; exact Nat.le_of_ble_eq_true rfl), (by rw [hR]; exact Nat.le_of_ble_eq_true rfl)⟩) hS (fun q _ h => hFc q h) hFc (fun r_1 u9 t9 H1 locs ht hvm hr_1 hB hz1 hk1 hS => ?_)
  try dsimp only at hr_1
  obtain ⟨hP1, hK1, hD1⟩ := hB
  rw [ht] at hP1
  obtain ⟨hP, hD⟩ := va_join (wr := [(t0, .inr (5, [.ref d0, .int w, .int h])), (d0, .inl (cI, 4096, .inl g)), (u0, .inr (5, [.ref e0, .int w2, .int h2])), (e0, .inl (cI, 4096, .inl gs))]) (w1 := [(h0, .inr (8, [.ref s1, .ref s2, .ref s3, .ref s4, .ref s5, .ref s6, .int ds, va_rf sp, va_rf bt])), (s1, .inl (cO, 4, .inr (.inr (.inr (.inr f)))))]) hP hD [0, 1] [2, 3, 4, 5] rfl rfl (by decide) (by decide) hk1 hFc hP1 hD1
  clear hz1 hk1 hFc hKc hDc hPc
  generalize H1 = H at hP hS ⊢
  have hP : va_P D vwCl [(t0, .inr (5, [.ref d0, .int w, .int h])), (d0, .inl (cI, 4096, .inl g)), (u0, .inr (5, [.ref e0, .int w2, .int h2])), (e0, .inl (cI, 4096, .inl gs)), (h0, .inr (8, [.ref s1, .ref s2, .ref s3, .ref s4, .ref s5, .ref s6, .int ds, va_rf sp, va_rf bt])), (s1, .inl (cO, 4, .inr (.inr (.inr (.inr f)))))] H := hP
  have hD : va_D A [(t0, .inr (5, [.ref d0, .int w, .int h])), (d0, .inl (cI, 4096, .inl g)), (u0, .inr (5, [.ref e0, .int w2, .int h2])), (e0, .inl (cI, 4096, .inl gs)), (h0, .inr (8, [.ref s1, .ref s2, .ref s3, .ref s4, .ref s5, .ref s6, .int ds, va_rf sp, va_rf bt])), (s1, .inl (cO, 4, .inr (.inr (.inr (.inr f)))))] := hD
  subst hr_1
  refine my_topv (v := .ref u0) rfl ?_
  refine lv_astore_n (lv' := [(3, .ref u0), (0, .ref h0), (1, .int k), (2, .int kq)]) hx hb dX8_differ_5 rfl hl (by decide) rfl (fun ls hl => ?_)
  refine lv_aload_n hx hb dX8_differ_6 rfl (lv_at hl 1 rfl) ?_
  refine lv_iload_n hx hb dX8_differ_7 rfl (lv_at hl 3 rfl) ?_
  have hPc := hP.sub (ws' := [(h0, .inr (8, [.ref s1, .ref s2, .ref s3, .ref s4, .ref s5, .ref s6, .int ds, va_rf sp, va_rf bt])), (s1, .inl (cO, 4, .inr (.inr (.inr (.inr f)))))]) [4, 5] rfl
  have hDc := hD.sub (ws' := [(h0, .inr (8, [.ref s1, .ref s2, .ref s3, .ref s4, .ref s5, .ref s6, .int ds, va_rf sp, va_rf bt])), (s1, .inl (cO, 4, .inr (.inr (.inr (.inr f)))))]) [4, 5] (by decide) rfl
  have hKc := hK.sub (tys' := [(cO, .object "DotBench$Sheet")]) [0] rfl
  have hFc := va_free (wc := [(h0, .inr (8, [.ref s1, .ref s2, .ref s3, .ref s4, .ref s5, .ref s6, .int ds, va_rf sp, va_rf bt])), (s1, .inl (cO, 4, .inr (.inr (.inr (.inr f)))))]) hD hS hA [4, 5] rfl
  refine va_callq (va_runV (As := [.int kq]) (rest := []) ⟨hx, hb, hml, hown, hts⟩ (k_X8_sheetAt_y l D H.size h0 s1 s2 s3 s4 s5 s6 ds sp bt f kq t0 cO (by first | assumption | omega | decide) (by first | assumption | omega | decide)) (cwV 1 hts (gV bw_267 bw_346 bw_347 bw_223 bw_345) rfl rfl rfl (by decide +kernel) ⟨(by rw [hR]; exact Nat.le_of_ble_eq_true rfl), (by rw [hR]; exact Nat.le_of_ble_eq_true rfl)⟩) ⟨cP_blind, va_recv hKc hPc (ci := 8) (q0 := 0) rfl rfl, cP_at hPc hKc hDc hN⟩ rfl rfl hl.1 rfl (lv_room (Nat.le_of_ble_eq_true rfl)) dX8_differ_8 ⟨(by rw [hR]; exact Nat.le_of_ble_eq_true rfl), (by rw [hR]; exact Nat.le_of_ble_eq_true rfl)⟩) hS (fun q _ h => hFc q h) hFc (fun r_2 u9 t9 H1 locs ht hvm hr_2 hB hz1 hk1 hS => ?_)
  try dsimp only at hr_2
  obtain ⟨hP1, hK1, hD1⟩ := hB
  rw [ht] at hP1
  obtain ⟨hP, hD⟩ := va_join (wr := [(t0, .inr (5, [.ref d0, .int w, .int h])), (d0, .inl (cI, 4096, .inl g)), (u0, .inr (5, [.ref e0, .int w2, .int h2])), (e0, .inl (cI, 4096, .inl gs))]) (w1 := [(h0, .inr (8, [.ref s1, .ref s2, .ref s3, .ref s4, .ref s5, .ref s6, .int ds, va_rf sp, va_rf bt])), (s1, .inl (cO, 4, .inr (.inr (.inr (.inr f)))))]) hP hD [4, 5] [0, 1, 2, 3] rfl rfl (by decide) (by decide) hk1 hFc hP1 hD1
  clear hz1 hk1 hFc hKc hDc hPc
  generalize H1 = H at hP hS ⊢
  have hP : va_P D vwCl [(t0, .inr (5, [.ref d0, .int w, .int h])), (d0, .inl (cI, 4096, .inl g)), (u0, .inr (5, [.ref e0, .int w2, .int h2])), (e0, .inl (cI, 4096, .inl gs)), (h0, .inr (8, [.ref s1, .ref s2, .ref s3, .ref s4, .ref s5, .ref s6, .int ds, va_rf sp, va_rf bt])), (s1, .inl (cO, 4, .inr (.inr (.inr (.inr f)))))] H := hP
  have hD : va_D A [(t0, .inr (5, [.ref d0, .int w, .int h])), (d0, .inl (cI, 4096, .inl g)), (u0, .inr (5, [.ref e0, .int w2, .int h2])), (e0, .inl (cI, 4096, .inl gs)), (h0, .inr (8, [.ref s1, .ref s2, .ref s3, .ref s4, .ref s5, .ref s6, .int ds, va_rf sp, va_rf bt])), (s1, .inl (cO, 4, .inr (.inr (.inr (.inr f)))))] := hD
  subst hr_2
  refine my_topv (v := .ref t0) rfl ?_
  refine lv_astore (lv' := [(4, .ref t0), (3, .ref u0), (0, .ref h0), (1, .int k), (2, .int kq)]) hx hb dX8_differ_11 hl (by decide) rfl (fun ls hl => ?_)
  refine lv_aload_n hx hb dX8_differ_13 rfl (lv_at hl 1 rfl) ?_
  refine lv_ifnull hx hb dX8_differ_14 ?_
  refine lv_aload hx hb dX8_differ_17 (lv_at hl 0 rfl) ?_
  refine lv_ifnull hx hb dX8_differ_19 ?_
  refine lv_aload_n hx hb dX8_differ_22 rfl (lv_at hl 1 rfl) ?_
  refine va_getN (host := RX8) (D := D) (ci := 5) (v := .int w2) (C := RX5) (T := TX5) (N := 3) hx hb hts hi_X5 hown hK hP 2 rfl rfl 1 (by decide) ((hN.1 (RX8, 148, "DotBench$Sheet", "width", "I", RX8) (by decide +kernel)).use rfl) (fun _ h9 => h9) rfl dX8_differ_23 ?_
  refine lv_aload hx hb dX8_differ_26 (lv_at hl 0 rfl) ?_
  refine va_getN (host := RX8) (D := D) (ci := 5) (v := .int w) (C := RX5) (T := TX5) (N := 3) hx hb hts hi_X5 hown hK hP 0 rfl rfl 1 (by decide) ((hN.1 (RX8, 148, "DotBench$Sheet", "width", "I", RX8) (by decide +kernel)).use rfl) (fun _ h9 => h9) rfl dX8_differ_28 ?_
  refine lv_icmp_ne (tgt := 46) hx hb dX8_differ_31 (by decide) (fun c_3 => ?_) (fun c_3 => ?_)
  · skip
    have f_4 : ¬ (w2.toInt = w.toInt) := fn_eq rfl rfl c_3
    refine lv_iconst (v := (-1)) hx hb dX8_differ_46 (by decide) ?_
    have hP9 := hP.sub (ws' := [(h0, .inr (8, [.ref s1, .ref s2, .ref s3, .ref s4, .ref s5, .ref s6, .int ds, va_rf sp, va_rf bt])), (s1, .inl (cO, 4, .inr (.inr (.inr (.inr f))))), (t0, .inr (5, [.ref d0, .int w, .int h])), (d0, .inl (cI, 4096, .inl g)), (u0, .inr (5, [.ref e0, .int w2, .int h2])), (e0, .inl (cI, 4096, .inl gs))]) [4, 5, 0, 1, 2, 3] rfl
    have hD9 := hD.sub (ws' := [(h0, .inr (8, [.ref s1, .ref s2, .ref s3, .ref s4, .ref s5, .ref s6, .int ds, va_rf sp, va_rf bt])), (s1, .inl (cO, 4, .inr (.inr (.inr (.inr f))))), (t0, .inr (5, [.ref d0, .int w, .int h])), (d0, .inl (cI, 4096, .inl g)), (u0, .inr (5, [.ref e0, .int w2, .int h2])), (e0, .inl (cI, 4096, .inl gs))]) [4, 5, 0, 1, 2, 3] (by decide) rfl
    have hK9 := hK.sub (tys' := [(cO, .object "DotBench$Sheet"), (cI, .int)]) [0, 1] rfl
    refine hQ _ _ _ _ _ ?_
    exact W.iret (v := (-1)) hx hb hr (fun t ht hW => ⟨⟨(-1), (), rfl, (if_neg (by omega)).symm, ⟨by rw [ht]; exact hP9, va_K.moved hW.alike hK9, hD9⟩⟩, hS.F ht⟩) hS.2.2 dX8_differ_47
  · skip
    have f_4 : w2.toInt = w.toInt := f_eq rfl rfl c_3
    refine lv_aload_n hx hb dX8_differ_34 rfl (lv_at hl 1 rfl) ?_
    refine va_getN (host := RX8) (D := D) (ci := 5) (v := .int h2) (C := RX5) (T := TX5) (N := 3) hx hb hts hi_X5 hown hK hP 2 rfl rfl 2 (by decide) ((hN.1 (RX8, 145, "DotBench$Sheet", "height", "I", RX8) (by decide +kernel)).use rfl) (fun _ h9 => h9) rfl dX8_differ_35 ?_
    refine lv_aload hx hb dX8_differ_38 (lv_at hl 0 rfl) ?_
    refine va_getN (host := RX8) (D := D) (ci := 5) (v := .int h) (C := RX5) (T := TX5) (N := 3) hx hb hts hi_X5 hown hK hP 0 rfl rfl 2 (by decide) ((hN.1 (RX8, 145, "DotBench$Sheet", "height", "I", RX8) (by decide +kernel)).use rfl) (fun _ h9 => h9) rfl dX8_differ_40 ?_
    refine lv_icmp_eq (tgt := 48) hx hb dX8_differ_43 (by decide) (fun c_5 => ?_) (fun c_5 => ?_)
    · skip
      have f_6 : h2.toInt = h.toInt := f_eq rfl rfl c_5
      refine lv_iconst (v := 0) hx hb dX8_differ_48 (by decide) ?_
      refine lv_istore (lv' := [(5, .int 0), (4, .ref t0), (3, .ref u0), (0, .ref h0), (1, .int k), (2, .int kq)]) hx hb dX8_differ_49 hl (by decide) rfl (fun ls hl => ?_)
      refine lv_iconst (v := 0) hx hb dX8_differ_51 (by decide) ?_
      refine lv_istore (lv' := [(6, .int 0), (5, .int 0), (4, .ref t0), (3, .ref u0), (0, .ref h0), (1, .int k), (2, .int kq)]) hx hb dX8_differ_52 hl (by decide) rfl (fun ls hl => ?_)
      have loop_7 : ∀ (n : Nat) (j : Nat) (x6 : Int32) (x5 : Int32) (H : Heap) (locs : List Loc) (ls : Array Slot), (j ≤ 64) → (64 + 1 ≤ j + n) → (x6 = nI j) → (j ≤ H9) → (x5 = smL (dfF gs g) W9 0 j) → va_P D vwCl [(t0, .inr (5, [.ref d0, .int w, .int h])), (d0, .inl (cI, 4096, .inl g)), (u0, .inr (5, [.ref e0, .int w2, .int h2])), (e0, .inl (cI, 4096, .inl gs)), (h0, .inr (8, [.ref s1, .ref s2, .ref s3, .ref s4, .ref s5, .ref s6, .int ds, va_rf sp, va_rf bt])), (s1, .inl (cO, 4, .inr (.inr (.inr (.inr f)))))] H → va_D A [(t0, .inr (5, [.ref d0, .int w, .int h])), (d0, .inl (cI, 4096, .inl g)), (u0, .inr (5, [.ref e0, .int w2, .int h2])), (e0, .inl (cI, 4096, .inl gs)), (h0, .inr (8, [.ref s1, .ref s2, .ref s3, .ref s4, .ref s5, .ref s6, .int ds, va_rf sp, va_rf bt])), (s1, .inl (cO, 4, .inr (.inr (.inr (.inr f)))))] → va_S A s.heap H locs → lv_has ls 8 [(6, .int x6), (5, .int x5), (4, .ref t0), (3, .ref u0), (0, .ref h0), (1, .int k), (2, .int kq)] → W p l e R s m ([.ref h0, .int k, .int kq] : List Value).toArray below meth c H locs 0 0 Q (F0 m 54 ls []) := by
        intro n
        induction n with
        | zero =>
          intro j x6 x5 H locs ls hi_j hm_j ex_j hjo eto hP hD hS hl
          exact absurd (show False by omega) not_false
        | succ n ih_8 =>
          intro j x6 x5 H locs ls hi_j hm_j ex_j hjo eto hP hD hS hl
          have hx_j : x6.toInt = (j : Int) := by rw [ex_j]; exact nI_toInt (by omega)
          have hc_j : x6.toNatClampNeg = j := by rw [ex_j]; exact nI_clamp (by omega)
          refine lv_iload hx hb dX8_differ_54 (lv_at hl 0 rfl) ?_
          refine lv_aload_n hx hb dX8_differ_56 rfl (lv_at hl 3 rfl) ?_
          refine va_getN (host := RX8) (D := D) (ci := 5) (v := .int h2) (C := RX5) (T := TX5) (N := 3) hx hb hts hi_X5 hown hK hP 2 rfl rfl 2 (by decide) ((hN.1 (RX8, 145, "DotBench$Sheet", "height", "I", RX8) (by decide +kernel)).use rfl) (fun _ h9 => h9) rfl dX8_differ_57 ?_
          refine lv_icmp_ge (tgt := 110) hx hb dX8_differ_60 (by decide) (fun c_9 => ?_) (fun c_9 => ?_)
          · skip
            have f_10 : h2.toInt ≤ (j : Int) := f_le rfl hx_j c_9
            refine lv_iload hx hb dX8_differ_110 (lv_at hl 1 rfl) ?_
            have hP9 := hP.sub (ws' := [(h0, .inr (8, [.ref s1, .ref s2, .ref s3, .ref s4, .ref s5, .ref s6, .int ds, va_rf sp, va_rf bt])), (s1, .inl (cO, 4, .inr (.inr (.inr (.inr f))))), (t0, .inr (5, [.ref d0, .int w, .int h])), (d0, .inl (cI, 4096, .inl g)), (u0, .inr (5, [.ref e0, .int w2, .int h2])), (e0, .inl (cI, 4096, .inl gs))]) [4, 5, 0, 1, 2, 3] rfl
            have hD9 := hD.sub (ws' := [(h0, .inr (8, [.ref s1, .ref s2, .ref s3, .ref s4, .ref s5, .ref s6, .int ds, va_rf sp, va_rf bt])), (s1, .inl (cO, 4, .inr (.inr (.inr (.inr f))))), (t0, .inr (5, [.ref d0, .int w, .int h])), (d0, .inl (cI, 4096, .inl g)), (u0, .inr (5, [.ref e0, .int w2, .int h2])), (e0, .inl (cI, 4096, .inl gs))]) [4, 5, 0, 1, 2, 3] (by decide) rfl
            have hK9 := hK.sub (tys' := [(cO, .object "DotBench$Sheet"), (cI, .int)]) [0, 1] rfl
            refine hQ _ _ _ _ _ ?_
            exact W.iret (v := x5) hx hb hr (fun t ht hW => ⟨⟨x5, (), rfl, (by rw [if_pos (by omega), eW9n, eH9n, ← show j = H9 by omega]; exact eto), ⟨by rw [ht]; exact hP9, va_K.moved hW.alike hK9, hD9⟩⟩, hS.F ht⟩) hS.2.2 dX8_differ_112
          · skip
            have f_10 : ¬ (h2.toInt ≤ (j : Int)) := fn_le rfl hx_j c_9
            refine lv_iconst (v := 0) hx hb dX8_differ_63 (by decide) ?_
            refine lv_istore (lv' := [(7, .int 0), (6, .int x6), (5, .int x5), (4, .ref t0), (3, .ref u0), (0, .ref h0), (1, .int k), (2, .int kq)]) hx hb dX8_differ_64 hl (by decide) rfl (fun ls hl => ?_)
            have loop_11 : ∀ (n : Nat) (i : Nat) (x7 : Int32) (z5 : Int32) (H : Heap) (locs : List Loc) (ls : Array Slot), (i ≤ 64) → (64 + 1 ≤ i + n) → (x7 = nI i) → (i ≤ W9) → (z5 = smR (dfF gs g) j (smL (dfF gs g) W9 0 j) i) → va_P D vwCl [(t0, .inr (5, [.ref d0, .int w, .int h])), (d0, .inl (cI, 4096, .inl g)), (u0, .inr (5, [.ref e0, .int w2, .int h2])), (e0, .inl (cI, 4096, .inl gs)), (h0, .inr (8, [.ref s1, .ref s2, .ref s3, .ref s4, .ref s5, .ref s6, .int ds, va_rf sp, va_rf bt])), (s1, .inl (cO, 4, .inr (.inr (.inr (.inr f)))))] H → va_D A [(t0, .inr (5, [.ref d0, .int w, .int h])), (d0, .inl (cI, 4096, .inl g)), (u0, .inr (5, [.ref e0, .int w2, .int h2])), (e0, .inl (cI, 4096, .inl gs)), (h0, .inr (8, [.ref s1, .ref s2, .ref s3, .ref s4, .ref s5, .ref s6, .int ds, va_rf sp, va_rf bt])), (s1, .inl (cO, 4, .inr (.inr (.inr (.inr f)))))] → va_S A s.heap H locs → lv_has ls 8 [(7, .int x7), (6, .int x6), (5, .int z5), (4, .ref t0), (3, .ref u0), (0, .ref h0), (1, .int k), (2, .int kq)] → W p l e R s m ([.ref h0, .int k, .int kq] : List Value).toArray below meth c H locs 0 0 Q (F0 m 66 ls []) := by
              intro n
              induction n with
              | zero =>
                intro i x7 z5 H locs ls hi_i hm_i ex_i hio eti hP hD hS hl
                exact absurd (show False by omega) not_false
              | succ n ih_12 =>
                intro i x7 z5 H locs ls hi_i hm_i ex_i hio eti hP hD hS hl
                have hx_i : x7.toInt = (i : Int) := by rw [ex_i]; exact nI_toInt (by omega)
                have hc_i : x7.toNatClampNeg = i := by rw [ex_i]; exact nI_clamp (by omega)
                refine lv_iload hx hb dX8_differ_66 (lv_at hl 0 rfl) ?_
                refine lv_aload_n hx hb dX8_differ_68 rfl (lv_at hl 4 rfl) ?_
                refine va_getN (host := RX8) (D := D) (ci := 5) (v := .int w2) (C := RX5) (T := TX5) (N := 3) hx hb hts hi_X5 hown hK hP 2 rfl rfl 1 (by decide) ((hN.1 (RX8, 148, "DotBench$Sheet", "width", "I", RX8) (by decide +kernel)).use rfl) (fun _ h9 => h9) rfl dX8_differ_69 ?_
                refine lv_icmp_ge (tgt := 104) hx hb dX8_differ_72 (by decide) (fun c_13 => ?_) (fun c_13 => ?_)
                · skip
                  have f_14 : w2.toInt ≤ (i : Int) := f_le rfl hx_i c_13
                  obtain ⟨y_15, ey_15⟩ : ∃ y : Int32, y = x6 + 1 := ⟨_, rfl⟩
                  refine lv_iinc (v := y_15) (lv' := [(6, .int y_15), (7, .int x7), (5, .int z5), (4, .ref t0), (3, .ref u0), (0, .ref h0), (1, .int k), (2, .int kq)]) hx hb dX8_differ_104 hl (k := 1) rfl (by rw [ey_15]; rfl) (by decide) rfl (fun ls hl => ?_)
                  refine lv_goto (tgt := 54) hx hb dX8_differ_107 (by decide) ?_
                  exact ih_8 (j + 1) y_15 z5 _ _ _ (by omega) (by omega) (by rw [ey_15, ex_j]; exact nI_1 j) (by omega) (sm_nx eti (by omega)) (hP.sub (ws' := [(t0, .inr (5, [.ref d0, .int w, .int h])), (d0, .inl (cI, 4096, .inl g)), (u0, .inr (5, [.ref e0, .int w2, .int h2])), (e0, .inl (cI, 4096, .inl gs)), (h0, .inr (8, [.ref s1, .ref s2, .ref s3, .ref s4, .ref s5, .ref s6, .int ds, va_rf sp, va_rf bt])), (s1, .inl (cO, 4, .inr (.inr (.inr (.inr f)))))]) [0, 1, 2, 3, 4, 5] rfl) (hD.sub (ws' := [(t0, .inr (5, [.ref d0, .int w, .int h])), (d0, .inl (cI, 4096, .inl g)), (u0, .inr (5, [.ref e0, .int w2, .int h2])), (e0, .inl (cI, 4096, .inl gs)), (h0, .inr (8, [.ref s1, .ref s2, .ref s3, .ref s4, .ref s5, .ref s6, .int ds, va_rf sp, va_rf bt])), (s1, .inl (cO, 4, .inr (.inr (.inr (.inr f)))))]) [0, 1, 2, 3, 4, 5] (by decide) rfl) hS (lv_sub hl [0, 2, 3, 4, 5, 6, 7] rfl)
                · skip
                  have f_14 : ¬ (w2.toInt ≤ (i : Int)) := fn_le rfl hx_i c_13
                  refine lv_aload_n hx hb dX8_differ_75 rfl (lv_at hl 4 rfl) ?_
                  refine lv_iload hx hb dX8_differ_76 (lv_at hl 0 rfl) ?_
                  refine lv_iload hx hb dX8_differ_78 (lv_at hl 1 rfl) ?_
                  have hPc := hP.sub (ws' := [(u0, .inr (5, [.ref e0, .int w2, .int h2])), (e0, .inl (cI, 4096, .inl gs))]) [2, 3] rfl
                  have hDc := hD.sub (ws' := [(u0, .inr (5, [.ref e0, .int w2, .int h2])), (e0, .inl (cI, 4096, .inl gs))]) [2, 3] (by decide) rfl
                  have hKc := hK.sub (tys' := [(cI, .int)]) [1] rfl
                  have hFc := va_free (wc := [(u0, .inr (5, [.ref e0, .int w2, .int h2])), (e0, .inl (cI, 4096, .inl gs))]) hD hS hA [2, 3] rfl
                  refine va_calli (va_runV (As := [.int x7, .int x6]) (rest := []) ⟨hx, hb, hml, hown, hts⟩ (k_X5_at l D H.size u0 e0 w2 h2 gs x7 x6 cI (by first | assumption | omega | decide) (by first | assumption | omega | decide)) (cwV 2 hts (gV bw_325 bw_153 bw_154 bw_130 bw_152) rfl rfl rfl (by decide +kernel) ⟨(by rw [hR]; exact Nat.le_of_ble_eq_true rfl), (by rw [hR]; exact Nat.le_of_ble_eq_true rfl)⟩) ⟨cP_blind, va_recv hKc hPc (ci := 5) (q0 := 0) rfl rfl, cP_at hPc hKc hDc hN⟩ rfl rfl hl.1 rfl (lv_room (Nat.le_of_ble_eq_true rfl)) dX8_differ_80 ⟨(by rw [hR]; exact Nat.le_of_ble_eq_true rfl), (by rw [hR]; exact Nat.le_of_ble_eq_true rfl)⟩) hS (fun q _ h => hFc q h) hFc (fun r_16 u9 t9 H1 locs ht hvm hr_16 hB hz1 hk1 hS => ?_)
                  try dsimp only at hr_16
                  obtain ⟨hP1, hK1, hD1⟩ := hB
                  rw [ht] at hP1
                  obtain ⟨hP, hD⟩ := va_join (wr := [(t0, .inr (5, [.ref d0, .int w, .int h])), (d0, .inl (cI, 4096, .inl g)), (h0, .inr (8, [.ref s1, .ref s2, .ref s3, .ref s4, .ref s5, .ref s6, .int ds, va_rf sp, va_rf bt])), (s1, .inl (cO, 4, .inr (.inr (.inr (.inr f)))))]) (w1 := [(u0, .inr (5, [.ref e0, .int w2, .int h2])), (e0, .inl (cI, 4096, .inl gs))]) hP hD [2, 3] [0, 1, 4, 5] rfl rfl (by decide) (by decide) hk1 hFc hP1 hD1
                  clear hz1 hk1 hFc hKc hDc hPc
                  generalize H1 = H at hP hS ⊢
                  have hP : va_P D vwCl [(t0, .inr (5, [.ref d0, .int w, .int h])), (d0, .inl (cI, 4096, .inl g)), (h0, .inr (8, [.ref s1, .ref s2, .ref s3, .ref s4, .ref s5, .ref s6, .int ds, va_rf sp, va_rf bt])), (s1, .inl (cO, 4, .inr (.inr (.inr (.inr f))))), (u0, .inr (5, [.ref e0, .int w2, .int h2])), (e0, .inl (cI, 4096, .inl gs))] H := hP
                  have hD : va_D A [(t0, .inr (5, [.ref d0, .int w, .int h])), (d0, .inl (cI, 4096, .inl g)), (h0, .inr (8, [.ref s1, .ref s2, .ref s3, .ref s4, .ref s5, .ref s6, .int ds, va_rf sp, va_rf bt])), (s1, .inl (cO, 4, .inr (.inr (.inr (.inr f))))), (u0, .inr (5, [.ref e0, .int w2, .int h2])), (e0, .inl (cI, 4096, .inl gs))] := hD
                  have hvr_16 : r_16 = gs (ixP (nI i) (nI j)) := by rw [hr_16, if_pos (by omega), ex_i, ex_j]
                  refine lv_aload hx hb dX8_differ_83 (lv_at hl 3 rfl) ?_
                  refine lv_iload hx hb dX8_differ_85 (lv_at hl 0 rfl) ?_
                  refine lv_iload hx hb dX8_differ_87 (lv_at hl 1 rfl) ?_
                  have hPc := hP.sub (ws' := [(t0, .inr (5, [.ref d0, .int w, .int h])), (d0, .inl (cI, 4096, .inl g))]) [0, 1] rfl
                  have hDc := hD.sub (ws' := [(t0, .inr (5, [.ref d0, .int w, .int h])), (d0, .inl (cI, 4096, .inl g))]) [0, 1] (by decide) rfl
                  have hKc := hK.sub (tys' := [(cI, .int)]) [1] rfl
                  have hFc := va_free (wc := [(t0, .inr (5, [.ref d0, .int w, .int h])), (d0, .inl (cI, 4096, .inl g))]) hD hS hA [0, 1] rfl
                  refine va_calli (va_runV (As := [.int x7, .int x6]) (rest := [.int r_16]) ⟨hx, hb, hml, hown, hts⟩ (k_X5_at l D H.size t0 d0 w h g x7 x6 cI (by first | assumption | omega | decide) (by first | assumption | omega | decide)) (cwV 2 hts (gV bw_325 bw_153 bw_154 bw_130 bw_152) rfl rfl rfl (by decide +kernel) ⟨(by rw [hR]; exact Nat.le_of_ble_eq_true rfl), (by rw [hR]; exact Nat.le_of_ble_eq_true rfl)⟩) ⟨cP_blind, va_recv hKc hPc (ci := 5) (q0 := 0) rfl rfl, cP_at hPc hKc hDc hN⟩ rfl rfl hl.1 rfl (lv_room (Nat.le_of_ble_eq_true rfl)) dX8_differ_89 ⟨(by rw [hR]; exact Nat.le_of_ble_eq_true rfl), (by rw [hR]; exact Nat.le_of_ble_eq_true rfl)⟩) hS (fun q _ h => hFc q h) hFc (fun r_17 u9 t9 H1 locs ht hvm hr_17 hB hz1 hk1 hS => ?_)
                  try dsimp only at hr_17
                  obtain ⟨hP1, hK1, hD1⟩ := hB
                  rw [ht] at hP1
                  obtain ⟨hP, hD⟩ := va_join (wr := [(h0, .inr (8, [.ref s1, .ref s2, .ref s3, .ref s4, .ref s5, .ref s6, .int ds, va_rf sp, va_rf bt])), (s1, .inl (cO, 4, .inr (.inr (.inr (.inr f))))), (u0, .inr (5, [.ref e0, .int w2, .int h2])), (e0, .inl (cI, 4096, .inl gs))]) (w1 := [(t0, .inr (5, [.ref d0, .int w, .int h])), (d0, .inl (cI, 4096, .inl g))]) hP hD [0, 1] [2, 3, 4, 5] rfl rfl (by decide) (by decide) hk1 hFc hP1 hD1
                  clear hz1 hk1 hFc hKc hDc hPc
                  generalize H1 = H at hP hS ⊢
                  have hP : va_P D vwCl [(h0, .inr (8, [.ref s1, .ref s2, .ref s3, .ref s4, .ref s5, .ref s6, .int ds, va_rf sp, va_rf bt])), (s1, .inl (cO, 4, .inr (.inr (.inr (.inr f))))), (u0, .inr (5, [.ref e0, .int w2, .int h2])), (e0, .inl (cI, 4096, .inl gs)), (t0, .inr (5, [.ref d0, .int w, .int h])), (d0, .inl (cI, 4096, .inl g))] H := hP
                  have hD : va_D A [(h0, .inr (8, [.ref s1, .ref s2, .ref s3, .ref s4, .ref s5, .ref s6, .int ds, va_rf sp, va_rf bt])), (s1, .inl (cO, 4, .inr (.inr (.inr (.inr f))))), (u0, .inr (5, [.ref e0, .int w2, .int h2])), (e0, .inl (cI, 4096, .inl gs)), (t0, .inr (5, [.ref d0, .int w, .int h])), (d0, .inl (cI, 4096, .inl g))] := hD
                  have hvr_17 : r_17 = g (ixP (nI i) (nI j)) := by rw [hr_17, if_pos (by omega), ex_i, ex_j]
                  refine lv_icmp_eq (tgt := 98) hx hb dX8_differ_92 (by decide) (fun c_18 => ?_) (fun c_18 => ?_)
                  · skip
                    have f_19 : r_16.toInt = r_17.toInt := f_eq rfl rfl c_18
                    obtain ⟨y_20, ey_20⟩ : ∃ y : Int32, y = x7 + 1 := ⟨_, rfl⟩
                    refine lv_iinc (v := y_20) (lv' := [(7, .int y_20), (6, .int x6), (5, .int z5), (4, .ref t0), (3, .ref u0), (0, .ref h0), (1, .int k), (2, .int kq)]) hx hb dX8_differ_98 hl (k := 0) rfl (by rw [ey_20]; rfl) (by decide) rfl (fun ls hl => ?_)
                    refine lv_goto (tgt := 66) hx hb dX8_differ_101 (by decide) ?_
                    exact ih_12 (i + 1) y_20 z5 _ _ _ (by omega) (by omega) (by rw [ey_20, ex_i]; exact nI_1 i) (by omega) (eti.trans (df_y (by rw [← hvr_16, ← hvr_17]; exact c_18)).symm) (hP.sub (ws' := [(t0, .inr (5, [.ref d0, .int w, .int h])), (d0, .inl (cI, 4096, .inl g)), (u0, .inr (5, [.ref e0, .int w2, .int h2])), (e0, .inl (cI, 4096, .inl gs)), (h0, .inr (8, [.ref s1, .ref s2, .ref s3, .ref s4, .ref s5, .ref s6, .int ds, va_rf sp, va_rf bt])), (s1, .inl (cO, 4, .inr (.inr (.inr (.inr f)))))]) [4, 5, 2, 3, 0, 1] rfl) (hD.sub (ws' := [(t0, .inr (5, [.ref d0, .int w, .int h])), (d0, .inl (cI, 4096, .inl g)), (u0, .inr (5, [.ref e0, .int w2, .int h2])), (e0, .inl (cI, 4096, .inl gs)), (h0, .inr (8, [.ref s1, .ref s2, .ref s3, .ref s4, .ref s5, .ref s6, .int ds, va_rf sp, va_rf bt])), (s1, .inl (cO, 4, .inr (.inr (.inr (.inr f)))))]) [4, 5, 2, 3, 0, 1] (by decide) rfl) hS (lv_sub hl [0, 1, 2, 3, 4, 5, 6, 7] rfl)
                  · skip
                    have f_19 : ¬ (r_16.toInt = r_17.toInt) := fn_eq rfl rfl c_18
                    obtain ⟨y_21, ey_21⟩ : ∃ y : Int32, y = z5 + 1 := ⟨_, rfl⟩
                    refine lv_iinc (v := y_21) (lv' := [(5, .int y_21), (7, .int x7), (6, .int x6), (4, .ref t0), (3, .ref u0), (0, .ref h0), (1, .int k), (2, .int kq)]) hx hb dX8_differ_95 hl (k := 2) rfl (by rw [ey_21]; rfl) (by decide) rfl (fun ls hl => ?_)
                    obtain ⟨y_22, ey_22⟩ : ∃ y : Int32, y = x7 + 1 := ⟨_, rfl⟩
                    refine lv_iinc (v := y_22) (lv' := [(7, .int y_22), (5, .int y_21), (6, .int x6), (4, .ref t0), (3, .ref u0), (0, .ref h0), (1, .int k), (2, .int kq)]) hx hb dX8_differ_98 hl (k := 1) rfl (by rw [ey_22]; rfl) (by decide) rfl (fun ls hl => ?_)
                    refine lv_goto (tgt := 66) hx hb dX8_differ_101 (by decide) ?_
                    exact ih_12 (i + 1) y_22 y_21 _ _ _ (by omega) (by omega) (by rw [ey_22, ex_i]; exact nI_1 i) (by omega) (by rw [ey_21, eti]; exact (df_n (by rw [← hvr_16, ← hvr_17]; exact c_18)).symm) (hP.sub (ws' := [(t0, .inr (5, [.ref d0, .int w, .int h])), (d0, .inl (cI, 4096, .inl g)), (u0, .inr (5, [.ref e0, .int w2, .int h2])), (e0, .inl (cI, 4096, .inl gs)), (h0, .inr (8, [.ref s1, .ref s2, .ref s3, .ref s4, .ref s5, .ref s6, .int ds, va_rf sp, va_rf bt])), (s1, .inl (cO, 4, .inr (.inr (.inr (.inr f)))))]) [4, 5, 2, 3, 0, 1] rfl) (hD.sub (ws' := [(t0, .inr (5, [.ref d0, .int w, .int h])), (d0, .inl (cI, 4096, .inl g)), (u0, .inr (5, [.ref e0, .int w2, .int h2])), (e0, .inl (cI, 4096, .inl gs)), (h0, .inr (8, [.ref s1, .ref s2, .ref s3, .ref s4, .ref s5, .ref s6, .int ds, va_rf sp, va_rf bt])), (s1, .inl (cO, 4, .inr (.inr (.inr (.inr f)))))]) [4, 5, 2, 3, 0, 1] (by decide) rfl) hS (lv_sub hl [0, 2, 1, 3, 4, 5, 6, 7] rfl)
            exact loop_11 (64 + 1) 0 0 x5 _ _ _ (by omega) (by omega) nI_0.symm (by omega) eto hP hD hS (lv_sub hl [0, 1, 2, 3, 4, 5, 6, 7] rfl)
      exact loop_7 (64 + 1) 0 0 0 _ _ _ (by omega) (by omega) nI_0.symm (by omega) rfl hP hD hS (lv_sub hl [0, 1, 2, 3, 4, 5, 6] rfl)
    · skip
      have f_6 : ¬ (h2.toInt = h.toInt) := fn_eq rfl rfl c_5
      refine lv_iconst (v := (-1)) hx hb dX8_differ_46 (by decide) ?_
      have hP9 := hP.sub (ws' := [(h0, .inr (8, [.ref s1, .ref s2, .ref s3, .ref s4, .ref s5, .ref s6, .int ds, va_rf sp, va_rf bt])), (s1, .inl (cO, 4, .inr (.inr (.inr (.inr f))))), (t0, .inr (5, [.ref d0, .int w, .int h])), (d0, .inl (cI, 4096, .inl g)), (u0, .inr (5, [.ref e0, .int w2, .int h2])), (e0, .inl (cI, 4096, .inl gs))]) [4, 5, 0, 1, 2, 3] rfl
      have hD9 := hD.sub (ws' := [(h0, .inr (8, [.ref s1, .ref s2, .ref s3, .ref s4, .ref s5, .ref s6, .int ds, va_rf sp, va_rf bt])), (s1, .inl (cO, 4, .inr (.inr (.inr (.inr f))))), (t0, .inr (5, [.ref d0, .int w, .int h])), (d0, .inl (cI, 4096, .inl g)), (u0, .inr (5, [.ref e0, .int w2, .int h2])), (e0, .inl (cI, 4096, .inl gs))]) [4, 5, 0, 1, 2, 3] (by decide) rfl
      have hK9 := hK.sub (tys' := [(cO, .object "DotBench$Sheet"), (cI, .int)]) [0, 1] rfl
      refine hQ _ _ _ _ _ ?_
      exact W.iret (v := (-1)) hx hb hr (fun t ht hW => ⟨⟨(-1), (), rfl, (if_neg (by omega)).symm, ⟨by rw [ht]; exact hP9, va_K.moved hW.alike hK9, hD9⟩⟩, hS.F ht⟩) hS.2.2 dX8_differ_47

set_option maxHeartbeats 4000000 in
set_option maxRecDepth 100000 in
theorem k_X8_differ_se (l : Launch) (D : va_G) (sz : Nat) (h0 s1 s2 s3 s4 s5 s6 : Nat) (ds : Int32) (sp bt : Option Nat) (f : Nat → Option Nat) (t0 d0 : Nat) (w h : Int32) (g : Nat → Int32) (k kq : Int32) (cO : ClassId) (cI : ClassId) (hak : 0 ≤ k.toInt ∧ k.toInt ≤ 3) (haf : f k.toNatClampNeg = some t0) (hb0k : 0 ≤ kq.toInt ∧ kq.toInt ≤ 3) (hb0f : f kq.toNatClampNeg = some t0) (hw : 0 ≤ w.toInt ∧ w.toInt ≤ 64) (hh : 0 ≤ h.toInt ∧ h.toInt ≤ 64) : Met l yX8_differ (wB yX8_differ cX8_differ 8 (some .int)) ({ frames := 2, cells := 0, slots := 0, locals := 44 }) (cP D [(h0, .inr (8, [.ref s1, .ref s2, .ref s3, .ref s4, .ref s5, .ref s6, .int ds, va_rf sp, va_rf bt])), (s1, .inl (cO, 4, .inr (.inr (.inr (.inr f))))), (t0, .inr (5, [.ref d0, .int w, .int h])), (d0, .inl (cI, 4096, .inl g))] [(cO, .object "DotBench$Sheet"), (cI, .int)] sz [.ref h0, .int k, .int kq]) (va_Qi (fun (r : Int32) (_ : Unit) => r = smL (dfF g g) w.toNatClampNeg 0 h.toNatClampNeg) (fun (_ : Unit) (t : State) => cB D (va_A [(h0, .inr (8, [.ref s1, .ref s2, .ref s3, .ref s4, .ref s5, .ref s6, .int ds, va_rf sp, va_rf bt])), (s1, .inl (cO, 4, .inr (.inr (.inr (.inr f))))), (t0, .inr (5, [.ref d0, .int w, .int h])), (d0, .inl (cI, 4096, .inl g))] sz) [(h0, .inr (8, [.ref s1, .ref s2, .ref s3, .ref s4, .ref s5, .ref s6, .int ds, va_rf sp, va_rf bt])), (s1, .inl (cO, 4, .inr (.inr (.inr (.inr f))))), (t0, .inr (5, [.ref d0, .int w, .int h])), (d0, .inl (cI, 4096, .inl g))] [(cO, .object "DotBench$Sheet"), (cI, .int)] t) (va_A [(h0, .inr (8, [.ref s1, .ref s2, .ref s3, .ref s4, .ref s5, .ref s6, .int ds, va_rf sp, va_rf bt])), (s1, .inl (cO, 4, .inr (.inr (.inr (.inr f))))), (t0, .inr (5, [.ref d0, .int w, .int h])), (d0, .inl (cI, 4096, .inl g))] sz)) 0 0 (va_A [(h0, .inr (8, [.ref s1, .ref s2, .ref s3, .ref s4, .ref s5, .ref s6, .int ds, va_rf sp, va_rf bt])), (s1, .inl (cO, 4, .inr (.inr (.inr (.inr f))))), (t0, .inr (5, [.ref d0, .int w, .int h])), (d0, .inl (cI, 4096, .inl g))] sz) := by
  refine Met.ofW (cc := cX8_differ) (maxL := 8) (ret := (some .int)) (by decide) rfl ?_
  intro p e s m args below meth c s₁ B hml hv
  obtain ⟨rfl, hsz, hP, hK, hD0, hN⟩ := hv
  have hx := B.exec
  have hb := B.bytes
  have hr := B.returns
  have hts0 := atoms_spec (ws := (wB yX8_differ cX8_differ 8 (some .int))) B.pre
  have hts : ∀ w ∈ bigW, w.before _ s = true := fun w h => hts0 w (List.mem_cons_of_mem _ h)
  have hown : s.vm.findClass RX8 = some m.cls := findClass_of_methodNamed B.named
  have hlocks := B.notSynchronized
  subst hsz
  have hD := hD0.self (sz := s.heap.size)
  generalize hAe : va_A [(h0, .inr (8, [.ref s1, .ref s2, .ref s3, .ref s4, .ref s5, .ref s6, .int ds, va_rf sp, va_rf bt])), (s1, .inl (cO, 4, .inr (.inr (.inr (.inr f))))), (t0, .inr (5, [.ref d0, .int w, .int h])), (d0, .inl (cI, 4096, .inl g))] s.heap.size = A at hD ⊢
  have hA : ∀ q : Nat, s.heap.size ≤ q → A q := fun q h => by rw [← hAe]; exact Or.inr h
  have hS : va_S A s.heap s.heap [] := va_S.rf
  have hP : va_P D vwCl [(h0, .inr (8, [.ref s1, .ref s2, .ref s3, .ref s4, .ref s5, .ref s6, .int ds, va_rf sp, va_rf bt])), (s1, .inl (cO, 4, .inr (.inr (.inr (.inr f))))), (t0, .inr (5, [.ref d0, .int w, .int h])), (d0, .inl (cI, 4096, .inl g))] s.heap := hP
  have hl := lv_entry ([.ref h0, .int k, .int kq]) (n := 8) (Nat.le_of_ble_eq_true rfl)
  rw [lg_entry_eq]
  generalize (lg_sl ([.ref h0, .int k, .int kq]) ++ List.replicate (8 - (lg_sl ([.ref h0, .int k, .int kq])).length) Slot.unset).toArray = ls at hl ⊢
  have hl : lv_has ls 8 [(0, .ref h0), (1, .int k), (2, .int kq)] := hl
  clear hts0 hD0 hAe
  refine my_abs (fun R Q hR hQ => ?_)
  obtain ⟨W9, hW9, eW9⟩ := i_of (x := w) (N := 65) (by omega) (by omega) (by decide)
  have eW9n : w.toNatClampNeg = W9 := by rw [eW9]; exact nI_clamp (by omega)
  have hW9t : w.toInt = (W9 : Int) := by rw [eW9]; exact nI_toInt (by omega)
  obtain ⟨H9, hH9, eH9⟩ := i_of (x := h) (N := 65) (by omega) (by omega) (by decide)
  have eH9n : h.toNatClampNeg = H9 := by rw [eH9]; exact nI_clamp (by omega)
  have hH9t : h.toInt = (H9 : Int) := by rw [eH9]; exact nI_toInt (by omega)
  refine lv_aload_n hx hb dX8_differ_0 rfl (lv_at hl 0 rfl) ?_
  refine lv_iload_n hx hb dX8_differ_1 rfl (lv_at hl 1 rfl) ?_
  have hPc := hP.sub (ws' := [(h0, .inr (8, [.ref s1, .ref s2, .ref s3, .ref s4, .ref s5, .ref s6, .int ds, va_rf sp, va_rf bt])), (s1, .inl (cO, 4, .inr (.inr (.inr (.inr f)))))]) [0, 1] rfl
  have hDc := hD.sub (ws' := [(h0, .inr (8, [.ref s1, .ref s2, .ref s3, .ref s4, .ref s5, .ref s6, .int ds, va_rf sp, va_rf bt])), (s1, .inl (cO, 4, .inr (.inr (.inr (.inr f)))))]) [0, 1] (by decide) rfl
  have hKc := hK.sub (tys' := [(cO, .object "DotBench$Sheet")]) [0] rfl
  have hFc := va_free (wc := [(h0, .inr (8, [.ref s1, .ref s2, .ref s3, .ref s4, .ref s5, .ref s6, .int ds, va_rf sp, va_rf bt])), (s1, .inl (cO, 4, .inr (.inr (.inr (.inr f)))))]) hD hS hA [0, 1] rfl
  refine va_callq (va_runV (As := [.int k]) (rest := []) ⟨hx, hb, hml, hown, hts⟩ (k_X8_sheetAt_y l D s.heap.size h0 s1 s2 s3 s4 s5 s6 ds sp bt f k t0 cO (by first | assumption | omega | decide) (by first | assumption | omega | decide)) (cwV 1 hts (gV bw_267 bw_346 bw_347 bw_223 bw_345) rfl rfl rfl (by decide +kernel) ⟨(by rw [hR]; exact Nat.le_of_ble_eq_true rfl), (by rw [hR]; exact Nat.le_of_ble_eq_true rfl)⟩) ⟨cP_blind, va_recv hKc hPc (ci := 8) (q0 := 0) rfl rfl, cP_at hPc hKc hDc hN⟩ rfl rfl hl.1 rfl (lv_room (Nat.le_of_ble_eq_true rfl)) dX8_differ_2 ⟨(by rw [hR]; exact Nat.le_of_ble_eq_true rfl), (by rw [hR]; exact Nat.le_of_ble_eq_true rfl)⟩) hS (fun q _ h => hFc q h) hFc (fun r_1 u9 t9 H1 locs ht hvm hr_1 hB hz1 hk1 hS => ?_)
  try dsimp only at hr_1
  obtain ⟨hP1, hK1, hD1⟩ := hB
  rw [ht] at hP1
  obtain ⟨hP, hD⟩ := va_join (wr := [(t0, .inr (5, [.ref d0, .int w, .int h])), (d0, .inl (cI, 4096, .inl g))]) (w1 := [(h0, .inr (8, [.ref s1, .ref s2, .ref s3, .ref s4, .ref s5, .ref s6, .int ds, va_rf sp, va_rf bt])), (s1, .inl (cO, 4, .inr (.inr (.inr (.inr f)))))]) hP hD [0, 1] [2, 3] rfl rfl (by decide) (by decide) hk1 hFc hP1 hD1
  clear hz1 hk1 hFc hKc hDc hPc
  generalize H1 = H at hP hS ⊢
  have hP : va_P D vwCl [(t0, .inr (5, [.ref d0, .int w, .int h])), (d0, .inl (cI, 4096, .inl g)), (h0, .inr (8, [.ref s1, .ref s2, .ref s3, .ref s4, .ref s5, .ref s6, .int ds, va_rf sp, va_rf bt])), (s1, .inl (cO, 4, .inr (.inr (.inr (.inr f)))))] H := hP
  have hD : va_D A [(t0, .inr (5, [.ref d0, .int w, .int h])), (d0, .inl (cI, 4096, .inl g)), (h0, .inr (8, [.ref s1, .ref s2, .ref s3, .ref s4, .ref s5, .ref s6, .int ds, va_rf sp, va_rf bt])), (s1, .inl (cO, 4, .inr (.inr (.inr (.inr f)))))] := hD
  subst hr_1
  refine my_topv (v := .ref t0) rfl ?_
  refine lv_astore_n (lv' := [(3, .ref t0), (0, .ref h0), (1, .int k), (2, .int kq)]) hx hb dX8_differ_5 rfl hl (by decide) rfl (fun ls hl => ?_)
  refine lv_aload_n hx hb dX8_differ_6 rfl (lv_at hl 1 rfl) ?_
  refine lv_iload_n hx hb dX8_differ_7 rfl (lv_at hl 3 rfl) ?_
  have hPc := hP.sub (ws' := [(h0, .inr (8, [.ref s1, .ref s2, .ref s3, .ref s4, .ref s5, .ref s6, .int ds, va_rf sp, va_rf bt])), (s1, .inl (cO, 4, .inr (.inr (.inr (.inr f)))))]) [2, 3] rfl
  have hDc := hD.sub (ws' := [(h0, .inr (8, [.ref s1, .ref s2, .ref s3, .ref s4, .ref s5, .ref s6, .int ds, va_rf sp, va_rf bt])), (s1, .inl (cO, 4, .inr (.inr (.inr (.inr f)))))]) [2, 3] (by decide) rfl
  have hKc := hK.sub (tys' := [(cO, .object "DotBench$Sheet")]) [0] rfl
  have hFc := va_free (wc := [(h0, .inr (8, [.ref s1, .ref s2, .ref s3, .ref s4, .ref s5, .ref s6, .int ds, va_rf sp, va_rf bt])), (s1, .inl (cO, 4, .inr (.inr (.inr (.inr f)))))]) hD hS hA [2, 3] rfl
  refine va_callq (va_runV (As := [.int kq]) (rest := []) ⟨hx, hb, hml, hown, hts⟩ (k_X8_sheetAt_y l D H.size h0 s1 s2 s3 s4 s5 s6 ds sp bt f kq t0 cO (by first | assumption | omega | decide) (by first | assumption | omega | decide)) (cwV 1 hts (gV bw_267 bw_346 bw_347 bw_223 bw_345) rfl rfl rfl (by decide +kernel) ⟨(by rw [hR]; exact Nat.le_of_ble_eq_true rfl), (by rw [hR]; exact Nat.le_of_ble_eq_true rfl)⟩) ⟨cP_blind, va_recv hKc hPc (ci := 8) (q0 := 0) rfl rfl, cP_at hPc hKc hDc hN⟩ rfl rfl hl.1 rfl (lv_room (Nat.le_of_ble_eq_true rfl)) dX8_differ_8 ⟨(by rw [hR]; exact Nat.le_of_ble_eq_true rfl), (by rw [hR]; exact Nat.le_of_ble_eq_true rfl)⟩) hS (fun q _ h => hFc q h) hFc (fun r_2 u9 t9 H1 locs ht hvm hr_2 hB hz1 hk1 hS => ?_)
  try dsimp only at hr_2
  obtain ⟨hP1, hK1, hD1⟩ := hB
  rw [ht] at hP1
  obtain ⟨hP, hD⟩ := va_join (wr := [(t0, .inr (5, [.ref d0, .int w, .int h])), (d0, .inl (cI, 4096, .inl g))]) (w1 := [(h0, .inr (8, [.ref s1, .ref s2, .ref s3, .ref s4, .ref s5, .ref s6, .int ds, va_rf sp, va_rf bt])), (s1, .inl (cO, 4, .inr (.inr (.inr (.inr f)))))]) hP hD [2, 3] [0, 1] rfl rfl (by decide) (by decide) hk1 hFc hP1 hD1
  clear hz1 hk1 hFc hKc hDc hPc
  generalize H1 = H at hP hS ⊢
  have hP : va_P D vwCl [(t0, .inr (5, [.ref d0, .int w, .int h])), (d0, .inl (cI, 4096, .inl g)), (h0, .inr (8, [.ref s1, .ref s2, .ref s3, .ref s4, .ref s5, .ref s6, .int ds, va_rf sp, va_rf bt])), (s1, .inl (cO, 4, .inr (.inr (.inr (.inr f)))))] H := hP
  have hD : va_D A [(t0, .inr (5, [.ref d0, .int w, .int h])), (d0, .inl (cI, 4096, .inl g)), (h0, .inr (8, [.ref s1, .ref s2, .ref s3, .ref s4, .ref s5, .ref s6, .int ds, va_rf sp, va_rf bt])), (s1, .inl (cO, 4, .inr (.inr (.inr (.inr f)))))] := hD
  subst hr_2
  refine my_topv (v := .ref t0) rfl ?_
  refine lv_astore (lv' := [(4, .ref t0), (3, .ref t0), (0, .ref h0), (1, .int k), (2, .int kq)]) hx hb dX8_differ_11 hl (by decide) rfl (fun ls hl => ?_)
  refine lv_aload_n hx hb dX8_differ_13 rfl (lv_at hl 1 rfl) ?_
  refine lv_ifnull hx hb dX8_differ_14 ?_
  refine lv_aload hx hb dX8_differ_17 (lv_at hl 0 rfl) ?_
  refine lv_ifnull hx hb dX8_differ_19 ?_
  refine lv_aload_n hx hb dX8_differ_22 rfl (lv_at hl 1 rfl) ?_
  refine va_getN (host := RX8) (D := D) (ci := 5) (v := .int w) (C := RX5) (T := TX5) (N := 3) hx hb hts hi_X5 hown hK hP 0 rfl rfl 1 (by decide) ((hN.1 (RX8, 148, "DotBench$Sheet", "width", "I", RX8) (by decide +kernel)).use rfl) (fun _ h9 => h9) rfl dX8_differ_23 ?_
  refine lv_aload hx hb dX8_differ_26 (lv_at hl 0 rfl) ?_
  refine va_getN (host := RX8) (D := D) (ci := 5) (v := .int w) (C := RX5) (T := TX5) (N := 3) hx hb hts hi_X5 hown hK hP 0 rfl rfl 1 (by decide) ((hN.1 (RX8, 148, "DotBench$Sheet", "width", "I", RX8) (by decide +kernel)).use rfl) (fun _ h9 => h9) rfl dX8_differ_28 ?_
  refine lv_icmp_ne (tgt := 46) hx hb dX8_differ_31 (by decide) (fun c_3 => ?_) (fun c_3 => ?_)
  · skip
    exact absurd rfl c_3
  · skip
    have f_4 : w.toInt = w.toInt := f_eq rfl rfl c_3
    refine lv_aload_n hx hb dX8_differ_34 rfl (lv_at hl 1 rfl) ?_
    refine va_getN (host := RX8) (D := D) (ci := 5) (v := .int h) (C := RX5) (T := TX5) (N := 3) hx hb hts hi_X5 hown hK hP 0 rfl rfl 2 (by decide) ((hN.1 (RX8, 145, "DotBench$Sheet", "height", "I", RX8) (by decide +kernel)).use rfl) (fun _ h9 => h9) rfl dX8_differ_35 ?_
    refine lv_aload hx hb dX8_differ_38 (lv_at hl 0 rfl) ?_
    refine va_getN (host := RX8) (D := D) (ci := 5) (v := .int h) (C := RX5) (T := TX5) (N := 3) hx hb hts hi_X5 hown hK hP 0 rfl rfl 2 (by decide) ((hN.1 (RX8, 145, "DotBench$Sheet", "height", "I", RX8) (by decide +kernel)).use rfl) (fun _ h9 => h9) rfl dX8_differ_40 ?_
    refine lv_icmp_eq (tgt := 48) hx hb dX8_differ_43 (by decide) (fun c_5 => ?_) (fun c_5 => ?_)
    · skip
      have f_6 : h.toInt = h.toInt := f_eq rfl rfl c_5
      refine lv_iconst (v := 0) hx hb dX8_differ_48 (by decide) ?_
      refine lv_istore (lv' := [(5, .int 0), (4, .ref t0), (3, .ref t0), (0, .ref h0), (1, .int k), (2, .int kq)]) hx hb dX8_differ_49 hl (by decide) rfl (fun ls hl => ?_)
      refine lv_iconst (v := 0) hx hb dX8_differ_51 (by decide) ?_
      refine lv_istore (lv' := [(6, .int 0), (5, .int 0), (4, .ref t0), (3, .ref t0), (0, .ref h0), (1, .int k), (2, .int kq)]) hx hb dX8_differ_52 hl (by decide) rfl (fun ls hl => ?_)
      have loop_7 : ∀ (n : Nat) (j : Nat) (x6 : Int32) (x5 : Int32) (H : Heap) (locs : List Loc) (ls : Array Slot), (j ≤ 64) → (64 + 1 ≤ j + n) → (x6 = nI j) → (j ≤ H9) → (x5 = smL (dfF g g) W9 0 j) → va_P D vwCl [(t0, .inr (5, [.ref d0, .int w, .int h])), (d0, .inl (cI, 4096, .inl g)), (h0, .inr (8, [.ref s1, .ref s2, .ref s3, .ref s4, .ref s5, .ref s6, .int ds, va_rf sp, va_rf bt])), (s1, .inl (cO, 4, .inr (.inr (.inr (.inr f)))))] H → va_D A [(t0, .inr (5, [.ref d0, .int w, .int h])), (d0, .inl (cI, 4096, .inl g)), (h0, .inr (8, [.ref s1, .ref s2, .ref s3, .ref s4, .ref s5, .ref s6, .int ds, va_rf sp, va_rf bt])), (s1, .inl (cO, 4, .inr (.inr (.inr (.inr f)))))] → va_S A s.heap H locs → lv_has ls 8 [(6, .int x6), (5, .int x5), (4, .ref t0), (3, .ref t0), (0, .ref h0), (1, .int k), (2, .int kq)] → W p l e R s m ([.ref h0, .int k, .int kq] : List Value).toArray below meth c H locs 0 0 Q (F0 m 54 ls []) := by
        intro n
        induction n with
        | zero =>
          intro j x6 x5 H locs ls hi_j hm_j ex_j hjo eto hP hD hS hl
          exact absurd (show False by omega) not_false
        | succ n ih_8 =>
          intro j x6 x5 H locs ls hi_j hm_j ex_j hjo eto hP hD hS hl
          have hx_j : x6.toInt = (j : Int) := by rw [ex_j]; exact nI_toInt (by omega)
          have hc_j : x6.toNatClampNeg = j := by rw [ex_j]; exact nI_clamp (by omega)
          refine lv_iload hx hb dX8_differ_54 (lv_at hl 0 rfl) ?_
          refine lv_aload_n hx hb dX8_differ_56 rfl (lv_at hl 3 rfl) ?_
          refine va_getN (host := RX8) (D := D) (ci := 5) (v := .int h) (C := RX5) (T := TX5) (N := 3) hx hb hts hi_X5 hown hK hP 0 rfl rfl 2 (by decide) ((hN.1 (RX8, 145, "DotBench$Sheet", "height", "I", RX8) (by decide +kernel)).use rfl) (fun _ h9 => h9) rfl dX8_differ_57 ?_
          refine lv_icmp_ge (tgt := 110) hx hb dX8_differ_60 (by decide) (fun c_9 => ?_) (fun c_9 => ?_)
          · skip
            have f_10 : h.toInt ≤ (j : Int) := f_le rfl hx_j c_9
            refine lv_iload hx hb dX8_differ_110 (lv_at hl 1 rfl) ?_
            have hP9 := hP.sub (ws' := [(h0, .inr (8, [.ref s1, .ref s2, .ref s3, .ref s4, .ref s5, .ref s6, .int ds, va_rf sp, va_rf bt])), (s1, .inl (cO, 4, .inr (.inr (.inr (.inr f))))), (t0, .inr (5, [.ref d0, .int w, .int h])), (d0, .inl (cI, 4096, .inl g))]) [2, 3, 0, 1] rfl
            have hD9 := hD.sub (ws' := [(h0, .inr (8, [.ref s1, .ref s2, .ref s3, .ref s4, .ref s5, .ref s6, .int ds, va_rf sp, va_rf bt])), (s1, .inl (cO, 4, .inr (.inr (.inr (.inr f))))), (t0, .inr (5, [.ref d0, .int w, .int h])), (d0, .inl (cI, 4096, .inl g))]) [2, 3, 0, 1] (by decide) rfl
            have hK9 := hK.sub (tys' := [(cO, .object "DotBench$Sheet"), (cI, .int)]) [0, 1] rfl
            refine hQ _ _ _ _ _ ?_
            exact W.iret (v := x5) hx hb hr (fun t ht hW => ⟨⟨x5, (), rfl, (by rw [eW9n, eH9n, ← show j = H9 by omega]; exact eto), ⟨by rw [ht]; exact hP9, va_K.moved hW.alike hK9, hD9⟩⟩, hS.F ht⟩) hS.2.2 dX8_differ_112
          · skip
            have f_10 : ¬ (h.toInt ≤ (j : Int)) := fn_le rfl hx_j c_9
            refine lv_iconst (v := 0) hx hb dX8_differ_63 (by decide) ?_
            refine lv_istore (lv' := [(7, .int 0), (6, .int x6), (5, .int x5), (4, .ref t0), (3, .ref t0), (0, .ref h0), (1, .int k), (2, .int kq)]) hx hb dX8_differ_64 hl (by decide) rfl (fun ls hl => ?_)
            have loop_11 : ∀ (n : Nat) (i : Nat) (x7 : Int32) (z5 : Int32) (H : Heap) (locs : List Loc) (ls : Array Slot), (i ≤ 64) → (64 + 1 ≤ i + n) → (x7 = nI i) → (i ≤ W9) → (z5 = smR (dfF g g) j (smL (dfF g g) W9 0 j) i) → va_P D vwCl [(t0, .inr (5, [.ref d0, .int w, .int h])), (d0, .inl (cI, 4096, .inl g)), (h0, .inr (8, [.ref s1, .ref s2, .ref s3, .ref s4, .ref s5, .ref s6, .int ds, va_rf sp, va_rf bt])), (s1, .inl (cO, 4, .inr (.inr (.inr (.inr f)))))] H → va_D A [(t0, .inr (5, [.ref d0, .int w, .int h])), (d0, .inl (cI, 4096, .inl g)), (h0, .inr (8, [.ref s1, .ref s2, .ref s3, .ref s4, .ref s5, .ref s6, .int ds, va_rf sp, va_rf bt])), (s1, .inl (cO, 4, .inr (.inr (.inr (.inr f)))))] → va_S A s.heap H locs → lv_has ls 8 [(7, .int x7), (6, .int x6), (5, .int z5), (4, .ref t0), (3, .ref t0), (0, .ref h0), (1, .int k), (2, .int kq)] → W p l e R s m ([.ref h0, .int k, .int kq] : List Value).toArray below meth c H locs 0 0 Q (F0 m 66 ls []) := by
              intro n
              induction n with
              | zero =>
                intro i x7 z5 H locs ls hi_i hm_i ex_i hio eti hP hD hS hl
                exact absurd (show False by omega) not_false
              | succ n ih_12 =>
                intro i x7 z5 H locs ls hi_i hm_i ex_i hio eti hP hD hS hl
                have hx_i : x7.toInt = (i : Int) := by rw [ex_i]; exact nI_toInt (by omega)
                have hc_i : x7.toNatClampNeg = i := by rw [ex_i]; exact nI_clamp (by omega)
                refine lv_iload hx hb dX8_differ_66 (lv_at hl 0 rfl) ?_
                refine lv_aload_n hx hb dX8_differ_68 rfl (lv_at hl 4 rfl) ?_
                refine va_getN (host := RX8) (D := D) (ci := 5) (v := .int w) (C := RX5) (T := TX5) (N := 3) hx hb hts hi_X5 hown hK hP 0 rfl rfl 1 (by decide) ((hN.1 (RX8, 148, "DotBench$Sheet", "width", "I", RX8) (by decide +kernel)).use rfl) (fun _ h9 => h9) rfl dX8_differ_69 ?_
                refine lv_icmp_ge (tgt := 104) hx hb dX8_differ_72 (by decide) (fun c_13 => ?_) (fun c_13 => ?_)
                · skip
                  have f_14 : w.toInt ≤ (i : Int) := f_le rfl hx_i c_13
                  obtain ⟨y_15, ey_15⟩ : ∃ y : Int32, y = x6 + 1 := ⟨_, rfl⟩
                  refine lv_iinc (v := y_15) (lv' := [(6, .int y_15), (7, .int x7), (5, .int z5), (4, .ref t0), (3, .ref t0), (0, .ref h0), (1, .int k), (2, .int kq)]) hx hb dX8_differ_104 hl (k := 1) rfl (by rw [ey_15]; rfl) (by decide) rfl (fun ls hl => ?_)
                  refine lv_goto (tgt := 54) hx hb dX8_differ_107 (by decide) ?_
                  exact ih_8 (j + 1) y_15 z5 _ _ _ (by omega) (by omega) (by rw [ey_15, ex_j]; exact nI_1 j) (by omega) (sm_nx eti (by omega)) (hP.sub (ws' := [(t0, .inr (5, [.ref d0, .int w, .int h])), (d0, .inl (cI, 4096, .inl g)), (h0, .inr (8, [.ref s1, .ref s2, .ref s3, .ref s4, .ref s5, .ref s6, .int ds, va_rf sp, va_rf bt])), (s1, .inl (cO, 4, .inr (.inr (.inr (.inr f)))))]) [0, 1, 2, 3] rfl) (hD.sub (ws' := [(t0, .inr (5, [.ref d0, .int w, .int h])), (d0, .inl (cI, 4096, .inl g)), (h0, .inr (8, [.ref s1, .ref s2, .ref s3, .ref s4, .ref s5, .ref s6, .int ds, va_rf sp, va_rf bt])), (s1, .inl (cO, 4, .inr (.inr (.inr (.inr f)))))]) [0, 1, 2, 3] (by decide) rfl) hS (lv_sub hl [0, 2, 3, 4, 5, 6, 7] rfl)
                · skip
                  have f_14 : ¬ (w.toInt ≤ (i : Int)) := fn_le rfl hx_i c_13
                  refine lv_aload_n hx hb dX8_differ_75 rfl (lv_at hl 4 rfl) ?_
                  refine lv_iload hx hb dX8_differ_76 (lv_at hl 0 rfl) ?_
                  refine lv_iload hx hb dX8_differ_78 (lv_at hl 1 rfl) ?_
                  have hPc := hP.sub (ws' := [(t0, .inr (5, [.ref d0, .int w, .int h])), (d0, .inl (cI, 4096, .inl g))]) [0, 1] rfl
                  have hDc := hD.sub (ws' := [(t0, .inr (5, [.ref d0, .int w, .int h])), (d0, .inl (cI, 4096, .inl g))]) [0, 1] (by decide) rfl
                  have hKc := hK.sub (tys' := [(cI, .int)]) [1] rfl
                  have hFc := va_free (wc := [(t0, .inr (5, [.ref d0, .int w, .int h])), (d0, .inl (cI, 4096, .inl g))]) hD hS hA [0, 1] rfl
                  refine va_calli (va_runV (As := [.int x7, .int x6]) (rest := []) ⟨hx, hb, hml, hown, hts⟩ (k_X5_at l D H.size t0 d0 w h g x7 x6 cI (by first | assumption | omega | decide) (by first | assumption | omega | decide)) (cwV 2 hts (gV bw_325 bw_153 bw_154 bw_130 bw_152) rfl rfl rfl (by decide +kernel) ⟨(by rw [hR]; exact Nat.le_of_ble_eq_true rfl), (by rw [hR]; exact Nat.le_of_ble_eq_true rfl)⟩) ⟨cP_blind, va_recv hKc hPc (ci := 5) (q0 := 0) rfl rfl, cP_at hPc hKc hDc hN⟩ rfl rfl hl.1 rfl (lv_room (Nat.le_of_ble_eq_true rfl)) dX8_differ_80 ⟨(by rw [hR]; exact Nat.le_of_ble_eq_true rfl), (by rw [hR]; exact Nat.le_of_ble_eq_true rfl)⟩) hS (fun q _ h => hFc q h) hFc (fun r_16 u9 t9 H1 locs ht hvm hr_16 hB hz1 hk1 hS => ?_)
                  try dsimp only at hr_16
                  obtain ⟨hP1, hK1, hD1⟩ := hB
                  rw [ht] at hP1
                  obtain ⟨hP, hD⟩ := va_join (wr := [(h0, .inr (8, [.ref s1, .ref s2, .ref s3, .ref s4, .ref s5, .ref s6, .int ds, va_rf sp, va_rf bt])), (s1, .inl (cO, 4, .inr (.inr (.inr (.inr f)))))]) (w1 := [(t0, .inr (5, [.ref d0, .int w, .int h])), (d0, .inl (cI, 4096, .inl g))]) hP hD [0, 1] [2, 3] rfl rfl (by decide) (by decide) hk1 hFc hP1 hD1
                  clear hz1 hk1 hFc hKc hDc hPc
                  generalize H1 = H at hP hS ⊢
                  have hP : va_P D vwCl [(h0, .inr (8, [.ref s1, .ref s2, .ref s3, .ref s4, .ref s5, .ref s6, .int ds, va_rf sp, va_rf bt])), (s1, .inl (cO, 4, .inr (.inr (.inr (.inr f))))), (t0, .inr (5, [.ref d0, .int w, .int h])), (d0, .inl (cI, 4096, .inl g))] H := hP
                  have hD : va_D A [(h0, .inr (8, [.ref s1, .ref s2, .ref s3, .ref s4, .ref s5, .ref s6, .int ds, va_rf sp, va_rf bt])), (s1, .inl (cO, 4, .inr (.inr (.inr (.inr f))))), (t0, .inr (5, [.ref d0, .int w, .int h])), (d0, .inl (cI, 4096, .inl g))] := hD
                  have hvr_16 : r_16 = g (ixP (nI i) (nI j)) := by rw [hr_16, if_pos (by omega), ex_i, ex_j]
                  refine lv_aload hx hb dX8_differ_83 (lv_at hl 3 rfl) ?_
                  refine lv_iload hx hb dX8_differ_85 (lv_at hl 0 rfl) ?_
                  refine lv_iload hx hb dX8_differ_87 (lv_at hl 1 rfl) ?_
                  have hPc := hP.sub (ws' := [(t0, .inr (5, [.ref d0, .int w, .int h])), (d0, .inl (cI, 4096, .inl g))]) [2, 3] rfl
                  have hDc := hD.sub (ws' := [(t0, .inr (5, [.ref d0, .int w, .int h])), (d0, .inl (cI, 4096, .inl g))]) [2, 3] (by decide) rfl
                  have hKc := hK.sub (tys' := [(cI, .int)]) [1] rfl
                  have hFc := va_free (wc := [(t0, .inr (5, [.ref d0, .int w, .int h])), (d0, .inl (cI, 4096, .inl g))]) hD hS hA [2, 3] rfl
                  refine va_calli (va_runV (As := [.int x7, .int x6]) (rest := [.int r_16]) ⟨hx, hb, hml, hown, hts⟩ (k_X5_at l D H.size t0 d0 w h g x7 x6 cI (by first | assumption | omega | decide) (by first | assumption | omega | decide)) (cwV 2 hts (gV bw_325 bw_153 bw_154 bw_130 bw_152) rfl rfl rfl (by decide +kernel) ⟨(by rw [hR]; exact Nat.le_of_ble_eq_true rfl), (by rw [hR]; exact Nat.le_of_ble_eq_true rfl)⟩) ⟨cP_blind, va_recv hKc hPc (ci := 5) (q0 := 0) rfl rfl, cP_at hPc hKc hDc hN⟩ rfl rfl hl.1 rfl (lv_room (Nat.le_of_ble_eq_true rfl)) dX8_differ_89 ⟨(by rw [hR]; exact Nat.le_of_ble_eq_true rfl), (by rw [hR]; exact Nat.le_of_ble_eq_true rfl)⟩) hS (fun q _ h => hFc q h) hFc (fun r_17 u9 t9 H1 locs ht hvm hr_17 hB hz1 hk1 hS => ?_)
                  try dsimp only at hr_17
                  obtain ⟨hP1, hK1, hD1⟩ := hB
                  rw [ht] at hP1
                  obtain ⟨hP, hD⟩ := va_join (wr := [(h0, .inr (8, [.ref s1, .ref s2, .ref s3, .ref s4, .ref s5, .ref s6, .int ds, va_rf sp, va_rf bt])), (s1, .inl (cO, 4, .inr (.inr (.inr (.inr f)))))]) (w1 := [(t0, .inr (5, [.ref d0, .int w, .int h])), (d0, .inl (cI, 4096, .inl g))]) hP hD [2, 3] [0, 1] rfl rfl (by decide) (by decide) hk1 hFc hP1 hD1
                  clear hz1 hk1 hFc hKc hDc hPc
                  generalize H1 = H at hP hS ⊢
                  have hP : va_P D vwCl [(h0, .inr (8, [.ref s1, .ref s2, .ref s3, .ref s4, .ref s5, .ref s6, .int ds, va_rf sp, va_rf bt])), (s1, .inl (cO, 4, .inr (.inr (.inr (.inr f))))), (t0, .inr (5, [.ref d0, .int w, .int h])), (d0, .inl (cI, 4096, .inl g))] H := hP
                  have hD : va_D A [(h0, .inr (8, [.ref s1, .ref s2, .ref s3, .ref s4, .ref s5, .ref s6, .int ds, va_rf sp, va_rf bt])), (s1, .inl (cO, 4, .inr (.inr (.inr (.inr f))))), (t0, .inr (5, [.ref d0, .int w, .int h])), (d0, .inl (cI, 4096, .inl g))] := hD
                  have hvr_17 : r_17 = g (ixP (nI i) (nI j)) := by rw [hr_17, if_pos (by omega), ex_i, ex_j]
                  refine lv_icmp_eq (tgt := 98) hx hb dX8_differ_92 (by decide) (fun c_18 => ?_) (fun c_18 => ?_)
                  · skip
                    have f_19 : r_16.toInt = r_17.toInt := f_eq rfl rfl c_18
                    obtain ⟨y_20, ey_20⟩ : ∃ y : Int32, y = x7 + 1 := ⟨_, rfl⟩
                    refine lv_iinc (v := y_20) (lv' := [(7, .int y_20), (6, .int x6), (5, .int z5), (4, .ref t0), (3, .ref t0), (0, .ref h0), (1, .int k), (2, .int kq)]) hx hb dX8_differ_98 hl (k := 0) rfl (by rw [ey_20]; rfl) (by decide) rfl (fun ls hl => ?_)
                    refine lv_goto (tgt := 66) hx hb dX8_differ_101 (by decide) ?_
                    exact ih_12 (i + 1) y_20 z5 _ _ _ (by omega) (by omega) (by rw [ey_20, ex_i]; exact nI_1 i) (by omega) (eti.trans (df_y (by rfl)).symm) (hP.sub (ws' := [(t0, .inr (5, [.ref d0, .int w, .int h])), (d0, .inl (cI, 4096, .inl g)), (h0, .inr (8, [.ref s1, .ref s2, .ref s3, .ref s4, .ref s5, .ref s6, .int ds, va_rf sp, va_rf bt])), (s1, .inl (cO, 4, .inr (.inr (.inr (.inr f)))))]) [2, 3, 0, 1] rfl) (hD.sub (ws' := [(t0, .inr (5, [.ref d0, .int w, .int h])), (d0, .inl (cI, 4096, .inl g)), (h0, .inr (8, [.ref s1, .ref s2, .ref s3, .ref s4, .ref s5, .ref s6, .int ds, va_rf sp, va_rf bt])), (s1, .inl (cO, 4, .inr (.inr (.inr (.inr f)))))]) [2, 3, 0, 1] (by decide) rfl) hS (lv_sub hl [0, 1, 2, 3, 4, 5, 6, 7] rfl)
                  · skip
                    have f_19 : ¬ (r_16.toInt = r_17.toInt) := fn_eq rfl rfl c_18
                    obtain ⟨y_21, ey_21⟩ : ∃ y : Int32, y = z5 + 1 := ⟨_, rfl⟩
                    refine lv_iinc (v := y_21) (lv' := [(5, .int y_21), (7, .int x7), (6, .int x6), (4, .ref t0), (3, .ref t0), (0, .ref h0), (1, .int k), (2, .int kq)]) hx hb dX8_differ_95 hl (k := 2) rfl (by rw [ey_21]; rfl) (by decide) rfl (fun ls hl => ?_)
                    obtain ⟨y_22, ey_22⟩ : ∃ y : Int32, y = x7 + 1 := ⟨_, rfl⟩
                    refine lv_iinc (v := y_22) (lv' := [(7, .int y_22), (5, .int y_21), (6, .int x6), (4, .ref t0), (3, .ref t0), (0, .ref h0), (1, .int k), (2, .int kq)]) hx hb dX8_differ_98 hl (k := 1) rfl (by rw [ey_22]; rfl) (by decide) rfl (fun ls hl => ?_)
                    refine lv_goto (tgt := 66) hx hb dX8_differ_101 (by decide) ?_
                    exact ih_12 (i + 1) y_22 y_21 _ _ _ (by omega) (by omega) (by rw [ey_22, ex_i]; exact nI_1 i) (by omega) (absurd (hvr_16.trans hvr_17.symm) c_18) (hP.sub (ws' := [(t0, .inr (5, [.ref d0, .int w, .int h])), (d0, .inl (cI, 4096, .inl g)), (h0, .inr (8, [.ref s1, .ref s2, .ref s3, .ref s4, .ref s5, .ref s6, .int ds, va_rf sp, va_rf bt])), (s1, .inl (cO, 4, .inr (.inr (.inr (.inr f)))))]) [2, 3, 0, 1] rfl) (hD.sub (ws' := [(t0, .inr (5, [.ref d0, .int w, .int h])), (d0, .inl (cI, 4096, .inl g)), (h0, .inr (8, [.ref s1, .ref s2, .ref s3, .ref s4, .ref s5, .ref s6, .int ds, va_rf sp, va_rf bt])), (s1, .inl (cO, 4, .inr (.inr (.inr (.inr f)))))]) [2, 3, 0, 1] (by decide) rfl) hS (lv_sub hl [0, 2, 1, 3, 4, 5, 6, 7] rfl)
            exact loop_11 (64 + 1) 0 0 x5 _ _ _ (by omega) (by omega) nI_0.symm (by omega) eto hP hD hS (lv_sub hl [0, 1, 2, 3, 4, 5, 6, 7] rfl)
      exact loop_7 (64 + 1) 0 0 0 _ _ _ (by omega) (by omega) nI_0.symm (by omega) rfl hP hD hS (lv_sub hl [0, 1, 2, 3, 4, 5, 6] rfl)
    · skip
      exact absurd rfl c_5
