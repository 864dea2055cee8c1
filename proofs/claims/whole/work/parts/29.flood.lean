set_option maxHeartbeats 4000000 in
set_option maxRecDepth 100000 in
theorem k_X8_flood_x (l : Launch) (D : va_G) (sz : Nat) (h0 s1 s2 s3 s4 s5 s6 : Nat) (ds : Int32) (sp bt : Option Nat) (f : Nat → Option Nat) (t0 d0 : Nat) (w h : Int32) (k x y co : Int32) (cO : ClassId) (hk : 0 ≤ k.toInt ∧ k.toInt ≤ 3) (hf : f k.toNatClampNeg = some t0) (hon : ¬ (0 ≤ x.toInt ∧ x.toInt < w.toInt ∧ 0 ≤ y.toInt ∧ y.toInt < h.toInt)) : Met l yX8_flood (wB yX8_flood cX8_flood 9 (some .int)) ({ frames := 1, cells := 0, slots := 0, locals := 22 }) (cP D [(h0, .inr (8, [.ref s1, .ref s2, .ref s3, .ref s4, .ref s5, .ref s6, .int ds, va_rf sp, va_rf bt])), (s1, .inl (cO, 4, .inr (.inr (.inr (.inr f))))), (t0, .inr (5, [.ref d0, .int w, .int h]))] [(cO, .object "DotBench$Sheet")] sz [.ref h0, .int k, .int x, .int y, .int co]) (va_Qi (fun (r : Int32) (_ : Unit) => r = -1) (fun (_ : Unit) (t : State) => cB D (va_A [(h0, .inr (8, [.ref s1, .ref s2, .ref s3, .ref s4, .ref s5, .ref s6, .int ds, va_rf sp, va_rf bt])), (s1, .inl (cO, 4, .inr (.inr (.inr (.inr f))))), (t0, .inr (5, [.ref d0, .int w, .int h]))] sz) [(h0, .inr (8, [.ref s1, .ref s2, .ref s3, .ref s4, .ref s5, .ref s6, .int ds, va_rf sp, va_rf bt])), (s1, .inl (cO, 4, .inr (.inr (.inr (.inr f))))), (t0, .inr (5, [.ref d0, .int w, .int h]))] [(cO, .object "DotBench$Sheet")] t) (va_A [(h0, .inr (8, [.ref s1, .ref s2, .ref s3, .ref s4, .ref s5, .ref s6, .int ds, va_rf sp, va_rf bt])), (s1, .inl (cO, 4, .inr (.inr (.inr (.inr f))))), (t0, .inr (5, [.ref d0, .int w, .int h]))] sz)) 0 0 (va_A [(h0, .inr (8, [.ref s1, .ref s2, .ref s3, .ref s4, .ref s5, .ref s6, .int ds, va_rf sp, va_rf bt])), (s1, .inl (cO, 4, .inr (.inr (.inr (.inr f))))), (t0, .inr (5, [.ref d0, .int w, .int h]))] sz) := by
  refine Met.ofW (cc := cX8_flood) (maxL := 9) (ret := (some .int)) (by decide) rfl ?_
  intro p e s m args below meth c s₁ B hml hv
  obtain ⟨rfl, hsz, hP, hK, hD0, hN⟩ := hv
  have hx := B.exec
  have hb := B.bytes
  have hr := B.returns
  have hts0 := atoms_spec (ws := (wB yX8_flood cX8_flood 9 (some .int))) B.pre
  have hts : ∀ w ∈ bigW, w.before _ s = true := fun w h => hts0 w (List.mem_cons_of_mem _ h)
  have hown : s.vm.findClass RX8 = some m.cls := findClass_of_methodNamed B.named
  have hlocks := B.notSynchronized
  subst hsz
  have hD := hD0.self (sz := s.heap.size)
  generalize hAe : va_A [(h0, .inr (8, [.ref s1, .ref s2, .ref s3, .ref s4, .ref s5, .ref s6, .int ds, va_rf sp, va_rf bt])), (s1, .inl (cO, 4, .inr (.inr (.inr (.inr f))))), (t0, .inr (5, [.ref d0, .int w, .int h]))] s.heap.size = A at hD ⊢
  have hA : ∀ q : Nat, s.heap.size ≤ q → A q := fun q h => by rw [← hAe]; exact Or.inr h
  have hS : va_S A s.heap s.heap [] := va_S.rf
  have hP : va_P D vwCl [(h0, .inr (8, [.ref s1, .ref s2, .ref s3, .ref s4, .ref s5, .ref s6, .int ds, va_rf sp, va_rf bt])), (s1, .inl (cO, 4, .inr (.inr (.inr (.inr f))))), (t0, .inr (5, [.ref d0, .int w, .int h]))] s.heap := hP
  have hl := lv_entry ([.ref h0, .int k, .int x, .int y, .int co]) (n := 9) (Nat.le_of_ble_eq_true rfl)
  rw [lg_entry_eq]
  generalize (lg_sl ([.ref h0, .int k, .int x, .int y, .int co]) ++ List.replicate (9 - (lg_sl ([.ref h0, .int k, .int x, .int y, .int co])).length) Slot.unset).toArray = ls at hl ⊢
  have hl : lv_has ls 9 [(0, .ref h0), (1, .int k), (2, .int x), (3, .int y), (4, .int co)] := hl
  clear hts0 hD0 hAe
  refine my_abs (fun R Q hR hQ => ?_)
  refine lv_aload_n hx hb dX8_flood_0 rfl (lv_at hl 0 rfl) ?_
  refine lv_iload_n hx hb dX8_flood_1 rfl (lv_at hl 1 rfl) ?_
  have hPc := hP.sub (ws' := [(h0, .inr (8, [.ref s1, .ref s2, .ref s3, .ref s4, .ref s5, .ref s6, .int ds, va_rf sp, va_rf bt])), (s1, .inl (cO, 4, .inr (.inr (.inr (.inr f)))))]) [0, 1] rfl
  have hDc := hD.sub (ws' := [(h0, .inr (8, [.ref s1, .ref s2, .ref s3, .ref s4, .ref s5, .ref s6, .int ds, va_rf sp, va_rf bt])), (s1, .inl (cO, 4, .inr (.inr (.inr (.inr f)))))]) [0, 1] (by decide) rfl
  have hKc := hK.sub (tys' := [(cO, .object "DotBench$Sheet")]) [0] rfl
  have hFc := va_free (wc := [(h0, .inr (8, [.ref s1, .ref s2, .ref s3, .ref s4, .ref s5, .ref s6, .int ds, va_rf sp, va_rf bt])), (s1, .inl (cO, 4, .inr (.inr (.inr (.inr f)))))]) hD hS hA [0, 1] rfl
  refine va_callq (va_runV (As := [.int k]) (rest := []) ⟨hx, hb, hml, hown, hts⟩ (k_X8_sheetAt_y l D s.heap.size h0 s1 s2 s3 s4 s5 s6 ds sp bt f k t0 cO (by first | assumption | omega | decide) (by first | assumption | omega | decide)) (cwV 1 hts (gV bw_267 bw_346 bw_347 bw_223 bw_345) rfl rfl rfl (by decide +kernel) ⟨(by rw [hR]; exact Nat.le_of_ble_eq_true rfl), (by rw [hR]; exact Nat.le_of_ble_eq_true rfl)⟩) ⟨cP_blind, va_recv hKc hPc (ci := 8) (q0 := 0) rfl rfl, cP_at hPc hKc hDc hN⟩ rfl rfl hl.1 rfl (lv_room (Nat.le_of_ble_eq_true rfl)) dX8_flood_2 ⟨(by rw [hR]; exact Nat.le_of_ble_eq_true rfl), (by rw [hR]; exact Nat.le_of_ble_eq_true rfl)⟩) hS (fun q _ h => hFc q h) hFc (fun r_1 u9 t9 H1 locs ht hvm hr_1 hB hz1 hk1 hS => ?_)
  try dsimp only at hr_1
  obtain ⟨hP1, hK1, hD1⟩ := hB
  rw [ht] at hP1
  obtain ⟨hP, hD⟩ := va_join (wr := [(t0, .inr (5, [.ref d0, .int w, .int h]))]) (w1 := [(h0, .inr (8, [.ref s1, .ref s2, .ref s3, .ref s4, .ref s5, .ref s6, .int ds, va_rf sp, va_rf bt])), (s1, .inl (cO, 4, .inr (.inr (.inr (.inr f)))))]) hP hD [0, 1] [2] rfl rfl (by decide) (by decide) hk1 hFc hP1 hD1
  clear hz1 hk1 hFc hKc hDc hPc
  generalize H1 = H at hP hS ⊢
  have hP : va_P D vwCl [(t0, .inr (5, [.ref d0, .int w, .int h])), (h0, .inr (8, [.ref s1, .ref s2, .ref s3, .ref s4, .ref s5, .ref s6, .int ds, va_rf sp, va_rf bt])), (s1, .inl (cO, 4, .inr (.inr (.inr (.inr f)))))] H := hP
  have hD : va_D A [(t0, .inr (5, [.ref d0, .int w, .int h])), (h0, .inr (8, [.ref s1, .ref s2, .ref s3, .ref s4, .ref s5, .ref s6, .int ds, va_rf sp, va_rf bt])), (s1, .inl (cO, 4, .inr (.inr (.inr (.inr f)))))] := hD
  subst hr_1
  refine my_topv (v := .ref t0) rfl ?_
  refine lv_astore (lv' := [(5, .ref t0), (0, .ref h0), (1, .int k), (2, .int x), (3, .int y), (4, .int co)]) hx hb dX8_flood_5 hl (by decide) rfl (fun ls hl => ?_)
  refine lv_aload hx hb dX8_flood_7 (lv_at hl 0 rfl) ?_
  refine lv_ifnull hx hb dX8_flood_9 ?_
  refine lv_aload hx hb dX8_flood_12 (lv_at hl 0 rfl) ?_
  refine lv_iload_n hx hb dX8_flood_14 rfl (lv_at hl 3 rfl) ?_
  refine lv_iload_n hx hb dX8_flood_15 rfl (lv_at hl 4 rfl) ?_
  have hPc := hP.sub (ws' := [(t0, .inr (5, [.ref d0, .int w, .int h]))]) [0] rfl
  have hDc := hD.sub (ws' := [(t0, .inr (5, [.ref d0, .int w, .int h]))]) [0] (by decide) rfl
  have hKc := hK.sub (tys' := []) [] rfl
  have hFc := va_free (wc := [(t0, .inr (5, [.ref d0, .int w, .int h]))]) hD hS hA [0] rfl
  refine va_calli (va_runV (As := [.int x, .int y]) (rest := []) ⟨hx, hb, hml, hown, hts⟩ (k_X5_has l D H.size t0 d0 w h x y) (cwV 2 hts (gV bw_309 bw_150 bw_151 bw_130 bw_149) rfl rfl rfl (by decide +kernel) ⟨(by rw [hR]; exact Nat.le_of_ble_eq_true rfl), (by rw [hR]; exact Nat.le_of_ble_eq_true rfl)⟩) ⟨cP_blind, va_recv hKc hPc (ci := 5) (q0 := 0) rfl rfl, cP_at hPc hKc hDc hN⟩ rfl rfl hl.1 rfl (lv_room (Nat.le_of_ble_eq_true rfl)) dX8_flood_16 ⟨(by rw [hR]; exact Nat.le_of_ble_eq_true rfl), (by rw [hR]; exact Nat.le_of_ble_eq_true rfl)⟩) hS (fun q _ h => hFc q h) hFc (fun r_2 u9 t9 H1 locs ht hvm hr_2 hB hz1 hk1 hS => ?_)
  try dsimp only at hr_2
  obtain ⟨hP1, hK1, hD1⟩ := hB
  rw [ht] at hP1
  obtain ⟨hP, hD⟩ := va_join (wr := [(h0, .inr (8, [.ref s1, .ref s2, .ref s3, .ref s4, .ref s5, .ref s6, .int ds, va_rf sp, va_rf bt])), (s1, .inl (cO, 4, .inr (.inr (.inr (.inr f)))))]) (w1 := [(t0, .inr (5, [.ref d0, .int w, .int h]))]) hP hD [0] [1, 2] rfl rfl (by decide) (by decide) hk1 hFc hP1 hD1
  clear hz1 hk1 hFc hKc hDc hPc
  generalize H1 = H at hP hS ⊢
  have hP : va_P D vwCl [(h0, .inr (8, [.ref s1, .ref s2, .ref s3, .ref s4, .ref s5, .ref s6, .int ds, va_rf sp, va_rf bt])), (s1, .inl (cO, 4, .inr (.inr (.inr (.inr f))))), (t0, .inr (5, [.ref d0, .int w, .int h]))] H := hP
  have hD : va_D A [(h0, .inr (8, [.ref s1, .ref s2, .ref s3, .ref s4, .ref s5, .ref s6, .int ds, va_rf sp, va_rf bt])), (s1, .inl (cO, 4, .inr (.inr (.inr (.inr f))))), (t0, .inr (5, [.ref d0, .int w, .int h]))] := hD
  refine lv_if_ne (tgt := 24) hx hb dX8_flood_19 (by decide) (fun c_3 => ?_) (fun c_3 => ?_)
  · skip
    have f_4 := bz1 hr_2 c_3
    exact False.elim (by omega)
  · skip
    have f_4 := bz0 hr_2 c_3
    refine lv_iconst (v := (-1)) hx hb dX8_flood_22 (by decide) ?_
    have hP9 := hP.sub (ws' := [(h0, .inr (8, [.ref s1, .ref s2, .ref s3, .ref s4, .ref s5, .ref s6, .int ds, va_rf sp, va_rf bt])), (s1, .inl (cO, 4, .inr (.inr (.inr (.inr f))))), (t0, .inr (5, [.ref d0, .int w, .int h]))]) [0, 1, 2] rfl
    have hD9 := hD.sub (ws' := [(h0, .inr (8, [.ref s1, .ref s2, .ref s3, .ref s4, .ref s5, .ref s6, .int ds, va_rf sp, va_rf bt])), (s1, .inl (cO, 4, .inr (.inr (.inr (.inr f))))), (t0, .inr (5, [.ref d0, .int w, .int h]))]) [0, 1, 2] (by decide) rfl
    have hK9 := hK.sub (tys' := [(cO, .object "DotBench$Sheet")]) [0] rfl
    refine hQ _ _ _ _ _ ?_
    exact W.iret (v := (-1)) hx hb hr (fun t ht hW => ⟨⟨(-1), (), rfl, rfl, ⟨by rw [ht]; exact hP9, va_K.moved hW.alike hK9, hD9⟩⟩, hS.F ht⟩) hS.2.2 dX8_flood_23

set_option maxHeartbeats 4000000 in
set_option maxRecDepth 100000 in
theorem k_X8_region_x (l : Launch) (D : va_G) (sz : Nat) (h0 s1 s2 s3 s4 s5 s6 : Nat) (ds : Int32) (sp bt : Option Nat) (f : Nat → Option Nat) (t0 d0 : Nat) (w h : Int32) (k x y co : Int32) (cO : ClassId) (hk : 0 ≤ k.toInt ∧ k.toInt ≤ 3) (hf : f k.toNatClampNeg = some t0) (hon : ¬ (0 ≤ x.toInt ∧ x.toInt < w.toInt ∧ 0 ≤ y.toInt ∧ y.toInt < h.toInt)) : Met l yX8_region (wB yX8_region cX8_region 6 (some .int)) ({ frames := 1, cells := 0, slots := 0, locals := 22 }) (cP D [(h0, .inr (8, [.ref s1, .ref s2, .ref s3, .ref s4, .ref s5, .ref s6, .int ds, va_rf sp, va_rf bt])), (s1, .inl (cO, 4, .inr (.inr (.inr (.inr f))))), (t0, .inr (5, [.ref d0, .int w, .int h]))] [(cO, .object "DotBench$Sheet")] sz [.ref h0, .int k, .int x, .int y, .int co]) (va_Qi (fun (r : Int32) (_ : Unit) => r = -1) (fun (_ : Unit) (t : State) => cB D (va_A [(h0, .inr (8, [.ref s1, .ref s2, .ref s3, .ref s4, .ref s5, .ref s6, .int ds, va_rf sp, va_rf bt])), (s1, .inl (cO, 4, .inr (.inr (.inr (.inr f))))), (t0, .inr (5, [.ref d0, .int w, .int h]))] sz) [(h0, .inr (8, [.ref s1, .ref s2, .ref s3, .ref s4, .ref s5, .ref s6, .int ds, va_rf sp, va_rf bt])), (s1, .inl (cO, 4, .inr (.inr (.inr (.inr f))))), (t0, .inr (5, [.ref d0, .int w, .int h]))] [(cO, .object "DotBench$Sheet")] t) (va_A [(h0, .inr (8, [.ref s1, .ref s2, .ref s3, .ref s4, .ref s5, .ref s6, .int ds, va_rf sp, va_rf bt])), (s1, .inl (cO, 4, .inr (.inr (.inr (.inr f))))), (t0, .inr (5, [.ref d0, .int w, .int h]))] sz)) 0 0 (va_A [(h0, .inr (8, [.ref s1, .ref s2, .ref s3, .ref s4, .ref s5, .ref s6, .int ds, va_rf sp, va_rf bt])), (s1, .inl (cO, 4, .inr (.inr (.inr (.inr f))))), (t0, .inr (5, [.ref d0, .int w, .int h]))] sz) := by
  refine Met.ofW (cc := cX8_region) (maxL := 6) (ret := (some .int)) (by decide) rfl ?_
  intro p e s m args below meth c s₁ B hml hv
  obtain ⟨rfl, hsz, hP, hK, hD0, hN⟩ := hv
  have hx := B.exec
  have hb := B.bytes
  have hr := B.returns
  have hts0 := atoms_spec (ws := (wB yX8_region cX8_region 6 (some .int))) B.pre
  have hts : ∀ w ∈ bigW, w.before _ s = true := fun w h => hts0 w (List.mem_cons_of_mem _ h)
  have hown : s.vm.findClass RX8 = some m.cls := findClass_of_methodNamed B.named
  have hlocks := B.notSynchronized
  subst hsz
  have hD := hD0.self (sz := s.heap.size)
  generalize hAe : va_A [(h0, .inr (8, [.ref s1, .ref s2, .ref s3, .ref s4, .ref s5, .ref s6, .int ds, va_rf sp, va_rf bt])), (s1, .inl (cO, 4, .inr (.inr (.inr (.inr f))))), (t0, .inr (5, [.ref d0, .int w, .int h]))] s.heap.size = A at hD ⊢
  have hA : ∀ q : Nat, s.heap.size ≤ q → A q := fun q h => by rw [← hAe]; exact Or.inr h
  have hS : va_S A s.heap s.heap [] := va_S.rf
  have hP : va_P D vwCl [(h0, .inr (8, [.ref s1, .ref s2, .ref s3, .ref s4, .ref s5, .ref s6, .int ds, va_rf sp, va_rf bt])), (s1, .inl (cO, 4, .inr (.inr (.inr (.inr f))))), (t0, .inr (5, [.ref d0, .int w, .int h]))] s.heap := hP
  have hl := lv_entry ([.ref h0, .int k, .int x, .int y, .int co]) (n := 6) (Nat.le_of_ble_eq_true rfl)
  rw [lg_entry_eq]
  generalize (lg_sl ([.ref h0, .int k, .int x, .int y, .int co]) ++ List.replicate (6 - (lg_sl ([.ref h0, .int k, .int x, .int y, .int co])).length) Slot.unset).toArray = ls at hl ⊢
  have hl : lv_has ls 6 [(0, .ref h0), (1, .int k), (2, .int x), (3, .int y), (4, .int co)] := hl
  clear hts0 hD0 hAe
  refine my_abs (fun R Q hR hQ => ?_)
  refine lv_aload_n hx hb dX8_region_0 rfl (lv_at hl 0 rfl) ?_
  refine lv_iload_n hx hb dX8_region_1 rfl (lv_at hl 1 rfl) ?_
  have hPc := hP.sub (ws' := [(h0, .inr (8, [.ref s1, .ref s2, .ref s3, .ref s4, .ref s5, .ref s6, .int ds, va_rf sp, va_rf bt])), (s1, .inl (cO, 4, .inr (.inr (.inr (.inr f)))))]) [0, 1] rfl
  have hDc := hD.sub (ws' := [(h0, .inr (8, [.ref s1, .ref s2, .ref s3, .ref s4, .ref s5, .ref s6, .int ds, va_rf sp, va_rf bt])), (s1, .inl (cO, 4, .inr (.inr (.inr (.inr f)))))]) [0, 1] (by decide) rfl
  have hKc := hK.sub (tys' := [(cO, .object "DotBench$Sheet")]) [0] rfl
  have hFc := va_free (wc := [(h0, .inr (8, [.ref s1, .ref s2, .ref s3, .ref s4, .ref s5, .ref s6, .int ds, va_rf sp, va_rf bt])), (s1, .inl (cO, 4, .inr (.inr (.inr (.inr f)))))]) hD hS hA [0, 1] rfl
  refine va_callq (va_runV (As := [.int k]) (rest := []) ⟨hx, hb, hml, hown, hts⟩ (k_X8_sheetAt_y l D s.heap.size h0 s1 s2 s3 s4 s5 s6 ds sp bt f k t0 cO (by first | assumption | omega | decide) (by first | assumption | omega | decide)) (cwV 1 hts (gV bw_267 bw_346 bw_347 bw_223 bw_345) rfl rfl rfl (by decide +kernel) ⟨(by rw [hR]; exact Nat.le_of_ble_eq_true rfl), (by rw [hR]; exact Nat.le_of_ble_eq_true rfl)⟩) ⟨cP_blind, va_recv hKc hPc (ci := 8) (q0 := 0) rfl rfl, cP_at hPc hKc hDc hN⟩ rfl rfl hl.1 rfl (lv_room (Nat.le_of_ble_eq_true rfl)) dX8_region_2 ⟨(by rw [hR]; exact Nat.le_of_ble_eq_true rfl), (by rw [hR]; exact Nat.le_of_ble_eq_true rfl)⟩) hS (fun q _ h => hFc q h) hFc (fun r_1 u9 t9 H1 locs ht hvm hr_1 hB hz1 hk1 hS => ?_)
  try dsimp only at hr_1
  obtain ⟨hP1, hK1, hD1⟩ := hB
  rw [ht] at hP1
  obtain ⟨hP, hD⟩ := va_join (wr := [(t0, .inr (5, [.ref d0, .int w, .int h]))]) (w1 := [(h0, .inr (8, [.ref s1, .ref s2, .ref s3, .ref s4, .ref s5, .ref s6, .int ds, va_rf sp, va_rf bt])), (s1, .inl (cO, 4, .inr (.inr (.inr (.inr f)))))]) hP hD [0, 1] [2] rfl rfl (by decide) (by decide) hk1 hFc hP1 hD1
  clear hz1 hk1 hFc hKc hDc hPc
  generalize H1 = H at hP hS ⊢
  have hP : va_P D vwCl [(t0, .inr (5, [.ref d0, .int w, .int h])), (h0, .inr (8, [.ref s1, .ref s2, .ref s3, .ref s4, .ref s5, .ref s6, .int ds, va_rf sp, va_rf bt])), (s1, .inl (cO, 4, .inr (.inr (.inr (.inr f)))))] H := hP
  have hD : va_D A [(t0, .inr (5, [.ref d0, .int w, .int h])), (h0, .inr (8, [.ref s1, .ref s2, .ref s3, .ref s4, .ref s5, .ref s6, .int ds, va_rf sp, va_rf bt])), (s1, .inl (cO, 4, .inr (.inr (.inr (.inr f)))))] := hD
  subst hr_1
  refine my_topv (v := .ref t0) rfl ?_
  refine lv_astore (lv' := [(5, .ref t0), (0, .ref h0), (1, .int k), (2, .int x), (3, .int y), (4, .int co)]) hx hb dX8_region_5 hl (by decide) rfl (fun ls hl => ?_)
  refine lv_aload hx hb dX8_region_7 (lv_at hl 0 rfl) ?_
  refine lv_ifnull hx hb dX8_region_9 ?_
  refine lv_aload hx hb dX8_region_12 (lv_at hl 0 rfl) ?_
  refine lv_iload_n hx hb dX8_region_14 rfl (lv_at hl 3 rfl) ?_
  refine lv_iload_n hx hb dX8_region_15 rfl (lv_at hl 4 rfl) ?_
  have hPc := hP.sub (ws' := [(t0, .inr (5, [.ref d0, .int w, .int h]))]) [0] rfl
  have hDc := hD.sub (ws' := [(t0, .inr (5, [.ref d0, .int w, .int h]))]) [0] (by decide) rfl
  have hKc := hK.sub (tys' := []) [] rfl
  have hFc := va_free (wc := [(t0, .inr (5, [.ref d0, .int w, .int h]))]) hD hS hA [0] rfl
  refine va_calli (va_runV (As := [.int x, .int y]) (rest := []) ⟨hx, hb, hml, hown, hts⟩ (k_X5_has l D H.size t0 d0 w h x y) (cwV 2 hts (gV bw_309 bw_150 bw_151 bw_130 bw_149) rfl rfl rfl (by decide +kernel) ⟨(by rw [hR]; exact Nat.le_of_ble_eq_true rfl), (by rw [hR]; exact Nat.le_of_ble_eq_true rfl)⟩) ⟨cP_blind, va_recv hKc hPc (ci := 5) (q0 := 0) rfl rfl, cP_at hPc hKc hDc hN⟩ rfl rfl hl.1 rfl (lv_room (Nat.le_of_ble_eq_true rfl)) dX8_region_16 ⟨(by rw [hR]; exact Nat.le_of_ble_eq_true rfl), (by rw [hR]; exact Nat.le_of_ble_eq_true rfl)⟩) hS (fun q _ h => hFc q h) hFc (fun r_2 u9 t9 H1 locs ht hvm hr_2 hB hz1 hk1 hS => ?_)
  try dsimp only at hr_2
  obtain ⟨hP1, hK1, hD1⟩ := hB
  rw [ht] at hP1
  obtain ⟨hP, hD⟩ := va_join (wr := [(h0, .inr (8, [.ref s1, .ref s2, .ref s3, .ref s4, .ref s5, .ref s6, .int ds, va_rf sp, va_rf bt])), (s1, .inl (cO, 4, .inr (.inr (.inr (.inr f)))))]) (w1 := [(t0, .inr (5, [.ref d0, .int w, .int h]))]) hP hD [0] [1, 2] rfl rfl (by decide) (by decide) hk1 hFc hP1 hD1
  clear hz1 hk1 hFc hKc hDc hPc
  generalize H1 = H at hP hS ⊢
  have hP : va_P D vwCl [(h0, .inr (8, [.ref s1, .ref s2, .ref s3, .ref s4, .ref s5, .ref s6, .int ds, va_rf sp, va_rf bt])), (s1, .inl (cO, 4, .inr (.inr (.inr (.inr f))))), (t0, .inr (5, [.ref d0, .int w, .int h]))] H := hP
  have hD : va_D A [(h0, .inr (8, [.ref s1, .ref s2, .ref s3, .ref s4, .ref s5, .ref s6, .int ds, va_rf sp, va_rf bt])), (s1, .inl (cO, 4, .inr (.inr (.inr (.inr f))))), (t0, .inr (5, [.ref d0, .int w, .int h]))] := hD
  refine lv_if_ne (tgt := 24) hx hb dX8_region_19 (by decide) (fun c_3 => ?_) (fun c_3 => ?_)
  · skip
    have f_4 := bz1 hr_2 c_3
    exact False.elim (by omega)
  · skip
    have f_4 := bz0 hr_2 c_3
    refine lv_iconst (v := (-1)) hx hb dX8_region_22 (by decide) ?_
    have hP9 := hP.sub (ws' := [(h0, .inr (8, [.ref s1, .ref s2, .ref s3, .ref s4, .ref s5, .ref s6, .int ds, va_rf sp, va_rf bt])), (s1, .inl (cO, 4, .inr (.inr (.inr (.inr f))))), (t0, .inr (5, [.ref d0, .int w, .int h]))]) [0, 1, 2] rfl
    have hD9 := hD.sub (ws' := [(h0, .inr (8, [.ref s1, .ref s2, .ref s3, .ref s4, .ref s5, .ref s6, .int ds, va_rf sp, va_rf bt])), (s1, .inl (cO, 4, .inr (.inr (.inr (.inr f))))), (t0, .inr (5, [.ref d0, .int w, .int h]))]) [0, 1, 2] (by decide) rfl
    have hK9 := hK.sub (tys' := [(cO, .object "DotBench$Sheet")]) [0] rfl
    refine hQ _ _ _ _ _ ?_
    exact W.iret (v := (-1)) hx hb hr (fun t ht hW => ⟨⟨(-1), (), rfl, rfl, ⟨by rw [ht]; exact hP9, va_K.moved hW.alike hK9, hD9⟩⟩, hS.F ht⟩) hS.2.2 dX8_region_23
