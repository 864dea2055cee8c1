set_option maxHeartbeats 4000000 in
set_option maxRecDepth 100000 in
theorem k_X8_dot_y (l : Launch) (D : va_G) (sz : Nat) (h0 s1 s2 s3 s4 s5 s6 : Nat) (ds : Int32) (sp bt : Option Nat) (f : Nat → Option Nat) (t0 d0 : Nat) (w h : Int32) (g : Nat → Int32) (k x y : Int32) (cO : ClassId) (cI : ClassId) (hk : 0 ≤ k.toInt ∧ k.toInt ≤ 3) (hf : f k.toNatClampNeg = some t0) (hw : w.toInt ≤ 64) (hh : h.toInt ≤ 64) : Met l yX8_dot (wB yX8_dot cX8_dot 5 (some .int)) ({ frames := 2, cells := 0, slots := 0, locals := 44 }) (cP D [(h0, .inr (8, [.ref s1, .ref s2, .ref s3, .ref s4, .ref s5, .ref s6, .int ds, va_rf sp, va_rf bt])), (s1, .inl (cO, 4, .inr (.inr (.inr (.inr f))))), (t0, .inr (5, [.ref d0, .int w, .int h])), (d0, .inl (cI, 4096, .inl g))] [(cO, .object "DotBench$Sheet"), (cI, .int)] sz [.ref h0, .int k, .int x, .int y]) (va_Qi (fun (r : Int32) (_ : Unit) => r = if 0 ≤ x.toInt ∧ x.toInt < w.toInt ∧ 0 ≤ y.toInt ∧ y.toInt < h.toInt then g (ixP x y) else 0) (fun (_ : Unit) (t : State) => cB D (va_A [(h0, .inr (8, [.ref s1, .ref s2, .ref s3, .ref s4, .ref s5, .ref s6, .int ds, va_rf sp, va_rf bt])), (s1, .inl (cO, 4, .inr (.inr (.inr (.inr f))))), (t0, .inr (5, [.ref d0, .int w, .int h])), (d0, .inl (cI, 4096, .inl g))] sz) [(h0, .inr (8, [.ref s1, .ref s2, .ref s3, .ref s4, .ref s5, .ref s6, .int ds, va_rf sp, va_rf bt])), (s1, .inl (cO, 4, .inr (.inr (.inr (.inr f))))), (t0, .inr (5, [.ref d0, .int w, .int h])), (d0, .inl (cI, 4096, .inl g))] [(cO, .object "DotBench$Sheet"), (cI, .int)] t) (va_A [(h0, .inr (8, [.ref s1, .ref s2, .ref s3, .ref s4, .ref s5, .ref s6, .int ds, va_rf sp, va_rf bt])), (s1, .inl (cO, 4, .inr (.inr (.inr (.inr f))))), (t0, .inr (5, [.ref d0, .int w, .int h])), (d0, .inl (cI, 4096, .inl g))] sz)) 0 0 (va_A [(h0, .inr (8, [.ref s1, .ref s2, .ref s3, .ref s4, .ref s5, .ref s6, .int ds, va_rf sp, va_rf bt])), (s1, .inl (cO, 4, .inr (.inr (.inr (.inr f))))), (t0, .inr (5, [.ref d0, .int w, .int h])), (d0, .inl (cI, 4096, .inl g))] sz) := by
  refine Met.ofW (cc := cX8_dot) (maxL := 5) (ret := (some .int)) (by decide) rfl ?_
  intro p e s m args below meth c s₁ B hml hv
  obtain ⟨rfl, hsz, hP, hK, hD0, hN⟩ := hv
  have hx := B.exec
  have hb := B.bytes
  have hr := B.returns
  have hts0 := atoms_spec (ws := (wB yX8_dot cX8_dot 5 (some .int))) B.pre
  have hts : ∀ w ∈ bigW, w.before _ s = true := fun w h => hts0 w (List.mem_cons_of_mem _ h)
  have hown : s.vm.findClass RX8 = some m.cls := findClass_of_methodNamed B.named
  have hlocks := B.notSynchronized
  subst hsz
  have hD := hD0.self (sz := s.heap.size)
  generalize hAe : va_A [(h0, .inr (8, [.ref s1, .ref s2, .ref s3, .ref s4, .ref s5, .ref s6, .int ds, va_rf sp, va_rf bt])), (s1, .inl (cO, 4, .inr (.inr (.inr (.inr f))))), (t0, .inr (5, [.ref d0, .int w, .int h])), (d0, .inl (cI, 4096, .inl g))] s.heap.size = A at hD ⊢
  have hA : ∀ q : Nat, s.heap.size ≤ q → A q := fun q h => by rw [← hAe]; exact Or.inr h
  have hS : va_S A s.heap s.heap [] := va_S.rf
  have hP : va_P D vwCl [(h0, .inr (8, [.ref s1, .ref s2, .ref s3, .ref s4, .ref s5, .ref s6, .int ds, va_rf sp, va_rf bt])), (s1, .inl (cO, 4, .inr (.inr (.inr (.inr f))))), (t0, .inr (5, [.ref d0, .int w, .int h])), (d0, .inl (cI, 4096, .inl g))] s.heap := hP
  have hl := lv_entry ([.ref h0, .int k, .int x, .int y]) (n := 5) (Nat.le_of_ble_eq_true rfl)
  rw [lg_entry_eq]
  generalize (lg_sl ([.ref h0, .int k, .int x, .int y]) ++ List.replicate (5 - (lg_sl ([.ref h0, .int k, .int x, .int y])).length) Slot.unset).toArray = ls at hl ⊢
  have hl : lv_has ls 5 [(0, .ref h0), (1, .int k), (2, .int x), (3, .int y)] := hl
  clear hts0 hD0 hAe
  refine my_abs (fun R Q hR hQ => ?_)
  refine lv_aload_n hx hb dX8_dot_0 rfl (lv_at hl 0 rfl) ?_
  refine lv_iload_n hx hb dX8_dot_1 rfl (lv_at hl 1 rfl) ?_
  have hPc := hP.sub (ws' := [(h0, .inr (8, [.ref s1, .ref s2, .ref s3, .ref s4, .ref s5, .ref s6, .int ds, va_rf sp, va_rf bt])), (s1, .inl (cO, 4, .inr (.inr (.inr (.inr f)))))]) [0, 1] rfl
  have hDc := hD.sub (ws' := [(h0, .inr (8, [.ref s1, .ref s2, .ref s3, .ref s4, .ref s5, .ref s6, .int ds, va_rf sp, va_rf bt])), (s1, .inl (cO, 4, .inr (.inr (.inr (.inr f)))))]) [0, 1] (by decide) rfl
  have hKc := hK.sub (tys' := [(cO, .object "DotBench$Sheet")]) [0] rfl
  have hFc := va_free (wc := [(h0, .inr (8, [.ref s1, .ref s2, .ref s3, .ref s4, .ref s5, .ref s6, .int ds, va_rf sp, va_rf bt])), (s1, .inl (cO, 4, .inr (.inr (.inr (.inr f)))))]) hD hS hA [0, 1] rfl
  refine va_callq (va_runV (As := [.int k]) (rest := []) ⟨hx, hb, hml, hown, hts⟩ (k_X8_sheetAt_y l D s.heap.size h0 s1 s2 s3 s4 s5 s6 ds sp bt f k t0 cO (by first | assumption | omega | decide) (by first | assumption | omega | decide)) (cwV 1 hts (gV bw_267 bw_346 bw_347 bw_223 bw_345) rfl rfl rfl (by decide +kernel) ⟨(by rw [hR]; exact Nat.le_of_ble_eq_true rfl), (by rw [hR]; exact Nat.le_of_ble_eq_true rfl)⟩) ⟨cP_blind, va_recv hKc hPc (ci := 8) (q0 := 0) rfl rfl, cP_at hPc hKc hDc hN⟩ rfl rfl hl.1 rfl (lv_room (Nat.le_of_ble_eq_true rfl)) dX8_dot_2 ⟨(by rw [hR]; exact Nat.le_of_ble_eq_true rfl), (by rw [hR]; exact Nat.le_of_ble_eq_true rfl)⟩) hS (fun q _ h => hFc q h) hFc (fun r_1 u9 t9 H1 locs ht hvm hr_1 hB hz1 hk1 hS => ?_)
  try dsimp only at hr_1
  obtain ⟨hP1, hK1, hD1⟩ := hB
  rw [ht] at hP1
  obtain ⟨hP, hD⟩ := va_join (wr := [(t0, .inr (5, [.ref d0, .int w, .int h])), (d0, .inl (cI, 4096, .inl g))]) (w1 := [(h0, .inr (8, [.ref s1, .ref s2, .ref s3, .ref s4, .ref s5, .ref s6, .int ds, va_rf sp, va_rf bt])), (s1, .inl (cO, 4, .inr (.inr (.inr (.inr f)))))]) hP hD [0, 1] [2, 3] rfl rfl (by decide) (by decide) hk1 hFc hP1 hD1
  clear hz1 hk1 hFc hKc hDc hPc
  generalize H1 = H at hP hS ⊢
  have hP : va_P D vwCl [(t0, .inr (5, [.ref d0, .int w, .int h])), (d0, .inl (cI, 4096, .inl g)), (h0, .inr (8, [.ref s1, .ref s2, .ref s3, .ref s4, .ref s5, .ref s6, .int ds, va_rf sp, va_rf bt])), (s1, .inl (cO, 4, .inr (.inr (.inr (.inr f)))))] H := hP
  have hD : va_D A [(t0, .inr (5, [.ref d0, .int w, .int h])), (d0, .inl (cI, 4096, .inl g)), (h0, .inr (8, [.ref s1, .ref s2, .ref s3, .ref s4, .ref s5, .ref s6, .int ds, va_rf sp, va_rf bt])), (s1, .inl (cO, 4, .inr (.inr (.inr (.inr f)))))] := hD
  subst hr_1
  refine my_topv (v := .ref t0) rfl ?_
  refine lv_astore (lv' := [(4, .ref t0), (0, .ref h0), (1, .int k), (2, .int x), (3, .int y)]) hx hb dX8_dot_5 hl (by decide) rfl (fun ls hl => ?_)
  refine lv_aload hx hb dX8_dot_7 (lv_at hl 0 rfl) ?_
  refine lv_ifnonnull (tgt := 16) hx hb dX8_dot_9 (by decide) ?_
  refine lv_aload hx hb dX8_dot_16 (lv_at hl 0 rfl) ?_
  refine lv_iload_n hx hb dX8_dot_18 rfl (lv_at hl 3 rfl) ?_
  refine lv_iload_n hx hb dX8_dot_19 rfl (lv_at hl 4 rfl) ?_
  have hPc := hP.sub (ws' := [(t0, .inr (5, [.ref d0, .int w, .int h])), (d0, .inl (cI, 4096, .inl g))]) [0, 1] rfl
  have hDc := hD.sub (ws' := [(t0, .inr (5, [.ref d0, .int w, .int h])), (d0, .inl (cI, 4096, .inl g))]) [0, 1] (by decide) rfl
  have hKc := hK.sub (tys' := [(cI, .int)]) [1] rfl
  have hFc := va_free (wc := [(t0, .inr (5, [.ref d0, .int w, .int h])), (d0, .inl (cI, 4096, .inl g))]) hD hS hA [0, 1] rfl
  refine va_calli (va_runV (As := [.int x, .int y]) (rest := []) ⟨hx, hb, hml, hown, hts⟩ (k_X5_at l D H.size t0 d0 w h g x y cI (by first | assumption | omega | decide) (by first | assumption | omega | decide)) (cwV 2 hts (gV bw_325 bw_153 bw_154 bw_130 bw_152) rfl rfl rfl (by decide +kernel) ⟨(by rw [hR]; exact Nat.le_of_ble_eq_true rfl), (by rw [hR]; exact Nat.le_of_ble_eq_true rfl)⟩) ⟨cP_blind, va_recv hKc hPc (ci := 5) (q0 := 0) rfl rfl, cP_at hPc hKc hDc hN⟩ rfl rfl hl.1 rfl (lv_room (Nat.le_of_ble_eq_true rfl)) dX8_dot_20 ⟨(by rw [hR]; exact Nat.le_of_ble_eq_true rfl), (by rw [hR]; exact Nat.le_of_ble_eq_true rfl)⟩) hS (fun q _ h => hFc q h) hFc (fun r_2 u9 t9 H1 locs ht hvm hr_2 hB hz1 hk1 hS => ?_)
  try dsimp only at hr_2
  obtain ⟨hP1, hK1, hD1⟩ := hB
  rw [ht] at hP1
  obtain ⟨hP, hD⟩ := va_join (wr := [(h0, .inr (8, [.ref s1, .ref s2, .ref s3, .ref s4, .ref s5, .ref s6, .int ds, va_rf sp, va_rf bt])), (s1, .inl (cO, 4, .inr (.inr (.inr (.inr f)))))]) (w1 := [(t0, .inr (5, [.ref d0, .int w, .int h])), (d0, .inl (cI, 4096, .inl g))]) hP hD [0, 1] [2, 3] rfl rfl (by decide) (by decide) hk1 hFc hP1 hD1
  clear hz1 hk1 hFc hKc hDc hPc
  generalize H1 = H at hP hS ⊢
  have hP : va_P D vwCl [(h0, .inr (8, [.ref s1, .ref s2, .ref s3, .ref s4, .ref s5, .ref s6, .int ds, va_rf sp, va_rf bt])), (s1, .inl (cO, 4, .inr (.inr (.inr (.inr f))))), (t0, .inr (5, [.ref d0, .int w, .int h])), (d0, .inl (cI, 4096, .inl g))] H := hP
  have hD : va_D A [(h0, .inr (8, [.ref s1, .ref s2, .ref s3, .ref s4, .ref s5, .ref s6, .int ds, va_rf sp, va_rf bt])), (s1, .inl (cO, 4, .inr (.inr (.inr (.inr f))))), (t0, .inr (5, [.ref d0, .int w, .int h])), (d0, .inl (cI, 4096, .inl g))] := hD
  have hP9 := hP.sub (ws' := [(h0, .inr (8, [.ref s1, .ref s2, .ref s3, .ref s4, .ref s5, .ref s6, .int ds, va_rf sp, va_rf bt])), (s1, .inl (cO, 4, .inr (.inr (.inr (.inr f))))), (t0, .inr (5, [.ref d0, .int w, .int h])), (d0, .inl (cI, 4096, .inl g))]) [0, 1, 2, 3] rfl
  have hD9 := hD.sub (ws' := [(h0, .inr (8, [.ref s1, .ref s2, .ref s3, .ref s4, .ref s5, .ref s6, .int ds, va_rf sp, va_rf bt])), (s1, .inl (cO, 4, .inr (.inr (.inr (.inr f))))), (t0, .inr (5, [.ref d0, .int w, .int h])), (d0, .inl (cI, 4096, .inl g))]) [0, 1, 2, 3] (by decide) rfl
  have hK9 := hK.sub (tys' := [(cO, .object "DotBench$Sheet"), (cI, .int)]) [0, 1] rfl
  refine hQ _ _ _ _ _ ?_
  exact W.iret (v := r_2) hx hb hr (fun t ht hW => ⟨⟨r_2, (), rfl, hr_2, ⟨by rw [ht]; exact hP9, va_K.moved hW.alike hK9, hD9⟩⟩, hS.F ht⟩) hS.2.2 dX8_dot_23

set_option maxHeartbeats 4000000 in
set_option maxRecDepth 100000 in
theorem k_X8_differ_nn (l : Launch) (D : va_G) (sz : Nat) (h0 s1 s2 s3 s4 s5 s6 : Nat) (ds : Int32) (sp bt : Option Nat) (f : Nat → Option Nat) (k kq : Int32) (cO : ClassId) (haf : 0 ≤ k.toInt ∧ k.toInt ≤ 3 → f k.toNatClampNeg = none) (hb0f : 0 ≤ kq.toInt ∧ kq.toInt ≤ 3 → f kq.toNatClampNeg = none) : Met l yX8_differ (wB yX8_differ cX8_differ 8 (some .int)) ({ frames := 1, cells := 0, slots := 0, locals := 21 }) (cP D [(h0, .inr (8, [.ref s1, .ref s2, .ref s3, .ref s4, .ref s5, .ref s6, .int ds, va_rf sp, va_rf bt])), (s1, .inl (cO, 4, .inr (.inr (.inr (.inr f)))))] [(cO, .object "DotBench$Sheet")] sz [.ref h0, .int k, .int kq]) (va_Qi (fun (r : Int32) (_ : Unit) => r = -1) (fun (_ : Unit) (t : State) => cB D (va_A [(h0, .inr (8, [.ref s1, .ref s2, .ref s3, .ref s4, .ref s5, .ref s6, .int ds, va_rf sp, va_rf bt])), (s1, .inl (cO, 4, .inr (.inr (.inr (.inr f)))))] sz) [(h0, .inr (8, [.ref s1, .ref s2, .ref s3, .ref s4, .ref s5, .ref s6, .int ds, va_rf sp, va_rf bt])), (s1, .inl (cO, 4, .inr (.inr (.inr (.inr f)))))] [(cO, .object "DotBench$Sheet")] t) (va_A [(h0, .inr (8, [.ref s1, .ref s2, .ref s3, .ref s4, .ref s5, .ref s6, .int ds, va_rf sp, va_rf bt])), (s1, .inl (cO, 4, .inr (.inr (.inr (.inr f)))))] sz)) 0 0 (va_A [(h0, .inr (8, [.ref s1, .ref s2, .ref s3, .ref s4, .ref s5, .ref s6, .int ds, va_rf sp, va_rf bt])), (s1, .inl (cO, 4, .inr (.inr (.inr (.inr f)))))] sz) := by
  refine Met.ofW (cc := cX8_differ) (maxL := 8) (ret := (some .int)) (by decide) rfl ?_
  intro p e s m args below meth c s₁ B hml hv
  obtain ⟨rfl, hsz, hP, hK, hD0, hN⟩ := hv
  have hx := B.exec
  have hb := B.bytes
  have hr := B.returns
  have hts0 := atoms_spec (ws := (wB yX8_differ cX8_differ 8 (some .int))) B.pre
  have hts : ∀ w ∈ bigW, w.before _ s = true := fun w h => hts0 w (List.mem_cons_of_mem _ h)
  have hown : s.vm.findClass RX8 = some m.cls := findClass_of_methodNamed B.named
  have hlocks := B.notSynchronized
  subst hsz
  have hD := hD0.self (sz := s.heap.size)
  generalize hAe : va_A [(h0, .inr (8, [.ref s1, .ref s2, .ref s3, .ref s4, .ref s5, .ref s6, .int ds, va_rf sp, va_rf bt])), (s1, .inl (cO, 4, .inr (.inr (.inr (.inr f)))))] s.heap.size = A at hD ⊢
  have hA : ∀ q : Nat, s.heap.size ≤ q → A q := fun q h => by rw [← hAe]; exact Or.inr h
  have hS : va_S A s.heap s.heap [] := va_S.rf
  have hP : va_P D vwCl [(h0, .inr (8, [.ref s1, .ref s2, .ref s3, .ref s4, .ref s5, .ref s6, .int ds, va_rf sp, va_rf bt])), (s1, .inl (cO, 4, .inr (.inr (.inr (.inr f)))))] s.heap := hP
  have hl := lv_entry ([.ref h0, .int k, .int kq]) (n := 8) (Nat.le_of_ble_eq_true rfl)
  rw [lg_entry_eq]
  generalize (lg_sl ([.ref h0, .int k, .int kq]) ++ List.replicate (8 - (lg_sl ([.ref h0, .int k, .int kq])).length) Slot.unset).toArray = ls at hl ⊢
  have hl : lv_has ls 8 [(0, .ref h0), (1, .int k), (2, .int kq)] := hl
  clear hts0 hD0 hAe
  refine my_abs (fun R Q hR hQ => ?_)
  refine lv_aload_n hx hb dX8_differ_0 rfl (lv_at hl 0 rfl) ?_
  refine lv_iload_n hx hb dX8_differ_1 rfl (lv_at hl 1 rfl) ?_
  have hPc := hP.sub (ws' := [(h0, .inr (8, [.ref s1, .ref s2, .ref s3, .ref s4, .ref s5, .ref s6, .int ds, va_rf sp, va_rf bt])), (s1, .inl (cO, 4, .inr (.inr (.inr (.inr f)))))]) [0, 1] rfl
  have hDc := hD.sub (ws' := [(h0, .inr (8, [.ref s1, .ref s2, .ref s3, .ref s4, .ref s5, .ref s6, .int ds, va_rf sp, va_rf bt])), (s1, .inl (cO, 4, .inr (.inr (.inr (.inr f)))))]) [0, 1] (by decide) rfl
  have hKc := hK.sub (tys' := [(cO, .object "DotBench$Sheet")]) [0] rfl
  have hFc := va_free (wc := [(h0, .inr (8, [.ref s1, .ref s2, .ref s3, .ref s4, .ref s5, .ref s6, .int ds, va_rf sp, va_rf bt])), (s1, .inl (cO, 4, .inr (.inr (.inr (.inr f)))))]) hD hS hA [0, 1] rfl
  refine va_callq (va_runV (As := [.int k]) (rest := []) ⟨hx, hb, hml, hown, hts⟩ (k_X8_sheetAt_n l D s.heap.size h0 s1 s2 s3 s4 s5 s6 ds sp bt f k cO (by first | assumption | omega | decide)) (cwV 1 hts (gV bw_267 bw_346 bw_347 bw_223 bw_345) rfl rfl rfl (by decide +kernel) ⟨(by rw [hR]; exact Nat.le_of_ble_eq_true rfl), (by rw [hR]; exact Nat.le_of_ble_eq_true rfl)⟩) ⟨cP_blind, va_recv hKc hPc (ci := 8) (q0 := 0) rfl rfl, cP_at hPc hKc hDc hN⟩ rfl rfl hl.1 rfl (lv_room (Nat.le_of_ble_eq_true rfl)) dX8_differ_2 ⟨(by rw [hR]; exact Nat.le_of_ble_eq_true rfl), (by rw [hR]; exact Nat.le_of_ble_eq_true rfl)⟩) hS (fun q _ h => hFc q h) hFc (fun r_1 u9 t9 H1 locs ht hvm hr_1 hB hz1 hk1 hS => ?_)
  try dsimp only at hr_1
  obtain ⟨hP1, hK1, hD1⟩ := hB
  rw [ht] at hP1
  obtain ⟨hP, hD⟩ := va_join (wr := []) (w1 := [(h0, .inr (8, [.ref s1, .ref s2, .ref s3, .ref s4, .ref s5, .ref s6, .int ds, va_rf sp, va_rf bt])), (s1, .inl (cO, 4, .inr (.inr (.inr (.inr f)))))]) hP hD [0, 1] [] rfl rfl (by decide) (by decide) hk1 hFc hP1 hD1
  clear hz1 hk1 hFc hKc hDc hPc
  generalize H1 = H at hP hS ⊢
  have hP : va_P D vwCl [(h0, .inr (8, [.ref s1, .ref s2, .ref s3, .ref s4, .ref s5, .ref s6, .int ds, va_rf sp, va_rf bt])), (s1, .inl (cO, 4, .inr (.inr (.inr (.inr f)))))] H := hP
  have hD : va_D A [(h0, .inr (8, [.ref s1, .ref s2, .ref s3, .ref s4, .ref s5, .ref s6, .int ds, va_rf sp, va_rf bt])), (s1, .inl (cO, 4, .inr (.inr (.inr (.inr f)))))] := hD
  subst hr_1
  refine my_topv (v := .null) rfl ?_
  refine lv_astore_nN (lv' := [(3, .null), (0, .ref h0), (1, .int k), (2, .int kq)]) hx hb dX8_differ_5 rfl hl (by decide) rfl (fun ls hl => ?_)
  refine lv_aload_n hx hb dX8_differ_6 rfl (lv_at hl 1 rfl) ?_
  refine lv_iload_n hx hb dX8_differ_7 rfl (lv_at hl 3 rfl) ?_
  have hPc := hP.sub (ws' := [(h0, .inr (8, [.ref s1, .ref s2, .ref s3, .ref s4, .ref s5, .ref s6, .int ds, va_rf sp, va_rf bt])), (s1, .inl (cO, 4, .inr (.inr (.inr (.inr f)))))]) [0, 1] rfl
  have hDc := hD.sub (ws' := [(h0, .inr (8, [.ref s1, .ref s2, .ref s3, .ref s4, .ref s5, .ref s6, .int ds, va_rf sp, va_rf bt])), (s1, .inl (cO, 4, .inr (.inr (.inr (.inr f)))))]) [0, 1] (by decide) rfl
  have hKc := hK.sub (tys' := [(cO, .object "DotBench$Sheet")]) [0] rfl
  have hFc := va_free (wc := [(h0, .inr (8, [.ref s1, .ref s2, .ref s3, .ref s4, .ref s5, .ref s6, .int ds, va_rf sp, va_rf bt])), (s1, .inl (cO, 4, .inr (.inr (.inr (.inr f)))))]) hD hS hA [0, 1] rfl
  refine va_callq (va_runV (As := [.int kq]) (rest := []) ⟨hx, hb, hml, hown, hts⟩ (k_X8_sheetAt_n l D H.size h0 s1 s2 s3 s4 s5 s6 ds sp bt f kq cO (by first | assumption | omega | decide)) (cwV 1 hts (gV bw_267 bw_346 bw_347 bw_223 bw_345) rfl rfl rfl (by decide +kernel) ⟨(by rw [hR]; exact Nat.le_of_ble_eq_true rfl), (by rw [hR]; exact Nat.le_of_ble_eq_true rfl)⟩) ⟨cP_blind, va_recv hKc hPc (ci := 8) (q0 := 0) rfl rfl, cP_at hPc hKc hDc hN⟩ rfl rfl hl.1 rfl (lv_room (Nat.le_of_ble_eq_true rfl)) dX8_differ_8 ⟨(by rw [hR]; exact Nat.le_of_ble_eq_true rfl), (by rw [hR]; exact Nat.le_of_ble_eq_true rfl)⟩) hS (fun q _ h => hFc q h) hFc (fun r_2 u9 t9 H1 locs ht hvm hr_2 hB hz1 hk1 hS => ?_)
  try dsimp only at hr_2
  obtain ⟨hP1, hK1, hD1⟩ := hB
  rw [ht] at hP1
  obtain ⟨hP, hD⟩ := va_join (wr := []) (w1 := [(h0, .inr (8, [.ref s1, .ref s2, .ref s3, .ref s4, .ref s5, .ref s6, .int ds, va_rf sp, va_rf bt])), (s1, .inl (cO, 4, .inr (.inr (.inr (.inr f)))))]) hP hD [0, 1] [] rfl rfl (by decide) (by decide) hk1 hFc hP1 hD1
  clear hz1 hk1 hFc hKc hDc hPc
  generalize H1 = H at hP hS ⊢
  have hP : va_P D vwCl [(h0, .inr (8, [.ref s1, .ref s2, .ref s3, .ref s4, .ref s5, .ref s6, .int ds, va_rf sp, va_rf bt])), (s1, .inl (cO, 4, .inr (.inr (.inr (.inr f)))))] H := hP
  have hD : va_D A [(h0, .inr (8, [.ref s1, .ref s2, .ref s3, .ref s4, .ref s5, .ref s6, .int ds, va_rf sp, va_rf bt])), (s1, .inl (cO, 4, .inr (.inr (.inr (.inr f)))))] := hD
  subst hr_2
  refine my_topv (v := .null) rfl ?_
  refine lv_astoreN (lv' := [(4, .null), (3, .null), (0, .ref h0), (1, .int k), (2, .int kq)]) hx hb dX8_differ_11 hl (by decide) rfl (fun ls hl => ?_)
  refine lv_aload_nN hx hb dX8_differ_13 rfl (lv_at hl 1 rfl) ?_
  refine lv_ifnullN (tgt := 46) hx hb dX8_differ_14 (by decide) ?_
  refine lv_iconst (v := (-1)) hx hb dX8_differ_46 (by decide) ?_
  have hP9 := hP.sub (ws' := [(h0, .inr (8, [.ref s1, .ref s2, .ref s3, .ref s4, .ref s5, .ref s6, .int ds, va_rf sp, va_rf bt])), (s1, .inl (cO, 4, .inr (.inr (.inr (.inr f)))))]) [0, 1] rfl
  have hD9 := hD.sub (ws' := [(h0, .inr (8, [.ref s1, .ref s2, .ref s3, .ref s4, .ref s5, .ref s6, .int ds, va_rf sp, va_rf bt])), (s1, .inl (cO, 4, .inr (.inr (.inr (.inr f)))))]) [0, 1] (by decide) rfl
  have hK9 := hK.sub (tys' := [(cO, .object "DotBench$Sheet")]) [0] rfl
  refine hQ _ _ _ _ _ ?_
  exact W.iret (v := (-1)) hx hb hr (fun t ht hW => ⟨⟨(-1), (), rfl, rfl, ⟨by rw [ht]; exact hP9, va_K.moved hW.alike hK9, hD9⟩⟩, hS.F ht⟩) hS.2.2 dX8_differ_47

set_option maxHeartbeats 4000000 in
set_option maxRecDepth 100000 in
theorem k_X8_differ_ny (l : Launch) (D : va_G) (sz : Nat) (h0 s1 s2 s3 s4 s5 s6 : Nat) (ds : Int32) (sp bt : Option Nat) (f : Nat → Option Nat) (t0 : Nat) (k kq : Int32) (cO : ClassId) (haf : 0 ≤ k.toInt ∧ k.toInt ≤ 3 → f k.toNatClampNeg = none) (hb0k : 0 ≤ kq.toInt ∧ kq.toInt ≤ 3) (hb0f : f kq.toNatClampNeg = some t0) : Met l yX8_differ (wB yX8_differ cX8_differ 8 (some .int)) ({ frames := 1, cells := 0, slots := 0, locals := 21 }) (cP D [(h0, .inr (8, [.ref s1, .ref s2, .ref s3, .ref s4, .ref s5, .ref s6, .int ds, va_rf sp, va_rf bt])), (s1, .inl (cO, 4, .inr (.inr (.inr (.inr f)))))] [(cO, .object "DotBench$Sheet")] sz [.ref h0, .int k, .int kq]) (va_Qi (fun (r : Int32) (_ : Unit) => r = -1) (fun (_ : Unit) (t : State) => cB D (va_A [(h0, .inr (8, [.ref s1, .ref s2, .ref s3, .ref s4, .ref s5, .ref s6, .int ds, va_rf sp, va_rf bt])), (s1, .inl (cO, 4, .inr (.inr (.inr (.inr f)))))] sz) [(h0, .inr (8, [.ref s1, .ref s2, .ref s3, .ref s4, .ref s5, .ref s6, .int ds, va_rf sp, va_rf bt])), (s1, .inl (cO, 4, .inr (.inr (.inr (.inr f)))))] [(cO, .object "DotBench$Sheet")] t) (va_A [(h0, .inr (8, [.ref s1, .ref s2, .ref s3, .ref s4, .ref s5, .ref s6, .int ds, va_rf sp, va_rf bt])), (s1, .inl (cO, 4, .inr (.inr (.inr (.inr f)))))] sz)) 0 0 (va_A [(h0, .inr (8, [.ref s1, .ref s2, .ref s3, .ref s4, .ref s5, .ref s6, .int ds, va_rf sp, va_rf bt])), (s1, .inl (cO, 4, .inr (.inr (.inr (.inr f)))))] sz) := by
  refine Met.ofW (cc := cX8_differ) (maxL := 8) (ret := (some .int)) (by decide) rfl ?_
  intro p e s m args below meth c s₁ B hml hv
  obtain ⟨rfl, hsz, hP, hK, hD0, hN⟩ := hv
  have hx := B.exec
  have hb := B.bytes
  have hr := B.returns
  have hts0 := atoms_spec (ws := (wB yX8_differ cX8_differ 8 (some .int))) B.pre
  have hts : ∀ w ∈ bigW, w.before _ s = true := fun w h => hts0 w (List.mem_cons_of_mem _ h)
  have hown : s.vm.findClass RX8 = some m.cls := findClass_of_methodNamed B.named
  have hlocks := B.notSynchronized
  subst hsz
  have hD := hD0.self (sz := s.heap.size)
  generalize hAe : va_A [(h0, .inr (8, [.ref s1, .ref s2, .ref s3, .ref s4, .ref s5, .ref s6, .int ds, va_rf sp, va_rf bt])), (s1, .inl (cO, 4, .inr (.inr (.inr (.inr f)))))] s.heap.size = A at hD ⊢
  have hA : ∀ q : Nat, s.heap.size ≤ q → A q := fun q h => by rw [← hAe]; exact Or.inr h
  have hS : va_S A s.heap s.heap [] := va_S.rf
  have hP : va_P D vwCl [(h0, .inr (8, [.ref s1, .ref s2, .ref s3, .ref s4, .ref s5, .ref s6, .int ds, va_rf sp, va_rf bt])), (s1, .inl (cO, 4, .inr (.inr (.inr (.inr f)))))] s.heap := hP
  have hl := lv_entry ([.ref h0, .int k, .int kq]) (n := 8) (Nat.le_of_ble_eq_true rfl)
  rw [lg_entry_eq]
  generalize (lg_sl ([.ref h0, .int k, .int kq]) ++ List.replicate (8 - (lg_sl ([.ref h0, .int k, .int kq])).length) Slot.unset).toArray = ls at hl ⊢
  have hl : lv_has ls 8 [(0, .ref h0), (1, .int k), (2, .int kq)] := hl
  clear hts0 hD0 hAe
  refine my_abs (fun R Q hR hQ => ?_)
  refine lv_aload_n hx hb dX8_differ_0 rfl (lv_at hl 0 rfl) ?_
  refine lv_iload_n hx hb dX8_differ_1 rfl (lv_at hl 1 rfl) ?_
  have hPc := hP.sub (ws' := [(h0, .inr (8, [.ref s1, .ref s2, .ref s3, .ref s4, .ref s5, .ref s6, .int ds, va_rf sp, va_rf bt])), (s1, .inl (cO, 4, .inr (.inr (.inr (.inr f)))))]) [0, 1] rfl
  have hDc := hD.sub (ws' := [(h0, .inr (8, [.ref s1, .ref s2, .ref s3, .ref s4, .ref s5, .ref s6, .int ds, va_rf sp, va_rf bt])), (s1, .inl (cO, 4, .inr (.inr (.inr (.inr f)))))]) [0, 1] (by decide) rfl
  have hKc := hK.sub (tys' := [(cO, .object "DotBench$Sheet")]) [0] rfl
  have hFc := va_free (wc := [(h0, .inr (8, [.ref s1, .ref s2, .ref s3, .ref s4, .ref s5, .ref s6, .int ds, va_rf sp, va_rf bt])), (s1, .inl (cO, 4, .inr (.inr (.inr (.inr f)))))]) hD hS hA [0, 1] rfl
  refine va_callq (va_runV (As := [.int k]) (rest := []) ⟨hx, hb, hml, hown, hts⟩ (k_X8_sheetAt_n l D s.heap.size h0 s1 s2 s3 s4 s5 s6 ds sp bt f k cO (by first | assumption | omega | decide)) (cwV 1 hts (gV bw_267 bw_346 bw_347 bw_223 bw_345) rfl rfl rfl (by decide +kernel) ⟨(by rw [hR]; exact Nat.le_of_ble_eq_true rfl), (by rw [hR]; exact Nat.le_of_ble_eq_true rfl)⟩) ⟨cP_blind, va_recv hKc hPc (ci := 8) (q0 := 0) rfl rfl, cP_at hPc hKc hDc hN⟩ rfl rfl hl.1 rfl (lv_room (Nat.le_of_ble_eq_true rfl)) dX8_differ_2 ⟨(by rw [hR]; exact Nat.le_of_ble_eq_true rfl), (by rw [hR]; exact Nat.le_of_ble_eq_true rfl)⟩) hS (fun q _ h => hFc q h) hFc (fun r_1 u9 t9 H1 locs ht hvm hr_1 hB hz1 hk1 hS => ?_)
  try dsimp only at hr_1
  obtain ⟨hP1, hK1, hD1⟩ := hB
  rw [ht] at hP1
  obtain ⟨hP, hD⟩ := va_join (wr := []) (w1 := [(h0, .inr (8, [.ref s1, .ref s2, .ref s3, .ref s4, .ref s5, .ref s6, .int ds, va_rf sp, va_rf bt])), (s1, .inl (cO, 4, .inr (.inr (.inr (.inr f)))))]) hP hD [0, 1] [] rfl rfl (by decide) (by decide) hk1 hFc hP1 hD1
  clear hz1 hk1 hFc hKc hDc hPc
  generalize H1 = H at hP hS ⊢
  have hP : va_P D vwCl [(h0, .inr (8, [.ref s1, .ref s2, .ref s3, .ref s4, .ref s5, .ref s6, .int ds, va_rf sp, va_rf bt])), (s1, .inl (cO, 4, .inr (.inr (.inr (.inr f)))))] H := hP
  have hD : va_D A [(h0, .inr (8, [.ref s1, .ref s2, .ref s3, .ref s4, .ref s5, .ref s6, .int ds, va_rf sp, va_rf bt])), (s1, .inl (cO, 4, .inr (.inr (.inr (.inr f)))))] := hD
  subst hr_1
  refine my_topv (v := .null) rfl ?_
  refine lv_astore_nN (lv' := [(3, .null), (0, .ref h0), (1, .int k), (2, .int kq)]) hx hb dX8_differ_5 rfl hl (by decide) rfl (fun ls hl => ?_)
  refine lv_aload_n hx hb dX8_differ_6 rfl (lv_at hl 1 rfl) ?_
  refine lv_iload_n hx hb dX8_differ_7 rfl (lv_at hl 3 rfl) ?_
  have hPc := hP.sub (ws' := [(h0, .inr (8, [.ref s1, .ref s2, .ref s3, .ref s4, .ref s5, .ref s6, .int ds, va_rf sp, va_rf bt])), (s1, .inl (cO, 4, .inr (.inr (.inr (.inr f)))))]) [0, 1] rfl
  have hDc := hD.sub (ws' := [(h0, .inr (8, [.ref s1, .ref s2, .ref s3, .ref s4, .ref s5, .ref s6, .int ds, va_rf sp, va_rf bt])), (s1, .inl (cO, 4, .inr (.inr (.inr (.inr f)))))]) [0, 1] (by decide) rfl
  have hKc := hK.sub (tys' := [(cO, .object "DotBench$Sheet")]) [0] rfl
  have hFc := va_free (wc := [(h0, .inr (8, [.ref s1, .ref s2, .ref s3, .ref s4, .ref s5, .ref s6, .int ds, va_rf sp, va_rf bt])), (s1, .inl (cO, 4, .inr (.inr (.inr (.inr f)))))]) hD hS hA [0, 1] rfl
  refine va_callq (va_runV (As := [.int kq]) (rest := []) ⟨hx, hb, hml, hown, hts⟩ (k_X8_sheetAt_y l D H.size h0 s1 s2 s3 s4 s5 s6 ds sp bt f kq t0 cO (by first | assumption | omega | decide) (by first | assumption | omega | decide)) (cwV 1 hts (gV bw_267 bw_346 bw_347 bw_223 bw_345) rfl rfl rfl (by decide +kernel) ⟨(by rw [hR]; exact Nat.le_of_ble_eq_true rfl), (by rw [hR]; exact Nat.le_of_ble_eq_true rfl)⟩) ⟨cP_blind, va_recv hKc hPc (ci := 8) (q0 := 0) rfl rfl, cP_at hPc hKc hDc hN⟩ rfl rfl hl.1 rfl (lv_room (Nat.le_of_ble_eq_true rfl)) dX8_differ_8 ⟨(by rw [hR]; exact Nat.le_of_ble_eq_true rfl), (by rw [hR]; exact Nat.le_of_ble_eq_true rfl)⟩) hS (fun q _ h => hFc q h) hFc (fun r_2 u9 t9 H1 locs ht hvm hr_2 hB hz1 hk1 hS => ?_)
  try dsimp only at hr_2
  obtain ⟨hP1, hK1, hD1⟩ := hB
  rw [ht] at hP1
  obtain ⟨hP, hD⟩ := va_join (wr := []) (w1 := [(h0, .inr (8, [.ref s1, .ref s2, .ref s3, .ref s4, .ref s5, .ref s6, .int ds, va_rf sp, va_rf bt])), (s1, .inl (cO, 4, .inr (.inr (.inr (.inr f)))))]) hP hD [0, 1] [] rfl rfl (by decide) (by decide) hk1 hFc hP1 hD1
  clear hz1 hk1 hFc hKc hDc hPc
  generalize H1 = H at hP hS ⊢
  have hP : va_P D vwCl [(h0, .inr (8, [.ref s1, .ref s2, .ref s3, .ref s4, .ref s5, .ref s6, .int ds, va_rf sp, va_rf bt])), (s1, .inl (cO, 4, .inr (.inr (.inr (.inr f)))))] H := hP
  have hD : va_D A [(h0, .inr (8, [.ref s1, .ref s2, .ref s3, .ref s4, .ref s5, .ref s6, .int ds, va_rf sp, va_rf bt])), (s1, .inl (cO, 4, .inr (.inr (.inr (.inr f)))))] := hD
  subst hr_2
  refine my_topv (v := .ref t0) rfl ?_
  refine lv_astore (lv' := [(4, .ref t0), (3, .null), (0, .ref h0), (1, .int k), (2, .int kq)]) hx hb dX8_differ_11 hl (by decide) rfl (fun ls hl => ?_)
  refine lv_aload_nN hx hb dX8_differ_13 rfl (lv_at hl 1 rfl) ?_
  refine lv_ifnullN (tgt := 46) hx hb dX8_differ_14 (by decide) ?_
  refine lv_iconst (v := (-1)) hx hb dX8_differ_46 (by decide) ?_
  have hP9 := hP.sub (ws' := [(h0, .inr (8, [.ref s1, .ref s2, .ref s3, .ref s4, .ref s5, .ref s6, .int ds, va_rf sp, va_rf bt])), (s1, .inl (cO, 4, .inr (.inr (.inr (.inr f)))))]) [0, 1] rfl
  have hD9 := hD.sub (ws' := [(h0, .inr (8, [.ref s1, .ref s2, .ref s3, .ref s4, .ref s5, .ref s6, .int ds, va_rf sp, va_rf bt])), (s1, .inl (cO, 4, .inr (.inr (.inr (.inr f)))))]) [0, 1] (by decide) rfl
  have hK9 := hK.sub (tys' := [(cO, .object "DotBench$Sheet")]) [0] rfl
  refine hQ _ _ _ _ _ ?_
  exact W.iret (v := (-1)) hx hb hr (fun t ht hW => ⟨⟨(-1), (), rfl, rfl, ⟨by rw [ht]; exact hP9, va_K.moved hW.alike hK9, hD9⟩⟩, hS.F ht⟩) hS.2.2 dX8_differ_47

set_option maxHeartbeats 4000000 in
set_option maxRecDepth 100000 in
theorem k_X8_differ_yn (l : Launch) (D : va_G) (sz : Nat) (h0 s1 s2 s3 s4 s5 s6 : Nat) (ds : Int32) (sp bt : Option Nat) (f : Nat → Option Nat) (u0 : Nat) (k kq : Int32) (cO : ClassId) (hak : 0 ≤ k.toInt ∧ k.toInt ≤ 3) (haf : f k.toNatClampNeg = some u0) (hb0f : 0 ≤ kq.toInt ∧ kq.toInt ≤ 3 → f kq.toNatClampNeg = none) : Met l yX8_differ (wB yX8_differ cX8_differ 8 (some .int)) ({ frames := 1, cells := 0, slots := 0, locals := 21 }) (cP D [(h0, .inr (8, [.ref s1, .ref s2, .ref s3, .ref s4, .ref s5, .ref s6, .int ds, va_rf sp, va_rf bt])), (s1, .inl (cO, 4, .inr (.inr (.inr (.inr f)))))] [(cO, .object "DotBench$Sheet")] sz [.ref h0, .int k, .int kq]) (va_Qi (fun (r : Int32) (_ : Unit) => r = -1) (fun (_ : Unit) (t : State) => cB D (va_A [(h0, .inr (8, [.ref s1, .ref s2, .ref s3, .ref s4, .ref s5, .ref s6, .int ds, va_rf sp, va_rf bt])), (s1, .inl (cO, 4, .inr (.inr (.inr (.inr f)))))] sz) [(h0, .inr (8, [.ref s1, .ref s2, .ref s3, .ref s4, .ref s5, .ref s6, .int ds, va_rf sp, va_rf bt])), (s1, .inl (cO, 4, .inr (.inr (.inr (.inr f)))))] [(cO, .object "DotBench$Sheet")] t) (va_A [(h0, .inr (8, [.ref s1, .ref s2, .ref s3, .ref s4, .ref s5, .ref s6, .int ds, va_rf sp, va_rf bt])), (s1, .inl (cO, 4, .inr (.inr (.inr (.inr f)))))] sz)) 0 0 (va_A [(h0, .inr (8, [.ref s1, .ref s2, .ref s3, .ref s4, .ref s5, .ref s6, .int ds, va_rf sp, va_rf bt])), (s1, .inl (cO, 4, .inr (.inr (.inr (.inr f)))))] sz) := by
  refine Met.ofW (cc := cX8_differ) (maxL := 8) (ret := (some .int)) (by decide) rfl ?_
  intro p e s m args below meth c s₁ B hml hv
  obtain ⟨rfl, hsz, hP, hK, hD0, hN⟩ := hv
  have hx := B.exec
  have hb := B.bytes
  have hr := B.returns
  have hts0 := atoms_spec (ws := (wB yX8_differ cX8_differ 8 (some .int))) B.pre
  have hts : ∀ w ∈ bigW, w.before _ s = true := fun w h => hts0 w (List.mem_cons_of_mem _ h)
  have hown : s.vm.findClass RX8 = some m.cls := findClass_of_methodNamed B.named
  have hlocks := B.notSynchronized
  subst hsz
  have hD := hD0.self (sz := s.heap.size)
  generalize hAe : va_A [(h0, .inr (8, [.ref s1, .ref s2, .ref s3, .ref s4, .ref s5, .ref s6, .int ds, va_rf sp, va_rf bt])), (s1, .inl (cO, 4, .inr (.inr (.inr (.inr f)))))] s.heap.size = A at hD ⊢
  have hA : ∀ q : Nat, s.heap.size ≤ q → A q := fun q h => by rw [← hAe]; exact Or.inr h
  have hS : va_S A s.heap s.heap [] := va_S.rf
  have hP : va_P D vwCl [(h0, .inr (8, [.ref s1, .ref s2, .ref s3, .ref s4, .ref s5, .ref s6, .int ds, va_rf sp, va_rf bt])), (s1, .inl (cO, 4, .inr (.inr (.inr (.inr f)))))] s.heap := hP
  have hl := lv_entry ([.ref h0, .int k, .int kq]) (n := 8) (Nat.le_of_ble_eq_true rfl)
  rw [lg_entry_eq]
  generalize (lg_sl ([.ref h0, .int k, .int kq]) ++ List.replicate (8 - (lg_sl ([.ref h0, .int k, .int kq])).length) Slot.unset).toArray = ls at hl ⊢
  have hl : lv_has ls 8 [(0, .ref h0), (1, .int k), (2, .int kq)] := hl
  clear hts0 hD0 hAe
  refine my_abs (fun R Q hR hQ => ?_)
  refine lv_aload_n hx hb dX8_differ_0 rfl (lv_at hl 0 rfl) ?_
  refine lv_iload_n hx hb dX8_differ_1 rfl (lv_at hl 1 rfl) ?_
  have hPc := hP.sub (ws' := [(h0, .inr (8, [.ref s1, .ref s2, .ref s3, .ref s4, .ref s5, .ref s6, .int ds, va_rf sp, va_rf bt])), (s1, .inl (cO, 4, .inr (.inr (.inr (.inr f)))))]) [0, 1] rfl
  have hDc := hD.sub (ws' := [(h0, .inr (8, [.ref s1, .ref s2, .ref s3, .ref s4, .ref s5, .ref s6, .int ds, va_rf sp, va_rf bt])), (s1, .inl (cO, 4, .inr (.inr (.inr (.inr f)))))]) [0, 1] (by decide) rfl
  have hKc := hK.sub (tys' := [(cO, .object "DotBench$Sheet")]) [0] rfl
  have hFc := va_free (wc := [(h0, .inr (8, [.ref s1, .ref s2, .ref s3, .ref s4, .ref s5, .ref s6, .int ds, va_rf sp, va_rf bt])), (s1, .inl (cO, 4, .inr (.inr (.inr (.inr f)))))]) hD hS hA [0, 1] rfl
  refine va_callq (va_runV (As := [.int k]) (rest := []) ⟨hx, hb, hml, hown, hts⟩ (k_X8_sheetAt_y l D s.heap.size h0 s1 s2 s3 s4 s5 s6 ds sp bt f k u0 cO (by first | assumption | omega | decide) (by first | assumption | omega | decide)) (cwV 1 hts (gV bw_267 bw_346 bw_347 bw_223 bw_345) rfl rfl rfl (by decide +kernel) ⟨(by rw [hR]; exact Nat.le_of_ble_eq_true rfl), (by rw [hR]; exact Nat.le_of_ble_eq_true rfl)⟩) ⟨cP_blind, va_recv hKc hPc (ci := 8) (q0 := 0) rfl rfl, cP_at hPc hKc hDc hN⟩ rfl rfl hl.1 rfl (lv_room (Nat.le_of_ble_eq_true rfl)) dX8_differ_2 ⟨(by rw [hR]; exact Nat.le_of_ble_eq_true rfl), (by rw [hR]; exact Nat.le_of_ble_eq_true rfl)⟩) hS (fun q _ h => hFc q h) hFc (fun r_1 u9 t9 H1 locs ht hvm hr_1 hB hz1 hk1 hS => ?_)
  try dsimp only at hr_1
  obtain ⟨hP1, hK1, hD1⟩ := hB
  rw [ht] at hP1
  obtain ⟨hP, hD⟩ := va_join (wr := []) (w1 := [(h0, .inr (8, [.ref s1, .ref s2, .ref s3, .ref s4, .ref s5, .ref s6, .int ds, va_rf sp, va_rf bt])), (s1, .inl (cO, 4, .inr (.inr (.inr (.inr f)))))]) hP hD [0, 1] [] rfl rfl (by decide) (by decide) hk1 hFc hP1 hD1
  clear hz1 hk1 hFc hKc hDc hPc
  generalize H1 = H at hP hS ⊢
  have hP : va_P D vwCl [(h0, .inr (8, [.ref s1, .ref s2, .ref s3, .ref s4, .ref s5, .ref s6, .int ds, va_rf sp, va_rf bt])), (s1, .inl (cO, 4, .inr (.inr (.inr (.inr f)))))] H := hP
  have hD : va_D A [(h0, .inr (8, [.ref s1, .ref s2, .ref s3, .ref s4, .ref s5, .ref s6, .int ds, va_rf sp, va_rf bt])), (s1, .inl (cO, 4, .inr (.inr (.inr (.inr f)))))] := hD
  subst hr_1
  refine my_topv (v := .ref u0) rfl ?_
  refine lv_astore_n (lv' := [(3, .ref u0), (0, .ref h0), (1, .int k), (2, .int kq)]) hx hb dX8_differ_5 rfl hl (by decide) rfl (fun ls hl => ?_)
  refine lv_aload_n hx hb dX8_differ_6 rfl (lv_at hl 1 rfl) ?_
  refine lv_iload_n hx hb dX8_differ_7 rfl (lv_at hl 3 rfl) ?_
  have hPc := hP.sub (ws' := [(h0, .inr (8, [.ref s1, .ref s2, .ref s3, .ref s4, .ref s5, .ref s6, .int ds, va_rf sp, va_rf bt])), (s1, .inl (cO, 4, .inr (.inr (.inr (.inr f)))))]) [0, 1] rfl
  have hDc := hD.sub (ws' := [(h0, .inr (8, [.ref s1, .ref s2, .ref s3, .ref s4, .ref s5, .ref s6, .int ds, va_rf sp, va_rf bt])), (s1, .inl (cO, 4, .inr (.inr (.inr (.inr f)))))]) [0, 1] (by decide) rfl
  have hKc := hK.sub (tys' := [(cO, .object "DotBench$Sheet")]) [0] rfl
  have hFc := va_free (wc := [(h0, .inr (8, [.ref s1, .ref s2, .ref s3, .ref s4, .ref s5, .ref s6, .int ds, va_rf sp, va_rf bt])), (s1, .inl (cO, 4, .inr (.inr (.inr (.inr f)))))]) hD hS hA [0, 1] rfl
  refine va_callq (va_runV (As := [.int kq]) (rest := []) ⟨hx, hb, hml, hown, hts⟩ (k_X8_sheetAt_n l D H.size h0 s1 s2 s3 s4 s5 s6 ds sp bt f kq cO (by first | assumption | omega | decide)) (cwV 1 hts (gV bw_267 bw_346 bw_347 bw_223 bw_345) rfl rfl rfl (by decide +kernel) ⟨(by rw [hR]; exact Nat.le_of_ble_eq_true rfl), (by rw [hR]; exact Nat.le_of_ble_eq_true rfl)⟩) ⟨cP_blind, va_recv hKc hPc (ci := 8) (q0 := 0) rfl rfl, cP_at hPc hKc hDc hN⟩ rfl rfl hl.1 rfl (lv_room (Nat.le_of_ble_eq_true rfl)) dX8_differ_8 ⟨(by rw [hR]; exact Nat.le_of_ble_eq_true rfl), (by rw [hR]; exact Nat.le_of_ble_eq_true rfl)⟩) hS (fun q _ h => hFc q h) hFc (fun r_2 u9 t9 H1 locs ht hvm hr_2 hB hz1 hk1 hS => ?_)
  try dsimp only at hr_2
  obtain ⟨hP1, hK1, hD1⟩ := hB
  rw [ht] at hP1
  obtain ⟨hP, hD⟩ := va_join (wr := []) (w1 := [(h0, .inr (8, [.ref s1, .ref s2, .ref s3, .ref s4, .ref s5, .ref s6, .int ds, va_rf sp, va_rf bt])), (s1, .inl (cO, 4, .inr (.inr (.inr (.inr f)))))]) hP hD [0, 1] [] rfl rfl (by decide) (by decide) hk1 hFc hP1 hD1
  clear hz1 hk1 hFc hKc hDc hPc
  generalize H1 = H at hP hS ⊢
  have hP : va_P D vwCl [(h0, .inr (8, [.ref s1, .ref s2, .ref s3, .ref s4, .ref s5, .ref s6, .int ds, va_rf sp, va_rf bt])), (s1, .inl (cO, 4, .inr (.inr (.inr (.inr f)))))] H := hP
  have hD : va_D A [(h0, .inr (8, [.ref s1, .ref s2, .ref s3, .ref s4, .ref s5, .ref s6, .int ds, va_rf sp, va_rf bt])), (s1, .inl (cO, 4, .inr (.inr (.inr (.inr f)))))] := hD
  subst hr_2
  refine my_topv (v := .null) rfl ?_
  refine lv_astoreN (lv' := [(4, .null), (3, .ref u0), (0, .ref h0), (1, .int k), (2, .int kq)]) hx hb dX8_differ_11 hl (by decide) rfl (fun ls hl => ?_)
  refine lv_aload_n hx hb dX8_differ_13 rfl (lv_at hl 1 rfl) ?_
  refine lv_ifnull hx hb dX8_differ_14 ?_
  refine lv_aloadN hx hb dX8_differ_17 (lv_at hl 0 rfl) ?_
  refine lv_ifnullN (tgt := 46) hx hb dX8_differ_19 (by decide) ?_
  refine lv_iconst (v := (-1)) hx hb dX8_differ_46 (by decide) ?_
  have hP9 := hP.sub (ws' := [(h0, .inr (8, [.ref s1, .ref s2, .ref s3, .ref s4, .ref s5, .ref s6, .int ds, va_rf sp, va_rf bt])), (s1, .inl (cO, 4, .inr (.inr (.inr (.inr f)))))]) [0, 1] rfl
  have hD9 := hD.sub (ws' := [(h0, .inr (8, [.ref s1, .ref s2, .ref s3, .ref s4, .ref s5, .ref s6, .int ds, va_rf sp, va_rf bt])), (s1, .inl (cO, 4, .inr (.inr (.inr (.inr f)))))]) [0, 1] (by decide) rfl
  have hK9 := hK.sub (tys' := [(cO, .object "DotBench$Sheet")]) [0] rfl
  refine hQ _ _ _ _ _ ?_
  exact W.iret (v := (-1)) hx hb hr (fun t ht hW => ⟨⟨(-1), (), rfl, rfl, ⟨by rw [ht]; exact hP9, va_K.moved hW.alike hK9, hD9⟩⟩, hS.F ht⟩) hS.2.2 dX8_differ_47

set_option maxHeartbeats 4000000 in
set_option maxRecDepth 100000 in
theorem k_X8_inside (l : Launch) (D : va_G) (sz : Nat) (h0 s1 s2 s3 s4 s5 s6 : Nat) (ds : Int32) (sp bt : Option Nat) (p1 p2 p3 p4 : Nat) (pn fx fy : Int32) (qa : Nat → Int32) (qb : Nat → Int32) (qc : Nat → Int32) (qd : Nat → Int32) (u v ru : Int32) (cI : ClassId) (hpn : 0 ≤ pn.toInt ∧ pn.toInt ≤ 48) : Met l yX8_inside (wB yX8_inside cX8_inside 4 (some .int)) ({ frames := 3, cells := 0, slots := 0, locals := 70 }) (cP D [(h0, .inr (8, [.ref s1, .ref s2, .ref s3, .ref s4, .ref s5, .ref s6, .int ds, va_rf sp, va_rf bt])), (s4, .inr (3, [.ref p1, .ref p2, .ref p3, .ref p4, .int pn, .int fx, .int fy])), (p1, .inl (cI, 48, .inl qa)), (p2, .inl (cI, 48, .inl qb)), (p3, .inl (cI, 48, .inl qc)), (p4, .inl (cI, 48, .inl qd))] [(cI, .int)] sz [.ref h0, .int u, .int v, .int ru]) (va_Qi (fun (r : Int32) (_ : Unit) => r = if ru.toInt = 0 ∨ ru.toInt = 1 then (if (if ru = 0 then (wnN qa qb qc qd u v pn.toNatClampNeg) &&& 1 = 1 else ¬ (wnN qa qb qc qd u v pn.toNatClampNeg) = 0) then 1 else 0) else -1) (fun (_ : Unit) (t : State) => cB D (va_A [(h0, .inr (8, [.ref s1, .ref s2, .ref s3, .ref s4, .ref s5, .ref s6, .int ds, va_rf sp, va_rf bt])), (s4, .inr (3, [.ref p1, .ref p2, .ref p3, .ref p4, .int pn, .int fx, .int fy])), (p1, .inl (cI, 48, .inl qa)), (p2, .inl (cI, 48, .inl qb)), (p3, .inl (cI, 48, .inl qc)), (p4, .inl (cI, 48, .inl qd))] sz) [(h0, .inr (8, [.ref s1, .ref s2, .ref s3, .ref s4, .ref s5, .ref s6, .int ds, va_rf sp, va_rf bt])), (s4, .inr (3, [.ref p1, .ref p2, .ref p3, .ref p4, .int pn, .int fx, .int fy])), (p1, .inl (cI, 48, .inl qa)), (p2, .inl (cI, 48, .inl qb)), (p3, .inl (cI, 48, .inl qc)), (p4, .inl (cI, 48, .inl qd))] [(cI, .int)] t) (va_A [(h0, .inr (8, [.ref s1, .ref s2, .ref s3, .ref s4, .ref s5, .ref s6, .int ds, va_rf sp, va_rf bt])), (s4, .inr (3, [.ref p1, .ref p2, .ref p3, .ref p4, .int pn, .int fx, .int fy])), (p1, .inl (cI, 48, .inl qa)), (p2, .inl (cI, 48, .inl qb)), (p3, .inl (cI, 48, .inl qc)), (p4, .inl (cI, 48, .inl qd))] sz)) 0 0 (va_A [(h0, .inr (8, [.ref s1, .ref s2, .ref s3, .ref s4, .ref s5, .ref s6, .int ds, va_rf sp, va_rf bt])), (s4, .inr (3, [.ref p1, .ref p2, .ref p3, .ref p4, .int pn, .int fx, .int fy])), (p1, .inl (cI, 48, .inl qa)), (p2, .inl (cI, 48, .inl qb)), (p3, .inl (cI, 48, .inl qc)), (p4, .inl (cI, 48, .inl qd))] sz) := by
  refine Met.ofW (cc := cX8_inside) (maxL := 4) (ret := (some .int)) (by decide) rfl ?_
  intro p e s m args below meth c s₁ B hml hv
  obtain ⟨rfl, hsz, hP, hK, hD0, hN⟩ := hv
  have hx := B.exec
  have hb := B.bytes
  have hr := B.returns
  have hts0 := atoms_spec (ws := (wB yX8_inside cX8_inside 4 (some .int))) B.pre
  have hts : ∀ w ∈ bigW, w.before _ s = true := fun w h => hts0 w (List.mem_cons_of_mem _ h)
  have hown : s.vm.findClass RX8 = some m.cls := findClass_of_methodNamed B.named
  have hlocks := B.notSynchronized
  subst hsz
  have hD := hD0.self (sz := s.heap.size)
  generalize hAe : va_A [(h0, .inr (8, [.ref s1, .ref s2, .ref s3, .ref s4, .ref s5, .ref s6, .int ds, va_rf sp, va_rf bt])), (s4, .inr (3, [.ref p1, .ref p2, .ref p3, .ref p4, .int pn, .int fx, .int fy])), (p1, .inl (cI, 48, .inl qa)), (p2, .inl (cI, 48, .inl qb)), (p3, .inl (cI, 48, .inl qc)), (p4, .inl (cI, 48, .inl qd))] s.heap.size = A at hD ⊢
  have hA : ∀ q : Nat, s.heap.size ≤ q → A q := fun q h => by rw [← hAe]; exact Or.inr h
  have hS : va_S A s.heap s.heap [] := va_S.rf
  have hP : va_P D vwCl [(h0, .inr (8, [.ref s1, .ref s2, .ref s3, .ref s4, .ref s5, .ref s6, .int ds, va_rf sp, va_rf bt])), (s4, .inr (3, [.ref p1, .ref p2, .ref p3, .ref p4, .int pn, .int fx, .int fy])), (p1, .inl (cI, 48, .inl qa)), (p2, .inl (cI, 48, .inl qb)), (p3, .inl (cI, 48, .inl qc)), (p4, .inl (cI, 48, .inl qd))] s.heap := hP
  have hl := lv_entry ([.ref h0, .int u, .int v, .int ru]) (n := 4) (Nat.le_of_ble_eq_true rfl)
  rw [lg_entry_eq]
  generalize (lg_sl ([.ref h0, .int u, .int v, .int ru]) ++ List.replicate (4 - (lg_sl ([.ref h0, .int u, .int v, .int ru])).length) Slot.unset).toArray = ls at hl ⊢
  have hl : lv_has ls 4 [(0, .ref h0), (1, .int u), (2, .int v), (3, .int ru)] := hl
  clear hts0 hD0 hAe
  refine my_abs (fun R Q hR hQ => ?_)
  refine lv_iload_n hx hb dX8_inside_0 rfl (lv_at hl 3 rfl) ?_
  have hPc := hP.sub (ws' := []) [] rfl
  have hDc := hD.sub (ws' := []) [] (by decide) rfl
  have hKc := hK.sub (tys' := []) [] rfl
  have hFc := va_free (wc := []) hD hS hA [] rfl
  refine va_calli (va_runS (As := [.int ru]) (rest := []) ⟨hx, hb, hml, hown, hts⟩ (k_X8_isRule l D s.heap.size ru) (va_cwS 1 hts (gS bw_293 bw_355 bw_223 bw_354) rfl rfl rfl (by decide +kernel) ⟨(by rw [hR]; exact Nat.le_of_ble_eq_true rfl), (by rw [hR]; exact Nat.le_of_ble_eq_true rfl)⟩) ⟨cP_blind, cP_at hPc hKc hDc hN⟩ rfl rfl hl.1 rfl (lv_room (Nat.le_of_ble_eq_true rfl)) dX8_inside_1 ⟨(by rw [hR]; exact Nat.le_of_ble_eq_true rfl), (by rw [hR]; exact Nat.le_of_ble_eq_true rfl)⟩) hS (fun q _ h => hFc q h) hFc (fun r_1 u9 t9 H1 locs ht hvm hr_1 hB hz1 hk1 hS => ?_)
  try dsimp only at hr_1
  have hP1 : va_P D vwCl [] H1 := vP_nil
  have hD1 : va_D (va_A [] s.heap.size) [] := vD_nil
  obtain ⟨hP, hD⟩ := va_join (wr := [(h0, .inr (8, [.ref s1, .ref s2, .ref s3, .ref s4, .ref s5, .ref s6, .int ds, va_rf sp, va_rf bt])), (s4, .inr (3, [.ref p1, .ref p2, .ref p3, .ref p4, .int pn, .int fx, .int fy])), (p1, .inl (cI, 48, .inl qa)), (p2, .inl (cI, 48, .inl qb)), (p3, .inl (cI, 48, .inl qc)), (p4, .inl (cI, 48, .inl qd))]) (w1 := []) hP hD [] [0, 1, 2, 3, 4, 5] rfl rfl (by decide) (by decide) hk1 hFc hP1 hD1
  clear hz1 hk1 hFc hKc hDc hPc
  generalize H1 = H at hP hS ⊢
  have hP : va_P D vwCl [(h0, .inr (8, [.ref s1, .ref s2, .ref s3, .ref s4, .ref s5, .ref s6, .int ds, va_rf sp, va_rf bt])), (s4, .inr (3, [.ref p1, .ref p2, .ref p3, .ref p4, .int pn, .int fx, .int fy])), (p1, .inl (cI, 48, .inl qa)), (p2, .inl (cI, 48, .inl qb)), (p3, .inl (cI, 48, .inl qc)), (p4, .inl (cI, 48, .inl qd))] H := hP
  have hD : va_D A [(h0, .inr (8, [.ref s1, .ref s2, .ref s3, .ref s4, .ref s5, .ref s6, .int ds, va_rf sp, va_rf bt])), (s4, .inr (3, [.ref p1, .ref p2, .ref p3, .ref p4, .int pn, .int fx, .int fy])), (p1, .inl (cI, 48, .inl qa)), (p2, .inl (cI, 48, .inl qb)), (p3, .inl (cI, 48, .inl qc)), (p4, .inl (cI, 48, .inl qd))] := hD
  refine lv_if_ne (tgt := 9) hx hb dX8_inside_4 (by decide) (fun c_2 => ?_) (fun c_2 => ?_)
  · skip
    have f_3 := bz1 hr_1 c_2
    refine lv_aload_n hx hb dX8_inside_9 rfl (lv_at hl 0 rfl) ?_
    refine va_get (D := D) (ci := 8) (v := .ref s4) (C := RX8) (T := TX8) (N := 9) hx hb hts hi_X8 hown hK hP 0 rfl rfl 3 (by decide) (hts _ bw_235) (fun _ h9 => h9) rfl dX8_inside_10 ?_
    refine lv_iload_n hx hb dX8_inside_13 rfl (lv_at hl 1 rfl) ?_
    refine lv_iload_n hx hb dX8_inside_14 rfl (lv_at hl 2 rfl) ?_
    have hPc := hP.sub (ws' := [(s4, .inr (3, [.ref p1, .ref p2, .ref p3, .ref p4, .int pn, .int fx, .int fy])), (p1, .inl (cI, 48, .inl qa)), (p2, .inl (cI, 48, .inl qb)), (p3, .inl (cI, 48, .inl qc)), (p4, .inl (cI, 48, .inl qd))]) [1, 2, 3, 4, 5] rfl
    have hDc := hD.sub (ws' := [(s4, .inr (3, [.ref p1, .ref p2, .ref p3, .ref p4, .int pn, .int fx, .int fy])), (p1, .inl (cI, 48, .inl qa)), (p2, .inl (cI, 48, .inl qb)), (p3, .inl (cI, 48, .inl qc)), (p4, .inl (cI, 48, .inl qd))]) [1, 2, 3, 4, 5] (by decide) rfl
    have hKc := hK.sub (tys' := [(cI, .int)]) [0] rfl
    have hFc := va_free (wc := [(s4, .inr (3, [.ref p1, .ref p2, .ref p3, .ref p4, .int pn, .int fx, .int fy])), (p1, .inl (cI, 48, .inl qa)), (p2, .inl (cI, 48, .inl qb)), (p3, .inl (cI, 48, .inl qc)), (p4, .inl (cI, 48, .inl qd))]) hD hS hA [1, 2, 3, 4, 5] rfl
    refine va_calli (va_runV (As := [.int u, .int v]) (rest := []) ⟨hx, hb, hml, hown, hts⟩ (k_X3_windingAt l D H.size s4 p1 p2 p3 p4 pn fx fy qa qb qc qd u v cI (by first | assumption | omega | decide)) (cwV 2 hts (gV bw_343 bw_86 bw_87 bw_67 bw_85) rfl rfl rfl (by decide +kernel) ⟨(by rw [hR]; exact Nat.le_of_ble_eq_true rfl), (by rw [hR]; exact Nat.le_of_ble_eq_true rfl)⟩) ⟨cP_blind, va_recv hKc hPc (ci := 3) (q0 := 0) rfl rfl, cP_at hPc hKc hDc hN⟩ rfl rfl hl.1 rfl (lv_room (Nat.le_of_ble_eq_true rfl)) dX8_inside_15 ⟨(by rw [hR]; exact Nat.le_of_ble_eq_true rfl), (by rw [hR]; exact Nat.le_of_ble_eq_true rfl)⟩) hS (fun q _ h => hFc q h) hFc (fun r_4 u9 t9 H1 locs ht hvm hr_4 hB hz1 hk1 hS => ?_)
    try dsimp only at hr_4
    obtain ⟨hP1, hK1, hD1⟩ := hB
    rw [ht] at hP1
    obtain ⟨hP, hD⟩ := va_join (wr := [(h0, .inr (8, [.ref s1, .ref s2, .ref s3, .ref s4, .ref s5, .ref s6, .int ds, va_rf sp, va_rf bt]))]) (w1 := [(s4, .inr (3, [.ref p1, .ref p2, .ref p3, .ref p4, .int pn, .int fx, .int fy])), (p1, .inl (cI, 48, .inl qa)), (p2, .inl (cI, 48, .inl qb)), (p3, .inl (cI, 48, .inl qc)), (p4, .inl (cI, 48, .inl qd))]) hP hD [1, 2, 3, 4, 5] [0] rfl rfl (by decide) (by decide) hk1 hFc hP1 hD1
    clear hz1 hk1 hFc hKc hDc hPc
    generalize H1 = H at hP hS ⊢
    have hP : va_P D vwCl [(h0, .inr (8, [.ref s1, .ref s2, .ref s3, .ref s4, .ref s5, .ref s6, .int ds, va_rf sp, va_rf bt])), (s4, .inr (3, [.ref p1, .ref p2, .ref p3, .ref p4, .int pn, .int fx, .int fy])), (p1, .inl (cI, 48, .inl qa)), (p2, .inl (cI, 48, .inl qb)), (p3, .inl (cI, 48, .inl qc)), (p4, .inl (cI, 48, .inl qd))] H := hP
    have hD : va_D A [(h0, .inr (8, [.ref s1, .ref s2, .ref s3, .ref s4, .ref s5, .ref s6, .int ds, va_rf sp, va_rf bt])), (s4, .inr (3, [.ref p1, .ref p2, .ref p3, .ref p4, .int pn, .int fx, .int fy])), (p1, .inl (cI, 48, .inl qa)), (p2, .inl (cI, 48, .inl qb)), (p3, .inl (cI, 48, .inl qc)), (p4, .inl (cI, 48, .inl qd))] := hD
    refine lv_iload_n hx hb dX8_inside_18 rfl (lv_at hl 3 rfl) ?_
    have hPc := hP.sub (ws' := []) [] rfl
    have hDc := hD.sub (ws' := []) [] (by decide) rfl
    have hKc := hK.sub (tys' := []) [] rfl
    have hFc := va_free (wc := []) hD hS hA [] rfl
    refine va_calli (va_runS (As := [.int r_4, .int ru]) (rest := []) ⟨hx, hb, hml, hown, hts⟩ (k_X8_isIn l D H.size r_4 ru) (va_cwS 2 hts (gS bw_344 bw_357 bw_223 bw_356) rfl rfl rfl (by decide +kernel) ⟨(by rw [hR]; exact Nat.le_of_ble_eq_true rfl), (by rw [hR]; exact Nat.le_of_ble_eq_true rfl)⟩) ⟨cP_blind, cP_at hPc hKc hDc hN⟩ rfl rfl hl.1 rfl (lv_room (Nat.le_of_ble_eq_true rfl)) dX8_inside_19 ⟨(by rw [hR]; exact Nat.le_of_ble_eq_true rfl), (by rw [hR]; exact Nat.le_of_ble_eq_true rfl)⟩) hS (fun q _ h => hFc q h) hFc (fun r_5 u9 t9 H1 locs ht hvm hr_5 hB hz1 hk1 hS => ?_)
    try dsimp only at hr_5
    have hP1 : va_P D vwCl [] H1 := vP_nil
    have hD1 : va_D (va_A [] H.size) [] := vD_nil
    obtain ⟨hP, hD⟩ := va_join (wr := [(h0, .inr (8, [.ref s1, .ref s2, .ref s3, .ref s4, .ref s5, .ref s6, .int ds, va_rf sp, va_rf bt])), (s4, .inr (3, [.ref p1, .ref p2, .ref p3, .ref p4, .int pn, .int fx, .int fy])), (p1, .inl (cI, 48, .inl qa)), (p2, .inl (cI, 48, .inl qb)), (p3, .inl (cI, 48, .inl qc)), (p4, .inl (cI, 48, .inl qd))]) (w1 := []) hP hD [] [0, 1, 2, 3, 4, 5] rfl rfl (by decide) (by decide) hk1 hFc hP1 hD1
    clear hz1 hk1 hFc hKc hDc hPc
    generalize H1 = H at hP hS ⊢
    have hP : va_P D vwCl [(h0, .inr (8, [.ref s1, .ref s2, .ref s3, .ref s4, .ref s5, .ref s6, .int ds, va_rf sp, va_rf bt])), (s4, .inr (3, [.ref p1, .ref p2, .ref p3, .ref p4, .int pn, .int fx, .int fy])), (p1, .inl (cI, 48, .inl qa)), (p2, .inl (cI, 48, .inl qb)), (p3, .inl (cI, 48, .inl qc)), (p4, .inl (cI, 48, .inl qd))] H := hP
    have hD : va_D A [(h0, .inr (8, [.ref s1, .ref s2, .ref s3, .ref s4, .ref s5, .ref s6, .int ds, va_rf sp, va_rf bt])), (s4, .inr (3, [.ref p1, .ref p2, .ref p3, .ref p4, .int pn, .int fx, .int fy])), (p1, .inl (cI, 48, .inl qa)), (p2, .inl (cI, 48, .inl qb)), (p3, .inl (cI, 48, .inl qc)), (p4, .inl (cI, 48, .inl qd))] := hD
    rw [hr_4] at hr_5
    refine lv_if_eq (tgt := 29) hx hb dX8_inside_22 (by decide) (fun c_6 => ?_) (fun c_6 => ?_)
    · skip
      have f_7 := bz0 hr_5 c_6
      refine lv_iconst (v := 0) hx hb dX8_inside_29 (by decide) ?_
      have hP9 := hP.sub (ws' := [(h0, .inr (8, [.ref s1, .ref s2, .ref s3, .ref s4, .ref s5, .ref s6, .int ds, va_rf sp, va_rf bt])), (s4, .inr (3, [.ref p1, .ref p2, .ref p3, .ref p4, .int pn, .int fx, .int fy])), (p1, .inl (cI, 48, .inl qa)), (p2, .inl (cI, 48, .inl qb)), (p3, .inl (cI, 48, .inl qc)), (p4, .inl (cI, 48, .inl qd))]) [0, 1, 2, 3, 4, 5] rfl
      have hD9 := hD.sub (ws' := [(h0, .inr (8, [.ref s1, .ref s2, .ref s3, .ref s4, .ref s5, .ref s6, .int ds, va_rf sp, va_rf bt])), (s4, .inr (3, [.ref p1, .ref p2, .ref p3, .ref p4, .int pn, .int fx, .int fy])), (p1, .inl (cI, 48, .inl qa)), (p2, .inl (cI, 48, .inl qb)), (p3, .inl (cI, 48, .inl qc)), (p4, .inl (cI, 48, .inl qd))]) [0, 1, 2, 3, 4, 5] (by decide) rfl
      have hK9 := hK.sub (tys' := [(cI, .int)]) [0] rfl
      refine hQ _ _ _ _ _ ?_
      exact W.iret (v := 0) hx hb hr (fun t ht hW => ⟨⟨0, (), rfl, (by rw [if_pos (by omega), if_neg (by assumption)]), ⟨by rw [ht]; exact hP9, va_K.moved hW.alike hK9, hD9⟩⟩, hS.F ht⟩) hS.2.2 dX8_inside_30
    · skip
      have f_7 := bz1 hr_5 c_6
      refine lv_iconst (v := 1) hx hb dX8_inside_25 (by decide) ?_
      refine lv_goto (tgt := 30) hx hb dX8_inside_26 (by decide) ?_
      have hP9 := hP.sub (ws' := [(h0, .inr (8, [.ref s1, .ref s2, .ref s3, .ref s4, .ref s5, .ref s6, .int ds, va_rf sp, va_rf bt])), (s4, .inr (3, [.ref p1, .ref p2, .ref p3, .ref p4, .int pn, .int fx, .int fy])), (p1, .inl (cI, 48, .inl qa)), (p2, .inl (cI, 48, .inl qb)), (p3, .inl (cI, 48, .inl qc)), (p4, .inl (cI, 48, .inl qd))]) [0, 1, 2, 3, 4, 5] rfl
      have hD9 := hD.sub (ws' := [(h0, .inr (8, [.ref s1, .ref s2, .ref s3, .ref s4, .ref s5, .ref s6, .int ds, va_rf sp, va_rf bt])), (s4, .inr (3, [.ref p1, .ref p2, .ref p3, .ref p4, .int pn, .int fx, .int fy])), (p1, .inl (cI, 48, .inl qa)), (p2, .inl (cI, 48, .inl qb)), (p3, .inl (cI, 48, .inl qc)), (p4, .inl (cI, 48, .inl qd))]) [0, 1, 2, 3, 4, 5] (by decide) rfl
      have hK9 := hK.sub (tys' := [(cI, .int)]) [0] rfl
      refine hQ _ _ _ _ _ ?_
      exact W.iret (v := 1) hx hb hr (fun t ht hW => ⟨⟨1, (), rfl, (by rw [if_pos (by omega), if_pos (by assumption)]), ⟨by rw [ht]; exact hP9, va_K.moved hW.alike hK9, hD9⟩⟩, hS.F ht⟩) hS.2.2 dX8_inside_30
  · skip
    have f_3 := bz0 hr_1 c_2
    refine lv_iconst (v := (-1)) hx hb dX8_inside_7 (by decide) ?_
    have hP9 := hP.sub (ws' := [(h0, .inr (8, [.ref s1, .ref s2, .ref s3, .ref s4, .ref s5, .ref s6, .int ds, va_rf sp, va_rf bt])), (s4, .inr (3, [.ref p1, .ref p2, .ref p3, .ref p4, .int pn, .int fx, .int fy])), (p1, .inl (cI, 48, .inl qa)), (p2, .inl (cI, 48, .inl qb)), (p3, .inl (cI, 48, .inl qc)), (p4, .inl (cI, 48, .inl qd))]) [0, 1, 2, 3, 4, 5] rfl
    have hD9 := hD.sub (ws' := [(h0, .inr (8, [.ref s1, .ref s2, .ref s3, .ref s4, .ref s5, .ref s6, .int ds, va_rf sp, va_rf bt])), (s4, .inr (3, [.ref p1, .ref p2, .ref p3, .ref p4, .int pn, .int fx, .int fy])), (p1, .inl (cI, 48, .inl qa)), (p2, .inl (cI, 48, .inl qb)), (p3, .inl (cI, 48, .inl qc)), (p4, .inl (cI, 48, .inl qd))]) [0, 1, 2, 3, 4, 5] (by decide) rfl
    have hK9 := hK.sub (tys' := [(cI, .int)]) [0] rfl
    refine hQ _ _ _ _ _ ?_
    exact W.iret (v := (-1)) hx hb hr (fun t ht hW => ⟨⟨(-1), (), rfl, (if_neg (by omega)).symm, ⟨by rw [ht]; exact hP9, va_K.moved hW.alike hK9, hD9⟩⟩, hS.F ht⟩) hS.2.2 dX8_inside_8
