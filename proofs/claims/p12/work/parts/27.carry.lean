set_option maxHeartbeats 4000000 in
set_option maxRecDepth 100000 in
theorem k_X8_carry_nn (l : Launch) (D : va_G) (sz : Nat) (h0 s1 s2 s3 s4 s5 s6 : Nat) (ds : Int32) (sp bt : Option Nat) (f : Nat → Option Nat) (fa fb : Nat) (ax ay aw ah ox oy ow oh : Int32) (k kq : Int32) (cO : ClassId) (haf : 0 ≤ k.toInt ∧ k.toInt ≤ 3 → f k.toNatClampNeg = none) (hb0f : 0 ≤ kq.toInt ∧ kq.toInt ≤ 3 → f kq.toNatClampNeg = none) : Met l yX8_carry (wB yX8_carry cX8_carry 12 (some .int)) ({ frames := 1, cells := 0, slots := 0, locals := 21 }) (cP D [(h0, .inr (8, [.ref s1, .ref s2, .ref s3, .ref s4, .ref s5, .ref s6, .int ds, va_rf sp, va_rf bt])), (s1, .inl (cO, 4, .inr (.inr (.inr (.inr f))))), (fa, .inr (2, [.int ax, .int ay, .int aw, .int ah])), (fb, .inr (2, [.int ox, .int oy, .int ow, .int oh]))] [(cO, .object "DotBench$Sheet")] sz [.ref h0, .int k, .ref fa, .int kq, .ref fb]) (va_Qi (fun (r : Int32) (_ : Unit) => r = -1) (fun (_ : Unit) (t : State) => cB D (va_A [(h0, .inr (8, [.ref s1, .ref s2, .ref s3, .ref s4, .ref s5, .ref s6, .int ds, va_rf sp, va_rf bt])), (s1, .inl (cO, 4, .inr (.inr (.inr (.inr f))))), (fa, .inr (2, [.int ax, .int ay, .int aw, .int ah])), (fb, .inr (2, [.int ox, .int oy, .int ow, .int oh]))] sz) [(h0, .inr (8, [.ref s1, .ref s2, .ref s3, .ref s4, .ref s5, .ref s6, .int ds, va_rf sp, va_rf bt])), (s1, .inl (cO, 4, .inr (.inr (.inr (.inr f)))))] [(cO, .object "DotBench$Sheet")] t) (va_A [(h0, .inr (8, [.ref s1, .ref s2, .ref s3, .ref s4, .ref s5, .ref s6, .int ds, va_rf sp, va_rf bt])), (s1, .inl (cO, 4, .inr (.inr (.inr (.inr f))))), (fa, .inr (2, [.int ax, .int ay, .int aw, .int ah])), (fb, .inr (2, [.int ox, .int oy, .int ow, .int oh]))] sz)) 0 0 (va_A [(h0, .inr (8, [.ref s1, .ref s2, .ref s3, .ref s4, .ref s5, .ref s6, .int ds, va_rf sp, va_rf bt])), (s1, .inl (cO, 4, .inr (.inr (.inr (.inr f))))), (fa, .inr (2, [.int ax, .int ay, .int aw, .int ah])), (fb, .inr (2, [.int ox, .int oy, .int ow, .int oh]))] sz) := by
  refine Met.ofW (cc := cX8_carry) (maxL := 12) (ret := (some .int)) (by decide) rfl ?_
  intro p e s m args below meth c s₁ B hml hv
  obtain ⟨rfl, hsz, hP, hK, hD0, hN⟩ := hv
  have hx := B.exec
  have hb := B.bytes
  have hr := B.returns
  have hts0 := atoms_spec (ws := (wB yX8_carry cX8_carry 12 (some .int))) B.pre
  have hts : ∀ w ∈ bigW, w.before _ s = true := fun w h => hts0 w (List.mem_cons_of_mem _ h)
  have hown : s.vm.findClass RX8 = some m.cls := findClass_of_methodNamed B.named
  have hlocks := B.notSynchronized
  subst hsz
  have hD := hD0.self (sz := s.heap.size)
  generalize hAe : va_A [(h0, .inr (8, [.ref s1, .ref s2, .ref s3, .ref s4, .ref s5, .ref s6, .int ds, va_rf sp, va_rf bt])), (s1, .inl (cO, 4, .inr (.inr (.inr (.inr f))))), (fa, .inr (2, [.int ax, .int ay, .int aw, .int ah])), (fb, .inr (2, [.int ox, .int oy, .int ow, .int oh]))] s.heap.size = A at hD ⊢
  have hA : ∀ q : Nat, s.heap.size ≤ q → A q := fun q h => by rw [← hAe]; exact Or.inr h
  have hS : va_S A s.heap s.heap [] := va_S.rf
  have hP : va_P D vwCl [(h0, .inr (8, [.ref s1, .ref s2, .ref s3, .ref s4, .ref s5, .ref s6, .int ds, va_rf sp, va_rf bt])), (s1, .inl (cO, 4, .inr (.inr (.inr (.inr f))))), (fa, .inr (2, [.int ax, .int ay, .int aw, .int ah])), (fb, .inr (2, [.int ox, .int oy, .int ow, .int oh]))] s.heap := hP
  have hl := lv_entry ([.ref h0, .int k, .ref fa, .int kq, .ref fb]) (n := 12) (Nat.le_of_ble_eq_true rfl)
  rw [lg_entry_eq]
  generalize (lg_sl ([.ref h0, .int k, .ref fa, .int kq, .ref fb]) ++ List.replicate (12 - (lg_sl ([.ref h0, .int k, .ref fa, .int kq, .ref fb])).length) Slot.unset).toArray = ls at hl ⊢
  have hl : lv_has ls 12 [(0, .ref h0), (1, .int k), (2, .ref fa), (3, .int kq), (4, .ref fb)] := hl
  clear hts0 hD0 hAe
  refine my_abs (fun R Q hR hQ => ?_)
  refine lv_aload_n hx hb dX8_carry_0 rfl (lv_at hl 0 rfl) ?_
  refine lv_iload_n hx hb dX8_carry_1 rfl (lv_at hl 1 rfl) ?_
  have hPc := hP.sub (ws' := [(h0, .inr (8, [.ref s1, .ref s2, .ref s3, .ref s4, .ref s5, .ref s6, .int ds, va_rf sp, va_rf bt])), (s1, .inl (cO, 4, .inr (.inr (.inr (.inr f)))))]) [0, 1] rfl
  have hDc := hD.sub (ws' := [(h0, .inr (8, [.ref s1, .ref s2, .ref s3, .ref s4, .ref s5, .ref s6, .int ds, va_rf sp, va_rf bt])), (s1, .inl (cO, 4, .inr (.inr (.inr (.inr f)))))]) [0, 1] (by decide) rfl
  have hKc := hK.sub (tys' := [(cO, .object "DotBench$Sheet")]) [0] rfl
  have hFc := va_free (wc := [(h0, .inr (8, [.ref s1, .ref s2, .ref s3, .ref s4, .ref s5, .ref s6, .int ds, va_rf sp, va_rf bt])), (s1, .inl (cO, 4, .inr (.inr (.inr (.inr f)))))]) hD hS hA [0, 1] rfl
  refine va_callq (va_runV (As := [.int k]) (rest := []) ⟨hx, hb, hml, hown, hts⟩ (k_X8_sheetAt_n l D s.heap.size h0 s1 s2 s3 s4 s5 s6 ds sp bt f k cO (by first | assumption | omega | decide)) (cwV 1 hts (gV bw_267 bw_346 bw_347 bw_223 bw_345) rfl rfl rfl (by decide +kernel) ⟨(by rw [hR]; exact Nat.le_of_ble_eq_true rfl), (by rw [hR]; exact Nat.le_of_ble_eq_true rfl)⟩) ⟨cP_blind, va_recv hKc hPc (ci := 8) (q0 := 0) rfl rfl, cP_at hPc hKc hDc hN⟩ rfl rfl hl.1 rfl (lv_room (Nat.le_of_ble_eq_true rfl)) dX8_carry_2 ⟨(by rw [hR]; exact Nat.le_of_ble_eq_true rfl), (by rw [hR]; exact Nat.le_of_ble_eq_true rfl)⟩) hS (fun q _ h => hFc q h) hFc (fun r_1 u9 t9 H1 locs ht hvm hr_1 hB hz1 hk1 hS => ?_)
  try dsimp only at hr_1
  obtain ⟨hP1, hK1, hD1⟩ := hB
  rw [ht] at hP1
  obtain ⟨hP, hD⟩ := va_join (wr := [(fa, .inr (2, [.int ax, .int ay, .int aw, .int ah])), (fb, .inr (2, [.int ox, .int oy, .int ow, .int oh]))]) (w1 := [(h0, .inr (8, [.ref s1, .ref s2, .ref s3, .ref s4, .ref s5, .ref s6, .int ds, va_rf sp, va_rf bt])), (s1, .inl (cO, 4, .inr (.inr (.inr (.inr f)))))]) hP hD [0, 1] [2, 3] rfl rfl (by decide) (by decide) hk1 hFc hP1 hD1
  clear hz1 hk1 hFc hKc hDc hPc
  generalize H1 = H at hP hS ⊢
  have hP : va_P D vwCl [(fa, .inr (2, [.int ax, .int ay, .int aw, .int ah])), (fb, .inr (2, [.int ox, .int oy, .int ow, .int oh])), (h0, .inr (8, [.ref s1, .ref s2, .ref s3, .ref s4, .ref s5, .ref s6, .int ds, va_rf sp, va_rf bt])), (s1, .inl (cO, 4, .inr (.inr (.inr (.inr f)))))] H := hP
  have hD : va_D A [(fa, .inr (2, [.int ax, .int ay, .int aw, .int ah])), (fb, .inr (2, [.int ox, .int oy, .int ow, .int oh])), (h0, .inr (8, [.ref s1, .ref s2, .ref s3, .ref s4, .ref s5, .ref s6, .int ds, va_rf sp, va_rf bt])), (s1, .inl (cO, 4, .inr (.inr (.inr (.inr f)))))] := hD
  subst hr_1
  refine my_topv (v := .null) rfl ?_
  refine lv_astoreN (lv' := [(5, .null), (0, .ref h0), (1, .int k), (2, .ref fa), (3, .int kq), (4, .ref fb)]) hx hb dX8_carry_5 hl (by decide) rfl (fun ls hl => ?_)
  refine lv_aload_n hx hb dX8_carry_7 rfl (lv_at hl 1 rfl) ?_
  refine lv_iload_n hx hb dX8_carry_8 rfl (lv_at hl 4 rfl) ?_
  have hPc := hP.sub (ws' := [(h0, .inr (8, [.ref s1, .ref s2, .ref s3, .ref s4, .ref s5, .ref s6, .int ds, va_rf sp, va_rf bt])), (s1, .inl (cO, 4, .inr (.inr (.inr (.inr f)))))]) [2, 3] rfl
  have hDc := hD.sub (ws' := [(h0, .inr (8, [.ref s1, .ref s2, .ref s3, .ref s4, .ref s5, .ref s6, .int ds, va_rf sp, va_rf bt])), (s1, .inl (cO, 4, .inr (.inr (.inr (.inr f)))))]) [2, 3] (by decide) rfl
  have hKc := hK.sub (tys' := [(cO, .object "DotBench$Sheet")]) [0] rfl
  have hFc := va_free (wc := [(h0, .inr (8, [.ref s1, .ref s2, .ref s3, .ref s4, .ref s5, .ref s6, .int ds, va_rf sp, va_rf bt])), (s1, .inl (cO, 4, .inr (.inr (.inr (.inr f)))))]) hD hS hA [2, 3] rfl
  refine va_callq (va_runV (As := [.int kq]) (rest := []) ⟨hx, hb, hml, hown, hts⟩ (k_X8_sheetAt_n l D H.size h0 s1 s2 s3 s4 s5 s6 ds sp bt f kq cO (by first | assumption | omega | decide)) (cwV 1 hts (gV bw_267 bw_346 bw_347 bw_223 bw_345) rfl rfl rfl (by decide +kernel) ⟨(by rw [hR]; exact Nat.le_of_ble_eq_true rfl), (by rw [hR]; exact Nat.le_of_ble_eq_true rfl)⟩) ⟨cP_blind, va_recv hKc hPc (ci := 8) (q0 := 0) rfl rfl, cP_at hPc hKc hDc hN⟩ rfl rfl hl.1 rfl (lv_room (Nat.le_of_ble_eq_true rfl)) dX8_carry_9 ⟨(by rw [hR]; exact Nat.le_of_ble_eq_true rfl), (by rw [hR]; exact Nat.le_of_ble_eq_true rfl)⟩) hS (fun q _ h => hFc q h) hFc (fun r_2 u9 t9 H1 locs ht hvm hr_2 hB hz1 hk1 hS => ?_)
  try dsimp only at hr_2
  obtain ⟨hP1, hK1, hD1⟩ := hB
  rw [ht] at hP1
  obtain ⟨hP, hD⟩ := va_join (wr := [(fa, .inr (2, [.int ax, .int ay, .int aw, .int ah])), (fb, .inr (2, [.int ox, .int oy, .int ow, .int oh]))]) (w1 := [(h0, .inr (8, [.ref s1, .ref s2, .ref s3, .ref s4, .ref s5, .ref s6, .int ds, va_rf sp, va_rf bt])), (s1, .inl (cO, 4, .inr (.inr (.inr (.inr f)))))]) hP hD [2, 3] [0, 1] rfl rfl (by decide) (by decide) hk1 hFc hP1 hD1
  clear hz1 hk1 hFc hKc hDc hPc
  generalize H1 = H at hP hS ⊢
  have hP : va_P D vwCl [(fa, .inr (2, [.int ax, .int ay, .int aw, .int ah])), (fb, .inr (2, [.int ox, .int oy, .int ow, .int oh])), (h0, .inr (8, [.ref s1, .ref s2, .ref s3, .ref s4, .ref s5, .ref s6, .int ds, va_rf sp, va_rf bt])), (s1, .inl (cO, 4, .inr (.inr (.inr (.inr f)))))] H := hP
  have hD : va_D A [(fa, .inr (2, [.int ax, .int ay, .int aw, .int ah])), (fb, .inr (2, [.int ox, .int oy, .int ow, .int oh])), (h0, .inr (8, [.ref s1, .ref s2, .ref s3, .ref s4, .ref s5, .ref s6, .int ds, va_rf sp, va_rf bt])), (s1, .inl (cO, 4, .inr (.inr (.inr (.inr f)))))] := hD
  subst hr_2
  refine my_topv (v := .null) rfl ?_
  refine lv_astoreN (lv' := [(6, .null), (5, .null), (0, .ref h0), (1, .int k), (2, .ref fa), (3, .int kq), (4, .ref fb)]) hx hb dX8_carry_12 hl (by decide) rfl (fun ls hl => ?_)
  refine lv_aloadN hx hb dX8_carry_14 (lv_at hl 1 rfl) ?_
  refine lv_ifnullN (tgt := 39) hx hb dX8_carry_16 (by decide) ?_
  refine lv_iconst (v := (-1)) hx hb dX8_carry_39 (by decide) ?_
  have hP9 := hP.sub (ws' := [(h0, .inr (8, [.ref s1, .ref s2, .ref s3, .ref s4, .ref s5, .ref s6, .int ds, va_rf sp, va_rf bt])), (s1, .inl (cO, 4, .inr (.inr (.inr (.inr f)))))]) [2, 3] rfl
  have hD9 := hD.sub (ws' := [(h0, .inr (8, [.ref s1, .ref s2, .ref s3, .ref s4, .ref s5, .ref s6, .int ds, va_rf sp, va_rf bt])), (s1, .inl (cO, 4, .inr (.inr (.inr (.inr f)))))]) [2, 3] (by decide) rfl
  have hK9 := hK.sub (tys' := [(cO, .object "DotBench$Sheet")]) [0] rfl
  refine hQ _ _ _ _ _ ?_
  exact W.iret (v := (-1)) hx hb hr (fun t ht hW => ⟨⟨(-1), (), rfl, rfl, ⟨by rw [ht]; exact hP9, va_K.moved hW.alike hK9, hD9⟩⟩, hS.F ht⟩) hS.2.2 dX8_carry_40

set_option maxHeartbeats 4000000 in
set_option maxRecDepth 100000 in
theorem k_X8_carry_ny (l : Launch) (D : va_G) (sz : Nat) (h0 s1 s2 s3 s4 s5 s6 : Nat) (ds : Int32) (sp bt : Option Nat) (f : Nat → Option Nat) (t0 : Nat) (fa fb : Nat) (ax ay aw ah ox oy ow oh : Int32) (k kq : Int32) (cO : ClassId) (haf : 0 ≤ k.toInt ∧ k.toInt ≤ 3 → f k.toNatClampNeg = none) (hb0k : 0 ≤ kq.toInt ∧ kq.toInt ≤ 3) (hb0f : f kq.toNatClampNeg = some t0) : Met l yX8_carry (wB yX8_carry cX8_carry 12 (some .int)) ({ frames := 1, cells := 0, slots := 0, locals := 21 }) (cP D [(h0, .inr (8, [.ref s1, .ref s2, .ref s3, .ref s4, .ref s5, .ref s6, .int ds, va_rf sp, va_rf bt])), (s1, .inl (cO, 4, .inr (.inr (.inr (.inr f))))), (fa, .inr (2, [.int ax, .int ay, .int aw, .int ah])), (fb, .inr (2, [.int ox, .int oy, .int ow, .int oh]))] [(cO, .object "DotBench$Sheet")] sz [.ref h0, .int k, .ref fa, .int kq, .ref fb]) (va_Qi (fun (r : Int32) (_ : Unit) => r = -1) (fun (_ : Unit) (t : State) => cB D (va_A [(h0, .inr (8, [.ref s1, .ref s2, .ref s3, .ref s4, .ref s5, .ref s6, .int ds, va_rf sp, va_rf bt])), (s1, .inl (cO, 4, .inr (.inr (.inr (.inr f))))), (fa, .inr (2, [.int ax, .int ay, .int aw, .int ah])), (fb, .inr (2, [.int ox, .int oy, .int ow, .int oh]))] sz) [(h0, .inr (8, [.ref s1, .ref s2, .ref s3, .ref s4, .ref s5, .ref s6, .int ds, va_rf sp, va_rf bt])), (s1, .inl (cO, 4, .inr (.inr (.inr (.inr f)))))] [(cO, .object "DotBench$Sheet")] t) (va_A [(h0, .inr (8, [.ref s1, .ref s2, .ref s3, .ref s4, .ref s5, .ref s6, .int ds, va_rf sp, va_rf bt])), (s1, .inl (cO, 4, .inr (.inr (.inr (.inr f))))), (fa, .inr (2, [.int ax, .int ay, .int aw, .int ah])), (fb, .inr (2, [.int ox, .int oy, .int ow, .int oh]))] sz)) 0 0 (va_A [(h0, .inr (8, [.ref s1, .ref s2, .ref s3, .ref s4, .ref s5, .ref s6, .int ds, va_rf sp, va_rf bt])), (s1, .inl (cO, 4, .inr (.inr (.inr (.inr f))))), (fa, .inr (2, [.int ax, .int ay, .int aw, .int ah])), (fb, .inr (2, [.int ox, .int oy, .int ow, .int oh]))] sz) := by
  refine Met.ofW (cc := cX8_carry) (maxL := 12) (ret := (some .int)) (by decide) rfl ?_
  intro p e s m args below meth c s₁ B hml hv
  obtain ⟨rfl, hsz, hP, hK, hD0, hN⟩ := hv
  have hx := B.exec
  have hb := B.bytes
  have hr := B.returns
  have hts0 := atoms_spec (ws := (wB yX8_carry cX8_carry 12 (some .int))) B.pre
  have hts : ∀ w ∈ bigW, w.before _ s = true := fun w h => hts0 w (List.mem_cons_of_mem _ h)
  have hown : s.vm.findClass RX8 = some m.cls := findClass_of_methodNamed B.named
  have hlocks := B.notSynchronized
  subst hsz
  have hD := hD0.self (sz := s.heap.size)
  generalize hAe : va_A [(h0, .inr (8, [.ref s1, .ref s2, .ref s3, .ref s4, .ref s5, .ref s6, .int ds, va_rf sp, va_rf bt])), (s1, .inl (cO, 4, .inr (.inr (.inr (.inr f))))), (fa, .inr (2, [.int ax, .int ay, .int aw, .int ah])), (fb, .inr (2, [.int ox, .int oy, .int ow, .int oh]))] s.heap.size = A at hD ⊢
  have hA : ∀ q : Nat, s.heap.size ≤ q → A q := fun q h => by rw [← hAe]; exact Or.inr h
  have hS : va_S A s.heap s.heap [] := va_S.rf
  have hP : va_P D vwCl [(h0, .inr (8, [.ref s1, .ref s2, .ref s3, .ref s4, .ref s5, .ref s6, .int ds, va_rf sp, va_rf bt])), (s1, .inl (cO, 4, .inr (.inr (.inr (.inr f))))), (fa, .inr (2, [.int ax, .int ay, .int aw, .int ah])), (fb, .inr (2, [.int ox, .int oy, .int ow, .int oh]))] s.heap := hP
  have hl := lv_entry ([.ref h0, .int k, .ref fa, .int kq, .ref fb]) (n := 12) (Nat.le_of_ble_eq_true rfl)
  rw [lg_entry_eq]
  generalize (lg_sl ([.ref h0, .int k, .ref fa, .int kq, .ref fb]) ++ List.replicate (12 - (lg_sl ([.ref h0, .int k, .ref fa, .int kq, .ref fb])).length) Slot.unset).toArray = ls at hl ⊢
  have hl : lv_has ls 12 [(0, .ref h0), (1, .int k), (2, .ref fa), (3, .int kq), (4, .ref fb)] := hl
  clear hts0 hD0 hAe
  refine my_abs (fun R Q hR hQ => ?_)
  refine lv_aload_n hx hb dX8_carry_0 rfl (lv_at hl 0 rfl) ?_
  refine lv_iload_n hx hb dX8_carry_1 rfl (lv_at hl 1 rfl) ?_
  have hPc := hP.sub (ws' := [(h0, .inr (8, [.ref s1, .ref s2, .ref s3, .ref s4, .ref s5, .ref s6, .int ds, va_rf sp, va_rf bt])), (s1, .inl (cO, 4, .inr (.inr (.inr (.inr f)))))]) [0, 1] rfl
  have hDc := hD.sub (ws' := [(h0, .inr (8, [.ref s1, .ref s2, .ref s3, .ref s4, .ref s5, .ref s6, .int ds, va_rf sp, va_rf bt])), (s1, .inl (cO, 4, .inr (.inr (.inr (.inr f)))))]) [0, 1] (by decide) rfl
  have hKc := hK.sub (tys' := [(cO, .object "DotBench$Sheet")]) [0] rfl
  have hFc := va_free (wc := [(h0, .inr (8, [.ref s1, .ref s2, .ref s3, .ref s4, .ref s5, .ref s6, .int ds, va_rf sp, va_rf bt])), (s1, .inl (cO, 4, .inr (.inr (.inr (.inr f)))))]) hD hS hA [0, 1] rfl
  refine va_callq (va_runV (As := [.int k]) (rest := []) ⟨hx, hb, hml, hown, hts⟩ (k_X8_sheetAt_n l D s.heap.size h0 s1 s2 s3 s4 s5 s6 ds sp bt f k cO (by first | assumption | omega | decide)) (cwV 1 hts (gV bw_267 bw_346 bw_347 bw_223 bw_345) rfl rfl rfl (by decide +kernel) ⟨(by rw [hR]; exact Nat.le_of_ble_eq_true rfl), (by rw [hR]; exact Nat.le_of_ble_eq_true rfl)⟩) ⟨cP_blind, va_recv hKc hPc (ci := 8) (q0 := 0) rfl rfl, cP_at hPc hKc hDc hN⟩ rfl rfl hl.1 rfl (lv_room (Nat.le_of_ble_eq_true rfl)) dX8_carry_2 ⟨(by rw [hR]; exact Nat.le_of_ble_eq_true rfl), (by rw [hR]; exact Nat.le_of_ble_eq_true rfl)⟩) hS (fun q _ h => hFc q h) hFc (fun r_1 u9 t9 H1 locs ht hvm hr_1 hB hz1 hk1 hS => ?_)
  try dsimp only at hr_1
  obtain ⟨hP1, hK1, hD1⟩ := hB
  rw [ht] at hP1
  obtain ⟨hP, hD⟩ := va_join (wr := [(fa, .inr (2, [.int ax, .int ay, .int aw, .int ah])), (fb, .inr (2, [.int ox, .int oy, .int ow, .int oh]))]) (w1 := [(h0, .inr (8, [.ref s1, .ref s2, .ref s3, .ref s4, .ref s5, .ref s6, .int ds, va_rf sp, va_rf bt])), (s1, .inl (cO, 4, .inr (.inr (.inr (.inr f)))))]) hP hD [0, 1] [2, 3] rfl rfl (by decide) (by decide) hk1 hFc hP1 hD1
  clear hz1 hk1 hFc hKc hDc hPc
  generalize H1 = H at hP hS ⊢
  have hP : va_P D vwCl [(fa, .inr (2, [.int ax, .int ay, .int aw, .int ah])), (fb, .inr (2, [.int ox, .int oy, .int ow, .int oh])), (h0, .inr (8, [.ref s1, .ref s2, .ref s3, .ref s4, .ref s5, .ref s6, .int ds, va_rf sp, va_rf bt])), (s1, .inl (cO, 4, .inr (.inr (.inr (.inr f)))))] H := hP
  have hD : va_D A [(fa, .inr (2, [.int ax, .int ay, .int aw, .int ah])), (fb, .inr (2, [.int ox, .int oy, .int ow, .int oh])), (h0, .inr (8, [.ref s1, .ref s2, .ref s3, .ref s4, .ref s5, .ref s6, .int ds, va_rf sp, va_rf bt])), (s1, .inl (cO, 4, .inr (.inr (.inr (.inr f)))))] := hD
  subst hr_1
  refine my_topv (v := .null) rfl ?_
  refine lv_astoreN (lv' := [(5, .null), (0, .ref h0), (1, .int k), (2, .ref fa), (3, .int kq), (4, .ref fb)]) hx hb dX8_carry_5 hl (by decide) rfl (fun ls hl => ?_)
  refine lv_aload_n hx hb dX8_carry_7 rfl (lv_at hl 1 rfl) ?_
  refine lv_iload_n hx hb dX8_carry_8 rfl (lv_at hl 4 rfl) ?_
  have hPc := hP.sub (ws' := [(h0, .inr (8, [.ref s1, .ref s2, .ref s3, .ref s4, .ref s5, .ref s6, .int ds, va_rf sp, va_rf bt])), (s1, .inl (cO, 4, .inr (.inr (.inr (.inr f)))))]) [2, 3] rfl
  have hDc := hD.sub (ws' := [(h0, .inr (8, [.ref s1, .ref s2, .ref s3, .ref s4, .ref s5, .ref s6, .int ds, va_rf sp, va_rf bt])), (s1, .inl (cO, 4, .inr (.inr (.inr (.inr f)))))]) [2, 3] (by decide) rfl
  have hKc := hK.sub (tys' := [(cO, .object "DotBench$Sheet")]) [0] rfl
  have hFc := va_free (wc := [(h0, .inr (8, [.ref s1, .ref s2, .ref s3, .ref s4, .ref s5, .ref s6, .int ds, va_rf sp, va_rf bt])), (s1, .inl (cO, 4, .inr (.inr (.inr (.inr f)))))]) hD hS hA [2, 3] rfl
  refine va_callq (va_runV (As := [.int kq]) (rest := []) ⟨hx, hb, hml, hown, hts⟩ (k_X8_sheetAt_y l D H.size h0 s1 s2 s3 s4 s5 s6 ds sp bt f kq t0 cO (by first | assumption | omega | decide) (by first | assumption | omega | decide)) (cwV 1 hts (gV bw_267 bw_346 bw_347 bw_223 bw_345) rfl rfl rfl (by decide +kernel) ⟨(by rw [hR]; exact Nat.le_of_ble_eq_true rfl), (by rw [hR]; exact Nat.le_of_ble_eq_true rfl)⟩) ⟨cP_blind, va_recv hKc hPc (ci := 8) (q0 := 0) rfl rfl, cP_at hPc hKc hDc hN⟩ rfl rfl hl.1 rfl (lv_room (Nat.le_of_ble_eq_true rfl)) dX8_carry_9 ⟨(by rw [hR]; exact Nat.le_of_ble_eq_true rfl), (by rw [hR]; exact Nat.le_of_ble_eq_true rfl)⟩) hS (fun q _ h => hFc q h) hFc (fun r_2 u9 t9 H1 locs ht hvm hr_2 hB hz1 hk1 hS => ?_)
  try dsimp only at hr_2
  obtain ⟨hP1, hK1, hD1⟩ := hB
  rw [ht] at hP1
  obtain ⟨hP, hD⟩ := va_join (wr := [(fa, .inr (2, [.int ax, .int ay, .int aw, .int ah])), (fb, .inr (2, [.int ox, .int oy, .int ow, .int oh]))]) (w1 := [(h0, .inr (8, [.ref s1, .ref s2, .ref s3, .ref s4, .ref s5, .ref s6, .int ds, va_rf sp, va_rf bt])), (s1, .inl (cO, 4, .inr (.inr (.inr (.inr f)))))]) hP hD [2, 3] [0, 1] rfl rfl (by decide) (by decide) hk1 hFc hP1 hD1
  clear hz1 hk1 hFc hKc hDc hPc
  generalize H1 = H at hP hS ⊢
  have hP : va_P D vwCl [(fa, .inr (2, [.int ax, .int ay, .int aw, .int ah])), (fb, .inr (2, [.int ox, .int oy, .int ow, .int oh])), (h0, .inr (8, [.ref s1, .ref s2, .ref s3, .ref s4, .ref s5, .ref s6, .int ds, va_rf sp, va_rf bt])), (s1, .inl (cO, 4, .inr (.inr (.inr (.inr f)))))] H := hP
  have hD : va_D A [(fa, .inr (2, [.int ax, .int ay, .int aw, .int ah])), (fb, .inr (2, [.int ox, .int oy, .int ow, .int oh])), (h0, .inr (8, [.ref s1, .ref s2, .ref s3, .ref s4, .ref s5, .ref s6, .int ds, va_rf sp, va_rf bt])), (s1, .inl (cO, 4, .inr (.inr (.inr (.inr f)))))] := hD
  subst hr_2
  refine my_topv (v := .ref t0) rfl ?_
  refine lv_astore (lv' := [(6, .ref t0), (5, .null), (0, .ref h0), (1, .int k), (2, .ref fa), (3, .int kq), (4, .ref fb)]) hx hb dX8_carry_12 hl (by decide) rfl (fun ls hl => ?_)
  refine lv_aloadN hx hb dX8_carry_14 (lv_at hl 1 rfl) ?_
  refine lv_ifnullN (tgt := 39) hx hb dX8_carry_16 (by decide) ?_
  refine lv_iconst (v := (-1)) hx hb dX8_carry_39 (by decide) ?_
  have hP9 := hP.sub (ws' := [(h0, .inr (8, [.ref s1, .ref s2, .ref s3, .ref s4, .ref s5, .ref s6, .int ds, va_rf sp, va_rf bt])), (s1, .inl (cO, 4, .inr (.inr (.inr (.inr f)))))]) [2, 3] rfl
  have hD9 := hD.sub (ws' := [(h0, .inr (8, [.ref s1, .ref s2, .ref s3, .ref s4, .ref s5, .ref s6, .int ds, va_rf sp, va_rf bt])), (s1, .inl (cO, 4, .inr (.inr (.inr (.inr f)))))]) [2, 3] (by decide) rfl
  have hK9 := hK.sub (tys' := [(cO, .object "DotBench$Sheet")]) [0] rfl
  refine hQ _ _ _ _ _ ?_
  exact W.iret (v := (-1)) hx hb hr (fun t ht hW => ⟨⟨(-1), (), rfl, rfl, ⟨by rw [ht]; exact hP9, va_K.moved hW.alike hK9, hD9⟩⟩, hS.F ht⟩) hS.2.2 dX8_carry_40

set_option maxHeartbeats 4000000 in
set_option maxRecDepth 100000 in
theorem k_X8_carry_yn (l : Launch) (D : va_G) (sz : Nat) (h0 s1 s2 s3 s4 s5 s6 : Nat) (ds : Int32) (sp bt : Option Nat) (f : Nat → Option Nat) (u0 : Nat) (fa fb : Nat) (ax ay aw ah ox oy ow oh : Int32) (k kq : Int32) (cO : ClassId) (hak : 0 ≤ k.toInt ∧ k.toInt ≤ 3) (haf : f k.toNatClampNeg = some u0) (hb0f : 0 ≤ kq.toInt ∧ kq.toInt ≤ 3 → f kq.toNatClampNeg = none) : Met l yX8_carry (wB yX8_carry cX8_carry 12 (some .int)) ({ frames := 1, cells := 0, slots := 0, locals := 21 }) (cP D [(h0, .inr (8, [.ref s1, .ref s2, .ref s3, .ref s4, .ref s5, .ref s6, .int ds, va_rf sp, va_rf bt])), (s1, .inl (cO, 4, .inr (.inr (.inr (.inr f))))), (fa, .inr (2, [.int ax, .int ay, .int aw, .int ah])), (fb, .inr (2, [.int ox, .int oy, .int ow, .int oh]))] [(cO, .object "DotBench$Sheet")] sz [.ref h0, .int k, .ref fa, .int kq, .ref fb]) (va_Qi (fun (r : Int32) (_ : Unit) => r = -1) (fun (_ : Unit) (t : State) => cB D (va_A [(h0, .inr (8, [.ref s1, .ref s2, .ref s3, .ref s4, .ref s5, .ref s6, .int ds, va_rf sp, va_rf bt])), (s1, .inl (cO, 4, .inr (.inr (.inr (.inr f))))), (fa, .inr (2, [.int ax, .int ay, .int aw, .int ah])), (fb, .inr (2, [.int ox, .int oy, .int ow, .int oh]))] sz) [(h0, .inr (8, [.ref s1, .ref s2, .ref s3, .ref s4, .ref s5, .ref s6, .int ds, va_rf sp, va_rf bt])), (s1, .inl (cO, 4, .inr (.inr (.inr (.inr f)))))] [(cO, .object "DotBench$Sheet")] t) (va_A [(h0, .inr (8, [.ref s1, .ref s2, .ref s3, .ref s4, .ref s5, .ref s6, .int ds, va_rf sp, va_rf bt])), (s1, .inl (cO, 4, .inr (.inr (.inr (.inr f))))), (fa, .inr (2, [.int ax, .int ay, .int aw, .int ah])), (fb, .inr (2, [.int ox, .int oy, .int ow, .int oh]))] sz)) 0 0 (va_A [(h0, .inr (8, [.ref s1, .ref s2, .ref s3, .ref s4, .ref s5, .ref s6, .int ds, va_rf sp, va_rf bt])), (s1, .inl (cO, 4, .inr (.inr (.inr (.inr f))))), (fa, .inr (2, [.int ax, .int ay, .int aw, .int ah])), (fb, .inr (2, [.int ox, .int oy, .int ow, .int oh]))] sz) := by
  refine Met.ofW (cc := cX8_carry) (maxL := 12) (ret := (some .int)) (by decide) rfl ?_
  intro p e s m args below meth c s₁ B hml hv
  obtain ⟨rfl, hsz, hP, hK, hD0, hN⟩ := hv
  have hx := B.exec
  have hb := B.bytes
  have hr := B.returns
  have hts0 := atoms_spec (ws := (wB yX8_carry cX8_carry 12 (some .int))) B.pre
  have hts : ∀ w ∈ bigW, w.before _ s = true := fun w h => hts0 w (List.mem_cons_of_mem _ h)
  have hown : s.vm.findClass RX8 = some m.cls := findClass_of_methodNamed B.named
  have hlocks := B.notSynchronized
  subst hsz
  have hD := hD0.self (sz := s.heap.size)
  generalize hAe : va_A [(h0, .inr (8, [.ref s1, .ref s2, .ref s3, .ref s4, .ref s5, .ref s6, .int ds, va_rf sp, va_rf bt])), (s1, .inl (cO, 4, .inr (.inr (.inr (.inr f))))), (fa, .inr (2, [.int ax, .int ay, .int aw, .int ah])), (fb, .inr (2, [.int ox, .int oy, .int ow, .int oh]))] s.heap.size = A at hD ⊢
  have hA : ∀ q : Nat, s.heap.size ≤ q → A q := fun q h => by rw [← hAe]; exact Or.inr h
  have hS : va_S A s.heap s.heap [] := va_S.rf
  have hP : va_P D vwCl [(h0, .inr (8, [.ref s1, .ref s2, .ref s3, .ref s4, .ref s5, .ref s6, .int ds, va_rf sp, va_rf bt])), (s1, .inl (cO, 4, .inr (.inr (.inr (.inr f))))), (fa, .inr (2, [.int ax, .int ay, .int aw, .int ah])), (fb, .inr (2, [.int ox, .int oy, .int ow, .int oh]))] s.heap := hP
  have hl := lv_entry ([.ref h0, .int k, .ref fa, .int kq, .ref fb]) (n := 12) (Nat.le_of_ble_eq_true rfl)
  rw [lg_entry_eq]
  generalize (lg_sl ([.ref h0, .int k, .ref fa, .int kq, .ref fb]) ++ List.replicate (12 - (lg_sl ([.ref h0, .int k, .ref fa, .int kq, .ref fb])).length) Slot.unset).toArray = ls at hl ⊢
  have hl : lv_has ls 12 [(0, .ref h0), (1, .int k), (2, .ref fa), (3, .int kq), (4, .ref fb)] := hl
  clear hts0 hD0 hAe
  refine my_abs (fun R Q hR hQ => ?_)
  refine lv_aload_n hx hb dX8_carry_0 rfl (lv_at hl 0 rfl) ?_
  refine lv_iload_n hx hb dX8_carry_1 rfl (lv_at hl 1 rfl) ?_
  have hPc := hP.sub (ws' := [(h0, .inr (8, [.ref s1, .ref s2, .ref s3, .ref s4, .ref s5, .ref s6, .int ds, va_rf sp, va_rf bt])), (s1, .inl (cO, 4, .inr (.inr (.inr (.inr f)))))]) [0, 1] rfl
  have hDc := hD.sub (ws' := [(h0, .inr (8, [.ref s1, .ref s2, .ref s3, .ref s4, .ref s5, .ref s6, .int ds, va_rf sp, va_rf bt])), (s1, .inl (cO, 4, .inr (.inr (.inr (.inr f)))))]) [0, 1] (by decide) rfl
  have hKc := hK.sub (tys' := [(cO, .object "DotBench$Sheet")]) [0] rfl
  have hFc := va_free (wc := [(h0, .inr (8, [.ref s1, .ref s2, .ref s3, .ref s4, .ref s5, .ref s6, .int ds, va_rf sp, va_rf bt])), (s1, .inl (cO, 4, .inr (.inr (.inr (.inr f)))))]) hD hS hA [0, 1] rfl
  refine va_callq (va_runV (As := [.int k]) (rest := []) ⟨hx, hb, hml, hown, hts⟩ (k_X8_sheetAt_y l D s.heap.size h0 s1 s2 s3 s4 s5 s6 ds sp bt f k u0 cO (by first | assumption | omega | decide) (by first | assumption | omega | decide)) (cwV 1 hts (gV bw_267 bw_346 bw_347 bw_223 bw_345) rfl rfl rfl (by decide +kernel) ⟨(by rw [hR]; exact Nat.le_of_ble_eq_true rfl), (by rw [hR]; exact Nat.le_of_ble_eq_true rfl)⟩) ⟨cP_blind, va_recv hKc hPc (ci := 8) (q0 := 0) rfl rfl, cP_at hPc hKc hDc hN⟩ rfl rfl hl.1 rfl (lv_room (Nat.le_of_ble_eq_true rfl)) dX8_carry_2 ⟨(by rw [hR]; exact Nat.le_of_ble_eq_true rfl), (by rw [hR]; exact Nat.le_of_ble_eq_true rfl)⟩) hS (fun q _ h => hFc q h) hFc (fun r_1 u9 t9 H1 locs ht hvm hr_1 hB hz1 hk1 hS => ?_)
  try dsimp only at hr_1
  obtain ⟨hP1, hK1, hD1⟩ := hB
  rw [ht] at hP1
  obtain ⟨hP, hD⟩ := va_join (wr := [(fa, .inr (2, [.int ax, .int ay, .int aw, .int ah])), (fb, .inr (2, [.int ox, .int oy, .int ow, .int oh]))]) (w1 := [(h0, .inr (8, [.ref s1, .ref s2, .ref s3, .ref s4, .ref s5, .ref s6, .int ds, va_rf sp, va_rf bt])), (s1, .inl (cO, 4, .inr (.inr (.inr (.inr f)))))]) hP hD [0, 1] [2, 3] rfl rfl (by decide) (by decide) hk1 hFc hP1 hD1
  clear hz1 hk1 hFc hKc hDc hPc
  generalize H1 = H at hP hS ⊢
  have hP : va_P D vwCl [(fa, .inr (2, [.int ax, .int ay, .int aw, .int ah])), (fb, .inr (2, [.int ox, .int oy, .int ow, .int oh])), (h0, .inr (8, [.ref s1, .ref s2, .ref s3, .ref s4, .ref s5, .ref s6, .int ds, va_rf sp, va_rf bt])), (s1, .inl (cO, 4, .inr (.inr (.inr (.inr f)))))] H := hP
  have hD : va_D A [(fa, .inr (2, [.int ax, .int ay, .int aw, .int ah])), (fb, .inr (2, [.int ox, .int oy, .int ow, .int oh])), (h0, .inr (8, [.ref s1, .ref s2, .ref s3, .ref s4, .ref s5, .ref s6, .int ds, va_rf sp, va_rf bt])), (s1, .inl (cO, 4, .inr (.inr (.inr (.inr f)))))] := hD
  subst hr_1
  refine my_topv (v := .ref u0) rfl ?_
  refine lv_astore (lv' := [(5, .ref u0), (0, .ref h0), (1, .int k), (2, .ref fa), (3, .int kq), (4, .ref fb)]) hx hb dX8_carry_5 hl (by decide) rfl (fun ls hl => ?_)
  refine lv_aload_n hx hb dX8_carry_7 rfl (lv_at hl 1 rfl) ?_
  refine lv_iload_n hx hb dX8_carry_8 rfl (lv_at hl 4 rfl) ?_
  have hPc := hP.sub (ws' := [(h0, .inr (8, [.ref s1, .ref s2, .ref s3, .ref s4, .ref s5, .ref s6, .int ds, va_rf sp, va_rf bt])), (s1, .inl (cO, 4, .inr (.inr (.inr (.inr f)))))]) [2, 3] rfl
  have hDc := hD.sub (ws' := [(h0, .inr (8, [.ref s1, .ref s2, .ref s3, .ref s4, .ref s5, .ref s6, .int ds, va_rf sp, va_rf bt])), (s1, .inl (cO, 4, .inr (.inr (.inr (.inr f)))))]) [2, 3] (by decide) rfl
  have hKc := hK.sub (tys' := [(cO, .object "DotBench$Sheet")]) [0] rfl
  have hFc := va_free (wc := [(h0, .inr (8, [.ref s1, .ref s2, .ref s3, .ref s4, .ref s5, .ref s6, .int ds, va_rf sp, va_rf bt])), (s1, .inl (cO, 4, .inr (.inr (.inr (.inr f)))))]) hD hS hA [2, 3] rfl
  refine va_callq (va_runV (As := [.int kq]) (rest := []) ⟨hx, hb, hml, hown, hts⟩ (k_X8_sheetAt_n l D H.size h0 s1 s2 s3 s4 s5 s6 ds sp bt f kq cO (by first | assumption | omega | decide)) (cwV 1 hts (gV bw_267 bw_346 bw_347 bw_223 bw_345) rfl rfl rfl (by decide +kernel) ⟨(by rw [hR]; exact Nat.le_of_ble_eq_true rfl), (by rw [hR]; exact Nat.le_of_ble_eq_true rfl)⟩) ⟨cP_blind, va_recv hKc hPc (ci := 8) (q0 := 0) rfl rfl, cP_at hPc hKc hDc hN⟩ rfl rfl hl.1 rfl (lv_room (Nat.le_of_ble_eq_true rfl)) dX8_carry_9 ⟨(by rw [hR]; exact Nat.le_of_ble_eq_true rfl), (by rw [hR]; exact Nat.le_of_ble_eq_true rfl)⟩) hS (fun q _ h => hFc q h) hFc (fun r_2 u9 t9 H1 locs ht hvm hr_2 hB hz1 hk1 hS => ?_)
  try dsimp only at hr_2
  obtain ⟨hP1, hK1, hD1⟩ := hB
  rw [ht] at hP1
  obtain ⟨hP, hD⟩ := va_join (wr := [(fa, .inr (2, [.int ax, .int ay, .int aw, .int ah])), (fb, .inr (2, [.int ox, .int oy, .int ow, .int oh]))]) (w1 := [(h0, .inr (8, [.ref s1, .ref s2, .ref s3, .ref s4, .ref s5, .ref s6, .int ds, va_rf sp, va_rf bt])), (s1, .inl (cO, 4, .inr (.inr (.inr (.inr f)))))]) hP hD [2, 3] [0, 1] rfl rfl (by decide) (by decide) hk1 hFc hP1 hD1
  clear hz1 hk1 hFc hKc hDc hPc
  generalize H1 = H at hP hS ⊢
  have hP : va_P D vwCl [(fa, .inr (2, [.int ax, .int ay, .int aw, .int ah])), (fb, .inr (2, [.int ox, .int oy, .int ow, .int oh])), (h0, .inr (8, [.ref s1, .ref s2, .ref s3, .ref s4, .ref s5, .ref s6, .int ds, va_rf sp, va_rf bt])), (s1, .inl (cO, 4, .inr (.inr (.inr (.inr f)))))] H := hP
  have hD : va_D A [(fa, .inr (2, [.int ax, .int ay, .int aw, .int ah])), (fb, .inr (2, [.int ox, .int oy, .int ow, .int oh])), (h0, .inr (8, [.ref s1, .ref s2, .ref s3, .ref s4, .ref s5, .ref s6, .int ds, va_rf sp, va_rf bt])), (s1, .inl (cO, 4, .inr (.inr (.inr (.inr f)))))] := hD
  subst hr_2
  refine my_topv (v := .null) rfl ?_
  refine lv_astoreN (lv' := [(6, .null), (5, .ref u0), (0, .ref h0), (1, .int k), (2, .ref fa), (3, .int kq), (4, .ref fb)]) hx hb dX8_carry_12 hl (by decide) rfl (fun ls hl => ?_)
  refine lv_aload hx hb dX8_carry_14 (lv_at hl 1 rfl) ?_
  refine lv_ifnull hx hb dX8_carry_16 ?_
  refine lv_aloadN hx hb dX8_carry_19 (lv_at hl 0 rfl) ?_
  refine lv_ifnullN (tgt := 39) hx hb dX8_carry_21 (by decide) ?_
  refine lv_iconst (v := (-1)) hx hb dX8_carry_39 (by decide) ?_
  have hP9 := hP.sub (ws' := [(h0, .inr (8, [.ref s1, .ref s2, .ref s3, .ref s4, .ref s5, .ref s6, .int ds, va_rf sp, va_rf bt])), (s1, .inl (cO, 4, .inr (.inr (.inr (.inr f)))))]) [2, 3] rfl
  have hD9 := hD.sub (ws' := [(h0, .inr (8, [.ref s1, .ref s2, .ref s3, .ref s4, .ref s5, .ref s6, .int ds, va_rf sp, va_rf bt])), (s1, .inl (cO, 4, .inr (.inr (.inr (.inr f)))))]) [2, 3] (by decide) rfl
  have hK9 := hK.sub (tys' := [(cO, .object "DotBench$Sheet")]) [0] rfl
  refine hQ _ _ _ _ _ ?_
  exact W.iret (v := (-1)) hx hb hr (fun t ht hW => ⟨⟨(-1), (), rfl, rfl, ⟨by rw [ht]; exact hP9, va_K.moved hW.alike hK9, hD9⟩⟩, hS.F ht⟩) hS.2.2 dX8_carry_40

set_option maxHeartbeats 4000000 in
set_option maxRecDepth 100000 in
theorem k_X8_carry_x (l : Launch) (D : va_G) (sz : Nat) (h0 s1 s2 s3 s4 s5 s6 : Nat) (ds : Int32) (sp bt : Option Nat) (f : Nat → Option Nat) (u0 t0 : Nat) (fa fb : Nat) (ax ay aw ah ox oy ow oh : Int32) (k kq : Int32) (cO : ClassId) (hak : 0 ≤ k.toInt ∧ k.toInt ≤ 3) (haf : f k.toNatClampNeg = some u0) (hb0k : 0 ≤ kq.toInt ∧ kq.toInt ≤ 3) (hb0f : f kq.toNatClampNeg = some t0) (hnr : ¬ ((-200 ≤ ax.toInt ∧ ax.toInt ≤ 200) ∧ (-200 ≤ ay.toInt ∧ ay.toInt ≤ 200) ∧ (-200 ≤ ox.toInt ∧ ox.toInt ≤ 200) ∧ (-200 ≤ oy.toInt ∧ oy.toInt ≤ 200))) : Met l yX8_carry (wB yX8_carry cX8_carry 12 (some .int)) ({ frames := 3, cells := 0, slots := 0, locals := 63 }) (cP D [(h0, .inr (8, [.ref s1, .ref s2, .ref s3, .ref s4, .ref s5, .ref s6, .int ds, va_rf sp, va_rf bt])), (s1, .inl (cO, 4, .inr (.inr (.inr (.inr f))))), (fa, .inr (2, [.int ax, .int ay, .int aw, .int ah])), (fb, .inr (2, [.int ox, .int oy, .int ow, .int oh]))] [(cO, .object "DotBench$Sheet")] sz [.ref h0, .int k, .ref fa, .int kq, .ref fb]) (va_Qi (fun (r : Int32) (_ : Unit) => r = -1) (fun (_ : Unit) (t : State) => cB D (va_A [(h0, .inr (8, [.ref s1, .ref s2, .ref s3, .ref s4, .ref s5, .ref s6, .int ds, va_rf sp, va_rf bt])), (s1, .inl (cO, 4, .inr (.inr (.inr (.inr f))))), (fa, .inr (2, [.int ax, .int ay, .int aw, .int ah])), (fb, .inr (2, [.int ox, .int oy, .int ow, .int oh]))] sz) [(h0, .inr (8, [.ref s1, .ref s2, .ref s3, .ref s4, .ref s5, .ref s6, .int ds, va_rf sp, va_rf bt])), (s1, .inl (cO, 4, .inr (.inr (.inr (.inr f)))))] [(cO, .object "DotBench$Sheet")] t) (va_A [(h0, .inr (8, [.ref s1, .ref s2, .ref s3, .ref s4, .ref s5, .ref s6, .int ds, va_rf sp, va_rf bt])), (s1, .inl (cO, 4, .inr (.inr (.inr (.inr f))))), (fa, .inr (2, [.int ax, .int ay, .int aw, .int ah])), (fb, .inr (2, [.int ox, .int oy, .int ow, .int oh]))] sz)) 0 0 (va_A [(h0, .inr (8, [.ref s1, .ref s2, .ref s3, .ref s4, .ref s5, .ref s6, .int ds, va_rf sp, va_rf bt])), (s1, .inl (cO, 4, .inr (.inr (.inr (.inr f))))), (fa, .inr (2, [.int ax, .int ay, .int aw, .int ah])), (fb, .inr (2, [.int ox, .int oy, .int ow, .int oh]))] sz) := by
  refine Met.ofW (cc := cX8_carry) (maxL := 12) (ret := (some .int)) (by decide) rfl ?_
  intro p e s m args below meth c s₁ B hml hv
  obtain ⟨rfl, hsz, hP, hK, hD0, hN⟩ := hv
  have hx := B.exec
  have hb := B.bytes
  have hr := B.returns
  have hts0 := atoms_spec (ws := (wB yX8_carry cX8_carry 12 (some .int))) B.pre
  have hts : ∀ w ∈ bigW, w.before _ s = true := fun w h => hts0 w (List.mem_cons_of_mem _ h)
  have hown : s.vm.findClass RX8 = some m.cls := findClass_of_methodNamed B.named
  have hlocks := B.notSynchronized
  subst hsz
  have hD := hD0.self (sz := s.heap.size)
  generalize hAe : va_A [(h0, .inr (8, [.ref s1, .ref s2, .ref s3, .ref s4, .ref s5, .ref s6, .int ds, va_rf sp, va_rf bt])), (s1, .inl (cO, 4, .inr (.inr (.inr (.inr f))))), (fa, .inr (2, [.int ax, .int ay, .int aw, .int ah])), (fb, .inr (2, [.int ox, .int oy, .int ow, .int oh]))] s.heap.size = A at hD ⊢
  have hA : ∀ q : Nat, s.heap.size ≤ q → A q := fun q h => by rw [← hAe]; exact Or.inr h
  have hS : va_S A s.heap s.heap [] := va_S.rf
  have hP : va_P D vwCl [(h0, .inr (8, [.ref s1, .ref s2, .ref s3, .ref s4, .ref s5, .ref s6, .int ds, va_rf sp, va_rf bt])), (s1, .inl (cO, 4, .inr (.inr (.inr (.inr f))))), (fa, .inr (2, [.int ax, .int ay, .int aw, .int ah])), (fb, .inr (2, [.int ox, .int oy, .int ow, .int oh]))] s.heap := hP
  have hl := lv_entry ([.ref h0, .int k, .ref fa, .int kq, .ref fb]) (n := 12) (Nat.le_of_ble_eq_true rfl)
  rw [lg_entry_eq]
  generalize (lg_sl ([.ref h0, .int k, .ref fa, .int kq, .ref fb]) ++ List.replicate (12 - (lg_sl ([.ref h0, .int k, .ref fa, .int kq, .ref fb])).length) Slot.unset).toArray = ls at hl ⊢
  have hl : lv_has ls 12 [(0, .ref h0), (1, .int k), (2, .ref fa), (3, .int kq), (4, .ref fb)] := hl
  clear hts0 hD0 hAe
  refine my_abs (fun R Q hR hQ => ?_)
  refine lv_aload_n hx hb dX8_carry_0 rfl (lv_at hl 0 rfl) ?_
  refine lv_iload_n hx hb dX8_carry_1 rfl (lv_at hl 1 rfl) ?_
  have hPc := hP.sub (ws' := [(h0, .inr (8, [.ref s1, .ref s2, .ref s3, .ref s4, .ref s5, .ref s6, .int ds, va_rf sp, va_rf bt])), (s1, .inl (cO, 4, .inr (.inr (.inr (.inr f)))))]) [0, 1] rfl
  have hDc := hD.sub (ws' := [(h0, .inr (8, [.ref s1, .ref s2, .ref s3, .ref s4, .ref s5, .ref s6, .int ds, va_rf sp, va_rf bt])), (s1, .inl (cO, 4, .inr (.inr (.inr (.inr f)))))]) [0, 1] (by decide) rfl
  have hKc := hK.sub (tys' := [(cO, .object "DotBench$Sheet")]) [0] rfl
  have hFc := va_free (wc := [(h0, .inr (8, [.ref s1, .ref s2, .ref s3, .ref s4, .ref s5, .ref s6, .int ds, va_rf sp, va_rf bt])), (s1, .inl (cO, 4, .inr (.inr (.inr (.inr f)))))]) hD hS hA [0, 1] rfl
  refine va_callq (va_runV (As := [.int k]) (rest := []) ⟨hx, hb, hml, hown, hts⟩ (k_X8_sheetAt_y l D s.heap.size h0 s1 s2 s3 s4 s5 s6 ds sp bt f k u0 cO (by first | assumption | omega | decide) (by first | assumption | omega | decide)) (cwV 1 hts (gV bw_267 bw_346 bw_347 bw_223 bw_345) rfl rfl rfl (by decide +kernel) ⟨(by rw [hR]; exact Nat.le_of_ble_eq_true rfl), (by rw [hR]; exact Nat.le_of_ble_eq_true rfl)⟩) ⟨cP_blind, va_recv hKc hPc (ci := 8) (q0 := 0) rfl rfl, cP_at hPc hKc hDc hN⟩ rfl rfl hl.1 rfl (lv_room (Nat.le_of_ble_eq_true rfl)) dX8_carry_2 ⟨(by rw [hR]; exact Nat.le_of_ble_eq_true rfl), (by rw [hR]; exact Nat.le_of_ble_eq_true rfl)⟩) hS (fun q _ h => hFc q h) hFc (fun r_1 u9 t9 H1 locs ht hvm hr_1 hB hz1 hk1 hS => ?_)
  try dsimp only at hr_1
  obtain ⟨hP1, hK1, hD1⟩ := hB
  rw [ht] at hP1
  obtain ⟨hP, hD⟩ := va_join (wr := [(fa, .inr (2, [.int ax, .int ay, .int aw, .int ah])), (fb, .inr (2, [.int ox, .int oy, .int ow, .int oh]))]) (w1 := [(h0, .inr (8, [.ref s1, .ref s2, .ref s3, .ref s4, .ref s5, .ref s6, .int ds, va_rf sp, va_rf bt])), (s1, .inl (cO, 4, .inr (.inr (.inr (.inr f)))))]) hP hD [0, 1] [2, 3] rfl rfl (by decide) (by decide) hk1 hFc hP1 hD1
  clear hz1 hk1 hFc hKc hDc hPc
  generalize H1 = H at hP hS ⊢
  have hP : va_P D vwCl [(fa, .inr (2, [.int ax, .int ay, .int aw, .int ah])), (fb, .inr (2, [.int ox, .int oy, .int ow, .int oh])), (h0, .inr (8, [.ref s1, .ref s2, .ref s3, .ref s4, .ref s5, .ref s6, .int ds, va_rf sp, va_rf bt])), (s1, .inl (cO, 4, .inr (.inr (.inr (.inr f)))))] H := hP
  have hD : va_D A [(fa, .inr (2, [.int ax, .int ay, .int aw, .int ah])), (fb, .inr (2, [.int ox, .int oy, .int ow, .int oh])), (h0, .inr (8, [.ref s1, .ref s2, .ref s3, .ref s4, .ref s5, .ref s6, .int ds, va_rf sp, va_rf bt])), (s1, .inl (cO, 4, .inr (.inr (.inr (.inr f)))))] := hD
  subst hr_1
  refine my_topv (v := .ref u0) rfl ?_
  refine lv_astore (lv' := [(5, .ref u0), (0, .ref h0), (1, .int k), (2, .ref fa), (3, .int kq), (4, .ref fb)]) hx hb dX8_carry_5 hl (by decide) rfl (fun ls hl => ?_)
  refine lv_aload_n hx hb dX8_carry_7 rfl (lv_at hl 1 rfl) ?_
  refine lv_iload_n hx hb dX8_carry_8 rfl (lv_at hl 4 rfl) ?_
  have hPc := hP.sub (ws' := [(h0, .inr (8, [.ref s1, .ref s2, .ref s3, .ref s4, .ref s5, .ref s6, .int ds, va_rf sp, va_rf bt])), (s1, .inl (cO, 4, .inr (.inr (.inr (.inr f)))))]) [2, 3] rfl
  have hDc := hD.sub (ws' := [(h0, .inr (8, [.ref s1, .ref s2, .ref s3, .ref s4, .ref s5, .ref s6, .int ds, va_rf sp, va_rf bt])), (s1, .inl (cO, 4, .inr (.inr (.inr (.inr f)))))]) [2, 3] (by decide) rfl
  have hKc := hK.sub (tys' := [(cO, .object "DotBench$Sheet")]) [0] rfl
  have hFc := va_free (wc := [(h0, .inr (8, [.ref s1, .ref s2, .ref s3, .ref s4, .ref s5, .ref s6, .int ds, va_rf sp, va_rf bt])), (s1, .inl (cO, 4, .inr (.inr (.inr (.inr f)))))]) hD hS hA [2, 3] rfl
  refine va_callq (va_runV (As := [.int kq]) (rest := []) ⟨hx, hb, hml, hown, hts⟩ (k_X8_sheetAt_y l D H.size h0 s1 s2 s3 s4 s5 s6 ds sp bt f kq t0 cO (by first | assumption | omega | decide) (by first | assumption | omega | decide)) (cwV 1 hts (gV bw_267 bw_346 bw_347 bw_223 bw_345) rfl rfl rfl (by decide +kernel) ⟨(by rw [hR]; exact Nat.le_of_ble_eq_true rfl), (by rw [hR]; exact Nat.le_of_ble_eq_true rfl)⟩) ⟨cP_blind, va_recv hKc hPc (ci := 8) (q0 := 0) rfl rfl, cP_at hPc hKc hDc hN⟩ rfl rfl hl.1 rfl (lv_room (Nat.le_of_ble_eq_true rfl)) dX8_carry_9 ⟨(by rw [hR]; exact Nat.le_of_ble_eq_true rfl), (by rw [hR]; exact Nat.le_of_ble_eq_true rfl)⟩) hS (fun q _ h => hFc q h) hFc (fun r_2 u9 t9 H1 locs ht hvm hr_2 hB hz1 hk1 hS => ?_)
  try dsimp only at hr_2
  obtain ⟨hP1, hK1, hD1⟩ := hB
  rw [ht] at hP1
  obtain ⟨hP, hD⟩ := va_join (wr := [(fa, .inr (2, [.int ax, .int ay, .int aw, .int ah])), (fb, .inr (2, [.int ox, .int oy, .int ow, .int oh]))]) (w1 := [(h0, .inr (8, [.ref s1, .ref s2, .ref s3, .ref s4, .ref s5, .ref s6, .int ds, va_rf sp, va_rf bt])), (s1, .inl (cO, 4, .inr (.inr (.inr (.inr f)))))]) hP hD [2, 3] [0, 1] rfl rfl (by decide) (by decide) hk1 hFc hP1 hD1
  clear hz1 hk1 hFc hKc hDc hPc
  generalize H1 = H at hP hS ⊢
  have hP : va_P D vwCl [(fa, .inr (2, [.int ax, .int ay, .int aw, .int ah])), (fb, .inr (2, [.int ox, .int oy, .int ow, .int oh])), (h0, .inr (8, [.ref s1, .ref s2, .ref s3, .ref s4, .ref s5, .ref s6, .int ds, va_rf sp, va_rf bt])), (s1, .inl (cO, 4, .inr (.inr (.inr (.inr f)))))] H := hP
  have hD : va_D A [(fa, .inr (2, [.int ax, .int ay, .int aw, .int ah])), (fb, .inr (2, [.int ox, .int oy, .int ow, .int oh])), (h0, .inr (8, [.ref s1, .ref s2, .ref s3, .ref s4, .ref s5, .ref s6, .int ds, va_rf sp, va_rf bt])), (s1, .inl (cO, 4, .inr (.inr (.inr (.inr f)))))] := hD
  subst hr_2
  refine my_topv (v := .ref t0) rfl ?_
  refine lv_astore (lv' := [(6, .ref t0), (5, .ref u0), (0, .ref h0), (1, .int k), (2, .ref fa), (3, .int kq), (4, .ref fb)]) hx hb dX8_carry_12 hl (by decide) rfl (fun ls hl => ?_)
  refine lv_aload hx hb dX8_carry_14 (lv_at hl 1 rfl) ?_
  refine lv_ifnull hx hb dX8_carry_16 ?_
  refine lv_aload hx hb dX8_carry_19 (lv_at hl 0 rfl) ?_
  refine lv_ifnull hx hb dX8_carry_21 ?_
  refine lv_aload_n hx hb dX8_carry_24 rfl (lv_at hl 4 rfl) ?_
  have hPc := hP.sub (ws' := [(fa, .inr (2, [.int ax, .int ay, .int aw, .int ah]))]) [0] rfl
  have hDc := hD.sub (ws' := [(fa, .inr (2, [.int ax, .int ay, .int aw, .int ah]))]) [0] (by decide) rfl
  have hKc := hK.sub (tys' := []) [] rfl
  have hFc := va_free (wc := [(fa, .inr (2, [.int ax, .int ay, .int aw, .int ah]))]) hD hS hA [0] rfl
  refine va_calli (va_runV (As := []) (rest := []) ⟨hx, hb, hml, hown, hts⟩ (k_X2_isNearby l D H.size fa ax ay aw ah) (cwV 0 hts (gV bw_385 bw_65 bw_66 bw_55 bw_64) rfl rfl rfl (by decide +kernel) ⟨(by rw [hR]; exact Nat.le_of_ble_eq_true rfl), (by rw [hR]; exact Nat.le_of_ble_eq_true rfl)⟩) ⟨cP_blind, va_recv hKc hPc (ci := 2) (q0 := 0) rfl rfl, cP_at hPc hKc hDc hN⟩ rfl rfl hl.1 rfl (lv_room (Nat.le_of_ble_eq_true rfl)) dX8_carry_25 ⟨(by rw [hR]; exact Nat.le_of_ble_eq_true rfl), (by rw [hR]; exact Nat.le_of_ble_eq_true rfl)⟩) hS (fun q _ h => hFc q h) hFc (fun r_3 u9 t9 H1 locs ht hvm hr_3 hB hz1 hk1 hS => ?_)
  try dsimp only at hr_3
  obtain ⟨hP1, hK1, hD1⟩ := hB
  rw [ht] at hP1
  obtain ⟨hP, hD⟩ := va_join (wr := [(fb, .inr (2, [.int ox, .int oy, .int ow, .int oh])), (h0, .inr (8, [.ref s1, .ref s2, .ref s3, .ref s4, .ref s5, .ref s6, .int ds, va_rf sp, va_rf bt])), (s1, .inl (cO, 4, .inr (.inr (.inr (.inr f)))))]) (w1 := [(fa, .inr (2, [.int ax, .int ay, .int aw, .int ah]))]) hP hD [0] [1, 2, 3] rfl rfl (by decide) (by decide) hk1 hFc hP1 hD1
  clear hz1 hk1 hFc hKc hDc hPc
  generalize H1 = H at hP hS ⊢
  have hP : va_P D vwCl [(fb, .inr (2, [.int ox, .int oy, .int ow, .int oh])), (h0, .inr (8, [.ref s1, .ref s2, .ref s3, .ref s4, .ref s5, .ref s6, .int ds, va_rf sp, va_rf bt])), (s1, .inl (cO, 4, .inr (.inr (.inr (.inr f))))), (fa, .inr (2, [.int ax, .int ay, .int aw, .int ah]))] H := hP
  have hD : va_D A [(fb, .inr (2, [.int ox, .int oy, .int ow, .int oh])), (h0, .inr (8, [.ref s1, .ref s2, .ref s3, .ref s4, .ref s5, .ref s6, .int ds, va_rf sp, va_rf bt])), (s1, .inl (cO, 4, .inr (.inr (.inr (.inr f))))), (fa, .inr (2, [.int ax, .int ay, .int aw, .int ah]))] := hD
  refine lv_if_eq (tgt := 39) hx hb dX8_carry_28 (by decide) (fun c_4 => ?_) (fun c_4 => ?_)
  · skip
    have f_5 := bz0 hr_3 c_4
    refine lv_iconst (v := (-1)) hx hb dX8_carry_39 (by decide) ?_
    have hP9 := hP.sub (ws' := [(h0, .inr (8, [.ref s1, .ref s2, .ref s3, .ref s4, .ref s5, .ref s6, .int ds, va_rf sp, va_rf bt])), (s1, .inl (cO, 4, .inr (.inr (.inr (.inr f)))))]) [1, 2] rfl
    have hD9 := hD.sub (ws' := [(h0, .inr (8, [.ref s1, .ref s2, .ref s3, .ref s4, .ref s5, .ref s6, .int ds, va_rf sp, va_rf bt])), (s1, .inl (cO, 4, .inr (.inr (.inr (.inr f)))))]) [1, 2] (by decide) rfl
    have hK9 := hK.sub (tys' := [(cO, .object "DotBench$Sheet")]) [0] rfl
    refine hQ _ _ _ _ _ ?_
    exact W.iret (v := (-1)) hx hb hr (fun t ht hW => ⟨⟨(-1), (), rfl, rfl, ⟨by rw [ht]; exact hP9, va_K.moved hW.alike hK9, hD9⟩⟩, hS.F ht⟩) hS.2.2 dX8_carry_40
  · skip
    have f_5 := bz1 hr_3 c_4
    refine lv_aload hx hb dX8_carry_31 (lv_at hl 6 rfl) ?_
    have hPc := hP.sub (ws' := [(fb, .inr (2, [.int ox, .int oy, .int ow, .int oh]))]) [0] rfl
    have hDc := hD.sub (ws' := [(fb, .inr (2, [.int ox, .int oy, .int ow, .int oh]))]) [0] (by decide) rfl
    have hKc := hK.sub (tys' := []) [] rfl
    have hFc := va_free (wc := [(fb, .inr (2, [.int ox, .int oy, .int ow, .int oh]))]) hD hS hA [0] rfl
    refine va_calli (va_runV (As := []) (rest := []) ⟨hx, hb, hml, hown, hts⟩ (k_X2_isNearby l D H.size fb ox oy ow oh) (cwV 0 hts (gV bw_385 bw_65 bw_66 bw_55 bw_64) rfl rfl rfl (by decide +kernel) ⟨(by rw [hR]; exact Nat.le_of_ble_eq_true rfl), (by rw [hR]; exact Nat.le_of_ble_eq_true rfl)⟩) ⟨cP_blind, va_recv hKc hPc (ci := 2) (q0 := 0) rfl rfl, cP_at hPc hKc hDc hN⟩ rfl rfl hl.1 rfl (lv_room (Nat.le_of_ble_eq_true rfl)) dX8_carry_33 ⟨(by rw [hR]; exact Nat.le_of_ble_eq_true rfl), (by rw [hR]; exact Nat.le_of_ble_eq_true rfl)⟩) hS (fun q _ h => hFc q h) hFc (fun r_6 u9 t9 H1 locs ht hvm hr_6 hB hz1 hk1 hS => ?_)
    try dsimp only at hr_6
    obtain ⟨hP1, hK1, hD1⟩ := hB
    rw [ht] at hP1
    obtain ⟨hP, hD⟩ := va_join (wr := [(h0, .inr (8, [.ref s1, .ref s2, .ref s3, .ref s4, .ref s5, .ref s6, .int ds, va_rf sp, va_rf bt])), (s1, .inl (cO, 4, .inr (.inr (.inr (.inr f))))), (fa, .inr (2, [.int ax, .int ay, .int aw, .int ah]))]) (w1 := [(fb, .inr (2, [.int ox, .int oy, .int ow, .int oh]))]) hP hD [0] [1, 2, 3] rfl rfl (by decide) (by decide) hk1 hFc hP1 hD1
    clear hz1 hk1 hFc hKc hDc hPc
    generalize H1 = H at hP hS ⊢
    have hP : va_P D vwCl [(h0, .inr (8, [.ref s1, .ref s2, .ref s3, .ref s4, .ref s5, .ref s6, .int ds, va_rf sp, va_rf bt])), (s1, .inl (cO, 4, .inr (.inr (.inr (.inr f))))), (fa, .inr (2, [.int ax, .int ay, .int aw, .int ah])), (fb, .inr (2, [.int ox, .int oy, .int ow, .int oh]))] H := hP
    have hD : va_D A [(h0, .inr (8, [.ref s1, .ref s2, .ref s3, .ref s4, .ref s5, .ref s6, .int ds, va_rf sp, va_rf bt])), (s1, .inl (cO, 4, .inr (.inr (.inr (.inr f))))), (fa, .inr (2, [.int ax, .int ay, .int aw, .int ah])), (fb, .inr (2, [.int ox, .int oy, .int ow, .int oh]))] := hD
    refine lv_if_ne (tgt := 41) hx hb dX8_carry_36 (by decide) (fun c_7 => ?_) (fun c_7 => ?_)
    · skip
      have f_8 := bz1 hr_6 c_7
      exact False.elim (by omega)
    · skip
      have f_8 := bz0 hr_6 c_7
      refine lv_iconst (v := (-1)) hx hb dX8_carry_39 (by decide) ?_
      have hP9 := hP.sub (ws' := [(h0, .inr (8, [.ref s1, .ref s2, .ref s3, .ref s4, .ref s5, .ref s6, .int ds, va_rf sp, va_rf bt])), (s1, .inl (cO, 4, .inr (.inr (.inr (.inr f)))))]) [0, 1] rfl
      have hD9 := hD.sub (ws' := [(h0, .inr (8, [.ref s1, .ref s2, .ref s3, .ref s4, .ref s5, .ref s6, .int ds, va_rf sp, va_rf bt])), (s1, .inl (cO, 4, .inr (.inr (.inr (.inr f)))))]) [0, 1] (by decide) rfl
      have hK9 := hK.sub (tys' := [(cO, .object "DotBench$Sheet")]) [0] rfl
      refine hQ _ _ _ _ _ ?_
      exact W.iret (v := (-1)) hx hb hr (fun t ht hW => ⟨⟨(-1), (), rfl, rfl, ⟨by rw [ht]; exact hP9, va_K.moved hW.alike hK9, hD9⟩⟩, hS.F ht⟩) hS.2.2 dX8_carry_40

set_option maxHeartbeats 4000000 in
set_option maxRecDepth 100000 in
theorem k_X8_carry_d (l : Launch) (D : va_G) (sz : Nat) (h0 s1 s2 s3 s4 s5 s6 : Nat) (ds : Int32) (sp bt : Option Nat) (f : Nat → Option Nat) (bx t0 d0 : Nat) (ik wy op : Int32) (bx0 by0 bx1 by1 : Int32) (w h : Int32) (g : Nat → Int32) (u0 e0 : Nat) (w2 h2 : Int32) (gs : Nat → Int32) (fa fb : Nat) (ax ay aw ah ox oy ow oh : Int32) (k kq : Int32) (cO : ClassId) (cI : ClassId) (hak : 0 ≤ k.toInt ∧ k.toInt ≤ 3) (haf : f k.toNatClampNeg = some u0) (hb0k : 0 ≤ kq.toInt ∧ kq.toInt ≤ 3) (hb0f : f kq.toNatClampNeg = some t0) (hne : ¬ k.toInt = kq.toInt) (hnr : (-200 ≤ ax.toInt ∧ ax.toInt ≤ 200) ∧ (-200 ≤ ay.toInt ∧ ay.toInt ≤ 200) ∧ (-200 ≤ ox.toInt ∧ ox.toInt ≤ 200) ∧ (-200 ≤ oy.toInt ∧ oy.toInt ≤ 200)) (hwy : 0 ≤ wy.toInt ∧ wy.toInt ≤ 12) (hw : w.toInt ≤ 64) (hh : h.toInt ≤ 64) (hw2 : w2.toInt ≤ 64) (hh2 : h2.toInt ≤ 64) (how : ow.toInt ≤ 64) (hoh : oh.toInt ≤ 64) : Met l yX8_carry (wB yX8_carry cX8_carry 12 (some .int)) ({ frames := 3, cells := 0, slots := 0, locals := 75 }) (cP D [(h0, .inr (8, [.ref s1, .ref s2, .ref s3, .ref s4, .ref s5, .ref s6, .int ds, va_rf sp, va_rf bt])), (s1, .inl (cO, 4, .inr (.inr (.inr (.inr f))))), (s2, .inr (1, [.ref bx, .int ik, .int wy, .int op])), (bx, .inr (0, [.int bx0, .int by0, .int bx1, .int by1])), (t0, .inr (5, [.ref d0, .int w, .int h])), (d0, .inl (cI, 4096, .inl g)), (u0, .inr (5, [.ref e0, .int w2, .int h2])), (e0, .inl (cI, 4096, .inl gs)), (fa, .inr (2, [.int ax, .int ay, .int aw, .int ah])), (fb, .inr (2, [.int ox, .int oy, .int ow, .int oh]))] [(cO, .object "DotBench$Sheet"), (cI, .int)] sz [.ref h0, .int k, .ref fa, .int kq, .ref fb]) (va_Qi (fun (r : Int32) (_ : Unit) => True) (fun (_ : Unit) (t : State) => ∃ (g2 : Nat → Int32), cB D (va_A [(h0, .inr (8, [.ref s1, .ref s2, .ref s3, .ref s4, .ref s5, .ref s6, .int ds, va_rf sp, va_rf bt])), (s1, .inl (cO, 4, .inr (.inr (.inr (.inr f))))), (s2, .inr (1, [.ref bx, .int ik, .int wy, .int op])), (bx, .inr (0, [.int bx0, .int by0, .int bx1, .int by1])), (t0, .inr (5, [.ref d0, .int w, .int h])), (d0, .inl (cI, 4096, .inl g)), (u0, .inr (5, [.ref e0, .int w2, .int h2])), (e0, .inl (cI, 4096, .inl gs)), (fa, .inr (2, [.int ax, .int ay, .int aw, .int ah])), (fb, .inr (2, [.int ox, .int oy, .int ow, .int oh]))] sz) [(h0, .inr (8, [.ref s1, .ref s2, .ref s3, .ref s4, .ref s5, .ref s6, .int ds, va_rf sp, va_rf bt])), (s1, .inl (cO, 4, .inr (.inr (.inr (.inr f))))), (s2, .inr (1, [.ref bx, .int ik, .int wy, .int op])), (bx, .inr (0, [.int bx0, .int by0, .int bx1, .int by1])), (t0, .inr (5, [.ref d0, .int w, .int h])), (d0, .inl (cI, 4096, .inl g2)), (u0, .inr (5, [.ref e0, .int w2, .int h2])), (e0, .inl (cI, 4096, .inl gs))] [(cO, .object "DotBench$Sheet"), (cI, .int)] t) (va_A [(h0, .inr (8, [.ref s1, .ref s2, .ref s3, .ref s4, .ref s5, .ref s6, .int ds, va_rf sp, va_rf bt])), (s1, .inl (cO, 4, .inr (.inr (.inr (.inr f))))), (s2, .inr (1, [.ref bx, .int ik, .int wy, .int op])), (bx, .inr (0, [.int bx0, .int by0, .int bx1, .int by1])), (t0, .inr (5, [.ref d0, .int w, .int h])), (d0, .inl (cI, 4096, .inl g)), (u0, .inr (5, [.ref e0, .int w2, .int h2])), (e0, .inl (cI, 4096, .inl gs)), (fa, .inr (2, [.int ax, .int ay, .int aw, .int ah])), (fb, .inr (2, [.int ox, .int oy, .int ow, .int oh]))] sz)) 0 0 (va_A [(h0, .inr (8, [.ref s1, .ref s2, .ref s3, .ref s4, .ref s5, .ref s6, .int ds, va_rf sp, va_rf bt])), (s1, .inl (cO, 4, .inr (.inr (.inr (.inr f))))), (s2, .inr (1, [.ref bx, .int ik, .int wy, .int op])), (bx, .inr (0, [.int bx0, .int by0, .int bx1, .int by1])), (t0, .inr (5, [.ref d0, .int w, .int h])), (d0, .inl (cI, 4096, .inl g)), (u0, .inr (5, [.ref e0, .int w2, .int h2])), (e0, .inl (cI, 4096, .inl gs)), (fa, .inr (2, [.int ax, .int ay, .int aw, .int ah])), (fb, .inr (2, [.int ox, .int oy, .int ow, .int oh]))] sz) := by
  refine Met.ofW (cc := cX8_carry) (maxL := 12) (ret := (some .int)) (by decide) rfl ?_
  intro p e s m args below meth c s₁ B hml hv
  obtain ⟨rfl, hsz, hP, hK, hD0, hN⟩ := hv
  have hx := B.exec
  have hb := B.bytes
  have hr := B.returns
  have hts0 := atoms_spec (ws := (wB yX8_carry cX8_carry 12 (some .int))) B.pre
  have hts : ∀ w ∈ bigW, w.before _ s = true := fun w h => hts0 w (List.mem_cons_of_mem _ h)
  have hown : s.vm.findClass RX8 = some m.cls := findClass_of_methodNamed B.named
  have hlocks := B.notSynchronized
  subst hsz
  have hD := hD0.self (sz := s.heap.size)
  generalize hAe : va_A [(h0, .inr (8, [.ref s1, .ref s2, .ref s3, .ref s4, .ref s5, .ref s6, .int ds, va_rf sp, va_rf bt])), (s1, .inl (cO, 4, .inr (.inr (.inr (.inr f))))), (s2, .inr (1, [.ref bx, .int ik, .int wy, .int op])), (bx, .inr (0, [.int bx0, .int by0, .int bx1, .int by1])), (t0, .inr (5, [.ref d0, .int w, .int h])), (d0, .inl (cI, 4096, .inl g)), (u0, .inr (5, [.ref e0, .int w2, .int h2])), (e0, .inl (cI, 4096, .inl gs)), (fa, .inr (2, [.int ax, .int ay, .int aw, .int ah])), (fb, .inr (2, [.int ox, .int oy, .int ow, .int oh]))] s.heap.size = A at hD ⊢
  have hA : ∀ q : Nat, s.heap.size ≤ q → A q := fun q h => by rw [← hAe]; exact Or.inr h
  have hS : va_S A s.heap s.heap [] := va_S.rf
  have hP : va_P D vwCl [(h0, .inr (8, [.ref s1, .ref s2, .ref s3, .ref s4, .ref s5, .ref s6, .int ds, va_rf sp, va_rf bt])), (s1, .inl (cO, 4, .inr (.inr (.inr (.inr f))))), (s2, .inr (1, [.ref bx, .int ik, .int wy, .int op])), (bx, .inr (0, [.int bx0, .int by0, .int bx1, .int by1])), (t0, .inr (5, [.ref d0, .int w, .int h])), (d0, .inl (cI, 4096, .inl g)), (u0, .inr (5, [.ref e0, .int w2, .int h2])), (e0, .inl (cI, 4096, .inl gs)), (fa, .inr (2, [.int ax, .int ay, .int aw, .int ah])), (fb, .inr (2, [.int ox, .int oy, .int ow, .int oh]))] s.heap := hP
  have hl := lv_entry ([.ref h0, .int k, .ref fa, .int kq, .ref fb]) (n := 12) (Nat.le_of_ble_eq_true rfl)
  rw [lg_entry_eq]
  generalize (lg_sl ([.ref h0, .int k, .ref fa, .int kq, .ref fb]) ++ List.replicate (12 - (lg_sl ([.ref h0, .int k, .ref fa, .int kq, .ref fb])).length) Slot.unset).toArray = ls at hl ⊢
  have hl : lv_has ls 12 [(0, .ref h0), (1, .int k), (2, .ref fa), (3, .int kq), (4, .ref fb)] := hl
  clear hts0 hD0 hAe
  refine my_abs (fun R Q hR hQ => ?_)
  refine lv_aload_n hx hb dX8_carry_0 rfl (lv_at hl 0 rfl) ?_
  refine lv_iload_n hx hb dX8_carry_1 rfl (lv_at hl 1 rfl) ?_
  have hPc := hP.sub (ws' := [(h0, .inr (8, [.ref s1, .ref s2, .ref s3, .ref s4, .ref s5, .ref s6, .int ds, va_rf sp, va_rf bt])), (s1, .inl (cO, 4, .inr (.inr (.inr (.inr f)))))]) [0, 1] rfl
  have hDc := hD.sub (ws' := [(h0, .inr (8, [.ref s1, .ref s2, .ref s3, .ref s4, .ref s5, .ref s6, .int ds, va_rf sp, va_rf bt])), (s1, .inl (cO, 4, .inr (.inr (.inr (.inr f)))))]) [0, 1] (by decide) rfl
  have hKc := hK.sub (tys' := [(cO, .object "DotBench$Sheet")]) [0] rfl
  have hFc := va_free (wc := [(h0, .inr (8, [.ref s1, .ref s2, .ref s3, .ref s4, .ref s5, .ref s6, .int ds, va_rf sp, va_rf bt])), (s1, .inl (cO, 4, .inr (.inr (.inr (.inr f)))))]) hD hS hA [0, 1] rfl
  refine va_callq (va_runV (As := [.int k]) (rest := []) ⟨hx, hb, hml, hown, hts⟩ (k_X8_sheetAt_y l D s.heap.size h0 s1 s2 s3 s4 s5 s6 ds sp bt f k u0 cO (by first | assumption | omega | decide) (by first | assumption | omega | decide)) (cwV 1 hts (gV bw_267 bw_346 bw_347 bw_223 bw_345) rfl rfl rfl (by decide +kernel) ⟨(by rw [hR]; exact Nat.le_of_ble_eq_true rfl), (by rw [hR]; exact Nat.le_of_ble_eq_true rfl)⟩) ⟨cP_blind, va_recv hKc hPc (ci := 8) (q0 := 0) rfl rfl, cP_at hPc hKc hDc hN⟩ rfl rfl hl.1 rfl (lv_room (Nat.le_of_ble_eq_true rfl)) dX8_carry_2 ⟨(by rw [hR]; exact Nat.le_of_ble_eq_true rfl), (by rw [hR]; exact Nat.le_of_ble_eq_true rfl)⟩) hS (fun q _ h => hFc q h) hFc (fun r_1 u9 t9 H1 locs ht hvm hr_1 hB hz1 hk1 hS => ?_)
  try dsimp only at hr_1
  obtain ⟨hP1, hK1, hD1⟩ := hB
  rw [ht] at hP1
  obtain ⟨hP, hD⟩ := va_join (wr := [(s2, .inr (1, [.ref bx, .int ik, .int wy, .int op])), (bx, .inr (0, [.int bx0, .int by0, .int bx1, .int by1])), (t0, .inr (5, [.ref d0, .int w, .int h])), (d0, .inl (cI, 4096, .inl g)), (u0, .inr (5, [.ref e0, .int w2, .int h2])), (e0, .inl (cI, 4096, .inl gs)), (fa, .inr (2, [.int ax, .int ay, .int aw, .int ah])), (fb, .inr (2, [.int ox, .int oy, .int ow, .int oh]))]) (w1 := [(h0, .inr (8, [.ref s1, .ref s2, .ref s3, .ref s4, .ref s5, .ref s6, .int ds, va_rf sp, va_rf bt])), (s1, .inl (cO, 4, .inr (.inr (.inr (.inr f)))))]) hP hD [0, 1] [2, 3, 4, 5, 6, 7, 8, 9] rfl rfl (by decide) (by decide) hk1 hFc hP1 hD1
  clear hz1 hk1 hFc hKc hDc hPc
  generalize H1 = H at hP hS ⊢
  have hP : va_P D vwCl [(s2, .inr (1, [.ref bx, .int ik, .int wy, .int op])), (bx, .inr (0, [.int bx0, .int by0, .int bx1, .int by1])), (t0, .inr (5, [.ref d0, .int w, .int h])), (d0, .inl (cI, 4096, .inl g)), (u0, .inr (5, [.ref e0, .int w2, .int h2])), (e0, .inl (cI, 4096, .inl gs)), (fa, .inr (2, [.int ax, .int ay, .int aw, .int ah])), (fb, .inr (2, [.int ox, .int oy, .int ow, .int oh])), (h0, .inr (8, [.ref s1, .ref s2, .ref s3, .ref s4, .ref s5, .ref s6, .int ds, va_rf sp, va_rf bt])), (s1, .inl (cO, 4, .inr (.inr (.inr (.inr f)))))] H := hP
  have hD : va_D A [(s2, .inr (1, [.ref bx, .int ik, .int wy, .int op])), (bx, .inr (0, [.int bx0, .int by0, .int bx1, .int by1])), (t0, .inr (5, [.ref d0, .int w, .int h])), (d0, .inl (cI, 4096, .inl g)), (u0, .inr (5, [.ref e0, .int w2, .int h2])), (e0, .inl (cI, 4096, .inl gs)), (fa, .inr (2, [.int ax, .int ay, .int aw, .int ah])), (fb, .inr (2, [.int ox, .int oy, .int ow, .int oh])), (h0, .inr (8, [.ref s1, .ref s2, .ref s3, .ref s4, .ref s5, .ref s6, .int ds, va_rf sp, va_rf bt])), (s1, .inl (cO, 4, .inr (.inr (.inr (.inr f)))))] := hD
  subst hr_1
  refine my_topv (v := .ref u0) rfl ?_
  refine lv_astore (lv' := [(5, .ref u0), (0, .ref h0), (1, .int k), (2, .ref fa), (3, .int kq), (4, .ref fb)]) hx hb dX8_carry_5 hl (by decide) rfl (fun ls hl => ?_)
  refine lv_aload_n hx hb dX8_carry_7 rfl (lv_at hl 1 rfl) ?_
  refine lv_iload_n hx hb dX8_carry_8 rfl (lv_at hl 4 rfl) ?_
  have hPc := hP.sub (ws' := [(h0, .inr (8, [.ref s1, .ref s2, .ref s3, .ref s4, .ref s5, .ref s6, .int ds, va_rf sp, va_rf bt])), (s1, .inl (cO, 4, .inr (.inr (.inr (.inr f)))))]) [8, 9] rfl
  have hDc := hD.sub (ws' := [(h0, .inr (8, [.ref s1, .ref s2, .ref s3, .ref s4, .ref s5, .ref s6, .int ds, va_rf sp, va_rf bt])), (s1, .inl (cO, 4, .inr (.inr (.inr (.inr f)))))]) [8, 9] (by decide) rfl
  have hKc := hK.sub (tys' := [(cO, .object "DotBench$Sheet")]) [0] rfl
  have hFc := va_free (wc := [(h0, .inr (8, [.ref s1, .ref s2, .ref s3, .ref s4, .ref s5, .ref s6, .int ds, va_rf sp, va_rf bt])), (s1, .inl (cO, 4, .inr (.inr (.inr (.inr f)))))]) hD hS hA [8, 9] rfl
  refine va_callq (va_runV (As := [.int kq]) (rest := []) ⟨hx, hb, hml, hown, hts⟩ (k_X8_sheetAt_y l D H.size h0 s1 s2 s3 s4 s5 s6 ds sp bt f kq t0 cO (by first | assumption | omega | decide) (by first | assumption | omega | decide)) (cwV 1 hts (gV bw_267 bw_346 bw_347 bw_223 bw_345) rfl rfl rfl (by decide +kernel) ⟨(by rw [hR]; exact Nat.le_of_ble_eq_true rfl), (by rw [hR]; exact Nat.le_of_ble_eq_true rfl)⟩) ⟨cP_blind, va_recv hKc hPc (ci := 8) (q0 := 0) rfl rfl, cP_at hPc hKc hDc hN⟩ rfl rfl hl.1 rfl (lv_room (Nat.le_of_ble_eq_true rfl)) dX8_carry_9 ⟨(by rw [hR]; exact Nat.le_of_ble_eq_true rfl), (by rw [hR]; exact Nat.le_of_ble_eq_true rfl)⟩) hS (fun q _ h => hFc q h) hFc (fun r_2 u9 t9 H1 locs ht hvm hr_2 hB hz1 hk1 hS => ?_)
  try dsimp only at hr_2
  obtain ⟨hP1, hK1, hD1⟩ := hB
  rw [ht] at hP1
  obtain ⟨hP, hD⟩ := va_join (wr := [(s2, .inr (1, [.ref bx, .int ik, .int wy, .int op])), (bx, .inr (0, [.int bx0, .int by0, .int bx1, .int by1])), (t0, .inr (5, [.ref d0, .int w, .int h])), (d0, .inl (cI, 4096, .inl g)), (u0, .inr (5, [.ref e0, .int w2, .int h2])), (e0, .inl (cI, 4096, .inl gs)), (fa, .inr (2, [.int ax, .int ay, .int aw, .int ah])), (fb, .inr (2, [.int ox, .int oy, .int ow, .int oh]))]) (w1 := [(h0, .inr (8, [.ref s1, .ref s2, .ref s3, .ref s4, .ref s5, .ref s6, .int ds, va_rf sp, va_rf bt])), (s1, .inl (cO, 4, .inr (.inr (.inr (.inr f)))))]) hP hD [8, 9] [0, 1, 2, 3, 4, 5, 6, 7] rfl rfl (by decide) (by decide) hk1 hFc hP1 hD1
  clear hz1 hk1 hFc hKc hDc hPc
  generalize H1 = H at hP hS ⊢
  have hP : va_P D vwCl [(s2, .inr (1, [.ref bx, .int ik, .int wy, .int op])), (bx, .inr (0, [.int bx0, .int by0, .int bx1, .int by1])), (t0, .inr (5, [.ref d0, .int w, .int h])), (d0, .inl (cI, 4096, .inl g)), (u0, .inr (5, [.ref e0, .int w2, .int h2])), (e0, .inl (cI, 4096, .inl gs)), (fa, .inr (2, [.int ax, .int ay, .int aw, .int ah])), (fb, .inr (2, [.int ox, .int oy, .int ow, .int oh])), (h0, .inr (8, [.ref s1, .ref s2, .ref s3, .ref s4, .ref s5, .ref s6, .int ds, va_rf sp, va_rf bt])), (s1, .inl (cO, 4, .inr (.inr (.inr (.inr f)))))] H := hP
  have hD : va_D A [(s2, .inr (1, [.ref bx, .int ik, .int wy, .int op])), (bx, .inr (0, [.int bx0, .int by0, .int bx1, .int by1])), (t0, .inr (5, [.ref d0, .int w, .int h])), (d0, .inl (cI, 4096, .inl g)), (u0, .inr (5, [.ref e0, .int w2, .int h2])), (e0, .inl (cI, 4096, .inl gs)), (fa, .inr (2, [.int ax, .int ay, .int aw, .int ah])), (fb, .inr (2, [.int ox, .int oy, .int ow, .int oh])), (h0, .inr (8, [.ref s1, .ref s2, .ref s3, .ref s4, .ref s5, .ref s6, .int ds, va_rf sp, va_rf bt])), (s1, .inl (cO, 4, .inr (.inr (.inr (.inr f)))))] := hD
  subst hr_2
  refine my_topv (v := .ref t0) rfl ?_
  refine lv_astore (lv' := [(6, .ref t0), (5, .ref u0), (0, .ref h0), (1, .int k), (2, .ref fa), (3, .int kq), (4, .ref fb)]) hx hb dX8_carry_12 hl (by decide) rfl (fun ls hl => ?_)
  refine lv_aload hx hb dX8_carry_14 (lv_at hl 1 rfl) ?_
  refine lv_ifnull hx hb dX8_carry_16 ?_
  refine lv_aload hx hb dX8_carry_19 (lv_at hl 0 rfl) ?_
  refine lv_ifnull hx hb dX8_carry_21 ?_
  refine lv_aload_n hx hb dX8_carry_24 rfl (lv_at hl 4 rfl) ?_
  have hPc := hP.sub (ws' := [(fa, .inr (2, [.int ax, .int ay, .int aw, .int ah]))]) [6] rfl
  have hDc := hD.sub (ws' := [(fa, .inr (2, [.int ax, .int ay, .int aw, .int ah]))]) [6] (by decide) rfl
  have hKc := hK.sub (tys' := []) [] rfl
  have hFc := va_free (wc := [(fa, .inr (2, [.int ax, .int ay, .int aw, .int ah]))]) hD hS hA [6] rfl
  refine va_calli (va_runV (As := []) (rest := []) ⟨hx, hb, hml, hown, hts⟩ (k_X2_isNearby l D H.size fa ax ay aw ah) (cwV 0 hts (gV bw_385 bw_65 bw_66 bw_55 bw_64) rfl rfl rfl (by decide +kernel) ⟨(by rw [hR]; exact Nat.le_of_ble_eq_true rfl), (by rw [hR]; exact Nat.le_of_ble_eq_true rfl)⟩) ⟨cP_blind, va_recv hKc hPc (ci := 2) (q0 := 0) rfl rfl, cP_at hPc hKc hDc hN⟩ rfl rfl hl.1 rfl (lv_room (Nat.le_of_ble_eq_true rfl)) dX8_carry_25 ⟨(by rw [hR]; exact Nat.le_of_ble_eq_true rfl), (by rw [hR]; exact Nat.le_of_ble_eq_true rfl)⟩) hS (fun q _ h => hFc q h) hFc (fun r_3 u9 t9 H1 locs ht hvm hr_3 hB hz1 hk1 hS => ?_)
  try dsimp only at hr_3
  obtain ⟨hP1, hK1, hD1⟩ := hB
  rw [ht] at hP1
  obtain ⟨hP, hD⟩ := va_join (wr := [(s2, .inr (1, [.ref bx, .int ik, .int wy, .int op])), (bx, .inr (0, [.int bx0, .int by0, .int bx1, .int by1])), (t0, .inr (5, [.ref d0, .int w, .int h])), (d0, .inl (cI, 4096, .inl g)), (u0, .inr (5, [.ref e0, .int w2, .int h2])), (e0, .inl (cI, 4096, .inl gs)), (fb, .inr (2, [.int ox, .int oy, .int ow, .int oh])), (h0, .inr (8, [.ref s1, .ref s2, .ref s3, .ref s4, .ref s5, .ref s6, .int ds, va_rf sp, va_rf bt])), (s1, .inl (cO, 4, .inr (.inr (.inr (.inr f)))))]) (w1 := [(fa, .inr (2, [.int ax, .int ay, .int aw, .int ah]))]) hP hD [6] [0, 1, 2, 3, 4, 5, 7, 8, 9] rfl rfl (by decide) (by decide) hk1 hFc hP1 hD1
  clear hz1 hk1 hFc hKc hDc hPc
  generalize H1 = H at hP hS ⊢
  have hP : va_P D vwCl [(s2, .inr (1, [.ref bx, .int ik, .int wy, .int op])), (bx, .inr (0, [.int bx0, .int by0, .int bx1, .int by1])), (t0, .inr (5, [.ref d0, .int w, .int h])), (d0, .inl (cI, 4096, .inl g)), (u0, .inr (5, [.ref e0, .int w2, .int h2])), (e0, .inl (cI, 4096, .inl gs)), (fb, .inr (2, [.int ox, .int oy, .int ow, .int oh])), (h0, .inr (8, [.ref s1, .ref s2, .ref s3, .ref s4, .ref s5, .ref s6, .int ds, va_rf sp, va_rf bt])), (s1, .inl (cO, 4, .inr (.inr (.inr (.inr f))))), (fa, .inr (2, [.int ax, .int ay, .int aw, .int ah]))] H := hP
  have hD : va_D A [(s2, .inr (1, [.ref bx, .int ik, .int wy, .int op])), (bx, .inr (0, [.int bx0, .int by0, .int bx1, .int by1])), (t0, .inr (5, [.ref d0, .int w, .int h])), (d0, .inl (cI, 4096, .inl g)), (u0, .inr (5, [.ref e0, .int w2, .int h2])), (e0, .inl (cI, 4096, .inl gs)), (fb, .inr (2, [.int ox, .int oy, .int ow, .int oh])), (h0, .inr (8, [.ref s1, .ref s2, .ref s3, .ref s4, .ref s5, .ref s6, .int ds, va_rf sp, va_rf bt])), (s1, .inl (cO, 4, .inr (.inr (.inr (.inr f))))), (fa, .inr (2, [.int ax, .int ay, .int aw, .int ah]))] := hD
  refine lv_if_eq (tgt := 39) hx hb dX8_carry_28 (by decide) (fun c_4 => ?_) (fun c_4 => ?_)
  · skip
    have f_5 := bz0 hr_3 c_4
    exact False.elim (by omega)
  · skip
    have f_5 := bz1 hr_3 c_4
    refine lv_aload hx hb dX8_carry_31 (lv_at hl 6 rfl) ?_
    have hPc := hP.sub (ws' := [(fb, .inr (2, [.int ox, .int oy, .int ow, .int oh]))]) [6] rfl
    have hDc := hD.sub (ws' := [(fb, .inr (2, [.int ox, .int oy, .int ow, .int oh]))]) [6] (by decide) rfl
    have hKc := hK.sub (tys' := []) [] rfl
    have hFc := va_free (wc := [(fb, .inr (2, [.int ox, .int oy, .int ow, .int oh]))]) hD hS hA [6] rfl
    refine va_calli (va_runV (As := []) (rest := []) ⟨hx, hb, hml, hown, hts⟩ (k_X2_isNearby l D H.size fb ox oy ow oh) (cwV 0 hts (gV bw_385 bw_65 bw_66 bw_55 bw_64) rfl rfl rfl (by decide +kernel) ⟨(by rw [hR]; exact Nat.le_of_ble_eq_true rfl), (by rw [hR]; exact Nat.le_of_ble_eq_true rfl)⟩) ⟨cP_blind, va_recv hKc hPc (ci := 2) (q0 := 0) rfl rfl, cP_at hPc hKc hDc hN⟩ rfl rfl hl.1 rfl (lv_room (Nat.le_of_ble_eq_true rfl)) dX8_carry_33 ⟨(by rw [hR]; exact Nat.le_of_ble_eq_true rfl), (by rw [hR]; exact Nat.le_of_ble_eq_true rfl)⟩) hS (fun q _ h => hFc q h) hFc (fun r_6 u9 t9 H1 locs ht hvm hr_6 hB hz1 hk1 hS => ?_)
    try dsimp only at hr_6
    obtain ⟨hP1, hK1, hD1⟩ := hB
    rw [ht] at hP1
    obtain ⟨hP, hD⟩ := va_join (wr := [(s2, .inr (1, [.ref bx, .int ik, .int wy, .int op])), (bx, .inr (0, [.int bx0, .int by0, .int bx1, .int by1])), (t0, .inr (5, [.ref d0, .int w, .int h])), (d0, .inl (cI, 4096, .inl g)), (u0, .inr (5, [.ref e0, .int w2, .int h2])), (e0, .inl (cI, 4096, .inl gs)), (h0, .inr (8, [.ref s1, .ref s2, .ref s3, .ref s4, .ref s5, .ref s6, .int ds, va_rf sp, va_rf bt])), (s1, .inl (cO, 4, .inr (.inr (.inr (.inr f))))), (fa, .inr (2, [.int ax, .int ay, .int aw, .int ah]))]) (w1 := [(fb, .inr (2, [.int ox, .int oy, .int ow, .int oh]))]) hP hD [6] [0, 1, 2, 3, 4, 5, 7, 8, 9] rfl rfl (by decide) (by decide) hk1 hFc hP1 hD1
    clear hz1 hk1 hFc hKc hDc hPc
    generalize H1 = H at hP hS ⊢
    have hP : va_P D vwCl [(s2, .inr (1, [.ref bx, .int ik, .int wy, .int op])), (bx, .inr (0, [.int bx0, .int by0, .int bx1, .int by1])), (t0, .inr (5, [.ref d0, .int w, .int h])), (d0, .inl (cI, 4096, .inl g)), (u0, .inr (5, [.ref e0, .int w2, .int h2])), (e0, .inl (cI, 4096, .inl gs)), (h0, .inr (8, [.ref s1, .ref s2, .ref s3, .ref s4, .ref s5, .ref s6, .int ds, va_rf sp, va_rf bt])), (s1, .inl (cO, 4, .inr (.inr (.inr (.inr f))))), (fa, .inr (2, [.int ax, .int ay, .int aw, .int ah])), (fb, .inr (2, [.int ox, .int oy, .int ow, .int oh]))] H := hP
    have hD : va_D A [(s2, .inr (1, [.ref bx, .int ik, .int wy, .int op])), (bx, .inr (0, [.int bx0, .int by0, .int bx1, .int by1])), (t0, .inr (5, [.ref d0, .int w, .int h])), (d0, .inl (cI, 4096, .inl g)), (u0, .inr (5, [.ref e0, .int w2, .int h2])), (e0, .inl (cI, 4096, .inl gs)), (h0, .inr (8, [.ref s1, .ref s2, .ref s3, .ref s4, .ref s5, .ref s6, .int ds, va_rf sp, va_rf bt])), (s1, .inl (cO, 4, .inr (.inr (.inr (.inr f))))), (fa, .inr (2, [.int ax, .int ay, .int aw, .int ah])), (fb, .inr (2, [.int ox, .int oy, .int ow, .int oh]))] := hD
    refine lv_if_ne (tgt := 41) hx hb dX8_carry_36 (by decide) (fun c_7 => ?_) (fun c_7 => ?_)
    · skip
      have f_8 := bz1 hr_6 c_7
      refine lv_iload_n hx hb dX8_carry_41 rfl (lv_at hl 3 rfl) ?_
      refine lv_iload_n hx hb dX8_carry_42 rfl (lv_at hl 5 rfl) ?_
      refine lv_icmp_ne (tgt := 54) hx hb dX8_carry_43 (by decide) (fun c_9 => ?_) (fun c_9 => ?_)
      · skip
        have f_10 : ¬ (k.toInt = kq.toInt) := fn_eq rfl rfl c_9
        refine lv_iconst (v := 0) hx hb dX8_carry_54 (by decide) ?_
        refine lv_istore (lv' := [(7, .int 0), (6, .ref t0), (5, .ref u0), (0, .ref h0), (1, .int k), (2, .ref fa), (3, .int kq), (4, .ref fb)]) hx hb dX8_carry_55 hl (by decide) rfl (fun ls hl => ?_)
        refine lv_iconst (v := 0) hx hb dX8_carry_57 (by decide) ?_
        refine lv_istore (lv' := [(8, .int 0), (7, .int 0), (6, .ref t0), (5, .ref u0), (0, .ref h0), (1, .int k), (2, .ref fa), (3, .int kq), (4, .ref fb)]) hx hb dX8_carry_58 hl (by decide) rfl (fun ls hl => ?_)
        have loop_11 : ∀ (n : Nat) (j : Nat) (x8 : Int32) (x7 : Int32) (ga : Nat → Int32) (H : Heap) (locs : List Loc) (ls : Array Slot), (j ≤ 64) → (64 + 1 ≤ j + n) → (x8 = nI j) → va_P D vwCl [(s2, .inr (1, [.ref bx, .int ik, .int wy, .int op])), (bx, .inr (0, [.int bx0, .int by0, .int bx1, .int by1])), (t0, .inr (5, [.ref d0, .int w, .int h])), (d0, .inl (cI, 4096, .inl ga)), (u0, .inr (5, [.ref e0, .int w2, .int h2])), (e0, .inl (cI, 4096, .inl gs)), (h0, .inr (8, [.ref s1, .ref s2, .ref s3, .ref s4, .ref s5, .ref s6, .int ds, va_rf sp, va_rf bt])), (s1, .inl (cO, 4, .inr (.inr (.inr (.inr f))))), (fa, .inr (2, [.int ax, .int ay, .int aw, .int ah])), (fb, .inr (2, [.int ox, .int oy, .int ow, .int oh]))] H → va_D A [(s2, .inr (1, [.ref bx, .int ik, .int wy, .int op])), (bx, .inr (0, [.int bx0, .int by0, .int bx1, .int by1])), (t0, .inr (5, [.ref d0, .int w, .int h])), (d0, .inl (cI, 4096, .inl ga)), (u0, .inr (5, [.ref e0, .int w2, .int h2])), (e0, .inl (cI, 4096, .inl gs)), (h0, .inr (8, [.ref s1, .ref s2, .ref s3, .ref s4, .ref s5, .ref s6, .int ds, va_rf sp, va_rf bt])), (s1, .inl (cO, 4, .inr (.inr (.inr (.inr f))))), (fa, .inr (2, [.int ax, .int ay, .int aw, .int ah])), (fb, .inr (2, [.int ox, .int oy, .int ow, .int oh]))] → va_S A s.heap H locs → lv_has ls 12 [(8, .int x8), (7, .int x7), (6, .ref t0), (5, .ref u0), (0, .ref h0), (1, .int k), (2, .ref fa), (3, .int kq), (4, .ref fb)] → W p l e R s m ([.ref h0, .int k, .ref fa, .int kq, .ref fb] : List Value).toArray below meth c H locs 0 0 Q (F0 m 60 ls []) := by
          intro n
          induction n with
          | zero =>
            intro j x8 x7 ga H locs ls hi_j hm_j ex_j hP hD hS hl
            exact absurd (show False by omega) not_false
          | succ n ih_12 =>
            intro j x8 x7 ga H locs ls hi_j hm_j ex_j hP hD hS hl
            have hx_j : x8.toInt = (j : Int) := by rw [ex_j]; exact nI_toInt (by omega)
            have hc_j : x8.toNatClampNeg = j := by rw [ex_j]; exact nI_clamp (by omega)
            refine lv_iload hx hb dX8_carry_60 (lv_at hl 0 rfl) ?_
            refine lv_aload hx hb dX8_carry_62 (lv_at hl 8 rfl) ?_
            refine va_getN (host := RX8) (D := D) (ci := 2) (v := .int oh) (C := RX2) (T := TX2) (N := 4) hx hb hts hi_X2 hown hK hP 9 rfl rfl 3 (by decide) ((hN.1 (RX8, 238, "DotBench$Frame", "h", "I", RX8) (by decide +kernel)).use rfl) (fun _ h9 => h9) rfl dX8_carry_64 ?_
            refine lv_icmp_ge (tgt := 193) hx hb dX8_carry_67 (by decide) (fun c_13 => ?_) (fun c_13 => ?_)
            · skip
              have f_14 : oh.toInt ≤ (j : Int) := f_le rfl hx_j c_13
              refine lv_iload hx hb dX8_carry_193 (lv_at hl 1 rfl) ?_
              have hP9 := hP.sub (ws' := [(h0, .inr (8, [.ref s1, .ref s2, .ref s3, .ref s4, .ref s5, .ref s6, .int ds, va_rf sp, va_rf bt])), (s1, .inl (cO, 4, .inr (.inr (.inr (.inr f))))), (s2, .inr (1, [.ref bx, .int ik, .int wy, .int op])), (bx, .inr (0, [.int bx0, .int by0, .int bx1, .int by1])), (t0, .inr (5, [.ref d0, .int w, .int h])), (d0, .inl (cI, 4096, .inl ga)), (u0, .inr (5, [.ref e0, .int w2, .int h2])), (e0, .inl (cI, 4096, .inl gs))]) [6, 7, 0, 1, 2, 3, 4, 5] rfl
              have hD9 := hD.sub (ws' := [(h0, .inr (8, [.ref s1, .ref s2, .ref s3, .ref s4, .ref s5, .ref s6, .int ds, va_rf sp, va_rf bt])), (s1, .inl (cO, 4, .inr (.inr (.inr (.inr f))))), (s2, .inr (1, [.ref bx, .int ik, .int wy, .int op])), (bx, .inr (0, [.int bx0, .int by0, .int bx1, .int by1])), (t0, .inr (5, [.ref d0, .int w, .int h])), (d0, .inl (cI, 4096, .inl ga)), (u0, .inr (5, [.ref e0, .int w2, .int h2])), (e0, .inl (cI, 4096, .inl gs))]) [6, 7, 0, 1, 2, 3, 4, 5] (by decide) rfl
              have hK9 := hK.sub (tys' := [(cO, .object "DotBench$Sheet"), (cI, .int)]) [0, 1] rfl
              refine hQ _ _ _ _ _ ?_
              exact W.iret (v := x7) hx hb hr (fun t ht hW => ⟨⟨x7, (), rfl, trivial, ⟨ga, by rw [ht]; exact hP9, va_K.moved hW.alike hK9, hD9⟩⟩, hS.F ht⟩) hS.2.2 dX8_carry_195
            · skip
              have f_14 : ¬ (oh.toInt ≤ (j : Int)) := fn_le rfl hx_j c_13
              refine lv_aload_n hx hb dX8_carry_70 rfl (lv_at hl 6 rfl) ?_
              refine va_getN (host := RX8) (D := D) (ci := 2) (v := .int ay) (C := RX2) (T := TX2) (N := 4) hx hb hts hi_X2 hown hK hP 8 rfl rfl 1 (by decide) ((hN.1 (RX8, 241, "DotBench$Frame", "y", "I", RX8) (by decide +kernel)).use rfl) (fun _ h9 => h9) rfl dX8_carry_71 ?_
              refine lv_iload hx hb dX8_carry_74 (lv_at hl 0 rfl) ?_
              refine lv_aload_n hx hb dX8_carry_76 rfl (lv_at hl 6 rfl) ?_
              refine va_getN (host := RX8) (D := D) (ci := 2) (v := .int ah) (C := RX2) (T := TX2) (N := 4) hx hb hts hi_X2 hown hK hP 8 rfl rfl 3 (by decide) ((hN.1 (RX8, 238, "DotBench$Frame", "h", "I", RX8) (by decide +kernel)).use rfl) (fun _ h9 => h9) rfl dX8_carry_77 ?_
              refine lv_imul hx hb dX8_carry_80 ?_
              refine lv_topi (fun y_15 ey_15 => ?_)
              refine lv_aload hx hb dX8_carry_81 (lv_at hl 8 rfl) ?_
              refine va_getN (host := RX8) (D := D) (ci := 2) (v := .int oh) (C := RX2) (T := TX2) (N := 4) hx hb hts hi_X2 hown hK hP 9 rfl rfl 3 (by decide) ((hN.1 (RX8, 238, "DotBench$Frame", "h", "I", RX8) (by decide +kernel)).use rfl) (fun _ h9 => h9) rfl dX8_carry_83 ?_
              refine lv_idiv hx hb dX8_carry_86 (ne0_of (by omega)) ?_
              refine lv_topi (fun y_16 ey_16 => ?_)
              refine lv_iadd hx hb dX8_carry_87 ?_
              refine lv_topi (fun y_17 ey_17 => ?_)
              refine lv_istore (lv' := [(9, .int y_17), (8, .int x8), (7, .int x7), (6, .ref t0), (5, .ref u0), (0, .ref h0), (1, .int k), (2, .ref fa), (3, .int kq), (4, .ref fb)]) hx hb dX8_carry_88 hl (by decide) rfl (fun ls hl => ?_)
              refine lv_iconst (v := 0) hx hb dX8_carry_90 (by decide) ?_
              refine lv_istore (lv' := [(10, .int 0), (9, .int y_17), (8, .int x8), (7, .int x7), (6, .ref t0), (5, .ref u0), (0, .ref h0), (1, .int k), (2, .ref fa), (3, .int kq), (4, .ref fb)]) hx hb dX8_carry_91 hl (by decide) rfl (fun ls hl => ?_)
              have loop_18 : ∀ (n : Nat) (i : Nat) (x10 : Int32) (z7 : Int32) (gz : Nat → Int32) (H : Heap) (locs : List Loc) (ls : Array Slot), (i ≤ 64) → (64 + 1 ≤ i + n) → (x10 = nI i) → va_P D vwCl [(s2, .inr (1, [.ref bx, .int ik, .int wy, .int op])), (bx, .inr (0, [.int bx0, .int by0, .int bx1, .int by1])), (t0, .inr (5, [.ref d0, .int w, .int h])), (d0, .inl (cI, 4096, .inl gz)), (u0, .inr (5, [.ref e0, .int w2, .int h2])), (e0, .inl (cI, 4096, .inl gs)), (h0, .inr (8, [.ref s1, .ref s2, .ref s3, .ref s4, .ref s5, .ref s6, .int ds, va_rf sp, va_rf bt])), (s1, .inl (cO, 4, .inr (.inr (.inr (.inr f))))), (fa, .inr (2, [.int ax, .int ay, .int aw, .int ah])), (fb, .inr (2, [.int ox, .int oy, .int ow, .int oh]))] H → va_D A [(s2, .inr (1, [.ref bx, .int ik, .int wy, .int op])), (bx, .inr (0, [.int bx0, .int by0, .int bx1, .int by1])), (t0, .inr (5, [.ref d0, .int w, .int h])), (d0, .inl (cI, 4096, .inl gz)), (u0, .inr (5, [.ref e0, .int w2, .int h2])), (e0, .inl (cI, 4096, .inl gs)), (h0, .inr (8, [.ref s1, .ref s2, .ref s3, .ref s4, .ref s5, .ref s6, .int ds, va_rf sp, va_rf bt])), (s1, .inl (cO, 4, .inr (.inr (.inr (.inr f))))), (fa, .inr (2, [.int ax, .int ay, .int aw, .int ah])), (fb, .inr (2, [.int ox, .int oy, .int ow, .int oh]))] → va_S A s.heap H locs → lv_has ls 12 [(10, .int x10), (9, .int y_17), (8, .int x8), (7, .int z7), (6, .ref t0), (5, .ref u0), (0, .ref h0), (1, .int k), (2, .ref fa), (3, .int kq), (4, .ref fb)] → W p l e R s m ([.ref h0, .int k, .ref fa, .int kq, .ref fb] : List Value).toArray below meth c H locs 0 0 Q (F0 m 93 ls []) := by
                intro n
                induction n with
                | zero =>
                  intro i x10 z7 gz H locs ls hi_i hm_i ex_i hP hD hS hl
                  exact absurd (show False by omega) not_false
                | succ n ih_19 =>
                  intro i x10 z7 gz H locs ls hi_i hm_i ex_i hP hD hS hl
                  have hx_i : x10.toInt = (i : Int) := by rw [ex_i]; exact nI_toInt (by omega)
                  have hc_i : x10.toNatClampNeg = i := by rw [ex_i]; exact nI_clamp (by omega)
                  refine lv_iload hx hb dX8_carry_93 (lv_at hl 0 rfl) ?_
                  refine lv_aload hx hb dX8_carry_95 (lv_at hl 10 rfl) ?_
                  refine va_getN (host := RX8) (D := D) (ci := 2) (v := .int ow) (C := RX2) (T := TX2) (N := 4) hx hb hts hi_X2 hown hK hP 9 rfl rfl 2 (by decide) ((hN.1 (RX8, 244, "DotBench$Frame", "w", "I", RX8) (by decide +kernel)).use rfl) (fun _ h9 => h9) rfl dX8_carry_97 ?_
                  refine lv_icmp_ge (tgt := 187) hx hb dX8_carry_100 (by decide) (fun c_20 => ?_) (fun c_20 => ?_)
                  · skip
                    have f_21 : ow.toInt ≤ (i : Int) := f_le rfl hx_i c_20
                    obtain ⟨y_22, ey_22⟩ : ∃ y : Int32, y = x8 + 1 := ⟨_, rfl⟩
                    refine lv_iinc (v := y_22) (lv' := [(8, .int y_22), (10, .int x10), (9, .int y_17), (7, .int z7), (6, .ref t0), (5, .ref u0), (0, .ref h0), (1, .int k), (2, .ref fa), (3, .int kq), (4, .ref fb)]) hx hb dX8_carry_187 hl (k := 2) rfl (by rw [ey_22]; rfl) (by decide) rfl (fun ls hl => ?_)
                    refine lv_goto (tgt := 60) hx hb dX8_carry_190 (by decide) ?_
                    exact ih_12 (j + 1) y_22 z7 gz _ _ _ (by omega) (by omega) (by rw [ey_22, ex_j]; exact nI_1 j) (hP.sub (ws' := [(s2, .inr (1, [.ref bx, .int ik, .int wy, .int op])), (bx, .inr (0, [.int bx0, .int by0, .int bx1, .int by1])), (t0, .inr (5, [.ref d0, .int w, .int h])), (d0, .inl (cI, 4096, .inl gz)), (u0, .inr (5, [.ref e0, .int w2, .int h2])), (e0, .inl (cI, 4096, .inl gs)), (h0, .inr (8, [.ref s1, .ref s2, .ref s3, .ref s4, .ref s5, .ref s6, .int ds, va_rf sp, va_rf bt])), (s1, .inl (cO, 4, .inr (.inr (.inr (.inr f))))), (fa, .inr (2, [.int ax, .int ay, .int aw, .int ah])), (fb, .inr (2, [.int ox, .int oy, .int ow, .int oh]))]) [0, 1, 2, 3, 4, 5, 6, 7, 8, 9] rfl) (hD.sub (ws' := [(s2, .inr (1, [.ref bx, .int ik, .int wy, .int op])), (bx, .inr (0, [.int bx0, .int by0, .int bx1, .int by1])), (t0, .inr (5, [.ref d0, .int w, .int h])), (d0, .inl (cI, 4096, .inl gz)), (u0, .inr (5, [.ref e0, .int w2, .int h2])), (e0, .inl (cI, 4096, .inl gs)), (h0, .inr (8, [.ref s1, .ref s2, .ref s3, .ref s4, .ref s5, .ref s6, .int ds, va_rf sp, va_rf bt])), (s1, .inl (cO, 4, .inr (.inr (.inr (.inr f))))), (fa, .inr (2, [.int ax, .int ay, .int aw, .int ah])), (fb, .inr (2, [.int ox, .int oy, .int ow, .int oh]))]) [0, 1, 2, 3, 4, 5, 6, 7, 8, 9] (by decide) rfl) hS (lv_sub hl [0, 3, 4, 5, 6, 7, 8, 9, 10] rfl)
                  · skip
                    have f_21 : ¬ (ow.toInt ≤ (i : Int)) := fn_le rfl hx_i c_20
                    refine lv_aload_n hx hb dX8_carry_103 rfl (lv_at hl 8 rfl) ?_
                    refine va_getN (host := RX8) (D := D) (ci := 2) (v := .int ax) (C := RX2) (T := TX2) (N := 4) hx hb hts hi_X2 hown hK hP 8 rfl rfl 0 (by decide) ((hN.1 (RX8, 247, "DotBench$Frame", "x", "I", RX8) (by decide +kernel)).use rfl) (fun _ h9 => h9) rfl dX8_carry_104 ?_
                    refine lv_iload hx hb dX8_carry_107 (lv_at hl 0 rfl) ?_
                    refine lv_aload_n hx hb dX8_carry_109 rfl (lv_at hl 8 rfl) ?_
                    refine va_getN (host := RX8) (D := D) (ci := 2) (v := .int aw) (C := RX2) (T := TX2) (N := 4) hx hb hts hi_X2 hown hK hP 8 rfl rfl 2 (by decide) ((hN.1 (RX8, 244, "DotBench$Frame", "w", "I", RX8) (by decide +kernel)).use rfl) (fun _ h9 => h9) rfl dX8_carry_110 ?_
                    refine lv_imul hx hb dX8_carry_113 ?_
                    refine lv_topi (fun y_23 ey_23 => ?_)
                    refine lv_aload hx hb dX8_carry_114 (lv_at hl 10 rfl) ?_
                    refine va_getN (host := RX8) (D := D) (ci := 2) (v := .int ow) (C := RX2) (T := TX2) (N := 4) hx hb hts hi_X2 hown hK hP 9 rfl rfl 2 (by decide) ((hN.1 (RX8, 244, "DotBench$Frame", "w", "I", RX8) (by decide +kernel)).use rfl) (fun _ h9 => h9) rfl dX8_carry_116 ?_
                    refine lv_idiv hx hb dX8_carry_119 (ne0_of (by omega)) ?_
                    refine lv_topi (fun y_24 ey_24 => ?_)
                    refine lv_iadd hx hb dX8_carry_120 ?_
                    refine lv_topi (fun y_25 ey_25 => ?_)
                    refine lv_istore (lv' := [(11, .int y_25), (10, .int x10), (9, .int y_17), (8, .int x8), (7, .int z7), (6, .ref t0), (5, .ref u0), (0, .ref h0), (1, .int k), (2, .ref fa), (3, .int kq), (4, .ref fb)]) hx hb dX8_carry_121 hl (by decide) rfl (fun ls hl => ?_)
                    refine lv_aload hx hb dX8_carry_123 (lv_at hl 6 rfl) ?_
                    refine lv_iload hx hb dX8_carry_125 (lv_at hl 0 rfl) ?_
                    refine lv_iload hx hb dX8_carry_127 (lv_at hl 2 rfl) ?_
                    have hPc := hP.sub (ws' := [(u0, .inr (5, [.ref e0, .int w2, .int h2]))]) [4] rfl
                    have hDc := hD.sub (ws' := [(u0, .inr (5, [.ref e0, .int w2, .int h2]))]) [4] (by decide) rfl
                    have hKc := hK.sub (tys' := []) [] rfl
                    have hFc := va_free (wc := [(u0, .inr (5, [.ref e0, .int w2, .int h2]))]) hD hS hA [4] rfl
                    refine va_calli (va_runV (As := [.int y_25, .int y_17]) (rest := []) ⟨hx, hb, hml, hown, hts⟩ (k_X5_has l D H.size u0 e0 w2 h2 y_25 y_17) (cwV 2 hts (gV bw_309 bw_150 bw_151 bw_130 bw_149) rfl rfl rfl (by decide +kernel) ⟨(by rw [hR]; exact Nat.le_of_ble_eq_true rfl), (by rw [hR]; exact Nat.le_of_ble_eq_true rfl)⟩) ⟨cP_blind, va_recv hKc hPc (ci := 5) (q0 := 0) rfl rfl, cP_at hPc hKc hDc hN⟩ rfl rfl hl.1 rfl (lv_room (Nat.le_of_ble_eq_true rfl)) dX8_carry_129 ⟨(by rw [hR]; exact Nat.le_of_ble_eq_true rfl), (by rw [hR]; exact Nat.le_of_ble_eq_true rfl)⟩) hS (fun q _ h => hFc q h) hFc (fun r_26 u9 t9 H1 locs ht hvm hr_26 hB hz1 hk1 hS => ?_)
                    try dsimp only at hr_26
                    obtain ⟨hP1, hK1, hD1⟩ := hB
                    rw [ht] at hP1
                    obtain ⟨hP, hD⟩ := va_join (wr := [(s2, .inr (1, [.ref bx, .int ik, .int wy, .int op])), (bx, .inr (0, [.int bx0, .int by0, .int bx1, .int by1])), (t0, .inr (5, [.ref d0, .int w, .int h])), (d0, .inl (cI, 4096, .inl gz)), (e0, .inl (cI, 4096, .inl gs)), (h0, .inr (8, [.ref s1, .ref s2, .ref s3, .ref s4, .ref s5, .ref s6, .int ds, va_rf sp, va_rf bt])), (s1, .inl (cO, 4, .inr (.inr (.inr (.inr f))))), (fa, .inr (2, [.int ax, .int ay, .int aw, .int ah])), (fb, .inr (2, [.int ox, .int oy, .int ow, .int oh]))]) (w1 := [(u0, .inr (5, [.ref e0, .int w2, .int h2]))]) hP hD [4] [0, 1, 2, 3, 5, 6, 7, 8, 9] rfl rfl (by decide) (by decide) hk1 hFc hP1 hD1
                    clear hz1 hk1 hFc hKc hDc hPc
                    generalize H1 = H at hP hS ⊢
                    have hP : va_P D vwCl [(s2, .inr (1, [.ref bx, .int ik, .int wy, .int op])), (bx, .inr (0, [.int bx0, .int by0, .int bx1, .int by1])), (t0, .inr (5, [.ref d0, .int w, .int h])), (d0, .inl (cI, 4096, .inl gz)), (e0, .inl (cI, 4096, .inl gs)), (h0, .inr (8, [.ref s1, .ref s2, .ref s3, .ref s4, .ref s5, .ref s6, .int ds, va_rf sp, va_rf bt])), (s1, .inl (cO, 4, .inr (.inr (.inr (.inr f))))), (fa, .inr (2, [.int ax, .int ay, .int aw, .int ah])), (fb, .inr (2, [.int ox, .int oy, .int ow, .int oh])), (u0, .inr (5, [.ref e0, .int w2, .int h2]))] H := hP
                    have hD : va_D A [(s2, .inr (1, [.ref bx, .int ik, .int wy, .int op])), (bx, .inr (0, [.int bx0, .int by0, .int bx1, .int by1])), (t0, .inr (5, [.ref d0, .int w, .int h])), (d0, .inl (cI, 4096, .inl gz)), (e0, .inl (cI, 4096, .inl gs)), (h0, .inr (8, [.ref s1, .ref s2, .ref s3, .ref s4, .ref s5, .ref s6, .int ds, va_rf sp, va_rf bt])), (s1, .inl (cO, 4, .inr (.inr (.inr (.inr f))))), (fa, .inr (2, [.int ax, .int ay, .int aw, .int ah])), (fb, .inr (2, [.int ox, .int oy, .int ow, .int oh])), (u0, .inr (5, [.ref e0, .int w2, .int h2]))] := hD
                    refine lv_if_eq (tgt := 181) hx hb dX8_carry_132 (by decide) (fun c_27 => ?_) (fun c_27 => ?_)
                    · skip
                      have f_28 := bz0 hr_26 c_27
                      obtain ⟨y_29, ey_29⟩ : ∃ y : Int32, y = x10 + 1 := ⟨_, rfl⟩
                      refine lv_iinc (v := y_29) (lv' := [(10, .int y_29), (11, .int y_25), (9, .int y_17), (8, .int x8), (7, .int z7), (6, .ref t0), (5, .ref u0), (0, .ref h0), (1, .int k), (2, .ref fa), (3, .int kq), (4, .ref fb)]) hx hb dX8_carry_181 hl (k := 1) rfl (by rw [ey_29]; rfl) (by decide) rfl (fun ls hl => ?_)
                      refine lv_goto (tgt := 93) hx hb dX8_carry_184 (by decide) ?_
                      exact ih_19 (i + 1) y_29 z7 gz _ _ _ (by omega) (by omega) (by rw [ey_29, ex_i]; exact nI_1 i) (hP.sub (ws' := [(s2, .inr (1, [.ref bx, .int ik, .int wy, .int op])), (bx, .inr (0, [.int bx0, .int by0, .int bx1, .int by1])), (t0, .inr (5, [.ref d0, .int w, .int h])), (d0, .inl (cI, 4096, .inl gz)), (u0, .inr (5, [.ref e0, .int w2, .int h2])), (e0, .inl (cI, 4096, .inl gs)), (h0, .inr (8, [.ref s1, .ref s2, .ref s3, .ref s4, .ref s5, .ref s6, .int ds, va_rf sp, va_rf bt])), (s1, .inl (cO, 4, .inr (.inr (.inr (.inr f))))), (fa, .inr (2, [.int ax, .int ay, .int aw, .int ah])), (fb, .inr (2, [.int ox, .int oy, .int ow, .int oh]))]) [0, 1, 2, 3, 9, 4, 5, 6, 7, 8] rfl) (hD.sub (ws' := [(s2, .inr (1, [.ref bx, .int ik, .int wy, .int op])), (bx, .inr (0, [.int bx0, .int by0, .int bx1, .int by1])), (t0, .inr (5, [.ref d0, .int w, .int h])), (d0, .inl (cI, 4096, .inl gz)), (u0, .inr (5, [.ref e0, .int w2, .int h2])), (e0, .inl (cI, 4096, .inl gs)), (h0, .inr (8, [.ref s1, .ref s2, .ref s3, .ref s4, .ref s5, .ref s6, .int ds, va_rf sp, va_rf bt])), (s1, .inl (cO, 4, .inr (.inr (.inr (.inr f))))), (fa, .inr (2, [.int ax, .int ay, .int aw, .int ah])), (fb, .inr (2, [.int ox, .int oy, .int ow, .int oh]))]) [0, 1, 2, 3, 9, 4, 5, 6, 7, 8] (by decide) rfl) hS (lv_sub hl [0, 2, 3, 4, 5, 6, 7, 8, 9, 10, 11] rfl)
                    · skip
                      have f_28 := bz1 hr_26 c_27
                      refine lv_iload hx hb dX8_carry_135 (lv_at hl 4 rfl) ?_
                      refine lv_aload_n hx hb dX8_carry_137 rfl (lv_at hl 7 rfl) ?_
                      refine va_get (D := D) (ci := 8) (v := .ref s2) (C := RX8) (T := TX8) (N := 9) hx hb hts hi_X8 hown hK hP 5 rfl rfl 1 (by decide) (hts _ bw_231) (fun _ h9 => h9) rfl dX8_carry_138 ?_
                      refine lv_aload hx hb dX8_carry_141 (lv_at hl 5 rfl) ?_
                      refine lv_aload hx hb dX8_carry_143 (lv_at hl 11 rfl) ?_
                      refine va_getN (host := RX8) (D := D) (ci := 2) (v := .int ox) (C := RX2) (T := TX2) (N := 4) hx hb hts hi_X2 hown hK hP 8 rfl rfl 0 (by decide) ((hN.1 (RX8, 247, "DotBench$Frame", "x", "I", RX8) (by decide +kernel)).use rfl) (fun _ h9 => h9) rfl dX8_carry_145 ?_
                      refine lv_iload hx hb dX8_carry_148 (lv_at hl 1 rfl) ?_
                      refine lv_iadd hx hb dX8_carry_150 ?_
                      refine lv_topi (fun y_30 ey_30 => ?_)
                      refine lv_aload hx hb dX8_carry_151 (lv_at hl 11 rfl) ?_
                      refine va_getN (host := RX8) (D := D) (ci := 2) (v := .int oy) (C := RX2) (T := TX2) (N := 4) hx hb hts hi_X2 hown hK hP 8 rfl rfl 1 (by decide) ((hN.1 (RX8, 241, "DotBench$Frame", "y", "I", RX8) (by decide +kernel)).use rfl) (fun _ h9 => h9) rfl dX8_carry_153 ?_
                      refine lv_iload hx hb dX8_carry_156 (lv_at hl 3 rfl) ?_
                      refine lv_iadd hx hb dX8_carry_158 ?_
                      refine lv_topi (fun y_31 ey_31 => ?_)
                      refine lv_aload hx hb dX8_carry_159 (lv_at hl 6 rfl) ?_
                      refine lv_iload hx hb dX8_carry_161 (lv_at hl 0 rfl) ?_
                      refine lv_iload hx hb dX8_carry_163 (lv_at hl 2 rfl) ?_
                      have hPc := hP.sub (ws' := [(u0, .inr (5, [.ref e0, .int w2, .int h2])), (e0, .inl (cI, 4096, .inl gs))]) [9, 4] rfl
                      have hDc := hD.sub (ws' := [(u0, .inr (5, [.ref e0, .int w2, .int h2])), (e0, .inl (cI, 4096, .inl gs))]) [9, 4] (by decide) rfl
                      have hKc := hK.sub (tys' := [(cI, .int)]) [1] rfl
                      have hFc := va_free (wc := [(u0, .inr (5, [.ref e0, .int w2, .int h2])), (e0, .inl (cI, 4096, .inl gs))]) hD hS hA [9, 4] rfl
                      refine va_calli (va_runV (As := [.int y_25, .int y_17]) (rest := [.int y_31, .int y_30, .ref t0, .ref s2, .int z7]) ⟨hx, hb, hml, hown, hts⟩ (k_X5_at l D H.size u0 e0 w2 h2 gs y_25 y_17 cI (by first | assumption | omega | decide) (by first | assumption | omega | decide)) (cwV 2 hts (gV bw_325 bw_153 bw_154 bw_130 bw_152) rfl rfl rfl (by decide +kernel) ⟨(by rw [hR]; exact Nat.le_of_ble_eq_true rfl), (by rw [hR]; exact Nat.le_of_ble_eq_true rfl)⟩) ⟨cP_blind, va_recv hKc hPc (ci := 5) (q0 := 0) rfl rfl, cP_at hPc hKc hDc hN⟩ rfl rfl hl.1 rfl (lv_room (Nat.le_of_ble_eq_true rfl)) dX8_carry_165 ⟨(by rw [hR]; exact Nat.le_of_ble_eq_true rfl), (by rw [hR]; exact Nat.le_of_ble_eq_true rfl)⟩) hS (fun q _ h => hFc q h) hFc (fun r_32 u9 t9 H1 locs ht hvm hr_32 hB hz1 hk1 hS => ?_)
                      try dsimp only at hr_32
                      obtain ⟨hP1, hK1, hD1⟩ := hB
                      rw [ht] at hP1
                      obtain ⟨hP, hD⟩ := va_join (wr := [(s2, .inr (1, [.ref bx, .int ik, .int wy, .int op])), (bx, .inr (0, [.int bx0, .int by0, .int bx1, .int by1])), (t0, .inr (5, [.ref d0, .int w, .int h])), (d0, .inl (cI, 4096, .inl gz)), (h0, .inr (8, [.ref s1, .ref s2, .ref s3, .ref s4, .ref s5, .ref s6, .int ds, va_rf sp, va_rf bt])), (s1, .inl (cO, 4, .inr (.inr (.inr (.inr f))))), (fa, .inr (2, [.int ax, .int ay, .int aw, .int ah])), (fb, .inr (2, [.int ox, .int oy, .int ow, .int oh]))]) (w1 := [(u0, .inr (5, [.ref e0, .int w2, .int h2])), (e0, .inl (cI, 4096, .inl gs))]) hP hD [9, 4] [0, 1, 2, 3, 5, 6, 7, 8] rfl rfl (by decide) (by decide) hk1 hFc hP1 hD1
                      clear hz1 hk1 hFc hKc hDc hPc
                      generalize H1 = H at hP hS ⊢
                      have hP : va_P D vwCl [(s2, .inr (1, [.ref bx, .int ik, .int wy, .int op])), (bx, .inr (0, [.int bx0, .int by0, .int bx1, .int by1])), (t0, .inr (5, [.ref d0, .int w, .int h])), (d0, .inl (cI, 4096, .inl gz)), (h0, .inr (8, [.ref s1, .ref s2, .ref s3, .ref s4, .ref s5, .ref s6, .int ds, va_rf sp, va_rf bt])), (s1, .inl (cO, 4, .inr (.inr (.inr (.inr f))))), (fa, .inr (2, [.int ax, .int ay, .int aw, .int ah])), (fb, .inr (2, [.int ox, .int oy, .int ow, .int oh])), (u0, .inr (5, [.ref e0, .int w2, .int h2])), (e0, .inl (cI, 4096, .inl gs))] H := hP
                      have hD : va_D A [(s2, .inr (1, [.ref bx, .int ik, .int wy, .int op])), (bx, .inr (0, [.int bx0, .int by0, .int bx1, .int by1])), (t0, .inr (5, [.ref d0, .int w, .int h])), (d0, .inl (cI, 4096, .inl gz)), (h0, .inr (8, [.ref s1, .ref s2, .ref s3, .ref s4, .ref s5, .ref s6, .int ds, va_rf sp, va_rf bt])), (s1, .inl (cO, 4, .inr (.inr (.inr (.inr f))))), (fa, .inr (2, [.int ax, .int ay, .int aw, .int ah])), (fb, .inr (2, [.int ox, .int oy, .int ow, .int oh])), (u0, .inr (5, [.ref e0, .int w2, .int h2])), (e0, .inl (cI, 4096, .inl gs))] := hD
                      refine lv_aload_n hx hb dX8_carry_168 rfl (lv_at hl 7 rfl) ?_
                      refine va_get (D := D) (ci := 8) (v := .ref s2) (C := RX8) (T := TX8) (N := 9) hx hb hts hi_X8 hown hK hP 4 rfl rfl 1 (by decide) (hts _ bw_231) (fun _ h9 => h9) rfl dX8_carry_169 ?_
                      refine va_getN (host := RX8) (D := D) (ci := 1) (v := .int op) (C := RX1) (T := TX1) (N := 4) hx hb hts hi_X1 hown hK hP 0 rfl rfl 3 (by decide) ((hN.1 (RX8, 86, "DotBench$Brush", "opacity", "I", RX8) (by decide +kernel)).use rfl) (fun _ h9 => h9) rfl dX8_carry_172 ?_
                      have hPc := hP.sub (ws' := [(s2, .inr (1, [.ref bx, .int ik, .int wy, .int op])), (bx, .inr (0, [.int bx0, .int by0, .int bx1, .int by1])), (t0, .inr (5, [.ref d0, .int w, .int h])), (d0, .inl (cI, 4096, .inl gz))]) [0, 1, 2, 3] rfl
                      have hDc := hD.sub (ws' := [(s2, .inr (1, [.ref bx, .int ik, .int wy, .int op])), (bx, .inr (0, [.int bx0, .int by0, .int bx1, .int by1])), (t0, .inr (5, [.ref d0, .int w, .int h])), (d0, .inl (cI, 4096, .inl gz))]) [0, 1, 2, 3] (by decide) rfl
                      have hKc := hK.sub (tys' := [(cI, .int)]) [1] rfl
                      have hFc := va_free (wc := [(s2, .inr (1, [.ref bx, .int ik, .int wy, .int op])), (bx, .inr (0, [.int bx0, .int by0, .int bx1, .int by1])), (t0, .inr (5, [.ref d0, .int w, .int h])), (d0, .inl (cI, 4096, .inl gz))]) hD hS hA [0, 1, 2, 3] rfl
                      refine va_calli (va_runV (As := [.ref t0, .int y_30, .int y_31, .int r_32, .int op]) (rest := [.int z7]) ⟨hx, hb, hml, hown, hts⟩ (k_X1_lay l D H.size s2 bx ik wy op t0 d0 bx0 by0 bx1 by1 w h gz y_30 y_31 r_32 op cI (by first | assumption | omega | decide) (by first | assumption | omega | decide) (by first | assumption | omega | decide)) (cwV 5 hts (gV bw_276 bw_33 bw_34 bw_19 bw_32) rfl rfl rfl (by decide +kernel) ⟨(by rw [hR]; exact Nat.le_of_ble_eq_true rfl), (by rw [hR]; exact Nat.le_of_ble_eq_true rfl)⟩) ⟨cP_blind, va_recv hKc hPc (ci := 1) (q0 := 0) rfl rfl, cP_at hPc hKc hDc hN⟩ rfl rfl hl.1 rfl (lv_room (Nat.le_of_ble_eq_true rfl)) dX8_carry_175 ⟨(by rw [hR]; exact Nat.le_of_ble_eq_true rfl), (by rw [hR]; exact Nat.le_of_ble_eq_true rfl)⟩) hS (fun q _ h => hFc q h) hFc (fun r_33 u9 t9 H1 locs ht hvm hr_33 hB hz1 hk1 hS => ?_)
                      try dsimp only at hr_33
                      obtain ⟨hP1, hK1, hD1⟩ := hB
                      rw [ht] at hP1
                      obtain ⟨hP, hD⟩ := va_join (wr := [(h0, .inr (8, [.ref s1, .ref s2, .ref s3, .ref s4, .ref s5, .ref s6, .int ds, va_rf sp, va_rf bt])), (s1, .inl (cO, 4, .inr (.inr (.inr (.inr f))))), (fa, .inr (2, [.int ax, .int ay, .int aw, .int ah])), (fb, .inr (2, [.int ox, .int oy, .int ow, .int oh])), (u0, .inr (5, [.ref e0, .int w2, .int h2])), (e0, .inl (cI, 4096, .inl gs))]) (w1 := [(s2, .inr (1, [.ref bx, .int ik, .int wy, .int op])), (bx, .inr (0, [.int bx0, .int by0, .int bx1, .int by1])), (t0, .inr (5, [.ref d0, .int w, .int h])), (d0, .inl (cI, 4096, .inl (if 0 ≤ y_30.toInt ∧ y_30.toInt < w.toInt ∧ 0 ≤ y_31.toInt ∧ y_31.toInt < h.toInt ∧ bx0.toInt ≤ y_30.toInt ∧ y_30.toInt ≤ bx1.toInt ∧ by0.toInt ≤ y_31.toInt ∧ y_31.toInt ≤ by1.toInt then upd gz (ixP y_30 y_31) (laidP wy r_32 (gz (ixP y_30 y_31)) op) else gz)))]) hP hD [0, 1, 2, 3] [4, 5, 6, 7, 8, 9] rfl rfl (by decide) (by decide) hk1 hFc hP1 hD1
                      clear hz1 hk1 hFc hKc hDc hPc
                      generalize H1 = H at hP hS ⊢
                      have hP : va_P D vwCl [(h0, .inr (8, [.ref s1, .ref s2, .ref s3, .ref s4, .ref s5, .ref s6, .int ds, va_rf sp, va_rf bt])), (s1, .inl (cO, 4, .inr (.inr (.inr (.inr f))))), (fa, .inr (2, [.int ax, .int ay, .int aw, .int ah])), (fb, .inr (2, [.int ox, .int oy, .int ow, .int oh])), (u0, .inr (5, [.ref e0, .int w2, .int h2])), (e0, .inl (cI, 4096, .inl gs)), (s2, .inr (1, [.ref bx, .int ik, .int wy, .int op])), (bx, .inr (0, [.int bx0, .int by0, .int bx1, .int by1])), (t0, .inr (5, [.ref d0, .int w, .int h])), (d0, .inl (cI, 4096, .inl (if 0 ≤ y_30.toInt ∧ y_30.toInt < w.toInt ∧ 0 ≤ y_31.toInt ∧ y_31.toInt < h.toInt ∧ bx0.toInt ≤ y_30.toInt ∧ y_30.toInt ≤ bx1.toInt ∧ by0.toInt ≤ y_31.toInt ∧ y_31.toInt ≤ by1.toInt then upd gz (ixP y_30 y_31) (laidP wy r_32 (gz (ixP y_30 y_31)) op) else gz)))] H := hP
                      have hD : va_D A [(h0, .inr (8, [.ref s1, .ref s2, .ref s3, .ref s4, .ref s5, .ref s6, .int ds, va_rf sp, va_rf bt])), (s1, .inl (cO, 4, .inr (.inr (.inr (.inr f))))), (fa, .inr (2, [.int ax, .int ay, .int aw, .int ah])), (fb, .inr (2, [.int ox, .int oy, .int ow, .int oh])), (u0, .inr (5, [.ref e0, .int w2, .int h2])), (e0, .inl (cI, 4096, .inl gs)), (s2, .inr (1, [.ref bx, .int ik, .int wy, .int op])), (bx, .inr (0, [.int bx0, .int by0, .int bx1, .int by1])), (t0, .inr (5, [.ref d0, .int w, .int h])), (d0, .inl (cI, 4096, .inl (if 0 ≤ y_30.toInt ∧ y_30.toInt < w.toInt ∧ 0 ≤ y_31.toInt ∧ y_31.toInt < h.toInt ∧ bx0.toInt ≤ y_30.toInt ∧ y_30.toInt ≤ bx1.toInt ∧ by0.toInt ≤ y_31.toInt ∧ y_31.toInt ≤ by1.toInt then upd gz (ixP y_30 y_31) (laidP wy r_32 (gz (ixP y_30 y_31)) op) else gz)))] := hD
                      refine lv_iadd hx hb dX8_carry_178 ?_
                      refine lv_topi (fun y_34 ey_34 => ?_)
                      refine lv_istore (lv' := [(7, .int y_34), (11, .int y_25), (10, .int x10), (9, .int y_17), (8, .int x8), (6, .ref t0), (5, .ref u0), (0, .ref h0), (1, .int k), (2, .ref fa), (3, .int kq), (4, .ref fb)]) hx hb dX8_carry_179 hl (by decide) rfl (fun ls hl => ?_)
                      obtain ⟨y_35, ey_35⟩ : ∃ y : Int32, y = x10 + 1 := ⟨_, rfl⟩
                      refine lv_iinc (v := y_35) (lv' := [(10, .int y_35), (7, .int y_34), (11, .int y_25), (9, .int y_17), (8, .int x8), (6, .ref t0), (5, .ref u0), (0, .ref h0), (1, .int k), (2, .ref fa), (3, .int kq), (4, .ref fb)]) hx hb dX8_carry_181 hl (k := 2) rfl (by rw [ey_35]; rfl) (by decide) rfl (fun ls hl => ?_)
                      refine lv_goto (tgt := 93) hx hb dX8_carry_184 (by decide) ?_
                      exact ih_19 (i + 1) y_35 y_34 (if 0 ≤ y_30.toInt ∧ y_30.toInt < w.toInt ∧ 0 ≤ y_31.toInt ∧ y_31.toInt < h.toInt ∧ bx0.toInt ≤ y_30.toInt ∧ y_30.toInt ≤ bx1.toInt ∧ by0.toInt ≤ y_31.toInt ∧ y_31.toInt ≤ by1.toInt then upd gz (ixP y_30 y_31) (laidP wy r_32 (gz (ixP y_30 y_31)) op) else gz) _ _ _ (by omega) (by omega) (by rw [ey_35, ex_i]; exact nI_1 i) (hP.sub (ws' := [(s2, .inr (1, [.ref bx, .int ik, .int wy, .int op])), (bx, .inr (0, [.int bx0, .int by0, .int bx1, .int by1])), (t0, .inr (5, [.ref d0, .int w, .int h])), (d0, .inl (cI, 4096, .inl (if 0 ≤ y_30.toInt ∧ y_30.toInt < w.toInt ∧ 0 ≤ y_31.toInt ∧ y_31.toInt < h.toInt ∧ bx0.toInt ≤ y_30.toInt ∧ y_30.toInt ≤ bx1.toInt ∧ by0.toInt ≤ y_31.toInt ∧ y_31.toInt ≤ by1.toInt then upd gz (ixP y_30 y_31) (laidP wy r_32 (gz (ixP y_30 y_31)) op) else gz))), (u0, .inr (5, [.ref e0, .int w2, .int h2])), (e0, .inl (cI, 4096, .inl gs)), (h0, .inr (8, [.ref s1, .ref s2, .ref s3, .ref s4, .ref s5, .ref s6, .int ds, va_rf sp, va_rf bt])), (s1, .inl (cO, 4, .inr (.inr (.inr (.inr f))))), (fa, .inr (2, [.int ax, .int ay, .int aw, .int ah])), (fb, .inr (2, [.int ox, .int oy, .int ow, .int oh]))]) [6, 7, 8, 9, 4, 5, 0, 1, 2, 3] rfl) (hD.sub (ws' := [(s2, .inr (1, [.ref bx, .int ik, .int wy, .int op])), (bx, .inr (0, [.int bx0, .int by0, .int bx1, .int by1])), (t0, .inr (5, [.ref d0, .int w, .int h])), (d0, .inl (cI, 4096, .inl (if 0 ≤ y_30.toInt ∧ y_30.toInt < w.toInt ∧ 0 ≤ y_31.toInt ∧ y_31.toInt < h.toInt ∧ bx0.toInt ≤ y_30.toInt ∧ y_30.toInt ≤ bx1.toInt ∧ by0.toInt ≤ y_31.toInt ∧ y_31.toInt ≤ by1.toInt then upd gz (ixP y_30 y_31) (laidP wy r_32 (gz (ixP y_30 y_31)) op) else gz))), (u0, .inr (5, [.ref e0, .int w2, .int h2])), (e0, .inl (cI, 4096, .inl gs)), (h0, .inr (8, [.ref s1, .ref s2, .ref s3, .ref s4, .ref s5, .ref s6, .int ds, va_rf sp, va_rf bt])), (s1, .inl (cO, 4, .inr (.inr (.inr (.inr f))))), (fa, .inr (2, [.int ax, .int ay, .int aw, .int ah])), (fb, .inr (2, [.int ox, .int oy, .int ow, .int oh]))]) [6, 7, 8, 9, 4, 5, 0, 1, 2, 3] (by decide) rfl) hS (lv_sub hl [0, 3, 4, 1, 5, 6, 7, 8, 9, 10, 11] rfl)
              exact loop_18 (64 + 1) 0 0 x7 ga _ _ _ (by omega) (by omega) nI_0.symm hP hD hS (lv_sub hl [0, 1, 2, 3, 4, 5, 6, 7, 8, 9, 10] rfl)
        exact loop_11 (64 + 1) 0 0 0 g _ _ _ (by omega) (by omega) nI_0.symm hP hD hS (lv_sub hl [0, 1, 2, 3, 4, 5, 6, 7, 8] rfl)
      · skip
        have f_10 : k.toInt = kq.toInt := f_eq rfl rfl c_9
        exact False.elim (by omega)
    · skip
      have f_8 := bz0 hr_6 c_7
      exact False.elim (by omega)

set_option maxHeartbeats 4000000 in
set_option maxRecDepth 100000 in
theorem k_X8_carry_s1 (l : Launch) (D : va_G) (sz : Nat) (h0 s1 s2 s3 s4 s5 s6 : Nat) (ds : Int32) (sp : Option Nat) (f : Nat → Option Nat) (bx t0 d0 : Nat) (ik wy op : Int32) (bx0 by0 bx1 by1 : Int32) (w h : Int32) (g : Nat → Int32) (bq bd : Nat) (bw bh : Int32) (gb : Nat → Int32) (fa fb : Nat) (ax ay aw ah ox oy ow oh : Int32) (k kq : Int32) (cO : ClassId) (cI : ClassId) (hak : 0 ≤ k.toInt ∧ k.toInt ≤ 3) (haf : f k.toNatClampNeg = some t0) (hb0k : 0 ≤ kq.toInt ∧ kq.toInt ≤ 3) (hb0f : f kq.toNatClampNeg = some t0) (hne : k.toInt = kq.toInt) (hnr : (-200 ≤ ax.toInt ∧ ax.toInt ≤ 200) ∧ (-200 ≤ ay.toInt ∧ ay.toInt ≤ 200) ∧ (-200 ≤ ox.toInt ∧ ox.toInt ≤ 200) ∧ (-200 ≤ oy.toInt ∧ oy.toInt ≤ 200)) (hwy : 0 ≤ wy.toInt ∧ wy.toInt ≤ 12) (hw : w.toInt ≤ 64) (hh : h.toInt ≤ 64) (how : ow.toInt ≤ 64) (hoh : oh.toInt ≤ 64) : Met l yX8_carry (wB yX8_carry cX8_carry 12 (some .int)) ({ frames := 3, cells := 0, slots := 0, locals := 75 }) (cP D [(h0, .inr (8, [.ref s1, .ref s2, .ref s3, .ref s4, .ref s5, .ref s6, .int ds, va_rf sp, .ref bq])), (s1, .inl (cO, 4, .inr (.inr (.inr (.inr f))))), (s2, .inr (1, [.ref bx, .int ik, .int wy, .int op])), (bx, .inr (0, [.int bx0, .int by0, .int bx1, .int by1])), (t0, .inr (5, [.ref d0, .int w, .int h])), (d0, .inl (cI, 4096, .inl g)), (bq, .inr (5, [.ref bd, .int bw, .int bh])), (bd, .inl (cI, 4096, .inl gb)), (fa, .inr (2, [.int ax, .int ay, .int aw, .int ah])), (fb, .inr (2, [.int ox, .int oy, .int ow, .int oh]))] [(cO, .object "DotBench$Sheet"), (cI, .int)] sz [.ref h0, .int k, .ref fa, .int kq, .ref fb]) (va_Qi (fun (r : Int32) (_ : Unit) => True) (fun (_ : Unit) (t : State) => ∃ (g2 g3 : Nat → Int32), cB D (va_A [(h0, .inr (8, [.ref s1, .ref s2, .ref s3, .ref s4, .ref s5, .ref s6, .int ds, va_rf sp, .ref bq])), (s1, .inl (cO, 4, .inr (.inr (.inr (.inr f))))), (s2, .inr (1, [.ref bx, .int ik, .int wy, .int op])), (bx, .inr (0, [.int bx0, .int by0, .int bx1, .int by1])), (t0, .inr (5, [.ref d0, .int w, .int h])), (d0, .inl (cI, 4096, .inl g)), (bq, .inr (5, [.ref bd, .int bw, .int bh])), (bd, .inl (cI, 4096, .inl gb)), (fa, .inr (2, [.int ax, .int ay, .int aw, .int ah])), (fb, .inr (2, [.int ox, .int oy, .int ow, .int oh]))] sz) [(h0, .inr (8, [.ref s1, .ref s2, .ref s3, .ref s4, .ref s5, .ref s6, .int ds, va_rf sp, .ref bq])), (s1, .inl (cO, 4, .inr (.inr (.inr (.inr f))))), (s2, .inr (1, [.ref bx, .int ik, .int wy, .int op])), (bx, .inr (0, [.int bx0, .int by0, .int bx1, .int by1])), (t0, .inr (5, [.ref d0, .int w, .int h])), (d0, .inl (cI, 4096, .inl g2)), (bq, .inr (5, [.ref bd, .int w, .int h])), (bd, .inl (cI, 4096, .inl g3))] [(cO, .object "DotBench$Sheet"), (cI, .int)] t) (va_A [(h0, .inr (8, [.ref s1, .ref s2, .ref s3, .ref s4, .ref s5, .ref s6, .int ds, va_rf sp, .ref bq])), (s1, .inl (cO, 4, .inr (.inr (.inr (.inr f))))), (s2, .inr (1, [.ref bx, .int ik, .int wy, .int op])), (bx, .inr (0, [.int bx0, .int by0, .int bx1, .int by1])), (t0, .inr (5, [.ref d0, .int w, .int h])), (d0, .inl (cI, 4096, .inl g)), (bq, .inr (5, [.ref bd, .int bw, .int bh])), (bd, .inl (cI, 4096, .inl gb)), (fa, .inr (2, [.int ax, .int ay, .int aw, .int ah])), (fb, .inr (2, [.int ox, .int oy, .int ow, .int oh]))] sz)) 0 0 (va_A [(h0, .inr (8, [.ref s1, .ref s2, .ref s3, .ref s4, .ref s5, .ref s6, .int ds, va_rf sp, .ref bq])), (s1, .inl (cO, 4, .inr (.inr (.inr (.inr f))))), (s2, .inr (1, [.ref bx, .int ik, .int wy, .int op])), (bx, .inr (0, [.int bx0, .int by0, .int bx1, .int by1])), (t0, .inr (5, [.ref d0, .int w, .int h])), (d0, .inl (cI, 4096, .inl g)), (bq, .inr (5, [.ref bd, .int bw, .int bh])), (bd, .inl (cI, 4096, .inl gb)), (fa, .inr (2, [.int ax, .int ay, .int aw, .int ah])), (fb, .inr (2, [.int ox, .int oy, .int ow, .int oh]))] sz) := by
  refine Met.ofW (cc := cX8_carry) (maxL := 12) (ret := (some .int)) (by decide) rfl ?_
  intro p e s m args below meth c s₁ B hml hv
  obtain ⟨rfl, hsz, hP, hK, hD0, hN⟩ := hv
  have hx := B.exec
  have hb := B.bytes
  have hr := B.returns
  have hts0 := atoms_spec (ws := (wB yX8_carry cX8_carry 12 (some .int))) B.pre
  have hts : ∀ w ∈ bigW, w.before _ s = true := fun w h => hts0 w (List.mem_cons_of_mem _ h)
  have hown : s.vm.findClass RX8 = some m.cls := findClass_of_methodNamed B.named
  have hlocks := B.notSynchronized
  subst hsz
  have hD := hD0.self (sz := s.heap.size)
  generalize hAe : va_A [(h0, .inr (8, [.ref s1, .ref s2, .ref s3, .ref s4, .ref s5, .ref s6, .int ds, va_rf sp, .ref bq])), (s1, .inl (cO, 4, .inr (.inr (.inr (.inr f))))), (s2, .inr (1, [.ref bx, .int ik, .int wy, .int op])), (bx, .inr (0, [.int bx0, .int by0, .int bx1, .int by1])), (t0, .inr (5, [.ref d0, .int w, .int h])), (d0, .inl (cI, 4096, .inl g)), (bq, .inr (5, [.ref bd, .int bw, .int bh])), (bd, .inl (cI, 4096, .inl gb)), (fa, .inr (2, [.int ax, .int ay, .int aw, .int ah])), (fb, .inr (2, [.int ox, .int oy, .int ow, .int oh]))] s.heap.size = A at hD ⊢
  have hA : ∀ q : Nat, s.heap.size ≤ q → A q := fun q h => by rw [← hAe]; exact Or.inr h
  have hS : va_S A s.heap s.heap [] := va_S.rf
  have hP : va_P D vwCl [(h0, .inr (8, [.ref s1, .ref s2, .ref s3, .ref s4, .ref s5, .ref s6, .int ds, va_rf sp, .ref bq])), (s1, .inl (cO, 4, .inr (.inr (.inr (.inr f))))), (s2, .inr (1, [.ref bx, .int ik, .int wy, .int op])), (bx, .inr (0, [.int bx0, .int by0, .int bx1, .int by1])), (t0, .inr (5, [.ref d0, .int w, .int h])), (d0, .inl (cI, 4096, .inl g)), (bq, .inr (5, [.ref bd, .int bw, .int bh])), (bd, .inl (cI, 4096, .inl gb)), (fa, .inr (2, [.int ax, .int ay, .int aw, .int ah])), (fb, .inr (2, [.int ox, .int oy, .int ow, .int oh]))] s.heap := hP
  have hl := lv_entry ([.ref h0, .int k, .ref fa, .int kq, .ref fb]) (n := 12) (Nat.le_of_ble_eq_true rfl)
  rw [lg_entry_eq]
  generalize (lg_sl ([.ref h0, .int k, .ref fa, .int kq, .ref fb]) ++ List.replicate (12 - (lg_sl ([.ref h0, .int k, .ref fa, .int kq, .ref fb])).length) Slot.unset).toArray = ls at hl ⊢
  have hl : lv_has ls 12 [(0, .ref h0), (1, .int k), (2, .ref fa), (3, .int kq), (4, .ref fb)] := hl
  clear hts0 hD0 hAe
  refine my_abs (fun R Q hR hQ => ?_)
  refine lv_aload_n hx hb dX8_carry_0 rfl (lv_at hl 0 rfl) ?_
  refine lv_iload_n hx hb dX8_carry_1 rfl (lv_at hl 1 rfl) ?_
  have hPc := hP.sub (ws' := [(h0, .inr (8, [.ref s1, .ref s2, .ref s3, .ref s4, .ref s5, .ref s6, .int ds, va_rf sp, .ref bq])), (s1, .inl (cO, 4, .inr (.inr (.inr (.inr f)))))]) [0, 1] rfl
  have hDc := hD.sub (ws' := [(h0, .inr (8, [.ref s1, .ref s2, .ref s3, .ref s4, .ref s5, .ref s6, .int ds, va_rf sp, .ref bq])), (s1, .inl (cO, 4, .inr (.inr (.inr (.inr f)))))]) [0, 1] (by decide) rfl
  have hKc := hK.sub (tys' := [(cO, .object "DotBench$Sheet")]) [0] rfl
  have hFc := va_free (wc := [(h0, .inr (8, [.ref s1, .ref s2, .ref s3, .ref s4, .ref s5, .ref s6, .int ds, va_rf sp, .ref bq])), (s1, .inl (cO, 4, .inr (.inr (.inr (.inr f)))))]) hD hS hA [0, 1] rfl
  refine va_callq (va_runV (As := [.int k]) (rest := []) ⟨hx, hb, hml, hown, hts⟩ (k_X8_sheetAt_y l D s.heap.size h0 s1 s2 s3 s4 s5 s6 ds sp (some bq) f k t0 cO (by first | assumption | omega | decide) (by first | assumption | omega | decide)) (cwV 1 hts (gV bw_267 bw_346 bw_347 bw_223 bw_345) rfl rfl rfl (by decide +kernel) ⟨(by rw [hR]; exact Nat.le_of_ble_eq_true rfl), (by rw [hR]; exact Nat.le_of_ble_eq_true rfl)⟩) ⟨cP_blind, va_recv hKc hPc (ci := 8) (q0 := 0) rfl rfl, cP_at hPc hKc hDc hN⟩ rfl rfl hl.1 rfl (lv_room (Nat.le_of_ble_eq_true rfl)) dX8_carry_2 ⟨(by rw [hR]; exact Nat.le_of_ble_eq_true rfl), (by rw [hR]; exact Nat.le_of_ble_eq_true rfl)⟩) hS (fun q _ h => hFc q h) hFc (fun r_1 u9 t9 H1 locs ht hvm hr_1 hB hz1 hk1 hS => ?_)
  try dsimp only at hr_1
  obtain ⟨hP1, hK1, hD1⟩ := hB
  rw [ht] at hP1
  obtain ⟨hP, hD⟩ := va_join (wr := [(s2, .inr (1, [.ref bx, .int ik, .int wy, .int op])), (bx, .inr (0, [.int bx0, .int by0, .int bx1, .int by1])), (t0, .inr (5, [.ref d0, .int w, .int h])), (d0, .inl (cI, 4096, .inl g)), (bq, .inr (5, [.ref bd, .int bw, .int bh])), (bd, .inl (cI, 4096, .inl gb)), (fa, .inr (2, [.int ax, .int ay, .int aw, .int ah])), (fb, .inr (2, [.int ox, .int oy, .int ow, .int oh]))]) (w1 := [(h0, .inr (8, [.ref s1, .ref s2, .ref s3, .ref s4, .ref s5, .ref s6, .int ds, va_rf sp, .ref bq])), (s1, .inl (cO, 4, .inr (.inr (.inr (.inr f)))))]) hP hD [0, 1] [2, 3, 4, 5, 6, 7, 8, 9] rfl rfl (by decide) (by decide) hk1 hFc hP1 hD1
  clear hz1 hk1 hFc hKc hDc hPc
  generalize H1 = H at hP hS ⊢
  have hP : va_P D vwCl [(s2, .inr (1, [.ref bx, .int ik, .int wy, .int op])), (bx, .inr (0, [.int bx0, .int by0, .int bx1, .int by1])), (t0, .inr (5, [.ref d0, .int w, .int h])), (d0, .inl (cI, 4096, .inl g)), (bq, .inr (5, [.ref bd, .int bw, .int bh])), (bd, .inl (cI, 4096, .inl gb)), (fa, .inr (2, [.int ax, .int ay, .int aw, .int ah])), (fb, .inr (2, [.int ox, .int oy, .int ow, .int oh])), (h0, .inr (8, [.ref s1, .ref s2, .ref s3, .ref s4, .ref s5, .ref s6, .int ds, va_rf sp, .ref bq])), (s1, .inl (cO, 4, .inr (.inr (.inr (.inr f)))))] H := hP
  have hD : va_D A [(s2, .inr (1, [.ref bx, .int ik, .int wy, .int op])), (bx, .inr (0, [.int bx0, .int by0, .int bx1, .int by1])), (t0, .inr (5, [.ref d0, .int w, .int h])), (d0, .inl (cI, 4096, .inl g)), (bq, .inr (5, [.ref bd, .int bw, .int bh])), (bd, .inl (cI, 4096, .inl gb)), (fa, .inr (2, [.int ax, .int ay, .int aw, .int ah])), (fb, .inr (2, [.int ox, .int oy, .int ow, .int oh])), (h0, .inr (8, [.ref s1, .ref s2, .ref s3, .ref s4, .ref s5, .ref s6, .int ds, va_rf sp, .ref bq])), (s1, .inl (cO, 4, .inr (.inr (.inr (.inr f)))))] := hD
  subst hr_1
  refine my_topv (v := .ref t0) rfl ?_
  refine lv_astore (lv' := [(5, .ref t0), (0, .ref h0), (1, .int k), (2, .ref fa), (3, .int kq), (4, .ref fb)]) hx hb dX8_carry_5 hl (by decide) rfl (fun ls hl => ?_)
  refine lv_aload_n hx hb dX8_carry_7 rfl (lv_at hl 1 rfl) ?_
  refine lv_iload_n hx hb dX8_carry_8 rfl (lv_at hl 4 rfl) ?_
  have hPc := hP.sub (ws' := [(h0, .inr (8, [.ref s1, .ref s2, .ref s3, .ref s4, .ref s5, .ref s6, .int ds, va_rf sp, .ref bq])), (s1, .inl (cO, 4, .inr (.inr (.inr (.inr f)))))]) [8, 9] rfl
  have hDc := hD.sub (ws' := [(h0, .inr (8, [.ref s1, .ref s2, .ref s3, .ref s4, .ref s5, .ref s6, .int ds, va_rf sp, .ref bq])), (s1, .inl (cO, 4, .inr (.inr (.inr (.inr f)))))]) [8, 9] (by decide) rfl
  have hKc := hK.sub (tys' := [(cO, .object "DotBench$Sheet")]) [0] rfl
  have hFc := va_free (wc := [(h0, .inr (8, [.ref s1, .ref s2, .ref s3, .ref s4, .ref s5, .ref s6, .int ds, va_rf sp, .ref bq])), (s1, .inl (cO, 4, .inr (.inr (.inr (.inr f)))))]) hD hS hA [8, 9] rfl
  refine va_callq (va_runV (As := [.int kq]) (rest := []) ⟨hx, hb, hml, hown, hts⟩ (k_X8_sheetAt_y l D H.size h0 s1 s2 s3 s4 s5 s6 ds sp (some bq) f kq t0 cO (by first | assumption | omega | decide) (by first | assumption | omega | decide)) (cwV 1 hts (gV bw_267 bw_346 bw_347 bw_223 bw_345) rfl rfl rfl (by decide +kernel) ⟨(by rw [hR]; exact Nat.le_of_ble_eq_true rfl), (by rw [hR]; exact Nat.le_of_ble_eq_true rfl)⟩) ⟨cP_blind, va_recv hKc hPc (ci := 8) (q0 := 0) rfl rfl, cP_at hPc hKc hDc hN⟩ rfl rfl hl.1 rfl (lv_room (Nat.le_of_ble_eq_true rfl)) dX8_carry_9 ⟨(by rw [hR]; exact Nat.le_of_ble_eq_true rfl), (by rw [hR]; exact Nat.le_of_ble_eq_true rfl)⟩) hS (fun q _ h => hFc q h) hFc (fun r_2 u9 t9 H1 locs ht hvm hr_2 hB hz1 hk1 hS => ?_)
  try dsimp only at hr_2
  obtain ⟨hP1, hK1, hD1⟩ := hB
  rw [ht] at hP1
  obtain ⟨hP, hD⟩ := va_join (wr := [(s2, .inr (1, [.ref bx, .int ik, .int wy, .int op])), (bx, .inr (0, [.int bx0, .int by0, .int bx1, .int by1])), (t0, .inr (5, [.ref d0, .int w, .int h])), (d0, .inl (cI, 4096, .inl g)), (bq, .inr (5, [.ref bd, .int bw, .int bh])), (bd, .inl (cI, 4096, .inl gb)), (fa, .inr (2, [.int ax, .int ay, .int aw, .int ah])), (fb, .inr (2, [.int ox, .int oy, .int ow, .int oh]))]) (w1 := [(h0, .inr (8, [.ref s1, .ref s2, .ref s3, .ref s4, .ref s5, .ref s6, .int ds, va_rf sp, .ref bq])), (s1, .inl (cO, 4, .inr (.inr (.inr (.inr f)))))]) hP hD [8, 9] [0, 1, 2, 3, 4, 5, 6, 7] rfl rfl (by decide) (by decide) hk1 hFc hP1 hD1
  clear hz1 hk1 hFc hKc hDc hPc
  generalize H1 = H at hP hS ⊢
  have hP : va_P D vwCl [(s2, .inr (1, [.ref bx, .int ik, .int wy, .int op])), (bx, .inr (0, [.int bx0, .int by0, .int bx1, .int by1])), (t0, .inr (5, [.ref d0, .int w, .int h])), (d0, .inl (cI, 4096, .inl g)), (bq, .inr (5, [.ref bd, .int bw, .int bh])), (bd, .inl (cI, 4096, .inl gb)), (fa, .inr (2, [.int ax, .int ay, .int aw, .int ah])), (fb, .inr (2, [.int ox, .int oy, .int ow, .int oh])), (h0, .inr (8, [.ref s1, .ref s2, .ref s3, .ref s4, .ref s5, .ref s6, .int ds, va_rf sp, .ref bq])), (s1, .inl (cO, 4, .inr (.inr (.inr (.inr f)))))] H := hP
  have hD : va_D A [(s2, .inr (1, [.ref bx, .int ik, .int wy, .int op])), (bx, .inr (0, [.int bx0, .int by0, .int bx1, .int by1])), (t0, .inr (5, [.ref d0, .int w, .int h])), (d0, .inl (cI, 4096, .inl g)), (bq, .inr (5, [.ref bd, .int bw, .int bh])), (bd, .inl (cI, 4096, .inl gb)), (fa, .inr (2, [.int ax, .int ay, .int aw, .int ah])), (fb, .inr (2, [.int ox, .int oy, .int ow, .int oh])), (h0, .inr (8, [.ref s1, .ref s2, .ref s3, .ref s4, .ref s5, .ref s6, .int ds, va_rf sp, .ref bq])), (s1, .inl (cO, 4, .inr (.inr (.inr (.inr f)))))] := hD
  subst hr_2
  refine my_topv (v := .ref t0) rfl ?_
  refine lv_astore (lv' := [(6, .ref t0), (5, .ref t0), (0, .ref h0), (1, .int k), (2, .ref fa), (3, .int kq), (4, .ref fb)]) hx hb dX8_carry_12 hl (by decide) rfl (fun ls hl => ?_)
  refine lv_aload hx hb dX8_carry_14 (lv_at hl 1 rfl) ?_
  refine lv_ifnull hx hb dX8_carry_16 ?_
  refine lv_aload hx hb dX8_carry_19 (lv_at hl 0 rfl) ?_
  refine lv_ifnull hx hb dX8_carry_21 ?_
  refine lv_aload_n hx hb dX8_carry_24 rfl (lv_at hl 4 rfl) ?_
  have hPc := hP.sub (ws' := [(fa, .inr (2, [.int ax, .int ay, .int aw, .int ah]))]) [6] rfl
  have hDc := hD.sub (ws' := [(fa, .inr (2, [.int ax, .int ay, .int aw, .int ah]))]) [6] (by decide) rfl
  have hKc := hK.sub (tys' := []) [] rfl
  have hFc := va_free (wc := [(fa, .inr (2, [.int ax, .int ay, .int aw, .int ah]))]) hD hS hA [6] rfl
  refine va_calli (va_runV (As := []) (rest := []) ⟨hx, hb, hml, hown, hts⟩ (k_X2_isNearby l D H.size fa ax ay aw ah) (cwV 0 hts (gV bw_385 bw_65 bw_66 bw_55 bw_64) rfl rfl rfl (by decide +kernel) ⟨(by rw [hR]; exact Nat.le_of_ble_eq_true rfl), (by rw [hR]; exact Nat.le_of_ble_eq_true rfl)⟩) ⟨cP_blind, va_recv hKc hPc (ci := 2) (q0 := 0) rfl rfl, cP_at hPc hKc hDc hN⟩ rfl rfl hl.1 rfl (lv_room (Nat.le_of_ble_eq_true rfl)) dX8_carry_25 ⟨(by rw [hR]; exact Nat.le_of_ble_eq_true rfl), (by rw [hR]; exact Nat.le_of_ble_eq_true rfl)⟩) hS (fun q _ h => hFc q h) hFc (fun r_3 u9 t9 H1 locs ht hvm hr_3 hB hz1 hk1 hS => ?_)
  try dsimp only at hr_3
  obtain ⟨hP1, hK1, hD1⟩ := hB
  rw [ht] at hP1
  obtain ⟨hP, hD⟩ := va_join (wr := [(s2, .inr (1, [.ref bx, .int ik, .int wy, .int op])), (bx, .inr (0, [.int bx0, .int by0, .int bx1, .int by1])), (t0, .inr (5, [.ref d0, .int w, .int h])), (d0, .inl (cI, 4096, .inl g)), (bq, .inr (5, [.ref bd, .int bw, .int bh])), (bd, .inl (cI, 4096, .inl gb)), (fb, .inr (2, [.int ox, .int oy, .int ow, .int oh])), (h0, .inr (8, [.ref s1, .ref s2, .ref s3, .ref s4, .ref s5, .ref s6, .int ds, va_rf sp, .ref bq])), (s1, .inl (cO, 4, .inr (.inr (.inr (.inr f)))))]) (w1 := [(fa, .inr (2, [.int ax, .int ay, .int aw, .int ah]))]) hP hD [6] [0, 1, 2, 3, 4, 5, 7, 8, 9] rfl rfl (by decide) (by decide) hk1 hFc hP1 hD1
  clear hz1 hk1 hFc hKc hDc hPc
  generalize H1 = H at hP hS ⊢
  have hP : va_P D vwCl [(s2, .inr (1, [.ref bx, .int ik, .int wy, .int op])), (bx, .inr (0, [.int bx0, .int by0, .int bx1, .int by1])), (t0, .inr (5, [.ref d0, .int w, .int h])), (d0, .inl (cI, 4096, .inl g)), (bq, .inr (5, [.ref bd, .int bw, .int bh])), (bd, .inl (cI, 4096, .inl gb)), (fb, .inr (2, [.int ox, .int oy, .int ow, .int oh])), (h0, .inr (8, [.ref s1, .ref s2, .ref s3, .ref s4, .ref s5, .ref s6, .int ds, va_rf sp, .ref bq])), (s1, .inl (cO, 4, .inr (.inr (.inr (.inr f))))), (fa, .inr (2, [.int ax, .int ay, .int aw, .int ah]))] H := hP
  have hD : va_D A [(s2, .inr (1, [.ref bx, .int ik, .int wy, .int op])), (bx, .inr (0, [.int bx0, .int by0, .int bx1, .int by1])), (t0, .inr (5, [.ref d0, .int w, .int h])), (d0, .inl (cI, 4096, .inl g)), (bq, .inr (5, [.ref bd, .int bw, .int bh])), (bd, .inl (cI, 4096, .inl gb)), (fb, .inr (2, [.int ox, .int oy, .int ow, .int oh])), (h0, .inr (8, [.ref s1, .ref s2, .ref s3, .ref s4, .ref s5, .ref s6, .int ds, va_rf sp, .ref bq])), (s1, .inl (cO, 4, .inr (.inr (.inr (.inr f))))), (fa, .inr (2, [.int ax, .int ay, .int aw, .int ah]))] := hD
  refine lv_if_eq (tgt := 39) hx hb dX8_carry_28 (by decide) (fun c_4 => ?_) (fun c_4 => ?_)
  · skip
    have f_5 := bz0 hr_3 c_4
    exact False.elim (by omega)
  · skip
    have f_5 := bz1 hr_3 c_4
    refine lv_aload hx hb dX8_carry_31 (lv_at hl 6 rfl) ?_
    have hPc := hP.sub (ws' := [(fb, .inr (2, [.int ox, .int oy, .int ow, .int oh]))]) [6] rfl
    have hDc := hD.sub (ws' := [(fb, .inr (2, [.int ox, .int oy, .int ow, .int oh]))]) [6] (by decide) rfl
    have hKc := hK.sub (tys' := []) [] rfl
    have hFc := va_free (wc := [(fb, .inr (2, [.int ox, .int oy, .int ow, .int oh]))]) hD hS hA [6] rfl
    refine va_calli (va_runV (As := []) (rest := []) ⟨hx, hb, hml, hown, hts⟩ (k_X2_isNearby l D H.size fb ox oy ow oh) (cwV 0 hts (gV bw_385 bw_65 bw_66 bw_55 bw_64) rfl rfl rfl (by decide +kernel) ⟨(by rw [hR]; exact Nat.le_of_ble_eq_true rfl), (by rw [hR]; exact Nat.le_of_ble_eq_true rfl)⟩) ⟨cP_blind, va_recv hKc hPc (ci := 2) (q0 := 0) rfl rfl, cP_at hPc hKc hDc hN⟩ rfl rfl hl.1 rfl (lv_room (Nat.le_of_ble_eq_true rfl)) dX8_carry_33 ⟨(by rw [hR]; exact Nat.le_of_ble_eq_true rfl), (by rw [hR]; exact Nat.le_of_ble_eq_true rfl)⟩) hS (fun q _ h => hFc q h) hFc (fun r_6 u9 t9 H1 locs ht hvm hr_6 hB hz1 hk1 hS => ?_)
    try dsimp only at hr_6
    obtain ⟨hP1, hK1, hD1⟩ := hB
    rw [ht] at hP1
    obtain ⟨hP, hD⟩ := va_join (wr := [(s2, .inr (1, [.ref bx, .int ik, .int wy, .int op])), (bx, .inr (0, [.int bx0, .int by0, .int bx1, .int by1])), (t0, .inr (5, [.ref d0, .int w, .int h])), (d0, .inl (cI, 4096, .inl g)), (bq, .inr (5, [.ref bd, .int bw, .int bh])), (bd, .inl (cI, 4096, .inl gb)), (h0, .inr (8, [.ref s1, .ref s2, .ref s3, .ref s4, .ref s5, .ref s6, .int ds, va_rf sp, .ref bq])), (s1, .inl (cO, 4, .inr (.inr (.inr (.inr f))))), (fa, .inr (2, [.int ax, .int ay, .int aw, .int ah]))]) (w1 := [(fb, .inr (2, [.int ox, .int oy, .int ow, .int oh]))]) hP hD [6] [0, 1, 2, 3, 4, 5, 7, 8, 9] rfl rfl (by decide) (by decide) hk1 hFc hP1 hD1
    clear hz1 hk1 hFc hKc hDc hPc
    generalize H1 = H at hP hS ⊢
    have hP : va_P D vwCl [(s2, .inr (1, [.ref bx, .int ik, .int wy, .int op])), (bx, .inr (0, [.int bx0, .int by0, .int bx1, .int by1])), (t0, .inr (5, [.ref d0, .int w, .int h])), (d0, .inl (cI, 4096, .inl g)), (bq, .inr (5, [.ref bd, .int bw, .int bh])), (bd, .inl (cI, 4096, .inl gb)), (h0, .inr (8, [.ref s1, .ref s2, .ref s3, .ref s4, .ref s5, .ref s6, .int ds, va_rf sp, .ref bq])), (s1, .inl (cO, 4, .inr (.inr (.inr (.inr f))))), (fa, .inr (2, [.int ax, .int ay, .int aw, .int ah])), (fb, .inr (2, [.int ox, .int oy, .int ow, .int oh]))] H := hP
    have hD : va_D A [(s2, .inr (1, [.ref bx, .int ik, .int wy, .int op])), (bx, .inr (0, [.int bx0, .int by0, .int bx1, .int by1])), (t0, .inr (5, [.ref d0, .int w, .int h])), (d0, .inl (cI, 4096, .inl g)), (bq, .inr (5, [.ref bd, .int bw, .int bh])), (bd, .inl (cI, 4096, .inl gb)), (h0, .inr (8, [.ref s1, .ref s2, .ref s3, .ref s4, .ref s5, .ref s6, .int ds, va_rf sp, .ref bq])), (s1, .inl (cO, 4, .inr (.inr (.inr (.inr f))))), (fa, .inr (2, [.int ax, .int ay, .int aw, .int ah])), (fb, .inr (2, [.int ox, .int oy, .int ow, .int oh]))] := hD
    refine lv_if_ne (tgt := 41) hx hb dX8_carry_36 (by decide) (fun c_7 => ?_) (fun c_7 => ?_)
    · skip
      have f_8 := bz1 hr_6 c_7
      refine lv_iload_n hx hb dX8_carry_41 rfl (lv_at hl 3 rfl) ?_
      refine lv_iload_n hx hb dX8_carry_42 rfl (lv_at hl 5 rfl) ?_
      refine lv_icmp_ne (tgt := 54) hx hb dX8_carry_43 (by decide) (fun c_9 => ?_) (fun c_9 => ?_)
      · skip
        have f_10 : ¬ (k.toInt = kq.toInt) := fn_eq rfl rfl c_9
        exact False.elim (by omega)
      · skip
        have f_10 : k.toInt = kq.toInt := f_eq rfl rfl c_9
        refine lv_aload_n hx hb dX8_carry_46 rfl (lv_at hl 2 rfl) ?_
        refine lv_aload hx hb dX8_carry_47 (lv_at hl 1 rfl) ?_
        have hPc := hP.sub (ws' := [(h0, .inr (8, [.ref s1, .ref s2, .ref s3, .ref s4, .ref s5, .ref s6, .int ds, va_rf sp, .ref bq])), (bq, .inr (5, [.ref bd, .int bw, .int bh])), (bd, .inl (cI, 4096, .inl gb)), (t0, .inr (5, [.ref d0, .int w, .int h])), (d0, .inl (cI, 4096, .inl g))]) [6, 4, 5, 2, 3] rfl
        have hDc := hD.sub (ws' := [(h0, .inr (8, [.ref s1, .ref s2, .ref s3, .ref s4, .ref s5, .ref s6, .int ds, va_rf sp, .ref bq])), (bq, .inr (5, [.ref bd, .int bw, .int bh])), (bd, .inl (cI, 4096, .inl gb)), (t0, .inr (5, [.ref d0, .int w, .int h])), (d0, .inl (cI, 4096, .inl g))]) [6, 4, 5, 2, 3] (by decide) rfl
        have hKc := hK.sub (tys' := [(cI, .int)]) [1] rfl
        have hFc := va_free (wc := [(h0, .inr (8, [.ref s1, .ref s2, .ref s3, .ref s4, .ref s5, .ref s6, .int ds, va_rf sp, .ref bq])), (bq, .inr (5, [.ref bd, .int bw, .int bh])), (bd, .inl (cI, 4096, .inl gb)), (t0, .inr (5, [.ref d0, .int w, .int h])), (d0, .inl (cI, 4096, .inl g))]) hD hS hA [6, 4, 5, 2, 3] rfl
        refine va_callq (va_runV (As := [.ref t0]) (rest := []) ⟨hx, hb, hml, hown, hts⟩ (k_X8_likenessOf_1 l D H.size h0 s1 s2 s3 s4 s5 s6 ds sp bq bd bw bh gb t0 d0 w h g cI) (cwV 1 hts (gV bw_386 bw_388 bw_389 bw_223 bw_387) rfl rfl rfl (by decide +kernel) ⟨(by rw [hR]; exact Nat.le_of_ble_eq_true rfl), (by rw [hR]; exact Nat.le_of_ble_eq_true rfl)⟩) ⟨cP_blind, va_recv hKc hPc (ci := 8) (q0 := 0) rfl rfl, cP_at hPc hKc hDc hN⟩ rfl rfl hl.1 rfl (lv_room (Nat.le_of_ble_eq_true rfl)) dX8_carry_49 ⟨(by rw [hR]; exact Nat.le_of_ble_eq_true rfl), (by rw [hR]; exact Nat.le_of_ble_eq_true rfl)⟩) hS (fun q _ h => hFc q h) hFc (fun r_11 u9 t9 H1 locs ht hvm hr_11 hB hz1 hk1 hS => ?_)
        try dsimp only at hr_11
        obtain ⟨g_12, b_13, hP1, hK1, hD1⟩ := hB
        rw [ht] at hP1
        obtain ⟨hP, hD⟩ := va_join (wr := [(s2, .inr (1, [.ref bx, .int ik, .int wy, .int op])), (bx, .inr (0, [.int bx0, .int by0, .int bx1, .int by1])), (s1, .inl (cO, 4, .inr (.inr (.inr (.inr f))))), (fa, .inr (2, [.int ax, .int ay, .int aw, .int ah])), (fb, .inr (2, [.int ox, .int oy, .int ow, .int oh]))]) (w1 := [(h0, .inr (8, [.ref s1, .ref s2, .ref s3, .ref s4, .ref s5, .ref s6, .int ds, va_rf sp, .ref bq])), (bq, .inr (5, [.ref bd, .int w, .int h])), (bd, .inl (cI, 4096, .inl g_12)), (t0, .inr (5, [.ref d0, .int w, .int h])), (d0, .inl (cI, 4096, .inl g))]) hP hD [6, 4, 5, 2, 3] [0, 1, 7, 8, 9] rfl rfl (by decide) (by decide) hk1 hFc hP1 hD1
        clear hz1 hk1 hFc hKc hDc hPc
        generalize H1 = H at hP hS ⊢
        have hP : va_P D vwCl [(s2, .inr (1, [.ref bx, .int ik, .int wy, .int op])), (bx, .inr (0, [.int bx0, .int by0, .int bx1, .int by1])), (s1, .inl (cO, 4, .inr (.inr (.inr (.inr f))))), (fa, .inr (2, [.int ax, .int ay, .int aw, .int ah])), (fb, .inr (2, [.int ox, .int oy, .int ow, .int oh])), (h0, .inr (8, [.ref s1, .ref s2, .ref s3, .ref s4, .ref s5, .ref s6, .int ds, va_rf sp, .ref bq])), (bq, .inr (5, [.ref bd, .int w, .int h])), (bd, .inl (cI, 4096, .inl g_12)), (t0, .inr (5, [.ref d0, .int w, .int h])), (d0, .inl (cI, 4096, .inl g))] H := hP
        have hD : va_D A [(s2, .inr (1, [.ref bx, .int ik, .int wy, .int op])), (bx, .inr (0, [.int bx0, .int by0, .int bx1, .int by1])), (s1, .inl (cO, 4, .inr (.inr (.inr (.inr f))))), (fa, .inr (2, [.int ax, .int ay, .int aw, .int ah])), (fb, .inr (2, [.int ox, .int oy, .int ow, .int oh])), (h0, .inr (8, [.ref s1, .ref s2, .ref s3, .ref s4, .ref s5, .ref s6, .int ds, va_rf sp, .ref bq])), (bq, .inr (5, [.ref bd, .int w, .int h])), (bd, .inl (cI, 4096, .inl g_12)), (t0, .inr (5, [.ref d0, .int w, .int h])), (d0, .inl (cI, 4096, .inl g))] := hD
        subst hr_11
        refine my_topv (v := .ref bq) rfl ?_
        refine lv_astore (lv' := [(5, .ref bq), (6, .ref t0), (0, .ref h0), (1, .int k), (2, .ref fa), (3, .int kq), (4, .ref fb)]) hx hb dX8_carry_52 hl (by decide) rfl (fun ls hl => ?_)
        refine lv_iconst (v := 0) hx hb dX8_carry_54 (by decide) ?_
        refine lv_istore (lv' := [(7, .int 0), (5, .ref bq), (6, .ref t0), (0, .ref h0), (1, .int k), (2, .ref fa), (3, .int kq), (4, .ref fb)]) hx hb dX8_carry_55 hl (by decide) rfl (fun ls hl => ?_)
        refine lv_iconst (v := 0) hx hb dX8_carry_57 (by decide) ?_
        refine lv_istore (lv' := [(8, .int 0), (7, .int 0), (5, .ref bq), (6, .ref t0), (0, .ref h0), (1, .int k), (2, .ref fa), (3, .int kq), (4, .ref fb)]) hx hb dX8_carry_58 hl (by decide) rfl (fun ls hl => ?_)
        have loop_14 : ∀ (n : Nat) (j : Nat) (x8 : Int32) (x7 : Int32) (ga : Nat → Int32) (H : Heap) (locs : List Loc) (ls : Array Slot), (j ≤ 64) → (64 + 1 ≤ j + n) → (x8 = nI j) → va_P D vwCl [(s2, .inr (1, [.ref bx, .int ik, .int wy, .int op])), (bx, .inr (0, [.int bx0, .int by0, .int bx1, .int by1])), (s1, .inl (cO, 4, .inr (.inr (.inr (.inr f))))), (fa, .inr (2, [.int ax, .int ay, .int aw, .int ah])), (fb, .inr (2, [.int ox, .int oy, .int ow, .int oh])), (h0, .inr (8, [.ref s1, .ref s2, .ref s3, .ref s4, .ref s5, .ref s6, .int ds, va_rf sp, .ref bq])), (bq, .inr (5, [.ref bd, .int w, .int h])), (bd, .inl (cI, 4096, .inl g_12)), (t0, .inr (5, [.ref d0, .int w, .int h])), (d0, .inl (cI, 4096, .inl ga))] H → va_D A [(s2, .inr (1, [.ref bx, .int ik, .int wy, .int op])), (bx, .inr (0, [.int bx0, .int by0, .int bx1, .int by1])), (s1, .inl (cO, 4, .inr (.inr (.inr (.inr f))))), (fa, .inr (2, [.int ax, .int ay, .int aw, .int ah])), (fb, .inr (2, [.int ox, .int oy, .int ow, .int oh])), (h0, .inr (8, [.ref s1, .ref s2, .ref s3, .ref s4, .ref s5, .ref s6, .int ds, va_rf sp, .ref bq])), (bq, .inr (5, [.ref bd, .int w, .int h])), (bd, .inl (cI, 4096, .inl g_12)), (t0, .inr (5, [.ref d0, .int w, .int h])), (d0, .inl (cI, 4096, .inl ga))] → va_S A s.heap H locs → lv_has ls 12 [(8, .int x8), (7, .int x7), (5, .ref bq), (6, .ref t0), (0, .ref h0), (1, .int k), (2, .ref fa), (3, .int kq), (4, .ref fb)] → W p l e R s m ([.ref h0, .int k, .ref fa, .int kq, .ref fb] : List Value).toArray below meth c H locs 0 0 Q (F0 m 60 ls []) := by
          intro n
          induction n with
          | zero =>
            intro j x8 x7 ga H locs ls hi_j hm_j ex_j hP hD hS hl
            exact absurd (show False by omega) not_false
          | succ n ih_15 =>
            intro j x8 x7 ga H locs ls hi_j hm_j ex_j hP hD hS hl
            have hx_j : x8.toInt = (j : Int) := by rw [ex_j]; exact nI_toInt (by omega)
            have hc_j : x8.toNatClampNeg = j := by rw [ex_j]; exact nI_clamp (by omega)
            refine lv_iload hx hb dX8_carry_60 (lv_at hl 0 rfl) ?_
            refine lv_aload hx hb dX8_carry_62 (lv_at hl 8 rfl) ?_
            refine va_getN (host := RX8) (D := D) (ci := 2) (v := .int oh) (C := RX2) (T := TX2) (N := 4) hx hb hts hi_X2 hown hK hP 4 rfl rfl 3 (by decide) ((hN.1 (RX8, 238, "DotBench$Frame", "h", "I", RX8) (by decide +kernel)).use rfl) (fun _ h9 => h9) rfl dX8_carry_64 ?_
            refine lv_icmp_ge (tgt := 193) hx hb dX8_carry_67 (by decide) (fun c_16 => ?_) (fun c_16 => ?_)
            · skip
              have f_17 : oh.toInt ≤ (j : Int) := f_le rfl hx_j c_16
              refine lv_iload hx hb dX8_carry_193 (lv_at hl 1 rfl) ?_
              have hP9 := hP.sub (ws' := [(h0, .inr (8, [.ref s1, .ref s2, .ref s3, .ref s4, .ref s5, .ref s6, .int ds, va_rf sp, .ref bq])), (s1, .inl (cO, 4, .inr (.inr (.inr (.inr f))))), (s2, .inr (1, [.ref bx, .int ik, .int wy, .int op])), (bx, .inr (0, [.int bx0, .int by0, .int bx1, .int by1])), (t0, .inr (5, [.ref d0, .int w, .int h])), (d0, .inl (cI, 4096, .inl ga)), (bq, .inr (5, [.ref bd, .int w, .int h])), (bd, .inl (cI, 4096, .inl g_12))]) [5, 2, 0, 1, 8, 9, 6, 7] rfl
              have hD9 := hD.sub (ws' := [(h0, .inr (8, [.ref s1, .ref s2, .ref s3, .ref s4, .ref s5, .ref s6, .int ds, va_rf sp, .ref bq])), (s1, .inl (cO, 4, .inr (.inr (.inr (.inr f))))), (s2, .inr (1, [.ref bx, .int ik, .int wy, .int op])), (bx, .inr (0, [.int bx0, .int by0, .int bx1, .int by1])), (t0, .inr (5, [.ref d0, .int w, .int h])), (d0, .inl (cI, 4096, .inl ga)), (bq, .inr (5, [.ref bd, .int w, .int h])), (bd, .inl (cI, 4096, .inl g_12))]) [5, 2, 0, 1, 8, 9, 6, 7] (by decide) rfl
              have hK9 := hK.sub (tys' := [(cO, .object "DotBench$Sheet"), (cI, .int)]) [0, 1] rfl
              refine hQ _ _ _ _ _ ?_
              exact W.iret (v := x7) hx hb hr (fun t ht hW => ⟨⟨x7, (), rfl, trivial, ⟨ga, g_12, by rw [ht]; exact hP9, va_K.moved hW.alike hK9, hD9⟩⟩, hS.F ht⟩) hS.2.2 dX8_carry_195
            · skip
              have f_17 : ¬ (oh.toInt ≤ (j : Int)) := fn_le rfl hx_j c_16
              refine lv_aload_n hx hb dX8_carry_70 rfl (lv_at hl 6 rfl) ?_
              refine va_getN (host := RX8) (D := D) (ci := 2) (v := .int ay) (C := RX2) (T := TX2) (N := 4) hx hb hts hi_X2 hown hK hP 3 rfl rfl 1 (by decide) ((hN.1 (RX8, 241, "DotBench$Frame", "y", "I", RX8) (by decide +kernel)).use rfl) (fun _ h9 => h9) rfl dX8_carry_71 ?_
              refine lv_iload hx hb dX8_carry_74 (lv_at hl 0 rfl) ?_
              refine lv_aload_n hx hb dX8_carry_76 rfl (lv_at hl 6 rfl) ?_
              refine va_getN (host := RX8) (D := D) (ci := 2) (v := .int ah) (C := RX2) (T := TX2) (N := 4) hx hb hts hi_X2 hown hK hP 3 rfl rfl 3 (by decide) ((hN.1 (RX8, 238, "DotBench$Frame", "h", "I", RX8) (by decide +kernel)).use rfl) (fun _ h9 => h9) rfl dX8_carry_77 ?_
              refine lv_imul hx hb dX8_carry_80 ?_
              refine lv_topi (fun y_18 ey_18 => ?_)
              refine lv_aload hx hb dX8_carry_81 (lv_at hl 8 rfl) ?_
              refine va_getN (host := RX8) (D := D) (ci := 2) (v := .int oh) (C := RX2) (T := TX2) (N := 4) hx hb hts hi_X2 hown hK hP 4 rfl rfl 3 (by decide) ((hN.1 (RX8, 238, "DotBench$Frame", "h", "I", RX8) (by decide +kernel)).use rfl) (fun _ h9 => h9) rfl dX8_carry_83 ?_
              refine lv_idiv hx hb dX8_carry_86 (ne0_of (by omega)) ?_
              refine lv_topi (fun y_19 ey_19 => ?_)
              refine lv_iadd hx hb dX8_carry_87 ?_
              refine lv_topi (fun y_20 ey_20 => ?_)
              refine lv_istore (lv' := [(9, .int y_20), (8, .int x8), (7, .int x7), (5, .ref bq), (6, .ref t0), (0, .ref h0), (1, .int k), (2, .ref fa), (3, .int kq), (4, .ref fb)]) hx hb dX8_carry_88 hl (by decide) rfl (fun ls hl => ?_)
              refine lv_iconst (v := 0) hx hb dX8_carry_90 (by decide) ?_
              refine lv_istore (lv' := [(10, .int 0), (9, .int y_20), (8, .int x8), (7, .int x7), (5, .ref bq), (6, .ref t0), (0, .ref h0), (1, .int k), (2, .ref fa), (3, .int kq), (4, .ref fb)]) hx hb dX8_carry_91 hl (by decide) rfl (fun ls hl => ?_)
              have loop_21 : ∀ (n : Nat) (i : Nat) (x10 : Int32) (z7 : Int32) (gz : Nat → Int32) (H : Heap) (locs : List Loc) (ls : Array Slot), (i ≤ 64) → (64 + 1 ≤ i + n) → (x10 = nI i) → va_P D vwCl [(s2, .inr (1, [.ref bx, .int ik, .int wy, .int op])), (bx, .inr (0, [.int bx0, .int by0, .int bx1, .int by1])), (s1, .inl (cO, 4, .inr (.inr (.inr (.inr f))))), (fa, .inr (2, [.int ax, .int ay, .int aw, .int ah])), (fb, .inr (2, [.int ox, .int oy, .int ow, .int oh])), (h0, .inr (8, [.ref s1, .ref s2, .ref s3, .ref s4, .ref s5, .ref s6, .int ds, va_rf sp, .ref bq])), (bq, .inr (5, [.ref bd, .int w, .int h])), (bd, .inl (cI, 4096, .inl g_12)), (t0, .inr (5, [.ref d0, .int w, .int h])), (d0, .inl (cI, 4096, .inl gz))] H → va_D A [(s2, .inr (1, [.ref bx, .int ik, .int wy, .int op])), (bx, .inr (0, [.int bx0, .int by0, .int bx1, .int by1])), (s1, .inl (cO, 4, .inr (.inr (.inr (.inr f))))), (fa, .inr (2, [.int ax, .int ay, .int aw, .int ah])), (fb, .inr (2, [.int ox, .int oy, .int ow, .int oh])), (h0, .inr (8, [.ref s1, .ref s2, .ref s3, .ref s4, .ref s5, .ref s6, .int ds, va_rf sp, .ref bq])), (bq, .inr (5, [.ref bd, .int w, .int h])), (bd, .inl (cI, 4096, .inl g_12)), (t0, .inr (5, [.ref d0, .int w, .int h])), (d0, .inl (cI, 4096, .inl gz))] → va_S A s.heap H locs → lv_has ls 12 [(10, .int x10), (9, .int y_20), (8, .int x8), (7, .int z7), (5, .ref bq), (6, .ref t0), (0, .ref h0), (1, .int k), (2, .ref fa), (3, .int kq), (4, .ref fb)] → W p l e R s m ([.ref h0, .int k, .ref fa, .int kq, .ref fb] : List Value).toArray below meth c H locs 0 0 Q (F0 m 93 ls []) := by
                intro n
                induction n with
                | zero =>
                  intro i x10 z7 gz H locs ls hi_i hm_i ex_i hP hD hS hl
                  exact absurd (show False by omega) not_false
                | succ n ih_22 =>
                  intro i x10 z7 gz H locs ls hi_i hm_i ex_i hP hD hS hl
                  have hx_i : x10.toInt = (i : Int) := by rw [ex_i]; exact nI_toInt (by omega)
                  have hc_i : x10.toNatClampNeg = i := by rw [ex_i]; exact nI_clamp (by omega)
                  refine lv_iload hx hb dX8_carry_93 (lv_at hl 0 rfl) ?_
                  refine lv_aload hx hb dX8_carry_95 (lv_at hl 10 rfl) ?_
                  refine va_getN (host := RX8) (D := D) (ci := 2) (v := .int ow) (C := RX2) (T := TX2) (N := 4) hx hb hts hi_X2 hown hK hP 4 rfl rfl 2 (by decide) ((hN.1 (RX8, 244, "DotBench$Frame", "w", "I", RX8) (by decide +kernel)).use rfl) (fun _ h9 => h9) rfl dX8_carry_97 ?_
                  refine lv_icmp_ge (tgt := 187) hx hb dX8_carry_100 (by decide) (fun c_23 => ?_) (fun c_23 => ?_)
                  · skip
                    have f_24 : ow.toInt ≤ (i : Int) := f_le rfl hx_i c_23
                    obtain ⟨y_25, ey_25⟩ : ∃ y : Int32, y = x8 + 1 := ⟨_, rfl⟩
                    refine lv_iinc (v := y_25) (lv' := [(8, .int y_25), (10, .int x10), (9, .int y_20), (7, .int z7), (5, .ref bq), (6, .ref t0), (0, .ref h0), (1, .int k), (2, .ref fa), (3, .int kq), (4, .ref fb)]) hx hb dX8_carry_187 hl (k := 2) rfl (by rw [ey_25]; rfl) (by decide) rfl (fun ls hl => ?_)
                    refine lv_goto (tgt := 60) hx hb dX8_carry_190 (by decide) ?_
                    exact ih_15 (j + 1) y_25 z7 gz _ _ _ (by omega) (by omega) (by rw [ey_25, ex_j]; exact nI_1 j) (hP.sub (ws' := [(s2, .inr (1, [.ref bx, .int ik, .int wy, .int op])), (bx, .inr (0, [.int bx0, .int by0, .int bx1, .int by1])), (s1, .inl (cO, 4, .inr (.inr (.inr (.inr f))))), (fa, .inr (2, [.int ax, .int ay, .int aw, .int ah])), (fb, .inr (2, [.int ox, .int oy, .int ow, .int oh])), (h0, .inr (8, [.ref s1, .ref s2, .ref s3, .ref s4, .ref s5, .ref s6, .int ds, va_rf sp, .ref bq])), (bq, .inr (5, [.ref bd, .int w, .int h])), (bd, .inl (cI, 4096, .inl g_12)), (t0, .inr (5, [.ref d0, .int w, .int h])), (d0, .inl (cI, 4096, .inl gz))]) [0, 1, 2, 3, 4, 5, 6, 7, 8, 9] rfl) (hD.sub (ws' := [(s2, .inr (1, [.ref bx, .int ik, .int wy, .int op])), (bx, .inr (0, [.int bx0, .int by0, .int bx1, .int by1])), (s1, .inl (cO, 4, .inr (.inr (.inr (.inr f))))), (fa, .inr (2, [.int ax, .int ay, .int aw, .int ah])), (fb, .inr (2, [.int ox, .int oy, .int ow, .int oh])), (h0, .inr (8, [.ref s1, .ref s2, .ref s3, .ref s4, .ref s5, .ref s6, .int ds, va_rf sp, .ref bq])), (bq, .inr (5, [.ref bd, .int w, .int h])), (bd, .inl (cI, 4096, .inl g_12)), (t0, .inr (5, [.ref d0, .int w, .int h])), (d0, .inl (cI, 4096, .inl gz))]) [0, 1, 2, 3, 4, 5, 6, 7, 8, 9] (by decide) rfl) hS (lv_sub hl [0, 3, 4, 5, 6, 7, 8, 9, 10] rfl)
                  · skip
                    have f_24 : ¬ (ow.toInt ≤ (i : Int)) := fn_le rfl hx_i c_23
                    refine lv_aload_n hx hb dX8_carry_103 rfl (lv_at hl 8 rfl) ?_
                    refine va_getN (host := RX8) (D := D) (ci := 2) (v := .int ax) (C := RX2) (T := TX2) (N := 4) hx hb hts hi_X2 hown hK hP 3 rfl rfl 0 (by decide) ((hN.1 (RX8, 247, "DotBench$Frame", "x", "I", RX8) (by decide +kernel)).use rfl) (fun _ h9 => h9) rfl dX8_carry_104 ?_
                    refine lv_iload hx hb dX8_carry_107 (lv_at hl 0 rfl) ?_
                    refine lv_aload_n hx hb dX8_carry_109 rfl (lv_at hl 8 rfl) ?_
                    refine va_getN (host := RX8) (D := D) (ci := 2) (v := .int aw) (C := RX2) (T := TX2) (N := 4) hx hb hts hi_X2 hown hK hP 3 rfl rfl 2 (by decide) ((hN.1 (RX8, 244, "DotBench$Frame", "w", "I", RX8) (by decide +kernel)).use rfl) (fun _ h9 => h9) rfl dX8_carry_110 ?_
                    refine lv_imul hx hb dX8_carry_113 ?_
                    refine lv_topi (fun y_26 ey_26 => ?_)
                    refine lv_aload hx hb dX8_carry_114 (lv_at hl 10 rfl) ?_
                    refine va_getN (host := RX8) (D := D) (ci := 2) (v := .int ow) (C := RX2) (T := TX2) (N := 4) hx hb hts hi_X2 hown hK hP 4 rfl rfl 2 (by decide) ((hN.1 (RX8, 244, "DotBench$Frame", "w", "I", RX8) (by decide +kernel)).use rfl) (fun _ h9 => h9) rfl dX8_carry_116 ?_
                    refine lv_idiv hx hb dX8_carry_119 (ne0_of (by omega)) ?_
                    refine lv_topi (fun y_27 ey_27 => ?_)
                    refine lv_iadd hx hb dX8_carry_120 ?_
                    refine lv_topi (fun y_28 ey_28 => ?_)
                    refine lv_istore (lv' := [(11, .int y_28), (10, .int x10), (9, .int y_20), (8, .int x8), (7, .int z7), (5, .ref bq), (6, .ref t0), (0, .ref h0), (1, .int k), (2, .ref fa), (3, .int kq), (4, .ref fb)]) hx hb dX8_carry_121 hl (by decide) rfl (fun ls hl => ?_)
                    refine lv_aload hx hb dX8_carry_123 (lv_at hl 5 rfl) ?_
                    refine lv_iload hx hb dX8_carry_125 (lv_at hl 0 rfl) ?_
                    refine lv_iload hx hb dX8_carry_127 (lv_at hl 2 rfl) ?_
                    have hPc := hP.sub (ws' := [(bq, .inr (5, [.ref bd, .int w, .int h]))]) [6] rfl
                    have hDc := hD.sub (ws' := [(bq, .inr (5, [.ref bd, .int w, .int h]))]) [6] (by decide) rfl
                    have hKc := hK.sub (tys' := []) [] rfl
                    have hFc := va_free (wc := [(bq, .inr (5, [.ref bd, .int w, .int h]))]) hD hS hA [6] rfl
                    refine va_calli (va_runV (As := [.int y_28, .int y_20]) (rest := []) ⟨hx, hb, hml, hown, hts⟩ (k_X5_has l D H.size bq bd w h y_28 y_20) (cwV 2 hts (gV bw_309 bw_150 bw_151 bw_130 bw_149) rfl rfl rfl (by decide +kernel) ⟨(by rw [hR]; exact Nat.le_of_ble_eq_true rfl), (by rw [hR]; exact Nat.le_of_ble_eq_true rfl)⟩) ⟨cP_blind, va_recv hKc hPc (ci := 5) (q0 := 0) rfl rfl, cP_at hPc hKc hDc hN⟩ rfl rfl hl.1 rfl (lv_room (Nat.le_of_ble_eq_true rfl)) dX8_carry_129 ⟨(by rw [hR]; exact Nat.le_of_ble_eq_true rfl), (by rw [hR]; exact Nat.le_of_ble_eq_true rfl)⟩) hS (fun q _ h => hFc q h) hFc (fun r_29 u9 t9 H1 locs ht hvm hr_29 hB hz1 hk1 hS => ?_)
                    try dsimp only at hr_29
                    obtain ⟨hP1, hK1, hD1⟩ := hB
                    rw [ht] at hP1
                    obtain ⟨hP, hD⟩ := va_join (wr := [(s2, .inr (1, [.ref bx, .int ik, .int wy, .int op])), (bx, .inr (0, [.int bx0, .int by0, .int bx1, .int by1])), (s1, .inl (cO, 4, .inr (.inr (.inr (.inr f))))), (fa, .inr (2, [.int ax, .int ay, .int aw, .int ah])), (fb, .inr (2, [.int ox, .int oy, .int ow, .int oh])), (h0, .inr (8, [.ref s1, .ref s2, .ref s3, .ref s4, .ref s5, .ref s6, .int ds, va_rf sp, .ref bq])), (bd, .inl (cI, 4096, .inl g_12)), (t0, .inr (5, [.ref d0, .int w, .int h])), (d0, .inl (cI, 4096, .inl gz))]) (w1 := [(bq, .inr (5, [.ref bd, .int w, .int h]))]) hP hD [6] [0, 1, 2, 3, 4, 5, 7, 8, 9] rfl rfl (by decide) (by decide) hk1 hFc hP1 hD1
                    clear hz1 hk1 hFc hKc hDc hPc
                    generalize H1 = H at hP hS ⊢
                    have hP : va_P D vwCl [(s2, .inr (1, [.ref bx, .int ik, .int wy, .int op])), (bx, .inr (0, [.int bx0, .int by0, .int bx1, .int by1])), (s1, .inl (cO, 4, .inr (.inr (.inr (.inr f))))), (fa, .inr (2, [.int ax, .int ay, .int aw, .int ah])), (fb, .inr (2, [.int ox, .int oy, .int ow, .int oh])), (h0, .inr (8, [.ref s1, .ref s2, .ref s3, .ref s4, .ref s5, .ref s6, .int ds, va_rf sp, .ref bq])), (bd, .inl (cI, 4096, .inl g_12)), (t0, .inr (5, [.ref d0, .int w, .int h])), (d0, .inl (cI, 4096, .inl gz)), (bq, .inr (5, [.ref bd, .int w, .int h]))] H := hP
                    have hD : va_D A [(s2, .inr (1, [.ref bx, .int ik, .int wy, .int op])), (bx, .inr (0, [.int bx0, .int by0, .int bx1, .int by1])), (s1, .inl (cO, 4, .inr (.inr (.inr (.inr f))))), (fa, .inr (2, [.int ax, .int ay, .int aw, .int ah])), (fb, .inr (2, [.int ox, .int oy, .int ow, .int oh])), (h0, .inr (8, [.ref s1, .ref s2, .ref s3, .ref s4, .ref s5, .ref s6, .int ds, va_rf sp, .ref bq])), (bd, .inl (cI, 4096, .inl g_12)), (t0, .inr (5, [.ref d0, .int w, .int h])), (d0, .inl (cI, 4096, .inl gz)), (bq, .inr (5, [.ref bd, .int w, .int h]))] := hD
                    refine lv_if_eq (tgt := 181) hx hb dX8_carry_132 (by decide) (fun c_30 => ?_) (fun c_30 => ?_)
                    · skip
                      have f_31 := bz0 hr_29 c_30
                      obtain ⟨y_32, ey_32⟩ : ∃ y : Int32, y = x10 + 1 := ⟨_, rfl⟩
                      refine lv_iinc (v := y_32) (lv' := [(10, .int y_32), (11, .int y_28), (9, .int y_20), (8, .int x8), (7, .int z7), (5, .ref bq), (6, .ref t0), (0, .ref h0), (1, .int k), (2, .ref fa), (3, .int kq), (4, .ref fb)]) hx hb dX8_carry_181 hl (k := 1) rfl (by rw [ey_32]; rfl) (by decide) rfl (fun ls hl => ?_)
                      refine lv_goto (tgt := 93) hx hb dX8_carry_184 (by decide) ?_
                      exact ih_22 (i + 1) y_32 z7 gz _ _ _ (by omega) (by omega) (by rw [ey_32, ex_i]; exact nI_1 i) (hP.sub (ws' := [(s2, .inr (1, [.ref bx, .int ik, .int wy, .int op])), (bx, .inr (0, [.int bx0, .int by0, .int bx1, .int by1])), (s1, .inl (cO, 4, .inr (.inr (.inr (.inr f))))), (fa, .inr (2, [.int ax, .int ay, .int aw, .int ah])), (fb, .inr (2, [.int ox, .int oy, .int ow, .int oh])), (h0, .inr (8, [.ref s1, .ref s2, .ref s3, .ref s4, .ref s5, .ref s6, .int ds, va_rf sp, .ref bq])), (bq, .inr (5, [.ref bd, .int w, .int h])), (bd, .inl (cI, 4096, .inl g_12)), (t0, .inr (5, [.ref d0, .int w, .int h])), (d0, .inl (cI, 4096, .inl gz))]) [0, 1, 2, 3, 4, 5, 9, 6, 7, 8] rfl) (hD.sub (ws' := [(s2, .inr (1, [.ref bx, .int ik, .int wy, .int op])), (bx, .inr (0, [.int bx0, .int by0, .int bx1, .int by1])), (s1, .inl (cO, 4, .inr (.inr (.inr (.inr f))))), (fa, .inr (2, [.int ax, .int ay, .int aw, .int ah])), (fb, .inr (2, [.int ox, .int oy, .int ow, .int oh])), (h0, .inr (8, [.ref s1, .ref s2, .ref s3, .ref s4, .ref s5, .ref s6, .int ds, va_rf sp, .ref bq])), (bq, .inr (5, [.ref bd, .int w, .int h])), (bd, .inl (cI, 4096, .inl g_12)), (t0, .inr (5, [.ref d0, .int w, .int h])), (d0, .inl (cI, 4096, .inl gz))]) [0, 1, 2, 3, 4, 5, 9, 6, 7, 8] (by decide) rfl) hS (lv_sub hl [0, 2, 3, 4, 5, 6, 7, 8, 9, 10, 11] rfl)
                    · skip
                      have f_31 := bz1 hr_29 c_30
                      refine lv_iload hx hb dX8_carry_135 (lv_at hl 4 rfl) ?_
                      refine lv_aload_n hx hb dX8_carry_137 rfl (lv_at hl 7 rfl) ?_
                      refine va_get (D := D) (ci := 8) (v := .ref s2) (C := RX8) (T := TX8) (N := 9) hx hb hts hi_X8 hown hK hP 5 rfl rfl 1 (by decide) (hts _ bw_231) (fun _ h9 => h9) rfl dX8_carry_138 ?_
                      refine lv_aload hx hb dX8_carry_141 (lv_at hl 6 rfl) ?_
                      refine lv_aload hx hb dX8_carry_143 (lv_at hl 11 rfl) ?_
                      refine va_getN (host := RX8) (D := D) (ci := 2) (v := .int ox) (C := RX2) (T := TX2) (N := 4) hx hb hts hi_X2 hown hK hP 4 rfl rfl 0 (by decide) ((hN.1 (RX8, 247, "DotBench$Frame", "x", "I", RX8) (by decide +kernel)).use rfl) (fun _ h9 => h9) rfl dX8_carry_145 ?_
                      refine lv_iload hx hb dX8_carry_148 (lv_at hl 1 rfl) ?_
                      refine lv_iadd hx hb dX8_carry_150 ?_
                      refine lv_topi (fun y_33 ey_33 => ?_)
                      refine lv_aload hx hb dX8_carry_151 (lv_at hl 11 rfl) ?_
                      refine va_getN (host := RX8) (D := D) (ci := 2) (v := .int oy) (C := RX2) (T := TX2) (N := 4) hx hb hts hi_X2 hown hK hP 4 rfl rfl 1 (by decide) ((hN.1 (RX8, 241, "DotBench$Frame", "y", "I", RX8) (by decide +kernel)).use rfl) (fun _ h9 => h9) rfl dX8_carry_153 ?_
                      refine lv_iload hx hb dX8_carry_156 (lv_at hl 3 rfl) ?_
                      refine lv_iadd hx hb dX8_carry_158 ?_
                      refine lv_topi (fun y_34 ey_34 => ?_)
                      refine lv_aload hx hb dX8_carry_159 (lv_at hl 5 rfl) ?_
                      refine lv_iload hx hb dX8_carry_161 (lv_at hl 0 rfl) ?_
                      refine lv_iload hx hb dX8_carry_163 (lv_at hl 2 rfl) ?_
                      have hPc := hP.sub (ws' := [(bq, .inr (5, [.ref bd, .int w, .int h])), (bd, .inl (cI, 4096, .inl g_12))]) [9, 6] rfl
                      have hDc := hD.sub (ws' := [(bq, .inr (5, [.ref bd, .int w, .int h])), (bd, .inl (cI, 4096, .inl g_12))]) [9, 6] (by decide) rfl
                      have hKc := hK.sub (tys' := [(cI, .int)]) [1] rfl
                      have hFc := va_free (wc := [(bq, .inr (5, [.ref bd, .int w, .int h])), (bd, .inl (cI, 4096, .inl g_12))]) hD hS hA [9, 6] rfl
                      refine va_calli (va_runV (As := [.int y_28, .int y_20]) (rest := [.int y_34, .int y_33, .ref t0, .ref s2, .int z7]) ⟨hx, hb, hml, hown, hts⟩ (k_X5_at l D H.size bq bd w h g_12 y_28 y_20 cI (by first | assumption | omega | decide) (by first | assumption | omega | decide)) (cwV 2 hts (gV bw_325 bw_153 bw_154 bw_130 bw_152) rfl rfl rfl (by decide +kernel) ⟨(by rw [hR]; exact Nat.le_of_ble_eq_true rfl), (by rw [hR]; exact Nat.le_of_ble_eq_true rfl)⟩) ⟨cP_blind, va_recv hKc hPc (ci := 5) (q0 := 0) rfl rfl, cP_at hPc hKc hDc hN⟩ rfl rfl hl.1 rfl (lv_room (Nat.le_of_ble_eq_true rfl)) dX8_carry_165 ⟨(by rw [hR]; exact Nat.le_of_ble_eq_true rfl), (by rw [hR]; exact Nat.le_of_ble_eq_true rfl)⟩) hS (fun q _ h => hFc q h) hFc (fun r_35 u9 t9 H1 locs ht hvm hr_35 hB hz1 hk1 hS => ?_)
                      try dsimp only at hr_35
                      obtain ⟨hP1, hK1, hD1⟩ := hB
                      rw [ht] at hP1
                      obtain ⟨hP, hD⟩ := va_join (wr := [(s2, .inr (1, [.ref bx, .int ik, .int wy, .int op])), (bx, .inr (0, [.int bx0, .int by0, .int bx1, .int by1])), (s1, .inl (cO, 4, .inr (.inr (.inr (.inr f))))), (fa, .inr (2, [.int ax, .int ay, .int aw, .int ah])), (fb, .inr (2, [.int ox, .int oy, .int ow, .int oh])), (h0, .inr (8, [.ref s1, .ref s2, .ref s3, .ref s4, .ref s5, .ref s6, .int ds, va_rf sp, .ref bq])), (t0, .inr (5, [.ref d0, .int w, .int h])), (d0, .inl (cI, 4096, .inl gz))]) (w1 := [(bq, .inr (5, [.ref bd, .int w, .int h])), (bd, .inl (cI, 4096, .inl g_12))]) hP hD [9, 6] [0, 1, 2, 3, 4, 5, 7, 8] rfl rfl (by decide) (by decide) hk1 hFc hP1 hD1
                      clear hz1 hk1 hFc hKc hDc hPc
                      generalize H1 = H at hP hS ⊢
                      have hP : va_P D vwCl [(s2, .inr (1, [.ref bx, .int ik, .int wy, .int op])), (bx, .inr (0, [.int bx0, .int by0, .int bx1, .int by1])), (s1, .inl (cO, 4, .inr (.inr (.inr (.inr f))))), (fa, .inr (2, [.int ax, .int ay, .int aw, .int ah])), (fb, .inr (2, [.int ox, .int oy, .int ow, .int oh])), (h0, .inr (8, [.ref s1, .ref s2, .ref s3, .ref s4, .ref s5, .ref s6, .int ds, va_rf sp, .ref bq])), (t0, .inr (5, [.ref d0, .int w, .int h])), (d0, .inl (cI, 4096, .inl gz)), (bq, .inr (5, [.ref bd, .int w, .int h])), (bd, .inl (cI, 4096, .inl g_12))] H := hP
                      have hD : va_D A [(s2, .inr (1, [.ref bx, .int ik, .int wy, .int op])), (bx, .inr (0, [.int bx0, .int by0, .int bx1, .int by1])), (s1, .inl (cO, 4, .inr (.inr (.inr (.inr f))))), (fa, .inr (2, [.int ax, .int ay, .int aw, .int ah])), (fb, .inr (2, [.int ox, .int oy, .int ow, .int oh])), (h0, .inr (8, [.ref s1, .ref s2, .ref s3, .ref s4, .ref s5, .ref s6, .int ds, va_rf sp, .ref bq])), (t0, .inr (5, [.ref d0, .int w, .int h])), (d0, .inl (cI, 4096, .inl gz)), (bq, .inr (5, [.ref bd, .int w, .int h])), (bd, .inl (cI, 4096, .inl g_12))] := hD
                      refine lv_aload_n hx hb dX8_carry_168 rfl (lv_at hl 7 rfl) ?_
                      refine va_get (D := D) (ci := 8) (v := .ref s2) (C := RX8) (T := TX8) (N := 9) hx hb hts hi_X8 hown hK hP 5 rfl rfl 1 (by decide) (hts _ bw_231) (fun _ h9 => h9) rfl dX8_carry_169 ?_
                      refine va_getN (host := RX8) (D := D) (ci := 1) (v := .int op) (C := RX1) (T := TX1) (N := 4) hx hb hts hi_X1 hown hK hP 0 rfl rfl 3 (by decide) ((hN.1 (RX8, 86, "DotBench$Brush", "opacity", "I", RX8) (by decide +kernel)).use rfl) (fun _ h9 => h9) rfl dX8_carry_172 ?_
                      have hPc := hP.sub (ws' := [(s2, .inr (1, [.ref bx, .int ik, .int wy, .int op])), (bx, .inr (0, [.int bx0, .int by0, .int bx1, .int by1])), (t0, .inr (5, [.ref d0, .int w, .int h])), (d0, .inl (cI, 4096, .inl gz))]) [0, 1, 6, 7] rfl
                      have hDc := hD.sub (ws' := [(s2, .inr (1, [.ref bx, .int ik, .int wy, .int op])), (bx, .inr (0, [.int bx0, .int by0, .int bx1, .int by1])), (t0, .inr (5, [.ref d0, .int w, .int h])), (d0, .inl (cI, 4096, .inl gz))]) [0, 1, 6, 7] (by decide) rfl
                      have hKc := hK.sub (tys' := [(cI, .int)]) [1] rfl
                      have hFc := va_free (wc := [(s2, .inr (1, [.ref bx, .int ik, .int wy, .int op])), (bx, .inr (0, [.int bx0, .int by0, .int bx1, .int by1])), (t0, .inr (5, [.ref d0, .int w, .int h])), (d0, .inl (cI, 4096, .inl gz))]) hD hS hA [0, 1, 6, 7] rfl
                      refine va_calli (va_runV (As := [.ref t0, .int y_33, .int y_34, .int r_35, .int op]) (rest := [.int z7]) ⟨hx, hb, hml, hown, hts⟩ (k_X1_lay l D H.size s2 bx ik wy op t0 d0 bx0 by0 bx1 by1 w h gz y_33 y_34 r_35 op cI (by first | assumption | omega | decide) (by first | assumption | omega | decide) (by first | assumption | omega | decide)) (cwV 5 hts (gV bw_276 bw_33 bw_34 bw_19 bw_32) rfl rfl rfl (by decide +kernel) ⟨(by rw [hR]; exact Nat.le_of_ble_eq_true rfl), (by rw [hR]; exact Nat.le_of_ble_eq_true rfl)⟩) ⟨cP_blind, va_recv hKc hPc (ci := 1) (q0 := 0) rfl rfl, cP_at hPc hKc hDc hN⟩ rfl rfl hl.1 rfl (lv_room (Nat.le_of_ble_eq_true rfl)) dX8_carry_175 ⟨(by rw [hR]; exact Nat.le_of_ble_eq_true rfl), (by rw [hR]; exact Nat.le_of_ble_eq_true rfl)⟩) hS (fun q _ h => hFc q h) hFc (fun r_36 u9 t9 H1 locs ht hvm hr_36 hB hz1 hk1 hS => ?_)
                      try dsimp only at hr_36
                      obtain ⟨hP1, hK1, hD1⟩ := hB
                      rw [ht] at hP1
                      obtain ⟨hP, hD⟩ := va_join (wr := [(s1, .inl (cO, 4, .inr (.inr (.inr (.inr f))))), (fa, .inr (2, [.int ax, .int ay, .int aw, .int ah])), (fb, .inr (2, [.int ox, .int oy, .int ow, .int oh])), (h0, .inr (8, [.ref s1, .ref s2, .ref s3, .ref s4, .ref s5, .ref s6, .int ds, va_rf sp, .ref bq])), (bq, .inr (5, [.ref bd, .int w, .int h])), (bd, .inl (cI, 4096, .inl g_12))]) (w1 := [(s2, .inr (1, [.ref bx, .int ik, .int wy, .int op])), (bx, .inr (0, [.int bx0, .int by0, .int bx1, .int by1])), (t0, .inr (5, [.ref d0, .int w, .int h])), (d0, .inl (cI, 4096, .inl (if 0 ≤ y_33.toInt ∧ y_33.toInt < w.toInt ∧ 0 ≤ y_34.toInt ∧ y_34.toInt < h.toInt ∧ bx0.toInt ≤ y_33.toInt ∧ y_33.toInt ≤ bx1.toInt ∧ by0.toInt ≤ y_34.toInt ∧ y_34.toInt ≤ by1.toInt then upd gz (ixP y_33 y_34) (laidP wy r_35 (gz (ixP y_33 y_34)) op) else gz)))]) hP hD [0, 1, 6, 7] [2, 3, 4, 5, 8, 9] rfl rfl (by decide) (by decide) hk1 hFc hP1 hD1
                      clear hz1 hk1 hFc hKc hDc hPc
                      generalize H1 = H at hP hS ⊢
                      have hP : va_P D vwCl [(s1, .inl (cO, 4, .inr (.inr (.inr (.inr f))))), (fa, .inr (2, [.int ax, .int ay, .int aw, .int ah])), (fb, .inr (2, [.int ox, .int oy, .int ow, .int oh])), (h0, .inr (8, [.ref s1, .ref s2, .ref s3, .ref s4, .ref s5, .ref s6, .int ds, va_rf sp, .ref bq])), (bq, .inr (5, [.ref bd, .int w, .int h])), (bd, .inl (cI, 4096, .inl g_12)), (s2, .inr (1, [.ref bx, .int ik, .int wy, .int op])), (bx, .inr (0, [.int bx0, .int by0, .int bx1, .int by1])), (t0, .inr (5, [.ref d0, .int w, .int h])), (d0, .inl (cI, 4096, .inl (if 0 ≤ y_33.toInt ∧ y_33.toInt < w.toInt ∧ 0 ≤ y_34.toInt ∧ y_34.toInt < h.toInt ∧ bx0.toInt ≤ y_33.toInt ∧ y_33.toInt ≤ bx1.toInt ∧ by0.toInt ≤ y_34.toInt ∧ y_34.toInt ≤ by1.toInt then upd gz (ixP y_33 y_34) (laidP wy r_35 (gz (ixP y_33 y_34)) op) else gz)))] H := hP
                      have hD : va_D A [(s1, .inl (cO, 4, .inr (.inr (.inr (.inr f))))), (fa, .inr (2, [.int ax, .int ay, .int aw, .int ah])), (fb, .inr (2, [.int ox, .int oy, .int ow, .int oh])), (h0, .inr (8, [.ref s1, .ref s2, .ref s3, .ref s4, .ref s5, .ref s6, .int ds, va_rf sp, .ref bq])), (bq, .inr (5, [.ref bd, .int w, .int h])), (bd, .inl (cI, 4096, .inl g_12)), (s2, .inr (1, [.ref bx, .int ik, .int wy, .int op])), (bx, .inr (0, [.int bx0, .int by0, .int bx1, .int by1])), (t0, .inr (5, [.ref d0, .int w, .int h])), (d0, .inl (cI, 4096, .inl (if 0 ≤ y_33.toInt ∧ y_33.toInt < w.toInt ∧ 0 ≤ y_34.toInt ∧ y_34.toInt < h.toInt ∧ bx0.toInt ≤ y_33.toInt ∧ y_33.toInt ≤ bx1.toInt ∧ by0.toInt ≤ y_34.toInt ∧ y_34.toInt ≤ by1.toInt then upd gz (ixP y_33 y_34) (laidP wy r_35 (gz (ixP y_33 y_34)) op) else gz)))] := hD
                      refine lv_iadd hx hb dX8_carry_178 ?_
                      refine lv_topi (fun y_37 ey_37 => ?_)
                      refine lv_istore (lv' := [(7, .int y_37), (11, .int y_28), (10, .int x10), (9, .int y_20), (8, .int x8), (5, .ref bq), (6, .ref t0), (0, .ref h0), (1, .int k), (2, .ref fa), (3, .int kq), (4, .ref fb)]) hx hb dX8_carry_179 hl (by decide) rfl (fun ls hl => ?_)
                      obtain ⟨y_38, ey_38⟩ : ∃ y : Int32, y = x10 + 1 := ⟨_, rfl⟩
                      refine lv_iinc (v := y_38) (lv' := [(10, .int y_38), (7, .int y_37), (11, .int y_28), (9, .int y_20), (8, .int x8), (5, .ref bq), (6, .ref t0), (0, .ref h0), (1, .int k), (2, .ref fa), (3, .int kq), (4, .ref fb)]) hx hb dX8_carry_181 hl (k := 2) rfl (by rw [ey_38]; rfl) (by decide) rfl (fun ls hl => ?_)
                      refine lv_goto (tgt := 93) hx hb dX8_carry_184 (by decide) ?_
                      exact ih_22 (i + 1) y_38 y_37 (if 0 ≤ y_33.toInt ∧ y_33.toInt < w.toInt ∧ 0 ≤ y_34.toInt ∧ y_34.toInt < h.toInt ∧ bx0.toInt ≤ y_33.toInt ∧ y_33.toInt ≤ bx1.toInt ∧ by0.toInt ≤ y_34.toInt ∧ y_34.toInt ≤ by1.toInt then upd gz (ixP y_33 y_34) (laidP wy r_35 (gz (ixP y_33 y_34)) op) else gz) _ _ _ (by omega) (by omega) (by rw [ey_38, ex_i]; exact nI_1 i) (hP.sub (ws' := [(s2, .inr (1, [.ref bx, .int ik, .int wy, .int op])), (bx, .inr (0, [.int bx0, .int by0, .int bx1, .int by1])), (s1, .inl (cO, 4, .inr (.inr (.inr (.inr f))))), (fa, .inr (2, [.int ax, .int ay, .int aw, .int ah])), (fb, .inr (2, [.int ox, .int oy, .int ow, .int oh])), (h0, .inr (8, [.ref s1, .ref s2, .ref s3, .ref s4, .ref s5, .ref s6, .int ds, va_rf sp, .ref bq])), (bq, .inr (5, [.ref bd, .int w, .int h])), (bd, .inl (cI, 4096, .inl g_12)), (t0, .inr (5, [.ref d0, .int w, .int h])), (d0, .inl (cI, 4096, .inl (if 0 ≤ y_33.toInt ∧ y_33.toInt < w.toInt ∧ 0 ≤ y_34.toInt ∧ y_34.toInt < h.toInt ∧ bx0.toInt ≤ y_33.toInt ∧ y_33.toInt ≤ bx1.toInt ∧ by0.toInt ≤ y_34.toInt ∧ y_34.toInt ≤ by1.toInt then upd gz (ixP y_33 y_34) (laidP wy r_35 (gz (ixP y_33 y_34)) op) else gz)))]) [6, 7, 0, 1, 2, 3, 4, 5, 8, 9] rfl) (hD.sub (ws' := [(s2, .inr (1, [.ref bx, .int ik, .int wy, .int op])), (bx, .inr (0, [.int bx0, .int by0, .int bx1, .int by1])), (s1, .inl (cO, 4, .inr (.inr (.inr (.inr f))))), (fa, .inr (2, [.int ax, .int ay, .int aw, .int ah])), (fb, .inr (2, [.int ox, .int oy, .int ow, .int oh])), (h0, .inr (8, [.ref s1, .ref s2, .ref s3, .ref s4, .ref s5, .ref s6, .int ds, va_rf sp, .ref bq])), (bq, .inr (5, [.ref bd, .int w, .int h])), (bd, .inl (cI, 4096, .inl g_12)), (t0, .inr (5, [.ref d0, .int w, .int h])), (d0, .inl (cI, 4096, .inl (if 0 ≤ y_33.toInt ∧ y_33.toInt < w.toInt ∧ 0 ≤ y_34.toInt ∧ y_34.toInt < h.toInt ∧ bx0.toInt ≤ y_33.toInt ∧ y_33.toInt ≤ bx1.toInt ∧ by0.toInt ≤ y_34.toInt ∧ y_34.toInt ≤ by1.toInt then upd gz (ixP y_33 y_34) (laidP wy r_35 (gz (ixP y_33 y_34)) op) else gz)))]) [6, 7, 0, 1, 2, 3, 4, 5, 8, 9] (by decide) rfl) hS (lv_sub hl [0, 3, 4, 1, 5, 6, 7, 8, 9, 10, 11] rfl)
              exact loop_21 (64 + 1) 0 0 x7 ga _ _ _ (by omega) (by omega) nI_0.symm hP hD hS (lv_sub hl [0, 1, 2, 3, 4, 5, 6, 7, 8, 9, 10] rfl)
        exact loop_14 (64 + 1) 0 0 0 g _ _ _ (by omega) (by omega) nI_0.symm hP hD hS (lv_sub hl [0, 1, 2, 3, 4, 5, 6, 7, 8] rfl)
    · skip
      have f_8 := bz0 hr_6 c_7
      exact False.elim (by omega)

set_option maxHeartbeats 4000000 in
set_option maxRecDepth 100000 in
theorem k_X8_carry_s0 (l : Launch) (D : va_G) (sz : Nat) (h0 s1 s2 s3 s4 s5 s6 : Nat) (ds : Int32) (sp : Option Nat) (f : Nat → Option Nat) (bx t0 d0 : Nat) (ik wy op : Int32) (bx0 by0 bx1 by1 : Int32) (w h : Int32) (g : Nat → Int32) (fa fb : Nat) (ax ay aw ah ox oy ow oh : Int32) (k kq : Int32) (cO : ClassId) (cI : ClassId) (hak : 0 ≤ k.toInt ∧ k.toInt ≤ 3) (haf : f k.toNatClampNeg = some t0) (hb0k : 0 ≤ kq.toInt ∧ kq.toInt ≤ 3) (hb0f : f kq.toNatClampNeg = some t0) (hne : k.toInt = kq.toInt) (hnr : (-200 ≤ ax.toInt ∧ ax.toInt ≤ 200) ∧ (-200 ≤ ay.toInt ∧ ay.toInt ≤ 200) ∧ (-200 ≤ ox.toInt ∧ ox.toInt ≤ 200) ∧ (-200 ≤ oy.toInt ∧ oy.toInt ≤ 200)) (hwy : 0 ≤ wy.toInt ∧ wy.toInt ≤ 12) (hw : w.toInt ≤ 64) (hh : h.toInt ≤ 64) (how : ow.toInt ≤ 64) (hoh : oh.toInt ≤ 64) : Met l yX8_carry (wB yX8_carry cX8_carry 12 (some .int)) ({ frames := 3, cells := 2, slots := 4099, locals := 75 }) (cP D [(h0, .inr (8, [.ref s1, .ref s2, .ref s3, .ref s4, .ref s5, .ref s6, .int ds, va_rf sp, .null])), (s1, .inl (cO, 4, .inr (.inr (.inr (.inr f))))), (s2, .inr (1, [.ref bx, .int ik, .int wy, .int op])), (bx, .inr (0, [.int bx0, .int by0, .int bx1, .int by1])), (t0, .inr (5, [.ref d0, .int w, .int h])), (d0, .inl (cI, 4096, .inl g)), (fa, .inr (2, [.int ax, .int ay, .int aw, .int ah])), (fb, .inr (2, [.int ox, .int oy, .int ow, .int oh]))] [(cO, .object "DotBench$Sheet"), (cI, .int)] sz [.ref h0, .int k, .ref fa, .int kq, .ref fb]) (va_Qi (fun (r : Int32) (_ : Unit) => True) (fun (_ : Unit) (t : State) => ∃ (bq bd : Nat), ∃ (g2 g3 : Nat → Int32), cB D (va_A [(h0, .inr (8, [.ref s1, .ref s2, .ref s3, .ref s4, .ref s5, .ref s6, .int ds, va_rf sp, .null])), (s1, .inl (cO, 4, .inr (.inr (.inr (.inr f))))), (s2, .inr (1, [.ref bx, .int ik, .int wy, .int op])), (bx, .inr (0, [.int bx0, .int by0, .int bx1, .int by1])), (t0, .inr (5, [.ref d0, .int w, .int h])), (d0, .inl (cI, 4096, .inl g)), (fa, .inr (2, [.int ax, .int ay, .int aw, .int ah])), (fb, .inr (2, [.int ox, .int oy, .int ow, .int oh]))] sz) [(h0, .inr (8, [.ref s1, .ref s2, .ref s3, .ref s4, .ref s5, .ref s6, .int ds, va_rf sp, .ref bq])), (s1, .inl (cO, 4, .inr (.inr (.inr (.inr f))))), (s2, .inr (1, [.ref bx, .int ik, .int wy, .int op])), (bx, .inr (0, [.int bx0, .int by0, .int bx1, .int by1])), (t0, .inr (5, [.ref d0, .int w, .int h])), (d0, .inl (cI, 4096, .inl g2)), (bq, .inr (5, [.ref bd, .int w, .int h])), (bd, .inl (cI, 4096, .inl g3))] [(cO, .object "DotBench$Sheet"), (cI, .int)] t) (va_A [(h0, .inr (8, [.ref s1, .ref s2, .ref s3, .ref s4, .ref s5, .ref s6, .int ds, va_rf sp, .null])), (s1, .inl (cO, 4, .inr (.inr (.inr (.inr f))))), (s2, .inr (1, [.ref bx, .int ik, .int wy, .int op])), (bx, .inr (0, [.int bx0, .int by0, .int bx1, .int by1])), (t0, .inr (5, [.ref d0, .int w, .int h])), (d0, .inl (cI, 4096, .inl g)), (fa, .inr (2, [.int ax, .int ay, .int aw, .int ah])), (fb, .inr (2, [.int ox, .int oy, .int ow, .int oh]))] sz)) 2 4099 (va_A [(h0, .inr (8, [.ref s1, .ref s2, .ref s3, .ref s4, .ref s5, .ref s6, .int ds, va_rf sp, .null])), (s1, .inl (cO, 4, .inr (.inr (.inr (.inr f))))), (s2, .inr (1, [.ref bx, .int ik, .int wy, .int op])), (bx, .inr (0, [.int bx0, .int by0, .int bx1, .int by1])), (t0, .inr (5, [.ref d0, .int w, .int h])), (d0, .inl (cI, 4096, .inl g)), (fa, .inr (2, [.int ax, .int ay, .int aw, .int ah])), (fb, .inr (2, [.int ox, .int oy, .int ow, .int oh]))] sz) := by
  refine Met.ofW (cc := cX8_carry) (maxL := 12) (ret := (some .int)) (by decide) rfl ?_
  intro p e s m args below meth c s₁ B hml hv
  obtain ⟨rfl, hsz, hP, hK, hD0, hN⟩ := hv
  have hx := B.exec
  have hb := B.bytes
  have hr := B.returns
  have hts0 := atoms_spec (ws := (wB yX8_carry cX8_carry 12 (some .int))) B.pre
  have hts : ∀ w ∈ bigW, w.before _ s = true := fun w h => hts0 w (List.mem_cons_of_mem _ h)
  have hown : s.vm.findClass RX8 = some m.cls := findClass_of_methodNamed B.named
  have hlocks := B.notSynchronized
  subst hsz
  have hD := hD0.self (sz := s.heap.size)
  generalize hAe : va_A [(h0, .inr (8, [.ref s1, .ref s2, .ref s3, .ref s4, .ref s5, .ref s6, .int ds, va_rf sp, .null])), (s1, .inl (cO, 4, .inr (.inr (.inr (.inr f))))), (s2, .inr (1, [.ref bx, .int ik, .int wy, .int op])), (bx, .inr (0, [.int bx0, .int by0, .int bx1, .int by1])), (t0, .inr (5, [.ref d0, .int w, .int h])), (d0, .inl (cI, 4096, .inl g)), (fa, .inr (2, [.int ax, .int ay, .int aw, .int ah])), (fb, .inr (2, [.int ox, .int oy, .int ow, .int oh]))] s.heap.size = A at hD ⊢
  have hA : ∀ q : Nat, s.heap.size ≤ q → A q := fun q h => by rw [← hAe]; exact Or.inr h
  have hS : va_S A s.heap s.heap [] := va_S.rf
  have hP : va_P D vwCl [(h0, .inr (8, [.ref s1, .ref s2, .ref s3, .ref s4, .ref s5, .ref s6, .int ds, va_rf sp, .null])), (s1, .inl (cO, 4, .inr (.inr (.inr (.inr f))))), (s2, .inr (1, [.ref bx, .int ik, .int wy, .int op])), (bx, .inr (0, [.int bx0, .int by0, .int bx1, .int by1])), (t0, .inr (5, [.ref d0, .int w, .int h])), (d0, .inl (cI, 4096, .inl g)), (fa, .inr (2, [.int ax, .int ay, .int aw, .int ah])), (fb, .inr (2, [.int ox, .int oy, .int ow, .int oh]))] s.heap := hP
  have hl := lv_entry ([.ref h0, .int k, .ref fa, .int kq, .ref fb]) (n := 12) (Nat.le_of_ble_eq_true rfl)
  rw [lg_entry_eq]
  generalize (lg_sl ([.ref h0, .int k, .ref fa, .int kq, .ref fb]) ++ List.replicate (12 - (lg_sl ([.ref h0, .int k, .ref fa, .int kq, .ref fb])).length) Slot.unset).toArray = ls at hl ⊢
  have hl : lv_has ls 12 [(0, .ref h0), (1, .int k), (2, .ref fa), (3, .int kq), (4, .ref fb)] := hl
  clear hts0 hD0 hAe
  refine my_abs (fun R Q hR hQ => ?_)
  refine lv_aload_n hx hb dX8_carry_0 rfl (lv_at hl 0 rfl) ?_
  refine lv_iload_n hx hb dX8_carry_1 rfl (lv_at hl 1 rfl) ?_
  have hPc := hP.sub (ws' := [(h0, .inr (8, [.ref s1, .ref s2, .ref s3, .ref s4, .ref s5, .ref s6, .int ds, va_rf sp, .null])), (s1, .inl (cO, 4, .inr (.inr (.inr (.inr f)))))]) [0, 1] rfl
  have hDc := hD.sub (ws' := [(h0, .inr (8, [.ref s1, .ref s2, .ref s3, .ref s4, .ref s5, .ref s6, .int ds, va_rf sp, .null])), (s1, .inl (cO, 4, .inr (.inr (.inr (.inr f)))))]) [0, 1] (by decide) rfl
  have hKc := hK.sub (tys' := [(cO, .object "DotBench$Sheet")]) [0] rfl
  have hFc := va_free (wc := [(h0, .inr (8, [.ref s1, .ref s2, .ref s3, .ref s4, .ref s5, .ref s6, .int ds, va_rf sp, .null])), (s1, .inl (cO, 4, .inr (.inr (.inr (.inr f)))))]) hD hS hA [0, 1] rfl
  refine va_callq (va_runV (As := [.int k]) (rest := []) ⟨hx, hb, hml, hown, hts⟩ (k_X8_sheetAt_y l D s.heap.size h0 s1 s2 s3 s4 s5 s6 ds sp none f k t0 cO (by first | assumption | omega | decide) (by first | assumption | omega | decide)) (cwV 1 hts (gV bw_267 bw_346 bw_347 bw_223 bw_345) rfl rfl rfl (by decide +kernel) ⟨(by rw [hR]; exact Nat.le_of_ble_eq_true rfl), (by rw [hR]; exact Nat.le_of_ble_eq_true rfl)⟩) ⟨cP_blind, va_recv hKc hPc (ci := 8) (q0 := 0) rfl rfl, cP_at hPc hKc hDc hN⟩ rfl rfl hl.1 rfl (lv_room (Nat.le_of_ble_eq_true rfl)) dX8_carry_2 ⟨(by rw [hR]; exact Nat.le_of_ble_eq_true rfl), (by rw [hR]; exact Nat.le_of_ble_eq_true rfl)⟩) hS (fun q _ h => hFc q h) hFc (fun r_1 u9 t9 H1 locs ht hvm hr_1 hB hz1 hk1 hS => ?_)
  try dsimp only at hr_1
  obtain ⟨hP1, hK1, hD1⟩ := hB
  rw [ht] at hP1
  obtain ⟨hP, hD⟩ := va_join (wr := [(s2, .inr (1, [.ref bx, .int ik, .int wy, .int op])), (bx, .inr (0, [.int bx0, .int by0, .int bx1, .int by1])), (t0, .inr (5, [.ref d0, .int w, .int h])), (d0, .inl (cI, 4096, .inl g)), (fa, .inr (2, [.int ax, .int ay, .int aw, .int ah])), (fb, .inr (2, [.int ox, .int oy, .int ow, .int oh]))]) (w1 := [(h0, .inr (8, [.ref s1, .ref s2, .ref s3, .ref s4, .ref s5, .ref s6, .int ds, va_rf sp, .null])), (s1, .inl (cO, 4, .inr (.inr (.inr (.inr f)))))]) hP hD [0, 1] [2, 3, 4, 5, 6, 7] rfl rfl (by decide) (by decide) hk1 hFc hP1 hD1
  clear hz1 hk1 hFc hKc hDc hPc
  generalize H1 = H at hP hS ⊢
  have hP : va_P D vwCl [(s2, .inr (1, [.ref bx, .int ik, .int wy, .int op])), (bx, .inr (0, [.int bx0, .int by0, .int bx1, .int by1])), (t0, .inr (5, [.ref d0, .int w, .int h])), (d0, .inl (cI, 4096, .inl g)), (fa, .inr (2, [.int ax, .int ay, .int aw, .int ah])), (fb, .inr (2, [.int ox, .int oy, .int ow, .int oh])), (h0, .inr (8, [.ref s1, .ref s2, .ref s3, .ref s4, .ref s5, .ref s6, .int ds, va_rf sp, .null])), (s1, .inl (cO, 4, .inr (.inr (.inr (.inr f)))))] H := hP
  have hD : va_D A [(s2, .inr (1, [.ref bx, .int ik, .int wy, .int op])), (bx, .inr (0, [.int bx0, .int by0, .int bx1, .int by1])), (t0, .inr (5, [.ref d0, .int w, .int h])), (d0, .inl (cI, 4096, .inl g)), (fa, .inr (2, [.int ax, .int ay, .int aw, .int ah])), (fb, .inr (2, [.int ox, .int oy, .int ow, .int oh])), (h0, .inr (8, [.ref s1, .ref s2, .ref s3, .ref s4, .ref s5, .ref s6, .int ds, va_rf sp, .null])), (s1, .inl (cO, 4, .inr (.inr (.inr (.inr f)))))] := hD
  subst hr_1
  refine my_topv (v := .ref t0) rfl ?_
  refine lv_astore (lv' := [(5, .ref t0), (0, .ref h0), (1, .int k), (2, .ref fa), (3, .int kq), (4, .ref fb)]) hx hb dX8_carry_5 hl (by decide) rfl (fun ls hl => ?_)
  refine lv_aload_n hx hb dX8_carry_7 rfl (lv_at hl 1 rfl) ?_
  refine lv_iload_n hx hb dX8_carry_8 rfl (lv_at hl 4 rfl) ?_
  have hPc := hP.sub (ws' := [(h0, .inr (8, [.ref s1, .ref s2, .ref s3, .ref s4, .ref s5, .ref s6, .int ds, va_rf sp, .null])), (s1, .inl (cO, 4, .inr (.inr (.inr (.inr f)))))]) [6, 7] rfl
  have hDc := hD.sub (ws' := [(h0, .inr (8, [.ref s1, .ref s2, .ref s3, .ref s4, .ref s5, .ref s6, .int ds, va_rf sp, .null])), (s1, .inl (cO, 4, .inr (.inr (.inr (.inr f)))))]) [6, 7] (by decide) rfl
  have hKc := hK.sub (tys' := [(cO, .object "DotBench$Sheet")]) [0] rfl
  have hFc := va_free (wc := [(h0, .inr (8, [.ref s1, .ref s2, .ref s3, .ref s4, .ref s5, .ref s6, .int ds, va_rf sp, .null])), (s1, .inl (cO, 4, .inr (.inr (.inr (.inr f)))))]) hD hS hA [6, 7] rfl
  refine va_callq (va_runV (As := [.int kq]) (rest := []) ⟨hx, hb, hml, hown, hts⟩ (k_X8_sheetAt_y l D H.size h0 s1 s2 s3 s4 s5 s6 ds sp none f kq t0 cO (by first | assumption | omega | decide) (by first | assumption | omega | decide)) (cwV 1 hts (gV bw_267 bw_346 bw_347 bw_223 bw_345) rfl rfl rfl (by decide +kernel) ⟨(by rw [hR]; exact Nat.le_of_ble_eq_true rfl), (by rw [hR]; exact Nat.le_of_ble_eq_true rfl)⟩) ⟨cP_blind, va_recv hKc hPc (ci := 8) (q0 := 0) rfl rfl, cP_at hPc hKc hDc hN⟩ rfl rfl hl.1 rfl (lv_room (Nat.le_of_ble_eq_true rfl)) dX8_carry_9 ⟨(by rw [hR]; exact Nat.le_of_ble_eq_true rfl), (by rw [hR]; exact Nat.le_of_ble_eq_true rfl)⟩) hS (fun q _ h => hFc q h) hFc (fun r_2 u9 t9 H1 locs ht hvm hr_2 hB hz1 hk1 hS => ?_)
  try dsimp only at hr_2
  obtain ⟨hP1, hK1, hD1⟩ := hB
  rw [ht] at hP1
  obtain ⟨hP, hD⟩ := va_join (wr := [(s2, .inr (1, [.ref bx, .int ik, .int wy, .int op])), (bx, .inr (0, [.int bx0, .int by0, .int bx1, .int by1])), (t0, .inr (5, [.ref d0, .int w, .int h])), (d0, .inl (cI, 4096, .inl g)), (fa, .inr (2, [.int ax, .int ay, .int aw, .int ah])), (fb, .inr (2, [.int ox, .int oy, .int ow, .int oh]))]) (w1 := [(h0, .inr (8, [.ref s1, .ref s2, .ref s3, .ref s4, .ref s5, .ref s6, .int ds, va_rf sp, .null])), (s1, .inl (cO, 4, .inr (.inr (.inr (.inr f)))))]) hP hD [6, 7] [0, 1, 2, 3, 4, 5] rfl rfl (by decide) (by decide) hk1 hFc hP1 hD1
  clear hz1 hk1 hFc hKc hDc hPc
  generalize H1 = H at hP hS ⊢
  have hP : va_P D vwCl [(s2, .inr (1, [.ref bx, .int ik, .int wy, .int op])), (bx, .inr (0, [.int bx0, .int by0, .int bx1, .int by1])), (t0, .inr (5, [.ref d0, .int w, .int h])), (d0, .inl (cI, 4096, .inl g)), (fa, .inr (2, [.int ax, .int ay, .int aw, .int ah])), (fb, .inr (2, [.int ox, .int oy, .int ow, .int oh])), (h0, .inr (8, [.ref s1, .ref s2, .ref s3, .ref s4, .ref s5, .ref s6, .int ds, va_rf sp, .null])), (s1, .inl (cO, 4, .inr (.inr (.inr (.inr f)))))] H := hP
  have hD : va_D A [(s2, .inr (1, [.ref bx, .int ik, .int wy, .int op])), (bx, .inr (0, [.int bx0, .int by0, .int bx1, .int by1])), (t0, .inr (5, [.ref d0, .int w, .int h])), (d0, .inl (cI, 4096, .inl g)), (fa, .inr (2, [.int ax, .int ay, .int aw, .int ah])), (fb, .inr (2, [.int ox, .int oy, .int ow, .int oh])), (h0, .inr (8, [.ref s1, .ref s2, .ref s3, .ref s4, .ref s5, .ref s6, .int ds, va_rf sp, .null])), (s1, .inl (cO, 4, .inr (.inr (.inr (.inr f)))))] := hD
  subst hr_2
  refine my_topv (v := .ref t0) rfl ?_
  refine lv_astore (lv' := [(6, .ref t0), (5, .ref t0), (0, .ref h0), (1, .int k), (2, .ref fa), (3, .int kq), (4, .ref fb)]) hx hb dX8_carry_12 hl (by decide) rfl (fun ls hl => ?_)
  refine lv_aload hx hb dX8_carry_14 (lv_at hl 1 rfl) ?_
  refine lv_ifnull hx hb dX8_carry_16 ?_
  refine lv_aload hx hb dX8_carry_19 (lv_at hl 0 rfl) ?_
  refine lv_ifnull hx hb dX8_carry_21 ?_
  refine lv_aload_n hx hb dX8_carry_24 rfl (lv_at hl 4 rfl) ?_
  have hPc := hP.sub (ws' := [(fa, .inr (2, [.int ax, .int ay, .int aw, .int ah]))]) [4] rfl
  have hDc := hD.sub (ws' := [(fa, .inr (2, [.int ax, .int ay, .int aw, .int ah]))]) [4] (by decide) rfl
  have hKc := hK.sub (tys' := []) [] rfl
  have hFc := va_free (wc := [(fa, .inr (2, [.int ax, .int ay, .int aw, .int ah]))]) hD hS hA [4] rfl
  refine va_calli (va_runV (As := []) (rest := []) ⟨hx, hb, hml, hown, hts⟩ (k_X2_isNearby l D H.size fa ax ay aw ah) (cwV 0 hts (gV bw_385 bw_65 bw_66 bw_55 bw_64) rfl rfl rfl (by decide +kernel) ⟨(by rw [hR]; exact Nat.le_of_ble_eq_true rfl), (by rw [hR]; exact Nat.le_of_ble_eq_true rfl)⟩) ⟨cP_blind, va_recv hKc hPc (ci := 2) (q0 := 0) rfl rfl, cP_at hPc hKc hDc hN⟩ rfl rfl hl.1 rfl (lv_room (Nat.le_of_ble_eq_true rfl)) dX8_carry_25 ⟨(by rw [hR]; exact Nat.le_of_ble_eq_true rfl), (by rw [hR]; exact Nat.le_of_ble_eq_true rfl)⟩) hS (fun q _ h => hFc q h) hFc (fun r_3 u9 t9 H1 locs ht hvm hr_3 hB hz1 hk1 hS => ?_)
  try dsimp only at hr_3
  obtain ⟨hP1, hK1, hD1⟩ := hB
  rw [ht] at hP1
  obtain ⟨hP, hD⟩ := va_join (wr := [(s2, .inr (1, [.ref bx, .int ik, .int wy, .int op])), (bx, .inr (0, [.int bx0, .int by0, .int bx1, .int by1])), (t0, .inr (5, [.ref d0, .int w, .int h])), (d0, .inl (cI, 4096, .inl g)), (fb, .inr (2, [.int ox, .int oy, .int ow, .int oh])), (h0, .inr (8, [.ref s1, .ref s2, .ref s3, .ref s4, .ref s5, .ref s6, .int ds, va_rf sp, .null])), (s1, .inl (cO, 4, .inr (.inr (.inr (.inr f)))))]) (w1 := [(fa, .inr (2, [.int ax, .int ay, .int aw, .int ah]))]) hP hD [4] [0, 1, 2, 3, 5, 6, 7] rfl rfl (by decide) (by decide) hk1 hFc hP1 hD1
  clear hz1 hk1 hFc hKc hDc hPc
  generalize H1 = H at hP hS ⊢
  have hP : va_P D vwCl [(s2, .inr (1, [.ref bx, .int ik, .int wy, .int op])), (bx, .inr (0, [.int bx0, .int by0, .int bx1, .int by1])), (t0, .inr (5, [.ref d0, .int w, .int h])), (d0, .inl (cI, 4096, .inl g)), (fb, .inr (2, [.int ox, .int oy, .int ow, .int oh])), (h0, .inr (8, [.ref s1, .ref s2, .ref s3, .ref s4, .ref s5, .ref s6, .int ds, va_rf sp, .null])), (s1, .inl (cO, 4, .inr (.inr (.inr (.inr f))))), (fa, .inr (2, [.int ax, .int ay, .int aw, .int ah]))] H := hP
  have hD : va_D A [(s2, .inr (1, [.ref bx, .int ik, .int wy, .int op])), (bx, .inr (0, [.int bx0, .int by0, .int bx1, .int by1])), (t0, .inr (5, [.ref d0, .int w, .int h])), (d0, .inl (cI, 4096, .inl g)), (fb, .inr (2, [.int ox, .int oy, .int ow, .int oh])), (h0, .inr (8, [.ref s1, .ref s2, .ref s3, .ref s4, .ref s5, .ref s6, .int ds, va_rf sp, .null])), (s1, .inl (cO, 4, .inr (.inr (.inr (.inr f))))), (fa, .inr (2, [.int ax, .int ay, .int aw, .int ah]))] := hD
  refine lv_if_eq (tgt := 39) hx hb dX8_carry_28 (by decide) (fun c_4 => ?_) (fun c_4 => ?_)
  · skip
    have f_5 := bz0 hr_3 c_4
    exact False.elim (by omega)
  · skip
    have f_5 := bz1 hr_3 c_4
    refine lv_aload hx hb dX8_carry_31 (lv_at hl 6 rfl) ?_
    have hPc := hP.sub (ws' := [(fb, .inr (2, [.int ox, .int oy, .int ow, .int oh]))]) [4] rfl
    have hDc := hD.sub (ws' := [(fb, .inr (2, [.int ox, .int oy, .int ow, .int oh]))]) [4] (by decide) rfl
    have hKc := hK.sub (tys' := []) [] rfl
    have hFc := va_free (wc := [(fb, .inr (2, [.int ox, .int oy, .int ow, .int oh]))]) hD hS hA [4] rfl
    refine va_calli (va_runV (As := []) (rest := []) ⟨hx, hb, hml, hown, hts⟩ (k_X2_isNearby l D H.size fb ox oy ow oh) (cwV 0 hts (gV bw_385 bw_65 bw_66 bw_55 bw_64) rfl rfl rfl (by decide +kernel) ⟨(by rw [hR]; exact Nat.le_of_ble_eq_true rfl), (by rw [hR]; exact Nat.le_of_ble_eq_true rfl)⟩) ⟨cP_blind, va_recv hKc hPc (ci := 2) (q0 := 0) rfl rfl, cP_at hPc hKc hDc hN⟩ rfl rfl hl.1 rfl (lv_room (Nat.le_of_ble_eq_true rfl)) dX8_carry_33 ⟨(by rw [hR]; exact Nat.le_of_ble_eq_true rfl), (by rw [hR]; exact Nat.le_of_ble_eq_true rfl)⟩) hS (fun q _ h => hFc q h) hFc (fun r_6 u9 t9 H1 locs ht hvm hr_6 hB hz1 hk1 hS => ?_)
    try dsimp only at hr_6
    obtain ⟨hP1, hK1, hD1⟩ := hB
    rw [ht] at hP1
    obtain ⟨hP, hD⟩ := va_join (wr := [(s2, .inr (1, [.ref bx, .int ik, .int wy, .int op])), (bx, .inr (0, [.int bx0, .int by0, .int bx1, .int by1])), (t0, .inr (5, [.ref d0, .int w, .int h])), (d0, .inl (cI, 4096, .inl g)), (h0, .inr (8, [.ref s1, .ref s2, .ref s3, .ref s4, .ref s5, .ref s6, .int ds, va_rf sp, .null])), (s1, .inl (cO, 4, .inr (.inr (.inr (.inr f))))), (fa, .inr (2, [.int ax, .int ay, .int aw, .int ah]))]) (w1 := [(fb, .inr (2, [.int ox, .int oy, .int ow, .int oh]))]) hP hD [4] [0, 1, 2, 3, 5, 6, 7] rfl rfl (by decide) (by decide) hk1 hFc hP1 hD1
    clear hz1 hk1 hFc hKc hDc hPc
    generalize H1 = H at hP hS ⊢
    have hP : va_P D vwCl [(s2, .inr (1, [.ref bx, .int ik, .int wy, .int op])), (bx, .inr (0, [.int bx0, .int by0, .int bx1, .int by1])), (t0, .inr (5, [.ref d0, .int w, .int h])), (d0, .inl (cI, 4096, .inl g)), (h0, .inr (8, [.ref s1, .ref s2, .ref s3, .ref s4, .ref s5, .ref s6, .int ds, va_rf sp, .null])), (s1, .inl (cO, 4, .inr (.inr (.inr (.inr f))))), (fa, .inr (2, [.int ax, .int ay, .int aw, .int ah])), (fb, .inr (2, [.int ox, .int oy, .int ow, .int oh]))] H := hP
    have hD : va_D A [(s2, .inr (1, [.ref bx, .int ik, .int wy, .int op])), (bx, .inr (0, [.int bx0, .int by0, .int bx1, .int by1])), (t0, .inr (5, [.ref d0, .int w, .int h])), (d0, .inl (cI, 4096, .inl g)), (h0, .inr (8, [.ref s1, .ref s2, .ref s3, .ref s4, .ref s5, .ref s6, .int ds, va_rf sp, .null])), (s1, .inl (cO, 4, .inr (.inr (.inr (.inr f))))), (fa, .inr (2, [.int ax, .int ay, .int aw, .int ah])), (fb, .inr (2, [.int ox, .int oy, .int ow, .int oh]))] := hD
    refine lv_if_ne (tgt := 41) hx hb dX8_carry_36 (by decide) (fun c_7 => ?_) (fun c_7 => ?_)
    · skip
      have f_8 := bz1 hr_6 c_7
      refine lv_iload_n hx hb dX8_carry_41 rfl (lv_at hl 3 rfl) ?_
      refine lv_iload_n hx hb dX8_carry_42 rfl (lv_at hl 5 rfl) ?_
      refine lv_icmp_ne (tgt := 54) hx hb dX8_carry_43 (by decide) (fun c_9 => ?_) (fun c_9 => ?_)
      · skip
        have f_10 : ¬ (k.toInt = kq.toInt) := fn_eq rfl rfl c_9
        exact False.elim (by omega)
      · skip
        have f_10 : k.toInt = kq.toInt := f_eq rfl rfl c_9
        refine lv_aload_n hx hb dX8_carry_46 rfl (lv_at hl 2 rfl) ?_
        refine lv_aload hx hb dX8_carry_47 (lv_at hl 1 rfl) ?_
        have hPc := hP.sub (ws' := [(h0, .inr (8, [.ref s1, .ref s2, .ref s3, .ref s4, .ref s5, .ref s6, .int ds, va_rf sp, .null])), (t0, .inr (5, [.ref d0, .int w, .int h])), (d0, .inl (cI, 4096, .inl g))]) [4, 2, 3] rfl
        have hDc := hD.sub (ws' := [(h0, .inr (8, [.ref s1, .ref s2, .ref s3, .ref s4, .ref s5, .ref s6, .int ds, va_rf sp, .null])), (t0, .inr (5, [.ref d0, .int w, .int h])), (d0, .inl (cI, 4096, .inl g))]) [4, 2, 3] (by decide) rfl
        have hKc := hK.sub (tys' := [(cI, .int)]) [1] rfl
        have hFc := va_free (wc := [(h0, .inr (8, [.ref s1, .ref s2, .ref s3, .ref s4, .ref s5, .ref s6, .int ds, va_rf sp, .null])), (t0, .inr (5, [.ref d0, .int w, .int h])), (d0, .inl (cI, 4096, .inl g))]) hD hS hA [4, 2, 3] rfl
        refine va_callq (va_runV (As := [.ref t0]) (rest := []) ⟨hx, hb, hml, hown, hts⟩ (k_X8_likenessOf_0 l D H.size h0 s1 s2 s3 s4 s5 s6 ds sp t0 d0 w h g cI) (cwV 1 hts (gV bw_386 bw_388 bw_389 bw_223 bw_387) rfl rfl rfl (by decide +kernel) ⟨(by rw [hR]; exact Nat.le_of_ble_eq_true rfl), (by rw [hR]; exact Nat.le_of_ble_eq_true rfl)⟩) ⟨cP_blind, va_recv hKc hPc (ci := 8) (q0 := 0) rfl rfl, cP_at hPc hKc hDc hN⟩ rfl rfl hl.1 rfl (lv_room (Nat.le_of_ble_eq_true rfl)) dX8_carry_49 ⟨(by rw [hR]; exact Nat.le_of_ble_eq_true rfl), (by rw [hR]; exact Nat.le_of_ble_eq_true rfl)⟩) hS (fun q _ h => hFc q h) hFc (fun r_11 q_12 t9 H1 locs ht hvm hr_11 hB hz1 hk1 hS => ?_)
        try dsimp only at hr_11
        obtain ⟨q_13, g_14, b_15, hP1, hK1, hD1⟩ := hB
        rw [ht] at hP1
        obtain ⟨hP, hD⟩ := va_join (wr := [(s2, .inr (1, [.ref bx, .int ik, .int wy, .int op])), (bx, .inr (0, [.int bx0, .int by0, .int bx1, .int by1])), (s1, .inl (cO, 4, .inr (.inr (.inr (.inr f))))), (fa, .inr (2, [.int ax, .int ay, .int aw, .int ah])), (fb, .inr (2, [.int ox, .int oy, .int ow, .int oh]))]) (w1 := [(h0, .inr (8, [.ref s1, .ref s2, .ref s3, .ref s4, .ref s5, .ref s6, .int ds, va_rf sp, .ref q_12])), (q_12, .inr (5, [.ref q_13, .int w, .int h])), (q_13, .inl (cI, 4096, .inl g_14)), (t0, .inr (5, [.ref d0, .int w, .int h])), (d0, .inl (cI, 4096, .inl g))]) hP hD [4, 2, 3] [0, 1, 5, 6, 7] rfl rfl (by decide) (by decide) hk1 hFc hP1 hD1
        clear hz1 hk1 hFc hKc hDc hPc
        generalize H1 = H at hP hS ⊢
        have hP : va_P D vwCl [(s2, .inr (1, [.ref bx, .int ik, .int wy, .int op])), (bx, .inr (0, [.int bx0, .int by0, .int bx1, .int by1])), (s1, .inl (cO, 4, .inr (.inr (.inr (.inr f))))), (fa, .inr (2, [.int ax, .int ay, .int aw, .int ah])), (fb, .inr (2, [.int ox, .int oy, .int ow, .int oh])), (h0, .inr (8, [.ref s1, .ref s2, .ref s3, .ref s4, .ref s5, .ref s6, .int ds, va_rf sp, .ref q_12])), (q_12, .inr (5, [.ref q_13, .int w, .int h])), (q_13, .inl (cI, 4096, .inl g_14)), (t0, .inr (5, [.ref d0, .int w, .int h])), (d0, .inl (cI, 4096, .inl g))] H := hP
        have hD : va_D A [(s2, .inr (1, [.ref bx, .int ik, .int wy, .int op])), (bx, .inr (0, [.int bx0, .int by0, .int bx1, .int by1])), (s1, .inl (cO, 4, .inr (.inr (.inr (.inr f))))), (fa, .inr (2, [.int ax, .int ay, .int aw, .int ah])), (fb, .inr (2, [.int ox, .int oy, .int ow, .int oh])), (h0, .inr (8, [.ref s1, .ref s2, .ref s3, .ref s4, .ref s5, .ref s6, .int ds, va_rf sp, .ref q_12])), (q_12, .inr (5, [.ref q_13, .int w, .int h])), (q_13, .inl (cI, 4096, .inl g_14)), (t0, .inr (5, [.ref d0, .int w, .int h])), (d0, .inl (cI, 4096, .inl g))] := hD
        refine W.widen (k := 2) (n := 4099) (by omega) (by omega) ?_
        subst hr_11
        refine my_topv (v := .ref q_12) rfl ?_
        refine lv_astore (lv' := [(5, .ref q_12), (6, .ref t0), (0, .ref h0), (1, .int k), (2, .ref fa), (3, .int kq), (4, .ref fb)]) hx hb dX8_carry_52 hl (by decide) rfl (fun ls hl => ?_)
        refine lv_iconst (v := 0) hx hb dX8_carry_54 (by decide) ?_
        refine lv_istore (lv' := [(7, .int 0), (5, .ref q_12), (6, .ref t0), (0, .ref h0), (1, .int k), (2, .ref fa), (3, .int kq), (4, .ref fb)]) hx hb dX8_carry_55 hl (by decide) rfl (fun ls hl => ?_)
        refine lv_iconst (v := 0) hx hb dX8_carry_57 (by decide) ?_
        refine lv_istore (lv' := [(8, .int 0), (7, .int 0), (5, .ref q_12), (6, .ref t0), (0, .ref h0), (1, .int k), (2, .ref fa), (3, .int kq), (4, .ref fb)]) hx hb dX8_carry_58 hl (by decide) rfl (fun ls hl => ?_)
        have loop_16 : ∀ (n : Nat) (j : Nat) (x8 : Int32) (x7 : Int32) (ga : Nat → Int32) (H : Heap) (locs : List Loc) (ls : Array Slot), (j ≤ 64) → (64 + 1 ≤ j + n) → (x8 = nI j) → va_P D vwCl [(s2, .inr (1, [.ref bx, .int ik, .int wy, .int op])), (bx, .inr (0, [.int bx0, .int by0, .int bx1, .int by1])), (s1, .inl (cO, 4, .inr (.inr (.inr (.inr f))))), (fa, .inr (2, [.int ax, .int ay, .int aw, .int ah])), (fb, .inr (2, [.int ox, .int oy, .int ow, .int oh])), (h0, .inr (8, [.ref s1, .ref s2, .ref s3, .ref s4, .ref s5, .ref s6, .int ds, va_rf sp, .ref q_12])), (q_12, .inr (5, [.ref q_13, .int w, .int h])), (q_13, .inl (cI, 4096, .inl g_14)), (t0, .inr (5, [.ref d0, .int w, .int h])), (d0, .inl (cI, 4096, .inl ga))] H → va_D A [(s2, .inr (1, [.ref bx, .int ik, .int wy, .int op])), (bx, .inr (0, [.int bx0, .int by0, .int bx1, .int by1])), (s1, .inl (cO, 4, .inr (.inr (.inr (.inr f))))), (fa, .inr (2, [.int ax, .int ay, .int aw, .int ah])), (fb, .inr (2, [.int ox, .int oy, .int ow, .int oh])), (h0, .inr (8, [.ref s1, .ref s2, .ref s3, .ref s4, .ref s5, .ref s6, .int ds, va_rf sp, .ref q_12])), (q_12, .inr (5, [.ref q_13, .int w, .int h])), (q_13, .inl (cI, 4096, .inl g_14)), (t0, .inr (5, [.ref d0, .int w, .int h])), (d0, .inl (cI, 4096, .inl ga))] → va_S A s.heap H locs → lv_has ls 12 [(8, .int x8), (7, .int x7), (5, .ref q_12), (6, .ref t0), (0, .ref h0), (1, .int k), (2, .ref fa), (3, .int kq), (4, .ref fb)] → W p l e R s m ([.ref h0, .int k, .ref fa, .int kq, .ref fb] : List Value).toArray below meth c H locs 2 4099 Q (F0 m 60 ls []) := by
          intro n
          induction n with
          | zero =>
            intro j x8 x7 ga H locs ls hi_j hm_j ex_j hP hD hS hl
            exact absurd (show False by omega) not_false
          | succ n ih_17 =>
            intro j x8 x7 ga H locs ls hi_j hm_j ex_j hP hD hS hl
            have hx_j : x8.toInt = (j : Int) := by rw [ex_j]; exact nI_toInt (by omega)
            have hc_j : x8.toNatClampNeg = j := by rw [ex_j]; exact nI_clamp (by omega)
            refine lv_iload hx hb dX8_carry_60 (lv_at hl 0 rfl) ?_
            refine lv_aload hx hb dX8_carry_62 (lv_at hl 8 rfl) ?_
            refine va_getN (host := RX8) (D := D) (ci := 2) (v := .int oh) (C := RX2) (T := TX2) (N := 4) hx hb hts hi_X2 hown hK hP 4 rfl rfl 3 (by decide) ((hN.1 (RX8, 238, "DotBench$Frame", "h", "I", RX8) (by decide +kernel)).use rfl) (fun _ h9 => h9) rfl dX8_carry_64 ?_
            refine lv_icmp_ge (tgt := 193) hx hb dX8_carry_67 (by decide) (fun c_18 => ?_) (fun c_18 => ?_)
            · skip
              have f_19 : oh.toInt ≤ (j : Int) := f_le rfl hx_j c_18
              refine lv_iload hx hb dX8_carry_193 (lv_at hl 1 rfl) ?_
              have hP9 := hP.sub (ws' := [(h0, .inr (8, [.ref s1, .ref s2, .ref s3, .ref s4, .ref s5, .ref s6, .int ds, va_rf sp, .ref q_12])), (s1, .inl (cO, 4, .inr (.inr (.inr (.inr f))))), (s2, .inr (1, [.ref bx, .int ik, .int wy, .int op])), (bx, .inr (0, [.int bx0, .int by0, .int bx1, .int by1])), (t0, .inr (5, [.ref d0, .int w, .int h])), (d0, .inl (cI, 4096, .inl ga)), (q_12, .inr (5, [.ref q_13, .int w, .int h])), (q_13, .inl (cI, 4096, .inl g_14))]) [5, 2, 0, 1, 8, 9, 6, 7] rfl
              have hD9 := hD.sub (ws' := [(h0, .inr (8, [.ref s1, .ref s2, .ref s3, .ref s4, .ref s5, .ref s6, .int ds, va_rf sp, .ref q_12])), (s1, .inl (cO, 4, .inr (.inr (.inr (.inr f))))), (s2, .inr (1, [.ref bx, .int ik, .int wy, .int op])), (bx, .inr (0, [.int bx0, .int by0, .int bx1, .int by1])), (t0, .inr (5, [.ref d0, .int w, .int h])), (d0, .inl (cI, 4096, .inl ga)), (q_12, .inr (5, [.ref q_13, .int w, .int h])), (q_13, .inl (cI, 4096, .inl g_14))]) [5, 2, 0, 1, 8, 9, 6, 7] (by decide) rfl
              have hK9 := hK.sub (tys' := [(cO, .object "DotBench$Sheet"), (cI, .int)]) [0, 1] rfl
              refine hQ _ _ _ _ _ ?_
              exact W.iret (v := x7) hx hb hr (fun t ht hW => ⟨⟨x7, (), rfl, trivial, ⟨q_12, q_13, ga, g_14, by rw [ht]; exact hP9, va_K.moved hW.alike hK9, hD9⟩⟩, hS.F ht⟩) hS.2.2 dX8_carry_195
            · skip
              have f_19 : ¬ (oh.toInt ≤ (j : Int)) := fn_le rfl hx_j c_18
              refine lv_aload_n hx hb dX8_carry_70 rfl (lv_at hl 6 rfl) ?_
              refine va_getN (host := RX8) (D := D) (ci := 2) (v := .int ay) (C := RX2) (T := TX2) (N := 4) hx hb hts hi_X2 hown hK hP 3 rfl rfl 1 (by decide) ((hN.1 (RX8, 241, "DotBench$Frame", "y", "I", RX8) (by decide +kernel)).use rfl) (fun _ h9 => h9) rfl dX8_carry_71 ?_
              refine lv_iload hx hb dX8_carry_74 (lv_at hl 0 rfl) ?_
              refine lv_aload_n hx hb dX8_carry_76 rfl (lv_at hl 6 rfl) ?_
              refine va_getN (host := RX8) (D := D) (ci := 2) (v := .int ah) (C := RX2) (T := TX2) (N := 4) hx hb hts hi_X2 hown hK hP 3 rfl rfl 3 (by decide) ((hN.1 (RX8, 238, "DotBench$Frame", "h", "I", RX8) (by decide +kernel)).use rfl) (fun _ h9 => h9) rfl dX8_carry_77 ?_
              refine lv_imul hx hb dX8_carry_80 ?_
              refine lv_topi (fun y_20 ey_20 => ?_)
              refine lv_aload hx hb dX8_carry_81 (lv_at hl 8 rfl) ?_
              refine va_getN (host := RX8) (D := D) (ci := 2) (v := .int oh) (C := RX2) (T := TX2) (N := 4) hx hb hts hi_X2 hown hK hP 4 rfl rfl 3 (by decide) ((hN.1 (RX8, 238, "DotBench$Frame", "h", "I", RX8) (by decide +kernel)).use rfl) (fun _ h9 => h9) rfl dX8_carry_83 ?_
              refine lv_idiv hx hb dX8_carry_86 (ne0_of (by omega)) ?_
              refine lv_topi (fun y_21 ey_21 => ?_)
              refine lv_iadd hx hb dX8_carry_87 ?_
              refine lv_topi (fun y_22 ey_22 => ?_)
              refine lv_istore (lv' := [(9, .int y_22), (8, .int x8), (7, .int x7), (5, .ref q_12), (6, .ref t0), (0, .ref h0), (1, .int k), (2, .ref fa), (3, .int kq), (4, .ref fb)]) hx hb dX8_carry_88 hl (by decide) rfl (fun ls hl => ?_)
              refine lv_iconst (v := 0) hx hb dX8_carry_90 (by decide) ?_
              refine lv_istore (lv' := [(10, .int 0), (9, .int y_22), (8, .int x8), (7, .int x7), (5, .ref q_12), (6, .ref t0), (0, .ref h0), (1, .int k), (2, .ref fa), (3, .int kq), (4, .ref fb)]) hx hb dX8_carry_91 hl (by decide) rfl (fun ls hl => ?_)
              have loop_23 : ∀ (n : Nat) (i : Nat) (x10 : Int32) (z7 : Int32) (gz : Nat → Int32) (H : Heap) (locs : List Loc) (ls : Array Slot), (i ≤ 64) → (64 + 1 ≤ i + n) → (x10 = nI i) → va_P D vwCl [(s2, .inr (1, [.ref bx, .int ik, .int wy, .int op])), (bx, .inr (0, [.int bx0, .int by0, .int bx1, .int by1])), (s1, .inl (cO, 4, .inr (.inr (.inr (.inr f))))), (fa, .inr (2, [.int ax, .int ay, .int aw, .int ah])), (fb, .inr (2, [.int ox, .int oy, .int ow, .int oh])), (h0, .inr (8, [.ref s1, .ref s2, .ref s3, .ref s4, .ref s5, .ref s6, .int ds, va_rf sp, .ref q_12])), (q_12, .inr (5, [.ref q_13, .int w, .int h])), (q_13, .inl (cI, 4096, .inl g_14)), (t0, .inr (5, [.ref d0, .int w, .int h])), (d0, .inl (cI, 4096, .inl gz))] H → va_D A [(s2, .inr (1, [.ref bx, .int ik, .int wy, .int op])), (bx, .inr (0, [.int bx0, .int by0, .int bx1, .int by1])), (s1, .inl (cO, 4, .inr (.inr (.inr (.inr f))))), (fa, .inr (2, [.int ax, .int ay, .int aw, .int ah])), (fb, .inr (2, [.int ox, .int oy, .int ow, .int oh])), (h0, .inr (8, [.ref s1, .ref s2, .ref s3, .ref s4, .ref s5, .ref s6, .int ds, va_rf sp, .ref q_12])), (q_12, .inr (5, [.ref q_13, .int w, .int h])), (q_13, .inl (cI, 4096, .inl g_14)), (t0, .inr (5, [.ref d0, .int w, .int h])), (d0, .inl (cI, 4096, .inl gz))] → va_S A s.heap H locs → lv_has ls 12 [(10, .int x10), (9, .int y_22), (8, .int x8), (7, .int z7), (5, .ref q_12), (6, .ref t0), (0, .ref h0), (1, .int k), (2, .ref fa), (3, .int kq), (4, .ref fb)] → W p l e R s m ([.ref h0, .int k, .ref fa, .int kq, .ref fb] : List Value).toArray below meth c H locs 2 4099 Q (F0 m 93 ls []) := by
                intro n
                induction n with
                | zero =>
                  intro i x10 z7 gz H locs ls hi_i hm_i ex_i hP hD hS hl
                  exact absurd (show False by omega) not_false
                | succ n ih_24 =>
                  intro i x10 z7 gz H locs ls hi_i hm_i ex_i hP hD hS hl
                  have hx_i : x10.toInt = (i : Int) := by rw [ex_i]; exact nI_toInt (by omega)
                  have hc_i : x10.toNatClampNeg = i := by rw [ex_i]; exact nI_clamp (by omega)
                  refine lv_iload hx hb dX8_carry_93 (lv_at hl 0 rfl) ?_
                  refine lv_aload hx hb dX8_carry_95 (lv_at hl 10 rfl) ?_
                  refine va_getN (host := RX8) (D := D) (ci := 2) (v := .int ow) (C := RX2) (T := TX2) (N := 4) hx hb hts hi_X2 hown hK hP 4 rfl rfl 2 (by decide) ((hN.1 (RX8, 244, "DotBench$Frame", "w", "I", RX8) (by decide +kernel)).use rfl) (fun _ h9 => h9) rfl dX8_carry_97 ?_
                  refine lv_icmp_ge (tgt := 187) hx hb dX8_carry_100 (by decide) (fun c_25 => ?_) (fun c_25 => ?_)
                  · skip
                    have f_26 : ow.toInt ≤ (i : Int) := f_le rfl hx_i c_25
                    obtain ⟨y_27, ey_27⟩ : ∃ y : Int32, y = x8 + 1 := ⟨_, rfl⟩
                    refine lv_iinc (v := y_27) (lv' := [(8, .int y_27), (10, .int x10), (9, .int y_22), (7, .int z7), (5, .ref q_12), (6, .ref t0), (0, .ref h0), (1, .int k), (2, .ref fa), (3, .int kq), (4, .ref fb)]) hx hb dX8_carry_187 hl (k := 2) rfl (by rw [ey_27]; rfl) (by decide) rfl (fun ls hl => ?_)
                    refine lv_goto (tgt := 60) hx hb dX8_carry_190 (by decide) ?_
                    exact ih_17 (j + 1) y_27 z7 gz _ _ _ (by omega) (by omega) (by rw [ey_27, ex_j]; exact nI_1 j) (hP.sub (ws' := [(s2, .inr (1, [.ref bx, .int ik, .int wy, .int op])), (bx, .inr (0, [.int bx0, .int by0, .int bx1, .int by1])), (s1, .inl (cO, 4, .inr (.inr (.inr (.inr f))))), (fa, .inr (2, [.int ax, .int ay, .int aw, .int ah])), (fb, .inr (2, [.int ox, .int oy, .int ow, .int oh])), (h0, .inr (8, [.ref s1, .ref s2, .ref s3, .ref s4, .ref s5, .ref s6, .int ds, va_rf sp, .ref q_12])), (q_12, .inr (5, [.ref q_13, .int w, .int h])), (q_13, .inl (cI, 4096, .inl g_14)), (t0, .inr (5, [.ref d0, .int w, .int h])), (d0, .inl (cI, 4096, .inl gz))]) [0, 1, 2, 3, 4, 5, 6, 7, 8, 9] rfl) (hD.sub (ws' := [(s2, .inr (1, [.ref bx, .int ik, .int wy, .int op])), (bx, .inr (0, [.int bx0, .int by0, .int bx1, .int by1])), (s1, .inl (cO, 4, .inr (.inr (.inr (.inr f))))), (fa, .inr (2, [.int ax, .int ay, .int aw, .int ah])), (fb, .inr (2, [.int ox, .int oy, .int ow, .int oh])), (h0, .inr (8, [.ref s1, .ref s2, .ref s3, .ref s4, .ref s5, .ref s6, .int ds, va_rf sp, .ref q_12])), (q_12, .inr (5, [.ref q_13, .int w, .int h])), (q_13, .inl (cI, 4096, .inl g_14)), (t0, .inr (5, [.ref d0, .int w, .int h])), (d0, .inl (cI, 4096, .inl gz))]) [0, 1, 2, 3, 4, 5, 6, 7, 8, 9] (by decide) rfl) hS (lv_sub hl [0, 3, 4, 5, 6, 7, 8, 9, 10] rfl)
                  · skip
                    have f_26 : ¬ (ow.toInt ≤ (i : Int)) := fn_le rfl hx_i c_25
                    refine lv_aload_n hx hb dX8_carry_103 rfl (lv_at hl 8 rfl) ?_
                    refine va_getN (host := RX8) (D := D) (ci := 2) (v := .int ax) (C := RX2) (T := TX2) (N := 4) hx hb hts hi_X2 hown hK hP 3 rfl rfl 0 (by decide) ((hN.1 (RX8, 247, "DotBench$Frame", "x", "I", RX8) (by decide +kernel)).use rfl) (fun _ h9 => h9) rfl dX8_carry_104 ?_
                    refine lv_iload hx hb dX8_carry_107 (lv_at hl 0 rfl) ?_
                    refine lv_aload_n hx hb dX8_carry_109 rfl (lv_at hl 8 rfl) ?_
                    refine va_getN (host := RX8) (D := D) (ci := 2) (v := .int aw) (C := RX2) (T := TX2) (N := 4) hx hb hts hi_X2 hown hK hP 3 rfl rfl 2 (by decide) ((hN.1 (RX8, 244, "DotBench$Frame", "w", "I", RX8) (by decide +kernel)).use rfl) (fun _ h9 => h9) rfl dX8_carry_110 ?_
                    refine lv_imul hx hb dX8_carry_113 ?_
                    refine lv_topi (fun y_28 ey_28 => ?_)
                    refine lv_aload hx hb dX8_carry_114 (lv_at hl 10 rfl) ?_
                    refine va_getN (host := RX8) (D := D) (ci := 2) (v := .int ow) (C := RX2) (T := TX2) (N := 4) hx hb hts hi_X2 hown hK hP 4 rfl rfl 2 (by decide) ((hN.1 (RX8, 244, "DotBench$Frame", "w", "I", RX8) (by decide +kernel)).use rfl) (fun _ h9 => h9) rfl dX8_carry_116 ?_
                    refine lv_idiv hx hb dX8_carry_119 (ne0_of (by omega)) ?_
                    refine lv_topi (fun y_29 ey_29 => ?_)
                    refine lv_iadd hx hb dX8_carry_120 ?_
                    refine lv_topi (fun y_30 ey_30 => ?_)
                    refine lv_istore (lv' := [(11, .int y_30), (10, .int x10), (9, .int y_22), (8, .int x8), (7, .int z7), (5, .ref q_12), (6, .ref t0), (0, .ref h0), (1, .int k), (2, .ref fa), (3, .int kq), (4, .ref fb)]) hx hb dX8_carry_121 hl (by decide) rfl (fun ls hl => ?_)
                    refine lv_aload hx hb dX8_carry_123 (lv_at hl 5 rfl) ?_
                    refine lv_iload hx hb dX8_carry_125 (lv_at hl 0 rfl) ?_
                    refine lv_iload hx hb dX8_carry_127 (lv_at hl 2 rfl) ?_
                    have hPc := hP.sub (ws' := [(q_12, .inr (5, [.ref q_13, .int w, .int h]))]) [6] rfl
                    have hDc := hD.sub (ws' := [(q_12, .inr (5, [.ref q_13, .int w, .int h]))]) [6] (by decide) rfl
                    have hKc := hK.sub (tys' := []) [] rfl
                    have hFc := va_free (wc := [(q_12, .inr (5, [.ref q_13, .int w, .int h]))]) hD hS hA [6] rfl
                    refine va_calli (va_runV (As := [.int y_30, .int y_22]) (rest := []) ⟨hx, hb, hml, hown, hts⟩ (k_X5_has l D H.size q_12 q_13 w h y_30 y_22) (cwV 2 hts (gV bw_309 bw_150 bw_151 bw_130 bw_149) rfl rfl rfl (by decide +kernel) ⟨(by rw [hR]; exact Nat.le_of_ble_eq_true rfl), (by rw [hR]; exact Nat.le_of_ble_eq_true rfl)⟩) ⟨cP_blind, va_recv hKc hPc (ci := 5) (q0 := 0) rfl rfl, cP_at hPc hKc hDc hN⟩ rfl rfl hl.1 rfl (lv_room (Nat.le_of_ble_eq_true rfl)) dX8_carry_129 ⟨(by rw [hR]; exact Nat.le_of_ble_eq_true rfl), (by rw [hR]; exact Nat.le_of_ble_eq_true rfl)⟩) hS (fun q _ h => hFc q h) hFc (fun r_31 u9 t9 H1 locs ht hvm hr_31 hB hz1 hk1 hS => ?_)
                    try dsimp only at hr_31
                    obtain ⟨hP1, hK1, hD1⟩ := hB
                    rw [ht] at hP1
                    obtain ⟨hP, hD⟩ := va_join (wr := [(s2, .inr (1, [.ref bx, .int ik, .int wy, .int op])), (bx, .inr (0, [.int bx0, .int by0, .int bx1, .int by1])), (s1, .inl (cO, 4, .inr (.inr (.inr (.inr f))))), (fa, .inr (2, [.int ax, .int ay, .int aw, .int ah])), (fb, .inr (2, [.int ox, .int oy, .int ow, .int oh])), (h0, .inr (8, [.ref s1, .ref s2, .ref s3, .ref s4, .ref s5, .ref s6, .int ds, va_rf sp, .ref q_12])), (q_13, .inl (cI, 4096, .inl g_14)), (t0, .inr (5, [.ref d0, .int w, .int h])), (d0, .inl (cI, 4096, .inl gz))]) (w1 := [(q_12, .inr (5, [.ref q_13, .int w, .int h]))]) hP hD [6] [0, 1, 2, 3, 4, 5, 7, 8, 9] rfl rfl (by decide) (by decide) hk1 hFc hP1 hD1
                    clear hz1 hk1 hFc hKc hDc hPc
                    generalize H1 = H at hP hS ⊢
                    have hP : va_P D vwCl [(s2, .inr (1, [.ref bx, .int ik, .int wy, .int op])), (bx, .inr (0, [.int bx0, .int by0, .int bx1, .int by1])), (s1, .inl (cO, 4, .inr (.inr (.inr (.inr f))))), (fa, .inr (2, [.int ax, .int ay, .int aw, .int ah])), (fb, .inr (2, [.int ox, .int oy, .int ow, .int oh])), (h0, .inr (8, [.ref s1, .ref s2, .ref s3, .ref s4, .ref s5, .ref s6, .int ds, va_rf sp, .ref q_12])), (q_13, .inl (cI, 4096, .inl g_14)), (t0, .inr (5, [.ref d0, .int w, .int h])), (d0, .inl (cI, 4096, .inl gz)), (q_12, .inr (5, [.ref q_13, .int w, .int h]))] H := hP
                    have hD : va_D A [(s2, .inr (1, [.ref bx, .int ik, .int wy, .int op])), (bx, .inr (0, [.int bx0, .int by0, .int bx1, .int by1])), (s1, .inl (cO, 4, .inr (.inr (.inr (.inr f))))), (fa, .inr (2, [.int ax, .int ay, .int aw, .int ah])), (fb, .inr (2, [.int ox, .int oy, .int ow, .int oh])), (h0, .inr (8, [.ref s1, .ref s2, .ref s3, .ref s4, .ref s5, .ref s6, .int ds, va_rf sp, .ref q_12])), (q_13, .inl (cI, 4096, .inl g_14)), (t0, .inr (5, [.ref d0, .int w, .int h])), (d0, .inl (cI, 4096, .inl gz)), (q_12, .inr (5, [.ref q_13, .int w, .int h]))] := hD
                    refine lv_if_eq (tgt := 181) hx hb dX8_carry_132 (by decide) (fun c_32 => ?_) (fun c_32 => ?_)
                    · skip
                      have f_33 := bz0 hr_31 c_32
                      obtain ⟨y_34, ey_34⟩ : ∃ y : Int32, y = x10 + 1 := ⟨_, rfl⟩
                      refine lv_iinc (v := y_34) (lv' := [(10, .int y_34), (11, .int y_30), (9, .int y_22), (8, .int x8), (7, .int z7), (5, .ref q_12), (6, .ref t0), (0, .ref h0), (1, .int k), (2, .ref fa), (3, .int kq), (4, .ref fb)]) hx hb dX8_carry_181 hl (k := 1) rfl (by rw [ey_34]; rfl) (by decide) rfl (fun ls hl => ?_)
                      refine lv_goto (tgt := 93) hx hb dX8_carry_184 (by decide) ?_
                      exact ih_24 (i + 1) y_34 z7 gz _ _ _ (by omega) (by omega) (by rw [ey_34, ex_i]; exact nI_1 i) (hP.sub (ws' := [(s2, .inr (1, [.ref bx, .int ik, .int wy, .int op])), (bx, .inr (0, [.int bx0, .int by0, .int bx1, .int by1])), (s1, .inl (cO, 4, .inr (.inr (.inr (.inr f))))), (fa, .inr (2, [.int ax, .int ay, .int aw, .int ah])), (fb, .inr (2, [.int ox, .int oy, .int ow, .int oh])), (h0, .inr (8, [.ref s1, .ref s2, .ref s3, .ref s4, .ref s5, .ref s6, .int ds, va_rf sp, .ref q_12])), (q_12, .inr (5, [.ref q_13, .int w, .int h])), (q_13, .inl (cI, 4096, .inl g_14)), (t0, .inr (5, [.ref d0, .int w, .int h])), (d0, .inl (cI, 4096, .inl gz))]) [0, 1, 2, 3, 4, 5, 9, 6, 7, 8] rfl) (hD.sub (ws' := [(s2, .inr (1, [.ref bx, .int ik, .int wy, .int op])), (bx, .inr (0, [.int bx0, .int by0, .int bx1, .int by1])), (s1, .inl (cO, 4, .inr (.inr (.inr (.inr f))))), (fa, .inr (2, [.int ax, .int ay, .int aw, .int ah])), (fb, .inr (2, [.int ox, .int oy, .int ow, .int oh])), (h0, .inr (8, [.ref s1, .ref s2, .ref s3, .ref s4, .ref s5, .ref s6, .int ds, va_rf sp, .ref q_12])), (q_12, .inr (5, [.ref q_13, .int w, .int h])), (q_13, .inl (cI, 4096, .inl g_14)), (t0, .inr (5, [.ref d0, .int w, .int h])), (d0, .inl (cI, 4096, .inl gz))]) [0, 1, 2, 3, 4, 5, 9, 6, 7, 8] (by decide) rfl) hS (lv_sub hl [0, 2, 3, 4, 5, 6, 7, 8, 9, 10, 11] rfl)
                    · skip
                      have f_33 := bz1 hr_31 c_32
                      refine lv_iload hx hb dX8_carry_135 (lv_at hl 4 rfl) ?_
                      refine lv_aload_n hx hb dX8_carry_137 rfl (lv_at hl 7 rfl) ?_
                      refine va_get (D := D) (ci := 8) (v := .ref s2) (C := RX8) (T := TX8) (N := 9) hx hb hts hi_X8 hown hK hP 5 rfl rfl 1 (by decide) (hts _ bw_231) (fun _ h9 => h9) rfl dX8_carry_138 ?_
                      refine lv_aload hx hb dX8_carry_141 (lv_at hl 6 rfl) ?_
                      refine lv_aload hx hb dX8_carry_143 (lv_at hl 11 rfl) ?_
                      refine va_getN (host := RX8) (D := D) (ci := 2) (v := .int ox) (C := RX2) (T := TX2) (N := 4) hx hb hts hi_X2 hown hK hP 4 rfl rfl 0 (by decide) ((hN.1 (RX8, 247, "DotBench$Frame", "x", "I", RX8) (by decide +kernel)).use rfl) (fun _ h9 => h9) rfl dX8_carry_145 ?_
                      refine lv_iload hx hb dX8_carry_148 (lv_at hl 1 rfl) ?_
                      refine lv_iadd hx hb dX8_carry_150 ?_
                      refine lv_topi (fun y_35 ey_35 => ?_)
                      refine lv_aload hx hb dX8_carry_151 (lv_at hl 11 rfl) ?_
                      refine va_getN (host := RX8) (D := D) (ci := 2) (v := .int oy) (C := RX2) (T := TX2) (N := 4) hx hb hts hi_X2 hown hK hP 4 rfl rfl 1 (by decide) ((hN.1 (RX8, 241, "DotBench$Frame", "y", "I", RX8) (by decide +kernel)).use rfl) (fun _ h9 => h9) rfl dX8_carry_153 ?_
                      refine lv_iload hx hb dX8_carry_156 (lv_at hl 3 rfl) ?_
                      refine lv_iadd hx hb dX8_carry_158 ?_
                      refine lv_topi (fun y_36 ey_36 => ?_)
                      refine lv_aload hx hb dX8_carry_159 (lv_at hl 5 rfl) ?_
                      refine lv_iload hx hb dX8_carry_161 (lv_at hl 0 rfl) ?_
                      refine lv_iload hx hb dX8_carry_163 (lv_at hl 2 rfl) ?_
                      have hPc := hP.sub (ws' := [(q_12, .inr (5, [.ref q_13, .int w, .int h])), (q_13, .inl (cI, 4096, .inl g_14))]) [9, 6] rfl
                      have hDc := hD.sub (ws' := [(q_12, .inr (5, [.ref q_13, .int w, .int h])), (q_13, .inl (cI, 4096, .inl g_14))]) [9, 6] (by decide) rfl
                      have hKc := hK.sub (tys' := [(cI, .int)]) [1] rfl
                      have hFc := va_free (wc := [(q_12, .inr (5, [.ref q_13, .int w, .int h])), (q_13, .inl (cI, 4096, .inl g_14))]) hD hS hA [9, 6] rfl
                      refine va_calli (va_runV (As := [.int y_30, .int y_22]) (rest := [.int y_36, .int y_35, .ref t0, .ref s2, .int z7]) ⟨hx, hb, hml, hown, hts⟩ (k_X5_at l D H.size q_12 q_13 w h g_14 y_30 y_22 cI (by first | assumption | omega | decide) (by first | assumption | omega | decide)) (cwV 2 hts (gV bw_325 bw_153 bw_154 bw_130 bw_152) rfl rfl rfl (by decide +kernel) ⟨(by rw [hR]; exact Nat.le_of_ble_eq_true rfl), (by rw [hR]; exact Nat.le_of_ble_eq_true rfl)⟩) ⟨cP_blind, va_recv hKc hPc (ci := 5) (q0 := 0) rfl rfl, cP_at hPc hKc hDc hN⟩ rfl rfl hl.1 rfl (lv_room (Nat.le_of_ble_eq_true rfl)) dX8_carry_165 ⟨(by rw [hR]; exact Nat.le_of_ble_eq_true rfl), (by rw [hR]; exact Nat.le_of_ble_eq_true rfl)⟩) hS (fun q _ h => hFc q h) hFc (fun r_37 u9 t9 H1 locs ht hvm hr_37 hB hz1 hk1 hS => ?_)
                      try dsimp only at hr_37
                      obtain ⟨hP1, hK1, hD1⟩ := hB
                      rw [ht] at hP1
                      obtain ⟨hP, hD⟩ := va_join (wr := [(s2, .inr (1, [.ref bx, .int ik, .int wy, .int op])), (bx, .inr (0, [.int bx0, .int by0, .int bx1, .int by1])), (s1, .inl (cO, 4, .inr (.inr (.inr (.inr f))))), (fa, .inr (2, [.int ax, .int ay, .int aw, .int ah])), (fb, .inr (2, [.int ox, .int oy, .int ow, .int oh])), (h0, .inr (8, [.ref s1, .ref s2, .ref s3, .ref s4, .ref s5, .ref s6, .int ds, va_rf sp, .ref q_12])), (t0, .inr (5, [.ref d0, .int w, .int h])), (d0, .inl (cI, 4096, .inl gz))]) (w1 := [(q_12, .inr (5, [.ref q_13, .int w, .int h])), (q_13, .inl (cI, 4096, .inl g_14))]) hP hD [9, 6] [0, 1, 2, 3, 4, 5, 7, 8] rfl rfl (by decide) (by decide) hk1 hFc hP1 hD1
                      clear hz1 hk1 hFc hKc hDc hPc
                      generalize H1 = H at hP hS ⊢
                      have hP : va_P D vwCl [(s2, .inr (1, [.ref bx, .int ik, .int wy, .int op])), (bx, .inr (0, [.int bx0, .int by0, .int bx1, .int by1])), (s1, .inl (cO, 4, .inr (.inr (.inr (.inr f))))), (fa, .inr (2, [.int ax, .int ay, .int aw, .int ah])), (fb, .inr (2, [.int ox, .int oy, .int ow, .int oh])), (h0, .inr (8, [.ref s1, .ref s2, .ref s3, .ref s4, .ref s5, .ref s6, .int ds, va_rf sp, .ref q_12])), (t0, .inr (5, [.ref d0, .int w, .int h])), (d0, .inl (cI, 4096, .inl gz)), (q_12, .inr (5, [.ref q_13, .int w, .int h])), (q_13, .inl (cI, 4096, .inl g_14))] H := hP
                      have hD : va_D A [(s2, .inr (1, [.ref bx, .int ik, .int wy, .int op])), (bx, .inr (0, [.int bx0, .int by0, .int bx1, .int by1])), (s1, .inl (cO, 4, .inr (.inr (.inr (.inr f))))), (fa, .inr (2, [.int ax, .int ay, .int aw, .int ah])), (fb, .inr (2, [.int ox, .int oy, .int ow, .int oh])), (h0, .inr (8, [.ref s1, .ref s2, .ref s3, .ref s4, .ref s5, .ref s6, .int ds, va_rf sp, .ref q_12])), (t0, .inr (5, [.ref d0, .int w, .int h])), (d0, .inl (cI, 4096, .inl gz)), (q_12, .inr (5, [.ref q_13, .int w, .int h])), (q_13, .inl (cI, 4096, .inl g_14))] := hD
                      refine lv_aload_n hx hb dX8_carry_168 rfl (lv_at hl 7 rfl) ?_
                      refine va_get (D := D) (ci := 8) (v := .ref s2) (C := RX8) (T := TX8) (N := 9) hx hb hts hi_X8 hown hK hP 5 rfl rfl 1 (by decide) (hts _ bw_231) (fun _ h9 => h9) rfl dX8_carry_169 ?_
                      refine va_getN (host := RX8) (D := D) (ci := 1) (v := .int op) (C := RX1) (T := TX1) (N := 4) hx hb hts hi_X1 hown hK hP 0 rfl rfl 3 (by decide) ((hN.1 (RX8, 86, "DotBench$Brush", "opacity", "I", RX8) (by decide +kernel)).use rfl) (fun _ h9 => h9) rfl dX8_carry_172 ?_
                      have hPc := hP.sub (ws' := [(s2, .inr (1, [.ref bx, .int ik, .int wy, .int op])), (bx, .inr (0, [.int bx0, .int by0, .int bx1, .int by1])), (t0, .inr (5, [.ref d0, .int w, .int h])), (d0, .inl (cI, 4096, .inl gz))]) [0, 1, 6, 7] rfl
                      have hDc := hD.sub (ws' := [(s2, .inr (1, [.ref bx, .int ik, .int wy, .int op])), (bx, .inr (0, [.int bx0, .int by0, .int bx1, .int by1])), (t0, .inr (5, [.ref d0, .int w, .int h])), (d0, .inl (cI, 4096, .inl gz))]) [0, 1, 6, 7] (by decide) rfl
                      have hKc := hK.sub (tys' := [(cI, .int)]) [1] rfl
                      have hFc := va_free (wc := [(s2, .inr (1, [.ref bx, .int ik, .int wy, .int op])), (bx, .inr (0, [.int bx0, .int by0, .int bx1, .int by1])), (t0, .inr (5, [.ref d0, .int w, .int h])), (d0, .inl (cI, 4096, .inl gz))]) hD hS hA [0, 1, 6, 7] rfl
                      refine va_calli (va_runV (As := [.ref t0, .int y_35, .int y_36, .int r_37, .int op]) (rest := [.int z7]) ⟨hx, hb, hml, hown, hts⟩ (k_X1_lay l D H.size s2 bx ik wy op t0 d0 bx0 by0 bx1 by1 w h gz y_35 y_36 r_37 op cI (by first | assumption | omega | decide) (by first | assumption | omega | decide) (by first | assumption | omega | decide)) (cwV 5 hts (gV bw_276 bw_33 bw_34 bw_19 bw_32) rfl rfl rfl (by decide +kernel) ⟨(by rw [hR]; exact Nat.le_of_ble_eq_true rfl), (by rw [hR]; exact Nat.le_of_ble_eq_true rfl)⟩) ⟨cP_blind, va_recv hKc hPc (ci := 1) (q0 := 0) rfl rfl, cP_at hPc hKc hDc hN⟩ rfl rfl hl.1 rfl (lv_room (Nat.le_of_ble_eq_true rfl)) dX8_carry_175 ⟨(by rw [hR]; exact Nat.le_of_ble_eq_true rfl), (by rw [hR]; exact Nat.le_of_ble_eq_true rfl)⟩) hS (fun q _ h => hFc q h) hFc (fun r_38 u9 t9 H1 locs ht hvm hr_38 hB hz1 hk1 hS => ?_)
                      try dsimp only at hr_38
                      obtain ⟨hP1, hK1, hD1⟩ := hB
                      rw [ht] at hP1
                      obtain ⟨hP, hD⟩ := va_join (wr := [(s1, .inl (cO, 4, .inr (.inr (.inr (.inr f))))), (fa, .inr (2, [.int ax, .int ay, .int aw, .int ah])), (fb, .inr (2, [.int ox, .int oy, .int ow, .int oh])), (h0, .inr (8, [.ref s1, .ref s2, .ref s3, .ref s4, .ref s5, .ref s6, .int ds, va_rf sp, .ref q_12])), (q_12, .inr (5, [.ref q_13, .int w, .int h])), (q_13, .inl (cI, 4096, .inl g_14))]) (w1 := [(s2, .inr (1, [.ref bx, .int ik, .int wy, .int op])), (bx, .inr (0, [.int bx0, .int by0, .int bx1, .int by1])), (t0, .inr (5, [.ref d0, .int w, .int h])), (d0, .inl (cI, 4096, .inl (if 0 ≤ y_35.toInt ∧ y_35.toInt < w.toInt ∧ 0 ≤ y_36.toInt ∧ y_36.toInt < h.toInt ∧ bx0.toInt ≤ y_35.toInt ∧ y_35.toInt ≤ bx1.toInt ∧ by0.toInt ≤ y_36.toInt ∧ y_36.toInt ≤ by1.toInt then upd gz (ixP y_35 y_36) (laidP wy r_37 (gz (ixP y_35 y_36)) op) else gz)))]) hP hD [0, 1, 6, 7] [2, 3, 4, 5, 8, 9] rfl rfl (by decide) (by decide) hk1 hFc hP1 hD1
                      clear hz1 hk1 hFc hKc hDc hPc
                      generalize H1 = H at hP hS ⊢
                      have hP : va_P D vwCl [(s1, .inl (cO, 4, .inr (.inr (.inr (.inr f))))), (fa, .inr (2, [.int ax, .int ay, .int aw, .int ah])), (fb, .inr (2, [.int ox, .int oy, .int ow, .int oh])), (h0, .inr (8, [.ref s1, .ref s2, .ref s3, .ref s4, .ref s5, .ref s6, .int ds, va_rf sp, .ref q_12])), (q_12, .inr (5, [.ref q_13, .int w, .int h])), (q_13, .inl (cI, 4096, .inl g_14)), (s2, .inr (1, [.ref bx, .int ik, .int wy, .int op])), (bx, .inr (0, [.int bx0, .int by0, .int bx1, .int by1])), (t0, .inr (5, [.ref d0, .int w, .int h])), (d0, .inl (cI, 4096, .inl (if 0 ≤ y_35.toInt ∧ y_35.toInt < w.toInt ∧ 0 ≤ y_36.toInt ∧ y_36.toInt < h.toInt ∧ bx0.toInt ≤ y_35.toInt ∧ y_35.toInt ≤ bx1.toInt ∧ by0.toInt ≤ y_36.toInt ∧ y_36.toInt ≤ by1.toInt then upd gz (ixP y_35 y_36) (laidP wy r_37 (gz (ixP y_35 y_36)) op) else gz)))] H := hP
                      have hD : va_D A [(s1, .inl (cO, 4, .inr (.inr (.inr (.inr f))))), (fa, .inr (2, [.int ax, .int ay, .int aw, .int ah])), (fb, .inr (2, [.int ox, .int oy, .int ow, .int oh])), (h0, .inr (8, [.ref s1, .ref s2, .ref s3, .ref s4, .ref s5, .ref s6, .int ds, va_rf sp, .ref q_12])), (q_12, .inr (5, [.ref q_13, .int w, .int h])), (q_13, .inl (cI, 4096, .inl g_14)), (s2, .inr (1, [.ref bx, .int ik, .int wy, .int op])), (bx, .inr (0, [.int bx0, .int by0, .int bx1, .int by1])), (t0, .inr (5, [.ref d0, .int w, .int h])), (d0, .inl (cI, 4096, .inl (if 0 ≤ y_35.toInt ∧ y_35.toInt < w.toInt ∧ 0 ≤ y_36.toInt ∧ y_36.toInt < h.toInt ∧ bx0.toInt ≤ y_35.toInt ∧ y_35.toInt ≤ bx1.toInt ∧ by0.toInt ≤ y_36.toInt ∧ y_36.toInt ≤ by1.toInt then upd gz (ixP y_35 y_36) (laidP wy r_37 (gz (ixP y_35 y_36)) op) else gz)))] := hD
                      refine lv_iadd hx hb dX8_carry_178 ?_
                      refine lv_topi (fun y_39 ey_39 => ?_)
                      refine lv_istore (lv' := [(7, .int y_39), (11, .int y_30), (10, .int x10), (9, .int y_22), (8, .int x8), (5, .ref q_12), (6, .ref t0), (0, .ref h0), (1, .int k), (2, .ref fa), (3, .int kq), (4, .ref fb)]) hx hb dX8_carry_179 hl (by decide) rfl (fun ls hl => ?_)
                      obtain ⟨y_40, ey_40⟩ : ∃ y : Int32, y = x10 + 1 := ⟨_, rfl⟩
                      refine lv_iinc (v := y_40) (lv' := [(10, .int y_40), (7, .int y_39), (11, .int y_30), (9, .int y_22), (8, .int x8), (5, .ref q_12), (6, .ref t0), (0, .ref h0), (1, .int k), (2, .ref fa), (3, .int kq), (4, .ref fb)]) hx hb dX8_carry_181 hl (k := 2) rfl (by rw [ey_40]; rfl) (by decide) rfl (fun ls hl => ?_)
                      refine lv_goto (tgt := 93) hx hb dX8_carry_184 (by decide) ?_
                      exact ih_24 (i + 1) y_40 y_39 (if 0 ≤ y_35.toInt ∧ y_35.toInt < w.toInt ∧ 0 ≤ y_36.toInt ∧ y_36.toInt < h.toInt ∧ bx0.toInt ≤ y_35.toInt ∧ y_35.toInt ≤ bx1.toInt ∧ by0.toInt ≤ y_36.toInt ∧ y_36.toInt ≤ by1.toInt then upd gz (ixP y_35 y_36) (laidP wy r_37 (gz (ixP y_35 y_36)) op) else gz) _ _ _ (by omega) (by omega) (by rw [ey_40, ex_i]; exact nI_1 i) (hP.sub (ws' := [(s2, .inr (1, [.ref bx, .int ik, .int wy, .int op])), (bx, .inr (0, [.int bx0, .int by0, .int bx1, .int by1])), (s1, .inl (cO, 4, .inr (.inr (.inr (.inr f))))), (fa, .inr (2, [.int ax, .int ay, .int aw, .int ah])), (fb, .inr (2, [.int ox, .int oy, .int ow, .int oh])), (h0, .inr (8, [.ref s1, .ref s2, .ref s3, .ref s4, .ref s5, .ref s6, .int ds, va_rf sp, .ref q_12])), (q_12, .inr (5, [.ref q_13, .int w, .int h])), (q_13, .inl (cI, 4096, .inl g_14)), (t0, .inr (5, [.ref d0, .int w, .int h])), (d0, .inl (cI, 4096, .inl (if 0 ≤ y_35.toInt ∧ y_35.toInt < w.toInt ∧ 0 ≤ y_36.toInt ∧ y_36.toInt < h.toInt ∧ bx0.toInt ≤ y_35.toInt ∧ y_35.toInt ≤ bx1.toInt ∧ by0.toInt ≤ y_36.toInt ∧ y_36.toInt ≤ by1.toInt then upd gz (ixP y_35 y_36) (laidP wy r_37 (gz (ixP y_35 y_36)) op) else gz)))]) [6, 7, 0, 1, 2, 3, 4, 5, 8, 9] rfl) (hD.sub (ws' := [(s2, .inr (1, [.ref bx, .int ik, .int wy, .int op])), (bx, .inr (0, [.int bx0, .int by0, .int bx1, .int by1])), (s1, .inl (cO, 4, .inr (.inr (.inr (.inr f))))), (fa, .inr (2, [.int ax, .int ay, .int aw, .int ah])), (fb, .inr (2, [.int ox, .int oy, .int ow, .int oh])), (h0, .inr (8, [.ref s1, .ref s2, .ref s3, .ref s4, .ref s5, .ref s6, .int ds, va_rf sp, .ref q_12])), (q_12, .inr (5, [.ref q_13, .int w, .int h])), (q_13, .inl (cI, 4096, .inl g_14)), (t0, .inr (5, [.ref d0, .int w, .int h])), (d0, .inl (cI, 4096, .inl (if 0 ≤ y_35.toInt ∧ y_35.toInt < w.toInt ∧ 0 ≤ y_36.toInt ∧ y_36.toInt < h.toInt ∧ bx0.toInt ≤ y_35.toInt ∧ y_35.toInt ≤ bx1.toInt ∧ by0.toInt ≤ y_36.toInt ∧ y_36.toInt ≤ by1.toInt then upd gz (ixP y_35 y_36) (laidP wy r_37 (gz (ixP y_35 y_36)) op) else gz)))]) [6, 7, 0, 1, 2, 3, 4, 5, 8, 9] (by decide) rfl) hS (lv_sub hl [0, 3, 4, 1, 5, 6, 7, 8, 9, 10, 11] rfl)
              exact loop_23 (64 + 1) 0 0 x7 ga _ _ _ (by omega) (by omega) nI_0.symm hP hD hS (lv_sub hl [0, 1, 2, 3, 4, 5, 6, 7, 8, 9, 10] rfl)
        exact loop_16 (64 + 1) 0 0 0 g _ _ _ (by omega) (by omega) nI_0.symm hP hD hS (lv_sub hl [0, 1, 2, 3, 4, 5, 6, 7, 8] rfl)
    · skip
      have f_8 := bz0 hr_6 c_7
      exact False.elim (by omega)

set_option maxHeartbeats 4000000 in
set_option maxRecDepth 100000 in
theorem k_X8_copy_r (l : Launch) (D : va_G) (sz : Nat) (h0 s1 s2 s3 s4 s5 s6 : Nat) (ds : Int32) (sp bt : Option Nat) (k ax ay aw ah kq ox oy : Int32) (hsz : ¬ ((0 ≤ aw.toInt ∧ aw.toInt ≤ 64) ∧ (0 ≤ ah.toInt ∧ ah.toInt ≤ 64))) : Met l yX8_copy (wB yX8_copy cX8_copy 9 (some .int)) ({ frames := 1, cells := 0, slots := 0, locals := 22 }) (cP D [(h0, .inr (8, [.ref s1, .ref s2, .ref s3, .ref s4, .ref s5, .ref s6, .int ds, va_rf sp, va_rf bt]))] [] sz [.ref h0, .int k, .int ax, .int ay, .int aw, .int ah, .int kq, .int ox, .int oy]) (va_Qi (fun (r : Int32) (_ : Unit) => r = -1) (fun (_ : Unit) (t : State) => cB D (va_A [(h0, .inr (8, [.ref s1, .ref s2, .ref s3, .ref s4, .ref s5, .ref s6, .int ds, va_rf sp, va_rf bt]))] sz) [(h0, .inr (8, [.ref s1, .ref s2, .ref s3, .ref s4, .ref s5, .ref s6, .int ds, va_rf sp, va_rf bt]))] [] t) (va_A [(h0, .inr (8, [.ref s1, .ref s2, .ref s3, .ref s4, .ref s5, .ref s6, .int ds, va_rf sp, va_rf bt]))] sz)) 0 0 (va_A [(h0, .inr (8, [.ref s1, .ref s2, .ref s3, .ref s4, .ref s5, .ref s6, .int ds, va_rf sp, va_rf bt]))] sz) := by
  refine Met.ofW (cc := cX8_copy) (maxL := 9) (ret := (some .int)) (by decide) rfl ?_
  intro p e s m args below meth c s₁ B hml hv
  obtain ⟨rfl, hsz, hP, hK, hD0, hN⟩ := hv
  have hx := B.exec
  have hb := B.bytes
  have hr := B.returns
  have hts0 := atoms_spec (ws := (wB yX8_copy cX8_copy 9 (some .int))) B.pre
  have hts : ∀ w ∈ bigW, w.before _ s = true := fun w h => hts0 w (List.mem_cons_of_mem _ h)
  have hown : s.vm.findClass RX8 = some m.cls := findClass_of_methodNamed B.named
  have hlocks := B.notSynchronized
  subst hsz
  have hD := hD0.self (sz := s.heap.size)
  generalize hAe : va_A [(h0, .inr (8, [.ref s1, .ref s2, .ref s3, .ref s4, .ref s5, .ref s6, .int ds, va_rf sp, va_rf bt]))] s.heap.size = A at hD ⊢
  have hA : ∀ q : Nat, s.heap.size ≤ q → A q := fun q h => by rw [← hAe]; exact Or.inr h
  have hS : va_S A s.heap s.heap [] := va_S.rf
  have hP : va_P D vwCl [(h0, .inr (8, [.ref s1, .ref s2, .ref s3, .ref s4, .ref s5, .ref s6, .int ds, va_rf sp, va_rf bt]))] s.heap := hP
  have hl := lv_entry ([.ref h0, .int k, .int ax, .int ay, .int aw, .int ah, .int kq, .int ox, .int oy]) (n := 9) (Nat.le_of_ble_eq_true rfl)
  rw [lg_entry_eq]
  generalize (lg_sl ([.ref h0, .int k, .int ax, .int ay, .int aw, .int ah, .int kq, .int ox, .int oy]) ++ List.replicate (9 - (lg_sl ([.ref h0, .int k, .int ax, .int ay, .int aw, .int ah, .int kq, .int ox, .int oy])).length) Slot.unset).toArray = ls at hl ⊢
  have hl : lv_has ls 9 [(0, .ref h0), (1, .int k), (2, .int ax), (3, .int ay), (4, .int aw), (5, .int ah), (6, .int kq), (7, .int ox), (8, .int oy)] := hl
  clear hts0 hD0 hAe
  refine my_abs (fun R Q hR hQ => ?_)
  refine lv_iload hx hb dX8_copy_0 (lv_at hl 4 rfl) ?_
  refine lv_iconst (v := 0) hx hb dX8_copy_2 (by decide) ?_
  refine lv_bipush (v := 64) hx hb dX8_copy_3 (by decide) ?_
  have hPc := hP.sub (ws' := []) [] rfl
  have hDc := hD.sub (ws' := []) [] (by decide) rfl
  have hKc := hK.sub (tys' := []) [] rfl
  have hFc := va_free (wc := []) hD hS hA [] rfl
  refine va_calli (va_runS (As := [.int aw, .int 0, .int 64]) (rest := []) ⟨hx, hb, hml, hown, hts⟩ (k_X8_isWithin l D s.heap.size aw 0 64 0 64 (by decide) (by decide)) (va_cwS 3 hts (gS bw_256 bw_349 bw_223 bw_348) rfl rfl rfl (by decide +kernel) ⟨(by rw [hR]; exact Nat.le_of_ble_eq_true rfl), (by rw [hR]; exact Nat.le_of_ble_eq_true rfl)⟩) ⟨cP_blind, cP_at hPc hKc hDc hN⟩ rfl rfl hl.1 rfl (lv_room (Nat.le_of_ble_eq_true rfl)) dX8_copy_5 ⟨(by rw [hR]; exact Nat.le_of_ble_eq_true rfl), (by rw [hR]; exact Nat.le_of_ble_eq_true rfl)⟩) hS (fun q _ h => hFc q h) hFc (fun r_1 u9 t9 H1 locs ht hvm hr_1 hB hz1 hk1 hS => ?_)
  try dsimp only at hr_1
  have hP1 : va_P D vwCl [] H1 := vP_nil
  have hD1 : va_D (va_A [] s.heap.size) [] := vD_nil
  obtain ⟨hP, hD⟩ := va_join (wr := [(h0, .inr (8, [.ref s1, .ref s2, .ref s3, .ref s4, .ref s5, .ref s6, .int ds, va_rf sp, va_rf bt]))]) (w1 := []) hP hD [] [0] rfl rfl (by decide) (by decide) hk1 hFc hP1 hD1
  clear hz1 hk1 hFc hKc hDc hPc
  generalize H1 = H at hP hS ⊢
  have hP : va_P D vwCl [(h0, .inr (8, [.ref s1, .ref s2, .ref s3, .ref s4, .ref s5, .ref s6, .int ds, va_rf sp, va_rf bt]))] H := hP
  have hD : va_D A [(h0, .inr (8, [.ref s1, .ref s2, .ref s3, .ref s4, .ref s5, .ref s6, .int ds, va_rf sp, va_rf bt]))] := hD
  refine lv_if_eq (tgt := 22) hx hb dX8_copy_8 (by decide) (fun c_2 => ?_) (fun c_2 => ?_)
  · skip
    have f_3 := bz0 hr_1 c_2
    refine lv_iconst (v := (-1)) hx hb dX8_copy_22 (by decide) ?_
    have hP9 := hP.sub (ws' := [(h0, .inr (8, [.ref s1, .ref s2, .ref s3, .ref s4, .ref s5, .ref s6, .int ds, va_rf sp, va_rf bt]))]) [0] rfl
    have hD9 := hD.sub (ws' := [(h0, .inr (8, [.ref s1, .ref s2, .ref s3, .ref s4, .ref s5, .ref s6, .int ds, va_rf sp, va_rf bt]))]) [0] (by decide) rfl
    have hK9 := hK.sub (tys' := []) [] rfl
    refine hQ _ _ _ _ _ ?_
    exact W.iret (v := (-1)) hx hb hr (fun t ht hW => ⟨⟨(-1), (), rfl, rfl, ⟨by rw [ht]; exact hP9, va_K.moved hW.alike hK9, hD9⟩⟩, hS.F ht⟩) hS.2.2 dX8_copy_23
  · skip
    have f_3 := bz1 hr_1 c_2
    refine lv_iload hx hb dX8_copy_11 (lv_at hl 5 rfl) ?_
    refine lv_iconst (v := 0) hx hb dX8_copy_13 (by decide) ?_
    refine lv_bipush (v := 64) hx hb dX8_copy_14 (by decide) ?_
    have hPc := hP.sub (ws' := []) [] rfl
    have hDc := hD.sub (ws' := []) [] (by decide) rfl
    have hKc := hK.sub (tys' := []) [] rfl
    have hFc := va_free (wc := []) hD hS hA [] rfl
    refine va_calli (va_runS (As := [.int ah, .int 0, .int 64]) (rest := []) ⟨hx, hb, hml, hown, hts⟩ (k_X8_isWithin l D H.size ah 0 64 0 64 (by decide) (by decide)) (va_cwS 3 hts (gS bw_256 bw_349 bw_223 bw_348) rfl rfl rfl (by decide +kernel) ⟨(by rw [hR]; exact Nat.le_of_ble_eq_true rfl), (by rw [hR]; exact Nat.le_of_ble_eq_true rfl)⟩) ⟨cP_blind, cP_at hPc hKc hDc hN⟩ rfl rfl hl.1 rfl (lv_room (Nat.le_of_ble_eq_true rfl)) dX8_copy_16 ⟨(by rw [hR]; exact Nat.le_of_ble_eq_true rfl), (by rw [hR]; exact Nat.le_of_ble_eq_true rfl)⟩) hS (fun q _ h => hFc q h) hFc (fun r_4 u9 t9 H1 locs ht hvm hr_4 hB hz1 hk1 hS => ?_)
    try dsimp only at hr_4
    have hP1 : va_P D vwCl [] H1 := vP_nil
    have hD1 : va_D (va_A [] H.size) [] := vD_nil
    obtain ⟨hP, hD⟩ := va_join (wr := [(h0, .inr (8, [.ref s1, .ref s2, .ref s3, .ref s4, .ref s5, .ref s6, .int ds, va_rf sp, va_rf bt]))]) (w1 := []) hP hD [] [0] rfl rfl (by decide) (by decide) hk1 hFc hP1 hD1
    clear hz1 hk1 hFc hKc hDc hPc
    generalize H1 = H at hP hS ⊢
    have hP : va_P D vwCl [(h0, .inr (8, [.ref s1, .ref s2, .ref s3, .ref s4, .ref s5, .ref s6, .int ds, va_rf sp, va_rf bt]))] H := hP
    have hD : va_D A [(h0, .inr (8, [.ref s1, .ref s2, .ref s3, .ref s4, .ref s5, .ref s6, .int ds, va_rf sp, va_rf bt]))] := hD
    refine lv_if_ne (tgt := 24) hx hb dX8_copy_19 (by decide) (fun c_5 => ?_) (fun c_5 => ?_)
    · skip
      have f_6 := bz1 hr_4 c_5
      exact False.elim (by omega)
    · skip
      have f_6 := bz0 hr_4 c_5
      refine lv_iconst (v := (-1)) hx hb dX8_copy_22 (by decide) ?_
      have hP9 := hP.sub (ws' := [(h0, .inr (8, [.ref s1, .ref s2, .ref s3, .ref s4, .ref s5, .ref s6, .int ds, va_rf sp, va_rf bt]))]) [0] rfl
      have hD9 := hD.sub (ws' := [(h0, .inr (8, [.ref s1, .ref s2, .ref s3, .ref s4, .ref s5, .ref s6, .int ds, va_rf sp, va_rf bt]))]) [0] (by decide) rfl
      have hK9 := hK.sub (tys' := []) [] rfl
      refine hQ _ _ _ _ _ ?_
      exact W.iret (v := (-1)) hx hb hr (fun t ht hW => ⟨⟨(-1), (), rfl, rfl, ⟨by rw [ht]; exact hP9, va_K.moved hW.alike hK9, hD9⟩⟩, hS.F ht⟩) hS.2.2 dX8_copy_23

set_option maxHeartbeats 4000000 in
set_option maxRecDepth 100000 in
theorem k_X8_copy_nn (l : Launch) (D : va_G) (sz : Nat) (h0 s1 s2 s3 s4 s5 s6 : Nat) (ds : Int32) (sp bt : Option Nat) (f : Nat → Option Nat) (k ax ay aw ah kq ox oy : Int32) (cO : ClassId) (hsz : (0 ≤ aw.toInt ∧ aw.toInt ≤ 64) ∧ (0 ≤ ah.toInt ∧ ah.toInt ≤ 64)) (haf : 0 ≤ k.toInt ∧ k.toInt ≤ 3 → f k.toNatClampNeg = none) (hb0f : 0 ≤ kq.toInt ∧ kq.toInt ≤ 3 → f kq.toNatClampNeg = none) : Met l yX8_copy (wB yX8_copy cX8_copy 9 (some .int)) ({ frames := 2, cells := 2, slots := 8, locals := 52 }) (cP D [(h0, .inr (8, [.ref s1, .ref s2, .ref s3, .ref s4, .ref s5, .ref s6, .int ds, va_rf sp, va_rf bt])), (s1, .inl (cO, 4, .inr (.inr (.inr (.inr f)))))] [(cO, .object "DotBench$Sheet")] sz [.ref h0, .int k, .int ax, .int ay, .int aw, .int ah, .int kq, .int ox, .int oy]) (va_Qi (fun (r : Int32) (_ : Unit) => r = -1) (fun (_ : Unit) (t : State) => cB D (va_A [(h0, .inr (8, [.ref s1, .ref s2, .ref s3, .ref s4, .ref s5, .ref s6, .int ds, va_rf sp, va_rf bt])), (s1, .inl (cO, 4, .inr (.inr (.inr (.inr f)))))] sz) [(h0, .inr (8, [.ref s1, .ref s2, .ref s3, .ref s4, .ref s5, .ref s6, .int ds, va_rf sp, va_rf bt])), (s1, .inl (cO, 4, .inr (.inr (.inr (.inr f)))))] [(cO, .object "DotBench$Sheet")] t) (va_A [(h0, .inr (8, [.ref s1, .ref s2, .ref s3, .ref s4, .ref s5, .ref s6, .int ds, va_rf sp, va_rf bt])), (s1, .inl (cO, 4, .inr (.inr (.inr (.inr f)))))] sz)) 2 8 (va_A [(h0, .inr (8, [.ref s1, .ref s2, .ref s3, .ref s4, .ref s5, .ref s6, .int ds, va_rf sp, va_rf bt])), (s1, .inl (cO, 4, .inr (.inr (.inr (.inr f)))))] sz) := by
  refine Met.ofW (cc := cX8_copy) (maxL := 9) (ret := (some .int)) (by decide) rfl ?_
  intro p e s m args below meth c s₁ B hml hv
  obtain ⟨rfl, hsz, hP, hK, hD0, hN⟩ := hv
  have hx := B.exec
  have hb := B.bytes
  have hr := B.returns
  have hts0 := atoms_spec (ws := (wB yX8_copy cX8_copy 9 (some .int))) B.pre
  have hts : ∀ w ∈ bigW, w.before _ s = true := fun w h => hts0 w (List.mem_cons_of_mem _ h)
  have hown : s.vm.findClass RX8 = some m.cls := findClass_of_methodNamed B.named
  have hlocks := B.notSynchronized
  subst hsz
  have hD := hD0.self (sz := s.heap.size)
  generalize hAe : va_A [(h0, .inr (8, [.ref s1, .ref s2, .ref s3, .ref s4, .ref s5, .ref s6, .int ds, va_rf sp, va_rf bt])), (s1, .inl (cO, 4, .inr (.inr (.inr (.inr f)))))] s.heap.size = A at hD ⊢
  have hA : ∀ q : Nat, s.heap.size ≤ q → A q := fun q h => by rw [← hAe]; exact Or.inr h
  have hS : va_S A s.heap s.heap [] := va_S.rf
  have hP : va_P D vwCl [(h0, .inr (8, [.ref s1, .ref s2, .ref s3, .ref s4, .ref s5, .ref s6, .int ds, va_rf sp, va_rf bt])), (s1, .inl (cO, 4, .inr (.inr (.inr (.inr f)))))] s.heap := hP
  have hl := lv_entry ([.ref h0, .int k, .int ax, .int ay, .int aw, .int ah, .int kq, .int ox, .int oy]) (n := 9) (Nat.le_of_ble_eq_true rfl)
  rw [lg_entry_eq]
  generalize (lg_sl ([.ref h0, .int k, .int ax, .int ay, .int aw, .int ah, .int kq, .int ox, .int oy]) ++ List.replicate (9 - (lg_sl ([.ref h0, .int k, .int ax, .int ay, .int aw, .int ah, .int kq, .int ox, .int oy])).length) Slot.unset).toArray = ls at hl ⊢
  have hl : lv_has ls 9 [(0, .ref h0), (1, .int k), (2, .int ax), (3, .int ay), (4, .int aw), (5, .int ah), (6, .int kq), (7, .int ox), (8, .int oy)] := hl
  clear hts0 hD0 hAe
  refine my_abs (fun R Q hR hQ => ?_)
  refine lv_iload hx hb dX8_copy_0 (lv_at hl 4 rfl) ?_
  refine lv_iconst (v := 0) hx hb dX8_copy_2 (by decide) ?_
  refine lv_bipush (v := 64) hx hb dX8_copy_3 (by decide) ?_
  have hPc := hP.sub (ws' := []) [] rfl
  have hDc := hD.sub (ws' := []) [] (by decide) rfl
  have hKc := hK.sub (tys' := []) [] rfl
  have hFc := va_free (wc := []) hD hS hA [] rfl
  refine va_calli (va_runS (As := [.int aw, .int 0, .int 64]) (rest := []) ⟨hx, hb, hml, hown, hts⟩ (k_X8_isWithin l D s.heap.size aw 0 64 0 64 (by decide) (by decide)) (va_cwS 3 hts (gS bw_256 bw_349 bw_223 bw_348) rfl rfl rfl (by decide +kernel) ⟨(by rw [hR]; exact Nat.le_of_ble_eq_true rfl), (by rw [hR]; exact Nat.le_of_ble_eq_true rfl)⟩) ⟨cP_blind, cP_at hPc hKc hDc hN⟩ rfl rfl hl.1 rfl (lv_room (Nat.le_of_ble_eq_true rfl)) dX8_copy_5 ⟨(by rw [hR]; exact Nat.le_of_ble_eq_true rfl), (by rw [hR]; exact Nat.le_of_ble_eq_true rfl)⟩) hS (fun q _ h => hFc q h) hFc (fun r_1 u9 t9 H1 locs ht hvm hr_1 hB hz1 hk1 hS => ?_)
  try dsimp only at hr_1
  have hP1 : va_P D vwCl [] H1 := vP_nil
  have hD1 : va_D (va_A [] s.heap.size) [] := vD_nil
  obtain ⟨hP, hD⟩ := va_join (wr := [(h0, .inr (8, [.ref s1, .ref s2, .ref s3, .ref s4, .ref s5, .ref s6, .int ds, va_rf sp, va_rf bt])), (s1, .inl (cO, 4, .inr (.inr (.inr (.inr f)))))]) (w1 := []) hP hD [] [0, 1] rfl rfl (by decide) (by decide) hk1 hFc hP1 hD1
  clear hz1 hk1 hFc hKc hDc hPc
  generalize H1 = H at hP hS ⊢
  have hP : va_P D vwCl [(h0, .inr (8, [.ref s1, .ref s2, .ref s3, .ref s4, .ref s5, .ref s6, .int ds, va_rf sp, va_rf bt])), (s1, .inl (cO, 4, .inr (.inr (.inr (.inr f)))))] H := hP
  have hD : va_D A [(h0, .inr (8, [.ref s1, .ref s2, .ref s3, .ref s4, .ref s5, .ref s6, .int ds, va_rf sp, va_rf bt])), (s1, .inl (cO, 4, .inr (.inr (.inr (.inr f)))))] := hD
  refine lv_if_eq (tgt := 22) hx hb dX8_copy_8 (by decide) (fun c_2 => ?_) (fun c_2 => ?_)
  · skip
    have f_3 := bz0 hr_1 c_2
    exact False.elim (by omega)
  · skip
    have f_3 := bz1 hr_1 c_2
    refine lv_iload hx hb dX8_copy_11 (lv_at hl 5 rfl) ?_
    refine lv_iconst (v := 0) hx hb dX8_copy_13 (by decide) ?_
    refine lv_bipush (v := 64) hx hb dX8_copy_14 (by decide) ?_
    have hPc := hP.sub (ws' := []) [] rfl
    have hDc := hD.sub (ws' := []) [] (by decide) rfl
    have hKc := hK.sub (tys' := []) [] rfl
    have hFc := va_free (wc := []) hD hS hA [] rfl
    refine va_calli (va_runS (As := [.int ah, .int 0, .int 64]) (rest := []) ⟨hx, hb, hml, hown, hts⟩ (k_X8_isWithin l D H.size ah 0 64 0 64 (by decide) (by decide)) (va_cwS 3 hts (gS bw_256 bw_349 bw_223 bw_348) rfl rfl rfl (by decide +kernel) ⟨(by rw [hR]; exact Nat.le_of_ble_eq_true rfl), (by rw [hR]; exact Nat.le_of_ble_eq_true rfl)⟩) ⟨cP_blind, cP_at hPc hKc hDc hN⟩ rfl rfl hl.1 rfl (lv_room (Nat.le_of_ble_eq_true rfl)) dX8_copy_16 ⟨(by rw [hR]; exact Nat.le_of_ble_eq_true rfl), (by rw [hR]; exact Nat.le_of_ble_eq_true rfl)⟩) hS (fun q _ h => hFc q h) hFc (fun r_4 u9 t9 H1 locs ht hvm hr_4 hB hz1 hk1 hS => ?_)
    try dsimp only at hr_4
    have hP1 : va_P D vwCl [] H1 := vP_nil
    have hD1 : va_D (va_A [] H.size) [] := vD_nil
    obtain ⟨hP, hD⟩ := va_join (wr := [(h0, .inr (8, [.ref s1, .ref s2, .ref s3, .ref s4, .ref s5, .ref s6, .int ds, va_rf sp, va_rf bt])), (s1, .inl (cO, 4, .inr (.inr (.inr (.inr f)))))]) (w1 := []) hP hD [] [0, 1] rfl rfl (by decide) (by decide) hk1 hFc hP1 hD1
    clear hz1 hk1 hFc hKc hDc hPc
    generalize H1 = H at hP hS ⊢
    have hP : va_P D vwCl [(h0, .inr (8, [.ref s1, .ref s2, .ref s3, .ref s4, .ref s5, .ref s6, .int ds, va_rf sp, va_rf bt])), (s1, .inl (cO, 4, .inr (.inr (.inr (.inr f)))))] H := hP
    have hD : va_D A [(h0, .inr (8, [.ref s1, .ref s2, .ref s3, .ref s4, .ref s5, .ref s6, .int ds, va_rf sp, va_rf bt])), (s1, .inl (cO, 4, .inr (.inr (.inr (.inr f)))))] := hD
    refine lv_if_ne (tgt := 24) hx hb dX8_copy_19 (by decide) (fun c_5 => ?_) (fun c_5 => ?_)
    · skip
      have f_6 := bz1 hr_4 c_5
      refine lv_aload_n hx hb dX8_copy_24 rfl (lv_at hl 0 rfl) ?_
      refine lv_iload_n hx hb dX8_copy_25 rfl (lv_at hl 1 rfl) ?_
      refine va_new (ci := 2) (fs := [.int 0, .int 0, .int 0, .int 0]) (C := RX2) (T := TX2) (N := 4) hx hb hts hi_X2 tyX2 tyX2_ok hown (hts _ bw_316) (hts _ bw_56) (hts _ bw_55) hK hP hD hS hA rfl z_X2 (by rw [hR]; exact Nat.le_of_ble_eq_true rfl) (by rw [hR]; exact Nat.le_of_ble_eq_true rfl) dX8_copy_26 (fun q_7 H hP hD hS => ?_)
      have hP : va_P D vwCl [(h0, .inr (8, [.ref s1, .ref s2, .ref s3, .ref s4, .ref s5, .ref s6, .int ds, va_rf sp, va_rf bt])), (s1, .inl (cO, 4, .inr (.inr (.inr (.inr f))))), (q_7, .inr (2, [.int 0, .int 0, .int 0, .int 0]))] H := hP
      have hD : va_D A [(h0, .inr (8, [.ref s1, .ref s2, .ref s3, .ref s4, .ref s5, .ref s6, .int ds, va_rf sp, va_rf bt])), (s1, .inl (cO, 4, .inr (.inr (.inr (.inr f))))), (q_7, .inr (2, [.int 0, .int 0, .int 0, .int 0]))] := hD
      refine W.widen (k := 1) (n := 4) (by omega) (by omega) ?_
      refine lv_dup hx hb dX8_copy_29 rfl ?_
      refine lv_iload_n hx hb dX8_copy_30 rfl (lv_at hl 2 rfl) ?_
      refine lv_iload_n hx hb dX8_copy_31 rfl (lv_at hl 3 rfl) ?_
      refine lv_iload hx hb dX8_copy_32 (lv_at hl 4 rfl) ?_
      refine lv_iload hx hb dX8_copy_34 (lv_at hl 5 rfl) ?_
      have hPc := hP.sub (ws' := [(q_7, .inr (2, [.int 0, .int 0, .int 0, .int 0]))]) [2] rfl
      have hDc := hD.sub (ws' := [(q_7, .inr (2, [.int 0, .int 0, .int 0, .int 0]))]) [2] (by decide) rfl
      have hKc := hK.sub (tys' := []) [] rfl
      have hFc := va_free (wc := [(q_7, .inr (2, [.int 0, .int 0, .int 0, .int 0]))]) hD hS hA [2] rfl
      refine va_callv (va_runI (As := [.int ax, .int ay, .int aw, .int ah]) (rest := [.ref q_7, .int k, .ref h0]) ⟨hx, hb, hml, hown, hts⟩ (k_X2_init l D H.size q_7 ax ay aw ah) (cwI 4 hts (gI bw_57) rfl rfl rfl (hts _ bw_55) (hts _ bw_317) (hts _ bw_58) rfl (by decide +kernel) ⟨(by rw [hR]; exact Nat.le_of_ble_eq_true rfl), (by rw [hR]; exact Nat.le_of_ble_eq_true rfl)⟩) ⟨cP_blind, cP_at hPc hKc hDc hN⟩ rfl rfl hl.1 rfl (lv_room (Nat.le_of_ble_eq_true rfl)) dX8_copy_36 ⟨(by rw [hR]; exact Nat.le_of_ble_eq_true rfl), (by rw [hR]; exact Nat.le_of_ble_eq_true rfl)⟩) hS (fun q _ h => hFc q h) hFc (fun u9 t9 H1 locs ht hvm hr_8 hB hz1 hk1 hS => ?_)
      try dsimp only at hr_8
      obtain ⟨hP1, hK1, hD1⟩ := hB
      rw [ht] at hP1
      obtain ⟨hP, hD⟩ := va_join (wr := [(h0, .inr (8, [.ref s1, .ref s2, .ref s3, .ref s4, .ref s5, .ref s6, .int ds, va_rf sp, va_rf bt])), (s1, .inl (cO, 4, .inr (.inr (.inr (.inr f)))))]) (w1 := [(q_7, .inr (2, [.int ax, .int ay, .int aw, .int ah]))]) hP hD [2] [0, 1] rfl rfl (by decide) (by decide) hk1 hFc hP1 hD1
      clear hz1 hk1 hFc hKc hDc hPc
      generalize H1 = H at hP hS ⊢
      have hP : va_P D vwCl [(h0, .inr (8, [.ref s1, .ref s2, .ref s3, .ref s4, .ref s5, .ref s6, .int ds, va_rf sp, va_rf bt])), (s1, .inl (cO, 4, .inr (.inr (.inr (.inr f))))), (q_7, .inr (2, [.int ax, .int ay, .int aw, .int ah]))] H := hP
      have hD : va_D A [(h0, .inr (8, [.ref s1, .ref s2, .ref s3, .ref s4, .ref s5, .ref s6, .int ds, va_rf sp, va_rf bt])), (s1, .inl (cO, 4, .inr (.inr (.inr (.inr f))))), (q_7, .inr (2, [.int ax, .int ay, .int aw, .int ah]))] := hD
      refine lv_iload hx hb dX8_copy_39 (lv_at hl 6 rfl) ?_
      refine va_new (ci := 2) (fs := [.int 0, .int 0, .int 0, .int 0]) (C := RX2) (T := TX2) (N := 4) hx hb hts hi_X2 tyX2 tyX2_ok hown (hts _ bw_316) (hts _ bw_56) (hts _ bw_55) hK hP hD hS hA rfl z_X2 (by rw [hR]; exact Nat.le_of_ble_eq_true rfl) (by rw [hR]; exact Nat.le_of_ble_eq_true rfl) dX8_copy_41 (fun q_9 H hP hD hS => ?_)
      have hP : va_P D vwCl [(h0, .inr (8, [.ref s1, .ref s2, .ref s3, .ref s4, .ref s5, .ref s6, .int ds, va_rf sp, va_rf bt])), (s1, .inl (cO, 4, .inr (.inr (.inr (.inr f))))), (q_7, .inr (2, [.int ax, .int ay, .int aw, .int ah])), (q_9, .inr (2, [.int 0, .int 0, .int 0, .int 0]))] H := hP
      have hD : va_D A [(h0, .inr (8, [.ref s1, .ref s2, .ref s3, .ref s4, .ref s5, .ref s6, .int ds, va_rf sp, va_rf bt])), (s1, .inl (cO, 4, .inr (.inr (.inr (.inr f))))), (q_7, .inr (2, [.int ax, .int ay, .int aw, .int ah])), (q_9, .inr (2, [.int 0, .int 0, .int 0, .int 0]))] := hD
      refine W.widen (k := 2) (n := 8) (by omega) (by omega) ?_
      refine lv_dup hx hb dX8_copy_44 rfl ?_
      refine lv_iload hx hb dX8_copy_45 (lv_at hl 7 rfl) ?_
      refine lv_iload hx hb dX8_copy_47 (lv_at hl 8 rfl) ?_
      refine lv_iload hx hb dX8_copy_49 (lv_at hl 4 rfl) ?_
      refine lv_iload hx hb dX8_copy_51 (lv_at hl 5 rfl) ?_
      have hPc := hP.sub (ws' := [(q_9, .inr (2, [.int 0, .int 0, .int 0, .int 0]))]) [3] rfl
      have hDc := hD.sub (ws' := [(q_9, .inr (2, [.int 0, .int 0, .int 0, .int 0]))]) [3] (by decide) rfl
      have hKc := hK.sub (tys' := []) [] rfl
      have hFc := va_free (wc := [(q_9, .inr (2, [.int 0, .int 0, .int 0, .int 0]))]) hD hS hA [3] rfl
      refine va_callv (va_runI (As := [.int ox, .int oy, .int aw, .int ah]) (rest := [.ref q_9, .int kq, .ref q_7, .int k, .ref h0]) ⟨hx, hb, hml, hown, hts⟩ (k_X2_init l D H.size q_9 ox oy aw ah) (cwI 4 hts (gI bw_57) rfl rfl rfl (hts _ bw_55) (hts _ bw_317) (hts _ bw_58) rfl (by decide +kernel) ⟨(by rw [hR]; exact Nat.le_of_ble_eq_true rfl), (by rw [hR]; exact Nat.le_of_ble_eq_true rfl)⟩) ⟨cP_blind, cP_at hPc hKc hDc hN⟩ rfl rfl hl.1 rfl (lv_room (Nat.le_of_ble_eq_true rfl)) dX8_copy_53 ⟨(by rw [hR]; exact Nat.le_of_ble_eq_true rfl), (by rw [hR]; exact Nat.le_of_ble_eq_true rfl)⟩) hS (fun q _ h => hFc q h) hFc (fun u9 t9 H1 locs ht hvm hr_10 hB hz1 hk1 hS => ?_)
      try dsimp only at hr_10
      obtain ⟨hP1, hK1, hD1⟩ := hB
      rw [ht] at hP1
      obtain ⟨hP, hD⟩ := va_join (wr := [(h0, .inr (8, [.ref s1, .ref s2, .ref s3, .ref s4, .ref s5, .ref s6, .int ds, va_rf sp, va_rf bt])), (s1, .inl (cO, 4, .inr (.inr (.inr (.inr f))))), (q_7, .inr (2, [.int ax, .int ay, .int aw, .int ah]))]) (w1 := [(q_9, .inr (2, [.int ox, .int oy, .int aw, .int ah]))]) hP hD [3] [0, 1, 2] rfl rfl (by decide) (by decide) hk1 hFc hP1 hD1
      clear hz1 hk1 hFc hKc hDc hPc
      generalize H1 = H at hP hS ⊢
      have hP : va_P D vwCl [(h0, .inr (8, [.ref s1, .ref s2, .ref s3, .ref s4, .ref s5, .ref s6, .int ds, va_rf sp, va_rf bt])), (s1, .inl (cO, 4, .inr (.inr (.inr (.inr f))))), (q_7, .inr (2, [.int ax, .int ay, .int aw, .int ah])), (q_9, .inr (2, [.int ox, .int oy, .int aw, .int ah]))] H := hP
      have hD : va_D A [(h0, .inr (8, [.ref s1, .ref s2, .ref s3, .ref s4, .ref s5, .ref s6, .int ds, va_rf sp, va_rf bt])), (s1, .inl (cO, 4, .inr (.inr (.inr (.inr f))))), (q_7, .inr (2, [.int ax, .int ay, .int aw, .int ah])), (q_9, .inr (2, [.int ox, .int oy, .int aw, .int ah]))] := hD
      have hPc := hP.sub (ws' := [(h0, .inr (8, [.ref s1, .ref s2, .ref s3, .ref s4, .ref s5, .ref s6, .int ds, va_rf sp, va_rf bt])), (s1, .inl (cO, 4, .inr (.inr (.inr (.inr f))))), (q_7, .inr (2, [.int ax, .int ay, .int aw, .int ah])), (q_9, .inr (2, [.int ox, .int oy, .int aw, .int ah]))]) [0, 1, 2, 3] rfl
      have hDc := hD.sub (ws' := [(h0, .inr (8, [.ref s1, .ref s2, .ref s3, .ref s4, .ref s5, .ref s6, .int ds, va_rf sp, va_rf bt])), (s1, .inl (cO, 4, .inr (.inr (.inr (.inr f))))), (q_7, .inr (2, [.int ax, .int ay, .int aw, .int ah])), (q_9, .inr (2, [.int ox, .int oy, .int aw, .int ah]))]) [0, 1, 2, 3] (by decide) rfl
      have hKc := hK.sub (tys' := [(cO, .object "DotBench$Sheet")]) [0] rfl
      have hFc := va_free (wc := [(h0, .inr (8, [.ref s1, .ref s2, .ref s3, .ref s4, .ref s5, .ref s6, .int ds, va_rf sp, va_rf bt])), (s1, .inl (cO, 4, .inr (.inr (.inr (.inr f))))), (q_7, .inr (2, [.int ax, .int ay, .int aw, .int ah])), (q_9, .inr (2, [.int ox, .int oy, .int aw, .int ah]))]) hD hS hA [0, 1, 2, 3] rfl
      refine va_calli (va_runV (As := [.int k, .ref q_7, .int kq, .ref q_9]) (rest := []) ⟨hx, hb, hml, hown, hts⟩ (k_X8_carry_nn l D H.size h0 s1 s2 s3 s4 s5 s6 ds sp bt f q_7 q_9 ax ay aw ah ox oy aw ah k kq cO (by first | assumption | omega | decide) (by first | assumption | omega | decide)) (cwV 4 hts (gV bw_318 bw_383 bw_384 bw_223 bw_382) rfl rfl rfl (by decide +kernel) ⟨(by rw [hR]; exact Nat.le_of_ble_eq_true rfl), (by rw [hR]; exact Nat.le_of_ble_eq_true rfl)⟩) ⟨cP_blind, va_recv hKc hPc (ci := 8) (q0 := 0) rfl rfl, cP_at hPc hKc hDc hN⟩ rfl rfl hl.1 rfl (lv_room (Nat.le_of_ble_eq_true rfl)) dX8_copy_56 ⟨(by rw [hR]; exact Nat.le_of_ble_eq_true rfl), (by rw [hR]; exact Nat.le_of_ble_eq_true rfl)⟩) hS (fun q _ h => hFc q h) hFc (fun r_11 u9 t9 H1 locs ht hvm hr_11 hB hz1 hk1 hS => ?_)
      try dsimp only at hr_11
      obtain ⟨hP1, hK1, hD1⟩ := hB
      rw [ht] at hP1
      obtain ⟨hP, hD⟩ := va_join (wr := []) (w1 := [(h0, .inr (8, [.ref s1, .ref s2, .ref s3, .ref s4, .ref s5, .ref s6, .int ds, va_rf sp, va_rf bt])), (s1, .inl (cO, 4, .inr (.inr (.inr (.inr f)))))]) hP hD [0, 1, 2, 3] [] rfl rfl (by decide) (by decide) hk1 hFc hP1 hD1
      clear hz1 hk1 hFc hKc hDc hPc
      generalize H1 = H at hP hS ⊢
      have hP : va_P D vwCl [(h0, .inr (8, [.ref s1, .ref s2, .ref s3, .ref s4, .ref s5, .ref s6, .int ds, va_rf sp, va_rf bt])), (s1, .inl (cO, 4, .inr (.inr (.inr (.inr f)))))] H := hP
      have hD : va_D A [(h0, .inr (8, [.ref s1, .ref s2, .ref s3, .ref s4, .ref s5, .ref s6, .int ds, va_rf sp, va_rf bt])), (s1, .inl (cO, 4, .inr (.inr (.inr (.inr f)))))] := hD
      subst hr_11
      have hP9 := hP.sub (ws' := [(h0, .inr (8, [.ref s1, .ref s2, .ref s3, .ref s4, .ref s5, .ref s6, .int ds, va_rf sp, va_rf bt])), (s1, .inl (cO, 4, .inr (.inr (.inr (.inr f)))))]) [0, 1] rfl
      have hD9 := hD.sub (ws' := [(h0, .inr (8, [.ref s1, .ref s2, .ref s3, .ref s4, .ref s5, .ref s6, .int ds, va_rf sp, va_rf bt])), (s1, .inl (cO, 4, .inr (.inr (.inr (.inr f)))))]) [0, 1] (by decide) rfl
      have hK9 := hK.sub (tys' := [(cO, .object "DotBench$Sheet")]) [0] rfl
      refine hQ _ _ _ _ _ ?_
      exact W.iret (v := (-1)) hx hb hr (fun t ht hW => ⟨⟨(-1), (), rfl, rfl, ⟨by rw [ht]; exact hP9, va_K.moved hW.alike hK9, hD9⟩⟩, hS.F ht⟩) hS.2.2 dX8_copy_59
    · skip
      have f_6 := bz0 hr_4 c_5
      exact False.elim (by omega)

set_option maxHeartbeats 4000000 in
set_option maxRecDepth 100000 in
theorem k_X8_copy_ny (l : Launch) (D : va_G) (sz : Nat) (h0 s1 s2 s3 s4 s5 s6 : Nat) (ds : Int32) (sp bt : Option Nat) (f : Nat → Option Nat) (t0 : Nat) (k ax ay aw ah kq ox oy : Int32) (cO : ClassId) (hsz : (0 ≤ aw.toInt ∧ aw.toInt ≤ 64) ∧ (0 ≤ ah.toInt ∧ ah.toInt ≤ 64)) (haf : 0 ≤ k.toInt ∧ k.toInt ≤ 3 → f k.toNatClampNeg = none) (hb0k : 0 ≤ kq.toInt ∧ kq.toInt ≤ 3) (hb0f : f kq.toNatClampNeg = some t0) : Met l yX8_copy (wB yX8_copy cX8_copy 9 (some .int)) ({ frames := 2, cells := 2, slots := 8, locals := 52 }) (cP D [(h0, .inr (8, [.ref s1, .ref s2, .ref s3, .ref s4, .ref s5, .ref s6, .int ds, va_rf sp, va_rf bt])), (s1, .inl (cO, 4, .inr (.inr (.inr (.inr f)))))] [(cO, .object "DotBench$Sheet")] sz [.ref h0, .int k, .int ax, .int ay, .int aw, .int ah, .int kq, .int ox, .int oy]) (va_Qi (fun (r : Int32) (_ : Unit) => r = -1) (fun (_ : Unit) (t : State) => cB D (va_A [(h0, .inr (8, [.ref s1, .ref s2, .ref s3, .ref s4, .ref s5, .ref s6, .int ds, va_rf sp, va_rf bt])), (s1, .inl (cO, 4, .inr (.inr (.inr (.inr f)))))] sz) [(h0, .inr (8, [.ref s1, .ref s2, .ref s3, .ref s4, .ref s5, .ref s6, .int ds, va_rf sp, va_rf bt])), (s1, .inl (cO, 4, .inr (.inr (.inr (.inr f)))))] [(cO, .object "DotBench$Sheet")] t) (va_A [(h0, .inr (8, [.ref s1, .ref s2, .ref s3, .ref s4, .ref s5, .ref s6, .int ds, va_rf sp, va_rf bt])), (s1, .inl (cO, 4, .inr (.inr (.inr (.inr f)))))] sz)) 2 8 (va_A [(h0, .inr (8, [.ref s1, .ref s2, .ref s3, .ref s4, .ref s5, .ref s6, .int ds, va_rf sp, va_rf bt])), (s1, .inl (cO, 4, .inr (.inr (.inr (.inr f)))))] sz) := by
  refine Met.ofW (cc := cX8_copy) (maxL := 9) (ret := (some .int)) (by decide) rfl ?_
  intro p e s m args below meth c s₁ B hml hv
  obtain ⟨rfl, hsz, hP, hK, hD0, hN⟩ := hv
  have hx := B.exec
  have hb := B.bytes
  have hr := B.returns
  have hts0 := atoms_spec (ws := (wB yX8_copy cX8_copy 9 (some .int))) B.pre
  have hts : ∀ w ∈ bigW, w.before _ s = true := fun w h => hts0 w (List.mem_cons_of_mem _ h)
  have hown : s.vm.findClass RX8 = some m.cls := findClass_of_methodNamed B.named
  have hlocks := B.notSynchronized
  subst hsz
  have hD := hD0.self (sz := s.heap.size)
  generalize hAe : va_A [(h0, .inr (8, [.ref s1, .ref s2, .ref s3, .ref s4, .ref s5, .ref s6, .int ds, va_rf sp, va_rf bt])), (s1, .inl (cO, 4, .inr (.inr (.inr (.inr f)))))] s.heap.size = A at hD ⊢
  have hA : ∀ q : Nat, s.heap.size ≤ q → A q := fun q h => by rw [← hAe]; exact Or.inr h
  have hS : va_S A s.heap s.heap [] := va_S.rf
  have hP : va_P D vwCl [(h0, .inr (8, [.ref s1, .ref s2, .ref s3, .ref s4, .ref s5, .ref s6, .int ds, va_rf sp, va_rf bt])), (s1, .inl (cO, 4, .inr (.inr (.inr (.inr f)))))] s.heap := hP
  have hl := lv_entry ([.ref h0, .int k, .int ax, .int ay, .int aw, .int ah, .int kq, .int ox, .int oy]) (n := 9) (Nat.le_of_ble_eq_true rfl)
  rw [lg_entry_eq]
  generalize (lg_sl ([.ref h0, .int k, .int ax, .int ay, .int aw, .int ah, .int kq, .int ox, .int oy]) ++ List.replicate (9 - (lg_sl ([.ref h0, .int k, .int ax, .int ay, .int aw, .int ah, .int kq, .int ox, .int oy])).length) Slot.unset).toArray = ls at hl ⊢
  have hl : lv_has ls 9 [(0, .ref h0), (1, .int k), (2, .int ax), (3, .int ay), (4, .int aw), (5, .int ah), (6, .int kq), (7, .int ox), (8, .int oy)] := hl
  clear hts0 hD0 hAe
  refine my_abs (fun R Q hR hQ => ?_)
  refine lv_iload hx hb dX8_copy_0 (lv_at hl 4 rfl) ?_
  refine lv_iconst (v := 0) hx hb dX8_copy_2 (by decide) ?_
  refine lv_bipush (v := 64) hx hb dX8_copy_3 (by decide) ?_
  have hPc := hP.sub (ws' := []) [] rfl
  have hDc := hD.sub (ws' := []) [] (by decide) rfl
  have hKc := hK.sub (tys' := []) [] rfl
  have hFc := va_free (wc := []) hD hS hA [] rfl
  refine va_calli (va_runS (As := [.int aw, .int 0, .int 64]) (rest := []) ⟨hx, hb, hml, hown, hts⟩ (k_X8_isWithin l D s.heap.size aw 0 64 0 64 (by decide) (by decide)) (va_cwS 3 hts (gS bw_256 bw_349 bw_223 bw_348) rfl rfl rfl (by decide +kernel) ⟨(by rw [hR]; exact Nat.le_of_ble_eq_true rfl), (by rw [hR]; exact Nat.le_of_ble_eq_true rfl)⟩) ⟨cP_blind, cP_at hPc hKc hDc hN⟩ rfl rfl hl.1 rfl (lv_room (Nat.le_of_ble_eq_true rfl)) dX8_copy_5 ⟨(by rw [hR]; exact Nat.le_of_ble_eq_true rfl), (by rw [hR]; exact Nat.le_of_ble_eq_true rfl)⟩) hS (fun q _ h => hFc q h) hFc (fun r_1 u9 t9 H1 locs ht hvm hr_1 hB hz1 hk1 hS => ?_)
  try dsimp only at hr_1
  have hP1 : va_P D vwCl [] H1 := vP_nil
  have hD1 : va_D (va_A [] s.heap.size) [] := vD_nil
  obtain ⟨hP, hD⟩ := va_join (wr := [(h0, .inr (8, [.ref s1, .ref s2, .ref s3, .ref s4, .ref s5, .ref s6, .int ds, va_rf sp, va_rf bt])), (s1, .inl (cO, 4, .inr (.inr (.inr (.inr f)))))]) (w1 := []) hP hD [] [0, 1] rfl rfl (by decide) (by decide) hk1 hFc hP1 hD1
  clear hz1 hk1 hFc hKc hDc hPc
  generalize H1 = H at hP hS ⊢
  have hP : va_P D vwCl [(h0, .inr (8, [.ref s1, .ref s2, .ref s3, .ref s4, .ref s5, .ref s6, .int ds, va_rf sp, va_rf bt])), (s1, .inl (cO, 4, .inr (.inr (.inr (.inr f)))))] H := hP
  have hD : va_D A [(h0, .inr (8, [.ref s1, .ref s2, .ref s3, .ref s4, .ref s5, .ref s6, .int ds, va_rf sp, va_rf bt])), (s1, .inl (cO, 4, .inr (.inr (.inr (.inr f)))))] := hD
  refine lv_if_eq (tgt := 22) hx hb dX8_copy_8 (by decide) (fun c_2 => ?_) (fun c_2 => ?_)
  · skip
    have f_3 := bz0 hr_1 c_2
    exact False.elim (by omega)
  · skip
    have f_3 := bz1 hr_1 c_2
    refine lv_iload hx hb dX8_copy_11 (lv_at hl 5 rfl) ?_
    refine lv_iconst (v := 0) hx hb dX8_copy_13 (by decide) ?_
    refine lv_bipush (v := 64) hx hb dX8_copy_14 (by decide) ?_
    have hPc := hP.sub (ws' := []) [] rfl
    have hDc := hD.sub (ws' := []) [] (by decide) rfl
    have hKc := hK.sub (tys' := []) [] rfl
    have hFc := va_free (wc := []) hD hS hA [] rfl
    refine va_calli (va_runS (As := [.int ah, .int 0, .int 64]) (rest := []) ⟨hx, hb, hml, hown, hts⟩ (k_X8_isWithin l D H.size ah 0 64 0 64 (by decide) (by decide)) (va_cwS 3 hts (gS bw_256 bw_349 bw_223 bw_348) rfl rfl rfl (by decide +kernel) ⟨(by rw [hR]; exact Nat.le_of_ble_eq_true rfl), (by rw [hR]; exact Nat.le_of_ble_eq_true rfl)⟩) ⟨cP_blind, cP_at hPc hKc hDc hN⟩ rfl rfl hl.1 rfl (lv_room (Nat.le_of_ble_eq_true rfl)) dX8_copy_16 ⟨(by rw [hR]; exact Nat.le_of_ble_eq_true rfl), (by rw [hR]; exact Nat.le_of_ble_eq_true rfl)⟩) hS (fun q _ h => hFc q h) hFc (fun r_4 u9 t9 H1 locs ht hvm hr_4 hB hz1 hk1 hS => ?_)
    try dsimp only at hr_4
    have hP1 : va_P D vwCl [] H1 := vP_nil
    have hD1 : va_D (va_A [] H.size) [] := vD_nil
    obtain ⟨hP, hD⟩ := va_join (wr := [(h0, .inr (8, [.ref s1, .ref s2, .ref s3, .ref s4, .ref s5, .ref s6, .int ds, va_rf sp, va_rf bt])), (s1, .inl (cO, 4, .inr (.inr (.inr (.inr f)))))]) (w1 := []) hP hD [] [0, 1] rfl rfl (by decide) (by decide) hk1 hFc hP1 hD1
    clear hz1 hk1 hFc hKc hDc hPc
    generalize H1 = H at hP hS ⊢
    have hP : va_P D vwCl [(h0, .inr (8, [.ref s1, .ref s2, .ref s3, .ref s4, .ref s5, .ref s6, .int ds, va_rf sp, va_rf bt])), (s1, .inl (cO, 4, .inr (.inr (.inr (.inr f)))))] H := hP
    have hD : va_D A [(h0, .inr (8, [.ref s1, .ref s2, .ref s3, .ref s4, .ref s5, .ref s6, .int ds, va_rf sp, va_rf bt])), (s1, .inl (cO, 4, .inr (.inr (.inr (.inr f)))))] := hD
    refine lv_if_ne (tgt := 24) hx hb dX8_copy_19 (by decide) (fun c_5 => ?_) (fun c_5 => ?_)
    · skip
      have f_6 := bz1 hr_4 c_5
      refine lv_aload_n hx hb dX8_copy_24 rfl (lv_at hl 0 rfl) ?_
      refine lv_iload_n hx hb dX8_copy_25 rfl (lv_at hl 1 rfl) ?_
      refine va_new (ci := 2) (fs := [.int 0, .int 0, .int 0, .int 0]) (C := RX2) (T := TX2) (N := 4) hx hb hts hi_X2 tyX2 tyX2_ok hown (hts _ bw_316) (hts _ bw_56) (hts _ bw_55) hK hP hD hS hA rfl z_X2 (by rw [hR]; exact Nat.le_of_ble_eq_true rfl) (by rw [hR]; exact Nat.le_of_ble_eq_true rfl) dX8_copy_26 (fun q_7 H hP hD hS => ?_)
      have hP : va_P D vwCl [(h0, .inr (8, [.ref s1, .ref s2, .ref s3, .ref s4, .ref s5, .ref s6, .int ds, va_rf sp, va_rf bt])), (s1, .inl (cO, 4, .inr (.inr (.inr (.inr f))))), (q_7, .inr (2, [.int 0, .int 0, .int 0, .int 0]))] H := hP
      have hD : va_D A [(h0, .inr (8, [.ref s1, .ref s2, .ref s3, .ref s4, .ref s5, .ref s6, .int ds, va_rf sp, va_rf bt])), (s1, .inl (cO, 4, .inr (.inr (.inr (.inr f))))), (q_7, .inr (2, [.int 0, .int 0, .int 0, .int 0]))] := hD
      refine W.widen (k := 1) (n := 4) (by omega) (by omega) ?_
      refine lv_dup hx hb dX8_copy_29 rfl ?_
      refine lv_iload_n hx hb dX8_copy_30 rfl (lv_at hl 2 rfl) ?_
      refine lv_iload_n hx hb dX8_copy_31 rfl (lv_at hl 3 rfl) ?_
      refine lv_iload hx hb dX8_copy_32 (lv_at hl 4 rfl) ?_
      refine lv_iload hx hb dX8_copy_34 (lv_at hl 5 rfl) ?_
      have hPc := hP.sub (ws' := [(q_7, .inr (2, [.int 0, .int 0, .int 0, .int 0]))]) [2] rfl
      have hDc := hD.sub (ws' := [(q_7, .inr (2, [.int 0, .int 0, .int 0, .int 0]))]) [2] (by decide) rfl
      have hKc := hK.sub (tys' := []) [] rfl
      have hFc := va_free (wc := [(q_7, .inr (2, [.int 0, .int 0, .int 0, .int 0]))]) hD hS hA [2] rfl
      refine va_callv (va_runI (As := [.int ax, .int ay, .int aw, .int ah]) (rest := [.ref q_7, .int k, .ref h0]) ⟨hx, hb, hml, hown, hts⟩ (k_X2_init l D H.size q_7 ax ay aw ah) (cwI 4 hts (gI bw_57) rfl rfl rfl (hts _ bw_55) (hts _ bw_317) (hts _ bw_58) rfl (by decide +kernel) ⟨(by rw [hR]; exact Nat.le_of_ble_eq_true rfl), (by rw [hR]; exact Nat.le_of_ble_eq_true rfl)⟩) ⟨cP_blind, cP_at hPc hKc hDc hN⟩ rfl rfl hl.1 rfl (lv_room (Nat.le_of_ble_eq_true rfl)) dX8_copy_36 ⟨(by rw [hR]; exact Nat.le_of_ble_eq_true rfl), (by rw [hR]; exact Nat.le_of_ble_eq_true rfl)⟩) hS (fun q _ h => hFc q h) hFc (fun u9 t9 H1 locs ht hvm hr_8 hB hz1 hk1 hS => ?_)
      try dsimp only at hr_8
      obtain ⟨hP1, hK1, hD1⟩ := hB
      rw [ht] at hP1
      obtain ⟨hP, hD⟩ := va_join (wr := [(h0, .inr (8, [.ref s1, .ref s2, .ref s3, .ref s4, .ref s5, .ref s6, .int ds, va_rf sp, va_rf bt])), (s1, .inl (cO, 4, .inr (.inr (.inr (.inr f)))))]) (w1 := [(q_7, .inr (2, [.int ax, .int ay, .int aw, .int ah]))]) hP hD [2] [0, 1] rfl rfl (by decide) (by decide) hk1 hFc hP1 hD1
      clear hz1 hk1 hFc hKc hDc hPc
      generalize H1 = H at hP hS ⊢
      have hP : va_P D vwCl [(h0, .inr (8, [.ref s1, .ref s2, .ref s3, .ref s4, .ref s5, .ref s6, .int ds, va_rf sp, va_rf bt])), (s1, .inl (cO, 4, .inr (.inr (.inr (.inr f))))), (q_7, .inr (2, [.int ax, .int ay, .int aw, .int ah]))] H := hP
      have hD : va_D A [(h0, .inr (8, [.ref s1, .ref s2, .ref s3, .ref s4, .ref s5, .ref s6, .int ds, va_rf sp, va_rf bt])), (s1, .inl (cO, 4, .inr (.inr (.inr (.inr f))))), (q_7, .inr (2, [.int ax, .int ay, .int aw, .int ah]))] := hD
      refine lv_iload hx hb dX8_copy_39 (lv_at hl 6 rfl) ?_
      refine va_new (ci := 2) (fs := [.int 0, .int 0, .int 0, .int 0]) (C := RX2) (T := TX2) (N := 4) hx hb hts hi_X2 tyX2 tyX2_ok hown (hts _ bw_316) (hts _ bw_56) (hts _ bw_55) hK hP hD hS hA rfl z_X2 (by rw [hR]; exact Nat.le_of_ble_eq_true rfl) (by rw [hR]; exact Nat.le_of_ble_eq_true rfl) dX8_copy_41 (fun q_9 H hP hD hS => ?_)
      have hP : va_P D vwCl [(h0, .inr (8, [.ref s1, .ref s2, .ref s3, .ref s4, .ref s5, .ref s6, .int ds, va_rf sp, va_rf bt])), (s1, .inl (cO, 4, .inr (.inr (.inr (.inr f))))), (q_7, .inr (2, [.int ax, .int ay, .int aw, .int ah])), (q_9, .inr (2, [.int 0, .int 0, .int 0, .int 0]))] H := hP
      have hD : va_D A [(h0, .inr (8, [.ref s1, .ref s2, .ref s3, .ref s4, .ref s5, .ref s6, .int ds, va_rf sp, va_rf bt])), (s1, .inl (cO, 4, .inr (.inr (.inr (.inr f))))), (q_7, .inr (2, [.int ax, .int ay, .int aw, .int ah])), (q_9, .inr (2, [.int 0, .int 0, .int 0, .int 0]))] := hD
      refine W.widen (k := 2) (n := 8) (by omega) (by omega) ?_
      refine lv_dup hx hb dX8_copy_44 rfl ?_
      refine lv_iload hx hb dX8_copy_45 (lv_at hl 7 rfl) ?_
      refine lv_iload hx hb dX8_copy_47 (lv_at hl 8 rfl) ?_
      refine lv_iload hx hb dX8_copy_49 (lv_at hl 4 rfl) ?_
      refine lv_iload hx hb dX8_copy_51 (lv_at hl 5 rfl) ?_
      have hPc := hP.sub (ws' := [(q_9, .inr (2, [.int 0, .int 0, .int 0, .int 0]))]) [3] rfl
      have hDc := hD.sub (ws' := [(q_9, .inr (2, [.int 0, .int 0, .int 0, .int 0]))]) [3] (by decide) rfl
      have hKc := hK.sub (tys' := []) [] rfl
      have hFc := va_free (wc := [(q_9, .inr (2, [.int 0, .int 0, .int 0, .int 0]))]) hD hS hA [3] rfl
      refine va_callv (va_runI (As := [.int ox, .int oy, .int aw, .int ah]) (rest := [.ref q_9, .int kq, .ref q_7, .int k, .ref h0]) ⟨hx, hb, hml, hown, hts⟩ (k_X2_init l D H.size q_9 ox oy aw ah) (cwI 4 hts (gI bw_57) rfl rfl rfl (hts _ bw_55) (hts _ bw_317) (hts _ bw_58) rfl (by decide +kernel) ⟨(by rw [hR]; exact Nat.le_of_ble_eq_true rfl), (by rw [hR]; exact Nat.le_of_ble_eq_true rfl)⟩) ⟨cP_blind, cP_at hPc hKc hDc hN⟩ rfl rfl hl.1 rfl (lv_room (Nat.le_of_ble_eq_true rfl)) dX8_copy_53 ⟨(by rw [hR]; exact Nat.le_of_ble_eq_true rfl), (by rw [hR]; exact Nat.le_of_ble_eq_true rfl)⟩) hS (fun q _ h => hFc q h) hFc (fun u9 t9 H1 locs ht hvm hr_10 hB hz1 hk1 hS => ?_)
      try dsimp only at hr_10
      obtain ⟨hP1, hK1, hD1⟩ := hB
      rw [ht] at hP1
      obtain ⟨hP, hD⟩ := va_join (wr := [(h0, .inr (8, [.ref s1, .ref s2, .ref s3, .ref s4, .ref s5, .ref s6, .int ds, va_rf sp, va_rf bt])), (s1, .inl (cO, 4, .inr (.inr (.inr (.inr f))))), (q_7, .inr (2, [.int ax, .int ay, .int aw, .int ah]))]) (w1 := [(q_9, .inr (2, [.int ox, .int oy, .int aw, .int ah]))]) hP hD [3] [0, 1, 2] rfl rfl (by decide) (by decide) hk1 hFc hP1 hD1
      clear hz1 hk1 hFc hKc hDc hPc
      generalize H1 = H at hP hS ⊢
      have hP : va_P D vwCl [(h0, .inr (8, [.ref s1, .ref s2, .ref s3, .ref s4, .ref s5, .ref s6, .int ds, va_rf sp, va_rf bt])), (s1, .inl (cO, 4, .inr (.inr (.inr (.inr f))))), (q_7, .inr (2, [.int ax, .int ay, .int aw, .int ah])), (q_9, .inr (2, [.int ox, .int oy, .int aw, .int ah]))] H := hP
      have hD : va_D A [(h0, .inr (8, [.ref s1, .ref s2, .ref s3, .ref s4, .ref s5, .ref s6, .int ds, va_rf sp, va_rf bt])), (s1, .inl (cO, 4, .inr (.inr (.inr (.inr f))))), (q_7, .inr (2, [.int ax, .int ay, .int aw, .int ah])), (q_9, .inr (2, [.int ox, .int oy, .int aw, .int ah]))] := hD
      have hPc := hP.sub (ws' := [(h0, .inr (8, [.ref s1, .ref s2, .ref s3, .ref s4, .ref s5, .ref s6, .int ds, va_rf sp, va_rf bt])), (s1, .inl (cO, 4, .inr (.inr (.inr (.inr f))))), (q_7, .inr (2, [.int ax, .int ay, .int aw, .int ah])), (q_9, .inr (2, [.int ox, .int oy, .int aw, .int ah]))]) [0, 1, 2, 3] rfl
      have hDc := hD.sub (ws' := [(h0, .inr (8, [.ref s1, .ref s2, .ref s3, .ref s4, .ref s5, .ref s6, .int ds, va_rf sp, va_rf bt])), (s1, .inl (cO, 4, .inr (.inr (.inr (.inr f))))), (q_7, .inr (2, [.int ax, .int ay, .int aw, .int ah])), (q_9, .inr (2, [.int ox, .int oy, .int aw, .int ah]))]) [0, 1, 2, 3] (by decide) rfl
      have hKc := hK.sub (tys' := [(cO, .object "DotBench$Sheet")]) [0] rfl
      have hFc := va_free (wc := [(h0, .inr (8, [.ref s1, .ref s2, .ref s3, .ref s4, .ref s5, .ref s6, .int ds, va_rf sp, va_rf bt])), (s1, .inl (cO, 4, .inr (.inr (.inr (.inr f))))), (q_7, .inr (2, [.int ax, .int ay, .int aw, .int ah])), (q_9, .inr (2, [.int ox, .int oy, .int aw, .int ah]))]) hD hS hA [0, 1, 2, 3] rfl
      refine va_calli (va_runV (As := [.int k, .ref q_7, .int kq, .ref q_9]) (rest := []) ⟨hx, hb, hml, hown, hts⟩ (k_X8_carry_ny l D H.size h0 s1 s2 s3 s4 s5 s6 ds sp bt f t0 q_7 q_9 ax ay aw ah ox oy aw ah k kq cO (by first | assumption | omega | decide) (by first | assumption | omega | decide) (by first | assumption | omega | decide)) (cwV 4 hts (gV bw_318 bw_383 bw_384 bw_223 bw_382) rfl rfl rfl (by decide +kernel) ⟨(by rw [hR]; exact Nat.le_of_ble_eq_true rfl), (by rw [hR]; exact Nat.le_of_ble_eq_true rfl)⟩) ⟨cP_blind, va_recv hKc hPc (ci := 8) (q0 := 0) rfl rfl, cP_at hPc hKc hDc hN⟩ rfl rfl hl.1 rfl (lv_room (Nat.le_of_ble_eq_true rfl)) dX8_copy_56 ⟨(by rw [hR]; exact Nat.le_of_ble_eq_true rfl), (by rw [hR]; exact Nat.le_of_ble_eq_true rfl)⟩) hS (fun q _ h => hFc q h) hFc (fun r_11 u9 t9 H1 locs ht hvm hr_11 hB hz1 hk1 hS => ?_)
      try dsimp only at hr_11
      obtain ⟨hP1, hK1, hD1⟩ := hB
      rw [ht] at hP1
      obtain ⟨hP, hD⟩ := va_join (wr := []) (w1 := [(h0, .inr (8, [.ref s1, .ref s2, .ref s3, .ref s4, .ref s5, .ref s6, .int ds, va_rf sp, va_rf bt])), (s1, .inl (cO, 4, .inr (.inr (.inr (.inr f)))))]) hP hD [0, 1, 2, 3] [] rfl rfl (by decide) (by decide) hk1 hFc hP1 hD1
      clear hz1 hk1 hFc hKc hDc hPc
      generalize H1 = H at hP hS ⊢
      have hP : va_P D vwCl [(h0, .inr (8, [.ref s1, .ref s2, .ref s3, .ref s4, .ref s5, .ref s6, .int ds, va_rf sp, va_rf bt])), (s1, .inl (cO, 4, .inr (.inr (.inr (.inr f)))))] H := hP
      have hD : va_D A [(h0, .inr (8, [.ref s1, .ref s2, .ref s3, .ref s4, .ref s5, .ref s6, .int ds, va_rf sp, va_rf bt])), (s1, .inl (cO, 4, .inr (.inr (.inr (.inr f)))))] := hD
      subst hr_11
      have hP9 := hP.sub (ws' := [(h0, .inr (8, [.ref s1, .ref s2, .ref s3, .ref s4, .ref s5, .ref s6, .int ds, va_rf sp, va_rf bt])), (s1, .inl (cO, 4, .inr (.inr (.inr (.inr f)))))]) [0, 1] rfl
      have hD9 := hD.sub (ws' := [(h0, .inr (8, [.ref s1, .ref s2, .ref s3, .ref s4, .ref s5, .ref s6, .int ds, va_rf sp, va_rf bt])), (s1, .inl (cO, 4, .inr (.inr (.inr (.inr f)))))]) [0, 1] (by decide) rfl
      have hK9 := hK.sub (tys' := [(cO, .object "DotBench$Sheet")]) [0] rfl
      refine hQ _ _ _ _ _ ?_
      exact W.iret (v := (-1)) hx hb hr (fun t ht hW => ⟨⟨(-1), (), rfl, rfl, ⟨by rw [ht]; exact hP9, va_K.moved hW.alike hK9, hD9⟩⟩, hS.F ht⟩) hS.2.2 dX8_copy_59
    · skip
      have f_6 := bz0 hr_4 c_5
      exact False.elim (by omega)

set_option maxHeartbeats 4000000 in
set_option maxRecDepth 100000 in
theorem k_X8_copy_yn (l : Launch) (D : va_G) (sz : Nat) (h0 s1 s2 s3 s4 s5 s6 : Nat) (ds : Int32) (sp bt : Option Nat) (f : Nat → Option Nat) (u0 : Nat) (k ax ay aw ah kq ox oy : Int32) (cO : ClassId) (hsz : (0 ≤ aw.toInt ∧ aw.toInt ≤ 64) ∧ (0 ≤ ah.toInt ∧ ah.toInt ≤ 64)) (hak : 0 ≤ k.toInt ∧ k.toInt ≤ 3) (haf : f k.toNatClampNeg = some u0) (hb0f : 0 ≤ kq.toInt ∧ kq.toInt ≤ 3 → f kq.toNatClampNeg = none) : Met l yX8_copy (wB yX8_copy cX8_copy 9 (some .int)) ({ frames := 2, cells := 2, slots := 8, locals := 52 }) (cP D [(h0, .inr (8, [.ref s1, .ref s2, .ref s3, .ref s4, .ref s5, .ref s6, .int ds, va_rf sp, va_rf bt])), (s1, .inl (cO, 4, .inr (.inr (.inr (.inr f)))))] [(cO, .object "DotBench$Sheet")] sz [.ref h0, .int k, .int ax, .int ay, .int aw, .int ah, .int kq, .int ox, .int oy]) (va_Qi (fun (r : Int32) (_ : Unit) => r = -1) (fun (_ : Unit) (t : State) => cB D (va_A [(h0, .inr (8, [.ref s1, .ref s2, .ref s3, .ref s4, .ref s5, .ref s6, .int ds, va_rf sp, va_rf bt])), (s1, .inl (cO, 4, .inr (.inr (.inr (.inr f)))))] sz) [(h0, .inr (8, [.ref s1, .ref s2, .ref s3, .ref s4, .ref s5, .ref s6, .int ds, va_rf sp, va_rf bt])), (s1, .inl (cO, 4, .inr (.inr (.inr (.inr f)))))] [(cO, .object "DotBench$Sheet")] t) (va_A [(h0, .inr (8, [.ref s1, .ref s2, .ref s3, .ref s4, .ref s5, .ref s6, .int ds, va_rf sp, va_rf bt])), (s1, .inl (cO, 4, .inr (.inr (.inr (.inr f)))))] sz)) 2 8 (va_A [(h0, .inr (8, [.ref s1, .ref s2, .ref s3, .ref s4, .ref s5, .ref s6, .int ds, va_rf sp, va_rf bt])), (s1, .inl (cO, 4, .inr (.inr (.inr (.inr f)))))] sz) := by
  refine Met.ofW (cc := cX8_copy) (maxL := 9) (ret := (some .int)) (by decide) rfl ?_
  intro p e s m args below meth c s₁ B hml hv
  obtain ⟨rfl, hsz, hP, hK, hD0, hN⟩ := hv
  have hx := B.exec
  have hb := B.bytes
  have hr := B.returns
  have hts0 := atoms_spec (ws := (wB yX8_copy cX8_copy 9 (some .int))) B.pre
  have hts : ∀ w ∈ bigW, w.before _ s = true := fun w h => hts0 w (List.mem_cons_of_mem _ h)
  have hown : s.vm.findClass RX8 = some m.cls := findClass_of_methodNamed B.named
  have hlocks := B.notSynchronized
  subst hsz
  have hD := hD0.self (sz := s.heap.size)
  generalize hAe : va_A [(h0, .inr (8, [.ref s1, .ref s2, .ref s3, .ref s4, .ref s5, .ref s6, .int ds, va_rf sp, va_rf bt])), (s1, .inl (cO, 4, .inr (.inr (.inr (.inr f)))))] s.heap.size = A at hD ⊢
  have hA : ∀ q : Nat, s.heap.size ≤ q → A q := fun q h => by rw [← hAe]; exact Or.inr h
  have hS : va_S A s.heap s.heap [] := va_S.rf
  have hP : va_P D vwCl [(h0, .inr (8, [.ref s1, .ref s2, .ref s3, .ref s4, .ref s5, .ref s6, .int ds, va_rf sp, va_rf bt])), (s1, .inl (cO, 4, .inr (.inr (.inr (.inr f)))))] s.heap := hP
  have hl := lv_entry ([.ref h0, .int k, .int ax, .int ay, .int aw, .int ah, .int kq, .int ox, .int oy]) (n := 9) (Nat.le_of_ble_eq_true rfl)
  rw [lg_entry_eq]
  generalize (lg_sl ([.ref h0, .int k, .int ax, .int ay, .int aw, .int ah, .int kq, .int ox, .int oy]) ++ List.replicate (9 - (lg_sl ([.ref h0, .int k, .int ax, .int ay, .int aw, .int ah, .int kq, .int ox, .int oy])).length) Slot.unset).toArray = ls at hl ⊢
  have hl : lv_has ls 9 [(0, .ref h0), (1, .int k), (2, .int ax), (3, .int ay), (4, .int aw), (5, .int ah), (6, .int kq), (7, .int ox), (8, .int oy)] := hl
  clear hts0 hD0 hAe
  refine my_abs (fun R Q hR hQ => ?_)
  refine lv_iload hx hb dX8_copy_0 (lv_at hl 4 rfl) ?_
  refine lv_iconst (v := 0) hx hb dX8_copy_2 (by decide) ?_
  refine lv_bipush (v := 64) hx hb dX8_copy_3 (by decide) ?_
  have hPc := hP.sub (ws' := []) [] rfl
  have hDc := hD.sub (ws' := []) [] (by decide) rfl
  have hKc := hK.sub (tys' := []) [] rfl
  have hFc := va_free (wc := []) hD hS hA [] rfl
  refine va_calli (va_runS (As := [.int aw, .int 0, .int 64]) (rest := []) ⟨hx, hb, hml, hown, hts⟩ (k_X8_isWithin l D s.heap.size aw 0 64 0 64 (by decide) (by decide)) (va_cwS 3 hts (gS bw_256 bw_349 bw_223 bw_348) rfl rfl rfl (by decide +kernel) ⟨(by rw [hR]; exact Nat.le_of_ble_eq_true rfl), (by rw [hR]; exact Nat.le_of_ble_eq_true rfl)⟩) ⟨cP_blind, cP_at hPc hKc hDc hN⟩ rfl rfl hl.1 rfl (lv_room (Nat.le_of_ble_eq_true rfl)) dX8_copy_5 ⟨(by rw [hR]; exact Nat.le_of_ble_eq_true rfl), (by rw [hR]; exact Nat.le_of_ble_eq_true rfl)⟩) hS (fun q _ h => hFc q h) hFc (fun r_1 u9 t9 H1 locs ht hvm hr_1 hB hz1 hk1 hS => ?_)
  try dsimp only at hr_1
  have hP1 : va_P D vwCl [] H1 := vP_nil
  have hD1 : va_D (va_A [] s.heap.size) [] := vD_nil
  obtain ⟨hP, hD⟩ := va_join (wr := [(h0, .inr (8, [.ref s1, .ref s2, .ref s3, .ref s4, .ref s5, .ref s6, .int ds, va_rf sp, va_rf bt])), (s1, .inl (cO, 4, .inr (.inr (.inr (.inr f)))))]) (w1 := []) hP hD [] [0, 1] rfl rfl (by decide) (by decide) hk1 hFc hP1 hD1
  clear hz1 hk1 hFc hKc hDc hPc
  generalize H1 = H at hP hS ⊢
  have hP : va_P D vwCl [(h0, .inr (8, [.ref s1, .ref s2, .ref s3, .ref s4, .ref s5, .ref s6, .int ds, va_rf sp, va_rf bt])), (s1, .inl (cO, 4, .inr (.inr (.inr (.inr f)))))] H := hP
  have hD : va_D A [(h0, .inr (8, [.ref s1, .ref s2, .ref s3, .ref s4, .ref s5, .ref s6, .int ds, va_rf sp, va_rf bt])), (s1, .inl (cO, 4, .inr (.inr (.inr (.inr f)))))] := hD
  refine lv_if_eq (tgt := 22) hx hb dX8_copy_8 (by decide) (fun c_2 => ?_) (fun c_2 => ?_)
  · skip
    have f_3 := bz0 hr_1 c_2
    exact False.elim (by omega)
  · skip
    have f_3 := bz1 hr_1 c_2
    refine lv_iload hx hb dX8_copy_11 (lv_at hl 5 rfl) ?_
    refine lv_iconst (v := 0) hx hb dX8_copy_13 (by decide) ?_
    refine lv_bipush (v := 64) hx hb dX8_copy_14 (by decide) ?_
    have hPc := hP.sub (ws' := []) [] rfl
    have hDc := hD.sub (ws' := []) [] (by decide) rfl
    have hKc := hK.sub (tys' := []) [] rfl
    have hFc := va_free (wc := []) hD hS hA [] rfl
    refine va_calli (va_runS (As := [.int ah, .int 0, .int 64]) (rest := []) ⟨hx, hb, hml, hown, hts⟩ (k_X8_isWithin l D H.size ah 0 64 0 64 (by decide) (by decide)) (va_cwS 3 hts (gS bw_256 bw_349 bw_223 bw_348) rfl rfl rfl (by decide +kernel) ⟨(by rw [hR]; exact Nat.le_of_ble_eq_true rfl), (by rw [hR]; exact Nat.le_of_ble_eq_true rfl)⟩) ⟨cP_blind, cP_at hPc hKc hDc hN⟩ rfl rfl hl.1 rfl (lv_room (Nat.le_of_ble_eq_true rfl)) dX8_copy_16 ⟨(by rw [hR]; exact Nat.le_of_ble_eq_true rfl), (by rw [hR]; exact Nat.le_of_ble_eq_true rfl)⟩) hS (fun q _ h => hFc q h) hFc (fun r_4 u9 t9 H1 locs ht hvm hr_4 hB hz1 hk1 hS => ?_)
    try dsimp only at hr_4
    have hP1 : va_P D vwCl [] H1 := vP_nil
    have hD1 : va_D (va_A [] H.size) [] := vD_nil
    obtain ⟨hP, hD⟩ := va_join (wr := [(h0, .inr (8, [.ref s1, .ref s2, .ref s3, .ref s4, .ref s5, .ref s6, .int ds, va_rf sp, va_rf bt])), (s1, .inl (cO, 4, .inr (.inr (.inr (.inr f)))))]) (w1 := []) hP hD [] [0, 1] rfl rfl (by decide) (by decide) hk1 hFc hP1 hD1
    clear hz1 hk1 hFc hKc hDc hPc
    generalize H1 = H at hP hS ⊢
    have hP : va_P D vwCl [(h0, .inr (8, [.ref s1, .ref s2, .ref s3, .ref s4, .ref s5, .ref s6, .int ds, va_rf sp, va_rf bt])), (s1, .inl (cO, 4, .inr (.inr (.inr (.inr f)))))] H := hP
    have hD : va_D A [(h0, .inr (8, [.ref s1, .ref s2, .ref s3, .ref s4, .ref s5, .ref s6, .int ds, va_rf sp, va_rf bt])), (s1, .inl (cO, 4, .inr (.inr (.inr (.inr f)))))] := hD
    refine lv_if_ne (tgt := 24) hx hb dX8_copy_19 (by decide) (fun c_5 => ?_) (fun c_5 => ?_)
    · skip
      have f_6 := bz1 hr_4 c_5
      refine lv_aload_n hx hb dX8_copy_24 rfl (lv_at hl 0 rfl) ?_
      refine lv_iload_n hx hb dX8_copy_25 rfl (lv_at hl 1 rfl) ?_
      refine va_new (ci := 2) (fs := [.int 0, .int 0, .int 0, .int 0]) (C := RX2) (T := TX2) (N := 4) hx hb hts hi_X2 tyX2 tyX2_ok hown (hts _ bw_316) (hts _ bw_56) (hts _ bw_55) hK hP hD hS hA rfl z_X2 (by rw [hR]; exact Nat.le_of_ble_eq_true rfl) (by rw [hR]; exact Nat.le_of_ble_eq_true rfl) dX8_copy_26 (fun q_7 H hP hD hS => ?_)
      have hP : va_P D vwCl [(h0, .inr (8, [.ref s1, .ref s2, .ref s3, .ref s4, .ref s5, .ref s6, .int ds, va_rf sp, va_rf bt])), (s1, .inl (cO, 4, .inr (.inr (.inr (.inr f))))), (q_7, .inr (2, [.int 0, .int 0, .int 0, .int 0]))] H := hP
      have hD : va_D A [(h0, .inr (8, [.ref s1, .ref s2, .ref s3, .ref s4, .ref s5, .ref s6, .int ds, va_rf sp, va_rf bt])), (s1, .inl (cO, 4, .inr (.inr (.inr (.inr f))))), (q_7, .inr (2, [.int 0, .int 0, .int 0, .int 0]))] := hD
      refine W.widen (k := 1) (n := 4) (by omega) (by omega) ?_
      refine lv_dup hx hb dX8_copy_29 rfl ?_
      refine lv_iload_n hx hb dX8_copy_30 rfl (lv_at hl 2 rfl) ?_
      refine lv_iload_n hx hb dX8_copy_31 rfl (lv_at hl 3 rfl) ?_
      refine lv_iload hx hb dX8_copy_32 (lv_at hl 4 rfl) ?_
      refine lv_iload hx hb dX8_copy_34 (lv_at hl 5 rfl) ?_
      have hPc := hP.sub (ws' := [(q_7, .inr (2, [.int 0, .int 0, .int 0, .int 0]))]) [2] rfl
      have hDc := hD.sub (ws' := [(q_7, .inr (2, [.int 0, .int 0, .int 0, .int 0]))]) [2] (by decide) rfl
      have hKc := hK.sub (tys' := []) [] rfl
      have hFc := va_free (wc := [(q_7, .inr (2, [.int 0, .int 0, .int 0, .int 0]))]) hD hS hA [2] rfl
      refine va_callv (va_runI (As := [.int ax, .int ay, .int aw, .int ah]) (rest := [.ref q_7, .int k, .ref h0]) ⟨hx, hb, hml, hown, hts⟩ (k_X2_init l D H.size q_7 ax ay aw ah) (cwI 4 hts (gI bw_57) rfl rfl rfl (hts _ bw_55) (hts _ bw_317) (hts _ bw_58) rfl (by decide +kernel) ⟨(by rw [hR]; exact Nat.le_of_ble_eq_true rfl), (by rw [hR]; exact Nat.le_of_ble_eq_true rfl)⟩) ⟨cP_blind, cP_at hPc hKc hDc hN⟩ rfl rfl hl.1 rfl (lv_room (Nat.le_of_ble_eq_true rfl)) dX8_copy_36 ⟨(by rw [hR]; exact Nat.le_of_ble_eq_true rfl), (by rw [hR]; exact Nat.le_of_ble_eq_true rfl)⟩) hS (fun q _ h => hFc q h) hFc (fun u9 t9 H1 locs ht hvm hr_8 hB hz1 hk1 hS => ?_)
      try dsimp only at hr_8
      obtain ⟨hP1, hK1, hD1⟩ := hB
      rw [ht] at hP1
      obtain ⟨hP, hD⟩ := va_join (wr := [(h0, .inr (8, [.ref s1, .ref s2, .ref s3, .ref s4, .ref s5, .ref s6, .int ds, va_rf sp, va_rf bt])), (s1, .inl (cO, 4, .inr (.inr (.inr (.inr f)))))]) (w1 := [(q_7, .inr (2, [.int ax, .int ay, .int aw, .int ah]))]) hP hD [2] [0, 1] rfl rfl (by decide) (by decide) hk1 hFc hP1 hD1
      clear hz1 hk1 hFc hKc hDc hPc
      generalize H1 = H at hP hS ⊢
      have hP : va_P D vwCl [(h0, .inr (8, [.ref s1, .ref s2, .ref s3, .ref s4, .ref s5, .ref s6, .int ds, va_rf sp, va_rf bt])), (s1, .inl (cO, 4, .inr (.inr (.inr (.inr f))))), (q_7, .inr (2, [.int ax, .int ay, .int aw, .int ah]))] H := hP
      have hD : va_D A [(h0, .inr (8, [.ref s1, .ref s2, .ref s3, .ref s4, .ref s5, .ref s6, .int ds, va_rf sp, va_rf bt])), (s1, .inl (cO, 4, .inr (.inr (.inr (.inr f))))), (q_7, .inr (2, [.int ax, .int ay, .int aw, .int ah]))] := hD
      refine lv_iload hx hb dX8_copy_39 (lv_at hl 6 rfl) ?_
      refine va_new (ci := 2) (fs := [.int 0, .int 0, .int 0, .int 0]) (C := RX2) (T := TX2) (N := 4) hx hb hts hi_X2 tyX2 tyX2_ok hown (hts _ bw_316) (hts _ bw_56) (hts _ bw_55) hK hP hD hS hA rfl z_X2 (by rw [hR]; exact Nat.le_of_ble_eq_true rfl) (by rw [hR]; exact Nat.le_of_ble_eq_true rfl) dX8_copy_41 (fun q_9 H hP hD hS => ?_)
      have hP : va_P D vwCl [(h0, .inr (8, [.ref s1, .ref s2, .ref s3, .ref s4, .ref s5, .ref s6, .int ds, va_rf sp, va_rf bt])), (s1, .inl (cO, 4, .inr (.inr (.inr (.inr f))))), (q_7, .inr (2, [.int ax, .int ay, .int aw, .int ah])), (q_9, .inr (2, [.int 0, .int 0, .int 0, .int 0]))] H := hP
      have hD : va_D A [(h0, .inr (8, [.ref s1, .ref s2, .ref s3, .ref s4, .ref s5, .ref s6, .int ds, va_rf sp, va_rf bt])), (s1, .inl (cO, 4, .inr (.inr (.inr (.inr f))))), (q_7, .inr (2, [.int ax, .int ay, .int aw, .int ah])), (q_9, .inr (2, [.int 0, .int 0, .int 0, .int 0]))] := hD
      refine W.widen (k := 2) (n := 8) (by omega) (by omega) ?_
      refine lv_dup hx hb dX8_copy_44 rfl ?_
      refine lv_iload hx hb dX8_copy_45 (lv_at hl 7 rfl) ?_
      refine lv_iload hx hb dX8_copy_47 (lv_at hl 8 rfl) ?_
      refine lv_iload hx hb dX8_copy_49 (lv_at hl 4 rfl) ?_
      refine lv_iload hx hb dX8_copy_51 (lv_at hl 5 rfl) ?_
      have hPc := hP.sub (ws' := [(q_9, .inr (2, [.int 0, .int 0, .int 0, .int 0]))]) [3] rfl
      have hDc := hD.sub (ws' := [(q_9, .inr (2, [.int 0, .int 0, .int 0, .int 0]))]) [3] (by decide) rfl
      have hKc := hK.sub (tys' := []) [] rfl
      have hFc := va_free (wc := [(q_9, .inr (2, [.int 0, .int 0, .int 0, .int 0]))]) hD hS hA [3] rfl
      refine va_callv (va_runI (As := [.int ox, .int oy, .int aw, .int ah]) (rest := [.ref q_9, .int kq, .ref q_7, .int k, .ref h0]) ⟨hx, hb, hml, hown, hts⟩ (k_X2_init l D H.size q_9 ox oy aw ah) (cwI 4 hts (gI bw_57) rfl rfl rfl (hts _ bw_55) (hts _ bw_317) (hts _ bw_58) rfl (by decide +kernel) ⟨(by rw [hR]; exact Nat.le_of_ble_eq_true rfl), (by rw [hR]; exact Nat.le_of_ble_eq_true rfl)⟩) ⟨cP_blind, cP_at hPc hKc hDc hN⟩ rfl rfl hl.1 rfl (lv_room (Nat.le_of_ble_eq_true rfl)) dX8_copy_53 ⟨(by rw [hR]; exact Nat.le_of_ble_eq_true rfl), (by rw [hR]; exact Nat.le_of_ble_eq_true rfl)⟩) hS (fun q _ h => hFc q h) hFc (fun u9 t9 H1 locs ht hvm hr_10 hB hz1 hk1 hS => ?_)
      try dsimp only at hr_10
      obtain ⟨hP1, hK1, hD1⟩ := hB
      rw [ht] at hP1
      obtain ⟨hP, hD⟩ := va_join (wr := [(h0, .inr (8, [.ref s1, .ref s2, .ref s3, .ref s4, .ref s5, .ref s6, .int ds, va_rf sp, va_rf bt])), (s1, .inl (cO, 4, .inr (.inr (.inr (.inr f))))), (q_7, .inr (2, [.int ax, .int ay, .int aw, .int ah]))]) (w1 := [(q_9, .inr (2, [.int ox, .int oy, .int aw, .int ah]))]) hP hD [3] [0, 1, 2] rfl rfl (by decide) (by decide) hk1 hFc hP1 hD1
      clear hz1 hk1 hFc hKc hDc hPc
      generalize H1 = H at hP hS ⊢
      have hP : va_P D vwCl [(h0, .inr (8, [.ref s1, .ref s2, .ref s3, .ref s4, .ref s5, .ref s6, .int ds, va_rf sp, va_rf bt])), (s1, .inl (cO, 4, .inr (.inr (.inr (.inr f))))), (q_7, .inr (2, [.int ax, .int ay, .int aw, .int ah])), (q_9, .inr (2, [.int ox, .int oy, .int aw, .int ah]))] H := hP
      have hD : va_D A [(h0, .inr (8, [.ref s1, .ref s2, .ref s3, .ref s4, .ref s5, .ref s6, .int ds, va_rf sp, va_rf bt])), (s1, .inl (cO, 4, .inr (.inr (.inr (.inr f))))), (q_7, .inr (2, [.int ax, .int ay, .int aw, .int ah])), (q_9, .inr (2, [.int ox, .int oy, .int aw, .int ah]))] := hD
      have hPc := hP.sub (ws' := [(h0, .inr (8, [.ref s1, .ref s2, .ref s3, .ref s4, .ref s5, .ref s6, .int ds, va_rf sp, va_rf bt])), (s1, .inl (cO, 4, .inr (.inr (.inr (.inr f))))), (q_7, .inr (2, [.int ax, .int ay, .int aw, .int ah])), (q_9, .inr (2, [.int ox, .int oy, .int aw, .int ah]))]) [0, 1, 2, 3] rfl
      have hDc := hD.sub (ws' := [(h0, .inr (8, [.ref s1, .ref s2, .ref s3, .ref s4, .ref s5, .ref s6, .int ds, va_rf sp, va_rf bt])), (s1, .inl (cO, 4, .inr (.inr (.inr (.inr f))))), (q_7, .inr (2, [.int ax, .int ay, .int aw, .int ah])), (q_9, .inr (2, [.int ox, .int oy, .int aw, .int ah]))]) [0, 1, 2, 3] (by decide) rfl
      have hKc := hK.sub (tys' := [(cO, .object "DotBench$Sheet")]) [0] rfl
      have hFc := va_free (wc := [(h0, .inr (8, [.ref s1, .ref s2, .ref s3, .ref s4, .ref s5, .ref s6, .int ds, va_rf sp, va_rf bt])), (s1, .inl (cO, 4, .inr (.inr (.inr (.inr f))))), (q_7, .inr (2, [.int ax, .int ay, .int aw, .int ah])), (q_9, .inr (2, [.int ox, .int oy, .int aw, .int ah]))]) hD hS hA [0, 1, 2, 3] rfl
      refine va_calli (va_runV (As := [.int k, .ref q_7, .int kq, .ref q_9]) (rest := []) ⟨hx, hb, hml, hown, hts⟩ (k_X8_carry_yn l D H.size h0 s1 s2 s3 s4 s5 s6 ds sp bt f u0 q_7 q_9 ax ay aw ah ox oy aw ah k kq cO (by first | assumption | omega | decide) (by first | assumption | omega | decide) (by first | assumption | omega | decide)) (cwV 4 hts (gV bw_318 bw_383 bw_384 bw_223 bw_382) rfl rfl rfl (by decide +kernel) ⟨(by rw [hR]; exact Nat.le_of_ble_eq_true rfl), (by rw [hR]; exact Nat.le_of_ble_eq_true rfl)⟩) ⟨cP_blind, va_recv hKc hPc (ci := 8) (q0 := 0) rfl rfl, cP_at hPc hKc hDc hN⟩ rfl rfl hl.1 rfl (lv_room (Nat.le_of_ble_eq_true rfl)) dX8_copy_56 ⟨(by rw [hR]; exact Nat.le_of_ble_eq_true rfl), (by rw [hR]; exact Nat.le_of_ble_eq_true rfl)⟩) hS (fun q _ h => hFc q h) hFc (fun r_11 u9 t9 H1 locs ht hvm hr_11 hB hz1 hk1 hS => ?_)
      try dsimp only at hr_11
      obtain ⟨hP1, hK1, hD1⟩ := hB
      rw [ht] at hP1
      obtain ⟨hP, hD⟩ := va_join (wr := []) (w1 := [(h0, .inr (8, [.ref s1, .ref s2, .ref s3, .ref s4, .ref s5, .ref s6, .int ds, va_rf sp, va_rf bt])), (s1, .inl (cO, 4, .inr (.inr (.inr (.inr f)))))]) hP hD [0, 1, 2, 3] [] rfl rfl (by decide) (by decide) hk1 hFc hP1 hD1
      clear hz1 hk1 hFc hKc hDc hPc
      generalize H1 = H at hP hS ⊢
      have hP : va_P D vwCl [(h0, .inr (8, [.ref s1, .ref s2, .ref s3, .ref s4, .ref s5, .ref s6, .int ds, va_rf sp, va_rf bt])), (s1, .inl (cO, 4, .inr (.inr (.inr (.inr f)))))] H := hP
      have hD : va_D A [(h0, .inr (8, [.ref s1, .ref s2, .ref s3, .ref s4, .ref s5, .ref s6, .int ds, va_rf sp, va_rf bt])), (s1, .inl (cO, 4, .inr (.inr (.inr (.inr f)))))] := hD
      subst hr_11
      have hP9 := hP.sub (ws' := [(h0, .inr (8, [.ref s1, .ref s2, .ref s3, .ref s4, .ref s5, .ref s6, .int ds, va_rf sp, va_rf bt])), (s1, .inl (cO, 4, .inr (.inr (.inr (.inr f)))))]) [0, 1] rfl
      have hD9 := hD.sub (ws' := [(h0, .inr (8, [.ref s1, .ref s2, .ref s3, .ref s4, .ref s5, .ref s6, .int ds, va_rf sp, va_rf bt])), (s1, .inl (cO, 4, .inr (.inr (.inr (.inr f)))))]) [0, 1] (by decide) rfl
      have hK9 := hK.sub (tys' := [(cO, .object "DotBench$Sheet")]) [0] rfl
      refine hQ _ _ _ _ _ ?_
      exact W.iret (v := (-1)) hx hb hr (fun t ht hW => ⟨⟨(-1), (), rfl, rfl, ⟨by rw [ht]; exact hP9, va_K.moved hW.alike hK9, hD9⟩⟩, hS.F ht⟩) hS.2.2 dX8_copy_59
    · skip
      have f_6 := bz0 hr_4 c_5
      exact False.elim (by omega)

set_option maxHeartbeats 4000000 in
set_option maxRecDepth 100000 in
theorem k_X8_copy_x (l : Launch) (D : va_G) (sz : Nat) (h0 s1 s2 s3 s4 s5 s6 : Nat) (ds : Int32) (sp bt : Option Nat) (f : Nat → Option Nat) (u0 t0 : Nat) (k ax ay aw ah kq ox oy : Int32) (cO : ClassId) (hsz : (0 ≤ aw.toInt ∧ aw.toInt ≤ 64) ∧ (0 ≤ ah.toInt ∧ ah.toInt ≤ 64)) (hak : 0 ≤ k.toInt ∧ k.toInt ≤ 3) (haf : f k.toNatClampNeg = some u0) (hb0k : 0 ≤ kq.toInt ∧ kq.toInt ≤ 3) (hb0f : f kq.toNatClampNeg = some t0) (hnr : ¬ ((-200 ≤ ax.toInt ∧ ax.toInt ≤ 200) ∧ (-200 ≤ ay.toInt ∧ ay.toInt ≤ 200) ∧ (-200 ≤ ox.toInt ∧ ox.toInt ≤ 200) ∧ (-200 ≤ oy.toInt ∧ oy.toInt ≤ 200))) : Met l yX8_copy (wB yX8_copy cX8_copy 9 (some .int)) ({ frames := 4, cells := 2, slots := 8, locals := 94 }) (cP D [(h0, .inr (8, [.ref s1, .ref s2, .ref s3, .ref s4, .ref s5, .ref s6, .int ds, va_rf sp, va_rf bt])), (s1, .inl (cO, 4, .inr (.inr (.inr (.inr f)))))] [(cO, .object "DotBench$Sheet")] sz [.ref h0, .int k, .int ax, .int ay, .int aw, .int ah, .int kq, .int ox, .int oy]) (va_Qi (fun (r : Int32) (_ : Unit) => r = -1) (fun (_ : Unit) (t : State) => cB D (va_A [(h0, .inr (8, [.ref s1, .ref s2, .ref s3, .ref s4, .ref s5, .ref s6, .int ds, va_rf sp, va_rf bt])), (s1, .inl (cO, 4, .inr (.inr (.inr (.inr f)))))] sz) [(h0, .inr (8, [.ref s1, .ref s2, .ref s3, .ref s4, .ref s5, .ref s6, .int ds, va_rf sp, va_rf bt])), (s1, .inl (cO, 4, .inr (.inr (.inr (.inr f)))))] [(cO, .object "DotBench$Sheet")] t) (va_A [(h0, .inr (8, [.ref s1, .ref s2, .ref s3, .ref s4, .ref s5, .ref s6, .int ds, va_rf sp, va_rf bt])), (s1, .inl (cO, 4, .inr (.inr (.inr (.inr f)))))] sz)) 2 8 (va_A [(h0, .inr (8, [.ref s1, .ref s2, .ref s3, .ref s4, .ref s5, .ref s6, .int ds, va_rf sp, va_rf bt])), (s1, .inl (cO, 4, .inr (.inr (.inr (.inr f)))))] sz) := by
  refine Met.ofW (cc := cX8_copy) (maxL := 9) (ret := (some .int)) (by decide) rfl ?_
  intro p e s m args below meth c s₁ B hml hv
  obtain ⟨rfl, hsz, hP, hK, hD0, hN⟩ := hv
  have hx := B.exec
  have hb := B.bytes
  have hr := B.returns
  have hts0 := atoms_spec (ws := (wB yX8_copy cX8_copy 9 (some .int))) B.pre
  have hts : ∀ w ∈ bigW, w.before _ s = true := fun w h => hts0 w (List.mem_cons_of_mem _ h)
  have hown : s.vm.findClass RX8 = some m.cls := findClass_of_methodNamed B.named
  have hlocks := B.notSynchronized
  subst hsz
  have hD := hD0.self (sz := s.heap.size)
  generalize hAe : va_A [(h0, .inr (8, [.ref s1, .ref s2, .ref s3, .ref s4, .ref s5, .ref s6, .int ds, va_rf sp, va_rf bt])), (s1, .inl (cO, 4, .inr (.inr (.inr (.inr f)))))] s.heap.size = A at hD ⊢
  have hA : ∀ q : Nat, s.heap.size ≤ q → A q := fun q h => by rw [← hAe]; exact Or.inr h
  have hS : va_S A s.heap s.heap [] := va_S.rf
  have hP : va_P D vwCl [(h0, .inr (8, [.ref s1, .ref s2, .ref s3, .ref s4, .ref s5, .ref s6, .int ds, va_rf sp, va_rf bt])), (s1, .inl (cO, 4, .inr (.inr (.inr (.inr f)))))] s.heap := hP
  have hl := lv_entry ([.ref h0, .int k, .int ax, .int ay, .int aw, .int ah, .int kq, .int ox, .int oy]) (n := 9) (Nat.le_of_ble_eq_true rfl)
  rw [lg_entry_eq]
  generalize (lg_sl ([.ref h0, .int k, .int ax, .int ay, .int aw, .int ah, .int kq, .int ox, .int oy]) ++ List.replicate (9 - (lg_sl ([.ref h0, .int k, .int ax, .int ay, .int aw, .int ah, .int kq, .int ox, .int oy])).length) Slot.unset).toArray = ls at hl ⊢
  have hl : lv_has ls 9 [(0, .ref h0), (1, .int k), (2, .int ax), (3, .int ay), (4, .int aw), (5, .int ah), (6, .int kq), (7, .int ox), (8, .int oy)] := hl
  clear hts0 hD0 hAe
  refine my_abs (fun R Q hR hQ => ?_)
  refine lv_iload hx hb dX8_copy_0 (lv_at hl 4 rfl) ?_
  refine lv_iconst (v := 0) hx hb dX8_copy_2 (by decide) ?_
  refine lv_bipush (v := 64) hx hb dX8_copy_3 (by decide) ?_
  have hPc := hP.sub (ws' := []) [] rfl
  have hDc := hD.sub (ws' := []) [] (by decide) rfl
  have hKc := hK.sub (tys' := []) [] rfl
  have hFc := va_free (wc := []) hD hS hA [] rfl
  refine va_calli (va_runS (As := [.int aw, .int 0, .int 64]) (rest := []) ⟨hx, hb, hml, hown, hts⟩ (k_X8_isWithin l D s.heap.size aw 0 64 0 64 (by decide) (by decide)) (va_cwS 3 hts (gS bw_256 bw_349 bw_223 bw_348) rfl rfl rfl (by decide +kernel) ⟨(by rw [hR]; exact Nat.le_of_ble_eq_true rfl), (by rw [hR]; exact Nat.le_of_ble_eq_true rfl)⟩) ⟨cP_blind, cP_at hPc hKc hDc hN⟩ rfl rfl hl.1 rfl (lv_room (Nat.le_of_ble_eq_true rfl)) dX8_copy_5 ⟨(by rw [hR]; exact Nat.le_of_ble_eq_true rfl), (by rw [hR]; exact Nat.le_of_ble_eq_true rfl)⟩) hS (fun q _ h => hFc q h) hFc (fun r_1 u9 t9 H1 locs ht hvm hr_1 hB hz1 hk1 hS => ?_)
  try dsimp only at hr_1
  have hP1 : va_P D vwCl [] H1 := vP_nil
  have hD1 : va_D (va_A [] s.heap.size) [] := vD_nil
  obtain ⟨hP, hD⟩ := va_join (wr := [(h0, .inr (8, [.ref s1, .ref s2, .ref s3, .ref s4, .ref s5, .ref s6, .int ds, va_rf sp, va_rf bt])), (s1, .inl (cO, 4, .inr (.inr (.inr (.inr f)))))]) (w1 := []) hP hD [] [0, 1] rfl rfl (by decide) (by decide) hk1 hFc hP1 hD1
  clear hz1 hk1 hFc hKc hDc hPc
  generalize H1 = H at hP hS ⊢
  have hP : va_P D vwCl [(h0, .inr (8, [.ref s1, .ref s2, .ref s3, .ref s4, .ref s5, .ref s6, .int ds, va_rf sp, va_rf bt])), (s1, .inl (cO, 4, .inr (.inr (.inr (.inr f)))))] H := hP
  have hD : va_D A [(h0, .inr (8, [.ref s1, .ref s2, .ref s3, .ref s4, .ref s5, .ref s6, .int ds, va_rf sp, va_rf bt])), (s1, .inl (cO, 4, .inr (.inr (.inr (.inr f)))))] := hD
  refine lv_if_eq (tgt := 22) hx hb dX8_copy_8 (by decide) (fun c_2 => ?_) (fun c_2 => ?_)
  · skip
    have f_3 := bz0 hr_1 c_2
    exact False.elim (by omega)
  · skip
    have f_3 := bz1 hr_1 c_2
    refine lv_iload hx hb dX8_copy_11 (lv_at hl 5 rfl) ?_
    refine lv_iconst (v := 0) hx hb dX8_copy_13 (by decide) ?_
    refine lv_bipush (v := 64) hx hb dX8_copy_14 (by decide) ?_
    have hPc := hP.sub (ws' := []) [] rfl
    have hDc := hD.sub (ws' := []) [] (by decide) rfl
    have hKc := hK.sub (tys' := []) [] rfl
    have hFc := va_free (wc := []) hD hS hA [] rfl
    refine va_calli (va_runS (As := [.int ah, .int 0, .int 64]) (rest := []) ⟨hx, hb, hml, hown, hts⟩ (k_X8_isWithin l D H.size ah 0 64 0 64 (by decide) (by decide)) (va_cwS 3 hts (gS bw_256 bw_349 bw_223 bw_348) rfl rfl rfl (by decide +kernel) ⟨(by rw [hR]; exact Nat.le_of_ble_eq_true rfl), (by rw [hR]; exact Nat.le_of_ble_eq_true rfl)⟩) ⟨cP_blind, cP_at hPc hKc hDc hN⟩ rfl rfl hl.1 rfl (lv_room (Nat.le_of_ble_eq_true rfl)) dX8_copy_16 ⟨(by rw [hR]; exact Nat.le_of_ble_eq_true rfl), (by rw [hR]; exact Nat.le_of_ble_eq_true rfl)⟩) hS (fun q _ h => hFc q h) hFc (fun r_4 u9 t9 H1 locs ht hvm hr_4 hB hz1 hk1 hS => ?_)
    try dsimp only at hr_4
    have hP1 : va_P D vwCl [] H1 := vP_nil
    have hD1 : va_D (va_A [] H.size) [] := vD_nil
    obtain ⟨hP, hD⟩ := va_join (wr := [(h0, .inr (8, [.ref s1, .ref s2, .ref s3, .ref s4, .ref s5, .ref s6, .int ds, va_rf sp, va_rf bt])), (s1, .inl (cO, 4, .inr (.inr (.inr (.inr f)))))]) (w1 := []) hP hD [] [0, 1] rfl rfl (by decide) (by decide) hk1 hFc hP1 hD1
    clear hz1 hk1 hFc hKc hDc hPc
    generalize H1 = H at hP hS ⊢
    have hP : va_P D vwCl [(h0, .inr (8, [.ref s1, .ref s2, .ref s3, .ref s4, .ref s5, .ref s6, .int ds, va_rf sp, va_rf bt])), (s1, .inl (cO, 4, .inr (.inr (.inr (.inr f)))))] H := hP
    have hD : va_D A [(h0, .inr (8, [.ref s1, .ref s2, .ref s3, .ref s4, .ref s5, .ref s6, .int ds, va_rf sp, va_rf bt])), (s1, .inl (cO, 4, .inr (.inr (.inr (.inr f)))))] := hD
    refine lv_if_ne (tgt := 24) hx hb dX8_copy_19 (by decide) (fun c_5 => ?_) (fun c_5 => ?_)
    · skip
      have f_6 := bz1 hr_4 c_5
      refine lv_aload_n hx hb dX8_copy_24 rfl (lv_at hl 0 rfl) ?_
      refine lv_iload_n hx hb dX8_copy_25 rfl (lv_at hl 1 rfl) ?_
      refine va_new (ci := 2) (fs := [.int 0, .int 0, .int 0, .int 0]) (C := RX2) (T := TX2) (N := 4) hx hb hts hi_X2 tyX2 tyX2_ok hown (hts _ bw_316) (hts _ bw_56) (hts _ bw_55) hK hP hD hS hA rfl z_X2 (by rw [hR]; exact Nat.le_of_ble_eq_true rfl) (by rw [hR]; exact Nat.le_of_ble_eq_true rfl) dX8_copy_26 (fun q_7 H hP hD hS => ?_)
      have hP : va_P D vwCl [(h0, .inr (8, [.ref s1, .ref s2, .ref s3, .ref s4, .ref s5, .ref s6, .int ds, va_rf sp, va_rf bt])), (s1, .inl (cO, 4, .inr (.inr (.inr (.inr f))))), (q_7, .inr (2, [.int 0, .int 0, .int 0, .int 0]))] H := hP
      have hD : va_D A [(h0, .inr (8, [.ref s1, .ref s2, .ref s3, .ref s4, .ref s5, .ref s6, .int ds, va_rf sp, va_rf bt])), (s1, .inl (cO, 4, .inr (.inr (.inr (.inr f))))), (q_7, .inr (2, [.int 0, .int 0, .int 0, .int 0]))] := hD
      refine W.widen (k := 1) (n := 4) (by omega) (by omega) ?_
      refine lv_dup hx hb dX8_copy_29 rfl ?_
      refine lv_iload_n hx hb dX8_copy_30 rfl (lv_at hl 2 rfl) ?_
      refine lv_iload_n hx hb dX8_copy_31 rfl (lv_at hl 3 rfl) ?_
      refine lv_iload hx hb dX8_copy_32 (lv_at hl 4 rfl) ?_
      refine lv_iload hx hb dX8_copy_34 (lv_at hl 5 rfl) ?_
      have hPc := hP.sub (ws' := [(q_7, .inr (2, [.int 0, .int 0, .int 0, .int 0]))]) [2] rfl
      have hDc := hD.sub (ws' := [(q_7, .inr (2, [.int 0, .int 0, .int 0, .int 0]))]) [2] (by decide) rfl
      have hKc := hK.sub (tys' := []) [] rfl
      have hFc := va_free (wc := [(q_7, .inr (2, [.int 0, .int 0, .int 0, .int 0]))]) hD hS hA [2] rfl
      refine va_callv (va_runI (As := [.int ax, .int ay, .int aw, .int ah]) (rest := [.ref q_7, .int k, .ref h0]) ⟨hx, hb, hml, hown, hts⟩ (k_X2_init l D H.size q_7 ax ay aw ah) (cwI 4 hts (gI bw_57) rfl rfl rfl (hts _ bw_55) (hts _ bw_317) (hts _ bw_58) rfl (by decide +kernel) ⟨(by rw [hR]; exact Nat.le_of_ble_eq_true rfl), (by rw [hR]; exact Nat.le_of_ble_eq_true rfl)⟩) ⟨cP_blind, cP_at hPc hKc hDc hN⟩ rfl rfl hl.1 rfl (lv_room (Nat.le_of_ble_eq_true rfl)) dX8_copy_36 ⟨(by rw [hR]; exact Nat.le_of_ble_eq_true rfl), (by rw [hR]; exact Nat.le_of_ble_eq_true rfl)⟩) hS (fun q _ h => hFc q h) hFc (fun u9 t9 H1 locs ht hvm hr_8 hB hz1 hk1 hS => ?_)
      try dsimp only at hr_8
      obtain ⟨hP1, hK1, hD1⟩ := hB
      rw [ht] at hP1
      obtain ⟨hP, hD⟩ := va_join (wr := [(h0, .inr (8, [.ref s1, .ref s2, .ref s3, .ref s4, .ref s5, .ref s6, .int ds, va_rf sp, va_rf bt])), (s1, .inl (cO, 4, .inr (.inr (.inr (.inr f)))))]) (w1 := [(q_7, .inr (2, [.int ax, .int ay, .int aw, .int ah]))]) hP hD [2] [0, 1] rfl rfl (by decide) (by decide) hk1 hFc hP1 hD1
      clear hz1 hk1 hFc hKc hDc hPc
      generalize H1 = H at hP hS ⊢
      have hP : va_P D vwCl [(h0, .inr (8, [.ref s1, .ref s2, .ref s3, .ref s4, .ref s5, .ref s6, .int ds, va_rf sp, va_rf bt])), (s1, .inl (cO, 4, .inr (.inr (.inr (.inr f))))), (q_7, .inr (2, [.int ax, .int ay, .int aw, .int ah]))] H := hP
      have hD : va_D A [(h0, .inr (8, [.ref s1, .ref s2, .ref s3, .ref s4, .ref s5, .ref s6, .int ds, va_rf sp, va_rf bt])), (s1, .inl (cO, 4, .inr (.inr (.inr (.inr f))))), (q_7, .inr (2, [.int ax, .int ay, .int aw, .int ah]))] := hD
      refine lv_iload hx hb dX8_copy_39 (lv_at hl 6 rfl) ?_
      refine va_new (ci := 2) (fs := [.int 0, .int 0, .int 0, .int 0]) (C := RX2) (T := TX2) (N := 4) hx hb hts hi_X2 tyX2 tyX2_ok hown (hts _ bw_316) (hts _ bw_56) (hts _ bw_55) hK hP hD hS hA rfl z_X2 (by rw [hR]; exact Nat.le_of_ble_eq_true rfl) (by rw [hR]; exact Nat.le_of_ble_eq_true rfl) dX8_copy_41 (fun q_9 H hP hD hS => ?_)
      have hP : va_P D vwCl [(h0, .inr (8, [.ref s1, .ref s2, .ref s3, .ref s4, .ref s5, .ref s6, .int ds, va_rf sp, va_rf bt])), (s1, .inl (cO, 4, .inr (.inr (.inr (.inr f))))), (q_7, .inr (2, [.int ax, .int ay, .int aw, .int ah])), (q_9, .inr (2, [.int 0, .int 0, .int 0, .int 0]))] H := hP
      have hD : va_D A [(h0, .inr (8, [.ref s1, .ref s2, .ref s3, .ref s4, .ref s5, .ref s6, .int ds, va_rf sp, va_rf bt])), (s1, .inl (cO, 4, .inr (.inr (.inr (.inr f))))), (q_7, .inr (2, [.int ax, .int ay, .int aw, .int ah])), (q_9, .inr (2, [.int 0, .int 0, .int 0, .int 0]))] := hD
      refine W.widen (k := 2) (n := 8) (by omega) (by omega) ?_
      refine lv_dup hx hb dX8_copy_44 rfl ?_
      refine lv_iload hx hb dX8_copy_45 (lv_at hl 7 rfl) ?_
      refine lv_iload hx hb dX8_copy_47 (lv_at hl 8 rfl) ?_
      refine lv_iload hx hb dX8_copy_49 (lv_at hl 4 rfl) ?_
      refine lv_iload hx hb dX8_copy_51 (lv_at hl 5 rfl) ?_
      have hPc := hP.sub (ws' := [(q_9, .inr (2, [.int 0, .int 0, .int 0, .int 0]))]) [3] rfl
      have hDc := hD.sub (ws' := [(q_9, .inr (2, [.int 0, .int 0, .int 0, .int 0]))]) [3] (by decide) rfl
      have hKc := hK.sub (tys' := []) [] rfl
      have hFc := va_free (wc := [(q_9, .inr (2, [.int 0, .int 0, .int 0, .int 0]))]) hD hS hA [3] rfl
      refine va_callv (va_runI (As := [.int ox, .int oy, .int aw, .int ah]) (rest := [.ref q_9, .int kq, .ref q_7, .int k, .ref h0]) ⟨hx, hb, hml, hown, hts⟩ (k_X2_init l D H.size q_9 ox oy aw ah) (cwI 4 hts (gI bw_57) rfl rfl rfl (hts _ bw_55) (hts _ bw_317) (hts _ bw_58) rfl (by decide +kernel) ⟨(by rw [hR]; exact Nat.le_of_ble_eq_true rfl), (by rw [hR]; exact Nat.le_of_ble_eq_true rfl)⟩) ⟨cP_blind, cP_at hPc hKc hDc hN⟩ rfl rfl hl.1 rfl (lv_room (Nat.le_of_ble_eq_true rfl)) dX8_copy_53 ⟨(by rw [hR]; exact Nat.le_of_ble_eq_true rfl), (by rw [hR]; exact Nat.le_of_ble_eq_true rfl)⟩) hS (fun q _ h => hFc q h) hFc (fun u9 t9 H1 locs ht hvm hr_10 hB hz1 hk1 hS => ?_)
      try dsimp only at hr_10
      obtain ⟨hP1, hK1, hD1⟩ := hB
      rw [ht] at hP1
      obtain ⟨hP, hD⟩ := va_join (wr := [(h0, .inr (8, [.ref s1, .ref s2, .ref s3, .ref s4, .ref s5, .ref s6, .int ds, va_rf sp, va_rf bt])), (s1, .inl (cO, 4, .inr (.inr (.inr (.inr f))))), (q_7, .inr (2, [.int ax, .int ay, .int aw, .int ah]))]) (w1 := [(q_9, .inr (2, [.int ox, .int oy, .int aw, .int ah]))]) hP hD [3] [0, 1, 2] rfl rfl (by decide) (by decide) hk1 hFc hP1 hD1
      clear hz1 hk1 hFc hKc hDc hPc
      generalize H1 = H at hP hS ⊢
      have hP : va_P D vwCl [(h0, .inr (8, [.ref s1, .ref s2, .ref s3, .ref s4, .ref s5, .ref s6, .int ds, va_rf sp, va_rf bt])), (s1, .inl (cO, 4, .inr (.inr (.inr (.inr f))))), (q_7, .inr (2, [.int ax, .int ay, .int aw, .int ah])), (q_9, .inr (2, [.int ox, .int oy, .int aw, .int ah]))] H := hP
      have hD : va_D A [(h0, .inr (8, [.ref s1, .ref s2, .ref s3, .ref s4, .ref s5, .ref s6, .int ds, va_rf sp, va_rf bt])), (s1, .inl (cO, 4, .inr (.inr (.inr (.inr f))))), (q_7, .inr (2, [.int ax, .int ay, .int aw, .int ah])), (q_9, .inr (2, [.int ox, .int oy, .int aw, .int ah]))] := hD
      have hPc := hP.sub (ws' := [(h0, .inr (8, [.ref s1, .ref s2, .ref s3, .ref s4, .ref s5, .ref s6, .int ds, va_rf sp, va_rf bt])), (s1, .inl (cO, 4, .inr (.inr (.inr (.inr f))))), (q_7, .inr (2, [.int ax, .int ay, .int aw, .int ah])), (q_9, .inr (2, [.int ox, .int oy, .int aw, .int ah]))]) [0, 1, 2, 3] rfl
      have hDc := hD.sub (ws' := [(h0, .inr (8, [.ref s1, .ref s2, .ref s3, .ref s4, .ref s5, .ref s6, .int ds, va_rf sp, va_rf bt])), (s1, .inl (cO, 4, .inr (.inr (.inr (.inr f))))), (q_7, .inr (2, [.int ax, .int ay, .int aw, .int ah])), (q_9, .inr (2, [.int ox, .int oy, .int aw, .int ah]))]) [0, 1, 2, 3] (by decide) rfl
      have hKc := hK.sub (tys' := [(cO, .object "DotBench$Sheet")]) [0] rfl
      have hFc := va_free (wc := [(h0, .inr (8, [.ref s1, .ref s2, .ref s3, .ref s4, .ref s5, .ref s6, .int ds, va_rf sp, va_rf bt])), (s1, .inl (cO, 4, .inr (.inr (.inr (.inr f))))), (q_7, .inr (2, [.int ax, .int ay, .int aw, .int ah])), (q_9, .inr (2, [.int ox, .int oy, .int aw, .int ah]))]) hD hS hA [0, 1, 2, 3] rfl
      refine va_calli (va_runV (As := [.int k, .ref q_7, .int kq, .ref q_9]) (rest := []) ⟨hx, hb, hml, hown, hts⟩ (k_X8_carry_x l D H.size h0 s1 s2 s3 s4 s5 s6 ds sp bt f u0 t0 q_7 q_9 ax ay aw ah ox oy aw ah k kq cO (by first | assumption | omega | decide) (by first | assumption | omega | decide) (by first | assumption | omega | decide) (by first | assumption | omega | decide) (by first | assumption | omega | decide)) (cwV 4 hts (gV bw_318 bw_383 bw_384 bw_223 bw_382) rfl rfl rfl (by decide +kernel) ⟨(by rw [hR]; exact Nat.le_of_ble_eq_true rfl), (by rw [hR]; exact Nat.le_of_ble_eq_true rfl)⟩) ⟨cP_blind, va_recv hKc hPc (ci := 8) (q0 := 0) rfl rfl, cP_at hPc hKc hDc hN⟩ rfl rfl hl.1 rfl (lv_room (Nat.le_of_ble_eq_true rfl)) dX8_copy_56 ⟨(by rw [hR]; exact Nat.le_of_ble_eq_true rfl), (by rw [hR]; exact Nat.le_of_ble_eq_true rfl)⟩) hS (fun q _ h => hFc q h) hFc (fun r_11 u9 t9 H1 locs ht hvm hr_11 hB hz1 hk1 hS => ?_)
      try dsimp only at hr_11
      obtain ⟨hP1, hK1, hD1⟩ := hB
      rw [ht] at hP1
      obtain ⟨hP, hD⟩ := va_join (wr := []) (w1 := [(h0, .inr (8, [.ref s1, .ref s2, .ref s3, .ref s4, .ref s5, .ref s6, .int ds, va_rf sp, va_rf bt])), (s1, .inl (cO, 4, .inr (.inr (.inr (.inr f)))))]) hP hD [0, 1, 2, 3] [] rfl rfl (by decide) (by decide) hk1 hFc hP1 hD1
      clear hz1 hk1 hFc hKc hDc hPc
      generalize H1 = H at hP hS ⊢
      have hP : va_P D vwCl [(h0, .inr (8, [.ref s1, .ref s2, .ref s3, .ref s4, .ref s5, .ref s6, .int ds, va_rf sp, va_rf bt])), (s1, .inl (cO, 4, .inr (.inr (.inr (.inr f)))))] H := hP
      have hD : va_D A [(h0, .inr (8, [.ref s1, .ref s2, .ref s3, .ref s4, .ref s5, .ref s6, .int ds, va_rf sp, va_rf bt])), (s1, .inl (cO, 4, .inr (.inr (.inr (.inr f)))))] := hD
      subst hr_11
      have hP9 := hP.sub (ws' := [(h0, .inr (8, [.ref s1, .ref s2, .ref s3, .ref s4, .ref s5, .ref s6, .int ds, va_rf sp, va_rf bt])), (s1, .inl (cO, 4, .inr (.inr (.inr (.inr f)))))]) [0, 1] rfl
      have hD9 := hD.sub (ws' := [(h0, .inr (8, [.ref s1, .ref s2, .ref s3, .ref s4, .ref s5, .ref s6, .int ds, va_rf sp, va_rf bt])), (s1, .inl (cO, 4, .inr (.inr (.inr (.inr f)))))]) [0, 1] (by decide) rfl
      have hK9 := hK.sub (tys' := [(cO, .object "DotBench$Sheet")]) [0] rfl
      refine hQ _ _ _ _ _ ?_
      exact W.iret (v := (-1)) hx hb hr (fun t ht hW => ⟨⟨(-1), (), rfl, rfl, ⟨by rw [ht]; exact hP9, va_K.moved hW.alike hK9, hD9⟩⟩, hS.F ht⟩) hS.2.2 dX8_copy_59
    · skip
      have f_6 := bz0 hr_4 c_5
      exact False.elim (by omega)

set_option maxHeartbeats 4000000 in
set_option maxRecDepth 100000 in
theorem k_X8_copy_d (l : Launch) (D : va_G) (sz : Nat) (h0 s1 s2 s3 s4 s5 s6 : Nat) (ds : Int32) (sp bt : Option Nat) (f : Nat → Option Nat) (bx t0 d0 : Nat) (ik wy op : Int32) (bx0 by0 bx1 by1 : Int32) (w h : Int32) (g : Nat → Int32) (u0 e0 : Nat) (w2 h2 : Int32) (gs : Nat → Int32) (k ax ay aw ah kq ox oy : Int32) (cO : ClassId) (cI : ClassId) (hsz : (0 ≤ aw.toInt ∧ aw.toInt ≤ 64) ∧ (0 ≤ ah.toInt ∧ ah.toInt ≤ 64)) (hak : 0 ≤ k.toInt ∧ k.toInt ≤ 3) (haf : f k.toNatClampNeg = some u0) (hb0k : 0 ≤ kq.toInt ∧ kq.toInt ≤ 3) (hb0f : f kq.toNatClampNeg = some t0) (hne : ¬ k.toInt = kq.toInt) (hnr : (-200 ≤ ax.toInt ∧ ax.toInt ≤ 200) ∧ (-200 ≤ ay.toInt ∧ ay.toInt ≤ 200) ∧ (-200 ≤ ox.toInt ∧ ox.toInt ≤ 200) ∧ (-200 ≤ oy.toInt ∧ oy.toInt ≤ 200)) (hwy : 0 ≤ wy.toInt ∧ wy.toInt ≤ 12) (hw : w.toInt ≤ 64) (hh : h.toInt ≤ 64) (hw2 : w2.toInt ≤ 64) (hh2 : h2.toInt ≤ 64) : Met l yX8_copy (wB yX8_copy cX8_copy 9 (some .int)) ({ frames := 4, cells := 2, slots := 8, locals := 106 }) (cP D [(h0, .inr (8, [.ref s1, .ref s2, .ref s3, .ref s4, .ref s5, .ref s6, .int ds, va_rf sp, va_rf bt])), (s1, .inl (cO, 4, .inr (.inr (.inr (.inr f))))), (s2, .inr (1, [.ref bx, .int ik, .int wy, .int op])), (bx, .inr (0, [.int bx0, .int by0, .int bx1, .int by1])), (t0, .inr (5, [.ref d0, .int w, .int h])), (d0, .inl (cI, 4096, .inl g)), (u0, .inr (5, [.ref e0, .int w2, .int h2])), (e0, .inl (cI, 4096, .inl gs))] [(cO, .object "DotBench$Sheet"), (cI, .int)] sz [.ref h0, .int k, .int ax, .int ay, .int aw, .int ah, .int kq, .int ox, .int oy]) (va_Qi (fun (r : Int32) (_ : Unit) => True) (fun (_ : Unit) (t : State) => ∃ (g2 : Nat → Int32), cB D (va_A [(h0, .inr (8, [.ref s1, .ref s2, .ref s3, .ref s4, .ref s5, .ref s6, .int ds, va_rf sp, va_rf bt])), (s1, .inl (cO, 4, .inr (.inr (.inr (.inr f))))), (s2, .inr (1, [.ref bx, .int ik, .int wy, .int op])), (bx, .inr (0, [.int bx0, .int by0, .int bx1, .int by1])), (t0, .inr (5, [.ref d0, .int w, .int h])), (d0, .inl (cI, 4096, .inl g)), (u0, .inr (5, [.ref e0, .int w2, .int h2])), (e0, .inl (cI, 4096, .inl gs))] sz) [(h0, .inr (8, [.ref s1, .ref s2, .ref s3, .ref s4, .ref s5, .ref s6, .int ds, va_rf sp, va_rf bt])), (s1, .inl (cO, 4, .inr (.inr (.inr (.inr f))))), (s2, .inr (1, [.ref bx, .int ik, .int wy, .int op])), (bx, .inr (0, [.int bx0, .int by0, .int bx1, .int by1])), (t0, .inr (5, [.ref d0, .int w, .int h])), (d0, .inl (cI, 4096, .inl g2)), (u0, .inr (5, [.ref e0, .int w2, .int h2])), (e0, .inl (cI, 4096, .inl gs))] [(cO, .object "DotBench$Sheet"), (cI, .int)] t) (va_A [(h0, .inr (8, [.ref s1, .ref s2, .ref s3, .ref s4, .ref s5, .ref s6, .int ds, va_rf sp, va_rf bt])), (s1, .inl (cO, 4, .inr (.inr (.inr (.inr f))))), (s2, .inr (1, [.ref bx, .int ik, .int wy, .int op])), (bx, .inr (0, [.int bx0, .int by0, .int bx1, .int by1])), (t0, .inr (5, [.ref d0, .int w, .int h])), (d0, .inl (cI, 4096, .inl g)), (u0, .inr (5, [.ref e0, .int w2, .int h2])), (e0, .inl (cI, 4096, .inl gs))] sz)) 2 8 (va_A [(h0, .inr (8, [.ref s1, .ref s2, .ref s3, .ref s4, .ref s5, .ref s6, .int ds, va_rf sp, va_rf bt])), (s1, .inl (cO, 4, .inr (.inr (.inr (.inr f))))), (s2, .inr (1, [.ref bx, .int ik, .int wy, .int op])), (bx, .inr (0, [.int bx0, .int by0, .int bx1, .int by1])), (t0, .inr (5, [.ref d0, .int w, .int h])), (d0, .inl (cI, 4096, .inl g)), (u0, .inr (5, [.ref e0, .int w2, .int h2])), (e0, .inl (cI, 4096, .inl gs))] sz) := by
  refine Met.ofW (cc := cX8_copy) (maxL := 9) (ret := (some .int)) (by decide) rfl ?_
  intro p e s m args below meth c s₁ B hml hv
  obtain ⟨rfl, hsz, hP, hK, hD0, hN⟩ := hv
  have hx := B.exec
  have hb := B.bytes
  have hr := B.returns
  have hts0 := atoms_spec (ws := (wB yX8_copy cX8_copy 9 (some .int))) B.pre
  have hts : ∀ w ∈ bigW, w.before _ s = true := fun w h => hts0 w (List.mem_cons_of_mem _ h)
  have hown : s.vm.findClass RX8 = some m.cls := findClass_of_methodNamed B.named
  have hlocks := B.notSynchronized
  subst hsz
  have hD := hD0.self (sz := s.heap.size)
  generalize hAe : va_A [(h0, .inr (8, [.ref s1, .ref s2, .ref s3, .ref s4, .ref s5, .ref s6, .int ds, va_rf sp, va_rf bt])), (s1, .inl (cO, 4, .inr (.inr (.inr (.inr f))))), (s2, .inr (1, [.ref bx, .int ik, .int wy, .int op])), (bx, .inr (0, [.int bx0, .int by0, .int bx1, .int by1])), (t0, .inr (5, [.ref d0, .int w, .int h])), (d0, .inl (cI, 4096, .inl g)), (u0, .inr (5, [.ref e0, .int w2, .int h2])), (e0, .inl (cI, 4096, .inl gs))] s.heap.size = A at hD ⊢
  have hA : ∀ q : Nat, s.heap.size ≤ q → A q := fun q h => by rw [← hAe]; exact Or.inr h
  have hS : va_S A s.heap s.heap [] := va_S.rf
  have hP : va_P D vwCl [(h0, .inr (8, [.ref s1, .ref s2, .ref s3, .ref s4, .ref s5, .ref s6, .int ds, va_rf sp, va_rf bt])), (s1, .inl (cO, 4, .inr (.inr (.inr (.inr f))))), (s2, .inr (1, [.ref bx, .int ik, .int wy, .int op])), (bx, .inr (0, [.int bx0, .int by0, .int bx1, .int by1])), (t0, .inr (5, [.ref d0, .int w, .int h])), (d0, .inl (cI, 4096, .inl g)), (u0, .inr (5, [.ref e0, .int w2, .int h2])), (e0, .inl (cI, 4096, .inl gs))] s.heap := hP
  have hl := lv_entry ([.ref h0, .int k, .int ax, .int ay, .int aw, .int ah, .int kq, .int ox, .int oy]) (n := 9) (Nat.le_of_ble_eq_true rfl)
  rw [lg_entry_eq]
  generalize (lg_sl ([.ref h0, .int k, .int ax, .int ay, .int aw, .int ah, .int kq, .int ox, .int oy]) ++ List.replicate (9 - (lg_sl ([.ref h0, .int k, .int ax, .int ay, .int aw, .int ah, .int kq, .int ox, .int oy])).length) Slot.unset).toArray = ls at hl ⊢
  have hl : lv_has ls 9 [(0, .ref h0), (1, .int k), (2, .int ax), (3, .int ay), (4, .int aw), (5, .int ah), (6, .int kq), (7, .int ox), (8, .int oy)] := hl
  clear hts0 hD0 hAe
  refine my_abs (fun R Q hR hQ => ?_)
  refine lv_iload hx hb dX8_copy_0 (lv_at hl 4 rfl) ?_
  refine lv_iconst (v := 0) hx hb dX8_copy_2 (by decide) ?_
  refine lv_bipush (v := 64) hx hb dX8_copy_3 (by decide) ?_
  have hPc := hP.sub (ws' := []) [] rfl
  have hDc := hD.sub (ws' := []) [] (by decide) rfl
  have hKc := hK.sub (tys' := []) [] rfl
  have hFc := va_free (wc := []) hD hS hA [] rfl
  refine va_calli (va_runS (As := [.int aw, .int 0, .int 64]) (rest := []) ⟨hx, hb, hml, hown, hts⟩ (k_X8_isWithin l D s.heap.size aw 0 64 0 64 (by decide) (by decide)) (va_cwS 3 hts (gS bw_256 bw_349 bw_223 bw_348) rfl rfl rfl (by decide +kernel) ⟨(by rw [hR]; exact Nat.le_of_ble_eq_true rfl), (by rw [hR]; exact Nat.le_of_ble_eq_true rfl)⟩) ⟨cP_blind, cP_at hPc hKc hDc hN⟩ rfl rfl hl.1 rfl (lv_room (Nat.le_of_ble_eq_true rfl)) dX8_copy_5 ⟨(by rw [hR]; exact Nat.le_of_ble_eq_true rfl), (by rw [hR]; exact Nat.le_of_ble_eq_true rfl)⟩) hS (fun q _ h => hFc q h) hFc (fun r_1 u9 t9 H1 locs ht hvm hr_1 hB hz1 hk1 hS => ?_)
  try dsimp only at hr_1
  have hP1 : va_P D vwCl [] H1 := vP_nil
  have hD1 : va_D (va_A [] s.heap.size) [] := vD_nil
  obtain ⟨hP, hD⟩ := va_join (wr := [(h0, .inr (8, [.ref s1, .ref s2, .ref s3, .ref s4, .ref s5, .ref s6, .int ds, va_rf sp, va_rf bt])), (s1, .inl (cO, 4, .inr (.inr (.inr (.inr f))))), (s2, .inr (1, [.ref bx, .int ik, .int wy, .int op])), (bx, .inr (0, [.int bx0, .int by0, .int bx1, .int by1])), (t0, .inr (5, [.ref d0, .int w, .int h])), (d0, .inl (cI, 4096, .inl g)), (u0, .inr (5, [.ref e0, .int w2, .int h2])), (e0, .inl (cI, 4096, .inl gs))]) (w1 := []) hP hD [] [0, 1, 2, 3, 4, 5, 6, 7] rfl rfl (by decide) (by decide) hk1 hFc hP1 hD1
  clear hz1 hk1 hFc hKc hDc hPc
  generalize H1 = H at hP hS ⊢
  have hP : va_P D vwCl [(h0, .inr (8, [.ref s1, .ref s2, .ref s3, .ref s4, .ref s5, .ref s6, .int ds, va_rf sp, va_rf bt])), (s1, .inl (cO, 4, .inr (.inr (.inr (.inr f))))), (s2, .inr (1, [.ref bx, .int ik, .int wy, .int op])), (bx, .inr (0, [.int bx0, .int by0, .int bx1, .int by1])), (t0, .inr (5, [.ref d0, .int w, .int h])), (d0, .inl (cI, 4096, .inl g)), (u0, .inr (5, [.ref e0, .int w2, .int h2])), (e0, .inl (cI, 4096, .inl gs))] H := hP
  have hD : va_D A [(h0, .inr (8, [.ref s1, .ref s2, .ref s3, .ref s4, .ref s5, .ref s6, .int ds, va_rf sp, va_rf bt])), (s1, .inl (cO, 4, .inr (.inr (.inr (.inr f))))), (s2, .inr (1, [.ref bx, .int ik, .int wy, .int op])), (bx, .inr (0, [.int bx0, .int by0, .int bx1, .int by1])), (t0, .inr (5, [.ref d0, .int w, .int h])), (d0, .inl (cI, 4096, .inl g)), (u0, .inr (5, [.ref e0, .int w2, .int h2])), (e0, .inl (cI, 4096, .inl gs))] := hD
  refine lv_if_eq (tgt := 22) hx hb dX8_copy_8 (by decide) (fun c_2 => ?_) (fun c_2 => ?_)
  · skip
    have f_3 := bz0 hr_1 c_2
    exact False.elim (by omega)
  · skip
    have f_3 := bz1 hr_1 c_2
    refine lv_iload hx hb dX8_copy_11 (lv_at hl 5 rfl) ?_
    refine lv_iconst (v := 0) hx hb dX8_copy_13 (by decide) ?_
    refine lv_bipush (v := 64) hx hb dX8_copy_14 (by decide) ?_
    have hPc := hP.sub (ws' := []) [] rfl
    have hDc := hD.sub (ws' := []) [] (by decide) rfl
    have hKc := hK.sub (tys' := []) [] rfl
    have hFc := va_free (wc := []) hD hS hA [] rfl
    refine va_calli (va_runS (As := [.int ah, .int 0, .int 64]) (rest := []) ⟨hx, hb, hml, hown, hts⟩ (k_X8_isWithin l D H.size ah 0 64 0 64 (by decide) (by decide)) (va_cwS 3 hts (gS bw_256 bw_349 bw_223 bw_348) rfl rfl rfl (by decide +kernel) ⟨(by rw [hR]; exact Nat.le_of_ble_eq_true rfl), (by rw [hR]; exact Nat.le_of_ble_eq_true rfl)⟩) ⟨cP_blind, cP_at hPc hKc hDc hN⟩ rfl rfl hl.1 rfl (lv_room (Nat.le_of_ble_eq_true rfl)) dX8_copy_16 ⟨(by rw [hR]; exact Nat.le_of_ble_eq_true rfl), (by rw [hR]; exact Nat.le_of_ble_eq_true rfl)⟩) hS (fun q _ h => hFc q h) hFc (fun r_4 u9 t9 H1 locs ht hvm hr_4 hB hz1 hk1 hS => ?_)
    try dsimp only at hr_4
    have hP1 : va_P D vwCl [] H1 := vP_nil
    have hD1 : va_D (va_A [] H.size) [] := vD_nil
    obtain ⟨hP, hD⟩ := va_join (wr := [(h0, .inr (8, [.ref s1, .ref s2, .ref s3, .ref s4, .ref s5, .ref s6, .int ds, va_rf sp, va_rf bt])), (s1, .inl (cO, 4, .inr (.inr (.inr (.inr f))))), (s2, .inr (1, [.ref bx, .int ik, .int wy, .int op])), (bx, .inr (0, [.int bx0, .int by0, .int bx1, .int by1])), (t0, .inr (5, [.ref d0, .int w, .int h])), (d0, .inl (cI, 4096, .inl g)), (u0, .inr (5, [.ref e0, .int w2, .int h2])), (e0, .inl (cI, 4096, .inl gs))]) (w1 := []) hP hD [] [0, 1, 2, 3, 4, 5, 6, 7] rfl rfl (by decide) (by decide) hk1 hFc hP1 hD1
    clear hz1 hk1 hFc hKc hDc hPc
    generalize H1 = H at hP hS ⊢
    have hP : va_P D vwCl [(h0, .inr (8, [.ref s1, .ref s2, .ref s3, .ref s4, .ref s5, .ref s6, .int ds, va_rf sp, va_rf bt])), (s1, .inl (cO, 4, .inr (.inr (.inr (.inr f))))), (s2, .inr (1, [.ref bx, .int ik, .int wy, .int op])), (bx, .inr (0, [.int bx0, .int by0, .int bx1, .int by1])), (t0, .inr (5, [.ref d0, .int w, .int h])), (d0, .inl (cI, 4096, .inl g)), (u0, .inr (5, [.ref e0, .int w2, .int h2])), (e0, .inl (cI, 4096, .inl gs))] H := hP
    have hD : va_D A [(h0, .inr (8, [.ref s1, .ref s2, .ref s3, .ref s4, .ref s5, .ref s6, .int ds, va_rf sp, va_rf bt])), (s1, .inl (cO, 4, .inr (.inr (.inr (.inr f))))), (s2, .inr (1, [.ref bx, .int ik, .int wy, .int op])), (bx, .inr (0, [.int bx0, .int by0, .int bx1, .int by1])), (t0, .inr (5, [.ref d0, .int w, .int h])), (d0, .inl (cI, 4096, .inl g)), (u0, .inr (5, [.ref e0, .int w2, .int h2])), (e0, .inl (cI, 4096, .inl gs))] := hD
    refine lv_if_ne (tgt := 24) hx hb dX8_copy_19 (by decide) (fun c_5 => ?_) (fun c_5 => ?_)
    · skip
      have f_6 := bz1 hr_4 c_5
      refine lv_aload_n hx hb dX8_copy_24 rfl (lv_at hl 0 rfl) ?_
      refine lv_iload_n hx hb dX8_copy_25 rfl (lv_at hl 1 rfl) ?_
      refine va_new (ci := 2) (fs := [.int 0, .int 0, .int 0, .int 0]) (C := RX2) (T := TX2) (N := 4) hx hb hts hi_X2 tyX2 tyX2_ok hown (hts _ bw_316) (hts _ bw_56) (hts _ bw_55) hK hP hD hS hA rfl z_X2 (by rw [hR]; exact Nat.le_of_ble_eq_true rfl) (by rw [hR]; exact Nat.le_of_ble_eq_true rfl) dX8_copy_26 (fun q_7 H hP hD hS => ?_)
      have hP : va_P D vwCl [(h0, .inr (8, [.ref s1, .ref s2, .ref s3, .ref s4, .ref s5, .ref s6, .int ds, va_rf sp, va_rf bt])), (s1, .inl (cO, 4, .inr (.inr (.inr (.inr f))))), (s2, .inr (1, [.ref bx, .int ik, .int wy, .int op])), (bx, .inr (0, [.int bx0, .int by0, .int bx1, .int by1])), (t0, .inr (5, [.ref d0, .int w, .int h])), (d0, .inl (cI, 4096, .inl g)), (u0, .inr (5, [.ref e0, .int w2, .int h2])), (e0, .inl (cI, 4096, .inl gs)), (q_7, .inr (2, [.int 0, .int 0, .int 0, .int 0]))] H := hP
      have hD : va_D A [(h0, .inr (8, [.ref s1, .ref s2, .ref s3, .ref s4, .ref s5, .ref s6, .int ds, va_rf sp, va_rf bt])), (s1, .inl (cO, 4, .inr (.inr (.inr (.inr f))))), (s2, .inr (1, [.ref bx, .int ik, .int wy, .int op])), (bx, .inr (0, [.int bx0, .int by0, .int bx1, .int by1])), (t0, .inr (5, [.ref d0, .int w, .int h])), (d0, .inl (cI, 4096, .inl g)), (u0, .inr (5, [.ref e0, .int w2, .int h2])), (e0, .inl (cI, 4096, .inl gs)), (q_7, .inr (2, [.int 0, .int 0, .int 0, .int 0]))] := hD
      refine W.widen (k := 1) (n := 4) (by omega) (by omega) ?_
      refine lv_dup hx hb dX8_copy_29 rfl ?_
      refine lv_iload_n hx hb dX8_copy_30 rfl (lv_at hl 2 rfl) ?_
      refine lv_iload_n hx hb dX8_copy_31 rfl (lv_at hl 3 rfl) ?_
      refine lv_iload hx hb dX8_copy_32 (lv_at hl 4 rfl) ?_
      refine lv_iload hx hb dX8_copy_34 (lv_at hl 5 rfl) ?_
      have hPc := hP.sub (ws' := [(q_7, .inr (2, [.int 0, .int 0, .int 0, .int 0]))]) [8] rfl
      have hDc := hD.sub (ws' := [(q_7, .inr (2, [.int 0, .int 0, .int 0, .int 0]))]) [8] (by decide) rfl
      have hKc := hK.sub (tys' := []) [] rfl
      have hFc := va_free (wc := [(q_7, .inr (2, [.int 0, .int 0, .int 0, .int 0]))]) hD hS hA [8] rfl
      refine va_callv (va_runI (As := [.int ax, .int ay, .int aw, .int ah]) (rest := [.ref q_7, .int k, .ref h0]) ⟨hx, hb, hml, hown, hts⟩ (k_X2_init l D H.size q_7 ax ay aw ah) (cwI 4 hts (gI bw_57) rfl rfl rfl (hts _ bw_55) (hts _ bw_317) (hts _ bw_58) rfl (by decide +kernel) ⟨(by rw [hR]; exact Nat.le_of_ble_eq_true rfl), (by rw [hR]; exact Nat.le_of_ble_eq_true rfl)⟩) ⟨cP_blind, cP_at hPc hKc hDc hN⟩ rfl rfl hl.1 rfl (lv_room (Nat.le_of_ble_eq_true rfl)) dX8_copy_36 ⟨(by rw [hR]; exact Nat.le_of_ble_eq_true rfl), (by rw [hR]; exact Nat.le_of_ble_eq_true rfl)⟩) hS (fun q _ h => hFc q h) hFc (fun u9 t9 H1 locs ht hvm hr_8 hB hz1 hk1 hS => ?_)
      try dsimp only at hr_8
      obtain ⟨hP1, hK1, hD1⟩ := hB
      rw [ht] at hP1
      obtain ⟨hP, hD⟩ := va_join (wr := [(h0, .inr (8, [.ref s1, .ref s2, .ref s3, .ref s4, .ref s5, .ref s6, .int ds, va_rf sp, va_rf bt])), (s1, .inl (cO, 4, .inr (.inr (.inr (.inr f))))), (s2, .inr (1, [.ref bx, .int ik, .int wy, .int op])), (bx, .inr (0, [.int bx0, .int by0, .int bx1, .int by1])), (t0, .inr (5, [.ref d0, .int w, .int h])), (d0, .inl (cI, 4096, .inl g)), (u0, .inr (5, [.ref e0, .int w2, .int h2])), (e0, .inl (cI, 4096, .inl gs))]) (w1 := [(q_7, .inr (2, [.int ax, .int ay, .int aw, .int ah]))]) hP hD [8] [0, 1, 2, 3, 4, 5, 6, 7] rfl rfl (by decide) (by decide) hk1 hFc hP1 hD1
      clear hz1 hk1 hFc hKc hDc hPc
      generalize H1 = H at hP hS ⊢
      have hP : va_P D vwCl [(h0, .inr (8, [.ref s1, .ref s2, .ref s3, .ref s4, .ref s5, .ref s6, .int ds, va_rf sp, va_rf bt])), (s1, .inl (cO, 4, .inr (.inr (.inr (.inr f))))), (s2, .inr (1, [.ref bx, .int ik, .int wy, .int op])), (bx, .inr (0, [.int bx0, .int by0, .int bx1, .int by1])), (t0, .inr (5, [.ref d0, .int w, .int h])), (d0, .inl (cI, 4096, .inl g)), (u0, .inr (5, [.ref e0, .int w2, .int h2])), (e0, .inl (cI, 4096, .inl gs)), (q_7, .inr (2, [.int ax, .int ay, .int aw, .int ah]))] H := hP
      have hD : va_D A [(h0, .inr (8, [.ref s1, .ref s2, .ref s3, .ref s4, .ref s5, .ref s6, .int ds, va_rf sp, va_rf bt])), (s1, .inl (cO, 4, .inr (.inr (.inr (.inr f))))), (s2, .inr (1, [.ref bx, .int ik, .int wy, .int op])), (bx, .inr (0, [.int bx0, .int by0, .int bx1, .int by1])), (t0, .inr (5, [.ref d0, .int w, .int h])), (d0, .inl (cI, 4096, .inl g)), (u0, .inr (5, [.ref e0, .int w2, .int h2])), (e0, .inl (cI, 4096, .inl gs)), (q_7, .inr (2, [.int ax, .int ay, .int aw, .int ah]))] := hD
      refine lv_iload hx hb dX8_copy_39 (lv_at hl 6 rfl) ?_
      refine va_new (ci := 2) (fs := [.int 0, .int 0, .int 0, .int 0]) (C := RX2) (T := TX2) (N := 4) hx hb hts hi_X2 tyX2 tyX2_ok hown (hts _ bw_316) (hts _ bw_56) (hts _ bw_55) hK hP hD hS hA rfl z_X2 (by rw [hR]; exact Nat.le_of_ble_eq_true rfl) (by rw [hR]; exact Nat.le_of_ble_eq_true rfl) dX8_copy_41 (fun q_9 H hP hD hS => ?_)
      have hP : va_P D vwCl [(h0, .inr (8, [.ref s1, .ref s2, .ref s3, .ref s4, .ref s5, .ref s6, .int ds, va_rf sp, va_rf bt])), (s1, .inl (cO, 4, .inr (.inr (.inr (.inr f))))), (s2, .inr (1, [.ref bx, .int ik, .int wy, .int op])), (bx, .inr (0, [.int bx0, .int by0, .int bx1, .int by1])), (t0, .inr (5, [.ref d0, .int w, .int h])), (d0, .inl (cI, 4096, .inl g)), (u0, .inr (5, [.ref e0, .int w2, .int h2])), (e0, .inl (cI, 4096, .inl gs)), (q_7, .inr (2, [.int ax, .int ay, .int aw, .int ah])), (q_9, .inr (2, [.int 0, .int 0, .int 0, .int 0]))] H := hP
      have hD : va_D A [(h0, .inr (8, [.ref s1, .ref s2, .ref s3, .ref s4, .ref s5, .ref s6, .int ds, va_rf sp, va_rf bt])), (s1, .inl (cO, 4, .inr (.inr (.inr (.inr f))))), (s2, .inr (1, [.ref bx, .int ik, .int wy, .int op])), (bx, .inr (0, [.int bx0, .int by0, .int bx1, .int by1])), (t0, .inr (5, [.ref d0, .int w, .int h])), (d0, .inl (cI, 4096, .inl g)), (u0, .inr (5, [.ref e0, .int w2, .int h2])), (e0, .inl (cI, 4096, .inl gs)), (q_7, .inr (2, [.int ax, .int ay, .int aw, .int ah])), (q_9, .inr (2, [.int 0, .int 0, .int 0, .int 0]))] := hD
      refine W.widen (k := 2) (n := 8) (by omega) (by omega) ?_
      refine lv_dup hx hb dX8_copy_44 rfl ?_
      refine lv_iload hx hb dX8_copy_45 (lv_at hl 7 rfl) ?_
      refine lv_iload hx hb dX8_copy_47 (lv_at hl 8 rfl) ?_
      refine lv_iload hx hb dX8_copy_49 (lv_at hl 4 rfl) ?_
      refine lv_iload hx hb dX8_copy_51 (lv_at hl 5 rfl) ?_
      have hPc := hP.sub (ws' := [(q_9, .inr (2, [.int 0, .int 0, .int 0, .int 0]))]) [9] rfl
      have hDc := hD.sub (ws' := [(q_9, .inr (2, [.int 0, .int 0, .int 0, .int 0]))]) [9] (by decide) rfl
      have hKc := hK.sub (tys' := []) [] rfl
      have hFc := va_free (wc := [(q_9, .inr (2, [.int 0, .int 0, .int 0, .int 0]))]) hD hS hA [9] rfl
      refine va_callv (va_runI (As := [.int ox, .int oy, .int aw, .int ah]) (rest := [.ref q_9, .int kq, .ref q_7, .int k, .ref h0]) ⟨hx, hb, hml, hown, hts⟩ (k_X2_init l D H.size q_9 ox oy aw ah) (cwI 4 hts (gI bw_57) rfl rfl rfl (hts _ bw_55) (hts _ bw_317) (hts _ bw_58) rfl (by decide +kernel) ⟨(by rw [hR]; exact Nat.le_of_ble_eq_true rfl), (by rw [hR]; exact Nat.le_of_ble_eq_true rfl)⟩) ⟨cP_blind, cP_at hPc hKc hDc hN⟩ rfl rfl hl.1 rfl (lv_room (Nat.le_of_ble_eq_true rfl)) dX8_copy_53 ⟨(by rw [hR]; exact Nat.le_of_ble_eq_true rfl), (by rw [hR]; exact Nat.le_of_ble_eq_true rfl)⟩) hS (fun q _ h => hFc q h) hFc (fun u9 t9 H1 locs ht hvm hr_10 hB hz1 hk1 hS => ?_)
      try dsimp only at hr_10
      obtain ⟨hP1, hK1, hD1⟩ := hB
      rw [ht] at hP1
      obtain ⟨hP, hD⟩ := va_join (wr := [(h0, .inr (8, [.ref s1, .ref s2, .ref s3, .ref s4, .ref s5, .ref s6, .int ds, va_rf sp, va_rf bt])), (s1, .inl (cO, 4, .inr (.inr (.inr (.inr f))))), (s2, .inr (1, [.ref bx, .int ik, .int wy, .int op])), (bx, .inr (0, [.int bx0, .int by0, .int bx1, .int by1])), (t0, .inr (5, [.ref d0, .int w, .int h])), (d0, .inl (cI, 4096, .inl g)), (u0, .inr (5, [.ref e0, .int w2, .int h2])), (e0, .inl (cI, 4096, .inl gs)), (q_7, .inr (2, [.int ax, .int ay, .int aw, .int ah]))]) (w1 := [(q_9, .inr (2, [.int ox, .int oy, .int aw, .int ah]))]) hP hD [9] [0, 1, 2, 3, 4, 5, 6, 7, 8] rfl rfl (by decide) (by decide) hk1 hFc hP1 hD1
      clear hz1 hk1 hFc hKc hDc hPc
      generalize H1 = H at hP hS ⊢
      have hP : va_P D vwCl [(h0, .inr (8, [.ref s1, .ref s2, .ref s3, .ref s4, .ref s5, .ref s6, .int ds, va_rf sp, va_rf bt])), (s1, .inl (cO, 4, .inr (.inr (.inr (.inr f))))), (s2, .inr (1, [.ref bx, .int ik, .int wy, .int op])), (bx, .inr (0, [.int bx0, .int by0, .int bx1, .int by1])), (t0, .inr (5, [.ref d0, .int w, .int h])), (d0, .inl (cI, 4096, .inl g)), (u0, .inr (5, [.ref e0, .int w2, .int h2])), (e0, .inl (cI, 4096, .inl gs)), (q_7, .inr (2, [.int ax, .int ay, .int aw, .int ah])), (q_9, .inr (2, [.int ox, .int oy, .int aw, .int ah]))] H := hP
      have hD : va_D A [(h0, .inr (8, [.ref s1, .ref s2, .ref s3, .ref s4, .ref s5, .ref s6, .int ds, va_rf sp, va_rf bt])), (s1, .inl (cO, 4, .inr (.inr (.inr (.inr f))))), (s2, .inr (1, [.ref bx, .int ik, .int wy, .int op])), (bx, .inr (0, [.int bx0, .int by0, .int bx1, .int by1])), (t0, .inr (5, [.ref d0, .int w, .int h])), (d0, .inl (cI, 4096, .inl g)), (u0, .inr (5, [.ref e0, .int w2, .int h2])), (e0, .inl (cI, 4096, .inl gs)), (q_7, .inr (2, [.int ax, .int ay, .int aw, .int ah])), (q_9, .inr (2, [.int ox, .int oy, .int aw, .int ah]))] := hD
      have hPc := hP.sub (ws' := [(h0, .inr (8, [.ref s1, .ref s2, .ref s3, .ref s4, .ref s5, .ref s6, .int ds, va_rf sp, va_rf bt])), (s1, .inl (cO, 4, .inr (.inr (.inr (.inr f))))), (s2, .inr (1, [.ref bx, .int ik, .int wy, .int op])), (bx, .inr (0, [.int bx0, .int by0, .int bx1, .int by1])), (t0, .inr (5, [.ref d0, .int w, .int h])), (d0, .inl (cI, 4096, .inl g)), (u0, .inr (5, [.ref e0, .int w2, .int h2])), (e0, .inl (cI, 4096, .inl gs)), (q_7, .inr (2, [.int ax, .int ay, .int aw, .int ah])), (q_9, .inr (2, [.int ox, .int oy, .int aw, .int ah]))]) [0, 1, 2, 3, 4, 5, 6, 7, 8, 9] rfl
      have hDc := hD.sub (ws' := [(h0, .inr (8, [.ref s1, .ref s2, .ref s3, .ref s4, .ref s5, .ref s6, .int ds, va_rf sp, va_rf bt])), (s1, .inl (cO, 4, .inr (.inr (.inr (.inr f))))), (s2, .inr (1, [.ref bx, .int ik, .int wy, .int op])), (bx, .inr (0, [.int bx0, .int by0, .int bx1, .int by1])), (t0, .inr (5, [.ref d0, .int w, .int h])), (d0, .inl (cI, 4096, .inl g)), (u0, .inr (5, [.ref e0, .int w2, .int h2])), (e0, .inl (cI, 4096, .inl gs)), (q_7, .inr (2, [.int ax, .int ay, .int aw, .int ah])), (q_9, .inr (2, [.int ox, .int oy, .int aw, .int ah]))]) [0, 1, 2, 3, 4, 5, 6, 7, 8, 9] (by decide) rfl
      have hKc := hK.sub (tys' := [(cO, .object "DotBench$Sheet"), (cI, .int)]) [0, 1] rfl
      have hFc := va_free (wc := [(h0, .inr (8, [.ref s1, .ref s2, .ref s3, .ref s4, .ref s5, .ref s6, .int ds, va_rf sp, va_rf bt])), (s1, .inl (cO, 4, .inr (.inr (.inr (.inr f))))), (s2, .inr (1, [.ref bx, .int ik, .int wy, .int op])), (bx, .inr (0, [.int bx0, .int by0, .int bx1, .int by1])), (t0, .inr (5, [.ref d0, .int w, .int h])), (d0, .inl (cI, 4096, .inl g)), (u0, .inr (5, [.ref e0, .int w2, .int h2])), (e0, .inl (cI, 4096, .inl gs)), (q_7, .inr (2, [.int ax, .int ay, .int aw, .int ah])), (q_9, .inr (2, [.int ox, .int oy, .int aw, .int ah]))]) hD hS hA [0, 1, 2, 3, 4, 5, 6, 7, 8, 9] rfl
      refine va_calli (va_runV (As := [.int k, .ref q_7, .int kq, .ref q_9]) (rest := []) ⟨hx, hb, hml, hown, hts⟩ (k_X8_carry_d l D H.size h0 s1 s2 s3 s4 s5 s6 ds sp bt f bx t0 d0 ik wy op bx0 by0 bx1 by1 w h g u0 e0 w2 h2 gs q_7 q_9 ax ay aw ah ox oy aw ah k kq cO cI (by first | assumption | omega | decide) (by first | assumption | omega | decide) (by first | assumption | omega | decide) (by first | assumption | omega | decide) (by first | assumption | omega | decide) (by first | assumption | omega | decide) (by first | assumption | omega | decide) (by first | assumption | omega | decide) (by first | assumption | omega | decide) (by first | assumption | omega | decide) (by first | assumption | omega | decide) (by first | assumption | omega | decide) (by first | assumption | omega | decide)) (cwV 4 hts (gV bw_318 bw_383 bw_384 bw_223 bw_382) rfl rfl rfl (by decide +kernel) ⟨(by rw [hR]; exact Nat.le_of_ble_eq_true rfl), (by rw [hR]; exact Nat.le_of_ble_eq_true rfl)⟩) ⟨cP_blind, va_recv hKc hPc (ci := 8) (q0 := 0) rfl rfl, cP_at hPc hKc hDc hN⟩ rfl rfl hl.1 rfl (lv_room (Nat.le_of_ble_eq_true rfl)) dX8_copy_56 ⟨(by rw [hR]; exact Nat.le_of_ble_eq_true rfl), (by rw [hR]; exact Nat.le_of_ble_eq_true rfl)⟩) hS (fun q _ h => hFc q h) hFc (fun r_11 u9 t9 H1 locs ht hvm hr_11 hB hz1 hk1 hS => ?_)
      try dsimp only at hr_11
      obtain ⟨g_12, hP1, hK1, hD1⟩ := hB
      rw [ht] at hP1
      obtain ⟨hP, hD⟩ := va_join (wr := []) (w1 := [(h0, .inr (8, [.ref s1, .ref s2, .ref s3, .ref s4, .ref s5, .ref s6, .int ds, va_rf sp, va_rf bt])), (s1, .inl (cO, 4, .inr (.inr (.inr (.inr f))))), (s2, .inr (1, [.ref bx, .int ik, .int wy, .int op])), (bx, .inr (0, [.int bx0, .int by0, .int bx1, .int by1])), (t0, .inr (5, [.ref d0, .int w, .int h])), (d0, .inl (cI, 4096, .inl g_12)), (u0, .inr (5, [.ref e0, .int w2, .int h2])), (e0, .inl (cI, 4096, .inl gs))]) hP hD [0, 1, 2, 3, 4, 5, 6, 7, 8, 9] [] rfl rfl (by decide) (by decide) hk1 hFc hP1 hD1
      clear hz1 hk1 hFc hKc hDc hPc
      generalize H1 = H at hP hS ⊢
      have hP : va_P D vwCl [(h0, .inr (8, [.ref s1, .ref s2, .ref s3, .ref s4, .ref s5, .ref s6, .int ds, va_rf sp, va_rf bt])), (s1, .inl (cO, 4, .inr (.inr (.inr (.inr f))))), (s2, .inr (1, [.ref bx, .int ik, .int wy, .int op])), (bx, .inr (0, [.int bx0, .int by0, .int bx1, .int by1])), (t0, .inr (5, [.ref d0, .int w, .int h])), (d0, .inl (cI, 4096, .inl g_12)), (u0, .inr (5, [.ref e0, .int w2, .int h2])), (e0, .inl (cI, 4096, .inl gs))] H := hP
      have hD : va_D A [(h0, .inr (8, [.ref s1, .ref s2, .ref s3, .ref s4, .ref s5, .ref s6, .int ds, va_rf sp, va_rf bt])), (s1, .inl (cO, 4, .inr (.inr (.inr (.inr f))))), (s2, .inr (1, [.ref bx, .int ik, .int wy, .int op])), (bx, .inr (0, [.int bx0, .int by0, .int bx1, .int by1])), (t0, .inr (5, [.ref d0, .int w, .int h])), (d0, .inl (cI, 4096, .inl g_12)), (u0, .inr (5, [.ref e0, .int w2, .int h2])), (e0, .inl (cI, 4096, .inl gs))] := hD
      have hP9 := hP.sub (ws' := [(h0, .inr (8, [.ref s1, .ref s2, .ref s3, .ref s4, .ref s5, .ref s6, .int ds, va_rf sp, va_rf bt])), (s1, .inl (cO, 4, .inr (.inr (.inr (.inr f))))), (s2, .inr (1, [.ref bx, .int ik, .int wy, .int op])), (bx, .inr (0, [.int bx0, .int by0, .int bx1, .int by1])), (t0, .inr (5, [.ref d0, .int w, .int h])), (d0, .inl (cI, 4096, .inl g_12)), (u0, .inr (5, [.ref e0, .int w2, .int h2])), (e0, .inl (cI, 4096, .inl gs))]) [0, 1, 2, 3, 4, 5, 6, 7] rfl
      have hD9 := hD.sub (ws' := [(h0, .inr (8, [.ref s1, .ref s2, .ref s3, .ref s4, .ref s5, .ref s6, .int ds, va_rf sp, va_rf bt])), (s1, .inl (cO, 4, .inr (.inr (.inr (.inr f))))), (s2, .inr (1, [.ref bx, .int ik, .int wy, .int op])), (bx, .inr (0, [.int bx0, .int by0, .int bx1, .int by1])), (t0, .inr (5, [.ref d0, .int w, .int h])), (d0, .inl (cI, 4096, .inl g_12)), (u0, .inr (5, [.ref e0, .int w2, .int h2])), (e0, .inl (cI, 4096, .inl gs))]) [0, 1, 2, 3, 4, 5, 6, 7] (by decide) rfl
      have hK9 := hK.sub (tys' := [(cO, .object "DotBench$Sheet"), (cI, .int)]) [0, 1] rfl
      refine hQ _ _ _ _ _ ?_
      exact W.iret (v := r_11) hx hb hr (fun t ht hW => ⟨⟨r_11, (), rfl, hr_11, ⟨g_12, by rw [ht]; exact hP9, va_K.moved hW.alike hK9, hD9⟩⟩, hS.F ht⟩) hS.2.2 dX8_copy_59
    · skip
      have f_6 := bz0 hr_4 c_5
      exact False.elim (by omega)

set_option maxHeartbeats 4000000 in
set_option maxRecDepth 100000 in
theorem k_X8_copy_s1 (l : Launch) (D : va_G) (sz : Nat) (h0 s1 s2 s3 s4 s5 s6 : Nat) (ds : Int32) (sp : Option Nat) (f : Nat → Option Nat) (bx t0 d0 : Nat) (ik wy op : Int32) (bx0 by0 bx1 by1 : Int32) (w h : Int32) (g : Nat → Int32) (bq bd : Nat) (bw bh : Int32) (gb : Nat → Int32) (k ax ay aw ah kq ox oy : Int32) (cO : ClassId) (cI : ClassId) (hsz : (0 ≤ aw.toInt ∧ aw.toInt ≤ 64) ∧ (0 ≤ ah.toInt ∧ ah.toInt ≤ 64)) (hak : 0 ≤ k.toInt ∧ k.toInt ≤ 3) (haf : f k.toNatClampNeg = some t0) (hb0k : 0 ≤ kq.toInt ∧ kq.toInt ≤ 3) (hb0f : f kq.toNatClampNeg = some t0) (hne : k.toInt = kq.toInt) (hnr : (-200 ≤ ax.toInt ∧ ax.toInt ≤ 200) ∧ (-200 ≤ ay.toInt ∧ ay.toInt ≤ 200) ∧ (-200 ≤ ox.toInt ∧ ox.toInt ≤ 200) ∧ (-200 ≤ oy.toInt ∧ oy.toInt ≤ 200)) (hwy : 0 ≤ wy.toInt ∧ wy.toInt ≤ 12) (hw : w.toInt ≤ 64) (hh : h.toInt ≤ 64) : Met l yX8_copy (wB yX8_copy cX8_copy 9 (some .int)) ({ frames := 4, cells := 2, slots := 8, locals := 106 }) (cP D [(h0, .inr (8, [.ref s1, .ref s2, .ref s3, .ref s4, .ref s5, .ref s6, .int ds, va_rf sp, .ref bq])), (s1, .inl (cO, 4, .inr (.inr (.inr (.inr f))))), (s2, .inr (1, [.ref bx, .int ik, .int wy, .int op])), (bx, .inr (0, [.int bx0, .int by0, .int bx1, .int by1])), (t0, .inr (5, [.ref d0, .int w, .int h])), (d0, .inl (cI, 4096, .inl g)), (bq, .inr (5, [.ref bd, .int bw, .int bh])), (bd, .inl (cI, 4096, .inl gb))] [(cO, .object "DotBench$Sheet"), (cI, .int)] sz [.ref h0, .int k, .int ax, .int ay, .int aw, .int ah, .int kq, .int ox, .int oy]) (va_Qi (fun (r : Int32) (_ : Unit) => True) (fun (_ : Unit) (t : State) => ∃ (g2 g3 : Nat → Int32), cB D (va_A [(h0, .inr (8, [.ref s1, .ref s2, .ref s3, .ref s4, .ref s5, .ref s6, .int ds, va_rf sp, .ref bq])), (s1, .inl (cO, 4, .inr (.inr (.inr (.inr f))))), (s2, .inr (1, [.ref bx, .int ik, .int wy, .int op])), (bx, .inr (0, [.int bx0, .int by0, .int bx1, .int by1])), (t0, .inr (5, [.ref d0, .int w, .int h])), (d0, .inl (cI, 4096, .inl g)), (bq, .inr (5, [.ref bd, .int bw, .int bh])), (bd, .inl (cI, 4096, .inl gb))] sz) [(h0, .inr (8, [.ref s1, .ref s2, .ref s3, .ref s4, .ref s5, .ref s6, .int ds, va_rf sp, .ref bq])), (s1, .inl (cO, 4, .inr (.inr (.inr (.inr f))))), (s2, .inr (1, [.ref bx, .int ik, .int wy, .int op])), (bx, .inr (0, [.int bx0, .int by0, .int bx1, .int by1])), (t0, .inr (5, [.ref d0, .int w, .int h])), (d0, .inl (cI, 4096, .inl g2)), (bq, .inr (5, [.ref bd, .int w, .int h])), (bd, .inl (cI, 4096, .inl g3))] [(cO, .object "DotBench$Sheet"), (cI, .int)] t) (va_A [(h0, .inr (8, [.ref s1, .ref s2, .ref s3, .ref s4, .ref s5, .ref s6, .int ds, va_rf sp, .ref bq])), (s1, .inl (cO, 4, .inr (.inr (.inr (.inr f))))), (s2, .inr (1, [.ref bx, .int ik, .int wy, .int op])), (bx, .inr (0, [.int bx0, .int by0, .int bx1, .int by1])), (t0, .inr (5, [.ref d0, .int w, .int h])), (d0, .inl (cI, 4096, .inl g)), (bq, .inr (5, [.ref bd, .int bw, .int bh])), (bd, .inl (cI, 4096, .inl gb))] sz)) 2 8 (va_A [(h0, .inr (8, [.ref s1, .ref s2, .ref s3, .ref s4, .ref s5, .ref s6, .int ds, va_rf sp, .ref bq])), (s1, .inl (cO, 4, .inr (.inr (.inr (.inr f))))), (s2, .inr (1, [.ref bx, .int ik, .int wy, .int op])), (bx, .inr (0, [.int bx0, .int by0, .int bx1, .int by1])), (t0, .inr (5, [.ref d0, .int w, .int h])), (d0, .inl (cI, 4096, .inl g)), (bq, .inr (5, [.ref bd, .int bw, .int bh])), (bd, .inl (cI, 4096, .inl gb))] sz) := by
  refine Met.ofW (cc := cX8_copy) (maxL := 9) (ret := (some .int)) (by decide) rfl ?_
  intro p e s m args below meth c s₁ B hml hv
  obtain ⟨rfl, hsz, hP, hK, hD0, hN⟩ := hv
  have hx := B.exec
  have hb := B.bytes
  have hr := B.returns
  have hts0 := atoms_spec (ws := (wB yX8_copy cX8_copy 9 (some .int))) B.pre
  have hts : ∀ w ∈ bigW, w.before _ s = true := fun w h => hts0 w (List.mem_cons_of_mem _ h)
  have hown : s.vm.findClass RX8 = some m.cls := findClass_of_methodNamed B.named
  have hlocks := B.notSynchronized
  subst hsz
  have hD := hD0.self (sz := s.heap.size)
  generalize hAe : va_A [(h0, .inr (8, [.ref s1, .ref s2, .ref s3, .ref s4, .ref s5, .ref s6, .int ds, va_rf sp, .ref bq])), (s1, .inl (cO, 4, .inr (.inr (.inr (.inr f))))), (s2, .inr (1, [.ref bx, .int ik, .int wy, .int op])), (bx, .inr (0, [.int bx0, .int by0, .int bx1, .int by1])), (t0, .inr (5, [.ref d0, .int w, .int h])), (d0, .inl (cI, 4096, .inl g)), (bq, .inr (5, [.ref bd, .int bw, .int bh])), (bd, .inl (cI, 4096, .inl gb))] s.heap.size = A at hD ⊢
  have hA : ∀ q : Nat, s.heap.size ≤ q → A q := fun q h => by rw [← hAe]; exact Or.inr h
  have hS : va_S A s.heap s.heap [] := va_S.rf
  have hP : va_P D vwCl [(h0, .inr (8, [.ref s1, .ref s2, .ref s3, .ref s4, .ref s5, .ref s6, .int ds, va_rf sp, .ref bq])), (s1, .inl (cO, 4, .inr (.inr (.inr (.inr f))))), (s2, .inr (1, [.ref bx, .int ik, .int wy, .int op])), (bx, .inr (0, [.int bx0, .int by0, .int bx1, .int by1])), (t0, .inr (5, [.ref d0, .int w, .int h])), (d0, .inl (cI, 4096, .inl g)), (bq, .inr (5, [.ref bd, .int bw, .int bh])), (bd, .inl (cI, 4096, .inl gb))] s.heap := hP
  have hl := lv_entry ([.ref h0, .int k, .int ax, .int ay, .int aw, .int ah, .int kq, .int ox, .int oy]) (n := 9) (Nat.le_of_ble_eq_true rfl)
  rw [lg_entry_eq]
  generalize (lg_sl ([.ref h0, .int k, .int ax, .int ay, .int aw, .int ah, .int kq, .int ox, .int oy]) ++ List.replicate (9 - (lg_sl ([.ref h0, .int k, .int ax, .int ay, .int aw, .int ah, .int kq, .int ox, .int oy])).length) Slot.unset).toArray = ls at hl ⊢
  have hl : lv_has ls 9 [(0, .ref h0), (1, .int k), (2, .int ax), (3, .int ay), (4, .int aw), (5, .int ah), (6, .int kq), (7, .int ox), (8, .int oy)] := hl
  clear hts0 hD0 hAe
  refine my_abs (fun R Q hR hQ => ?_)
  refine lv_iload hx hb dX8_copy_0 (lv_at hl 4 rfl) ?_
  refine lv_iconst (v := 0) hx hb dX8_copy_2 (by decide) ?_
  refine lv_bipush (v := 64) hx hb dX8_copy_3 (by decide) ?_
  have hPc := hP.sub (ws' := []) [] rfl
  have hDc := hD.sub (ws' := []) [] (by decide) rfl
  have hKc := hK.sub (tys' := []) [] rfl
  have hFc := va_free (wc := []) hD hS hA [] rfl
  refine va_calli (va_runS (As := [.int aw, .int 0, .int 64]) (rest := []) ⟨hx, hb, hml, hown, hts⟩ (k_X8_isWithin l D s.heap.size aw 0 64 0 64 (by decide) (by decide)) (va_cwS 3 hts (gS bw_256 bw_349 bw_223 bw_348) rfl rfl rfl (by decide +kernel) ⟨(by rw [hR]; exact Nat.le_of_ble_eq_true rfl), (by rw [hR]; exact Nat.le_of_ble_eq_true rfl)⟩) ⟨cP_blind, cP_at hPc hKc hDc hN⟩ rfl rfl hl.1 rfl (lv_room (Nat.le_of_ble_eq_true rfl)) dX8_copy_5 ⟨(by rw [hR]; exact Nat.le_of_ble_eq_true rfl), (by rw [hR]; exact Nat.le_of_ble_eq_true rfl)⟩) hS (fun q _ h => hFc q h) hFc (fun r_1 u9 t9 H1 locs ht hvm hr_1 hB hz1 hk1 hS => ?_)
  try dsimp only at hr_1
  have hP1 : va_P D vwCl [] H1 := vP_nil
  have hD1 : va_D (va_A [] s.heap.size) [] := vD_nil
  obtain ⟨hP, hD⟩ := va_join (wr := [(h0, .inr (8, [.ref s1, .ref s2, .ref s3, .ref s4, .ref s5, .ref s6, .int ds, va_rf sp, .ref bq])), (s1, .inl (cO, 4, .inr (.inr (.inr (.inr f))))), (s2, .inr (1, [.ref bx, .int ik, .int wy, .int op])), (bx, .inr (0, [.int bx0, .int by0, .int bx1, .int by1])), (t0, .inr (5, [.ref d0, .int w, .int h])), (d0, .inl (cI, 4096, .inl g)), (bq, .inr (5, [.ref bd, .int bw, .int bh])), (bd, .inl (cI, 4096, .inl gb))]) (w1 := []) hP hD [] [0, 1, 2, 3, 4, 5, 6, 7] rfl rfl (by decide) (by decide) hk1 hFc hP1 hD1
  clear hz1 hk1 hFc hKc hDc hPc
  generalize H1 = H at hP hS ⊢
  have hP : va_P D vwCl [(h0, .inr (8, [.ref s1, .ref s2, .ref s3, .ref s4, .ref s5, .ref s6, .int ds, va_rf sp, .ref bq])), (s1, .inl (cO, 4, .inr (.inr (.inr (.inr f))))), (s2, .inr (1, [.ref bx, .int ik, .int wy, .int op])), (bx, .inr (0, [.int bx0, .int by0, .int bx1, .int by1])), (t0, .inr (5, [.ref d0, .int w, .int h])), (d0, .inl (cI, 4096, .inl g)), (bq, .inr (5, [.ref bd, .int bw, .int bh])), (bd, .inl (cI, 4096, .inl gb))] H := hP
  have hD : va_D A [(h0, .inr (8, [.ref s1, .ref s2, .ref s3, .ref s4, .ref s5, .ref s6, .int ds, va_rf sp, .ref bq])), (s1, .inl (cO, 4, .inr (.inr (.inr (.inr f))))), (s2, .inr (1, [.ref bx, .int ik, .int wy, .int op])), (bx, .inr (0, [.int bx0, .int by0, .int bx1, .int by1])), (t0, .inr (5, [.ref d0, .int w, .int h])), (d0, .inl (cI, 4096, .inl g)), (bq, .inr (5, [.ref bd, .int bw, .int bh])), (bd, .inl (cI, 4096, .inl gb))] := hD
  refine lv_if_eq (tgt := 22) hx hb dX8_copy_8 (by decide) (fun c_2 => ?_) (fun c_2 => ?_)
  · skip
    have f_3 := bz0 hr_1 c_2
    exact False.elim (by omega)
  · skip
    have f_3 := bz1 hr_1 c_2
    refine lv_iload hx hb dX8_copy_11 (lv_at hl 5 rfl) ?_
    refine lv_iconst (v := 0) hx hb dX8_copy_13 (by decide) ?_
    refine lv_bipush (v := 64) hx hb dX8_copy_14 (by decide) ?_
    have hPc := hP.sub (ws' := []) [] rfl
    have hDc := hD.sub (ws' := []) [] (by decide) rfl
    have hKc := hK.sub (tys' := []) [] rfl
    have hFc := va_free (wc := []) hD hS hA [] rfl
    refine va_calli (va_runS (As := [.int ah, .int 0, .int 64]) (rest := []) ⟨hx, hb, hml, hown, hts⟩ (k_X8_isWithin l D H.size ah 0 64 0 64 (by decide) (by decide)) (va_cwS 3 hts (gS bw_256 bw_349 bw_223 bw_348) rfl rfl rfl (by decide +kernel) ⟨(by rw [hR]; exact Nat.le_of_ble_eq_true rfl), (by rw [hR]; exact Nat.le_of_ble_eq_true rfl)⟩) ⟨cP_blind, cP_at hPc hKc hDc hN⟩ rfl rfl hl.1 rfl (lv_room (Nat.le_of_ble_eq_true rfl)) dX8_copy_16 ⟨(by rw [hR]; exact Nat.le_of_ble_eq_true rfl), (by rw [hR]; exact Nat.le_of_ble_eq_true rfl)⟩) hS (fun q _ h => hFc q h) hFc (fun r_4 u9 t9 H1 locs ht hvm hr_4 hB hz1 hk1 hS => ?_)
    try dsimp only at hr_4
    have hP1 : va_P D vwCl [] H1 := vP_nil
    have hD1 : va_D (va_A [] H.size) [] := vD_nil
    obtain ⟨hP, hD⟩ := va_join (wr := [(h0, .inr (8, [.ref s1, .ref s2, .ref s3, .ref s4, .ref s5, .ref s6, .int ds, va_rf sp, .ref bq])), (s1, .inl (cO, 4, .inr (.inr (.inr (.inr f))))), (s2, .inr (1, [.ref bx, .int ik, .int wy, .int op])), (bx, .inr (0, [.int bx0, .int by0, .int bx1, .int by1])), (t0, .inr (5, [.ref d0, .int w, .int h])), (d0, .inl (cI, 4096, .inl g)), (bq, .inr (5, [.ref bd, .int bw, .int bh])), (bd, .inl (cI, 4096, .inl gb))]) (w1 := []) hP hD [] [0, 1, 2, 3, 4, 5, 6, 7] rfl rfl (by decide) (by decide) hk1 hFc hP1 hD1
    clear hz1 hk1 hFc hKc hDc hPc
    generalize H1 = H at hP hS ⊢
    have hP : va_P D vwCl [(h0, .inr (8, [.ref s1, .ref s2, .ref s3, .ref s4, .ref s5, .ref s6, .int ds, va_rf sp, .ref bq])), (s1, .inl (cO, 4, .inr (.inr (.inr (.inr f))))), (s2, .inr (1, [.ref bx, .int ik, .int wy, .int op])), (bx, .inr (0, [.int bx0, .int by0, .int bx1, .int by1])), (t0, .inr (5, [.ref d0, .int w, .int h])), (d0, .inl (cI, 4096, .inl g)), (bq, .inr (5, [.ref bd, .int bw, .int bh])), (bd, .inl (cI, 4096, .inl gb))] H := hP
    have hD : va_D A [(h0, .inr (8, [.ref s1, .ref s2, .ref s3, .ref s4, .ref s5, .ref s6, .int ds, va_rf sp, .ref bq])), (s1, .inl (cO, 4, .inr (.inr (.inr (.inr f))))), (s2, .inr (1, [.ref bx, .int ik, .int wy, .int op])), (bx, .inr (0, [.int bx0, .int by0, .int bx1, .int by1])), (t0, .inr (5, [.ref d0, .int w, .int h])), (d0, .inl (cI, 4096, .inl g)), (bq, .inr (5, [.ref bd, .int bw, .int bh])), (bd, .inl (cI, 4096, .inl gb))] := hD
    refine lv_if_ne (tgt := 24) hx hb dX8_copy_19 (by decide) (fun c_5 => ?_) (fun c_5 => ?_)
    · skip
      have f_6 := bz1 hr_4 c_5
      refine lv_aload_n hx hb dX8_copy_24 rfl (lv_at hl 0 rfl) ?_
      refine lv_iload_n hx hb dX8_copy_25 rfl (lv_at hl 1 rfl) ?_
      refine va_new (ci := 2) (fs := [.int 0, .int 0, .int 0, .int 0]) (C := RX2) (T := TX2) (N := 4) hx hb hts hi_X2 tyX2 tyX2_ok hown (hts _ bw_316) (hts _ bw_56) (hts _ bw_55) hK hP hD hS hA rfl z_X2 (by rw [hR]; exact Nat.le_of_ble_eq_true rfl) (by rw [hR]; exact Nat.le_of_ble_eq_true rfl) dX8_copy_26 (fun q_7 H hP hD hS => ?_)
      have hP : va_P D vwCl [(h0, .inr (8, [.ref s1, .ref s2, .ref s3, .ref s4, .ref s5, .ref s6, .int ds, va_rf sp, .ref bq])), (s1, .inl (cO, 4, .inr (.inr (.inr (.inr f))))), (s2, .inr (1, [.ref bx, .int ik, .int wy, .int op])), (bx, .inr (0, [.int bx0, .int by0, .int bx1, .int by1])), (t0, .inr (5, [.ref d0, .int w, .int h])), (d0, .inl (cI, 4096, .inl g)), (bq, .inr (5, [.ref bd, .int bw, .int bh])), (bd, .inl (cI, 4096, .inl gb)), (q_7, .inr (2, [.int 0, .int 0, .int 0, .int 0]))] H := hP
      have hD : va_D A [(h0, .inr (8, [.ref s1, .ref s2, .ref s3, .ref s4, .ref s5, .ref s6, .int ds, va_rf sp, .ref bq])), (s1, .inl (cO, 4, .inr (.inr (.inr (.inr f))))), (s2, .inr (1, [.ref bx, .int ik, .int wy, .int op])), (bx, .inr (0, [.int bx0, .int by0, .int bx1, .int by1])), (t0, .inr (5, [.ref d0, .int w, .int h])), (d0, .inl (cI, 4096, .inl g)), (bq, .inr (5, [.ref bd, .int bw, .int bh])), (bd, .inl (cI, 4096, .inl gb)), (q_7, .inr (2, [.int 0, .int 0, .int 0, .int 0]))] := hD
      refine W.widen (k := 1) (n := 4) (by omega) (by omega) ?_
      refine lv_dup hx hb dX8_copy_29 rfl ?_
      refine lv_iload_n hx hb dX8_copy_30 rfl (lv_at hl 2 rfl) ?_
      refine lv_iload_n hx hb dX8_copy_31 rfl (lv_at hl 3 rfl) ?_
      refine lv_iload hx hb dX8_copy_32 (lv_at hl 4 rfl) ?_
      refine lv_iload hx hb dX8_copy_34 (lv_at hl 5 rfl) ?_
      have hPc := hP.sub (ws' := [(q_7, .inr (2, [.int 0, .int 0, .int 0, .int 0]))]) [8] rfl
      have hDc := hD.sub (ws' := [(q_7, .inr (2, [.int 0, .int 0, .int 0, .int 0]))]) [8] (by decide) rfl
      have hKc := hK.sub (tys' := []) [] rfl
      have hFc := va_free (wc := [(q_7, .inr (2, [.int 0, .int 0, .int 0, .int 0]))]) hD hS hA [8] rfl
      refine va_callv (va_runI (As := [.int ax, .int ay, .int aw, .int ah]) (rest := [.ref q_7, .int k, .ref h0]) ⟨hx, hb, hml, hown, hts⟩ (k_X2_init l D H.size q_7 ax ay aw ah) (cwI 4 hts (gI bw_57) rfl rfl rfl (hts _ bw_55) (hts _ bw_317) (hts _ bw_58) rfl (by decide +kernel) ⟨(by rw [hR]; exact Nat.le_of_ble_eq_true rfl), (by rw [hR]; exact Nat.le_of_ble_eq_true rfl)⟩) ⟨cP_blind, cP_at hPc hKc hDc hN⟩ rfl rfl hl.1 rfl (lv_room (Nat.le_of_ble_eq_true rfl)) dX8_copy_36 ⟨(by rw [hR]; exact Nat.le_of_ble_eq_true rfl), (by rw [hR]; exact Nat.le_of_ble_eq_true rfl)⟩) hS (fun q _ h => hFc q h) hFc (fun u9 t9 H1 locs ht hvm hr_8 hB hz1 hk1 hS => ?_)
      try dsimp only at hr_8
      obtain ⟨hP1, hK1, hD1⟩ := hB
      rw [ht] at hP1
      obtain ⟨hP, hD⟩ := va_join (wr := [(h0, .inr (8, [.ref s1, .ref s2, .ref s3, .ref s4, .ref s5, .ref s6, .int ds, va_rf sp, .ref bq])), (s1, .inl (cO, 4, .inr (.inr (.inr (.inr f))))), (s2, .inr (1, [.ref bx, .int ik, .int wy, .int op])), (bx, .inr (0, [.int bx0, .int by0, .int bx1, .int by1])), (t0, .inr (5, [.ref d0, .int w, .int h])), (d0, .inl (cI, 4096, .inl g)), (bq, .inr (5, [.ref bd, .int bw, .int bh])), (bd, .inl (cI, 4096, .inl gb))]) (w1 := [(q_7, .inr (2, [.int ax, .int ay, .int aw, .int ah]))]) hP hD [8] [0, 1, 2, 3, 4, 5, 6, 7] rfl rfl (by decide) (by decide) hk1 hFc hP1 hD1
      clear hz1 hk1 hFc hKc hDc hPc
      generalize H1 = H at hP hS ⊢
      have hP : va_P D vwCl [(h0, .inr (8, [.ref s1, .ref s2, .ref s3, .ref s4, .ref s5, .ref s6, .int ds, va_rf sp, .ref bq])), (s1, .inl (cO, 4, .inr (.inr (.inr (.inr f))))), (s2, .inr (1, [.ref bx, .int ik, .int wy, .int op])), (bx, .inr (0, [.int bx0, .int by0, .int bx1, .int by1])), (t0, .inr (5, [.ref d0, .int w, .int h])), (d0, .inl (cI, 4096, .inl g)), (bq, .inr (5, [.ref bd, .int bw, .int bh])), (bd, .inl (cI, 4096, .inl gb)), (q_7, .inr (2, [.int ax, .int ay, .int aw, .int ah]))] H := hP
      have hD : va_D A [(h0, .inr (8, [.ref s1, .ref s2, .ref s3, .ref s4, .ref s5, .ref s6, .int ds, va_rf sp, .ref bq])), (s1, .inl (cO, 4, .inr (.inr (.inr (.inr f))))), (s2, .inr (1, [.ref bx, .int ik, .int wy, .int op])), (bx, .inr (0, [.int bx0, .int by0, .int bx1, .int by1])), (t0, .inr (5, [.ref d0, .int w, .int h])), (d0, .inl (cI, 4096, .inl g)), (bq, .inr (5, [.ref bd, .int bw, .int bh])), (bd, .inl (cI, 4096, .inl gb)), (q_7, .inr (2, [.int ax, .int ay, .int aw, .int ah]))] := hD
      refine lv_iload hx hb dX8_copy_39 (lv_at hl 6 rfl) ?_
      refine va_new (ci := 2) (fs := [.int 0, .int 0, .int 0, .int 0]) (C := RX2) (T := TX2) (N := 4) hx hb hts hi_X2 tyX2 tyX2_ok hown (hts _ bw_316) (hts _ bw_56) (hts _ bw_55) hK hP hD hS hA rfl z_X2 (by rw [hR]; exact Nat.le_of_ble_eq_true rfl) (by rw [hR]; exact Nat.le_of_ble_eq_true rfl) dX8_copy_41 (fun q_9 H hP hD hS => ?_)
      have hP : va_P D vwCl [(h0, .inr (8, [.ref s1, .ref s2, .ref s3, .ref s4, .ref s5, .ref s6, .int ds, va_rf sp, .ref bq])), (s1, .inl (cO, 4, .inr (.inr (.inr (.inr f))))), (s2, .inr (1, [.ref bx, .int ik, .int wy, .int op])), (bx, .inr (0, [.int bx0, .int by0, .int bx1, .int by1])), (t0, .inr (5, [.ref d0, .int w, .int h])), (d0, .inl (cI, 4096, .inl g)), (bq, .inr (5, [.ref bd, .int bw, .int bh])), (bd, .inl (cI, 4096, .inl gb)), (q_7, .inr (2, [.int ax, .int ay, .int aw, .int ah])), (q_9, .inr (2, [.int 0, .int 0, .int 0, .int 0]))] H := hP
      have hD : va_D A [(h0, .inr (8, [.ref s1, .ref s2, .ref s3, .ref s4, .ref s5, .ref s6, .int ds, va_rf sp, .ref bq])), (s1, .inl (cO, 4, .inr (.inr (.inr (.inr f))))), (s2, .inr (1, [.ref bx, .int ik, .int wy, .int op])), (bx, .inr (0, [.int bx0, .int by0, .int bx1, .int by1])), (t0, .inr (5, [.ref d0, .int w, .int h])), (d0, .inl (cI, 4096, .inl g)), (bq, .inr (5, [.ref bd, .int bw, .int bh])), (bd, .inl (cI, 4096, .inl gb)), (q_7, .inr (2, [.int ax, .int ay, .int aw, .int ah])), (q_9, .inr (2, [.int 0, .int 0, .int 0, .int 0]))] := hD
      refine W.widen (k := 2) (n := 8) (by omega) (by omega) ?_
      refine lv_dup hx hb dX8_copy_44 rfl ?_
      refine lv_iload hx hb dX8_copy_45 (lv_at hl 7 rfl) ?_
      refine lv_iload hx hb dX8_copy_47 (lv_at hl 8 rfl) ?_
      refine lv_iload hx hb dX8_copy_49 (lv_at hl 4 rfl) ?_
      refine lv_iload hx hb dX8_copy_51 (lv_at hl 5 rfl) ?_
      have hPc := hP.sub (ws' := [(q_9, .inr (2, [.int 0, .int 0, .int 0, .int 0]))]) [9] rfl
      have hDc := hD.sub (ws' := [(q_9, .inr (2, [.int 0, .int 0, .int 0, .int 0]))]) [9] (by decide) rfl
      have hKc := hK.sub (tys' := []) [] rfl
      have hFc := va_free (wc := [(q_9, .inr (2, [.int 0, .int 0, .int 0, .int 0]))]) hD hS hA [9] rfl
      refine va_callv (va_runI (As := [.int ox, .int oy, .int aw, .int ah]) (rest := [.ref q_9, .int kq, .ref q_7, .int k, .ref h0]) ⟨hx, hb, hml, hown, hts⟩ (k_X2_init l D H.size q_9 ox oy aw ah) (cwI 4 hts (gI bw_57) rfl rfl rfl (hts _ bw_55) (hts _ bw_317) (hts _ bw_58) rfl (by decide +kernel) ⟨(by rw [hR]; exact Nat.le_of_ble_eq_true rfl), (by rw [hR]; exact Nat.le_of_ble_eq_true rfl)⟩) ⟨cP_blind, cP_at hPc hKc hDc hN⟩ rfl rfl hl.1 rfl (lv_room (Nat.le_of_ble_eq_true rfl)) dX8_copy_53 ⟨(by rw [hR]; exact Nat.le_of_ble_eq_true rfl), (by rw [hR]; exact Nat.le_of_ble_eq_true rfl)⟩) hS (fun q _ h => hFc q h) hFc (fun u9 t9 H1 locs ht hvm hr_10 hB hz1 hk1 hS => ?_)
      try dsimp only at hr_10
      obtain ⟨hP1, hK1, hD1⟩ := hB
      rw [ht] at hP1
      obtain ⟨hP, hD⟩ := va_join (wr := [(h0, .inr (8, [.ref s1, .ref s2, .ref s3, .ref s4, .ref s5, .ref s6, .int ds, va_rf sp, .ref bq])), (s1, .inl (cO, 4, .inr (.inr (.inr (.inr f))))), (s2, .inr (1, [.ref bx, .int ik, .int wy, .int op])), (bx, .inr (0, [.int bx0, .int by0, .int bx1, .int by1])), (t0, .inr (5, [.ref d0, .int w, .int h])), (d0, .inl (cI, 4096, .inl g)), (bq, .inr (5, [.ref bd, .int bw, .int bh])), (bd, .inl (cI, 4096, .inl gb)), (q_7, .inr (2, [.int ax, .int ay, .int aw, .int ah]))]) (w1 := [(q_9, .inr (2, [.int ox, .int oy, .int aw, .int ah]))]) hP hD [9] [0, 1, 2, 3, 4, 5, 6, 7, 8] rfl rfl (by decide) (by decide) hk1 hFc hP1 hD1
      clear hz1 hk1 hFc hKc hDc hPc
      generalize H1 = H at hP hS ⊢
      have hP : va_P D vwCl [(h0, .inr (8, [.ref s1, .ref s2, .ref s3, .ref s4, .ref s5, .ref s6, .int ds, va_rf sp, .ref bq])), (s1, .inl (cO, 4, .inr (.inr (.inr (.inr f))))), (s2, .inr (1, [.ref bx, .int ik, .int wy, .int op])), (bx, .inr (0, [.int bx0, .int by0, .int bx1, .int by1])), (t0, .inr (5, [.ref d0, .int w, .int h])), (d0, .inl (cI, 4096, .inl g)), (bq, .inr (5, [.ref bd, .int bw, .int bh])), (bd, .inl (cI, 4096, .inl gb)), (q_7, .inr (2, [.int ax, .int ay, .int aw, .int ah])), (q_9, .inr (2, [.int ox, .int oy, .int aw, .int ah]))] H := hP
      have hD : va_D A [(h0, .inr (8, [.ref s1, .ref s2, .ref s3, .ref s4, .ref s5, .ref s6, .int ds, va_rf sp, .ref bq])), (s1, .inl (cO, 4, .inr (.inr (.inr (.inr f))))), (s2, .inr (1, [.ref bx, .int ik, .int wy, .int op])), (bx, .inr (0, [.int bx0, .int by0, .int bx1, .int by1])), (t0, .inr (5, [.ref d0, .int w, .int h])), (d0, .inl (cI, 4096, .inl g)), (bq, .inr (5, [.ref bd, .int bw, .int bh])), (bd, .inl (cI, 4096, .inl gb)), (q_7, .inr (2, [.int ax, .int ay, .int aw, .int ah])), (q_9, .inr (2, [.int ox, .int oy, .int aw, .int ah]))] := hD
      have hPc := hP.sub (ws' := [(h0, .inr (8, [.ref s1, .ref s2, .ref s3, .ref s4, .ref s5, .ref s6, .int ds, va_rf sp, .ref bq])), (s1, .inl (cO, 4, .inr (.inr (.inr (.inr f))))), (s2, .inr (1, [.ref bx, .int ik, .int wy, .int op])), (bx, .inr (0, [.int bx0, .int by0, .int bx1, .int by1])), (t0, .inr (5, [.ref d0, .int w, .int h])), (d0, .inl (cI, 4096, .inl g)), (bq, .inr (5, [.ref bd, .int bw, .int bh])), (bd, .inl (cI, 4096, .inl gb)), (q_7, .inr (2, [.int ax, .int ay, .int aw, .int ah])), (q_9, .inr (2, [.int ox, .int oy, .int aw, .int ah]))]) [0, 1, 2, 3, 4, 5, 6, 7, 8, 9] rfl
      have hDc := hD.sub (ws' := [(h0, .inr (8, [.ref s1, .ref s2, .ref s3, .ref s4, .ref s5, .ref s6, .int ds, va_rf sp, .ref bq])), (s1, .inl (cO, 4, .inr (.inr (.inr (.inr f))))), (s2, .inr (1, [.ref bx, .int ik, .int wy, .int op])), (bx, .inr (0, [.int bx0, .int by0, .int bx1, .int by1])), (t0, .inr (5, [.ref d0, .int w, .int h])), (d0, .inl (cI, 4096, .inl g)), (bq, .inr (5, [.ref bd, .int bw, .int bh])), (bd, .inl (cI, 4096, .inl gb)), (q_7, .inr (2, [.int ax, .int ay, .int aw, .int ah])), (q_9, .inr (2, [.int ox, .int oy, .int aw, .int ah]))]) [0, 1, 2, 3, 4, 5, 6, 7, 8, 9] (by decide) rfl
      have hKc := hK.sub (tys' := [(cO, .object "DotBench$Sheet"), (cI, .int)]) [0, 1] rfl
      have hFc := va_free (wc := [(h0, .inr (8, [.ref s1, .ref s2, .ref s3, .ref s4, .ref s5, .ref s6, .int ds, va_rf sp, .ref bq])), (s1, .inl (cO, 4, .inr (.inr (.inr (.inr f))))), (s2, .inr (1, [.ref bx, .int ik, .int wy, .int op])), (bx, .inr (0, [.int bx0, .int by0, .int bx1, .int by1])), (t0, .inr (5, [.ref d0, .int w, .int h])), (d0, .inl (cI, 4096, .inl g)), (bq, .inr (5, [.ref bd, .int bw, .int bh])), (bd, .inl (cI, 4096, .inl gb)), (q_7, .inr (2, [.int ax, .int ay, .int aw, .int ah])), (q_9, .inr (2, [.int ox, .int oy, .int aw, .int ah]))]) hD hS hA [0, 1, 2, 3, 4, 5, 6, 7, 8, 9] rfl
      refine va_calli (va_runV (As := [.int k, .ref q_7, .int kq, .ref q_9]) (rest := []) ⟨hx, hb, hml, hown, hts⟩ (k_X8_carry_s1 l D H.size h0 s1 s2 s3 s4 s5 s6 ds sp f bx t0 d0 ik wy op bx0 by0 bx1 by1 w h g bq bd bw bh gb q_7 q_9 ax ay aw ah ox oy aw ah k kq cO cI (by first | assumption | omega | decide) (by first | assumption | omega | decide) (by first | assumption | omega | decide) (by first | assumption | omega | decide) (by first | assumption | omega | decide) (by first | assumption | omega | decide) (by first | assumption | omega | decide) (by first | assumption | omega | decide) (by first | assumption | omega | decide) (by first | assumption | omega | decide) (by first | assumption | omega | decide)) (cwV 4 hts (gV bw_318 bw_383 bw_384 bw_223 bw_382) rfl rfl rfl (by decide +kernel) ⟨(by rw [hR]; exact Nat.le_of_ble_eq_true rfl), (by rw [hR]; exact Nat.le_of_ble_eq_true rfl)⟩) ⟨cP_blind, va_recv hKc hPc (ci := 8) (q0 := 0) rfl rfl, cP_at hPc hKc hDc hN⟩ rfl rfl hl.1 rfl (lv_room (Nat.le_of_ble_eq_true rfl)) dX8_copy_56 ⟨(by rw [hR]; exact Nat.le_of_ble_eq_true rfl), (by rw [hR]; exact Nat.le_of_ble_eq_true rfl)⟩) hS (fun q _ h => hFc q h) hFc (fun r_11 u9 t9 H1 locs ht hvm hr_11 hB hz1 hk1 hS => ?_)
      try dsimp only at hr_11
      obtain ⟨g_12, g_13, hP1, hK1, hD1⟩ := hB
      rw [ht] at hP1
      obtain ⟨hP, hD⟩ := va_join (wr := []) (w1 := [(h0, .inr (8, [.ref s1, .ref s2, .ref s3, .ref s4, .ref s5, .ref s6, .int ds, va_rf sp, .ref bq])), (s1, .inl (cO, 4, .inr (.inr (.inr (.inr f))))), (s2, .inr (1, [.ref bx, .int ik, .int wy, .int op])), (bx, .inr (0, [.int bx0, .int by0, .int bx1, .int by1])), (t0, .inr (5, [.ref d0, .int w, .int h])), (d0, .inl (cI, 4096, .inl g_12)), (bq, .inr (5, [.ref bd, .int w, .int h])), (bd, .inl (cI, 4096, .inl g_13))]) hP hD [0, 1, 2, 3, 4, 5, 6, 7, 8, 9] [] rfl rfl (by decide) (by decide) hk1 hFc hP1 hD1
      clear hz1 hk1 hFc hKc hDc hPc
      generalize H1 = H at hP hS ⊢
      have hP : va_P D vwCl [(h0, .inr (8, [.ref s1, .ref s2, .ref s3, .ref s4, .ref s5, .ref s6, .int ds, va_rf sp, .ref bq])), (s1, .inl (cO, 4, .inr (.inr (.inr (.inr f))))), (s2, .inr (1, [.ref bx, .int ik, .int wy, .int op])), (bx, .inr (0, [.int bx0, .int by0, .int bx1, .int by1])), (t0, .inr (5, [.ref d0, .int w, .int h])), (d0, .inl (cI, 4096, .inl g_12)), (bq, .inr (5, [.ref bd, .int w, .int h])), (bd, .inl (cI, 4096, .inl g_13))] H := hP
      have hD : va_D A [(h0, .inr (8, [.ref s1, .ref s2, .ref s3, .ref s4, .ref s5, .ref s6, .int ds, va_rf sp, .ref bq])), (s1, .inl (cO, 4, .inr (.inr (.inr (.inr f))))), (s2, .inr (1, [.ref bx, .int ik, .int wy, .int op])), (bx, .inr (0, [.int bx0, .int by0, .int bx1, .int by1])), (t0, .inr (5, [.ref d0, .int w, .int h])), (d0, .inl (cI, 4096, .inl g_12)), (bq, .inr (5, [.ref bd, .int w, .int h])), (bd, .inl (cI, 4096, .inl g_13))] := hD
      have hP9 := hP.sub (ws' := [(h0, .inr (8, [.ref s1, .ref s2, .ref s3, .ref s4, .ref s5, .ref s6, .int ds, va_rf sp, .ref bq])), (s1, .inl (cO, 4, .inr (.inr (.inr (.inr f))))), (s2, .inr (1, [.ref bx, .int ik, .int wy, .int op])), (bx, .inr (0, [.int bx0, .int by0, .int bx1, .int by1])), (t0, .inr (5, [.ref d0, .int w, .int h])), (d0, .inl (cI, 4096, .inl g_12)), (bq, .inr (5, [.ref bd, .int w, .int h])), (bd, .inl (cI, 4096, .inl g_13))]) [0, 1, 2, 3, 4, 5, 6, 7] rfl
      have hD9 := hD.sub (ws' := [(h0, .inr (8, [.ref s1, .ref s2, .ref s3, .ref s4, .ref s5, .ref s6, .int ds, va_rf sp, .ref bq])), (s1, .inl (cO, 4, .inr (.inr (.inr (.inr f))))), (s2, .inr (1, [.ref bx, .int ik, .int wy, .int op])), (bx, .inr (0, [.int bx0, .int by0, .int bx1, .int by1])), (t0, .inr (5, [.ref d0, .int w, .int h])), (d0, .inl (cI, 4096, .inl g_12)), (bq, .inr (5, [.ref bd, .int w, .int h])), (bd, .inl (cI, 4096, .inl g_13))]) [0, 1, 2, 3, 4, 5, 6, 7] (by decide) rfl
      have hK9 := hK.sub (tys' := [(cO, .object "DotBench$Sheet"), (cI, .int)]) [0, 1] rfl
      refine hQ _ _ _ _ _ ?_
      exact W.iret (v := r_11) hx hb hr (fun t ht hW => ⟨⟨r_11, (), rfl, hr_11, ⟨g_12, g_13, by rw [ht]; exact hP9, va_K.moved hW.alike hK9, hD9⟩⟩, hS.F ht⟩) hS.2.2 dX8_copy_59
    · skip
      have f_6 := bz0 hr_4 c_5
      exact False.elim (by omega)

set_option maxHeartbeats 4000000 in
set_option maxRecDepth 100000 in
theorem k_X8_copy_s0 (l : Launch) (D : va_G) (sz : Nat) (h0 s1 s2 s3 s4 s5 s6 : Nat) (ds : Int32) (sp : Option Nat) (f : Nat → Option Nat) (bx t0 d0 : Nat) (ik wy op : Int32) (bx0 by0 bx1 by1 : Int32) (w h : Int32) (g : Nat → Int32) (k ax ay aw ah kq ox oy : Int32) (cO : ClassId) (cI : ClassId) (hsz : (0 ≤ aw.toInt ∧ aw.toInt ≤ 64) ∧ (0 ≤ ah.toInt ∧ ah.toInt ≤ 64)) (hak : 0 ≤ k.toInt ∧ k.toInt ≤ 3) (haf : f k.toNatClampNeg = some t0) (hb0k : 0 ≤ kq.toInt ∧ kq.toInt ≤ 3) (hb0f : f kq.toNatClampNeg = some t0) (hne : k.toInt = kq.toInt) (hnr : (-200 ≤ ax.toInt ∧ ax.toInt ≤ 200) ∧ (-200 ≤ ay.toInt ∧ ay.toInt ≤ 200) ∧ (-200 ≤ ox.toInt ∧ ox.toInt ≤ 200) ∧ (-200 ≤ oy.toInt ∧ oy.toInt ≤ 200)) (hwy : 0 ≤ wy.toInt ∧ wy.toInt ≤ 12) (hw : w.toInt ≤ 64) (hh : h.toInt ≤ 64) : Met l yX8_copy (wB yX8_copy cX8_copy 9 (some .int)) ({ frames := 4, cells := 4, slots := 4107, locals := 106 }) (cP D [(h0, .inr (8, [.ref s1, .ref s2, .ref s3, .ref s4, .ref s5, .ref s6, .int ds, va_rf sp, .null])), (s1, .inl (cO, 4, .inr (.inr (.inr (.inr f))))), (s2, .inr (1, [.ref bx, .int ik, .int wy, .int op])), (bx, .inr (0, [.int bx0, .int by0, .int bx1, .int by1])), (t0, .inr (5, [.ref d0, .int w, .int h])), (d0, .inl (cI, 4096, .inl g))] [(cO, .object "DotBench$Sheet"), (cI, .int)] sz [.ref h0, .int k, .int ax, .int ay, .int aw, .int ah, .int kq, .int ox, .int oy]) (va_Qi (fun (r : Int32) (_ : Unit) => True) (fun (_ : Unit) (t : State) => ∃ (bq bd : Nat), ∃ (g2 g3 : Nat → Int32), cB D (va_A [(h0, .inr (8, [.ref s1, .ref s2, .ref s3, .ref s4, .ref s5, .ref s6, .int ds, va_rf sp, .null])), (s1, .inl (cO, 4, .inr (.inr (.inr (.inr f))))), (s2, .inr (1, [.ref bx, .int ik, .int wy, .int op])), (bx, .inr (0, [.int bx0, .int by0, .int bx1, .int by1])), (t0, .inr (5, [.ref d0, .int w, .int h])), (d0, .inl (cI, 4096, .inl g))] sz) [(h0, .inr (8, [.ref s1, .ref s2, .ref s3, .ref s4, .ref s5, .ref s6, .int ds, va_rf sp, .ref bq])), (s1, .inl (cO, 4, .inr (.inr (.inr (.inr f))))), (s2, .inr (1, [.ref bx, .int ik, .int wy, .int op])), (bx, .inr (0, [.int bx0, .int by0, .int bx1, .int by1])), (t0, .inr (5, [.ref d0, .int w, .int h])), (d0, .inl (cI, 4096, .inl g2)), (bq, .inr (5, [.ref bd, .int w, .int h])), (bd, .inl (cI, 4096, .inl g3))] [(cO, .object "DotBench$Sheet"), (cI, .int)] t) (va_A [(h0, .inr (8, [.ref s1, .ref s2, .ref s3, .ref s4, .ref s5, .ref s6, .int ds, va_rf sp, .null])), (s1, .inl (cO, 4, .inr (.inr (.inr (.inr f))))), (s2, .inr (1, [.ref bx, .int ik, .int wy, .int op])), (bx, .inr (0, [.int bx0, .int by0, .int bx1, .int by1])), (t0, .inr (5, [.ref d0, .int w, .int h])), (d0, .inl (cI, 4096, .inl g))] sz)) 4 4107 (va_A [(h0, .inr (8, [.ref s1, .ref s2, .ref s3, .ref s4, .ref s5, .ref s6, .int ds, va_rf sp, .null])), (s1, .inl (cO, 4, .inr (.inr (.inr (.inr f))))), (s2, .inr (1, [.ref bx, .int ik, .int wy, .int op])), (bx, .inr (0, [.int bx0, .int by0, .int bx1, .int by1])), (t0, .inr (5, [.ref d0, .int w, .int h])), (d0, .inl (cI, 4096, .inl g))] sz) := by
  refine Met.ofW (cc := cX8_copy) (maxL := 9) (ret := (some .int)) (by decide) rfl ?_
  intro p e s m args below meth c s₁ B hml hv
  obtain ⟨rfl, hsz, hP, hK, hD0, hN⟩ := hv
  have hx := B.exec
  have hb := B.bytes
  have hr := B.returns
  have hts0 := atoms_spec (ws := (wB yX8_copy cX8_copy 9 (some .int))) B.pre
  have hts : ∀ w ∈ bigW, w.before _ s = true := fun w h => hts0 w (List.mem_cons_of_mem _ h)
  have hown : s.vm.findClass RX8 = some m.cls := findClass_of_methodNamed B.named
  have hlocks := B.notSynchronized
  subst hsz
  have hD := hD0.self (sz := s.heap.size)
  generalize hAe : va_A [(h0, .inr (8, [.ref s1, .ref s2, .ref s3, .ref s4, .ref s5, .ref s6, .int ds, va_rf sp, .null])), (s1, .inl (cO, 4, .inr (.inr (.inr (.inr f))))), (s2, .inr (1, [.ref bx, .int ik, .int wy, .int op])), (bx, .inr (0, [.int bx0, .int by0, .int bx1, .int by1])), (t0, .inr (5, [.ref d0, .int w, .int h])), (d0, .inl (cI, 4096, .inl g))] s.heap.size = A at hD ⊢
  have hA : ∀ q : Nat, s.heap.size ≤ q → A q := fun q h => by rw [← hAe]; exact Or.inr h
  have hS : va_S A s.heap s.heap [] := va_S.rf
  have hP : va_P D vwCl [(h0, .inr (8, [.ref s1, .ref s2, .ref s3, .ref s4, .ref s5, .ref s6, .int ds, va_rf sp, .null])), (s1, .inl (cO, 4, .inr (.inr (.inr (.inr f))))), (s2, .inr (1, [.ref bx, .int ik, .int wy, .int op])), (bx, .inr (0, [.int bx0, .int by0, .int bx1, .int by1])), (t0, .inr (5, [.ref d0, .int w, .int h])), (d0, .inl (cI, 4096, .inl g))] s.heap := hP
  have hl := lv_entry ([.ref h0, .int k, .int ax, .int ay, .int aw, .int ah, .int kq, .int ox, .int oy]) (n := 9) (Nat.le_of_ble_eq_true rfl)
  rw [lg_entry_eq]
  generalize (lg_sl ([.ref h0, .int k, .int ax, .int ay, .int aw, .int ah, .int kq, .int ox, .int oy]) ++ List.replicate (9 - (lg_sl ([.ref h0, .int k, .int ax, .int ay, .int aw, .int ah, .int kq, .int ox, .int oy])).length) Slot.unset).toArray = ls at hl ⊢
  have hl : lv_has ls 9 [(0, .ref h0), (1, .int k), (2, .int ax), (3, .int ay), (4, .int aw), (5, .int ah), (6, .int kq), (7, .int ox), (8, .int oy)] := hl
  clear hts0 hD0 hAe
  refine my_abs (fun R Q hR hQ => ?_)
  refine lv_iload hx hb dX8_copy_0 (lv_at hl 4 rfl) ?_
  refine lv_iconst (v := 0) hx hb dX8_copy_2 (by decide) ?_
  refine lv_bipush (v := 64) hx hb dX8_copy_3 (by decide) ?_
  have hPc := hP.sub (ws' := []) [] rfl
  have hDc := hD.sub (ws' := []) [] (by decide) rfl
  have hKc := hK.sub (tys' := []) [] rfl
  have hFc := va_free (wc := []) hD hS hA [] rfl
  refine va_calli (va_runS (As := [.int aw, .int 0, .int 64]) (rest := []) ⟨hx, hb, hml, hown, hts⟩ (k_X8_isWithin l D s.heap.size aw 0 64 0 64 (by decide) (by decide)) (va_cwS 3 hts (gS bw_256 bw_349 bw_223 bw_348) rfl rfl rfl (by decide +kernel) ⟨(by rw [hR]; exact Nat.le_of_ble_eq_true rfl), (by rw [hR]; exact Nat.le_of_ble_eq_true rfl)⟩) ⟨cP_blind, cP_at hPc hKc hDc hN⟩ rfl rfl hl.1 rfl (lv_room (Nat.le_of_ble_eq_true rfl)) dX8_copy_5 ⟨(by rw [hR]; exact Nat.le_of_ble_eq_true rfl), (by rw [hR]; exact Nat.le_of_ble_eq_true rfl)⟩) hS (fun q _ h => hFc q h) hFc (fun r_1 u9 t9 H1 locs ht hvm hr_1 hB hz1 hk1 hS => ?_)
  try dsimp only at hr_1
  have hP1 : va_P D vwCl [] H1 := vP_nil
  have hD1 : va_D (va_A [] s.heap.size) [] := vD_nil
  obtain ⟨hP, hD⟩ := va_join (wr := [(h0, .inr (8, [.ref s1, .ref s2, .ref s3, .ref s4, .ref s5, .ref s6, .int ds, va_rf sp, .null])), (s1, .inl (cO, 4, .inr (.inr (.inr (.inr f))))), (s2, .inr (1, [.ref bx, .int ik, .int wy, .int op])), (bx, .inr (0, [.int bx0, .int by0, .int bx1, .int by1])), (t0, .inr (5, [.ref d0, .int w, .int h])), (d0, .inl (cI, 4096, .inl g))]) (w1 := []) hP hD [] [0, 1, 2, 3, 4, 5] rfl rfl (by decide) (by decide) hk1 hFc hP1 hD1
  clear hz1 hk1 hFc hKc hDc hPc
  generalize H1 = H at hP hS ⊢
  have hP : va_P D vwCl [(h0, .inr (8, [.ref s1, .ref s2, .ref s3, .ref s4, .ref s5, .ref s6, .int ds, va_rf sp, .null])), (s1, .inl (cO, 4, .inr (.inr (.inr (.inr f))))), (s2, .inr (1, [.ref bx, .int ik, .int wy, .int op])), (bx, .inr (0, [.int bx0, .int by0, .int bx1, .int by1])), (t0, .inr (5, [.ref d0, .int w, .int h])), (d0, .inl (cI, 4096, .inl g))] H := hP
  have hD : va_D A [(h0, .inr (8, [.ref s1, .ref s2, .ref s3, .ref s4, .ref s5, .ref s6, .int ds, va_rf sp, .null])), (s1, .inl (cO, 4, .inr (.inr (.inr (.inr f))))), (s2, .inr (1, [.ref bx, .int ik, .int wy, .int op])), (bx, .inr (0, [.int bx0, .int by0, .int bx1, .int by1])), (t0, .inr (5, [.ref d0, .int w, .int h])), (d0, .inl (cI, 4096, .inl g))] := hD
  refine lv_if_eq (tgt := 22) hx hb dX8_copy_8 (by decide) (fun c_2 => ?_) (fun c_2 => ?_)
  · skip
    have f_3 := bz0 hr_1 c_2
    exact False.elim (by omega)
  · skip
    have f_3 := bz1 hr_1 c_2
    refine lv_iload hx hb dX8_copy_11 (lv_at hl 5 rfl) ?_
    refine lv_iconst (v := 0) hx hb dX8_copy_13 (by decide) ?_
    refine lv_bipush (v := 64) hx hb dX8_copy_14 (by decide) ?_
    have hPc := hP.sub (ws' := []) [] rfl
    have hDc := hD.sub (ws' := []) [] (by decide) rfl
    have hKc := hK.sub (tys' := []) [] rfl
    have hFc := va_free (wc := []) hD hS hA [] rfl
    refine va_calli (va_runS (As := [.int ah, .int 0, .int 64]) (rest := []) ⟨hx, hb, hml, hown, hts⟩ (k_X8_isWithin l D H.size ah 0 64 0 64 (by decide) (by decide)) (va_cwS 3 hts (gS bw_256 bw_349 bw_223 bw_348) rfl rfl rfl (by decide +kernel) ⟨(by rw [hR]; exact Nat.le_of_ble_eq_true rfl), (by rw [hR]; exact Nat.le_of_ble_eq_true rfl)⟩) ⟨cP_blind, cP_at hPc hKc hDc hN⟩ rfl rfl hl.1 rfl (lv_room (Nat.le_of_ble_eq_true rfl)) dX8_copy_16 ⟨(by rw [hR]; exact Nat.le_of_ble_eq_true rfl), (by rw [hR]; exact Nat.le_of_ble_eq_true rfl)⟩) hS (fun q _ h => hFc q h) hFc (fun r_4 u9 t9 H1 locs ht hvm hr_4 hB hz1 hk1 hS => ?_)
    try dsimp only at hr_4
    have hP1 : va_P D vwCl [] H1 := vP_nil
    have hD1 : va_D (va_A [] H.size) [] := vD_nil
    obtain ⟨hP, hD⟩ := va_join (wr := [(h0, .inr (8, [.ref s1, .ref s2, .ref s3, .ref s4, .ref s5, .ref s6, .int ds, va_rf sp, .null])), (s1, .inl (cO, 4, .inr (.inr (.inr (.inr f))))), (s2, .inr (1, [.ref bx, .int ik, .int wy, .int op])), (bx, .inr (0, [.int bx0, .int by0, .int bx1, .int by1])), (t0, .inr (5, [.ref d0, .int w, .int h])), (d0, .inl (cI, 4096, .inl g))]) (w1 := []) hP hD [] [0, 1, 2, 3, 4, 5] rfl rfl (by decide) (by decide) hk1 hFc hP1 hD1
    clear hz1 hk1 hFc hKc hDc hPc
    generalize H1 = H at hP hS ⊢
    have hP : va_P D vwCl [(h0, .inr (8, [.ref s1, .ref s2, .ref s3, .ref s4, .ref s5, .ref s6, .int ds, va_rf sp, .null])), (s1, .inl (cO, 4, .inr (.inr (.inr (.inr f))))), (s2, .inr (1, [.ref bx, .int ik, .int wy, .int op])), (bx, .inr (0, [.int bx0, .int by0, .int bx1, .int by1])), (t0, .inr (5, [.ref d0, .int w, .int h])), (d0, .inl (cI, 4096, .inl g))] H := hP
    have hD : va_D A [(h0, .inr (8, [.ref s1, .ref s2, .ref s3, .ref s4, .ref s5, .ref s6, .int ds, va_rf sp, .null])), (s1, .inl (cO, 4, .inr (.inr (.inr (.inr f))))), (s2, .inr (1, [.ref bx, .int ik, .int wy, .int op])), (bx, .inr (0, [.int bx0, .int by0, .int bx1, .int by1])), (t0, .inr (5, [.ref d0, .int w, .int h])), (d0, .inl (cI, 4096, .inl g))] := hD
    refine lv_if_ne (tgt := 24) hx hb dX8_copy_19 (by decide) (fun c_5 => ?_) (fun c_5 => ?_)
    · skip
      have f_6 := bz1 hr_4 c_5
      refine lv_aload_n hx hb dX8_copy_24 rfl (lv_at hl 0 rfl) ?_
      refine lv_iload_n hx hb dX8_copy_25 rfl (lv_at hl 1 rfl) ?_
      refine va_new (ci := 2) (fs := [.int 0, .int 0, .int 0, .int 0]) (C := RX2) (T := TX2) (N := 4) hx hb hts hi_X2 tyX2 tyX2_ok hown (hts _ bw_316) (hts _ bw_56) (hts _ bw_55) hK hP hD hS hA rfl z_X2 (by rw [hR]; exact Nat.le_of_ble_eq_true rfl) (by rw [hR]; exact Nat.le_of_ble_eq_true rfl) dX8_copy_26 (fun q_7 H hP hD hS => ?_)
      have hP : va_P D vwCl [(h0, .inr (8, [.ref s1, .ref s2, .ref s3, .ref s4, .ref s5, .ref s6, .int ds, va_rf sp, .null])), (s1, .inl (cO, 4, .inr (.inr (.inr (.inr f))))), (s2, .inr (1, [.ref bx, .int ik, .int wy, .int op])), (bx, .inr (0, [.int bx0, .int by0, .int bx1, .int by1])), (t0, .inr (5, [.ref d0, .int w, .int h])), (d0, .inl (cI, 4096, .inl g)), (q_7, .inr (2, [.int 0, .int 0, .int 0, .int 0]))] H := hP
      have hD : va_D A [(h0, .inr (8, [.ref s1, .ref s2, .ref s3, .ref s4, .ref s5, .ref s6, .int ds, va_rf sp, .null])), (s1, .inl (cO, 4, .inr (.inr (.inr (.inr f))))), (s2, .inr (1, [.ref bx, .int ik, .int wy, .int op])), (bx, .inr (0, [.int bx0, .int by0, .int bx1, .int by1])), (t0, .inr (5, [.ref d0, .int w, .int h])), (d0, .inl (cI, 4096, .inl g)), (q_7, .inr (2, [.int 0, .int 0, .int 0, .int 0]))] := hD
      refine W.widen (k := 1) (n := 4) (by omega) (by omega) ?_
      refine lv_dup hx hb dX8_copy_29 rfl ?_
      refine lv_iload_n hx hb dX8_copy_30 rfl (lv_at hl 2 rfl) ?_
      refine lv_iload_n hx hb dX8_copy_31 rfl (lv_at hl 3 rfl) ?_
      refine lv_iload hx hb dX8_copy_32 (lv_at hl 4 rfl) ?_
      refine lv_iload hx hb dX8_copy_34 (lv_at hl 5 rfl) ?_
      have hPc := hP.sub (ws' := [(q_7, .inr (2, [.int 0, .int 0, .int 0, .int 0]))]) [6] rfl
      have hDc := hD.sub (ws' := [(q_7, .inr (2, [.int 0, .int 0, .int 0, .int 0]))]) [6] (by decide) rfl
      have hKc := hK.sub (tys' := []) [] rfl
      have hFc := va_free (wc := [(q_7, .inr (2, [.int 0, .int 0, .int 0, .int 0]))]) hD hS hA [6] rfl
      refine va_callv (va_runI (As := [.int ax, .int ay, .int aw, .int ah]) (rest := [.ref q_7, .int k, .ref h0]) ⟨hx, hb, hml, hown, hts⟩ (k_X2_init l D H.size q_7 ax ay aw ah) (cwI 4 hts (gI bw_57) rfl rfl rfl (hts _ bw_55) (hts _ bw_317) (hts _ bw_58) rfl (by decide +kernel) ⟨(by rw [hR]; exact Nat.le_of_ble_eq_true rfl), (by rw [hR]; exact Nat.le_of_ble_eq_true rfl)⟩) ⟨cP_blind, cP_at hPc hKc hDc hN⟩ rfl rfl hl.1 rfl (lv_room (Nat.le_of_ble_eq_true rfl)) dX8_copy_36 ⟨(by rw [hR]; exact Nat.le_of_ble_eq_true rfl), (by rw [hR]; exact Nat.le_of_ble_eq_true rfl)⟩) hS (fun q _ h => hFc q h) hFc (fun u9 t9 H1 locs ht hvm hr_8 hB hz1 hk1 hS => ?_)
      try dsimp only at hr_8
      obtain ⟨hP1, hK1, hD1⟩ := hB
      rw [ht] at hP1
      obtain ⟨hP, hD⟩ := va_join (wr := [(h0, .inr (8, [.ref s1, .ref s2, .ref s3, .ref s4, .ref s5, .ref s6, .int ds, va_rf sp, .null])), (s1, .inl (cO, 4, .inr (.inr (.inr (.inr f))))), (s2, .inr (1, [.ref bx, .int ik, .int wy, .int op])), (bx, .inr (0, [.int bx0, .int by0, .int bx1, .int by1])), (t0, .inr (5, [.ref d0, .int w, .int h])), (d0, .inl (cI, 4096, .inl g))]) (w1 := [(q_7, .inr (2, [.int ax, .int ay, .int aw, .int ah]))]) hP hD [6] [0, 1, 2, 3, 4, 5] rfl rfl (by decide) (by decide) hk1 hFc hP1 hD1
      clear hz1 hk1 hFc hKc hDc hPc
      generalize H1 = H at hP hS ⊢
      have hP : va_P D vwCl [(h0, .inr (8, [.ref s1, .ref s2, .ref s3, .ref s4, .ref s5, .ref s6, .int ds, va_rf sp, .null])), (s1, .inl (cO, 4, .inr (.inr (.inr (.inr f))))), (s2, .inr (1, [.ref bx, .int ik, .int wy, .int op])), (bx, .inr (0, [.int bx0, .int by0, .int bx1, .int by1])), (t0, .inr (5, [.ref d0, .int w, .int h])), (d0, .inl (cI, 4096, .inl g)), (q_7, .inr (2, [.int ax, .int ay, .int aw, .int ah]))] H := hP
      have hD : va_D A [(h0, .inr (8, [.ref s1, .ref s2, .ref s3, .ref s4, .ref s5, .ref s6, .int ds, va_rf sp, .null])), (s1, .inl (cO, 4, .inr (.inr (.inr (.inr f))))), (s2, .inr (1, [.ref bx, .int ik, .int wy, .int op])), (bx, .inr (0, [.int bx0, .int by0, .int bx1, .int by1])), (t0, .inr (5, [.ref d0, .int w, .int h])), (d0, .inl (cI, 4096, .inl g)), (q_7, .inr (2, [.int ax, .int ay, .int aw, .int ah]))] := hD
      refine lv_iload hx hb dX8_copy_39 (lv_at hl 6 rfl) ?_
      refine va_new (ci := 2) (fs := [.int 0, .int 0, .int 0, .int 0]) (C := RX2) (T := TX2) (N := 4) hx hb hts hi_X2 tyX2 tyX2_ok hown (hts _ bw_316) (hts _ bw_56) (hts _ bw_55) hK hP hD hS hA rfl z_X2 (by rw [hR]; exact Nat.le_of_ble_eq_true rfl) (by rw [hR]; exact Nat.le_of_ble_eq_true rfl) dX8_copy_41 (fun q_9 H hP hD hS => ?_)
      have hP : va_P D vwCl [(h0, .inr (8, [.ref s1, .ref s2, .ref s3, .ref s4, .ref s5, .ref s6, .int ds, va_rf sp, .null])), (s1, .inl (cO, 4, .inr (.inr (.inr (.inr f))))), (s2, .inr (1, [.ref bx, .int ik, .int wy, .int op])), (bx, .inr (0, [.int bx0, .int by0, .int bx1, .int by1])), (t0, .inr (5, [.ref d0, .int w, .int h])), (d0, .inl (cI, 4096, .inl g)), (q_7, .inr (2, [.int ax, .int ay, .int aw, .int ah])), (q_9, .inr (2, [.int 0, .int 0, .int 0, .int 0]))] H := hP
      have hD : va_D A [(h0, .inr (8, [.ref s1, .ref s2, .ref s3, .ref s4, .ref s5, .ref s6, .int ds, va_rf sp, .null])), (s1, .inl (cO, 4, .inr (.inr (.inr (.inr f))))), (s2, .inr (1, [.ref bx, .int ik, .int wy, .int op])), (bx, .inr (0, [.int bx0, .int by0, .int bx1, .int by1])), (t0, .inr (5, [.ref d0, .int w, .int h])), (d0, .inl (cI, 4096, .inl g)), (q_7, .inr (2, [.int ax, .int ay, .int aw, .int ah])), (q_9, .inr (2, [.int 0, .int 0, .int 0, .int 0]))] := hD
      refine W.widen (k := 2) (n := 8) (by omega) (by omega) ?_
      refine lv_dup hx hb dX8_copy_44 rfl ?_
      refine lv_iload hx hb dX8_copy_45 (lv_at hl 7 rfl) ?_
      refine lv_iload hx hb dX8_copy_47 (lv_at hl 8 rfl) ?_
      refine lv_iload hx hb dX8_copy_49 (lv_at hl 4 rfl) ?_
      refine lv_iload hx hb dX8_copy_51 (lv_at hl 5 rfl) ?_
      have hPc := hP.sub (ws' := [(q_9, .inr (2, [.int 0, .int 0, .int 0, .int 0]))]) [7] rfl
      have hDc := hD.sub (ws' := [(q_9, .inr (2, [.int 0, .int 0, .int 0, .int 0]))]) [7] (by decide) rfl
      have hKc := hK.sub (tys' := []) [] rfl
      have hFc := va_free (wc := [(q_9, .inr (2, [.int 0, .int 0, .int 0, .int 0]))]) hD hS hA [7] rfl
      refine va_callv (va_runI (As := [.int ox, .int oy, .int aw, .int ah]) (rest := [.ref q_9, .int kq, .ref q_7, .int k, .ref h0]) ⟨hx, hb, hml, hown, hts⟩ (k_X2_init l D H.size q_9 ox oy aw ah) (cwI 4 hts (gI bw_57) rfl rfl rfl (hts _ bw_55) (hts _ bw_317) (hts _ bw_58) rfl (by decide +kernel) ⟨(by rw [hR]; exact Nat.le_of_ble_eq_true rfl), (by rw [hR]; exact Nat.le_of_ble_eq_true rfl)⟩) ⟨cP_blind, cP_at hPc hKc hDc hN⟩ rfl rfl hl.1 rfl (lv_room (Nat.le_of_ble_eq_true rfl)) dX8_copy_53 ⟨(by rw [hR]; exact Nat.le_of_ble_eq_true rfl), (by rw [hR]; exact Nat.le_of_ble_eq_true rfl)⟩) hS (fun q _ h => hFc q h) hFc (fun u9 t9 H1 locs ht hvm hr_10 hB hz1 hk1 hS => ?_)
      try dsimp only at hr_10
      obtain ⟨hP1, hK1, hD1⟩ := hB
      rw [ht] at hP1
      obtain ⟨hP, hD⟩ := va_join (wr := [(h0, .inr (8, [.ref s1, .ref s2, .ref s3, .ref s4, .ref s5, .ref s6, .int ds, va_rf sp, .null])), (s1, .inl (cO, 4, .inr (.inr (.inr (.inr f))))), (s2, .inr (1, [.ref bx, .int ik, .int wy, .int op])), (bx, .inr (0, [.int bx0, .int by0, .int bx1, .int by1])), (t0, .inr (5, [.ref d0, .int w, .int h])), (d0, .inl (cI, 4096, .inl g)), (q_7, .inr (2, [.int ax, .int ay, .int aw, .int ah]))]) (w1 := [(q_9, .inr (2, [.int ox, .int oy, .int aw, .int ah]))]) hP hD [7] [0, 1, 2, 3, 4, 5, 6] rfl rfl (by decide) (by decide) hk1 hFc hP1 hD1
      clear hz1 hk1 hFc hKc hDc hPc
      generalize H1 = H at hP hS ⊢
      have hP : va_P D vwCl [(h0, .inr (8, [.ref s1, .ref s2, .ref s3, .ref s4, .ref s5, .ref s6, .int ds, va_rf sp, .null])), (s1, .inl (cO, 4, .inr (.inr (.inr (.inr f))))), (s2, .inr (1, [.ref bx, .int ik, .int wy, .int op])), (bx, .inr (0, [.int bx0, .int by0, .int bx1, .int by1])), (t0, .inr (5, [.ref d0, .int w, .int h])), (d0, .inl (cI, 4096, .inl g)), (q_7, .inr (2, [.int ax, .int ay, .int aw, .int ah])), (q_9, .inr (2, [.int ox, .int oy, .int aw, .int ah]))] H := hP
      have hD : va_D A [(h0, .inr (8, [.ref s1, .ref s2, .ref s3, .ref s4, .ref s5, .ref s6, .int ds, va_rf sp, .null])), (s1, .inl (cO, 4, .inr (.inr (.inr (.inr f))))), (s2, .inr (1, [.ref bx, .int ik, .int wy, .int op])), (bx, .inr (0, [.int bx0, .int by0, .int bx1, .int by1])), (t0, .inr (5, [.ref d0, .int w, .int h])), (d0, .inl (cI, 4096, .inl g)), (q_7, .inr (2, [.int ax, .int ay, .int aw, .int ah])), (q_9, .inr (2, [.int ox, .int oy, .int aw, .int ah]))] := hD
      have hPc := hP.sub (ws' := [(h0, .inr (8, [.ref s1, .ref s2, .ref s3, .ref s4, .ref s5, .ref s6, .int ds, va_rf sp, .null])), (s1, .inl (cO, 4, .inr (.inr (.inr (.inr f))))), (s2, .inr (1, [.ref bx, .int ik, .int wy, .int op])), (bx, .inr (0, [.int bx0, .int by0, .int bx1, .int by1])), (t0, .inr (5, [.ref d0, .int w, .int h])), (d0, .inl (cI, 4096, .inl g)), (q_7, .inr (2, [.int ax, .int ay, .int aw, .int ah])), (q_9, .inr (2, [.int ox, .int oy, .int aw, .int ah]))]) [0, 1, 2, 3, 4, 5, 6, 7] rfl
      have hDc := hD.sub (ws' := [(h0, .inr (8, [.ref s1, .ref s2, .ref s3, .ref s4, .ref s5, .ref s6, .int ds, va_rf sp, .null])), (s1, .inl (cO, 4, .inr (.inr (.inr (.inr f))))), (s2, .inr (1, [.ref bx, .int ik, .int wy, .int op])), (bx, .inr (0, [.int bx0, .int by0, .int bx1, .int by1])), (t0, .inr (5, [.ref d0, .int w, .int h])), (d0, .inl (cI, 4096, .inl g)), (q_7, .inr (2, [.int ax, .int ay, .int aw, .int ah])), (q_9, .inr (2, [.int ox, .int oy, .int aw, .int ah]))]) [0, 1, 2, 3, 4, 5, 6, 7] (by decide) rfl
      have hKc := hK.sub (tys' := [(cO, .object "DotBench$Sheet"), (cI, .int)]) [0, 1] rfl
      have hFc := va_free (wc := [(h0, .inr (8, [.ref s1, .ref s2, .ref s3, .ref s4, .ref s5, .ref s6, .int ds, va_rf sp, .null])), (s1, .inl (cO, 4, .inr (.inr (.inr (.inr f))))), (s2, .inr (1, [.ref bx, .int ik, .int wy, .int op])), (bx, .inr (0, [.int bx0, .int by0, .int bx1, .int by1])), (t0, .inr (5, [.ref d0, .int w, .int h])), (d0, .inl (cI, 4096, .inl g)), (q_7, .inr (2, [.int ax, .int ay, .int aw, .int ah])), (q_9, .inr (2, [.int ox, .int oy, .int aw, .int ah]))]) hD hS hA [0, 1, 2, 3, 4, 5, 6, 7] rfl
      refine va_calli (va_runV (As := [.int k, .ref q_7, .int kq, .ref q_9]) (rest := []) ⟨hx, hb, hml, hown, hts⟩ (k_X8_carry_s0 l D H.size h0 s1 s2 s3 s4 s5 s6 ds sp f bx t0 d0 ik wy op bx0 by0 bx1 by1 w h g q_7 q_9 ax ay aw ah ox oy aw ah k kq cO cI (by first | assumption | omega | decide) (by first | assumption | omega | decide) (by first | assumption | omega | decide) (by first | assumption | omega | decide) (by first | assumption | omega | decide) (by first | assumption | omega | decide) (by first | assumption | omega | decide) (by first | assumption | omega | decide) (by first | assumption | omega | decide) (by first | assumption | omega | decide) (by first | assumption | omega | decide)) (cwV 4 hts (gV bw_318 bw_383 bw_384 bw_223 bw_382) rfl rfl rfl (by decide +kernel) ⟨(by rw [hR]; exact Nat.le_of_ble_eq_true rfl), (by rw [hR]; exact Nat.le_of_ble_eq_true rfl)⟩) ⟨cP_blind, va_recv hKc hPc (ci := 8) (q0 := 0) rfl rfl, cP_at hPc hKc hDc hN⟩ rfl rfl hl.1 rfl (lv_room (Nat.le_of_ble_eq_true rfl)) dX8_copy_56 ⟨(by rw [hR]; exact Nat.le_of_ble_eq_true rfl), (by rw [hR]; exact Nat.le_of_ble_eq_true rfl)⟩) hS (fun q _ h => hFc q h) hFc (fun r_11 u9 t9 H1 locs ht hvm hr_11 hB hz1 hk1 hS => ?_)
      try dsimp only at hr_11
      obtain ⟨q_12, q_13, g_14, g_15, hP1, hK1, hD1⟩ := hB
      rw [ht] at hP1
      obtain ⟨hP, hD⟩ := va_join (wr := []) (w1 := [(h0, .inr (8, [.ref s1, .ref s2, .ref s3, .ref s4, .ref s5, .ref s6, .int ds, va_rf sp, .ref q_12])), (s1, .inl (cO, 4, .inr (.inr (.inr (.inr f))))), (s2, .inr (1, [.ref bx, .int ik, .int wy, .int op])), (bx, .inr (0, [.int bx0, .int by0, .int bx1, .int by1])), (t0, .inr (5, [.ref d0, .int w, .int h])), (d0, .inl (cI, 4096, .inl g_14)), (q_12, .inr (5, [.ref q_13, .int w, .int h])), (q_13, .inl (cI, 4096, .inl g_15))]) hP hD [0, 1, 2, 3, 4, 5, 6, 7] [] rfl rfl (by decide) (by decide) hk1 hFc hP1 hD1
      clear hz1 hk1 hFc hKc hDc hPc
      generalize H1 = H at hP hS ⊢
      have hP : va_P D vwCl [(h0, .inr (8, [.ref s1, .ref s2, .ref s3, .ref s4, .ref s5, .ref s6, .int ds, va_rf sp, .ref q_12])), (s1, .inl (cO, 4, .inr (.inr (.inr (.inr f))))), (s2, .inr (1, [.ref bx, .int ik, .int wy, .int op])), (bx, .inr (0, [.int bx0, .int by0, .int bx1, .int by1])), (t0, .inr (5, [.ref d0, .int w, .int h])), (d0, .inl (cI, 4096, .inl g_14)), (q_12, .inr (5, [.ref q_13, .int w, .int h])), (q_13, .inl (cI, 4096, .inl g_15))] H := hP
      have hD : va_D A [(h0, .inr (8, [.ref s1, .ref s2, .ref s3, .ref s4, .ref s5, .ref s6, .int ds, va_rf sp, .ref q_12])), (s1, .inl (cO, 4, .inr (.inr (.inr (.inr f))))), (s2, .inr (1, [.ref bx, .int ik, .int wy, .int op])), (bx, .inr (0, [.int bx0, .int by0, .int bx1, .int by1])), (t0, .inr (5, [.ref d0, .int w, .int h])), (d0, .inl (cI, 4096, .inl g_14)), (q_12, .inr (5, [.ref q_13, .int w, .int h])), (q_13, .inl (cI, 4096, .inl g_15))] := hD
      refine W.widen (k := 4) (n := 4107) (by omega) (by omega) ?_
      have hP9 := hP.sub (ws' := [(h0, .inr (8, [.ref s1, .ref s2, .ref s3, .ref s4, .ref s5, .ref s6, .int ds, va_rf sp, .ref q_12])), (s1, .inl (cO, 4, .inr (.inr (.inr (.inr f))))), (s2, .inr (1, [.ref bx, .int ik, .int wy, .int op])), (bx, .inr (0, [.int bx0, .int by0, .int bx1, .int by1])), (t0, .inr (5, [.ref d0, .int w, .int h])), (d0, .inl (cI, 4096, .inl g_14)), (q_12, .inr (5, [.ref q_13, .int w, .int h])), (q_13, .inl (cI, 4096, .inl g_15))]) [0, 1, 2, 3, 4, 5, 6, 7] rfl
      have hD9 := hD.sub (ws' := [(h0, .inr (8, [.ref s1, .ref s2, .ref s3, .ref s4, .ref s5, .ref s6, .int ds, va_rf sp, .ref q_12])), (s1, .inl (cO, 4, .inr (.inr (.inr (.inr f))))), (s2, .inr (1, [.ref bx, .int ik, .int wy, .int op])), (bx, .inr (0, [.int bx0, .int by0, .int bx1, .int by1])), (t0, .inr (5, [.ref d0, .int w, .int h])), (d0, .inl (cI, 4096, .inl g_14)), (q_12, .inr (5, [.ref q_13, .int w, .int h])), (q_13, .inl (cI, 4096, .inl g_15))]) [0, 1, 2, 3, 4, 5, 6, 7] (by decide) rfl
      have hK9 := hK.sub (tys' := [(cO, .object "DotBench$Sheet"), (cI, .int)]) [0, 1] rfl
      refine hQ _ _ _ _ _ ?_
      exact W.iret (v := r_11) hx hb hr (fun t ht hW => ⟨⟨r_11, (), rfl, hr_11, ⟨q_12, q_13, g_14, g_15, by rw [ht]; exact hP9, va_K.moved hW.alike hK9, hD9⟩⟩, hS.F ht⟩) hS.2.2 dX8_copy_59
    · skip
      have f_6 := bz0 hr_4 c_5
      exact False.elim (by omega)

set_option maxHeartbeats 4000000 in
set_option maxRecDepth 100000 in
theorem k_X8_stretch_r (l : Launch) (D : va_G) (sz : Nat) (h0 s1 s2 s3 s4 s5 s6 : Nat) (ds : Int32) (sp bt : Option Nat) (k ax ay aw ah kq ox oy ow oh : Int32) (hsz : ¬ ((1 ≤ aw.toInt ∧ aw.toInt ≤ 64) ∧ (1 ≤ ah.toInt ∧ ah.toInt ≤ 64) ∧ (1 ≤ ow.toInt ∧ ow.toInt ≤ 64) ∧ (1 ≤ oh.toInt ∧ oh.toInt ≤ 64))) : Met l yX8_stretch (wB yX8_stretch cX8_stretch 11 (some .int)) ({ frames := 2, cells := 0, slots := 0, locals := 42 }) (cP D [(h0, .inr (8, [.ref s1, .ref s2, .ref s3, .ref s4, .ref s5, .ref s6, .int ds, va_rf sp, va_rf bt]))] [] sz [.ref h0, .int k, .int ax, .int ay, .int aw, .int ah, .int kq, .int ox, .int oy, .int ow, .int oh]) (va_Qi (fun (r : Int32) (_ : Unit) => r = -1) (fun (_ : Unit) (t : State) => cB D (va_A [(h0, .inr (8, [.ref s1, .ref s2, .ref s3, .ref s4, .ref s5, .ref s6, .int ds, va_rf sp, va_rf bt]))] sz) [(h0, .inr (8, [.ref s1, .ref s2, .ref s3, .ref s4, .ref s5, .ref s6, .int ds, va_rf sp, va_rf bt]))] [] t) (va_A [(h0, .inr (8, [.ref s1, .ref s2, .ref s3, .ref s4, .ref s5, .ref s6, .int ds, va_rf sp, va_rf bt]))] sz)) 0 0 (va_A [(h0, .inr (8, [.ref s1, .ref s2, .ref s3, .ref s4, .ref s5, .ref s6, .int ds, va_rf sp, va_rf bt]))] sz) := by
  refine Met.ofW (cc := cX8_stretch) (maxL := 11) (ret := (some .int)) (by decide) rfl ?_
  intro p e s m args below meth c s₁ B hml hv
  obtain ⟨rfl, hsz, hP, hK, hD0, hN⟩ := hv
  have hx := B.exec
  have hb := B.bytes
  have hr := B.returns
  have hts0 := atoms_spec (ws := (wB yX8_stretch cX8_stretch 11 (some .int))) B.pre
  have hts : ∀ w ∈ bigW, w.before _ s = true := fun w h => hts0 w (List.mem_cons_of_mem _ h)
  have hown : s.vm.findClass RX8 = some m.cls := findClass_of_methodNamed B.named
  have hlocks := B.notSynchronized
  subst hsz
  have hD := hD0.self (sz := s.heap.size)
  generalize hAe : va_A [(h0, .inr (8, [.ref s1, .ref s2, .ref s3, .ref s4, .ref s5, .ref s6, .int ds, va_rf sp, va_rf bt]))] s.heap.size = A at hD ⊢
  have hA : ∀ q : Nat, s.heap.size ≤ q → A q := fun q h => by rw [← hAe]; exact Or.inr h
  have hS : va_S A s.heap s.heap [] := va_S.rf
  have hP : va_P D vwCl [(h0, .inr (8, [.ref s1, .ref s2, .ref s3, .ref s4, .ref s5, .ref s6, .int ds, va_rf sp, va_rf bt]))] s.heap := hP
  have hl := lv_entry ([.ref h0, .int k, .int ax, .int ay, .int aw, .int ah, .int kq, .int ox, .int oy, .int ow, .int oh]) (n := 11) (Nat.le_of_ble_eq_true rfl)
  rw [lg_entry_eq]
  generalize (lg_sl ([.ref h0, .int k, .int ax, .int ay, .int aw, .int ah, .int kq, .int ox, .int oy, .int ow, .int oh]) ++ List.replicate (11 - (lg_sl ([.ref h0, .int k, .int ax, .int ay, .int aw, .int ah, .int kq, .int ox, .int oy, .int ow, .int oh])).length) Slot.unset).toArray = ls at hl ⊢
  have hl : lv_has ls 11 [(0, .ref h0), (1, .int k), (2, .int ax), (3, .int ay), (4, .int aw), (5, .int ah), (6, .int kq), (7, .int ox), (8, .int oy), (9, .int ow), (10, .int oh)] := hl
  clear hts0 hD0 hAe
  refine my_abs (fun R Q hR hQ => ?_)
  refine lv_iload hx hb dX8_stretch_0 (lv_at hl 4 rfl) ?_
  have hPc := hP.sub (ws' := []) [] rfl
  have hDc := hD.sub (ws' := []) [] (by decide) rfl
  have hKc := hK.sub (tys' := []) [] rfl
  have hFc := va_free (wc := []) hD hS hA [] rfl
  refine va_calli (va_runS (As := [.int aw]) (rest := []) ⟨hx, hb, hml, hown, hts⟩ (k_X8_isSide l D s.heap.size aw) (va_cwS 1 hts (gS bw_247 bw_353 bw_223 bw_352) rfl rfl rfl (by decide +kernel) ⟨(by rw [hR]; exact Nat.le_of_ble_eq_true rfl), (by rw [hR]; exact Nat.le_of_ble_eq_true rfl)⟩) ⟨cP_blind, cP_at hPc hKc hDc hN⟩ rfl rfl hl.1 rfl (lv_room (Nat.le_of_ble_eq_true rfl)) dX8_stretch_2 ⟨(by rw [hR]; exact Nat.le_of_ble_eq_true rfl), (by rw [hR]; exact Nat.le_of_ble_eq_true rfl)⟩) hS (fun q _ h => hFc q h) hFc (fun r_1 u9 t9 H1 locs ht hvm hr_1 hB hz1 hk1 hS => ?_)
  try dsimp only at hr_1
  have hP1 : va_P D vwCl [] H1 := vP_nil
  have hD1 : va_D (va_A [] s.heap.size) [] := vD_nil
  obtain ⟨hP, hD⟩ := va_join (wr := [(h0, .inr (8, [.ref s1, .ref s2, .ref s3, .ref s4, .ref s5, .ref s6, .int ds, va_rf sp, va_rf bt]))]) (w1 := []) hP hD [] [0] rfl rfl (by decide) (by decide) hk1 hFc hP1 hD1
  clear hz1 hk1 hFc hKc hDc hPc
  generalize H1 = H at hP hS ⊢
  have hP : va_P D vwCl [(h0, .inr (8, [.ref s1, .ref s2, .ref s3, .ref s4, .ref s5, .ref s6, .int ds, va_rf sp, va_rf bt]))] H := hP
  have hD : va_D A [(h0, .inr (8, [.ref s1, .ref s2, .ref s3, .ref s4, .ref s5, .ref s6, .int ds, va_rf sp, va_rf bt]))] := hD
  refine lv_if_eq (tgt := 32) hx hb dX8_stretch_5 (by decide) (fun c_2 => ?_) (fun c_2 => ?_)
  · skip
    have f_3 := bz0 hr_1 c_2
    refine lv_iconst (v := (-1)) hx hb dX8_stretch_32 (by decide) ?_
    have hP9 := hP.sub (ws' := [(h0, .inr (8, [.ref s1, .ref s2, .ref s3, .ref s4, .ref s5, .ref s6, .int ds, va_rf sp, va_rf bt]))]) [0] rfl
    have hD9 := hD.sub (ws' := [(h0, .inr (8, [.ref s1, .ref s2, .ref s3, .ref s4, .ref s5, .ref s6, .int ds, va_rf sp, va_rf bt]))]) [0] (by decide) rfl
    have hK9 := hK.sub (tys' := []) [] rfl
    refine hQ _ _ _ _ _ ?_
    exact W.iret (v := (-1)) hx hb hr (fun t ht hW => ⟨⟨(-1), (), rfl, rfl, ⟨by rw [ht]; exact hP9, va_K.moved hW.alike hK9, hD9⟩⟩, hS.F ht⟩) hS.2.2 dX8_stretch_33
  · skip
    have f_3 := bz1 hr_1 c_2
    refine lv_iload hx hb dX8_stretch_8 (lv_at hl 5 rfl) ?_
    have hPc := hP.sub (ws' := []) [] rfl
    have hDc := hD.sub (ws' := []) [] (by decide) rfl
    have hKc := hK.sub (tys' := []) [] rfl
    have hFc := va_free (wc := []) hD hS hA [] rfl
    refine va_calli (va_runS (As := [.int ah]) (rest := []) ⟨hx, hb, hml, hown, hts⟩ (k_X8_isSide l D H.size ah) (va_cwS 1 hts (gS bw_247 bw_353 bw_223 bw_352) rfl rfl rfl (by decide +kernel) ⟨(by rw [hR]; exact Nat.le_of_ble_eq_true rfl), (by rw [hR]; exact Nat.le_of_ble_eq_true rfl)⟩) ⟨cP_blind, cP_at hPc hKc hDc hN⟩ rfl rfl hl.1 rfl (lv_room (Nat.le_of_ble_eq_true rfl)) dX8_stretch_10 ⟨(by rw [hR]; exact Nat.le_of_ble_eq_true rfl), (by rw [hR]; exact Nat.le_of_ble_eq_true rfl)⟩) hS (fun q _ h => hFc q h) hFc (fun r_4 u9 t9 H1 locs ht hvm hr_4 hB hz1 hk1 hS => ?_)
    try dsimp only at hr_4
    have hP1 : va_P D vwCl [] H1 := vP_nil
    have hD1 : va_D (va_A [] H.size) [] := vD_nil
    obtain ⟨hP, hD⟩ := va_join (wr := [(h0, .inr (8, [.ref s1, .ref s2, .ref s3, .ref s4, .ref s5, .ref s6, .int ds, va_rf sp, va_rf bt]))]) (w1 := []) hP hD [] [0] rfl rfl (by decide) (by decide) hk1 hFc hP1 hD1
    clear hz1 hk1 hFc hKc hDc hPc
    generalize H1 = H at hP hS ⊢
    have hP : va_P D vwCl [(h0, .inr (8, [.ref s1, .ref s2, .ref s3, .ref s4, .ref s5, .ref s6, .int ds, va_rf sp, va_rf bt]))] H := hP
    have hD : va_D A [(h0, .inr (8, [.ref s1, .ref s2, .ref s3, .ref s4, .ref s5, .ref s6, .int ds, va_rf sp, va_rf bt]))] := hD
    refine lv_if_eq (tgt := 32) hx hb dX8_stretch_13 (by decide) (fun c_5 => ?_) (fun c_5 => ?_)
    · skip
      have f_6 := bz0 hr_4 c_5
      refine lv_iconst (v := (-1)) hx hb dX8_stretch_32 (by decide) ?_
      have hP9 := hP.sub (ws' := [(h0, .inr (8, [.ref s1, .ref s2, .ref s3, .ref s4, .ref s5, .ref s6, .int ds, va_rf sp, va_rf bt]))]) [0] rfl
      have hD9 := hD.sub (ws' := [(h0, .inr (8, [.ref s1, .ref s2, .ref s3, .ref s4, .ref s5, .ref s6, .int ds, va_rf sp, va_rf bt]))]) [0] (by decide) rfl
      have hK9 := hK.sub (tys' := []) [] rfl
      refine hQ _ _ _ _ _ ?_
      exact W.iret (v := (-1)) hx hb hr (fun t ht hW => ⟨⟨(-1), (), rfl, rfl, ⟨by rw [ht]; exact hP9, va_K.moved hW.alike hK9, hD9⟩⟩, hS.F ht⟩) hS.2.2 dX8_stretch_33
    · skip
      have f_6 := bz1 hr_4 c_5
      refine lv_iload hx hb dX8_stretch_16 (lv_at hl 9 rfl) ?_
      have hPc := hP.sub (ws' := []) [] rfl
      have hDc := hD.sub (ws' := []) [] (by decide) rfl
      have hKc := hK.sub (tys' := []) [] rfl
      have hFc := va_free (wc := []) hD hS hA [] rfl
      refine va_calli (va_runS (As := [.int ow]) (rest := []) ⟨hx, hb, hml, hown, hts⟩ (k_X8_isSide l D H.size ow) (va_cwS 1 hts (gS bw_247 bw_353 bw_223 bw_352) rfl rfl rfl (by decide +kernel) ⟨(by rw [hR]; exact Nat.le_of_ble_eq_true rfl), (by rw [hR]; exact Nat.le_of_ble_eq_true rfl)⟩) ⟨cP_blind, cP_at hPc hKc hDc hN⟩ rfl rfl hl.1 rfl (lv_room (Nat.le_of_ble_eq_true rfl)) dX8_stretch_18 ⟨(by rw [hR]; exact Nat.le_of_ble_eq_true rfl), (by rw [hR]; exact Nat.le_of_ble_eq_true rfl)⟩) hS (fun q _ h => hFc q h) hFc (fun r_7 u9 t9 H1 locs ht hvm hr_7 hB hz1 hk1 hS => ?_)
      try dsimp only at hr_7
      have hP1 : va_P D vwCl [] H1 := vP_nil
      have hD1 : va_D (va_A [] H.size) [] := vD_nil
      obtain ⟨hP, hD⟩ := va_join (wr := [(h0, .inr (8, [.ref s1, .ref s2, .ref s3, .ref s4, .ref s5, .ref s6, .int ds, va_rf sp, va_rf bt]))]) (w1 := []) hP hD [] [0] rfl rfl (by decide) (by decide) hk1 hFc hP1 hD1
      clear hz1 hk1 hFc hKc hDc hPc
      generalize H1 = H at hP hS ⊢
      have hP : va_P D vwCl [(h0, .inr (8, [.ref s1, .ref s2, .ref s3, .ref s4, .ref s5, .ref s6, .int ds, va_rf sp, va_rf bt]))] H := hP
      have hD : va_D A [(h0, .inr (8, [.ref s1, .ref s2, .ref s3, .ref s4, .ref s5, .ref s6, .int ds, va_rf sp, va_rf bt]))] := hD
      refine lv_if_eq (tgt := 32) hx hb dX8_stretch_21 (by decide) (fun c_8 => ?_) (fun c_8 => ?_)
      · skip
        have f_9 := bz0 hr_7 c_8
        refine lv_iconst (v := (-1)) hx hb dX8_stretch_32 (by decide) ?_
        have hP9 := hP.sub (ws' := [(h0, .inr (8, [.ref s1, .ref s2, .ref s3, .ref s4, .ref s5, .ref s6, .int ds, va_rf sp, va_rf bt]))]) [0] rfl
        have hD9 := hD.sub (ws' := [(h0, .inr (8, [.ref s1, .ref s2, .ref s3, .ref s4, .ref s5, .ref s6, .int ds, va_rf sp, va_rf bt]))]) [0] (by decide) rfl
        have hK9 := hK.sub (tys' := []) [] rfl
        refine hQ _ _ _ _ _ ?_
        exact W.iret (v := (-1)) hx hb hr (fun t ht hW => ⟨⟨(-1), (), rfl, rfl, ⟨by rw [ht]; exact hP9, va_K.moved hW.alike hK9, hD9⟩⟩, hS.F ht⟩) hS.2.2 dX8_stretch_33
      · skip
        have f_9 := bz1 hr_7 c_8
        refine lv_iload hx hb dX8_stretch_24 (lv_at hl 10 rfl) ?_
        have hPc := hP.sub (ws' := []) [] rfl
        have hDc := hD.sub (ws' := []) [] (by decide) rfl
        have hKc := hK.sub (tys' := []) [] rfl
        have hFc := va_free (wc := []) hD hS hA [] rfl
        refine va_calli (va_runS (As := [.int oh]) (rest := []) ⟨hx, hb, hml, hown, hts⟩ (k_X8_isSide l D H.size oh) (va_cwS 1 hts (gS bw_247 bw_353 bw_223 bw_352) rfl rfl rfl (by decide +kernel) ⟨(by rw [hR]; exact Nat.le_of_ble_eq_true rfl), (by rw [hR]; exact Nat.le_of_ble_eq_true rfl)⟩) ⟨cP_blind, cP_at hPc hKc hDc hN⟩ rfl rfl hl.1 rfl (lv_room (Nat.le_of_ble_eq_true rfl)) dX8_stretch_26 ⟨(by rw [hR]; exact Nat.le_of_ble_eq_true rfl), (by rw [hR]; exact Nat.le_of_ble_eq_true rfl)⟩) hS (fun q _ h => hFc q h) hFc (fun r_10 u9 t9 H1 locs ht hvm hr_10 hB hz1 hk1 hS => ?_)
        try dsimp only at hr_10
        have hP1 : va_P D vwCl [] H1 := vP_nil
        have hD1 : va_D (va_A [] H.size) [] := vD_nil
        obtain ⟨hP, hD⟩ := va_join (wr := [(h0, .inr (8, [.ref s1, .ref s2, .ref s3, .ref s4, .ref s5, .ref s6, .int ds, va_rf sp, va_rf bt]))]) (w1 := []) hP hD [] [0] rfl rfl (by decide) (by decide) hk1 hFc hP1 hD1
        clear hz1 hk1 hFc hKc hDc hPc
        generalize H1 = H at hP hS ⊢
        have hP : va_P D vwCl [(h0, .inr (8, [.ref s1, .ref s2, .ref s3, .ref s4, .ref s5, .ref s6, .int ds, va_rf sp, va_rf bt]))] H := hP
        have hD : va_D A [(h0, .inr (8, [.ref s1, .ref s2, .ref s3, .ref s4, .ref s5, .ref s6, .int ds, va_rf sp, va_rf bt]))] := hD
        refine lv_if_ne (tgt := 34) hx hb dX8_stretch_29 (by decide) (fun c_11 => ?_) (fun c_11 => ?_)
        · skip
          have f_12 := bz1 hr_10 c_11
          exact False.elim (by omega)
        · skip
          have f_12 := bz0 hr_10 c_11
          refine lv_iconst (v := (-1)) hx hb dX8_stretch_32 (by decide) ?_
          have hP9 := hP.sub (ws' := [(h0, .inr (8, [.ref s1, .ref s2, .ref s3, .ref s4, .ref s5, .ref s6, .int ds, va_rf sp, va_rf bt]))]) [0] rfl
          have hD9 := hD.sub (ws' := [(h0, .inr (8, [.ref s1, .ref s2, .ref s3, .ref s4, .ref s5, .ref s6, .int ds, va_rf sp, va_rf bt]))]) [0] (by decide) rfl
          have hK9 := hK.sub (tys' := []) [] rfl
          refine hQ _ _ _ _ _ ?_
          exact W.iret (v := (-1)) hx hb hr (fun t ht hW => ⟨⟨(-1), (), rfl, rfl, ⟨by rw [ht]; exact hP9, va_K.moved hW.alike hK9, hD9⟩⟩, hS.F ht⟩) hS.2.2 dX8_stretch_33

set_option maxHeartbeats 4000000 in
set_option maxRecDepth 100000 in
theorem k_X8_stretch_nn (l : Launch) (D : va_G) (sz : Nat) (h0 s1 s2 s3 s4 s5 s6 : Nat) (ds : Int32) (sp bt : Option Nat) (f : Nat → Option Nat) (k ax ay aw ah kq ox oy ow oh : Int32) (cO : ClassId) (hsz : (1 ≤ aw.toInt ∧ aw.toInt ≤ 64) ∧ (1 ≤ ah.toInt ∧ ah.toInt ≤ 64) ∧ (1 ≤ ow.toInt ∧ ow.toInt ≤ 64) ∧ (1 ≤ oh.toInt ∧ oh.toInt ≤ 64)) (haf : 0 ≤ k.toInt ∧ k.toInt ≤ 3 → f k.toNatClampNeg = none) (hb0f : 0 ≤ kq.toInt ∧ kq.toInt ≤ 3 → f kq.toNatClampNeg = none) : Met l yX8_stretch (wB yX8_stretch cX8_stretch 11 (some .int)) ({ frames := 2, cells := 2, slots := 8, locals := 52 }) (cP D [(h0, .inr (8, [.ref s1, .ref s2, .ref s3, .ref s4, .ref s5, .ref s6, .int ds, va_rf sp, va_rf bt])), (s1, .inl (cO, 4, .inr (.inr (.inr (.inr f)))))] [(cO, .object "DotBench$Sheet")] sz [.ref h0, .int k, .int ax, .int ay, .int aw, .int ah, .int kq, .int ox, .int oy, .int ow, .int oh]) (va_Qi (fun (r : Int32) (_ : Unit) => r = -1) (fun (_ : Unit) (t : State) => cB D (va_A [(h0, .inr (8, [.ref s1, .ref s2, .ref s3, .ref s4, .ref s5, .ref s6, .int ds, va_rf sp, va_rf bt])), (s1, .inl (cO, 4, .inr (.inr (.inr (.inr f)))))] sz) [(h0, .inr (8, [.ref s1, .ref s2, .ref s3, .ref s4, .ref s5, .ref s6, .int ds, va_rf sp, va_rf bt])), (s1, .inl (cO, 4, .inr (.inr (.inr (.inr f)))))] [(cO, .object "DotBench$Sheet")] t) (va_A [(h0, .inr (8, [.ref s1, .ref s2, .ref s3, .ref s4, .ref s5, .ref s6, .int ds, va_rf sp, va_rf bt])), (s1, .inl (cO, 4, .inr (.inr (.inr (.inr f)))))] sz)) 2 8 (va_A [(h0, .inr (8, [.ref s1, .ref s2, .ref s3, .ref s4, .ref s5, .ref s6, .int ds, va_rf sp, va_rf bt])), (s1, .inl (cO, 4, .inr (.inr (.inr (.inr f)))))] sz) := by
  refine Met.ofW (cc := cX8_stretch) (maxL := 11) (ret := (some .int)) (by decide) rfl ?_
  intro p e s m args below meth c s₁ B hml hv
  obtain ⟨rfl, hsz, hP, hK, hD0, hN⟩ := hv
  have hx := B.exec
  have hb := B.bytes
  have hr := B.returns
  have hts0 := atoms_spec (ws := (wB yX8_stretch cX8_stretch 11 (some .int))) B.pre
  have hts : ∀ w ∈ bigW, w.before _ s = true := fun w h => hts0 w (List.mem_cons_of_mem _ h)
  have hown : s.vm.findClass RX8 = some m.cls := findClass_of_methodNamed B.named
  have hlocks := B.notSynchronized
  subst hsz
  have hD := hD0.self (sz := s.heap.size)
  generalize hAe : va_A [(h0, .inr (8, [.ref s1, .ref s2, .ref s3, .ref s4, .ref s5, .ref s6, .int ds, va_rf sp, va_rf bt])), (s1, .inl (cO, 4, .inr (.inr (.inr (.inr f)))))] s.heap.size = A at hD ⊢
  have hA : ∀ q : Nat, s.heap.size ≤ q → A q := fun q h => by rw [← hAe]; exact Or.inr h
  have hS : va_S A s.heap s.heap [] := va_S.rf
  have hP : va_P D vwCl [(h0, .inr (8, [.ref s1, .ref s2, .ref s3, .ref s4, .ref s5, .ref s6, .int ds, va_rf sp, va_rf bt])), (s1, .inl (cO, 4, .inr (.inr (.inr (.inr f)))))] s.heap := hP
  have hl := lv_entry ([.ref h0, .int k, .int ax, .int ay, .int aw, .int ah, .int kq, .int ox, .int oy, .int ow, .int oh]) (n := 11) (Nat.le_of_ble_eq_true rfl)
  rw [lg_entry_eq]
  generalize (lg_sl ([.ref h0, .int k, .int ax, .int ay, .int aw, .int ah, .int kq, .int ox, .int oy, .int ow, .int oh]) ++ List.replicate (11 - (lg_sl ([.ref h0, .int k, .int ax, .int ay, .int aw, .int ah, .int kq, .int ox, .int oy, .int ow, .int oh])).length) Slot.unset).toArray = ls at hl ⊢
  have hl : lv_has ls 11 [(0, .ref h0), (1, .int k), (2, .int ax), (3, .int ay), (4, .int aw), (5, .int ah), (6, .int kq), (7, .int ox), (8, .int oy), (9, .int ow), (10, .int oh)] := hl
  clear hts0 hD0 hAe
  refine my_abs (fun R Q hR hQ => ?_)
  refine lv_iload hx hb dX8_stretch_0 (lv_at hl 4 rfl) ?_
  have hPc := hP.sub (ws' := []) [] rfl
  have hDc := hD.sub (ws' := []) [] (by decide) rfl
  have hKc := hK.sub (tys' := []) [] rfl
  have hFc := va_free (wc := []) hD hS hA [] rfl
  refine va_calli (va_runS (As := [.int aw]) (rest := []) ⟨hx, hb, hml, hown, hts⟩ (k_X8_isSide l D s.heap.size aw) (va_cwS 1 hts (gS bw_247 bw_353 bw_223 bw_352) rfl rfl rfl (by decide +kernel) ⟨(by rw [hR]; exact Nat.le_of_ble_eq_true rfl), (by rw [hR]; exact Nat.le_of_ble_eq_true rfl)⟩) ⟨cP_blind, cP_at hPc hKc hDc hN⟩ rfl rfl hl.1 rfl (lv_room (Nat.le_of_ble_eq_true rfl)) dX8_stretch_2 ⟨(by rw [hR]; exact Nat.le_of_ble_eq_true rfl), (by rw [hR]; exact Nat.le_of_ble_eq_true rfl)⟩) hS (fun q _ h => hFc q h) hFc (fun r_1 u9 t9 H1 locs ht hvm hr_1 hB hz1 hk1 hS => ?_)
  try dsimp only at hr_1
  have hP1 : va_P D vwCl [] H1 := vP_nil
  have hD1 : va_D (va_A [] s.heap.size) [] := vD_nil
  obtain ⟨hP, hD⟩ := va_join (wr := [(h0, .inr (8, [.ref s1, .ref s2, .ref s3, .ref s4, .ref s5, .ref s6, .int ds, va_rf sp, va_rf bt])), (s1, .inl (cO, 4, .inr (.inr (.inr (.inr f)))))]) (w1 := []) hP hD [] [0, 1] rfl rfl (by decide) (by decide) hk1 hFc hP1 hD1
  clear hz1 hk1 hFc hKc hDc hPc
  generalize H1 = H at hP hS ⊢
  have hP : va_P D vwCl [(h0, .inr (8, [.ref s1, .ref s2, .ref s3, .ref s4, .ref s5, .ref s6, .int ds, va_rf sp, va_rf bt])), (s1, .inl (cO, 4, .inr (.inr (.inr (.inr f)))))] H := hP
  have hD : va_D A [(h0, .inr (8, [.ref s1, .ref s2, .ref s3, .ref s4, .ref s5, .ref s6, .int ds, va_rf sp, va_rf bt])), (s1, .inl (cO, 4, .inr (.inr (.inr (.inr f)))))] := hD
  refine lv_if_eq (tgt := 32) hx hb dX8_stretch_5 (by decide) (fun c_2 => ?_) (fun c_2 => ?_)
  · skip
    have f_3 := bz0 hr_1 c_2
    exact False.elim (by omega)
  · skip
    have f_3 := bz1 hr_1 c_2
    refine lv_iload hx hb dX8_stretch_8 (lv_at hl 5 rfl) ?_
    have hPc := hP.sub (ws' := []) [] rfl
    have hDc := hD.sub (ws' := []) [] (by decide) rfl
    have hKc := hK.sub (tys' := []) [] rfl
    have hFc := va_free (wc := []) hD hS hA [] rfl
    refine va_calli (va_runS (As := [.int ah]) (rest := []) ⟨hx, hb, hml, hown, hts⟩ (k_X8_isSide l D H.size ah) (va_cwS 1 hts (gS bw_247 bw_353 bw_223 bw_352) rfl rfl rfl (by decide +kernel) ⟨(by rw [hR]; exact Nat.le_of_ble_eq_true rfl), (by rw [hR]; exact Nat.le_of_ble_eq_true rfl)⟩) ⟨cP_blind, cP_at hPc hKc hDc hN⟩ rfl rfl hl.1 rfl (lv_room (Nat.le_of_ble_eq_true rfl)) dX8_stretch_10 ⟨(by rw [hR]; exact Nat.le_of_ble_eq_true rfl), (by rw [hR]; exact Nat.le_of_ble_eq_true rfl)⟩) hS (fun q _ h => hFc q h) hFc (fun r_4 u9 t9 H1 locs ht hvm hr_4 hB hz1 hk1 hS => ?_)
    try dsimp only at hr_4
    have hP1 : va_P D vwCl [] H1 := vP_nil
    have hD1 : va_D (va_A [] H.size) [] := vD_nil
    obtain ⟨hP, hD⟩ := va_join (wr := [(h0, .inr (8, [.ref s1, .ref s2, .ref s3, .ref s4, .ref s5, .ref s6, .int ds, va_rf sp, va_rf bt])), (s1, .inl (cO, 4, .inr (.inr (.inr (.inr f)))))]) (w1 := []) hP hD [] [0, 1] rfl rfl (by decide) (by decide) hk1 hFc hP1 hD1
    clear hz1 hk1 hFc hKc hDc hPc
    generalize H1 = H at hP hS ⊢
    have hP : va_P D vwCl [(h0, .inr (8, [.ref s1, .ref s2, .ref s3, .ref s4, .ref s5, .ref s6, .int ds, va_rf sp, va_rf bt])), (s1, .inl (cO, 4, .inr (.inr (.inr (.inr f)))))] H := hP
    have hD : va_D A [(h0, .inr (8, [.ref s1, .ref s2, .ref s3, .ref s4, .ref s5, .ref s6, .int ds, va_rf sp, va_rf bt])), (s1, .inl (cO, 4, .inr (.inr (.inr (.inr f)))))] := hD
    refine lv_if_eq (tgt := 32) hx hb dX8_stretch_13 (by decide) (fun c_5 => ?_) (fun c_5 => ?_)
    · skip
      have f_6 := bz0 hr_4 c_5
      exact False.elim (by omega)
    · skip
      have f_6 := bz1 hr_4 c_5
      refine lv_iload hx hb dX8_stretch_16 (lv_at hl 9 rfl) ?_
      have hPc := hP.sub (ws' := []) [] rfl
      have hDc := hD.sub (ws' := []) [] (by decide) rfl
      have hKc := hK.sub (tys' := []) [] rfl
      have hFc := va_free (wc := []) hD hS hA [] rfl
      refine va_calli (va_runS (As := [.int ow]) (rest := []) ⟨hx, hb, hml, hown, hts⟩ (k_X8_isSide l D H.size ow) (va_cwS 1 hts (gS bw_247 bw_353 bw_223 bw_352) rfl rfl rfl (by decide +kernel) ⟨(by rw [hR]; exact Nat.le_of_ble_eq_true rfl), (by rw [hR]; exact Nat.le_of_ble_eq_true rfl)⟩) ⟨cP_blind, cP_at hPc hKc hDc hN⟩ rfl rfl hl.1 rfl (lv_room (Nat.le_of_ble_eq_true rfl)) dX8_stretch_18 ⟨(by rw [hR]; exact Nat.le_of_ble_eq_true rfl), (by rw [hR]; exact Nat.le_of_ble_eq_true rfl)⟩) hS (fun q _ h => hFc q h) hFc (fun r_7 u9 t9 H1 locs ht hvm hr_7 hB hz1 hk1 hS => ?_)
      try dsimp only at hr_7
      have hP1 : va_P D vwCl [] H1 := vP_nil
      have hD1 : va_D (va_A [] H.size) [] := vD_nil
      obtain ⟨hP, hD⟩ := va_join (wr := [(h0, .inr (8, [.ref s1, .ref s2, .ref s3, .ref s4, .ref s5, .ref s6, .int ds, va_rf sp, va_rf bt])), (s1, .inl (cO, 4, .inr (.inr (.inr (.inr f)))))]) (w1 := []) hP hD [] [0, 1] rfl rfl (by decide) (by decide) hk1 hFc hP1 hD1
      clear hz1 hk1 hFc hKc hDc hPc
      generalize H1 = H at hP hS ⊢
      have hP : va_P D vwCl [(h0, .inr (8, [.ref s1, .ref s2, .ref s3, .ref s4, .ref s5, .ref s6, .int ds, va_rf sp, va_rf bt])), (s1, .inl (cO, 4, .inr (.inr (.inr (.inr f)))))] H := hP
      have hD : va_D A [(h0, .inr (8, [.ref s1, .ref s2, .ref s3, .ref s4, .ref s5, .ref s6, .int ds, va_rf sp, va_rf bt])), (s1, .inl (cO, 4, .inr (.inr (.inr (.inr f)))))] := hD
      refine lv_if_eq (tgt := 32) hx hb dX8_stretch_21 (by decide) (fun c_8 => ?_) (fun c_8 => ?_)
      · skip
        have f_9 := bz0 hr_7 c_8
        exact False.elim (by omega)
      · skip
        have f_9 := bz1 hr_7 c_8
        refine lv_iload hx hb dX8_stretch_24 (lv_at hl 10 rfl) ?_
        have hPc := hP.sub (ws' := []) [] rfl
        have hDc := hD.sub (ws' := []) [] (by decide) rfl
        have hKc := hK.sub (tys' := []) [] rfl
        have hFc := va_free (wc := []) hD hS hA [] rfl
        refine va_calli (va_runS (As := [.int oh]) (rest := []) ⟨hx, hb, hml, hown, hts⟩ (k_X8_isSide l D H.size oh) (va_cwS 1 hts (gS bw_247 bw_353 bw_223 bw_352) rfl rfl rfl (by decide +kernel) ⟨(by rw [hR]; exact Nat.le_of_ble_eq_true rfl), (by rw [hR]; exact Nat.le_of_ble_eq_true rfl)⟩) ⟨cP_blind, cP_at hPc hKc hDc hN⟩ rfl rfl hl.1 rfl (lv_room (Nat.le_of_ble_eq_true rfl)) dX8_stretch_26 ⟨(by rw [hR]; exact Nat.le_of_ble_eq_true rfl), (by rw [hR]; exact Nat.le_of_ble_eq_true rfl)⟩) hS (fun q _ h => hFc q h) hFc (fun r_10 u9 t9 H1 locs ht hvm hr_10 hB hz1 hk1 hS => ?_)
        try dsimp only at hr_10
        have hP1 : va_P D vwCl [] H1 := vP_nil
        have hD1 : va_D (va_A [] H.size) [] := vD_nil
        obtain ⟨hP, hD⟩ := va_join (wr := [(h0, .inr (8, [.ref s1, .ref s2, .ref s3, .ref s4, .ref s5, .ref s6, .int ds, va_rf sp, va_rf bt])), (s1, .inl (cO, 4, .inr (.inr (.inr (.inr f)))))]) (w1 := []) hP hD [] [0, 1] rfl rfl (by decide) (by decide) hk1 hFc hP1 hD1
        clear hz1 hk1 hFc hKc hDc hPc
        generalize H1 = H at hP hS ⊢
        have hP : va_P D vwCl [(h0, .inr (8, [.ref s1, .ref s2, .ref s3, .ref s4, .ref s5, .ref s6, .int ds, va_rf sp, va_rf bt])), (s1, .inl (cO, 4, .inr (.inr (.inr (.inr f)))))] H := hP
        have hD : va_D A [(h0, .inr (8, [.ref s1, .ref s2, .ref s3, .ref s4, .ref s5, .ref s6, .int ds, va_rf sp, va_rf bt])), (s1, .inl (cO, 4, .inr (.inr (.inr (.inr f)))))] := hD
        refine lv_if_ne (tgt := 34) hx hb dX8_stretch_29 (by decide) (fun c_11 => ?_) (fun c_11 => ?_)
        · skip
          have f_12 := bz1 hr_10 c_11
          refine lv_aload_n hx hb dX8_stretch_34 rfl (lv_at hl 0 rfl) ?_
          refine lv_iload_n hx hb dX8_stretch_35 rfl (lv_at hl 1 rfl) ?_
          refine va_new (ci := 2) (fs := [.int 0, .int 0, .int 0, .int 0]) (C := RX2) (T := TX2) (N := 4) hx hb hts hi_X2 tyX2 tyX2_ok hown (hts _ bw_316) (hts _ bw_56) (hts _ bw_55) hK hP hD hS hA rfl z_X2 (by rw [hR]; exact Nat.le_of_ble_eq_true rfl) (by rw [hR]; exact Nat.le_of_ble_eq_true rfl) dX8_stretch_36 (fun q_13 H hP hD hS => ?_)
          have hP : va_P D vwCl [(h0, .inr (8, [.ref s1, .ref s2, .ref s3, .ref s4, .ref s5, .ref s6, .int ds, va_rf sp, va_rf bt])), (s1, .inl (cO, 4, .inr (.inr (.inr (.inr f))))), (q_13, .inr (2, [.int 0, .int 0, .int 0, .int 0]))] H := hP
          have hD : va_D A [(h0, .inr (8, [.ref s1, .ref s2, .ref s3, .ref s4, .ref s5, .ref s6, .int ds, va_rf sp, va_rf bt])), (s1, .inl (cO, 4, .inr (.inr (.inr (.inr f))))), (q_13, .inr (2, [.int 0, .int 0, .int 0, .int 0]))] := hD
          refine W.widen (k := 1) (n := 4) (by omega) (by omega) ?_
          refine lv_dup hx hb dX8_stretch_39 rfl ?_
          refine lv_iload_n hx hb dX8_stretch_40 rfl (lv_at hl 2 rfl) ?_
          refine lv_iload_n hx hb dX8_stretch_41 rfl (lv_at hl 3 rfl) ?_
          refine lv_iload hx hb dX8_stretch_42 (lv_at hl 4 rfl) ?_
          refine lv_iload hx hb dX8_stretch_44 (lv_at hl 5 rfl) ?_
          have hPc := hP.sub (ws' := [(q_13, .inr (2, [.int 0, .int 0, .int 0, .int 0]))]) [2] rfl
          have hDc := hD.sub (ws' := [(q_13, .inr (2, [.int 0, .int 0, .int 0, .int 0]))]) [2] (by decide) rfl
          have hKc := hK.sub (tys' := []) [] rfl
          have hFc := va_free (wc := [(q_13, .inr (2, [.int 0, .int 0, .int 0, .int 0]))]) hD hS hA [2] rfl
          refine va_callv (va_runI (As := [.int ax, .int ay, .int aw, .int ah]) (rest := [.ref q_13, .int k, .ref h0]) ⟨hx, hb, hml, hown, hts⟩ (k_X2_init l D H.size q_13 ax ay aw ah) (cwI 4 hts (gI bw_57) rfl rfl rfl (hts _ bw_55) (hts _ bw_317) (hts _ bw_58) rfl (by decide +kernel) ⟨(by rw [hR]; exact Nat.le_of_ble_eq_true rfl), (by rw [hR]; exact Nat.le_of_ble_eq_true rfl)⟩) ⟨cP_blind, cP_at hPc hKc hDc hN⟩ rfl rfl hl.1 rfl (lv_room (Nat.le_of_ble_eq_true rfl)) dX8_stretch_46 ⟨(by rw [hR]; exact Nat.le_of_ble_eq_true rfl), (by rw [hR]; exact Nat.le_of_ble_eq_true rfl)⟩) hS (fun q _ h => hFc q h) hFc (fun u9 t9 H1 locs ht hvm hr_14 hB hz1 hk1 hS => ?_)
          try dsimp only at hr_14
          obtain ⟨hP1, hK1, hD1⟩ := hB
          rw [ht] at hP1
          obtain ⟨hP, hD⟩ := va_join (wr := [(h0, .inr (8, [.ref s1, .ref s2, .ref s3, .ref s4, .ref s5, .ref s6, .int ds, va_rf sp, va_rf bt])), (s1, .inl (cO, 4, .inr (.inr (.inr (.inr f)))))]) (w1 := [(q_13, .inr (2, [.int ax, .int ay, .int aw, .int ah]))]) hP hD [2] [0, 1] rfl rfl (by decide) (by decide) hk1 hFc hP1 hD1
          clear hz1 hk1 hFc hKc hDc hPc
          generalize H1 = H at hP hS ⊢
          have hP : va_P D vwCl [(h0, .inr (8, [.ref s1, .ref s2, .ref s3, .ref s4, .ref s5, .ref s6, .int ds, va_rf sp, va_rf bt])), (s1, .inl (cO, 4, .inr (.inr (.inr (.inr f))))), (q_13, .inr (2, [.int ax, .int ay, .int aw, .int ah]))] H := hP
          have hD : va_D A [(h0, .inr (8, [.ref s1, .ref s2, .ref s3, .ref s4, .ref s5, .ref s6, .int ds, va_rf sp, va_rf bt])), (s1, .inl (cO, 4, .inr (.inr (.inr (.inr f))))), (q_13, .inr (2, [.int ax, .int ay, .int aw, .int ah]))] := hD
          refine lv_iload hx hb dX8_stretch_49 (lv_at hl 6 rfl) ?_
          refine va_new (ci := 2) (fs := [.int 0, .int 0, .int 0, .int 0]) (C := RX2) (T := TX2) (N := 4) hx hb hts hi_X2 tyX2 tyX2_ok hown (hts _ bw_316) (hts _ bw_56) (hts _ bw_55) hK hP hD hS hA rfl z_X2 (by rw [hR]; exact Nat.le_of_ble_eq_true rfl) (by rw [hR]; exact Nat.le_of_ble_eq_true rfl) dX8_stretch_51 (fun q_15 H hP hD hS => ?_)
          have hP : va_P D vwCl [(h0, .inr (8, [.ref s1, .ref s2, .ref s3, .ref s4, .ref s5, .ref s6, .int ds, va_rf sp, va_rf bt])), (s1, .inl (cO, 4, .inr (.inr (.inr (.inr f))))), (q_13, .inr (2, [.int ax, .int ay, .int aw, .int ah])), (q_15, .inr (2, [.int 0, .int 0, .int 0, .int 0]))] H := hP
          have hD : va_D A [(h0, .inr (8, [.ref s1, .ref s2, .ref s3, .ref s4, .ref s5, .ref s6, .int ds, va_rf sp, va_rf bt])), (s1, .inl (cO, 4, .inr (.inr (.inr (.inr f))))), (q_13, .inr (2, [.int ax, .int ay, .int aw, .int ah])), (q_15, .inr (2, [.int 0, .int 0, .int 0, .int 0]))] := hD
          refine W.widen (k := 2) (n := 8) (by omega) (by omega) ?_
          refine lv_dup hx hb dX8_stretch_54 rfl ?_
          refine lv_iload hx hb dX8_stretch_55 (lv_at hl 7 rfl) ?_
          refine lv_iload hx hb dX8_stretch_57 (lv_at hl 8 rfl) ?_
          refine lv_iload hx hb dX8_stretch_59 (lv_at hl 9 rfl) ?_
          refine lv_iload hx hb dX8_stretch_61 (lv_at hl 10 rfl) ?_
          have hPc := hP.sub (ws' := [(q_15, .inr (2, [.int 0, .int 0, .int 0, .int 0]))]) [3] rfl
          have hDc := hD.sub (ws' := [(q_15, .inr (2, [.int 0, .int 0, .int 0, .int 0]))]) [3] (by decide) rfl
          have hKc := hK.sub (tys' := []) [] rfl
          have hFc := va_free (wc := [(q_15, .inr (2, [.int 0, .int 0, .int 0, .int 0]))]) hD hS hA [3] rfl
          refine va_callv (va_runI (As := [.int ox, .int oy, .int ow, .int oh]) (rest := [.ref q_15, .int kq, .ref q_13, .int k, .ref h0]) ⟨hx, hb, hml, hown, hts⟩ (k_X2_init l D H.size q_15 ox oy ow oh) (cwI 4 hts (gI bw_57) rfl rfl rfl (hts _ bw_55) (hts _ bw_317) (hts _ bw_58) rfl (by decide +kernel) ⟨(by rw [hR]; exact Nat.le_of_ble_eq_true rfl), (by rw [hR]; exact Nat.le_of_ble_eq_true rfl)⟩) ⟨cP_blind, cP_at hPc hKc hDc hN⟩ rfl rfl hl.1 rfl (lv_room (Nat.le_of_ble_eq_true rfl)) dX8_stretch_63 ⟨(by rw [hR]; exact Nat.le_of_ble_eq_true rfl), (by rw [hR]; exact Nat.le_of_ble_eq_true rfl)⟩) hS (fun q _ h => hFc q h) hFc (fun u9 t9 H1 locs ht hvm hr_16 hB hz1 hk1 hS => ?_)
          try dsimp only at hr_16
          obtain ⟨hP1, hK1, hD1⟩ := hB
          rw [ht] at hP1
          obtain ⟨hP, hD⟩ := va_join (wr := [(h0, .inr (8, [.ref s1, .ref s2, .ref s3, .ref s4, .ref s5, .ref s6, .int ds, va_rf sp, va_rf bt])), (s1, .inl (cO, 4, .inr (.inr (.inr (.inr f))))), (q_13, .inr (2, [.int ax, .int ay, .int aw, .int ah]))]) (w1 := [(q_15, .inr (2, [.int ox, .int oy, .int ow, .int oh]))]) hP hD [3] [0, 1, 2] rfl rfl (by decide) (by decide) hk1 hFc hP1 hD1
          clear hz1 hk1 hFc hKc hDc hPc
          generalize H1 = H at hP hS ⊢
          have hP : va_P D vwCl [(h0, .inr (8, [.ref s1, .ref s2, .ref s3, .ref s4, .ref s5, .ref s6, .int ds, va_rf sp, va_rf bt])), (s1, .inl (cO, 4, .inr (.inr (.inr (.inr f))))), (q_13, .inr (2, [.int ax, .int ay, .int aw, .int ah])), (q_15, .inr (2, [.int ox, .int oy, .int ow, .int oh]))] H := hP
          have hD : va_D A [(h0, .inr (8, [.ref s1, .ref s2, .ref s3, .ref s4, .ref s5, .ref s6, .int ds, va_rf sp, va_rf bt])), (s1, .inl (cO, 4, .inr (.inr (.inr (.inr f))))), (q_13, .inr (2, [.int ax, .int ay, .int aw, .int ah])), (q_15, .inr (2, [.int ox, .int oy, .int ow, .int oh]))] := hD
          have hPc := hP.sub (ws' := [(h0, .inr (8, [.ref s1, .ref s2, .ref s3, .ref s4, .ref s5, .ref s6, .int ds, va_rf sp, va_rf bt])), (s1, .inl (cO, 4, .inr (.inr (.inr (.inr f))))), (q_13, .inr (2, [.int ax, .int ay, .int aw, .int ah])), (q_15, .inr (2, [.int ox, .int oy, .int ow, .int oh]))]) [0, 1, 2, 3] rfl
          have hDc := hD.sub (ws' := [(h0, .inr (8, [.ref s1, .ref s2, .ref s3, .ref s4, .ref s5, .ref s6, .int ds, va_rf sp, va_rf bt])), (s1, .inl (cO, 4, .inr (.inr (.inr (.inr f))))), (q_13, .inr (2, [.int ax, .int ay, .int aw, .int ah])), (q_15, .inr (2, [.int ox, .int oy, .int ow, .int oh]))]) [0, 1, 2, 3] (by decide) rfl
          have hKc := hK.sub (tys' := [(cO, .object "DotBench$Sheet")]) [0] rfl
          have hFc := va_free (wc := [(h0, .inr (8, [.ref s1, .ref s2, .ref s3, .ref s4, .ref s5, .ref s6, .int ds, va_rf sp, va_rf bt])), (s1, .inl (cO, 4, .inr (.inr (.inr (.inr f))))), (q_13, .inr (2, [.int ax, .int ay, .int aw, .int ah])), (q_15, .inr (2, [.int ox, .int oy, .int ow, .int oh]))]) hD hS hA [0, 1, 2, 3] rfl
          refine va_calli (va_runV (As := [.int k, .ref q_13, .int kq, .ref q_15]) (rest := []) ⟨hx, hb, hml, hown, hts⟩ (k_X8_carry_nn l D H.size h0 s1 s2 s3 s4 s5 s6 ds sp bt f q_13 q_15 ax ay aw ah ox oy ow oh k kq cO (by first | assumption | omega | decide) (by first | assumption | omega | decide)) (cwV 4 hts (gV bw_318 bw_383 bw_384 bw_223 bw_382) rfl rfl rfl (by decide +kernel) ⟨(by rw [hR]; exact Nat.le_of_ble_eq_true rfl), (by rw [hR]; exact Nat.le_of_ble_eq_true rfl)⟩) ⟨cP_blind, va_recv hKc hPc (ci := 8) (q0 := 0) rfl rfl, cP_at hPc hKc hDc hN⟩ rfl rfl hl.1 rfl (lv_room (Nat.le_of_ble_eq_true rfl)) dX8_stretch_66 ⟨(by rw [hR]; exact Nat.le_of_ble_eq_true rfl), (by rw [hR]; exact Nat.le_of_ble_eq_true rfl)⟩) hS (fun q _ h => hFc q h) hFc (fun r_17 u9 t9 H1 locs ht hvm hr_17 hB hz1 hk1 hS => ?_)
          try dsimp only at hr_17
          obtain ⟨hP1, hK1, hD1⟩ := hB
          rw [ht] at hP1
          obtain ⟨hP, hD⟩ := va_join (wr := []) (w1 := [(h0, .inr (8, [.ref s1, .ref s2, .ref s3, .ref s4, .ref s5, .ref s6, .int ds, va_rf sp, va_rf bt])), (s1, .inl (cO, 4, .inr (.inr (.inr (.inr f)))))]) hP hD [0, 1, 2, 3] [] rfl rfl (by decide) (by decide) hk1 hFc hP1 hD1
          clear hz1 hk1 hFc hKc hDc hPc
          generalize H1 = H at hP hS ⊢
          have hP : va_P D vwCl [(h0, .inr (8, [.ref s1, .ref s2, .ref s3, .ref s4, .ref s5, .ref s6, .int ds, va_rf sp, va_rf bt])), (s1, .inl (cO, 4, .inr (.inr (.inr (.inr f)))))] H := hP
          have hD : va_D A [(h0, .inr (8, [.ref s1, .ref s2, .ref s3, .ref s4, .ref s5, .ref s6, .int ds, va_rf sp, va_rf bt])), (s1, .inl (cO, 4, .inr (.inr (.inr (.inr f)))))] := hD
          subst hr_17
          have hP9 := hP.sub (ws' := [(h0, .inr (8, [.ref s1, .ref s2, .ref s3, .ref s4, .ref s5, .ref s6, .int ds, va_rf sp, va_rf bt])), (s1, .inl (cO, 4, .inr (.inr (.inr (.inr f)))))]) [0, 1] rfl
          have hD9 := hD.sub (ws' := [(h0, .inr (8, [.ref s1, .ref s2, .ref s3, .ref s4, .ref s5, .ref s6, .int ds, va_rf sp, va_rf bt])), (s1, .inl (cO, 4, .inr (.inr (.inr (.inr f)))))]) [0, 1] (by decide) rfl
          have hK9 := hK.sub (tys' := [(cO, .object "DotBench$Sheet")]) [0] rfl
          refine hQ _ _ _ _ _ ?_
          exact W.iret (v := (-1)) hx hb hr (fun t ht hW => ⟨⟨(-1), (), rfl, rfl, ⟨by rw [ht]; exact hP9, va_K.moved hW.alike hK9, hD9⟩⟩, hS.F ht⟩) hS.2.2 dX8_stretch_69
        · skip
          have f_12 := bz0 hr_10 c_11
          exact False.elim (by omega)

set_option maxHeartbeats 4000000 in
set_option maxRecDepth 100000 in
theorem k_X8_stretch_ny (l : Launch) (D : va_G) (sz : Nat) (h0 s1 s2 s3 s4 s5 s6 : Nat) (ds : Int32) (sp bt : Option Nat) (f : Nat → Option Nat) (t0 : Nat) (k ax ay aw ah kq ox oy ow oh : Int32) (cO : ClassId) (hsz : (1 ≤ aw.toInt ∧ aw.toInt ≤ 64) ∧ (1 ≤ ah.toInt ∧ ah.toInt ≤ 64) ∧ (1 ≤ ow.toInt ∧ ow.toInt ≤ 64) ∧ (1 ≤ oh.toInt ∧ oh.toInt ≤ 64)) (haf : 0 ≤ k.toInt ∧ k.toInt ≤ 3 → f k.toNatClampNeg = none) (hb0k : 0 ≤ kq.toInt ∧ kq.toInt ≤ 3) (hb0f : f kq.toNatClampNeg = some t0) : Met l yX8_stretch (wB yX8_stretch cX8_stretch 11 (some .int)) ({ frames := 2, cells := 2, slots := 8, locals := 52 }) (cP D [(h0, .inr (8, [.ref s1, .ref s2, .ref s3, .ref s4, .ref s5, .ref s6, .int ds, va_rf sp, va_rf bt])), (s1, .inl (cO, 4, .inr (.inr (.inr (.inr f)))))] [(cO, .object "DotBench$Sheet")] sz [.ref h0, .int k, .int ax, .int ay, .int aw, .int ah, .int kq, .int ox, .int oy, .int ow, .int oh]) (va_Qi (fun (r : Int32) (_ : Unit) => r = -1) (fun (_ : Unit) (t : State) => cB D (va_A [(h0, .inr (8, [.ref s1, .ref s2, .ref s3, .ref s4, .ref s5, .ref s6, .int ds, va_rf sp, va_rf bt])), (s1, .inl (cO, 4, .inr (.inr (.inr (.inr f)))))] sz) [(h0, .inr (8, [.ref s1, .ref s2, .ref s3, .ref s4, .ref s5, .ref s6, .int ds, va_rf sp, va_rf bt])), (s1, .inl (cO, 4, .inr (.inr (.inr (.inr f)))))] [(cO, .object "DotBench$Sheet")] t) (va_A [(h0, .inr (8, [.ref s1, .ref s2, .ref s3, .ref s4, .ref s5, .ref s6, .int ds, va_rf sp, va_rf bt])), (s1, .inl (cO, 4, .inr (.inr (.inr (.inr f)))))] sz)) 2 8 (va_A [(h0, .inr (8, [.ref s1, .ref s2, .ref s3, .ref s4, .ref s5, .ref s6, .int ds, va_rf sp, va_rf bt])), (s1, .inl (cO, 4, .inr (.inr (.inr (.inr f)))))] sz) := by
  refine Met.ofW (cc := cX8_stretch) (maxL := 11) (ret := (some .int)) (by decide) rfl ?_
  intro p e s m args below meth c s₁ B hml hv
  obtain ⟨rfl, hsz, hP, hK, hD0, hN⟩ := hv
  have hx := B.exec
  have hb := B.bytes
  have hr := B.returns
  have hts0 := atoms_spec (ws := (wB yX8_stretch cX8_stretch 11 (some .int))) B.pre
  have hts : ∀ w ∈ bigW, w.before _ s = true := fun w h => hts0 w (List.mem_cons_of_mem _ h)
  have hown : s.vm.findClass RX8 = some m.cls := findClass_of_methodNamed B.named
  have hlocks := B.notSynchronized
  subst hsz
  have hD := hD0.self (sz := s.heap.size)
  generalize hAe : va_A [(h0, .inr (8, [.ref s1, .ref s2, .ref s3, .ref s4, .ref s5, .ref s6, .int ds, va_rf sp, va_rf bt])), (s1, .inl (cO, 4, .inr (.inr (.inr (.inr f)))))] s.heap.size = A at hD ⊢
  have hA : ∀ q : Nat, s.heap.size ≤ q → A q := fun q h => by rw [← hAe]; exact Or.inr h
  have hS : va_S A s.heap s.heap [] := va_S.rf
  have hP : va_P D vwCl [(h0, .inr (8, [.ref s1, .ref s2, .ref s3, .ref s4, .ref s5, .ref s6, .int ds, va_rf sp, va_rf bt])), (s1, .inl (cO, 4, .inr (.inr (.inr (.inr f)))))] s.heap := hP
  have hl := lv_entry ([.ref h0, .int k, .int ax, .int ay, .int aw, .int ah, .int kq, .int ox, .int oy, .int ow, .int oh]) (n := 11) (Nat.le_of_ble_eq_true rfl)
  rw [lg_entry_eq]
  generalize (lg_sl ([.ref h0, .int k, .int ax, .int ay, .int aw, .int ah, .int kq, .int ox, .int oy, .int ow, .int oh]) ++ List.replicate (11 - (lg_sl ([.ref h0, .int k, .int ax, .int ay, .int aw, .int ah, .int kq, .int ox, .int oy, .int ow, .int oh])).length) Slot.unset).toArray = ls at hl ⊢
  have hl : lv_has ls 11 [(0, .ref h0), (1, .int k), (2, .int ax), (3, .int ay), (4, .int aw), (5, .int ah), (6, .int kq), (7, .int ox), (8, .int oy), (9, .int ow), (10, .int oh)] := hl
  clear hts0 hD0 hAe
  refine my_abs (fun R Q hR hQ => ?_)
  refine lv_iload hx hb dX8_stretch_0 (lv_at hl 4 rfl) ?_
  have hPc := hP.sub (ws' := []) [] rfl
  have hDc := hD.sub (ws' := []) [] (by decide) rfl
  have hKc := hK.sub (tys' := []) [] rfl
  have hFc := va_free (wc := []) hD hS hA [] rfl
  refine va_calli (va_runS (As := [.int aw]) (rest := []) ⟨hx, hb, hml, hown, hts⟩ (k_X8_isSide l D s.heap.size aw) (va_cwS 1 hts (gS bw_247 bw_353 bw_223 bw_352) rfl rfl rfl (by decide +kernel) ⟨(by rw [hR]; exact Nat.le_of_ble_eq_true rfl), (by rw [hR]; exact Nat.le_of_ble_eq_true rfl)⟩) ⟨cP_blind, cP_at hPc hKc hDc hN⟩ rfl rfl hl.1 rfl (lv_room (Nat.le_of_ble_eq_true rfl)) dX8_stretch_2 ⟨(by rw [hR]; exact Nat.le_of_ble_eq_true rfl), (by rw [hR]; exact Nat.le_of_ble_eq_true rfl)⟩) hS (fun q _ h => hFc q h) hFc (fun r_1 u9 t9 H1 locs ht hvm hr_1 hB hz1 hk1 hS => ?_)
  try dsimp only at hr_1
  have hP1 : va_P D vwCl [] H1 := vP_nil
  have hD1 : va_D (va_A [] s.heap.size) [] := vD_nil
  obtain ⟨hP, hD⟩ := va_join (wr := [(h0, .inr (8, [.ref s1, .ref s2, .ref s3, .ref s4, .ref s5, .ref s6, .int ds, va_rf sp, va_rf bt])), (s1, .inl (cO, 4, .inr (.inr (.inr (.inr f)))))]) (w1 := []) hP hD [] [0, 1] rfl rfl (by decide) (by decide) hk1 hFc hP1 hD1
  clear hz1 hk1 hFc hKc hDc hPc
  generalize H1 = H at hP hS ⊢
  have hP : va_P D vwCl [(h0, .inr (8, [.ref s1, .ref s2, .ref s3, .ref s4, .ref s5, .ref s6, .int ds, va_rf sp, va_rf bt])), (s1, .inl (cO, 4, .inr (.inr (.inr (.inr f)))))] H := hP
  have hD : va_D A [(h0, .inr (8, [.ref s1, .ref s2, .ref s3, .ref s4, .ref s5, .ref s6, .int ds, va_rf sp, va_rf bt])), (s1, .inl (cO, 4, .inr (.inr (.inr (.inr f)))))] := hD
  refine lv_if_eq (tgt := 32) hx hb dX8_stretch_5 (by decide) (fun c_2 => ?_) (fun c_2 => ?_)
  · skip
    have f_3 := bz0 hr_1 c_2
    exact False.elim (by omega)
  · skip
    have f_3 := bz1 hr_1 c_2
    refine lv_iload hx hb dX8_stretch_8 (lv_at hl 5 rfl) ?_
    have hPc := hP.sub (ws' := []) [] rfl
    have hDc := hD.sub (ws' := []) [] (by decide) rfl
    have hKc := hK.sub (tys' := []) [] rfl
    have hFc := va_free (wc := []) hD hS hA [] rfl
    refine va_calli (va_runS (As := [.int ah]) (rest := []) ⟨hx, hb, hml, hown, hts⟩ (k_X8_isSide l D H.size ah) (va_cwS 1 hts (gS bw_247 bw_353 bw_223 bw_352) rfl rfl rfl (by decide +kernel) ⟨(by rw [hR]; exact Nat.le_of_ble_eq_true rfl), (by rw [hR]; exact Nat.le_of_ble_eq_true rfl)⟩) ⟨cP_blind, cP_at hPc hKc hDc hN⟩ rfl rfl hl.1 rfl (lv_room (Nat.le_of_ble_eq_true rfl)) dX8_stretch_10 ⟨(by rw [hR]; exact Nat.le_of_ble_eq_true rfl), (by rw [hR]; exact Nat.le_of_ble_eq_true rfl)⟩) hS (fun q _ h => hFc q h) hFc (fun r_4 u9 t9 H1 locs ht hvm hr_4 hB hz1 hk1 hS => ?_)
    try dsimp only at hr_4
    have hP1 : va_P D vwCl [] H1 := vP_nil
    have hD1 : va_D (va_A [] H.size) [] := vD_nil
    obtain ⟨hP, hD⟩ := va_join (wr := [(h0, .inr (8, [.ref s1, .ref s2, .ref s3, .ref s4, .ref s5, .ref s6, .int ds, va_rf sp, va_rf bt])), (s1, .inl (cO, 4, .inr (.inr (.inr (.inr f)))))]) (w1 := []) hP hD [] [0, 1] rfl rfl (by decide) (by decide) hk1 hFc hP1 hD1
    clear hz1 hk1 hFc hKc hDc hPc
    generalize H1 = H at hP hS ⊢
    have hP : va_P D vwCl [(h0, .inr (8, [.ref s1, .ref s2, .ref s3, .ref s4, .ref s5, .ref s6, .int ds, va_rf sp, va_rf bt])), (s1, .inl (cO, 4, .inr (.inr (.inr (.inr f)))))] H := hP
    have hD : va_D A [(h0, .inr (8, [.ref s1, .ref s2, .ref s3, .ref s4, .ref s5, .ref s6, .int ds, va_rf sp, va_rf bt])), (s1, .inl (cO, 4, .inr (.inr (.inr (.inr f)))))] := hD
    refine lv_if_eq (tgt := 32) hx hb dX8_stretch_13 (by decide) (fun c_5 => ?_) (fun c_5 => ?_)
    · skip
      have f_6 := bz0 hr_4 c_5
      exact False.elim (by omega)
    · skip
      have f_6 := bz1 hr_4 c_5
      refine lv_iload hx hb dX8_stretch_16 (lv_at hl 9 rfl) ?_
      have hPc := hP.sub (ws' := []) [] rfl
      have hDc := hD.sub (ws' := []) [] (by decide) rfl
      have hKc := hK.sub (tys' := []) [] rfl
      have hFc := va_free (wc := []) hD hS hA [] rfl
      refine va_calli (va_runS (As := [.int ow]) (rest := []) ⟨hx, hb, hml, hown, hts⟩ (k_X8_isSide l D H.size ow) (va_cwS 1 hts (gS bw_247 bw_353 bw_223 bw_352) rfl rfl rfl (by decide +kernel) ⟨(by rw [hR]; exact Nat.le_of_ble_eq_true rfl), (by rw [hR]; exact Nat.le_of_ble_eq_true rfl)⟩) ⟨cP_blind, cP_at hPc hKc hDc hN⟩ rfl rfl hl.1 rfl (lv_room (Nat.le_of_ble_eq_true rfl)) dX8_stretch_18 ⟨(by rw [hR]; exact Nat.le_of_ble_eq_true rfl), (by rw [hR]; exact Nat.le_of_ble_eq_true rfl)⟩) hS (fun q _ h => hFc q h) hFc (fun r_7 u9 t9 H1 locs ht hvm hr_7 hB hz1 hk1 hS => ?_)
      try dsimp only at hr_7
      have hP1 : va_P D vwCl [] H1 := vP_nil
      have hD1 : va_D (va_A [] H.size) [] := vD_nil
      obtain ⟨hP, hD⟩ := va_join (wr := [(h0, .inr (8, [.ref s1, .ref s2, .ref s3, .ref s4, .ref s5, .ref s6, .int ds, va_rf sp, va_rf bt])), (s1, .inl (cO, 4, .inr (.inr (.inr (.inr f)))))]) (w1 := []) hP hD [] [0, 1] rfl rfl (by decide) (by decide) hk1 hFc hP1 hD1
      clear hz1 hk1 hFc hKc hDc hPc
      generalize H1 = H at hP hS ⊢
      have hP : va_P D vwCl [(h0, .inr (8, [.ref s1, .ref s2, .ref s3, .ref s4, .ref s5, .ref s6, .int ds, va_rf sp, va_rf bt])), (s1, .inl (cO, 4, .inr (.inr (.inr (.inr f)))))] H := hP
      have hD : va_D A [(h0, .inr (8, [.ref s1, .ref s2, .ref s3, .ref s4, .ref s5, .ref s6, .int ds, va_rf sp, va_rf bt])), (s1, .inl (cO, 4, .inr (.inr (.inr (.inr f)))))] := hD
      refine lv_if_eq (tgt := 32) hx hb dX8_stretch_21 (by decide) (fun c_8 => ?_) (fun c_8 => ?_)
      · skip
        have f_9 := bz0 hr_7 c_8
        exact False.elim (by omega)
      · skip
        have f_9 := bz1 hr_7 c_8
        refine lv_iload hx hb dX8_stretch_24 (lv_at hl 10 rfl) ?_
        have hPc := hP.sub (ws' := []) [] rfl
        have hDc := hD.sub (ws' := []) [] (by decide) rfl
        have hKc := hK.sub (tys' := []) [] rfl
        have hFc := va_free (wc := []) hD hS hA [] rfl
        refine va_calli (va_runS (As := [.int oh]) (rest := []) ⟨hx, hb, hml, hown, hts⟩ (k_X8_isSide l D H.size oh) (va_cwS 1 hts (gS bw_247 bw_353 bw_223 bw_352) rfl rfl rfl (by decide +kernel) ⟨(by rw [hR]; exact Nat.le_of_ble_eq_true rfl), (by rw [hR]; exact Nat.le_of_ble_eq_true rfl)⟩) ⟨cP_blind, cP_at hPc hKc hDc hN⟩ rfl rfl hl.1 rfl (lv_room (Nat.le_of_ble_eq_true rfl)) dX8_stretch_26 ⟨(by rw [hR]; exact Nat.le_of_ble_eq_true rfl), (by rw [hR]; exact Nat.le_of_ble_eq_true rfl)⟩) hS (fun q _ h => hFc q h) hFc (fun r_10 u9 t9 H1 locs ht hvm hr_10 hB hz1 hk1 hS => ?_)
        try dsimp only at hr_10
        have hP1 : va_P D vwCl [] H1 := vP_nil
        have hD1 : va_D (va_A [] H.size) [] := vD_nil
        obtain ⟨hP, hD⟩ := va_join (wr := [(h0, .inr (8, [.ref s1, .ref s2, .ref s3, .ref s4, .ref s5, .ref s6, .int ds, va_rf sp, va_rf bt])), (s1, .inl (cO, 4, .inr (.inr (.inr (.inr f)))))]) (w1 := []) hP hD [] [0, 1] rfl rfl (by decide) (by decide) hk1 hFc hP1 hD1
        clear hz1 hk1 hFc hKc hDc hPc
        generalize H1 = H at hP hS ⊢
        have hP : va_P D vwCl [(h0, .inr (8, [.ref s1, .ref s2, .ref s3, .ref s4, .ref s5, .ref s6, .int ds, va_rf sp, va_rf bt])), (s1, .inl (cO, 4, .inr (.inr (.inr (.inr f)))))] H := hP
        have hD : va_D A [(h0, .inr (8, [.ref s1, .ref s2, .ref s3, .ref s4, .ref s5, .ref s6, .int ds, va_rf sp, va_rf bt])), (s1, .inl (cO, 4, .inr (.inr (.inr (.inr f)))))] := hD
        refine lv_if_ne (tgt := 34) hx hb dX8_stretch_29 (by decide) (fun c_11 => ?_) (fun c_11 => ?_)
        · skip
          have f_12 := bz1 hr_10 c_11
          refine lv_aload_n hx hb dX8_stretch_34 rfl (lv_at hl 0 rfl) ?_
          refine lv_iload_n hx hb dX8_stretch_35 rfl (lv_at hl 1 rfl) ?_
          refine va_new (ci := 2) (fs := [.int 0, .int 0, .int 0, .int 0]) (C := RX2) (T := TX2) (N := 4) hx hb hts hi_X2 tyX2 tyX2_ok hown (hts _ bw_316) (hts _ bw_56) (hts _ bw_55) hK hP hD hS hA rfl z_X2 (by rw [hR]; exact Nat.le_of_ble_eq_true rfl) (by rw [hR]; exact Nat.le_of_ble_eq_true rfl) dX8_stretch_36 (fun q_13 H hP hD hS => ?_)
          have hP : va_P D vwCl [(h0, .inr (8, [.ref s1, .ref s2, .ref s3, .ref s4, .ref s5, .ref s6, .int ds, va_rf sp, va_rf bt])), (s1, .inl (cO, 4, .inr (.inr (.inr (.inr f))))), (q_13, .inr (2, [.int 0, .int 0, .int 0, .int 0]))] H := hP
          have hD : va_D A [(h0, .inr (8, [.ref s1, .ref s2, .ref s3, .ref s4, .ref s5, .ref s6, .int ds, va_rf sp, va_rf bt])), (s1, .inl (cO, 4, .inr (.inr (.inr (.inr f))))), (q_13, .inr (2, [.int 0, .int 0, .int 0, .int 0]))] := hD
          refine W.widen (k := 1) (n := 4) (by omega) (by omega) ?_
          refine lv_dup hx hb dX8_stretch_39 rfl ?_
          refine lv_iload_n hx hb dX8_stretch_40 rfl (lv_at hl 2 rfl) ?_
          refine lv_iload_n hx hb dX8_stretch_41 rfl (lv_at hl 3 rfl) ?_
          refine lv_iload hx hb dX8_stretch_42 (lv_at hl 4 rfl) ?_
          refine lv_iload hx hb dX8_stretch_44 (lv_at hl 5 rfl) ?_
          have hPc := hP.sub (ws' := [(q_13, .inr (2, [.int 0, .int 0, .int 0, .int 0]))]) [2] rfl
          have hDc := hD.sub (ws' := [(q_13, .inr (2, [.int 0, .int 0, .int 0, .int 0]))]) [2] (by decide) rfl
          have hKc := hK.sub (tys' := []) [] rfl
          have hFc := va_free (wc := [(q_13, .inr (2, [.int 0, .int 0, .int 0, .int 0]))]) hD hS hA [2] rfl
          refine va_callv (va_runI (As := [.int ax, .int ay, .int aw, .int ah]) (rest := [.ref q_13, .int k, .ref h0]) ⟨hx, hb, hml, hown, hts⟩ (k_X2_init l D H.size q_13 ax ay aw ah) (cwI 4 hts (gI bw_57) rfl rfl rfl (hts _ bw_55) (hts _ bw_317) (hts _ bw_58) rfl (by decide +kernel) ⟨(by rw [hR]; exact Nat.le_of_ble_eq_true rfl), (by rw [hR]; exact Nat.le_of_ble_eq_true rfl)⟩) ⟨cP_blind, cP_at hPc hKc hDc hN⟩ rfl rfl hl.1 rfl (lv_room (Nat.le_of_ble_eq_true rfl)) dX8_stretch_46 ⟨(by rw [hR]; exact Nat.le_of_ble_eq_true rfl), (by rw [hR]; exact Nat.le_of_ble_eq_true rfl)⟩) hS (fun q _ h => hFc q h) hFc (fun u9 t9 H1 locs ht hvm hr_14 hB hz1 hk1 hS => ?_)
          try dsimp only at hr_14
          obtain ⟨hP1, hK1, hD1⟩ := hB
          rw [ht] at hP1
          obtain ⟨hP, hD⟩ := va_join (wr := [(h0, .inr (8, [.ref s1, .ref s2, .ref s3, .ref s4, .ref s5, .ref s6, .int ds, va_rf sp, va_rf bt])), (s1, .inl (cO, 4, .inr (.inr (.inr (.inr f)))))]) (w1 := [(q_13, .inr (2, [.int ax, .int ay, .int aw, .int ah]))]) hP hD [2] [0, 1] rfl rfl (by decide) (by decide) hk1 hFc hP1 hD1
          clear hz1 hk1 hFc hKc hDc hPc
          generalize H1 = H at hP hS ⊢
          have hP : va_P D vwCl [(h0, .inr (8, [.ref s1, .ref s2, .ref s3, .ref s4, .ref s5, .ref s6, .int ds, va_rf sp, va_rf bt])), (s1, .inl (cO, 4, .inr (.inr (.inr (.inr f))))), (q_13, .inr (2, [.int ax, .int ay, .int aw, .int ah]))] H := hP
          have hD : va_D A [(h0, .inr (8, [.ref s1, .ref s2, .ref s3, .ref s4, .ref s5, .ref s6, .int ds, va_rf sp, va_rf bt])), (s1, .inl (cO, 4, .inr (.inr (.inr (.inr f))))), (q_13, .inr (2, [.int ax, .int ay, .int aw, .int ah]))] := hD
          refine lv_iload hx hb dX8_stretch_49 (lv_at hl 6 rfl) ?_
          refine va_new (ci := 2) (fs := [.int 0, .int 0, .int 0, .int 0]) (C := RX2) (T := TX2) (N := 4) hx hb hts hi_X2 tyX2 tyX2_ok hown (hts _ bw_316) (hts _ bw_56) (hts _ bw_55) hK hP hD hS hA rfl z_X2 (by rw [hR]; exact Nat.le_of_ble_eq_true rfl) (by rw [hR]; exact Nat.le_of_ble_eq_true rfl) dX8_stretch_51 (fun q_15 H hP hD hS => ?_)
          have hP : va_P D vwCl [(h0, .inr (8, [.ref s1, .ref s2, .ref s3, .ref s4, .ref s5, .ref s6, .int ds, va_rf sp, va_rf bt])), (s1, .inl (cO, 4, .inr (.inr (.inr (.inr f))))), (q_13, .inr (2, [.int ax, .int ay, .int aw, .int ah])), (q_15, .inr (2, [.int 0, .int 0, .int 0, .int 0]))] H := hP
          have hD : va_D A [(h0, .inr (8, [.ref s1, .ref s2, .ref s3, .ref s4, .ref s5, .ref s6, .int ds, va_rf sp, va_rf bt])), (s1, .inl (cO, 4, .inr (.inr (.inr (.inr f))))), (q_13, .inr (2, [.int ax, .int ay, .int aw, .int ah])), (q_15, .inr (2, [.int 0, .int 0, .int 0, .int 0]))] := hD
          refine W.widen (k := 2) (n := 8) (by omega) (by omega) ?_
          refine lv_dup hx hb dX8_stretch_54 rfl ?_
          refine lv_iload hx hb dX8_stretch_55 (lv_at hl 7 rfl) ?_
          refine lv_iload hx hb dX8_stretch_57 (lv_at hl 8 rfl) ?_
          refine lv_iload hx hb dX8_stretch_59 (lv_at hl 9 rfl) ?_
          refine lv_iload hx hb dX8_stretch_61 (lv_at hl 10 rfl) ?_
          have hPc := hP.sub (ws' := [(q_15, .inr (2, [.int 0, .int 0, .int 0, .int 0]))]) [3] rfl
          have hDc := hD.sub (ws' := [(q_15, .inr (2, [.int 0, .int 0, .int 0, .int 0]))]) [3] (by decide) rfl
          have hKc := hK.sub (tys' := []) [] rfl
          have hFc := va_free (wc := [(q_15, .inr (2, [.int 0, .int 0, .int 0, .int 0]))]) hD hS hA [3] rfl
          refine va_callv (va_runI (As := [.int ox, .int oy, .int ow, .int oh]) (rest := [.ref q_15, .int kq, .ref q_13, .int k, .ref h0]) ⟨hx, hb, hml, hown, hts⟩ (k_X2_init l D H.size q_15 ox oy ow oh) (cwI 4 hts (gI bw_57) rfl rfl rfl (hts _ bw_55) (hts _ bw_317) (hts _ bw_58) rfl (by decide +kernel) ⟨(by rw [hR]; exact Nat.le_of_ble_eq_true rfl), (by rw [hR]; exact Nat.le_of_ble_eq_true rfl)⟩) ⟨cP_blind, cP_at hPc hKc hDc hN⟩ rfl rfl hl.1 rfl (lv_room (Nat.le_of_ble_eq_true rfl)) dX8_stretch_63 ⟨(by rw [hR]; exact Nat.le_of_ble_eq_true rfl), (by rw [hR]; exact Nat.le_of_ble_eq_true rfl)⟩) hS (fun q _ h => hFc q h) hFc (fun u9 t9 H1 locs ht hvm hr_16 hB hz1 hk1 hS => ?_)
          try dsimp only at hr_16
          obtain ⟨hP1, hK1, hD1⟩ := hB
          rw [ht] at hP1
          obtain ⟨hP, hD⟩ := va_join (wr := [(h0, .inr (8, [.ref s1, .ref s2, .ref s3, .ref s4, .ref s5, .ref s6, .int ds, va_rf sp, va_rf bt])), (s1, .inl (cO, 4, .inr (.inr (.inr (.inr f))))), (q_13, .inr (2, [.int ax, .int ay, .int aw, .int ah]))]) (w1 := [(q_15, .inr (2, [.int ox, .int oy, .int ow, .int oh]))]) hP hD [3] [0, 1, 2] rfl rfl (by decide) (by decide) hk1 hFc hP1 hD1
          clear hz1 hk1 hFc hKc hDc hPc
          generalize H1 = H at hP hS ⊢
          have hP : va_P D vwCl [(h0, .inr (8, [.ref s1, .ref s2, .ref s3, .ref s4, .ref s5, .ref s6, .int ds, va_rf sp, va_rf bt])), (s1, .inl (cO, 4, .inr (.inr (.inr (.inr f))))), (q_13, .inr (2, [.int ax, .int ay, .int aw, .int ah])), (q_15, .inr (2, [.int ox, .int oy, .int ow, .int oh]))] H := hP
          have hD : va_D A [(h0, .inr (8, [.ref s1, .ref s2, .ref s3, .ref s4, .ref s5, .ref s6, .int ds, va_rf sp, va_rf bt])), (s1, .inl (cO, 4, .inr (.inr (.inr (.inr f))))), (q_13, .inr (2, [.int ax, .int ay, .int aw, .int ah])), (q_15, .inr (2, [.int ox, .int oy, .int ow, .int oh]))] := hD
          have hPc := hP.sub (ws' := [(h0, .inr (8, [.ref s1, .ref s2, .ref s3, .ref s4, .ref s5, .ref s6, .int ds, va_rf sp, va_rf bt])), (s1, .inl (cO, 4, .inr (.inr (.inr (.inr f))))), (q_13, .inr (2, [.int ax, .int ay, .int aw, .int ah])), (q_15, .inr (2, [.int ox, .int oy, .int ow, .int oh]))]) [0, 1, 2, 3] rfl
          have hDc := hD.sub (ws' := [(h0, .inr (8, [.ref s1, .ref s2, .ref s3, .ref s4, .ref s5, .ref s6, .int ds, va_rf sp, va_rf bt])), (s1, .inl (cO, 4, .inr (.inr (.inr (.inr f))))), (q_13, .inr (2, [.int ax, .int ay, .int aw, .int ah])), (q_15, .inr (2, [.int ox, .int oy, .int ow, .int oh]))]) [0, 1, 2, 3] (by decide) rfl
          have hKc := hK.sub (tys' := [(cO, .object "DotBench$Sheet")]) [0] rfl
          have hFc := va_free (wc := [(h0, .inr (8, [.ref s1, .ref s2, .ref s3, .ref s4, .ref s5, .ref s6, .int ds, va_rf sp, va_rf bt])), (s1, .inl (cO, 4, .inr (.inr (.inr (.inr f))))), (q_13, .inr (2, [.int ax, .int ay, .int aw, .int ah])), (q_15, .inr (2, [.int ox, .int oy, .int ow, .int oh]))]) hD hS hA [0, 1, 2, 3] rfl
          refine va_calli (va_runV (As := [.int k, .ref q_13, .int kq, .ref q_15]) (rest := []) ⟨hx, hb, hml, hown, hts⟩ (k_X8_carry_ny l D H.size h0 s1 s2 s3 s4 s5 s6 ds sp bt f t0 q_13 q_15 ax ay aw ah ox oy ow oh k kq cO (by first | assumption | omega | decide) (by first | assumption | omega | decide) (by first | assumption | omega | decide)) (cwV 4 hts (gV bw_318 bw_383 bw_384 bw_223 bw_382) rfl rfl rfl (by decide +kernel) ⟨(by rw [hR]; exact Nat.le_of_ble_eq_true rfl), (by rw [hR]; exact Nat.le_of_ble_eq_true rfl)⟩) ⟨cP_blind, va_recv hKc hPc (ci := 8) (q0 := 0) rfl rfl, cP_at hPc hKc hDc hN⟩ rfl rfl hl.1 rfl (lv_room (Nat.le_of_ble_eq_true rfl)) dX8_stretch_66 ⟨(by rw [hR]; exact Nat.le_of_ble_eq_true rfl), (by rw [hR]; exact Nat.le_of_ble_eq_true rfl)⟩) hS (fun q _ h => hFc q h) hFc (fun r_17 u9 t9 H1 locs ht hvm hr_17 hB hz1 hk1 hS => ?_)
          try dsimp only at hr_17
          obtain ⟨hP1, hK1, hD1⟩ := hB
          rw [ht] at hP1
          obtain ⟨hP, hD⟩ := va_join (wr := []) (w1 := [(h0, .inr (8, [.ref s1, .ref s2, .ref s3, .ref s4, .ref s5, .ref s6, .int ds, va_rf sp, va_rf bt])), (s1, .inl (cO, 4, .inr (.inr (.inr (.inr f)))))]) hP hD [0, 1, 2, 3] [] rfl rfl (by decide) (by decide) hk1 hFc hP1 hD1
          clear hz1 hk1 hFc hKc hDc hPc
          generalize H1 = H at hP hS ⊢
          have hP : va_P D vwCl [(h0, .inr (8, [.ref s1, .ref s2, .ref s3, .ref s4, .ref s5, .ref s6, .int ds, va_rf sp, va_rf bt])), (s1, .inl (cO, 4, .inr (.inr (.inr (.inr f)))))] H := hP
          have hD : va_D A [(h0, .inr (8, [.ref s1, .ref s2, .ref s3, .ref s4, .ref s5, .ref s6, .int ds, va_rf sp, va_rf bt])), (s1, .inl (cO, 4, .inr (.inr (.inr (.inr f)))))] := hD
          subst hr_17
          have hP9 := hP.sub (ws' := [(h0, .inr (8, [.ref s1, .ref s2, .ref s3, .ref s4, .ref s5, .ref s6, .int ds, va_rf sp, va_rf bt])), (s1, .inl (cO, 4, .inr (.inr (.inr (.inr f)))))]) [0, 1] rfl
          have hD9 := hD.sub (ws' := [(h0, .inr (8, [.ref s1, .ref s2, .ref s3, .ref s4, .ref s5, .ref s6, .int ds, va_rf sp, va_rf bt])), (s1, .inl (cO, 4, .inr (.inr (.inr (.inr f)))))]) [0, 1] (by decide) rfl
          have hK9 := hK.sub (tys' := [(cO, .object "DotBench$Sheet")]) [0] rfl
          refine hQ _ _ _ _ _ ?_
          exact W.iret (v := (-1)) hx hb hr (fun t ht hW => ⟨⟨(-1), (), rfl, rfl, ⟨by rw [ht]; exact hP9, va_K.moved hW.alike hK9, hD9⟩⟩, hS.F ht⟩) hS.2.2 dX8_stretch_69
        · skip
          have f_12 := bz0 hr_10 c_11
          exact False.elim (by omega)

set_option maxHeartbeats 4000000 in
set_option maxRecDepth 100000 in
theorem k_X8_stretch_yn (l : Launch) (D : va_G) (sz : Nat) (h0 s1 s2 s3 s4 s5 s6 : Nat) (ds : Int32) (sp bt : Option Nat) (f : Nat → Option Nat) (u0 : Nat) (k ax ay aw ah kq ox oy ow oh : Int32) (cO : ClassId) (hsz : (1 ≤ aw.toInt ∧ aw.toInt ≤ 64) ∧ (1 ≤ ah.toInt ∧ ah.toInt ≤ 64) ∧ (1 ≤ ow.toInt ∧ ow.toInt ≤ 64) ∧ (1 ≤ oh.toInt ∧ oh.toInt ≤ 64)) (hak : 0 ≤ k.toInt ∧ k.toInt ≤ 3) (haf : f k.toNatClampNeg = some u0) (hb0f : 0 ≤ kq.toInt ∧ kq.toInt ≤ 3 → f kq.toNatClampNeg = none) : Met l yX8_stretch (wB yX8_stretch cX8_stretch 11 (some .int)) ({ frames := 2, cells := 2, slots := 8, locals := 52 }) (cP D [(h0, .inr (8, [.ref s1, .ref s2, .ref s3, .ref s4, .ref s5, .ref s6, .int ds, va_rf sp, va_rf bt])), (s1, .inl (cO, 4, .inr (.inr (.inr (.inr f)))))] [(cO, .object "DotBench$Sheet")] sz [.ref h0, .int k, .int ax, .int ay, .int aw, .int ah, .int kq, .int ox, .int oy, .int ow, .int oh]) (va_Qi (fun (r : Int32) (_ : Unit) => r = -1) (fun (_ : Unit) (t : State) => cB D (va_A [(h0, .inr (8, [.ref s1, .ref s2, .ref s3, .ref s4, .ref s5, .ref s6, .int ds, va_rf sp, va_rf bt])), (s1, .inl (cO, 4, .inr (.inr (.inr (.inr f)))))] sz) [(h0, .inr (8, [.ref s1, .ref s2, .ref s3, .ref s4, .ref s5, .ref s6, .int ds, va_rf sp, va_rf bt])), (s1, .inl (cO, 4, .inr (.inr (.inr (.inr f)))))] [(cO, .object "DotBench$Sheet")] t) (va_A [(h0, .inr (8, [.ref s1, .ref s2, .ref s3, .ref s4, .ref s5, .ref s6, .int ds, va_rf sp, va_rf bt])), (s1, .inl (cO, 4, .inr (.inr (.inr (.inr f)))))] sz)) 2 8 (va_A [(h0, .inr (8, [.ref s1, .ref s2, .ref s3, .ref s4, .ref s5, .ref s6, .int ds, va_rf sp, va_rf bt])), (s1, .inl (cO, 4, .inr (.inr (.inr (.inr f)))))] sz) := by
  refine Met.ofW (cc := cX8_stretch) (maxL := 11) (ret := (some .int)) (by decide) rfl ?_
  intro p e s m args below meth c s₁ B hml hv
  obtain ⟨rfl, hsz, hP, hK, hD0, hN⟩ := hv
  have hx := B.exec
  have hb := B.bytes
  have hr := B.returns
  have hts0 := atoms_spec (ws := (wB yX8_stretch cX8_stretch 11 (some .int))) B.pre
  have hts : ∀ w ∈ bigW, w.before _ s = true := fun w h => hts0 w (List.mem_cons_of_mem _ h)
  have hown : s.vm.findClass RX8 = some m.cls := findClass_of_methodNamed B.named
  have hlocks := B.notSynchronized
  subst hsz
  have hD := hD0.self (sz := s.heap.size)
  generalize hAe : va_A [(h0, .inr (8, [.ref s1, .ref s2, .ref s3, .ref s4, .ref s5, .ref s6, .int ds, va_rf sp, va_rf bt])), (s1, .inl (cO, 4, .inr (.inr (.inr (.inr f)))))] s.heap.size = A at hD ⊢
  have hA : ∀ q : Nat, s.heap.size ≤ q → A q := fun q h => by rw [← hAe]; exact Or.inr h
  have hS : va_S A s.heap s.heap [] := va_S.rf
  have hP : va_P D vwCl [(h0, .inr (8, [.ref s1, .ref s2, .ref s3, .ref s4, .ref s5, .ref s6, .int ds, va_rf sp, va_rf bt])), (s1, .inl (cO, 4, .inr (.inr (.inr (.inr f)))))] s.heap := hP
  have hl := lv_entry ([.ref h0, .int k, .int ax, .int ay, .int aw, .int ah, .int kq, .int ox, .int oy, .int ow, .int oh]) (n := 11) (Nat.le_of_ble_eq_true rfl)
  rw [lg_entry_eq]
  generalize (lg_sl ([.ref h0, .int k, .int ax, .int ay, .int aw, .int ah, .int kq, .int ox, .int oy, .int ow, .int oh]) ++ List.replicate (11 - (lg_sl ([.ref h0, .int k, .int ax, .int ay, .int aw, .int ah, .int kq, .int ox, .int oy, .int ow, .int oh])).length) Slot.unset).toArray = ls at hl ⊢
  have hl : lv_has ls 11 [(0, .ref h0), (1, .int k), (2, .int ax), (3, .int ay), (4, .int aw), (5, .int ah), (6, .int kq), (7, .int ox), (8, .int oy), (9, .int ow), (10, .int oh)] := hl
  clear hts0 hD0 hAe
  refine my_abs (fun R Q hR hQ => ?_)
  refine lv_iload hx hb dX8_stretch_0 (lv_at hl 4 rfl) ?_
  have hPc := hP.sub (ws' := []) [] rfl
  have hDc := hD.sub (ws' := []) [] (by decide) rfl
  have hKc := hK.sub (tys' := []) [] rfl
  have hFc := va_free (wc := []) hD hS hA [] rfl
  refine va_calli (va_runS (As := [.int aw]) (rest := []) ⟨hx, hb, hml, hown, hts⟩ (k_X8_isSide l D s.heap.size aw) (va_cwS 1 hts (gS bw_247 bw_353 bw_223 bw_352) rfl rfl rfl (by decide +kernel) ⟨(by rw [hR]; exact Nat.le_of_ble_eq_true rfl), (by rw [hR]; exact Nat.le_of_ble_eq_true rfl)⟩) ⟨cP_blind, cP_at hPc hKc hDc hN⟩ rfl rfl hl.1 rfl (lv_room (Nat.le_of_ble_eq_true rfl)) dX8_stretch_2 ⟨(by rw [hR]; exact Nat.le_of_ble_eq_true rfl), (by rw [hR]; exact Nat.le_of_ble_eq_true rfl)⟩) hS (fun q _ h => hFc q h) hFc (fun r_1 u9 t9 H1 locs ht hvm hr_1 hB hz1 hk1 hS => ?_)
  try dsimp only at hr_1
  have hP1 : va_P D vwCl [] H1 := vP_nil
  have hD1 : va_D (va_A [] s.heap.size) [] := vD_nil
  obtain ⟨hP, hD⟩ := va_join (wr := [(h0, .inr (8, [.ref s1, .ref s2, .ref s3, .ref s4, .ref s5, .ref s6, .int ds, va_rf sp, va_rf bt])), (s1, .inl (cO, 4, .inr (.inr (.inr (.inr f)))))]) (w1 := []) hP hD [] [0, 1] rfl rfl (by decide) (by decide) hk1 hFc hP1 hD1
  clear hz1 hk1 hFc hKc hDc hPc
  generalize H1 = H at hP hS ⊢
  have hP : va_P D vwCl [(h0, .inr (8, [.ref s1, .ref s2, .ref s3, .ref s4, .ref s5, .ref s6, .int ds, va_rf sp, va_rf bt])), (s1, .inl (cO, 4, .inr (.inr (.inr (.inr f)))))] H := hP
  have hD : va_D A [(h0, .inr (8, [.ref s1, .ref s2, .ref s3, .ref s4, .ref s5, .ref s6, .int ds, va_rf sp, va_rf bt])), (s1, .inl (cO, 4, .inr (.inr (.inr (.inr f)))))] := hD
  refine lv_if_eq (tgt := 32) hx hb dX8_stretch_5 (by decide) (fun c_2 => ?_) (fun c_2 => ?_)
  · skip
    have f_3 := bz0 hr_1 c_2
    exact False.elim (by omega)
  · skip
    have f_3 := bz1 hr_1 c_2
    refine lv_iload hx hb dX8_stretch_8 (lv_at hl 5 rfl) ?_
    have hPc := hP.sub (ws' := []) [] rfl
    have hDc := hD.sub (ws' := []) [] (by decide) rfl
    have hKc := hK.sub (tys' := []) [] rfl
    have hFc := va_free (wc := []) hD hS hA [] rfl
    refine va_calli (va_runS (As := [.int ah]) (rest := []) ⟨hx, hb, hml, hown, hts⟩ (k_X8_isSide l D H.size ah) (va_cwS 1 hts (gS bw_247 bw_353 bw_223 bw_352) rfl rfl rfl (by decide +kernel) ⟨(by rw [hR]; exact Nat.le_of_ble_eq_true rfl), (by rw [hR]; exact Nat.le_of_ble_eq_true rfl)⟩) ⟨cP_blind, cP_at hPc hKc hDc hN⟩ rfl rfl hl.1 rfl (lv_room (Nat.le_of_ble_eq_true rfl)) dX8_stretch_10 ⟨(by rw [hR]; exact Nat.le_of_ble_eq_true rfl), (by rw [hR]; exact Nat.le_of_ble_eq_true rfl)⟩) hS (fun q _ h => hFc q h) hFc (fun r_4 u9 t9 H1 locs ht hvm hr_4 hB hz1 hk1 hS => ?_)
    try dsimp only at hr_4
    have hP1 : va_P D vwCl [] H1 := vP_nil
    have hD1 : va_D (va_A [] H.size) [] := vD_nil
    obtain ⟨hP, hD⟩ := va_join (wr := [(h0, .inr (8, [.ref s1, .ref s2, .ref s3, .ref s4, .ref s5, .ref s6, .int ds, va_rf sp, va_rf bt])), (s1, .inl (cO, 4, .inr (.inr (.inr (.inr f)))))]) (w1 := []) hP hD [] [0, 1] rfl rfl (by decide) (by decide) hk1 hFc hP1 hD1
    clear hz1 hk1 hFc hKc hDc hPc
    generalize H1 = H at hP hS ⊢
    have hP : va_P D vwCl [(h0, .inr (8, [.ref s1, .ref s2, .ref s3, .ref s4, .ref s5, .ref s6, .int ds, va_rf sp, va_rf bt])), (s1, .inl (cO, 4, .inr (.inr (.inr (.inr f)))))] H := hP
    have hD : va_D A [(h0, .inr (8, [.ref s1, .ref s2, .ref s3, .ref s4, .ref s5, .ref s6, .int ds, va_rf sp, va_rf bt])), (s1, .inl (cO, 4, .inr (.inr (.inr (.inr f)))))] := hD
    refine lv_if_eq (tgt := 32) hx hb dX8_stretch_13 (by decide) (fun c_5 => ?_) (fun c_5 => ?_)
    · skip
      have f_6 := bz0 hr_4 c_5
      exact False.elim (by omega)
    · skip
      have f_6 := bz1 hr_4 c_5
      refine lv_iload hx hb dX8_stretch_16 (lv_at hl 9 rfl) ?_
      have hPc := hP.sub (ws' := []) [] rfl
      have hDc := hD.sub (ws' := []) [] (by decide) rfl
      have hKc := hK.sub (tys' := []) [] rfl
      have hFc := va_free (wc := []) hD hS hA [] rfl
      refine va_calli (va_runS (As := [.int ow]) (rest := []) ⟨hx, hb, hml, hown, hts⟩ (k_X8_isSide l D H.size ow) (va_cwS 1 hts (gS bw_247 bw_353 bw_223 bw_352) rfl rfl rfl (by decide +kernel) ⟨(by rw [hR]; exact Nat.le_of_ble_eq_true rfl), (by rw [hR]; exact Nat.le_of_ble_eq_true rfl)⟩) ⟨cP_blind, cP_at hPc hKc hDc hN⟩ rfl rfl hl.1 rfl (lv_room (Nat.le_of_ble_eq_true rfl)) dX8_stretch_18 ⟨(by rw [hR]; exact Nat.le_of_ble_eq_true rfl), (by rw [hR]; exact Nat.le_of_ble_eq_true rfl)⟩) hS (fun q _ h => hFc q h) hFc (fun r_7 u9 t9 H1 locs ht hvm hr_7 hB hz1 hk1 hS => ?_)
      try dsimp only at hr_7
      have hP1 : va_P D vwCl [] H1 := vP_nil
      have hD1 : va_D (va_A [] H.size) [] := vD_nil
      obtain ⟨hP, hD⟩ := va_join (wr := [(h0, .inr (8, [.ref s1, .ref s2, .ref s3, .ref s4, .ref s5, .ref s6, .int ds, va_rf sp, va_rf bt])), (s1, .inl (cO, 4, .inr (.inr (.inr (.inr f)))))]) (w1 := []) hP hD [] [0, 1] rfl rfl (by decide) (by decide) hk1 hFc hP1 hD1
      clear hz1 hk1 hFc hKc hDc hPc
      generalize H1 = H at hP hS ⊢
      have hP : va_P D vwCl [(h0, .inr (8, [.ref s1, .ref s2, .ref s3, .ref s4, .ref s5, .ref s6, .int ds, va_rf sp, va_rf bt])), (s1, .inl (cO, 4, .inr (.inr (.inr (.inr f)))))] H := hP
      have hD : va_D A [(h0, .inr (8, [.ref s1, .ref s2, .ref s3, .ref s4, .ref s5, .ref s6, .int ds, va_rf sp, va_rf bt])), (s1, .inl (cO, 4, .inr (.inr (.inr (.inr f)))))] := hD
      refine lv_if_eq (tgt := 32) hx hb dX8_stretch_21 (by decide) (fun c_8 => ?_) (fun c_8 => ?_)
      · skip
        have f_9 := bz0 hr_7 c_8
        exact False.elim (by omega)
      · skip
        have f_9 := bz1 hr_7 c_8
        refine lv_iload hx hb dX8_stretch_24 (lv_at hl 10 rfl) ?_
        have hPc := hP.sub (ws' := []) [] rfl
        have hDc := hD.sub (ws' := []) [] (by decide) rfl
        have hKc := hK.sub (tys' := []) [] rfl
        have hFc := va_free (wc := []) hD hS hA [] rfl
        refine va_calli (va_runS (As := [.int oh]) (rest := []) ⟨hx, hb, hml, hown, hts⟩ (k_X8_isSide l D H.size oh) (va_cwS 1 hts (gS bw_247 bw_353 bw_223 bw_352) rfl rfl rfl (by decide +kernel) ⟨(by rw [hR]; exact Nat.le_of_ble_eq_true rfl), (by rw [hR]; exact Nat.le_of_ble_eq_true rfl)⟩) ⟨cP_blind, cP_at hPc hKc hDc hN⟩ rfl rfl hl.1 rfl (lv_room (Nat.le_of_ble_eq_true rfl)) dX8_stretch_26 ⟨(by rw [hR]; exact Nat.le_of_ble_eq_true rfl), (by rw [hR]; exact Nat.le_of_ble_eq_true rfl)⟩) hS (fun q _ h => hFc q h) hFc (fun r_10 u9 t9 H1 locs ht hvm hr_10 hB hz1 hk1 hS => ?_)
        try dsimp only at hr_10
        have hP1 : va_P D vwCl [] H1 := vP_nil
        have hD1 : va_D (va_A [] H.size) [] := vD_nil
        obtain ⟨hP, hD⟩ := va_join (wr := [(h0, .inr (8, [.ref s1, .ref s2, .ref s3, .ref s4, .ref s5, .ref s6, .int ds, va_rf sp, va_rf bt])), (s1, .inl (cO, 4, .inr (.inr (.inr (.inr f)))))]) (w1 := []) hP hD [] [0, 1] rfl rfl (by decide) (by decide) hk1 hFc hP1 hD1
        clear hz1 hk1 hFc hKc hDc hPc
        generalize H1 = H at hP hS ⊢
        have hP : va_P D vwCl [(h0, .inr (8, [.ref s1, .ref s2, .ref s3, .ref s4, .ref s5, .ref s6, .int ds, va_rf sp, va_rf bt])), (s1, .inl (cO, 4, .inr (.inr (.inr (.inr f)))))] H := hP
        have hD : va_D A [(h0, .inr (8, [.ref s1, .ref s2, .ref s3, .ref s4, .ref s5, .ref s6, .int ds, va_rf sp, va_rf bt])), (s1, .inl (cO, 4, .inr (.inr (.inr (.inr f)))))] := hD
        refine lv_if_ne (tgt := 34) hx hb dX8_stretch_29 (by decide) (fun c_11 => ?_) (fun c_11 => ?_)
        · skip
          have f_12 := bz1 hr_10 c_11
          refine lv_aload_n hx hb dX8_stretch_34 rfl (lv_at hl 0 rfl) ?_
          refine lv_iload_n hx hb dX8_stretch_35 rfl (lv_at hl 1 rfl) ?_
          refine va_new (ci := 2) (fs := [.int 0, .int 0, .int 0, .int 0]) (C := RX2) (T := TX2) (N := 4) hx hb hts hi_X2 tyX2 tyX2_ok hown (hts _ bw_316) (hts _ bw_56) (hts _ bw_55) hK hP hD hS hA rfl z_X2 (by rw [hR]; exact Nat.le_of_ble_eq_true rfl) (by rw [hR]; exact Nat.le_of_ble_eq_true rfl) dX8_stretch_36 (fun q_13 H hP hD hS => ?_)
          have hP : va_P D vwCl [(h0, .inr (8, [.ref s1, .ref s2, .ref s3, .ref s4, .ref s5, .ref s6, .int ds, va_rf sp, va_rf bt])), (s1, .inl (cO, 4, .inr (.inr (.inr (.inr f))))), (q_13, .inr (2, [.int 0, .int 0, .int 0, .int 0]))] H := hP
          have hD : va_D A [(h0, .inr (8, [.ref s1, .ref s2, .ref s3, .ref s4, .ref s5, .ref s6, .int ds, va_rf sp, va_rf bt])), (s1, .inl (cO, 4, .inr (.inr (.inr (.inr f))))), (q_13, .inr (2, [.int 0, .int 0, .int 0, .int 0]))] := hD
          refine W.widen (k := 1) (n := 4) (by omega) (by omega) ?_
          refine lv_dup hx hb dX8_stretch_39 rfl ?_
          refine lv_iload_n hx hb dX8_stretch_40 rfl (lv_at hl 2 rfl) ?_
          refine lv_iload_n hx hb dX8_stretch_41 rfl (lv_at hl 3 rfl) ?_
          refine lv_iload hx hb dX8_stretch_42 (lv_at hl 4 rfl) ?_
          refine lv_iload hx hb dX8_stretch_44 (lv_at hl 5 rfl) ?_
          have hPc := hP.sub (ws' := [(q_13, .inr (2, [.int 0, .int 0, .int 0, .int 0]))]) [2] rfl
          have hDc := hD.sub (ws' := [(q_13, .inr (2, [.int 0, .int 0, .int 0, .int 0]))]) [2] (by decide) rfl
          have hKc := hK.sub (tys' := []) [] rfl
          have hFc := va_free (wc := [(q_13, .inr (2, [.int 0, .int 0, .int 0, .int 0]))]) hD hS hA [2] rfl
          refine va_callv (va_runI (As := [.int ax, .int ay, .int aw, .int ah]) (rest := [.ref q_13, .int k, .ref h0]) ⟨hx, hb, hml, hown, hts⟩ (k_X2_init l D H.size q_13 ax ay aw ah) (cwI 4 hts (gI bw_57) rfl rfl rfl (hts _ bw_55) (hts _ bw_317) (hts _ bw_58) rfl (by decide +kernel) ⟨(by rw [hR]; exact Nat.le_of_ble_eq_true rfl), (by rw [hR]; exact Nat.le_of_ble_eq_true rfl)⟩) ⟨cP_blind, cP_at hPc hKc hDc hN⟩ rfl rfl hl.1 rfl (lv_room (Nat.le_of_ble_eq_true rfl)) dX8_stretch_46 ⟨(by rw [hR]; exact Nat.le_of_ble_eq_true rfl), (by rw [hR]; exact Nat.le_of_ble_eq_true rfl)⟩) hS (fun q _ h => hFc q h) hFc (fun u9 t9 H1 locs ht hvm hr_14 hB hz1 hk1 hS => ?_)
          try dsimp only at hr_14
          obtain ⟨hP1, hK1, hD1⟩ := hB
          rw [ht] at hP1
          obtain ⟨hP, hD⟩ := va_join (wr := [(h0, .inr (8, [.ref s1, .ref s2, .ref s3, .ref s4, .ref s5, .ref s6, .int ds, va_rf sp, va_rf bt])), (s1, .inl (cO, 4, .inr (.inr (.inr (.inr f)))))]) (w1 := [(q_13, .inr (2, [.int ax, .int ay, .int aw, .int ah]))]) hP hD [2] [0, 1] rfl rfl (by decide) (by decide) hk1 hFc hP1 hD1
          clear hz1 hk1 hFc hKc hDc hPc
          generalize H1 = H at hP hS ⊢
          have hP : va_P D vwCl [(h0, .inr (8, [.ref s1, .ref s2, .ref s3, .ref s4, .ref s5, .ref s6, .int ds, va_rf sp, va_rf bt])), (s1, .inl (cO, 4, .inr (.inr (.inr (.inr f))))), (q_13, .inr (2, [.int ax, .int ay, .int aw, .int ah]))] H := hP
          have hD : va_D A [(h0, .inr (8, [.ref s1, .ref s2, .ref s3, .ref s4, .ref s5, .ref s6, .int ds, va_rf sp, va_rf bt])), (s1, .inl (cO, 4, .inr (.inr (.inr (.inr f))))), (q_13, .inr (2, [.int ax, .int ay, .int aw, .int ah]))] := hD
          refine lv_iload hx hb dX8_stretch_49 (lv_at hl 6 rfl) ?_
          refine va_new (ci := 2) (fs := [.int 0, .int 0, .int 0, .int 0]) (C := RX2) (T := TX2) (N := 4) hx hb hts hi_X2 tyX2 tyX2_ok hown (hts _ bw_316) (hts _ bw_56) (hts _ bw_55) hK hP hD hS hA rfl z_X2 (by rw [hR]; exact Nat.le_of_ble_eq_true rfl) (by rw [hR]; exact Nat.le_of_ble_eq_true rfl) dX8_stretch_51 (fun q_15 H hP hD hS => ?_)
          have hP : va_P D vwCl [(h0, .inr (8, [.ref s1, .ref s2, .ref s3, .ref s4, .ref s5, .ref s6, .int ds, va_rf sp, va_rf bt])), (s1, .inl (cO, 4, .inr (.inr (.inr (.inr f))))), (q_13, .inr (2, [.int ax, .int ay, .int aw, .int ah])), (q_15, .inr (2, [.int 0, .int 0, .int 0, .int 0]))] H := hP
          have hD : va_D A [(h0, .inr (8, [.ref s1, .ref s2, .ref s3, .ref s4, .ref s5, .ref s6, .int ds, va_rf sp, va_rf bt])), (s1, .inl (cO, 4, .inr (.inr (.inr (.inr f))))), (q_13, .inr (2, [.int ax, .int ay, .int aw, .int ah])), (q_15, .inr (2, [.int 0, .int 0, .int 0, .int 0]))] := hD
          refine W.widen (k := 2) (n := 8) (by omega) (by omega) ?_
          refine lv_dup hx hb dX8_stretch_54 rfl ?_
          refine lv_iload hx hb dX8_stretch_55 (lv_at hl 7 rfl) ?_
          refine lv_iload hx hb dX8_stretch_57 (lv_at hl 8 rfl) ?_
          refine lv_iload hx hb dX8_stretch_59 (lv_at hl 9 rfl) ?_
          refine lv_iload hx hb dX8_stretch_61 (lv_at hl 10 rfl) ?_
          have hPc := hP.sub (ws' := [(q_15, .inr (2, [.int 0, .int 0, .int 0, .int 0]))]) [3] rfl
          have hDc := hD.sub (ws' := [(q_15, .inr (2, [.int 0, .int 0, .int 0, .int 0]))]) [3] (by decide) rfl
          have hKc := hK.sub (tys' := []) [] rfl
          have hFc := va_free (wc := [(q_15, .inr (2, [.int 0, .int 0, .int 0, .int 0]))]) hD hS hA [3] rfl
          refine va_callv (va_runI (As := [.int ox, .int oy, .int ow, .int oh]) (rest := [.ref q_15, .int kq, .ref q_13, .int k, .ref h0]) ⟨hx, hb, hml, hown, hts⟩ (k_X2_init l D H.size q_15 ox oy ow oh) (cwI 4 hts (gI bw_57) rfl rfl rfl (hts _ bw_55) (hts _ bw_317) (hts _ bw_58) rfl (by decide +kernel) ⟨(by rw [hR]; exact Nat.le_of_ble_eq_true rfl), (by rw [hR]; exact Nat.le_of_ble_eq_true rfl)⟩) ⟨cP_blind, cP_at hPc hKc hDc hN⟩ rfl rfl hl.1 rfl (lv_room (Nat.le_of_ble_eq_true rfl)) dX8_stretch_63 ⟨(by rw [hR]; exact Nat.le_of_ble_eq_true rfl), (by rw [hR]; exact Nat.le_of_ble_eq_true rfl)⟩) hS (fun q _ h => hFc q h) hFc (fun u9 t9 H1 locs ht hvm hr_16 hB hz1 hk1 hS => ?_)
          try dsimp only at hr_16
          obtain ⟨hP1, hK1, hD1⟩ := hB
          rw [ht] at hP1
          obtain ⟨hP, hD⟩ := va_join (wr := [(h0, .inr (8, [.ref s1, .ref s2, .ref s3, .ref s4, .ref s5, .ref s6, .int ds, va_rf sp, va_rf bt])), (s1, .inl (cO, 4, .inr (.inr (.inr (.inr f))))), (q_13, .inr (2, [.int ax, .int ay, .int aw, .int ah]))]) (w1 := [(q_15, .inr (2, [.int ox, .int oy, .int ow, .int oh]))]) hP hD [3] [0, 1, 2] rfl rfl (by decide) (by decide) hk1 hFc hP1 hD1
          clear hz1 hk1 hFc hKc hDc hPc
          generalize H1 = H at hP hS ⊢
          have hP : va_P D vwCl [(h0, .inr (8, [.ref s1, .ref s2, .ref s3, .ref s4, .ref s5, .ref s6, .int ds, va_rf sp, va_rf bt])), (s1, .inl (cO, 4, .inr (.inr (.inr (.inr f))))), (q_13, .inr (2, [.int ax, .int ay, .int aw, .int ah])), (q_15, .inr (2, [.int ox, .int oy, .int ow, .int oh]))] H := hP
          have hD : va_D A [(h0, .inr (8, [.ref s1, .ref s2, .ref s3, .ref s4, .ref s5, .ref s6, .int ds, va_rf sp, va_rf bt])), (s1, .inl (cO, 4, .inr (.inr (.inr (.inr f))))), (q_13, .inr (2, [.int ax, .int ay, .int aw, .int ah])), (q_15, .inr (2, [.int ox, .int oy, .int ow, .int oh]))] := hD
          have hPc := hP.sub (ws' := [(h0, .inr (8, [.ref s1, .ref s2, .ref s3, .ref s4, .ref s5, .ref s6, .int ds, va_rf sp, va_rf bt])), (s1, .inl (cO, 4, .inr (.inr (.inr (.inr f))))), (q_13, .inr (2, [.int ax, .int ay, .int aw, .int ah])), (q_15, .inr (2, [.int ox, .int oy, .int ow, .int oh]))]) [0, 1, 2, 3] rfl
          have hDc := hD.sub (ws' := [(h0, .inr (8, [.ref s1, .ref s2, .ref s3, .ref s4, .ref s5, .ref s6, .int ds, va_rf sp, va_rf bt])), (s1, .inl (cO, 4, .inr (.inr (.inr (.inr f))))), (q_13, .inr (2, [.int ax, .int ay, .int aw, .int ah])), (q_15, .inr (2, [.int ox, .int oy, .int ow, .int oh]))]) [0, 1, 2, 3] (by decide) rfl
          have hKc := hK.sub (tys' := [(cO, .object "DotBench$Sheet")]) [0] rfl
          have hFc := va_free (wc := [(h0, .inr (8, [.ref s1, .ref s2, .ref s3, .ref s4, .ref s5, .ref s6, .int ds, va_rf sp, va_rf bt])), (s1, .inl (cO, 4, .inr (.inr (.inr (.inr f))))), (q_13, .inr (2, [.int ax, .int ay, .int aw, .int ah])), (q_15, .inr (2, [.int ox, .int oy, .int ow, .int oh]))]) hD hS hA [0, 1, 2, 3] rfl
          refine va_calli (va_runV (As := [.int k, .ref q_13, .int kq, .ref q_15]) (rest := []) ⟨hx, hb, hml, hown, hts⟩ (k_X8_carry_yn l D H.size h0 s1 s2 s3 s4 s5 s6 ds sp bt f u0 q_13 q_15 ax ay aw ah ox oy ow oh k kq cO (by first | assumption | omega | decide) (by first | assumption | omega | decide) (by first | assumption | omega | decide)) (cwV 4 hts (gV bw_318 bw_383 bw_384 bw_223 bw_382) rfl rfl rfl (by decide +kernel) ⟨(by rw [hR]; exact Nat.le_of_ble_eq_true rfl), (by rw [hR]; exact Nat.le_of_ble_eq_true rfl)⟩) ⟨cP_blind, va_recv hKc hPc (ci := 8) (q0 := 0) rfl rfl, cP_at hPc hKc hDc hN⟩ rfl rfl hl.1 rfl (lv_room (Nat.le_of_ble_eq_true rfl)) dX8_stretch_66 ⟨(by rw [hR]; exact Nat.le_of_ble_eq_true rfl), (by rw [hR]; exact Nat.le_of_ble_eq_true rfl)⟩) hS (fun q _ h => hFc q h) hFc (fun r_17 u9 t9 H1 locs ht hvm hr_17 hB hz1 hk1 hS => ?_)
          try dsimp only at hr_17
          obtain ⟨hP1, hK1, hD1⟩ := hB
          rw [ht] at hP1
          obtain ⟨hP, hD⟩ := va_join (wr := []) (w1 := [(h0, .inr (8, [.ref s1, .ref s2, .ref s3, .ref s4, .ref s5, .ref s6, .int ds, va_rf sp, va_rf bt])), (s1, .inl (cO, 4, .inr (.inr (.inr (.inr f)))))]) hP hD [0, 1, 2, 3] [] rfl rfl (by decide) (by decide) hk1 hFc hP1 hD1
          clear hz1 hk1 hFc hKc hDc hPc
          generalize H1 = H at hP hS ⊢
          have hP : va_P D vwCl [(h0, .inr (8, [.ref s1, .ref s2, .ref s3, .ref s4, .ref s5, .ref s6, .int ds, va_rf sp, va_rf bt])), (s1, .inl (cO, 4, .inr (.inr (.inr (.inr f)))))] H := hP
          have hD : va_D A [(h0, .inr (8, [.ref s1, .ref s2, .ref s3, .ref s4, .ref s5, .ref s6, .int ds, va_rf sp, va_rf bt])), (s1, .inl (cO, 4, .inr (.inr (.inr (.inr f)))))] := hD
          subst hr_17
          have hP9 := hP.sub (ws' := [(h0, .inr (8, [.ref s1, .ref s2, .ref s3, .ref s4, .ref s5, .ref s6, .int ds, va_rf sp, va_rf bt])), (s1, .inl (cO, 4, .inr (.inr (.inr (.inr f)))))]) [0, 1] rfl
          have hD9 := hD.sub (ws' := [(h0, .inr (8, [.ref s1, .ref s2, .ref s3, .ref s4, .ref s5, .ref s6, .int ds, va_rf sp, va_rf bt])), (s1, .inl (cO, 4, .inr (.inr (.inr (.inr f)))))]) [0, 1] (by decide) rfl
          have hK9 := hK.sub (tys' := [(cO, .object "DotBench$Sheet")]) [0] rfl
          refine hQ _ _ _ _ _ ?_
          exact W.iret (v := (-1)) hx hb hr (fun t ht hW => ⟨⟨(-1), (), rfl, rfl, ⟨by rw [ht]; exact hP9, va_K.moved hW.alike hK9, hD9⟩⟩, hS.F ht⟩) hS.2.2 dX8_stretch_69
        · skip
          have f_12 := bz0 hr_10 c_11
          exact False.elim (by omega)

set_option maxHeartbeats 4000000 in
set_option maxRecDepth 100000 in
theorem k_X8_stretch_x (l : Launch) (D : va_G) (sz : Nat) (h0 s1 s2 s3 s4 s5 s6 : Nat) (ds : Int32) (sp bt : Option Nat) (f : Nat → Option Nat) (u0 t0 : Nat) (k ax ay aw ah kq ox oy ow oh : Int32) (cO : ClassId) (hsz : (1 ≤ aw.toInt ∧ aw.toInt ≤ 64) ∧ (1 ≤ ah.toInt ∧ ah.toInt ≤ 64) ∧ (1 ≤ ow.toInt ∧ ow.toInt ≤ 64) ∧ (1 ≤ oh.toInt ∧ oh.toInt ≤ 64)) (hak : 0 ≤ k.toInt ∧ k.toInt ≤ 3) (haf : f k.toNatClampNeg = some u0) (hb0k : 0 ≤ kq.toInt ∧ kq.toInt ≤ 3) (hb0f : f kq.toNatClampNeg = some t0) (hnr : ¬ ((-200 ≤ ax.toInt ∧ ax.toInt ≤ 200) ∧ (-200 ≤ ay.toInt ∧ ay.toInt ≤ 200) ∧ (-200 ≤ ox.toInt ∧ ox.toInt ≤ 200) ∧ (-200 ≤ oy.toInt ∧ oy.toInt ≤ 200))) : Met l yX8_stretch (wB yX8_stretch cX8_stretch 11 (some .int)) ({ frames := 4, cells := 2, slots := 8, locals := 94 }) (cP D [(h0, .inr (8, [.ref s1, .ref s2, .ref s3, .ref s4, .ref s5, .ref s6, .int ds, va_rf sp, va_rf bt])), (s1, .inl (cO, 4, .inr (.inr (.inr (.inr f)))))] [(cO, .object "DotBench$Sheet")] sz [.ref h0, .int k, .int ax, .int ay, .int aw, .int ah, .int kq, .int ox, .int oy, .int ow, .int oh]) (va_Qi (fun (r : Int32) (_ : Unit) => r = -1) (fun (_ : Unit) (t : State) => cB D (va_A [(h0, .inr (8, [.ref s1, .ref s2, .ref s3, .ref s4, .ref s5, .ref s6, .int ds, va_rf sp, va_rf bt])), (s1, .inl (cO, 4, .inr (.inr (.inr (.inr f)))))] sz) [(h0, .inr (8, [.ref s1, .ref s2, .ref s3, .ref s4, .ref s5, .ref s6, .int ds, va_rf sp, va_rf bt])), (s1, .inl (cO, 4, .inr (.inr (.inr (.inr f)))))] [(cO, .object "DotBench$Sheet")] t) (va_A [(h0, .inr (8, [.ref s1, .ref s2, .ref s3, .ref s4, .ref s5, .ref s6, .int ds, va_rf sp, va_rf bt])), (s1, .inl (cO, 4, .inr (.inr (.inr (.inr f)))))] sz)) 2 8 (va_A [(h0, .inr (8, [.ref s1, .ref s2, .ref s3, .ref s4, .ref s5, .ref s6, .int ds, va_rf sp, va_rf bt])), (s1, .inl (cO, 4, .inr (.inr (.inr (.inr f)))))] sz) := by
  refine Met.ofW (cc := cX8_stretch) (maxL := 11) (ret := (some .int)) (by decide) rfl ?_
  intro p e s m args below meth c s₁ B hml hv
  obtain ⟨rfl, hsz, hP, hK, hD0, hN⟩ := hv
  have hx := B.exec
  have hb := B.bytes
  have hr := B.returns
  have hts0 := atoms_spec (ws := (wB yX8_stretch cX8_stretch 11 (some .int))) B.pre
  have hts : ∀ w ∈ bigW, w.before _ s = true := fun w h => hts0 w (List.mem_cons_of_mem _ h)
  have hown : s.vm.findClass RX8 = some m.cls := findClass_of_methodNamed B.named
  have hlocks := B.notSynchronized
  subst hsz
  have hD := hD0.self (sz := s.heap.size)
  generalize hAe : va_A [(h0, .inr (8, [.ref s1, .ref s2, .ref s3, .ref s4, .ref s5, .ref s6, .int ds, va_rf sp, va_rf bt])), (s1, .inl (cO, 4, .inr (.inr (.inr (.inr f)))))] s.heap.size = A at hD ⊢
  have hA : ∀ q : Nat, s.heap.size ≤ q → A q := fun q h => by rw [← hAe]; exact Or.inr h
  have hS : va_S A s.heap s.heap [] := va_S.rf
  have hP : va_P D vwCl [(h0, .inr (8, [.ref s1, .ref s2, .ref s3, .ref s4, .ref s5, .ref s6, .int ds, va_rf sp, va_rf bt])), (s1, .inl (cO, 4, .inr (.inr (.inr (.inr f)))))] s.heap := hP
  have hl := lv_entry ([.ref h0, .int k, .int ax, .int ay, .int aw, .int ah, .int kq, .int ox, .int oy, .int ow, .int oh]) (n := 11) (Nat.le_of_ble_eq_true rfl)
  rw [lg_entry_eq]
  generalize (lg_sl ([.ref h0, .int k, .int ax, .int ay, .int aw, .int ah, .int kq, .int ox, .int oy, .int ow, .int oh]) ++ List.replicate (11 - (lg_sl ([.ref h0, .int k, .int ax, .int ay, .int aw, .int ah, .int kq, .int ox, .int oy, .int ow, .int oh])).length) Slot.unset).toArray = ls at hl ⊢
  have hl : lv_has ls 11 [(0, .ref h0), (1, .int k), (2, .int ax), (3, .int ay), (4, .int aw), (5, .int ah), (6, .int kq), (7, .int ox), (8, .int oy), (9, .int ow), (10, .int oh)] := hl
  clear hts0 hD0 hAe
  refine my_abs (fun R Q hR hQ => ?_)
  refine lv_iload hx hb dX8_stretch_0 (lv_at hl 4 rfl) ?_
  have hPc := hP.sub (ws' := []) [] rfl
  have hDc := hD.sub (ws' := []) [] (by decide) rfl
  have hKc := hK.sub (tys' := []) [] rfl
  have hFc := va_free (wc := []) hD hS hA [] rfl
  refine va_calli (va_runS (As := [.int aw]) (rest := []) ⟨hx, hb, hml, hown, hts⟩ (k_X8_isSide l D s.heap.size aw) (va_cwS 1 hts (gS bw_247 bw_353 bw_223 bw_352) rfl rfl rfl (by decide +kernel) ⟨(by rw [hR]; exact Nat.le_of_ble_eq_true rfl), (by rw [hR]; exact Nat.le_of_ble_eq_true rfl)⟩) ⟨cP_blind, cP_at hPc hKc hDc hN⟩ rfl rfl hl.1 rfl (lv_room (Nat.le_of_ble_eq_true rfl)) dX8_stretch_2 ⟨(by rw [hR]; exact Nat.le_of_ble_eq_true rfl), (by rw [hR]; exact Nat.le_of_ble_eq_true rfl)⟩) hS (fun q _ h => hFc q h) hFc (fun r_1 u9 t9 H1 locs ht hvm hr_1 hB hz1 hk1 hS => ?_)
  try dsimp only at hr_1
  have hP1 : va_P D vwCl [] H1 := vP_nil
  have hD1 : va_D (va_A [] s.heap.size) [] := vD_nil
  obtain ⟨hP, hD⟩ := va_join (wr := [(h0, .inr (8, [.ref s1, .ref s2, .ref s3, .ref s4, .ref s5, .ref s6, .int ds, va_rf sp, va_rf bt])), (s1, .inl (cO, 4, .inr (.inr (.inr (.inr f)))))]) (w1 := []) hP hD [] [0, 1] rfl rfl (by decide) (by decide) hk1 hFc hP1 hD1
  clear hz1 hk1 hFc hKc hDc hPc
  generalize H1 = H at hP hS ⊢
  have hP : va_P D vwCl [(h0, .inr (8, [.ref s1, .ref s2, .ref s3, .ref s4, .ref s5, .ref s6, .int ds, va_rf sp, va_rf bt])), (s1, .inl (cO, 4, .inr (.inr (.inr (.inr f)))))] H := hP
  have hD : va_D A [(h0, .inr (8, [.ref s1, .ref s2, .ref s3, .ref s4, .ref s5, .ref s6, .int ds, va_rf sp, va_rf bt])), (s1, .inl (cO, 4, .inr (.inr (.inr (.inr f)))))] := hD
  refine lv_if_eq (tgt := 32) hx hb dX8_stretch_5 (by decide) (fun c_2 => ?_) (fun c_2 => ?_)
  · skip
    have f_3 := bz0 hr_1 c_2
    exact False.elim (by omega)
  · skip
    have f_3 := bz1 hr_1 c_2
    refine lv_iload hx hb dX8_stretch_8 (lv_at hl 5 rfl) ?_
    have hPc := hP.sub (ws' := []) [] rfl
    have hDc := hD.sub (ws' := []) [] (by decide) rfl
    have hKc := hK.sub (tys' := []) [] rfl
    have hFc := va_free (wc := []) hD hS hA [] rfl
    refine va_calli (va_runS (As := [.int ah]) (rest := []) ⟨hx, hb, hml, hown, hts⟩ (k_X8_isSide l D H.size ah) (va_cwS 1 hts (gS bw_247 bw_353 bw_223 bw_352) rfl rfl rfl (by decide +kernel) ⟨(by rw [hR]; exact Nat.le_of_ble_eq_true rfl), (by rw [hR]; exact Nat.le_of_ble_eq_true rfl)⟩) ⟨cP_blind, cP_at hPc hKc hDc hN⟩ rfl rfl hl.1 rfl (lv_room (Nat.le_of_ble_eq_true rfl)) dX8_stretch_10 ⟨(by rw [hR]; exact Nat.le_of_ble_eq_true rfl), (by rw [hR]; exact Nat.le_of_ble_eq_true rfl)⟩) hS (fun q _ h => hFc q h) hFc (fun r_4 u9 t9 H1 locs ht hvm hr_4 hB hz1 hk1 hS => ?_)
    try dsimp only at hr_4
    have hP1 : va_P D vwCl [] H1 := vP_nil
    have hD1 : va_D (va_A [] H.size) [] := vD_nil
    obtain ⟨hP, hD⟩ := va_join (wr := [(h0, .inr (8, [.ref s1, .ref s2, .ref s3, .ref s4, .ref s5, .ref s6, .int ds, va_rf sp, va_rf bt])), (s1, .inl (cO, 4, .inr (.inr (.inr (.inr f)))))]) (w1 := []) hP hD [] [0, 1] rfl rfl (by decide) (by decide) hk1 hFc hP1 hD1
    clear hz1 hk1 hFc hKc hDc hPc
    generalize H1 = H at hP hS ⊢
    have hP : va_P D vwCl [(h0, .inr (8, [.ref s1, .ref s2, .ref s3, .ref s4, .ref s5, .ref s6, .int ds, va_rf sp, va_rf bt])), (s1, .inl (cO, 4, .inr (.inr (.inr (.inr f)))))] H := hP
    have hD : va_D A [(h0, .inr (8, [.ref s1, .ref s2, .ref s3, .ref s4, .ref s5, .ref s6, .int ds, va_rf sp, va_rf bt])), (s1, .inl (cO, 4, .inr (.inr (.inr (.inr f)))))] := hD
    refine lv_if_eq (tgt := 32) hx hb dX8_stretch_13 (by decide) (fun c_5 => ?_) (fun c_5 => ?_)
    · skip
      have f_6 := bz0 hr_4 c_5
      exact False.elim (by omega)
    · skip
      have f_6 := bz1 hr_4 c_5
      refine lv_iload hx hb dX8_stretch_16 (lv_at hl 9 rfl) ?_
      have hPc := hP.sub (ws' := []) [] rfl
      have hDc := hD.sub (ws' := []) [] (by decide) rfl
      have hKc := hK.sub (tys' := []) [] rfl
      have hFc := va_free (wc := []) hD hS hA [] rfl
      refine va_calli (va_runS (As := [.int ow]) (rest := []) ⟨hx, hb, hml, hown, hts⟩ (k_X8_isSide l D H.size ow) (va_cwS 1 hts (gS bw_247 bw_353 bw_223 bw_352) rfl rfl rfl (by decide +kernel) ⟨(by rw [hR]; exact Nat.le_of_ble_eq_true rfl), (by rw [hR]; exact Nat.le_of_ble_eq_true rfl)⟩) ⟨cP_blind, cP_at hPc hKc hDc hN⟩ rfl rfl hl.1 rfl (lv_room (Nat.le_of_ble_eq_true rfl)) dX8_stretch_18 ⟨(by rw [hR]; exact Nat.le_of_ble_eq_true rfl), (by rw [hR]; exact Nat.le_of_ble_eq_true rfl)⟩) hS (fun q _ h => hFc q h) hFc (fun r_7 u9 t9 H1 locs ht hvm hr_7 hB hz1 hk1 hS => ?_)
      try dsimp only at hr_7
      have hP1 : va_P D vwCl [] H1 := vP_nil
      have hD1 : va_D (va_A [] H.size) [] := vD_nil
      obtain ⟨hP, hD⟩ := va_join (wr := [(h0, .inr (8, [.ref s1, .ref s2, .ref s3, .ref s4, .ref s5, .ref s6, .int ds, va_rf sp, va_rf bt])), (s1, .inl (cO, 4, .inr (.inr (.inr (.inr f)))))]) (w1 := []) hP hD [] [0, 1] rfl rfl (by decide) (by decide) hk1 hFc hP1 hD1
      clear hz1 hk1 hFc hKc hDc hPc
      generalize H1 = H at hP hS ⊢
      have hP : va_P D vwCl [(h0, .inr (8, [.ref s1, .ref s2, .ref s3, .ref s4, .ref s5, .ref s6, .int ds, va_rf sp, va_rf bt])), (s1, .inl (cO, 4, .inr (.inr (.inr (.inr f)))))] H := hP
      have hD : va_D A [(h0, .inr (8, [.ref s1, .ref s2, .ref s3, .ref s4, .ref s5, .ref s6, .int ds, va_rf sp, va_rf bt])), (s1, .inl (cO, 4, .inr (.inr (.inr (.inr f)))))] := hD
      refine lv_if_eq (tgt := 32) hx hb dX8_stretch_21 (by decide) (fun c_8 => ?_) (fun c_8 => ?_)
      · skip
        have f_9 := bz0 hr_7 c_8
        exact False.elim (by omega)
      · skip
        have f_9 := bz1 hr_7 c_8
        refine lv_iload hx hb dX8_stretch_24 (lv_at hl 10 rfl) ?_
        have hPc := hP.sub (ws' := []) [] rfl
        have hDc := hD.sub (ws' := []) [] (by decide) rfl
        have hKc := hK.sub (tys' := []) [] rfl
        have hFc := va_free (wc := []) hD hS hA [] rfl
        refine va_calli (va_runS (As := [.int oh]) (rest := []) ⟨hx, hb, hml, hown, hts⟩ (k_X8_isSide l D H.size oh) (va_cwS 1 hts (gS bw_247 bw_353 bw_223 bw_352) rfl rfl rfl (by decide +kernel) ⟨(by rw [hR]; exact Nat.le_of_ble_eq_true rfl), (by rw [hR]; exact Nat.le_of_ble_eq_true rfl)⟩) ⟨cP_blind, cP_at hPc hKc hDc hN⟩ rfl rfl hl.1 rfl (lv_room (Nat.le_of_ble_eq_true rfl)) dX8_stretch_26 ⟨(by rw [hR]; exact Nat.le_of_ble_eq_true rfl), (by rw [hR]; exact Nat.le_of_ble_eq_true rfl)⟩) hS (fun q _ h => hFc q h) hFc (fun r_10 u9 t9 H1 locs ht hvm hr_10 hB hz1 hk1 hS => ?_)
        try dsimp only at hr_10
        have hP1 : va_P D vwCl [] H1 := vP_nil
        have hD1 : va_D (va_A [] H.size) [] := vD_nil
        obtain ⟨hP, hD⟩ := va_join (wr := [(h0, .inr (8, [.ref s1, .ref s2, .ref s3, .ref s4, .ref s5, .ref s6, .int ds, va_rf sp, va_rf bt])), (s1, .inl (cO, 4, .inr (.inr (.inr (.inr f)))))]) (w1 := []) hP hD [] [0, 1] rfl rfl (by decide) (by decide) hk1 hFc hP1 hD1
        clear hz1 hk1 hFc hKc hDc hPc
        generalize H1 = H at hP hS ⊢
        have hP : va_P D vwCl [(h0, .inr (8, [.ref s1, .ref s2, .ref s3, .ref s4, .ref s5, .ref s6, .int ds, va_rf sp, va_rf bt])), (s1, .inl (cO, 4, .inr (.inr (.inr (.inr f)))))] H := hP
        have hD : va_D A [(h0, .inr (8, [.ref s1, .ref s2, .ref s3, .ref s4, .ref s5, .ref s6, .int ds, va_rf sp, va_rf bt])), (s1, .inl (cO, 4, .inr (.inr (.inr (.inr f)))))] := hD
        refine lv_if_ne (tgt := 34) hx hb dX8_stretch_29 (by decide) (fun c_11 => ?_) (fun c_11 => ?_)
        · skip
          have f_12 := bz1 hr_10 c_11
          refine lv_aload_n hx hb dX8_stretch_34 rfl (lv_at hl 0 rfl) ?_
          refine lv_iload_n hx hb dX8_stretch_35 rfl (lv_at hl 1 rfl) ?_
          refine va_new (ci := 2) (fs := [.int 0, .int 0, .int 0, .int 0]) (C := RX2) (T := TX2) (N := 4) hx hb hts hi_X2 tyX2 tyX2_ok hown (hts _ bw_316) (hts _ bw_56) (hts _ bw_55) hK hP hD hS hA rfl z_X2 (by rw [hR]; exact Nat.le_of_ble_eq_true rfl) (by rw [hR]; exact Nat.le_of_ble_eq_true rfl) dX8_stretch_36 (fun q_13 H hP hD hS => ?_)
          have hP : va_P D vwCl [(h0, .inr (8, [.ref s1, .ref s2, .ref s3, .ref s4, .ref s5, .ref s6, .int ds, va_rf sp, va_rf bt])), (s1, .inl (cO, 4, .inr (.inr (.inr (.inr f))))), (q_13, .inr (2, [.int 0, .int 0, .int 0, .int 0]))] H := hP
          have hD : va_D A [(h0, .inr (8, [.ref s1, .ref s2, .ref s3, .ref s4, .ref s5, .ref s6, .int ds, va_rf sp, va_rf bt])), (s1, .inl (cO, 4, .inr (.inr (.inr (.inr f))))), (q_13, .inr (2, [.int 0, .int 0, .int 0, .int 0]))] := hD
          refine W.widen (k := 1) (n := 4) (by omega) (by omega) ?_
          refine lv_dup hx hb dX8_stretch_39 rfl ?_
          refine lv_iload_n hx hb dX8_stretch_40 rfl (lv_at hl 2 rfl) ?_
          refine lv_iload_n hx hb dX8_stretch_41 rfl (lv_at hl 3 rfl) ?_
          refine lv_iload hx hb dX8_stretch_42 (lv_at hl 4 rfl) ?_
          refine lv_iload hx hb dX8_stretch_44 (lv_at hl 5 rfl) ?_
          have hPc := hP.sub (ws' := [(q_13, .inr (2, [.int 0, .int 0, .int 0, .int 0]))]) [2] rfl
          have hDc := hD.sub (ws' := [(q_13, .inr (2, [.int 0, .int 0, .int 0, .int 0]))]) [2] (by decide) rfl
          have hKc := hK.sub (tys' := []) [] rfl
          have hFc := va_free (wc := [(q_13, .inr (2, [.int 0, .int 0, .int 0, .int 0]))]) hD hS hA [2] rfl
          refine va_callv (va_runI (As := [.int ax, .int ay, .int aw, .int ah]) (rest := [.ref q_13, .int k, .ref h0]) ⟨hx, hb, hml, hown, hts⟩ (k_X2_init l D H.size q_13 ax ay aw ah) (cwI 4 hts (gI bw_57) rfl rfl rfl (hts _ bw_55) (hts _ bw_317) (hts _ bw_58) rfl (by decide +kernel) ⟨(by rw [hR]; exact Nat.le_of_ble_eq_true rfl), (by rw [hR]; exact Nat.le_of_ble_eq_true rfl)⟩) ⟨cP_blind, cP_at hPc hKc hDc hN⟩ rfl rfl hl.1 rfl (lv_room (Nat.le_of_ble_eq_true rfl)) dX8_stretch_46 ⟨(by rw [hR]; exact Nat.le_of_ble_eq_true rfl), (by rw [hR]; exact Nat.le_of_ble_eq_true rfl)⟩) hS (fun q _ h => hFc q h) hFc (fun u9 t9 H1 locs ht hvm hr_14 hB hz1 hk1 hS => ?_)
          try dsimp only at hr_14
          obtain ⟨hP1, hK1, hD1⟩ := hB
          rw [ht] at hP1
          obtain ⟨hP, hD⟩ := va_join (wr := [(h0, .inr (8, [.ref s1, .ref s2, .ref s3, .ref s4, .ref s5, .ref s6, .int ds, va_rf sp, va_rf bt])), (s1, .inl (cO, 4, .inr (.inr (.inr (.inr f)))))]) (w1 := [(q_13, .inr (2, [.int ax, .int ay, .int aw, .int ah]))]) hP hD [2] [0, 1] rfl rfl (by decide) (by decide) hk1 hFc hP1 hD1
          clear hz1 hk1 hFc hKc hDc hPc
          generalize H1 = H at hP hS ⊢
          have hP : va_P D vwCl [(h0, .inr (8, [.ref s1, .ref s2, .ref s3, .ref s4, .ref s5, .ref s6, .int ds, va_rf sp, va_rf bt])), (s1, .inl (cO, 4, .inr (.inr (.inr (.inr f))))), (q_13, .inr (2, [.int ax, .int ay, .int aw, .int ah]))] H := hP
          have hD : va_D A [(h0, .inr (8, [.ref s1, .ref s2, .ref s3, .ref s4, .ref s5, .ref s6, .int ds, va_rf sp, va_rf bt])), (s1, .inl (cO, 4, .inr (.inr (.inr (.inr f))))), (q_13, .inr (2, [.int ax, .int ay, .int aw, .int ah]))] := hD
          refine lv_iload hx hb dX8_stretch_49 (lv_at hl 6 rfl) ?_
          refine va_new (ci := 2) (fs := [.int 0, .int 0, .int 0, .int 0]) (C := RX2) (T := TX2) (N := 4) hx hb hts hi_X2 tyX2 tyX2_ok hown (hts _ bw_316) (hts _ bw_56) (hts _ bw_55) hK hP hD hS hA rfl z_X2 (by rw [hR]; exact Nat.le_of_ble_eq_true rfl) (by rw [hR]; exact Nat.le_of_ble_eq_true rfl) dX8_stretch_51 (fun q_15 H hP hD hS => ?_)
          have hP : va_P D vwCl [(h0, .inr (8, [.ref s1, .ref s2, .ref s3, .ref s4, .ref s5, .ref s6, .int ds, va_rf sp, va_rf bt])), (s1, .inl (cO, 4, .inr (.inr (.inr (.inr f))))), (q_13, .inr (2, [.int ax, .int ay, .int aw, .int ah])), (q_15, .inr (2, [.int 0, .int 0, .int 0, .int 0]))] H := hP
          have hD : va_D A [(h0, .inr (8, [.ref s1, .ref s2, .ref s3, .ref s4, .ref s5, .ref s6, .int ds, va_rf sp, va_rf bt])), (s1, .inl (cO, 4, .inr (.inr (.inr (.inr f))))), (q_13, .inr (2, [.int ax, .int ay, .int aw, .int ah])), (q_15, .inr (2, [.int 0, .int 0, .int 0, .int 0]))] := hD
          refine W.widen (k := 2) (n := 8) (by omega) (by omega) ?_
          refine lv_dup hx hb dX8_stretch_54 rfl ?_
          refine lv_iload hx hb dX8_stretch_55 (lv_at hl 7 rfl) ?_
          refine lv_iload hx hb dX8_stretch_57 (lv_at hl 8 rfl) ?_
          refine lv_iload hx hb dX8_stretch_59 (lv_at hl 9 rfl) ?_
          refine lv_iload hx hb dX8_stretch_61 (lv_at hl 10 rfl) ?_
          have hPc := hP.sub (ws' := [(q_15, .inr (2, [.int 0, .int 0, .int 0, .int 0]))]) [3] rfl
          have hDc := hD.sub (ws' := [(q_15, .inr (2, [.int 0, .int 0, .int 0, .int 0]))]) [3] (by decide) rfl
          have hKc := hK.sub (tys' := []) [] rfl
          have hFc := va_free (wc := [(q_15, .inr (2, [.int 0, .int 0, .int 0, .int 0]))]) hD hS hA [3] rfl
          refine va_callv (va_runI (As := [.int ox, .int oy, .int ow, .int oh]) (rest := [.ref q_15, .int kq, .ref q_13, .int k, .ref h0]) ⟨hx, hb, hml, hown, hts⟩ (k_X2_init l D H.size q_15 ox oy ow oh) (cwI 4 hts (gI bw_57) rfl rfl rfl (hts _ bw_55) (hts _ bw_317) (hts _ bw_58) rfl (by decide +kernel) ⟨(by rw [hR]; exact Nat.le_of_ble_eq_true rfl), (by rw [hR]; exact Nat.le_of_ble_eq_true rfl)⟩) ⟨cP_blind, cP_at hPc hKc hDc hN⟩ rfl rfl hl.1 rfl (lv_room (Nat.le_of_ble_eq_true rfl)) dX8_stretch_63 ⟨(by rw [hR]; exact Nat.le_of_ble_eq_true rfl), (by rw [hR]; exact Nat.le_of_ble_eq_true rfl)⟩) hS (fun q _ h => hFc q h) hFc (fun u9 t9 H1 locs ht hvm hr_16 hB hz1 hk1 hS => ?_)
          try dsimp only at hr_16
          obtain ⟨hP1, hK1, hD1⟩ := hB
          rw [ht] at hP1
          obtain ⟨hP, hD⟩ := va_join (wr := [(h0, .inr (8, [.ref s1, .ref s2, .ref s3, .ref s4, .ref s5, .ref s6, .int ds, va_rf sp, va_rf bt])), (s1, .inl (cO, 4, .inr (.inr (.inr (.inr f))))), (q_13, .inr (2, [.int ax, .int ay, .int aw, .int ah]))]) (w1 := [(q_15, .inr (2, [.int ox, .int oy, .int ow, .int oh]))]) hP hD [3] [0, 1, 2] rfl rfl (by decide) (by decide) hk1 hFc hP1 hD1
          clear hz1 hk1 hFc hKc hDc hPc
          generalize H1 = H at hP hS ⊢
          have hP : va_P D vwCl [(h0, .inr (8, [.ref s1, .ref s2, .ref s3, .ref s4, .ref s5, .ref s6, .int ds, va_rf sp, va_rf bt])), (s1, .inl (cO, 4, .inr (.inr (.inr (.inr f))))), (q_13, .inr (2, [.int ax, .int ay, .int aw, .int ah])), (q_15, .inr (2, [.int ox, .int oy, .int ow, .int oh]))] H := hP
          have hD : va_D A [(h0, .inr (8, [.ref s1, .ref s2, .ref s3, .ref s4, .ref s5, .ref s6, .int ds, va_rf sp, va_rf bt])), (s1, .inl (cO, 4, .inr (.inr (.inr (.inr f))))), (q_13, .inr (2, [.int ax, .int ay, .int aw, .int ah])), (q_15, .inr (2, [.int ox, .int oy, .int ow, .int oh]))] := hD
          have hPc := hP.sub (ws' := [(h0, .inr (8, [.ref s1, .ref s2, .ref s3, .ref s4, .ref s5, .ref s6, .int ds, va_rf sp, va_rf bt])), (s1, .inl (cO, 4, .inr (.inr (.inr (.inr f))))), (q_13, .inr (2, [.int ax, .int ay, .int aw, .int ah])), (q_15, .inr (2, [.int ox, .int oy, .int ow, .int oh]))]) [0, 1, 2, 3] rfl
          have hDc := hD.sub (ws' := [(h0, .inr (8, [.ref s1, .ref s2, .ref s3, .ref s4, .ref s5, .ref s6, .int ds, va_rf sp, va_rf bt])), (s1, .inl (cO, 4, .inr (.inr (.inr (.inr f))))), (q_13, .inr (2, [.int ax, .int ay, .int aw, .int ah])), (q_15, .inr (2, [.int ox, .int oy, .int ow, .int oh]))]) [0, 1, 2, 3] (by decide) rfl
          have hKc := hK.sub (tys' := [(cO, .object "DotBench$Sheet")]) [0] rfl
          have hFc := va_free (wc := [(h0, .inr (8, [.ref s1, .ref s2, .ref s3, .ref s4, .ref s5, .ref s6, .int ds, va_rf sp, va_rf bt])), (s1, .inl (cO, 4, .inr (.inr (.inr (.inr f))))), (q_13, .inr (2, [.int ax, .int ay, .int aw, .int ah])), (q_15, .inr (2, [.int ox, .int oy, .int ow, .int oh]))]) hD hS hA [0, 1, 2, 3] rfl
          refine va_calli (va_runV (As := [.int k, .ref q_13, .int kq, .ref q_15]) (rest := []) ⟨hx, hb, hml, hown, hts⟩ (k_X8_carry_x l D H.size h0 s1 s2 s3 s4 s5 s6 ds sp bt f u0 t0 q_13 q_15 ax ay aw ah ox oy ow oh k kq cO (by first | assumption | omega | decide) (by first | assumption | omega | decide) (by first | assumption | omega | decide) (by first | assumption | omega | decide) (by first | assumption | omega | decide)) (cwV 4 hts (gV bw_318 bw_383 bw_384 bw_223 bw_382) rfl rfl rfl (by decide +kernel) ⟨(by rw [hR]; exact Nat.le_of_ble_eq_true rfl), (by rw [hR]; exact Nat.le_of_ble_eq_true rfl)⟩) ⟨cP_blind, va_recv hKc hPc (ci := 8) (q0 := 0) rfl rfl, cP_at hPc hKc hDc hN⟩ rfl rfl hl.1 rfl (lv_room (Nat.le_of_ble_eq_true rfl)) dX8_stretch_66 ⟨(by rw [hR]; exact Nat.le_of_ble_eq_true rfl), (by rw [hR]; exact Nat.le_of_ble_eq_true rfl)⟩) hS (fun q _ h => hFc q h) hFc (fun r_17 u9 t9 H1 locs ht hvm hr_17 hB hz1 hk1 hS => ?_)
          try dsimp only at hr_17
          obtain ⟨hP1, hK1, hD1⟩ := hB
          rw [ht] at hP1
          obtain ⟨hP, hD⟩ := va_join (wr := []) (w1 := [(h0, .inr (8, [.ref s1, .ref s2, .ref s3, .ref s4, .ref s5, .ref s6, .int ds, va_rf sp, va_rf bt])), (s1, .inl (cO, 4, .inr (.inr (.inr (.inr f)))))]) hP hD [0, 1, 2, 3] [] rfl rfl (by decide) (by decide) hk1 hFc hP1 hD1
          clear hz1 hk1 hFc hKc hDc hPc
          generalize H1 = H at hP hS ⊢
          have hP : va_P D vwCl [(h0, .inr (8, [.ref s1, .ref s2, .ref s3, .ref s4, .ref s5, .ref s6, .int ds, va_rf sp, va_rf bt])), (s1, .inl (cO, 4, .inr (.inr (.inr (.inr f)))))] H := hP
          have hD : va_D A [(h0, .inr (8, [.ref s1, .ref s2, .ref s3, .ref s4, .ref s5, .ref s6, .int ds, va_rf sp, va_rf bt])), (s1, .inl (cO, 4, .inr (.inr (.inr (.inr f)))))] := hD
          subst hr_17
          have hP9 := hP.sub (ws' := [(h0, .inr (8, [.ref s1, .ref s2, .ref s3, .ref s4, .ref s5, .ref s6, .int ds, va_rf sp, va_rf bt])), (s1, .inl (cO, 4, .inr (.inr (.inr (.inr f)))))]) [0, 1] rfl
          have hD9 := hD.sub (ws' := [(h0, .inr (8, [.ref s1, .ref s2, .ref s3, .ref s4, .ref s5, .ref s6, .int ds, va_rf sp, va_rf bt])), (s1, .inl (cO, 4, .inr (.inr (.inr (.inr f)))))]) [0, 1] (by decide) rfl
          have hK9 := hK.sub (tys' := [(cO, .object "DotBench$Sheet")]) [0] rfl
          refine hQ _ _ _ _ _ ?_
          exact W.iret (v := (-1)) hx hb hr (fun t ht hW => ⟨⟨(-1), (), rfl, rfl, ⟨by rw [ht]; exact hP9, va_K.moved hW.alike hK9, hD9⟩⟩, hS.F ht⟩) hS.2.2 dX8_stretch_69
        · skip
          have f_12 := bz0 hr_10 c_11
          exact False.elim (by omega)

set_option maxHeartbeats 4000000 in
set_option maxRecDepth 100000 in
theorem k_X8_stretch_d (l : Launch) (D : va_G) (sz : Nat) (h0 s1 s2 s3 s4 s5 s6 : Nat) (ds : Int32) (sp bt : Option Nat) (f : Nat → Option Nat) (bx t0 d0 : Nat) (ik wy op : Int32) (bx0 by0 bx1 by1 : Int32) (w h : Int32) (g : Nat → Int32) (u0 e0 : Nat) (w2 h2 : Int32) (gs : Nat → Int32) (k ax ay aw ah kq ox oy ow oh : Int32) (cO : ClassId) (cI : ClassId) (hsz : (1 ≤ aw.toInt ∧ aw.toInt ≤ 64) ∧ (1 ≤ ah.toInt ∧ ah.toInt ≤ 64) ∧ (1 ≤ ow.toInt ∧ ow.toInt ≤ 64) ∧ (1 ≤ oh.toInt ∧ oh.toInt ≤ 64)) (hak : 0 ≤ k.toInt ∧ k.toInt ≤ 3) (haf : f k.toNatClampNeg = some u0) (hb0k : 0 ≤ kq.toInt ∧ kq.toInt ≤ 3) (hb0f : f kq.toNatClampNeg = some t0) (hne : ¬ k.toInt = kq.toInt) (hnr : (-200 ≤ ax.toInt ∧ ax.toInt ≤ 200) ∧ (-200 ≤ ay.toInt ∧ ay.toInt ≤ 200) ∧ (-200 ≤ ox.toInt ∧ ox.toInt ≤ 200) ∧ (-200 ≤ oy.toInt ∧ oy.toInt ≤ 200)) (hwy : 0 ≤ wy.toInt ∧ wy.toInt ≤ 12) (hw : w.toInt ≤ 64) (hh : h.toInt ≤ 64) (hw2 : w2.toInt ≤ 64) (hh2 : h2.toInt ≤ 64) : Met l yX8_stretch (wB yX8_stretch cX8_stretch 11 (some .int)) ({ frames := 4, cells := 2, slots := 8, locals := 106 }) (cP D [(h0, .inr (8, [.ref s1, .ref s2, .ref s3, .ref s4, .ref s5, .ref s6, .int ds, va_rf sp, va_rf bt])), (s1, .inl (cO, 4, .inr (.inr (.inr (.inr f))))), (s2, .inr (1, [.ref bx, .int ik, .int wy, .int op])), (bx, .inr (0, [.int bx0, .int by0, .int bx1, .int by1])), (t0, .inr (5, [.ref d0, .int w, .int h])), (d0, .inl (cI, 4096, .inl g)), (u0, .inr (5, [.ref e0, .int w2, .int h2])), (e0, .inl (cI, 4096, .inl gs))] [(cO, .object "DotBench$Sheet"), (cI, .int)] sz [.ref h0, .int k, .int ax, .int ay, .int aw, .int ah, .int kq, .int ox, .int oy, .int ow, .int oh]) (va_Qi (fun (r : Int32) (_ : Unit) => True) (fun (_ : Unit) (t : State) => ∃ (g2 : Nat → Int32), cB D (va_A [(h0, .inr (8, [.ref s1, .ref s2, .ref s3, .ref s4, .ref s5, .ref s6, .int ds, va_rf sp, va_rf bt])), (s1, .inl (cO, 4, .inr (.inr (.inr (.inr f))))), (s2, .inr (1, [.ref bx, .int ik, .int wy, .int op])), (bx, .inr (0, [.int bx0, .int by0, .int bx1, .int by1])), (t0, .inr (5, [.ref d0, .int w, .int h])), (d0, .inl (cI, 4096, .inl g)), (u0, .inr (5, [.ref e0, .int w2, .int h2])), (e0, .inl (cI, 4096, .inl gs))] sz) [(h0, .inr (8, [.ref s1, .ref s2, .ref s3, .ref s4, .ref s5, .ref s6, .int ds, va_rf sp, va_rf bt])), (s1, .inl (cO, 4, .inr (.inr (.inr (.inr f))))), (s2, .inr (1, [.ref bx, .int ik, .int wy, .int op])), (bx, .inr (0, [.int bx0, .int by0, .int bx1, .int by1])), (t0, .inr (5, [.ref d0, .int w, .int h])), (d0, .inl (cI, 4096, .inl g2)), (u0, .inr (5, [.ref e0, .int w2, .int h2])), (e0, .inl (cI, 4096, .inl gs))] [(cO, .object "DotBench$Sheet"), (cI, .int)] t) (va_A [(h0, .inr (8, [.ref s1, .ref s2, .ref s3, .ref s4, .ref s5, .ref s6, .int ds, va_rf sp, va_rf bt])), (s1, .inl (cO, 4, .inr (.inr (.inr (.inr f))))), (s2, .inr (1, [.ref bx, .int ik, .int wy, .int op])), (bx, .inr (0, [.int bx0, .int by0, .int bx1, .int by1])), (t0, .inr (5, [.ref d0, .int w, .int h])), (d0, .inl (cI, 4096, .inl g)), (u0, .inr (5, [.ref e0, .int w2, .int h2])), (e0, .inl (cI, 4096, .inl gs))] sz)) 2 8 (va_A [(h0, .inr (8, [.ref s1, .ref s2, .ref s3, .ref s4, .ref s5, .ref s6, .int ds, va_rf sp, va_rf bt])), (s1, .inl (cO, 4, .inr (.inr (.inr (.inr f))))), (s2, .inr (1, [.ref bx, .int ik, .int wy, .int op])), (bx, .inr (0, [.int bx0, .int by0, .int bx1, .int by1])), (t0, .inr (5, [.ref d0, .int w, .int h])), (d0, .inl (cI, 4096, .inl g)), (u0, .inr (5, [.ref e0, .int w2, .int h2])), (e0, .inl (cI, 4096, .inl gs))] sz) := by
  refine Met.ofW (cc := cX8_stretch) (maxL := 11) (ret := (some .int)) (by decide) rfl ?_
  intro p e s m args below meth c s₁ B hml hv
  obtain ⟨rfl, hsz, hP, hK, hD0, hN⟩ := hv
  have hx := B.exec
  have hb := B.bytes
  have hr := B.returns
  have hts0 := atoms_spec (ws := (wB yX8_stretch cX8_stretch 11 (some .int))) B.pre
  have hts : ∀ w ∈ bigW, w.before _ s = true := fun w h => hts0 w (List.mem_cons_of_mem _ h)
  have hown : s.vm.findClass RX8 = some m.cls := findClass_of_methodNamed B.named
  have hlocks := B.notSynchronized
  subst hsz
  have hD := hD0.self (sz := s.heap.size)
  generalize hAe : va_A [(h0, .inr (8, [.ref s1, .ref s2, .ref s3, .ref s4, .ref s5, .ref s6, .int ds, va_rf sp, va_rf bt])), (s1, .inl (cO, 4, .inr (.inr (.inr (.inr f))))), (s2, .inr (1, [.ref bx, .int ik, .int wy, .int op])), (bx, .inr (0, [.int bx0, .int by0, .int bx1, .int by1])), (t0, .inr (5, [.ref d0, .int w, .int h])), (d0, .inl (cI, 4096, .inl g)), (u0, .inr (5, [.ref e0, .int w2, .int h2])), (e0, .inl (cI, 4096, .inl gs))] s.heap.size = A at hD ⊢
  have hA : ∀ q : Nat, s.heap.size ≤ q → A q := fun q h => by rw [← hAe]; exact Or.inr h
  have hS : va_S A s.heap s.heap [] := va_S.rf
  have hP : va_P D vwCl [(h0, .inr (8, [.ref s1, .ref s2, .ref s3, .ref s4, .ref s5, .ref s6, .int ds, va_rf sp, va_rf bt])), (s1, .inl (cO, 4, .inr (.inr (.inr (.inr f))))), (s2, .inr (1, [.ref bx, .int ik, .int wy, .int op])), (bx, .inr (0, [.int bx0, .int by0, .int bx1, .int by1])), (t0, .inr (5, [.ref d0, .int w, .int h])), (d0, .inl (cI, 4096, .inl g)), (u0, .inr (5, [.ref e0, .int w2, .int h2])), (e0, .inl (cI, 4096, .inl gs))] s.heap := hP
  have hl := lv_entry ([.ref h0, .int k, .int ax, .int ay, .int aw, .int ah, .int kq, .int ox, .int oy, .int ow, .int oh]) (n := 11) (Nat.le_of_ble_eq_true rfl)
  rw [lg_entry_eq]
  generalize (lg_sl ([.ref h0, .int k, .int ax, .int ay, .int aw, .int ah, .int kq, .int ox, .int oy, .int ow, .int oh]) ++ List.replicate (11 - (lg_sl ([.ref h0, .int k, .int ax, .int ay, .int aw, .int ah, .int kq, .int ox, .int oy, .int ow, .int oh])).length) Slot.unset).toArray = ls at hl ⊢
  have hl : lv_has ls 11 [(0, .ref h0), (1, .int k), (2, .int ax), (3, .int ay), (4, .int aw), (5, .int ah), (6, .int kq), (7, .int ox), (8, .int oy), (9, .int ow), (10, .int oh)] := hl
  clear hts0 hD0 hAe
  refine my_abs (fun R Q hR hQ => ?_)
  refine lv_iload hx hb dX8_stretch_0 (lv_at hl 4 rfl) ?_
  have hPc := hP.sub (ws' := []) [] rfl
  have hDc := hD.sub (ws' := []) [] (by decide) rfl
  have hKc := hK.sub (tys' := []) [] rfl
  have hFc := va_free (wc := []) hD hS hA [] rfl
  refine va_calli (va_runS (As := [.int aw]) (rest := []) ⟨hx, hb, hml, hown, hts⟩ (k_X8_isSide l D s.heap.size aw) (va_cwS 1 hts (gS bw_247 bw_353 bw_223 bw_352) rfl rfl rfl (by decide +kernel) ⟨(by rw [hR]; exact Nat.le_of_ble_eq_true rfl), (by rw [hR]; exact Nat.le_of_ble_eq_true rfl)⟩) ⟨cP_blind, cP_at hPc hKc hDc hN⟩ rfl rfl hl.1 rfl (lv_room (Nat.le_of_ble_eq_true rfl)) dX8_stretch_2 ⟨(by rw [hR]; exact Nat.le_of_ble_eq_true rfl), (by rw [hR]; exact Nat.le_of_ble_eq_true rfl)⟩) hS (fun q _ h => hFc q h) hFc (fun r_1 u9 t9 H1 locs ht hvm hr_1 hB hz1 hk1 hS => ?_)
  try dsimp only at hr_1
  have hP1 : va_P D vwCl [] H1 := vP_nil
  have hD1 : va_D (va_A [] s.heap.size) [] := vD_nil
  obtain ⟨hP, hD⟩ := va_join (wr := [(h0, .inr (8, [.ref s1, .ref s2, .ref s3, .ref s4, .ref s5, .ref s6, .int ds, va_rf sp, va_rf bt])), (s1, .inl (cO, 4, .inr (.inr (.inr (.inr f))))), (s2, .inr (1, [.ref bx, .int ik, .int wy, .int op])), (bx, .inr (0, [.int bx0, .int by0, .int bx1, .int by1])), (t0, .inr (5, [.ref d0, .int w, .int h])), (d0, .inl (cI, 4096, .inl g)), (u0, .inr (5, [.ref e0, .int w2, .int h2])), (e0, .inl (cI, 4096, .inl gs))]) (w1 := []) hP hD [] [0, 1, 2, 3, 4, 5, 6, 7] rfl rfl (by decide) (by decide) hk1 hFc hP1 hD1
  clear hz1 hk1 hFc hKc hDc hPc
  generalize H1 = H at hP hS ⊢
  have hP : va_P D vwCl [(h0, .inr (8, [.ref s1, .ref s2, .ref s3, .ref s4, .ref s5, .ref s6, .int ds, va_rf sp, va_rf bt])), (s1, .inl (cO, 4, .inr (.inr (.inr (.inr f))))), (s2, .inr (1, [.ref bx, .int ik, .int wy, .int op])), (bx, .inr (0, [.int bx0, .int by0, .int bx1, .int by1])), (t0, .inr (5, [.ref d0, .int w, .int h])), (d0, .inl (cI, 4096, .inl g)), (u0, .inr (5, [.ref e0, .int w2, .int h2])), (e0, .inl (cI, 4096, .inl gs))] H := hP
  have hD : va_D A [(h0, .inr (8, [.ref s1, .ref s2, .ref s3, .ref s4, .ref s5, .ref s6, .int ds, va_rf sp, va_rf bt])), (s1, .inl (cO, 4, .inr (.inr (.inr (.inr f))))), (s2, .inr (1, [.ref bx, .int ik, .int wy, .int op])), (bx, .inr (0, [.int bx0, .int by0, .int bx1, .int by1])), (t0, .inr (5, [.ref d0, .int w, .int h])), (d0, .inl (cI, 4096, .inl g)), (u0, .inr (5, [.ref e0, .int w2, .int h2])), (e0, .inl (cI, 4096, .inl gs))] := hD
  refine lv_if_eq (tgt := 32) hx hb dX8_stretch_5 (by decide) (fun c_2 => ?_) (fun c_2 => ?_)
  · skip
    have f_3 := bz0 hr_1 c_2
    exact False.elim (by omega)
  · skip
    have f_3 := bz1 hr_1 c_2
    refine lv_iload hx hb dX8_stretch_8 (lv_at hl 5 rfl) ?_
    have hPc := hP.sub (ws' := []) [] rfl
    have hDc := hD.sub (ws' := []) [] (by decide) rfl
    have hKc := hK.sub (tys' := []) [] rfl
    have hFc := va_free (wc := []) hD hS hA [] rfl
    refine va_calli (va_runS (As := [.int ah]) (rest := []) ⟨hx, hb, hml, hown, hts⟩ (k_X8_isSide l D H.size ah) (va_cwS 1 hts (gS bw_247 bw_353 bw_223 bw_352) rfl rfl rfl (by decide +kernel) ⟨(by rw [hR]; exact Nat.le_of_ble_eq_true rfl), (by rw [hR]; exact Nat.le_of_ble_eq_true rfl)⟩) ⟨cP_blind, cP_at hPc hKc hDc hN⟩ rfl rfl hl.1 rfl (lv_room (Nat.le_of_ble_eq_true rfl)) dX8_stretch_10 ⟨(by rw [hR]; exact Nat.le_of_ble_eq_true rfl), (by rw [hR]; exact Nat.le_of_ble_eq_true rfl)⟩) hS (fun q _ h => hFc q h) hFc (fun r_4 u9 t9 H1 locs ht hvm hr_4 hB hz1 hk1 hS => ?_)
    try dsimp only at hr_4
    have hP1 : va_P D vwCl [] H1 := vP_nil
    have hD1 : va_D (va_A [] H.size) [] := vD_nil
    obtain ⟨hP, hD⟩ := va_join (wr := [(h0, .inr (8, [.ref s1, .ref s2, .ref s3, .ref s4, .ref s5, .ref s6, .int ds, va_rf sp, va_rf bt])), (s1, .inl (cO, 4, .inr (.inr (.inr (.inr f))))), (s2, .inr (1, [.ref bx, .int ik, .int wy, .int op])), (bx, .inr (0, [.int bx0, .int by0, .int bx1, .int by1])), (t0, .inr (5, [.ref d0, .int w, .int h])), (d0, .inl (cI, 4096, .inl g)), (u0, .inr (5, [.ref e0, .int w2, .int h2])), (e0, .inl (cI, 4096, .inl gs))]) (w1 := []) hP hD [] [0, 1, 2, 3, 4, 5, 6, 7] rfl rfl (by decide) (by decide) hk1 hFc hP1 hD1
    clear hz1 hk1 hFc hKc hDc hPc
    generalize H1 = H at hP hS ⊢
    have hP : va_P D vwCl [(h0, .inr (8, [.ref s1, .ref s2, .ref s3, .ref s4, .ref s5, .ref s6, .int ds, va_rf sp, va_rf bt])), (s1, .inl (cO, 4, .inr (.inr (.inr (.inr f))))), (s2, .inr (1, [.ref bx, .int ik, .int wy, .int op])), (bx, .inr (0, [.int bx0, .int by0, .int bx1, .int by1])), (t0, .inr (5, [.ref d0, .int w, .int h])), (d0, .inl (cI, 4096, .inl g)), (u0, .inr (5, [.ref e0, .int w2, .int h2])), (e0, .inl (cI, 4096, .inl gs))] H := hP
    have hD : va_D A [(h0, .inr (8, [.ref s1, .ref s2, .ref s3, .ref s4, .ref s5, .ref s6, .int ds, va_rf sp, va_rf bt])), (s1, .inl (cO, 4, .inr (.inr (.inr (.inr f))))), (s2, .inr (1, [.ref bx, .int ik, .int wy, .int op])), (bx, .inr (0, [.int bx0, .int by0, .int bx1, .int by1])), (t0, .inr (5, [.ref d0, .int w, .int h])), (d0, .inl (cI, 4096, .inl g)), (u0, .inr (5, [.ref e0, .int w2, .int h2])), (e0, .inl (cI, 4096, .inl gs))] := hD
    refine lv_if_eq (tgt := 32) hx hb dX8_stretch_13 (by decide) (fun c_5 => ?_) (fun c_5 => ?_)
    · skip
      have f_6 := bz0 hr_4 c_5
      exact False.elim (by omega)
    · skip
      have f_6 := bz1 hr_4 c_5
      refine lv_iload hx hb dX8_stretch_16 (lv_at hl 9 rfl) ?_
      have hPc := hP.sub (ws' := []) [] rfl
      have hDc := hD.sub (ws' := []) [] (by decide) rfl
      have hKc := hK.sub (tys' := []) [] rfl
      have hFc := va_free (wc := []) hD hS hA [] rfl
      refine va_calli (va_runS (As := [.int ow]) (rest := []) ⟨hx, hb, hml, hown, hts⟩ (k_X8_isSide l D H.size ow) (va_cwS 1 hts (gS bw_247 bw_353 bw_223 bw_352) rfl rfl rfl (by decide +kernel) ⟨(by rw [hR]; exact Nat.le_of_ble_eq_true rfl), (by rw [hR]; exact Nat.le_of_ble_eq_true rfl)⟩) ⟨cP_blind, cP_at hPc hKc hDc hN⟩ rfl rfl hl.1 rfl (lv_room (Nat.le_of_ble_eq_true rfl)) dX8_stretch_18 ⟨(by rw [hR]; exact Nat.le_of_ble_eq_true rfl), (by rw [hR]; exact Nat.le_of_ble_eq_true rfl)⟩) hS (fun q _ h => hFc q h) hFc (fun r_7 u9 t9 H1 locs ht hvm hr_7 hB hz1 hk1 hS => ?_)
      try dsimp only at hr_7
      have hP1 : va_P D vwCl [] H1 := vP_nil
      have hD1 : va_D (va_A [] H.size) [] := vD_nil
      obtain ⟨hP, hD⟩ := va_join (wr := [(h0, .inr (8, [.ref s1, .ref s2, .ref s3, .ref s4, .ref s5, .ref s6, .int ds, va_rf sp, va_rf bt])), (s1, .inl (cO, 4, .inr (.inr (.inr (.inr f))))), (s2, .inr (1, [.ref bx, .int ik, .int wy, .int op])), (bx, .inr (0, [.int bx0, .int by0, .int bx1, .int by1])), (t0, .inr (5, [.ref d0, .int w, .int h])), (d0, .inl (cI, 4096, .inl g)), (u0, .inr (5, [.ref e0, .int w2, .int h2])), (e0, .inl (cI, 4096, .inl gs))]) (w1 := []) hP hD [] [0, 1, 2, 3, 4, 5, 6, 7] rfl rfl (by decide) (by decide) hk1 hFc hP1 hD1
      clear hz1 hk1 hFc hKc hDc hPc
      generalize H1 = H at hP hS ⊢
      have hP : va_P D vwCl [(h0, .inr (8, [.ref s1, .ref s2, .ref s3, .ref s4, .ref s5, .ref s6, .int ds, va_rf sp, va_rf bt])), (s1, .inl (cO, 4, .inr (.inr (.inr (.inr f))))), (s2, .inr (1, [.ref bx, .int ik, .int wy, .int op])), (bx, .inr (0, [.int bx0, .int by0, .int bx1, .int by1])), (t0, .inr (5, [.ref d0, .int w, .int h])), (d0, .inl (cI, 4096, .inl g)), (u0, .inr (5, [.ref e0, .int w2, .int h2])), (e0, .inl (cI, 4096, .inl gs))] H := hP
      have hD : va_D A [(h0, .inr (8, [.ref s1, .ref s2, .ref s3, .ref s4, .ref s5, .ref s6, .int ds, va_rf sp, va_rf bt])), (s1, .inl (cO, 4, .inr (.inr (.inr (.inr f))))), (s2, .inr (1, [.ref bx, .int ik, .int wy, .int op])), (bx, .inr (0, [.int bx0, .int by0, .int bx1, .int by1])), (t0, .inr (5, [.ref d0, .int w, .int h])), (d0, .inl (cI, 4096, .inl g)), (u0, .inr (5, [.ref e0, .int w2, .int h2])), (e0, .inl (cI, 4096, .inl gs))] := hD
      refine lv_if_eq (tgt := 32) hx hb dX8_stretch_21 (by decide) (fun c_8 => ?_) (fun c_8 => ?_)
      · skip
        have f_9 := bz0 hr_7 c_8
        exact False.elim (by omega)
      · skip
        have f_9 := bz1 hr_7 c_8
        refine lv_iload hx hb dX8_stretch_24 (lv_at hl 10 rfl) ?_
        have hPc := hP.sub (ws' := []) [] rfl
        have hDc := hD.sub (ws' := []) [] (by decide) rfl
        have hKc := hK.sub (tys' := []) [] rfl
        have hFc := va_free (wc := []) hD hS hA [] rfl
        refine va_calli (va_runS (As := [.int oh]) (rest := []) ⟨hx, hb, hml, hown, hts⟩ (k_X8_isSide l D H.size oh) (va_cwS 1 hts (gS bw_247 bw_353 bw_223 bw_352) rfl rfl rfl (by decide +kernel) ⟨(by rw [hR]; exact Nat.le_of_ble_eq_true rfl), (by rw [hR]; exact Nat.le_of_ble_eq_true rfl)⟩) ⟨cP_blind, cP_at hPc hKc hDc hN⟩ rfl rfl hl.1 rfl (lv_room (Nat.le_of_ble_eq_true rfl)) dX8_stretch_26 ⟨(by rw [hR]; exact Nat.le_of_ble_eq_true rfl), (by rw [hR]; exact Nat.le_of_ble_eq_true rfl)⟩) hS (fun q _ h => hFc q h) hFc (fun r_10 u9 t9 H1 locs ht hvm hr_10 hB hz1 hk1 hS => ?_)
        try dsimp only at hr_10
        have hP1 : va_P D vwCl [] H1 := vP_nil
        have hD1 : va_D (va_A [] H.size) [] := vD_nil
        obtain ⟨hP, hD⟩ := va_join (wr := [(h0, .inr (8, [.ref s1, .ref s2, .ref s3, .ref s4, .ref s5, .ref s6, .int ds, va_rf sp, va_rf bt])), (s1, .inl (cO, 4, .inr (.inr (.inr (.inr f))))), (s2, .inr (1, [.ref bx, .int ik, .int wy, .int op])), (bx, .inr (0, [.int bx0, .int by0, .int bx1, .int by1])), (t0, .inr (5, [.ref d0, .int w, .int h])), (d0, .inl (cI, 4096, .inl g)), (u0, .inr (5, [.ref e0, .int w2, .int h2])), (e0, .inl (cI, 4096, .inl gs))]) (w1 := []) hP hD [] [0, 1, 2, 3, 4, 5, 6, 7] rfl rfl (by decide) (by decide) hk1 hFc hP1 hD1
        clear hz1 hk1 hFc hKc hDc hPc
        generalize H1 = H at hP hS ⊢
        have hP : va_P D vwCl [(h0, .inr (8, [.ref s1, .ref s2, .ref s3, .ref s4, .ref s5, .ref s6, .int ds, va_rf sp, va_rf bt])), (s1, .inl (cO, 4, .inr (.inr (.inr (.inr f))))), (s2, .inr (1, [.ref bx, .int ik, .int wy, .int op])), (bx, .inr (0, [.int bx0, .int by0, .int bx1, .int by1])), (t0, .inr (5, [.ref d0, .int w, .int h])), (d0, .inl (cI, 4096, .inl g)), (u0, .inr (5, [.ref e0, .int w2, .int h2])), (e0, .inl (cI, 4096, .inl gs))] H := hP
        have hD : va_D A [(h0, .inr (8, [.ref s1, .ref s2, .ref s3, .ref s4, .ref s5, .ref s6, .int ds, va_rf sp, va_rf bt])), (s1, .inl (cO, 4, .inr (.inr (.inr (.inr f))))), (s2, .inr (1, [.ref bx, .int ik, .int wy, .int op])), (bx, .inr (0, [.int bx0, .int by0, .int bx1, .int by1])), (t0, .inr (5, [.ref d0, .int w, .int h])), (d0, .inl (cI, 4096, .inl g)), (u0, .inr (5, [.ref e0, .int w2, .int h2])), (e0, .inl (cI, 4096, .inl gs))] := hD
        refine lv_if_ne (tgt := 34) hx hb dX8_stretch_29 (by decide) (fun c_11 => ?_) (fun c_11 => ?_)
        · skip
          have f_12 := bz1 hr_10 c_11
          refine lv_aload_n hx hb dX8_stretch_34 rfl (lv_at hl 0 rfl) ?_
          refine lv_iload_n hx hb dX8_stretch_35 rfl (lv_at hl 1 rfl) ?_
          refine va_new (ci := 2) (fs := [.int 0, .int 0, .int 0, .int 0]) (C := RX2) (T := TX2) (N := 4) hx hb hts hi_X2 tyX2 tyX2_ok hown (hts _ bw_316) (hts _ bw_56) (hts _ bw_55) hK hP hD hS hA rfl z_X2 (by rw [hR]; exact Nat.le_of_ble_eq_true rfl) (by rw [hR]; exact Nat.le_of_ble_eq_true rfl) dX8_stretch_36 (fun q_13 H hP hD hS => ?_)
          have hP : va_P D vwCl [(h0, .inr (8, [.ref s1, .ref s2, .ref s3, .ref s4, .ref s5, .ref s6, .int ds, va_rf sp, va_rf bt])), (s1, .inl (cO, 4, .inr (.inr (.inr (.inr f))))), (s2, .inr (1, [.ref bx, .int ik, .int wy, .int op])), (bx, .inr (0, [.int bx0, .int by0, .int bx1, .int by1])), (t0, .inr (5, [.ref d0, .int w, .int h])), (d0, .inl (cI, 4096, .inl g)), (u0, .inr (5, [.ref e0, .int w2, .int h2])), (e0, .inl (cI, 4096, .inl gs)), (q_13, .inr (2, [.int 0, .int 0, .int 0, .int 0]))] H := hP
          have hD : va_D A [(h0, .inr (8, [.ref s1, .ref s2, .ref s3, .ref s4, .ref s5, .ref s6, .int ds, va_rf sp, va_rf bt])), (s1, .inl (cO, 4, .inr (.inr (.inr (.inr f))))), (s2, .inr (1, [.ref bx, .int ik, .int wy, .int op])), (bx, .inr (0, [.int bx0, .int by0, .int bx1, .int by1])), (t0, .inr (5, [.ref d0, .int w, .int h])), (d0, .inl (cI, 4096, .inl g)), (u0, .inr (5, [.ref e0, .int w2, .int h2])), (e0, .inl (cI, 4096, .inl gs)), (q_13, .inr (2, [.int 0, .int 0, .int 0, .int 0]))] := hD
          refine W.widen (k := 1) (n := 4) (by omega) (by omega) ?_
          refine lv_dup hx hb dX8_stretch_39 rfl ?_
          refine lv_iload_n hx hb dX8_stretch_40 rfl (lv_at hl 2 rfl) ?_
          refine lv_iload_n hx hb dX8_stretch_41 rfl (lv_at hl 3 rfl) ?_
          refine lv_iload hx hb dX8_stretch_42 (lv_at hl 4 rfl) ?_
          refine lv_iload hx hb dX8_stretch_44 (lv_at hl 5 rfl) ?_
          have hPc := hP.sub (ws' := [(q_13, .inr (2, [.int 0, .int 0, .int 0, .int 0]))]) [8] rfl
          have hDc := hD.sub (ws' := [(q_13, .inr (2, [.int 0, .int 0, .int 0, .int 0]))]) [8] (by decide) rfl
          have hKc := hK.sub (tys' := []) [] rfl
          have hFc := va_free (wc := [(q_13, .inr (2, [.int 0, .int 0, .int 0, .int 0]))]) hD hS hA [8] rfl
          refine va_callv (va_runI (As := [.int ax, .int ay, .int aw, .int ah]) (rest := [.ref q_13, .int k, .ref h0]) ⟨hx, hb, hml, hown, hts⟩ (k_X2_init l D H.size q_13 ax ay aw ah) (cwI 4 hts (gI bw_57) rfl rfl rfl (hts _ bw_55) (hts _ bw_317) (hts _ bw_58) rfl (by decide +kernel) ⟨(by rw [hR]; exact Nat.le_of_ble_eq_true rfl), (by rw [hR]; exact Nat.le_of_ble_eq_true rfl)⟩) ⟨cP_blind, cP_at hPc hKc hDc hN⟩ rfl rfl hl.1 rfl (lv_room (Nat.le_of_ble_eq_true rfl)) dX8_stretch_46 ⟨(by rw [hR]; exact Nat.le_of_ble_eq_true rfl), (by rw [hR]; exact Nat.le_of_ble_eq_true rfl)⟩) hS (fun q _ h => hFc q h) hFc (fun u9 t9 H1 locs ht hvm hr_14 hB hz1 hk1 hS => ?_)
          try dsimp only at hr_14
          obtain ⟨hP1, hK1, hD1⟩ := hB
          rw [ht] at hP1
          obtain ⟨hP, hD⟩ := va_join (wr := [(h0, .inr (8, [.ref s1, .ref s2, .ref s3, .ref s4, .ref s5, .ref s6, .int ds, va_rf sp, va_rf bt])), (s1, .inl (cO, 4, .inr (.inr (.inr (.inr f))))), (s2, .inr (1, [.ref bx, .int ik, .int wy, .int op])), (bx, .inr (0, [.int bx0, .int by0, .int bx1, .int by1])), (t0, .inr (5, [.ref d0, .int w, .int h])), (d0, .inl (cI, 4096, .inl g)), (u0, .inr (5, [.ref e0, .int w2, .int h2])), (e0, .inl (cI, 4096, .inl gs))]) (w1 := [(q_13, .inr (2, [.int ax, .int ay, .int aw, .int ah]))]) hP hD [8] [0, 1, 2, 3, 4, 5, 6, 7] rfl rfl (by decide) (by decide) hk1 hFc hP1 hD1
          clear hz1 hk1 hFc hKc hDc hPc
          generalize H1 = H at hP hS ⊢
          have hP : va_P D vwCl [(h0, .inr (8, [.ref s1, .ref s2, .ref s3, .ref s4, .ref s5, .ref s6, .int ds, va_rf sp, va_rf bt])), (s1, .inl (cO, 4, .inr (.inr (.inr (.inr f))))), (s2, .inr (1, [.ref bx, .int ik, .int wy, .int op])), (bx, .inr (0, [.int bx0, .int by0, .int bx1, .int by1])), (t0, .inr (5, [.ref d0, .int w, .int h])), (d0, .inl (cI, 4096, .inl g)), (u0, .inr (5, [.ref e0, .int w2, .int h2])), (e0, .inl (cI, 4096, .inl gs)), (q_13, .inr (2, [.int ax, .int ay, .int aw, .int ah]))] H := hP
          have hD : va_D A [(h0, .inr (8, [.ref s1, .ref s2, .ref s3, .ref s4, .ref s5, .ref s6, .int ds, va_rf sp, va_rf bt])), (s1, .inl (cO, 4, .inr (.inr (.inr (.inr f))))), (s2, .inr (1, [.ref bx, .int ik, .int wy, .int op])), (bx, .inr (0, [.int bx0, .int by0, .int bx1, .int by1])), (t0, .inr (5, [.ref d0, .int w, .int h])), (d0, .inl (cI, 4096, .inl g)), (u0, .inr (5, [.ref e0, .int w2, .int h2])), (e0, .inl (cI, 4096, .inl gs)), (q_13, .inr (2, [.int ax, .int ay, .int aw, .int ah]))] := hD
          refine lv_iload hx hb dX8_stretch_49 (lv_at hl 6 rfl) ?_
          refine va_new (ci := 2) (fs := [.int 0, .int 0, .int 0, .int 0]) (C := RX2) (T := TX2) (N := 4) hx hb hts hi_X2 tyX2 tyX2_ok hown (hts _ bw_316) (hts _ bw_56) (hts _ bw_55) hK hP hD hS hA rfl z_X2 (by rw [hR]; exact Nat.le_of_ble_eq_true rfl) (by rw [hR]; exact Nat.le_of_ble_eq_true rfl) dX8_stretch_51 (fun q_15 H hP hD hS => ?_)
          have hP : va_P D vwCl [(h0, .inr (8, [.ref s1, .ref s2, .ref s3, .ref s4, .ref s5, .ref s6, .int ds, va_rf sp, va_rf bt])), (s1, .inl (cO, 4, .inr (.inr (.inr (.inr f))))), (s2, .inr (1, [.ref bx, .int ik, .int wy, .int op])), (bx, .inr (0, [.int bx0, .int by0, .int bx1, .int by1])), (t0, .inr (5, [.ref d0, .int w, .int h])), (d0, .inl (cI, 4096, .inl g)), (u0, .inr (5, [.ref e0, .int w2, .int h2])), (e0, .inl (cI, 4096, .inl gs)), (q_13, .inr (2, [.int ax, .int ay, .int aw, .int ah])), (q_15, .inr (2, [.int 0, .int 0, .int 0, .int 0]))] H := hP
          have hD : va_D A [(h0, .inr (8, [.ref s1, .ref s2, .ref s3, .ref s4, .ref s5, .ref s6, .int ds, va_rf sp, va_rf bt])), (s1, .inl (cO, 4, .inr (.inr (.inr (.inr f))))), (s2, .inr (1, [.ref bx, .int ik, .int wy, .int op])), (bx, .inr (0, [.int bx0, .int by0, .int bx1, .int by1])), (t0, .inr (5, [.ref d0, .int w, .int h])), (d0, .inl (cI, 4096, .inl g)), (u0, .inr (5, [.ref e0, .int w2, .int h2])), (e0, .inl (cI, 4096, .inl gs)), (q_13, .inr (2, [.int ax, .int ay, .int aw, .int ah])), (q_15, .inr (2, [.int 0, .int 0, .int 0, .int 0]))] := hD
          refine W.widen (k := 2) (n := 8) (by omega) (by omega) ?_
          refine lv_dup hx hb dX8_stretch_54 rfl ?_
          refine lv_iload hx hb dX8_stretch_55 (lv_at hl 7 rfl) ?_
          refine lv_iload hx hb dX8_stretch_57 (lv_at hl 8 rfl) ?_
          refine lv_iload hx hb dX8_stretch_59 (lv_at hl 9 rfl) ?_
          refine lv_iload hx hb dX8_stretch_61 (lv_at hl 10 rfl) ?_
          have hPc := hP.sub (ws' := [(q_15, .inr (2, [.int 0, .int 0, .int 0, .int 0]))]) [9] rfl
          have hDc := hD.sub (ws' := [(q_15, .inr (2, [.int 0, .int 0, .int 0, .int 0]))]) [9] (by decide) rfl
          have hKc := hK.sub (tys' := []) [] rfl
          have hFc := va_free (wc := [(q_15, .inr (2, [.int 0, .int 0, .int 0, .int 0]))]) hD hS hA [9] rfl
          refine va_callv (va_runI (As := [.int ox, .int oy, .int ow, .int oh]) (rest := [.ref q_15, .int kq, .ref q_13, .int k, .ref h0]) ⟨hx, hb, hml, hown, hts⟩ (k_X2_init l D H.size q_15 ox oy ow oh) (cwI 4 hts (gI bw_57) rfl rfl rfl (hts _ bw_55) (hts _ bw_317) (hts _ bw_58) rfl (by decide +kernel) ⟨(by rw [hR]; exact Nat.le_of_ble_eq_true rfl), (by rw [hR]; exact Nat.le_of_ble_eq_true rfl)⟩) ⟨cP_blind, cP_at hPc hKc hDc hN⟩ rfl rfl hl.1 rfl (lv_room (Nat.le_of_ble_eq_true rfl)) dX8_stretch_63 ⟨(by rw [hR]; exact Nat.le_of_ble_eq_true rfl), (by rw [hR]; exact Nat.le_of_ble_eq_true rfl)⟩) hS (fun q _ h => hFc q h) hFc (fun u9 t9 H1 locs ht hvm hr_16 hB hz1 hk1 hS => ?_)
          try dsimp only at hr_16
          obtain ⟨hP1, hK1, hD1⟩ := hB
          rw [ht] at hP1
          obtain ⟨hP, hD⟩ := va_join (wr := [(h0, .inr (8, [.ref s1, .ref s2, .ref s3, .ref s4, .ref s5, .ref s6, .int ds, va_rf sp, va_rf bt])), (s1, .inl (cO, 4, .inr (.inr (.inr (.inr f))))), (s2, .inr (1, [.ref bx, .int ik, .int wy, .int op])), (bx, .inr (0, [.int bx0, .int by0, .int bx1, .int by1])), (t0, .inr (5, [.ref d0, .int w, .int h])), (d0, .inl (cI, 4096, .inl g)), (u0, .inr (5, [.ref e0, .int w2, .int h2])), (e0, .inl (cI, 4096, .inl gs)), (q_13, .inr (2, [.int ax, .int ay, .int aw, .int ah]))]) (w1 := [(q_15, .inr (2, [.int ox, .int oy, .int ow, .int oh]))]) hP hD [9] [0, 1, 2, 3, 4, 5, 6, 7, 8] rfl rfl (by decide) (by decide) hk1 hFc hP1 hD1
          clear hz1 hk1 hFc hKc hDc hPc
          generalize H1 = H at hP hS ⊢
          have hP : va_P D vwCl [(h0, .inr (8, [.ref s1, .ref s2, .ref s3, .ref s4, .ref s5, .ref s6, .int ds, va_rf sp, va_rf bt])), (s1, .inl (cO, 4, .inr (.inr (.inr (.inr f))))), (s2, .inr (1, [.ref bx, .int ik, .int wy, .int op])), (bx, .inr (0, [.int bx0, .int by0, .int bx1, .int by1])), (t0, .inr (5, [.ref d0, .int w, .int h])), (d0, .inl (cI, 4096, .inl g)), (u0, .inr (5, [.ref e0, .int w2, .int h2])), (e0, .inl (cI, 4096, .inl gs)), (q_13, .inr (2, [.int ax, .int ay, .int aw, .int ah])), (q_15, .inr (2, [.int ox, .int oy, .int ow, .int oh]))] H := hP
          have hD : va_D A [(h0, .inr (8, [.ref s1, .ref s2, .ref s3, .ref s4, .ref s5, .ref s6, .int ds, va_rf sp, va_rf bt])), (s1, .inl (cO, 4, .inr (.inr (.inr (.inr f))))), (s2, .inr (1, [.ref bx, .int ik, .int wy, .int op])), (bx, .inr (0, [.int bx0, .int by0, .int bx1, .int by1])), (t0, .inr (5, [.ref d0, .int w, .int h])), (d0, .inl (cI, 4096, .inl g)), (u0, .inr (5, [.ref e0, .int w2, .int h2])), (e0, .inl (cI, 4096, .inl gs)), (q_13, .inr (2, [.int ax, .int ay, .int aw, .int ah])), (q_15, .inr (2, [.int ox, .int oy, .int ow, .int oh]))] := hD
          have hPc := hP.sub (ws' := [(h0, .inr (8, [.ref s1, .ref s2, .ref s3, .ref s4, .ref s5, .ref s6, .int ds, va_rf sp, va_rf bt])), (s1, .inl (cO, 4, .inr (.inr (.inr (.inr f))))), (s2, .inr (1, [.ref bx, .int ik, .int wy, .int op])), (bx, .inr (0, [.int bx0, .int by0, .int bx1, .int by1])), (t0, .inr (5, [.ref d0, .int w, .int h])), (d0, .inl (cI, 4096, .inl g)), (u0, .inr (5, [.ref e0, .int w2, .int h2])), (e0, .inl (cI, 4096, .inl gs)), (q_13, .inr (2, [.int ax, .int ay, .int aw, .int ah])), (q_15, .inr (2, [.int ox, .int oy, .int ow, .int oh]))]) [0, 1, 2, 3, 4, 5, 6, 7, 8, 9] rfl
          have hDc := hD.sub (ws' := [(h0, .inr (8, [.ref s1, .ref s2, .ref s3, .ref s4, .ref s5, .ref s6, .int ds, va_rf sp, va_rf bt])), (s1, .inl (cO, 4, .inr (.inr (.inr (.inr f))))), (s2, .inr (1, [.ref bx, .int ik, .int wy, .int op])), (bx, .inr (0, [.int bx0, .int by0, .int bx1, .int by1])), (t0, .inr (5, [.ref d0, .int w, .int h])), (d0, .inl (cI, 4096, .inl g)), (u0, .inr (5, [.ref e0, .int w2, .int h2])), (e0, .inl (cI, 4096, .inl gs)), (q_13, .inr (2, [.int ax, .int ay, .int aw, .int ah])), (q_15, .inr (2, [.int ox, .int oy, .int ow, .int oh]))]) [0, 1, 2, 3, 4, 5, 6, 7, 8, 9] (by decide) rfl
          have hKc := hK.sub (tys' := [(cO, .object "DotBench$Sheet"), (cI, .int)]) [0, 1] rfl
          have hFc := va_free (wc := [(h0, .inr (8, [.ref s1, .ref s2, .ref s3, .ref s4, .ref s5, .ref s6, .int ds, va_rf sp, va_rf bt])), (s1, .inl (cO, 4, .inr (.inr (.inr (.inr f))))), (s2, .inr (1, [.ref bx, .int ik, .int wy, .int op])), (bx, .inr (0, [.int bx0, .int by0, .int bx1, .int by1])), (t0, .inr (5, [.ref d0, .int w, .int h])), (d0, .inl (cI, 4096, .inl g)), (u0, .inr (5, [.ref e0, .int w2, .int h2])), (e0, .inl (cI, 4096, .inl gs)), (q_13, .inr (2, [.int ax, .int ay, .int aw, .int ah])), (q_15, .inr (2, [.int ox, .int oy, .int ow, .int oh]))]) hD hS hA [0, 1, 2, 3, 4, 5, 6, 7, 8, 9] rfl
          refine va_calli (va_runV (As := [.int k, .ref q_13, .int kq, .ref q_15]) (rest := []) ⟨hx, hb, hml, hown, hts⟩ (k_X8_carry_d l D H.size h0 s1 s2 s3 s4 s5 s6 ds sp bt f bx t0 d0 ik wy op bx0 by0 bx1 by1 w h g u0 e0 w2 h2 gs q_13 q_15 ax ay aw ah ox oy ow oh k kq cO cI (by first | assumption | omega | decide) (by first | assumption | omega | decide) (by first | assumption | omega | decide) (by first | assumption | omega | decide) (by first | assumption | omega | decide) (by first | assumption | omega | decide) (by first | assumption | omega | decide) (by first | assumption | omega | decide) (by first | assumption | omega | decide) (by first | assumption | omega | decide) (by first | assumption | omega | decide) (by first | assumption | omega | decide) (by first | assumption | omega | decide)) (cwV 4 hts (gV bw_318 bw_383 bw_384 bw_223 bw_382) rfl rfl rfl (by decide +kernel) ⟨(by rw [hR]; exact Nat.le_of_ble_eq_true rfl), (by rw [hR]; exact Nat.le_of_ble_eq_true rfl)⟩) ⟨cP_blind, va_recv hKc hPc (ci := 8) (q0 := 0) rfl rfl, cP_at hPc hKc hDc hN⟩ rfl rfl hl.1 rfl (lv_room (Nat.le_of_ble_eq_true rfl)) dX8_stretch_66 ⟨(by rw [hR]; exact Nat.le_of_ble_eq_true rfl), (by rw [hR]; exact Nat.le_of_ble_eq_true rfl)⟩) hS (fun q _ h => hFc q h) hFc (fun r_17 u9 t9 H1 locs ht hvm hr_17 hB hz1 hk1 hS => ?_)
          try dsimp only at hr_17
          obtain ⟨g_18, hP1, hK1, hD1⟩ := hB
          rw [ht] at hP1
          obtain ⟨hP, hD⟩ := va_join (wr := []) (w1 := [(h0, .inr (8, [.ref s1, .ref s2, .ref s3, .ref s4, .ref s5, .ref s6, .int ds, va_rf sp, va_rf bt])), (s1, .inl (cO, 4, .inr (.inr (.inr (.inr f))))), (s2, .inr (1, [.ref bx, .int ik, .int wy, .int op])), (bx, .inr (0, [.int bx0, .int by0, .int bx1, .int by1])), (t0, .inr (5, [.ref d0, .int w, .int h])), (d0, .inl (cI, 4096, .inl g_18)), (u0, .inr (5, [.ref e0, .int w2, .int h2])), (e0, .inl (cI, 4096, .inl gs))]) hP hD [0, 1, 2, 3, 4, 5, 6, 7, 8, 9] [] rfl rfl (by decide) (by decide) hk1 hFc hP1 hD1
          clear hz1 hk1 hFc hKc hDc hPc
          generalize H1 = H at hP hS ⊢
          have hP : va_P D vwCl [(h0, .inr (8, [.ref s1, .ref s2, .ref s3, .ref s4, .ref s5, .ref s6, .int ds, va_rf sp, va_rf bt])), (s1, .inl (cO, 4, .inr (.inr (.inr (.inr f))))), (s2, .inr (1, [.ref bx, .int ik, .int wy, .int op])), (bx, .inr (0, [.int bx0, .int by0, .int bx1, .int by1])), (t0, .inr (5, [.ref d0, .int w, .int h])), (d0, .inl (cI, 4096, .inl g_18)), (u0, .inr (5, [.ref e0, .int w2, .int h2])), (e0, .inl (cI, 4096, .inl gs))] H := hP
          have hD : va_D A [(h0, .inr (8, [.ref s1, .ref s2, .ref s3, .ref s4, .ref s5, .ref s6, .int ds, va_rf sp, va_rf bt])), (s1, .inl (cO, 4, .inr (.inr (.inr (.inr f))))), (s2, .inr (1, [.ref bx, .int ik, .int wy, .int op])), (bx, .inr (0, [.int bx0, .int by0, .int bx1, .int by1])), (t0, .inr (5, [.ref d0, .int w, .int h])), (d0, .inl (cI, 4096, .inl g_18)), (u0, .inr (5, [.ref e0, .int w2, .int h2])), (e0, .inl (cI, 4096, .inl gs))] := hD
          have hP9 := hP.sub (ws' := [(h0, .inr (8, [.ref s1, .ref s2, .ref s3, .ref s4, .ref s5, .ref s6, .int ds, va_rf sp, va_rf bt])), (s1, .inl (cO, 4, .inr (.inr (.inr (.inr f))))), (s2, .inr (1, [.ref bx, .int ik, .int wy, .int op])), (bx, .inr (0, [.int bx0, .int by0, .int bx1, .int by1])), (t0, .inr (5, [.ref d0, .int w, .int h])), (d0, .inl (cI, 4096, .inl g_18)), (u0, .inr (5, [.ref e0, .int w2, .int h2])), (e0, .inl (cI, 4096, .inl gs))]) [0, 1, 2, 3, 4, 5, 6, 7] rfl
          have hD9 := hD.sub (ws' := [(h0, .inr (8, [.ref s1, .ref s2, .ref s3, .ref s4, .ref s5, .ref s6, .int ds, va_rf sp, va_rf bt])), (s1, .inl (cO, 4, .inr (.inr (.inr (.inr f))))), (s2, .inr (1, [.ref bx, .int ik, .int wy, .int op])), (bx, .inr (0, [.int bx0, .int by0, .int bx1, .int by1])), (t0, .inr (5, [.ref d0, .int w, .int h])), (d0, .inl (cI, 4096, .inl g_18)), (u0, .inr (5, [.ref e0, .int w2, .int h2])), (e0, .inl (cI, 4096, .inl gs))]) [0, 1, 2, 3, 4, 5, 6, 7] (by decide) rfl
          have hK9 := hK.sub (tys' := [(cO, .object "DotBench$Sheet"), (cI, .int)]) [0, 1] rfl
          refine hQ _ _ _ _ _ ?_
          exact W.iret (v := r_17) hx hb hr (fun t ht hW => ⟨⟨r_17, (), rfl, hr_17, ⟨g_18, by rw [ht]; exact hP9, va_K.moved hW.alike hK9, hD9⟩⟩, hS.F ht⟩) hS.2.2 dX8_stretch_69
        · skip
          have f_12 := bz0 hr_10 c_11
          exact False.elim (by omega)

set_option maxHeartbeats 4000000 in
set_option maxRecDepth 100000 in
theorem k_X8_stretch_s1 (l : Launch) (D : va_G) (sz : Nat) (h0 s1 s2 s3 s4 s5 s6 : Nat) (ds : Int32) (sp : Option Nat) (f : Nat → Option Nat) (bx t0 d0 : Nat) (ik wy op : Int32) (bx0 by0 bx1 by1 : Int32) (w h : Int32) (g : Nat → Int32) (bq bd : Nat) (bw bh : Int32) (gb : Nat → Int32) (k ax ay aw ah kq ox oy ow oh : Int32) (cO : ClassId) (cI : ClassId) (hsz : (1 ≤ aw.toInt ∧ aw.toInt ≤ 64) ∧ (1 ≤ ah.toInt ∧ ah.toInt ≤ 64) ∧ (1 ≤ ow.toInt ∧ ow.toInt ≤ 64) ∧ (1 ≤ oh.toInt ∧ oh.toInt ≤ 64)) (hak : 0 ≤ k.toInt ∧ k.toInt ≤ 3) (haf : f k.toNatClampNeg = some t0) (hb0k : 0 ≤ kq.toInt ∧ kq.toInt ≤ 3) (hb0f : f kq.toNatClampNeg = some t0) (hne : k.toInt = kq.toInt) (hnr : (-200 ≤ ax.toInt ∧ ax.toInt ≤ 200) ∧ (-200 ≤ ay.toInt ∧ ay.toInt ≤ 200) ∧ (-200 ≤ ox.toInt ∧ ox.toInt ≤ 200) ∧ (-200 ≤ oy.toInt ∧ oy.toInt ≤ 200)) (hwy : 0 ≤ wy.toInt ∧ wy.toInt ≤ 12) (hw : w.toInt ≤ 64) (hh : h.toInt ≤ 64) : Met l yX8_stretch (wB yX8_stretch cX8_stretch 11 (some .int)) ({ frames := 4, cells := 2, slots := 8, locals := 106 }) (cP D [(h0, .inr (8, [.ref s1, .ref s2, .ref s3, .ref s4, .ref s5, .ref s6, .int ds, va_rf sp, .ref bq])), (s1, .inl (cO, 4, .inr (.inr (.inr (.inr f))))), (s2, .inr (1, [.ref bx, .int ik, .int wy, .int op])), (bx, .inr (0, [.int bx0, .int by0, .int bx1, .int by1])), (t0, .inr (5, [.ref d0, .int w, .int h])), (d0, .inl (cI, 4096, .inl g)), (bq, .inr (5, [.ref bd, .int bw, .int bh])), (bd, .inl (cI, 4096, .inl gb))] [(cO, .object "DotBench$Sheet"), (cI, .int)] sz [.ref h0, .int k, .int ax, .int ay, .int aw, .int ah, .int kq, .int ox, .int oy, .int ow, .int oh]) (va_Qi (fun (r : Int32) (_ : Unit) => True) (fun (_ : Unit) (t : State) => ∃ (g2 g3 : Nat → Int32), cB D (va_A [(h0, .inr (8, [.ref s1, .ref s2, .ref s3, .ref s4, .ref s5, .ref s6, .int ds, va_rf sp, .ref bq])), (s1, .inl (cO, 4, .inr (.inr (.inr (.inr f))))), (s2, .inr (1, [.ref bx, .int ik, .int wy, .int op])), (bx, .inr (0, [.int bx0, .int by0, .int bx1, .int by1])), (t0, .inr (5, [.ref d0, .int w, .int h])), (d0, .inl (cI, 4096, .inl g)), (bq, .inr (5, [.ref bd, .int bw, .int bh])), (bd, .inl (cI, 4096, .inl gb))] sz) [(h0, .inr (8, [.ref s1, .ref s2, .ref s3, .ref s4, .ref s5, .ref s6, .int ds, va_rf sp, .ref bq])), (s1, .inl (cO, 4, .inr (.inr (.inr (.inr f))))), (s2, .inr (1, [.ref bx, .int ik, .int wy, .int op])), (bx, .inr (0, [.int bx0, .int by0, .int bx1, .int by1])), (t0, .inr (5, [.ref d0, .int w, .int h])), (d0, .inl (cI, 4096, .inl g2)), (bq, .inr (5, [.ref bd, .int w, .int h])), (bd, .inl (cI, 4096, .inl g3))] [(cO, .object "DotBench$Sheet"), (cI, .int)] t) (va_A [(h0, .inr (8, [.ref s1, .ref s2, .ref s3, .ref s4, .ref s5, .ref s6, .int ds, va_rf sp, .ref bq])), (s1, .inl (cO, 4, .inr (.inr (.inr (.inr f))))), (s2, .inr (1, [.ref bx, .int ik, .int wy, .int op])), (bx, .inr (0, [.int bx0, .int by0, .int bx1, .int by1])), (t0, .inr (5, [.ref d0, .int w, .int h])), (d0, .inl (cI, 4096, .inl g)), (bq, .inr (5, [.ref bd, .int bw, .int bh])), (bd, .inl (cI, 4096, .inl gb))] sz)) 2 8 (va_A [(h0, .inr (8, [.ref s1, .ref s2, .ref s3, .ref s4, .ref s5, .ref s6, .int ds, va_rf sp, .ref bq])), (s1, .inl (cO, 4, .inr (.inr (.inr (.inr f))))), (s2, .inr (1, [.ref bx, .int ik, .int wy, .int op])), (bx, .inr (0, [.int bx0, .int by0, .int bx1, .int by1])), (t0, .inr (5, [.ref d0, .int w, .int h])), (d0, .inl (cI, 4096, .inl g)), (bq, .inr (5, [.ref bd, .int bw, .int bh])), (bd, .inl (cI, 4096, .inl gb))] sz) := by
  refine Met.ofW (cc := cX8_stretch) (maxL := 11) (ret := (some .int)) (by decide) rfl ?_
  intro p e s m args below meth c s₁ B hml hv
  obtain ⟨rfl, hsz, hP, hK, hD0, hN⟩ := hv
  have hx := B.exec
  have hb := B.bytes
  have hr := B.returns
  have hts0 := atoms_spec (ws := (wB yX8_stretch cX8_stretch 11 (some .int))) B.pre
  have hts : ∀ w ∈ bigW, w.before _ s = true := fun w h => hts0 w (List.mem_cons_of_mem _ h)
  have hown : s.vm.findClass RX8 = some m.cls := findClass_of_methodNamed B.named
  have hlocks := B.notSynchronized
  subst hsz
  have hD := hD0.self (sz := s.heap.size)
  generalize hAe : va_A [(h0, .inr (8, [.ref s1, .ref s2, .ref s3, .ref s4, .ref s5, .ref s6, .int ds, va_rf sp, .ref bq])), (s1, .inl (cO, 4, .inr (.inr (.inr (.inr f))))), (s2, .inr (1, [.ref bx, .int ik, .int wy, .int op])), (bx, .inr (0, [.int bx0, .int by0, .int bx1, .int by1])), (t0, .inr (5, [.ref d0, .int w, .int h])), (d0, .inl (cI, 4096, .inl g)), (bq, .inr (5, [.ref bd, .int bw, .int bh])), (bd, .inl (cI, 4096, .inl gb))] s.heap.size = A at hD ⊢
  have hA : ∀ q : Nat, s.heap.size ≤ q → A q := fun q h => by rw [← hAe]; exact Or.inr h
  have hS : va_S A s.heap s.heap [] := va_S.rf
  have hP : va_P D vwCl [(h0, .inr (8, [.ref s1, .ref s2, .ref s3, .ref s4, .ref s5, .ref s6, .int ds, va_rf sp, .ref bq])), (s1, .inl (cO, 4, .inr (.inr (.inr (.inr f))))), (s2, .inr (1, [.ref bx, .int ik, .int wy, .int op])), (bx, .inr (0, [.int bx0, .int by0, .int bx1, .int by1])), (t0, .inr (5, [.ref d0, .int w, .int h])), (d0, .inl (cI, 4096, .inl g)), (bq, .inr (5, [.ref bd, .int bw, .int bh])), (bd, .inl (cI, 4096, .inl gb))] s.heap := hP
  have hl := lv_entry ([.ref h0, .int k, .int ax, .int ay, .int aw, .int ah, .int kq, .int ox, .int oy, .int ow, .int oh]) (n := 11) (Nat.le_of_ble_eq_true rfl)
  rw [lg_entry_eq]
  generalize (lg_sl ([.ref h0, .int k, .int ax, .int ay, .int aw, .int ah, .int kq, .int ox, .int oy, .int ow, .int oh]) ++ List.replicate (11 - (lg_sl ([.ref h0, .int k, .int ax, .int ay, .int aw, .int ah, .int kq, .int ox, .int oy, .int ow, .int oh])).length) Slot.unset).toArray = ls at hl ⊢
  have hl : lv_has ls 11 [(0, .ref h0), (1, .int k), (2, .int ax), (3, .int ay), (4, .int aw), (5, .int ah), (6, .int kq), (7, .int ox), (8, .int oy), (9, .int ow), (10, .int oh)] := hl
  clear hts0 hD0 hAe
  refine my_abs (fun R Q hR hQ => ?_)
  refine lv_iload hx hb dX8_stretch_0 (lv_at hl 4 rfl) ?_
  have hPc := hP.sub (ws' := []) [] rfl
  have hDc := hD.sub (ws' := []) [] (by decide) rfl
  have hKc := hK.sub (tys' := []) [] rfl
  have hFc := va_free (wc := []) hD hS hA [] rfl
  refine va_calli (va_runS (As := [.int aw]) (rest := []) ⟨hx, hb, hml, hown, hts⟩ (k_X8_isSide l D s.heap.size aw) (va_cwS 1 hts (gS bw_247 bw_353 bw_223 bw_352) rfl rfl rfl (by decide +kernel) ⟨(by rw [hR]; exact Nat.le_of_ble_eq_true rfl), (by rw [hR]; exact Nat.le_of_ble_eq_true rfl)⟩) ⟨cP_blind, cP_at hPc hKc hDc hN⟩ rfl rfl hl.1 rfl (lv_room (Nat.le_of_ble_eq_true rfl)) dX8_stretch_2 ⟨(by rw [hR]; exact Nat.le_of_ble_eq_true rfl), (by rw [hR]; exact Nat.le_of_ble_eq_true rfl)⟩) hS (fun q _ h => hFc q h) hFc (fun r_1 u9 t9 H1 locs ht hvm hr_1 hB hz1 hk1 hS => ?_)
  try dsimp only at hr_1
  have hP1 : va_P D vwCl [] H1 := vP_nil
  have hD1 : va_D (va_A [] s.heap.size) [] := vD_nil
  obtain ⟨hP, hD⟩ := va_join (wr := [(h0, .inr (8, [.ref s1, .ref s2, .ref s3, .ref s4, .ref s5, .ref s6, .int ds, va_rf sp, .ref bq])), (s1, .inl (cO, 4, .inr (.inr (.inr (.inr f))))), (s2, .inr (1, [.ref bx, .int ik, .int wy, .int op])), (bx, .inr (0, [.int bx0, .int by0, .int bx1, .int by1])), (t0, .inr (5, [.ref d0, .int w, .int h])), (d0, .inl (cI, 4096, .inl g)), (bq, .inr (5, [.ref bd, .int bw, .int bh])), (bd, .inl (cI, 4096, .inl gb))]) (w1 := []) hP hD [] [0, 1, 2, 3, 4, 5, 6, 7] rfl rfl (by decide) (by decide) hk1 hFc hP1 hD1
  clear hz1 hk1 hFc hKc hDc hPc
  generalize H1 = H at hP hS ⊢
  have hP : va_P D vwCl [(h0, .inr (8, [.ref s1, .ref s2, .ref s3, .ref s4, .ref s5, .ref s6, .int ds, va_rf sp, .ref bq])), (s1, .inl (cO, 4, .inr (.inr (.inr (.inr f))))), (s2, .inr (1, [.ref bx, .int ik, .int wy, .int op])), (bx, .inr (0, [.int bx0, .int by0, .int bx1, .int by1])), (t0, .inr (5, [.ref d0, .int w, .int h])), (d0, .inl (cI, 4096, .inl g)), (bq, .inr (5, [.ref bd, .int bw, .int bh])), (bd, .inl (cI, 4096, .inl gb))] H := hP
  have hD : va_D A [(h0, .inr (8, [.ref s1, .ref s2, .ref s3, .ref s4, .ref s5, .ref s6, .int ds, va_rf sp, .ref bq])), (s1, .inl (cO, 4, .inr (.inr (.inr (.inr f))))), (s2, .inr (1, [.ref bx, .int ik, .int wy, .int op])), (bx, .inr (0, [.int bx0, .int by0, .int bx1, .int by1])), (t0, .inr (5, [.ref d0, .int w, .int h])), (d0, .inl (cI, 4096, .inl g)), (bq, .inr (5, [.ref bd, .int bw, .int bh])), (bd, .inl (cI, 4096, .inl gb))] := hD
  refine lv_if_eq (tgt := 32) hx hb dX8_stretch_5 (by decide) (fun c_2 => ?_) (fun c_2 => ?_)
  · skip
    have f_3 := bz0 hr_1 c_2
    exact False.elim (by omega)
  · skip
    have f_3 := bz1 hr_1 c_2
    refine lv_iload hx hb dX8_stretch_8 (lv_at hl 5 rfl) ?_
    have hPc := hP.sub (ws' := []) [] rfl
    have hDc := hD.sub (ws' := []) [] (by decide) rfl
    have hKc := hK.sub (tys' := []) [] rfl
    have hFc := va_free (wc := []) hD hS hA [] rfl
    refine va_calli (va_runS (As := [.int ah]) (rest := []) ⟨hx, hb, hml, hown, hts⟩ (k_X8_isSide l D H.size ah) (va_cwS 1 hts (gS bw_247 bw_353 bw_223 bw_352) rfl rfl rfl (by decide +kernel) ⟨(by rw [hR]; exact Nat.le_of_ble_eq_true rfl), (by rw [hR]; exact Nat.le_of_ble_eq_true rfl)⟩) ⟨cP_blind, cP_at hPc hKc hDc hN⟩ rfl rfl hl.1 rfl (lv_room (Nat.le_of_ble_eq_true rfl)) dX8_stretch_10 ⟨(by rw [hR]; exact Nat.le_of_ble_eq_true rfl), (by rw [hR]; exact Nat.le_of_ble_eq_true rfl)⟩) hS (fun q _ h => hFc q h) hFc (fun r_4 u9 t9 H1 locs ht hvm hr_4 hB hz1 hk1 hS => ?_)
    try dsimp only at hr_4
    have hP1 : va_P D vwCl [] H1 := vP_nil
    have hD1 : va_D (va_A [] H.size) [] := vD_nil
    obtain ⟨hP, hD⟩ := va_join (wr := [(h0, .inr (8, [.ref s1, .ref s2, .ref s3, .ref s4, .ref s5, .ref s6, .int ds, va_rf sp, .ref bq])), (s1, .inl (cO, 4, .inr (.inr (.inr (.inr f))))), (s2, .inr (1, [.ref bx, .int ik, .int wy, .int op])), (bx, .inr (0, [.int bx0, .int by0, .int bx1, .int by1])), (t0, .inr (5, [.ref d0, .int w, .int h])), (d0, .inl (cI, 4096, .inl g)), (bq, .inr (5, [.ref bd, .int bw, .int bh])), (bd, .inl (cI, 4096, .inl gb))]) (w1 := []) hP hD [] [0, 1, 2, 3, 4, 5, 6, 7] rfl rfl (by decide) (by decide) hk1 hFc hP1 hD1
    clear hz1 hk1 hFc hKc hDc hPc
    generalize H1 = H at hP hS ⊢
    have hP : va_P D vwCl [(h0, .inr (8, [.ref s1, .ref s2, .ref s3, .ref s4, .ref s5, .ref s6, .int ds, va_rf sp, .ref bq])), (s1, .inl (cO, 4, .inr (.inr (.inr (.inr f))))), (s2, .inr (1, [.ref bx, .int ik, .int wy, .int op])), (bx, .inr (0, [.int bx0, .int by0, .int bx1, .int by1])), (t0, .inr (5, [.ref d0, .int w, .int h])), (d0, .inl (cI, 4096, .inl g)), (bq, .inr (5, [.ref bd, .int bw, .int bh])), (bd, .inl (cI, 4096, .inl gb))] H := hP
    have hD : va_D A [(h0, .inr (8, [.ref s1, .ref s2, .ref s3, .ref s4, .ref s5, .ref s6, .int ds, va_rf sp, .ref bq])), (s1, .inl (cO, 4, .inr (.inr (.inr (.inr f))))), (s2, .inr (1, [.ref bx, .int ik, .int wy, .int op])), (bx, .inr (0, [.int bx0, .int by0, .int bx1, .int by1])), (t0, .inr (5, [.ref d0, .int w, .int h])), (d0, .inl (cI, 4096, .inl g)), (bq, .inr (5, [.ref bd, .int bw, .int bh])), (bd, .inl (cI, 4096, .inl gb))] := hD
    refine lv_if_eq (tgt := 32) hx hb dX8_stretch_13 (by decide) (fun c_5 => ?_) (fun c_5 => ?_)
    · skip
      have f_6 := bz0 hr_4 c_5
      exact False.elim (by omega)
    · skip
      have f_6 := bz1 hr_4 c_5
      refine lv_iload hx hb dX8_stretch_16 (lv_at hl 9 rfl) ?_
      have hPc := hP.sub (ws' := []) [] rfl
      have hDc := hD.sub (ws' := []) [] (by decide) rfl
      have hKc := hK.sub (tys' := []) [] rfl
      have hFc := va_free (wc := []) hD hS hA [] rfl
      refine va_calli (va_runS (As := [.int ow]) (rest := []) ⟨hx, hb, hml, hown, hts⟩ (k_X8_isSide l D H.size ow) (va_cwS 1 hts (gS bw_247 bw_353 bw_223 bw_352) rfl rfl rfl (by decide +kernel) ⟨(by rw [hR]; exact Nat.le_of_ble_eq_true rfl), (by rw [hR]; exact Nat.le_of_ble_eq_true rfl)⟩) ⟨cP_blind, cP_at hPc hKc hDc hN⟩ rfl rfl hl.1 rfl (lv_room (Nat.le_of_ble_eq_true rfl)) dX8_stretch_18 ⟨(by rw [hR]; exact Nat.le_of_ble_eq_true rfl), (by rw [hR]; exact Nat.le_of_ble_eq_true rfl)⟩) hS (fun q _ h => hFc q h) hFc (fun r_7 u9 t9 H1 locs ht hvm hr_7 hB hz1 hk1 hS => ?_)
      try dsimp only at hr_7
      have hP1 : va_P D vwCl [] H1 := vP_nil
      have hD1 : va_D (va_A [] H.size) [] := vD_nil
      obtain ⟨hP, hD⟩ := va_join (wr := [(h0, .inr (8, [.ref s1, .ref s2, .ref s3, .ref s4, .ref s5, .ref s6, .int ds, va_rf sp, .ref bq])), (s1, .inl (cO, 4, .inr (.inr (.inr (.inr f))))), (s2, .inr (1, [.ref bx, .int ik, .int wy, .int op])), (bx, .inr (0, [.int bx0, .int by0, .int bx1, .int by1])), (t0, .inr (5, [.ref d0, .int w, .int h])), (d0, .inl (cI, 4096, .inl g)), (bq, .inr (5, [.ref bd, .int bw, .int bh])), (bd, .inl (cI, 4096, .inl gb))]) (w1 := []) hP hD [] [0, 1, 2, 3, 4, 5, 6, 7] rfl rfl (by decide) (by decide) hk1 hFc hP1 hD1
      clear hz1 hk1 hFc hKc hDc hPc
      generalize H1 = H at hP hS ⊢
      have hP : va_P D vwCl [(h0, .inr (8, [.ref s1, .ref s2, .ref s3, .ref s4, .ref s5, .ref s6, .int ds, va_rf sp, .ref bq])), (s1, .inl (cO, 4, .inr (.inr (.inr (.inr f))))), (s2, .inr (1, [.ref bx, .int ik, .int wy, .int op])), (bx, .inr (0, [.int bx0, .int by0, .int bx1, .int by1])), (t0, .inr (5, [.ref d0, .int w, .int h])), (d0, .inl (cI, 4096, .inl g)), (bq, .inr (5, [.ref bd, .int bw, .int bh])), (bd, .inl (cI, 4096, .inl gb))] H := hP
      have hD : va_D A [(h0, .inr (8, [.ref s1, .ref s2, .ref s3, .ref s4, .ref s5, .ref s6, .int ds, va_rf sp, .ref bq])), (s1, .inl (cO, 4, .inr (.inr (.inr (.inr f))))), (s2, .inr (1, [.ref bx, .int ik, .int wy, .int op])), (bx, .inr (0, [.int bx0, .int by0, .int bx1, .int by1])), (t0, .inr (5, [.ref d0, .int w, .int h])), (d0, .inl (cI, 4096, .inl g)), (bq, .inr (5, [.ref bd, .int bw, .int bh])), (bd, .inl (cI, 4096, .inl gb))] := hD
      refine lv_if_eq (tgt := 32) hx hb dX8_stretch_21 (by decide) (fun c_8 => ?_) (fun c_8 => ?_)
      · skip
        have f_9 := bz0 hr_7 c_8
        exact False.elim (by omega)
      · skip
        have f_9 := bz1 hr_7 c_8
        refine lv_iload hx hb dX8_stretch_24 (lv_at hl 10 rfl) ?_
        have hPc := hP.sub (ws' := []) [] rfl
        have hDc := hD.sub (ws' := []) [] (by decide) rfl
        have hKc := hK.sub (tys' := []) [] rfl
        have hFc := va_free (wc := []) hD hS hA [] rfl
        refine va_calli (va_runS (As := [.int oh]) (rest := []) ⟨hx, hb, hml, hown, hts⟩ (k_X8_isSide l D H.size oh) (va_cwS 1 hts (gS bw_247 bw_353 bw_223 bw_352) rfl rfl rfl (by decide +kernel) ⟨(by rw [hR]; exact Nat.le_of_ble_eq_true rfl), (by rw [hR]; exact Nat.le_of_ble_eq_true rfl)⟩) ⟨cP_blind, cP_at hPc hKc hDc hN⟩ rfl rfl hl.1 rfl (lv_room (Nat.le_of_ble_eq_true rfl)) dX8_stretch_26 ⟨(by rw [hR]; exact Nat.le_of_ble_eq_true rfl), (by rw [hR]; exact Nat.le_of_ble_eq_true rfl)⟩) hS (fun q _ h => hFc q h) hFc (fun r_10 u9 t9 H1 locs ht hvm hr_10 hB hz1 hk1 hS => ?_)
        try dsimp only at hr_10
        have hP1 : va_P D vwCl [] H1 := vP_nil
        have hD1 : va_D (va_A [] H.size) [] := vD_nil
        obtain ⟨hP, hD⟩ := va_join (wr := [(h0, .inr (8, [.ref s1, .ref s2, .ref s3, .ref s4, .ref s5, .ref s6, .int ds, va_rf sp, .ref bq])), (s1, .inl (cO, 4, .inr (.inr (.inr (.inr f))))), (s2, .inr (1, [.ref bx, .int ik, .int wy, .int op])), (bx, .inr (0, [.int bx0, .int by0, .int bx1, .int by1])), (t0, .inr (5, [.ref d0, .int w, .int h])), (d0, .inl (cI, 4096, .inl g)), (bq, .inr (5, [.ref bd, .int bw, .int bh])), (bd, .inl (cI, 4096, .inl gb))]) (w1 := []) hP hD [] [0, 1, 2, 3, 4, 5, 6, 7] rfl rfl (by decide) (by decide) hk1 hFc hP1 hD1
        clear hz1 hk1 hFc hKc hDc hPc
        generalize H1 = H at hP hS ⊢
        have hP : va_P D vwCl [(h0, .inr (8, [.ref s1, .ref s2, .ref s3, .ref s4, .ref s5, .ref s6, .int ds, va_rf sp, .ref bq])), (s1, .inl (cO, 4, .inr (.inr (.inr (.inr f))))), (s2, .inr (1, [.ref bx, .int ik, .int wy, .int op])), (bx, .inr (0, [.int bx0, .int by0, .int bx1, .int by1])), (t0, .inr (5, [.ref d0, .int w, .int h])), (d0, .inl (cI, 4096, .inl g)), (bq, .inr (5, [.ref bd, .int bw, .int bh])), (bd, .inl (cI, 4096, .inl gb))] H := hP
        have hD : va_D A [(h0, .inr (8, [.ref s1, .ref s2, .ref s3, .ref s4, .ref s5, .ref s6, .int ds, va_rf sp, .ref bq])), (s1, .inl (cO, 4, .inr (.inr (.inr (.inr f))))), (s2, .inr (1, [.ref bx, .int ik, .int wy, .int op])), (bx, .inr (0, [.int bx0, .int by0, .int bx1, .int by1])), (t0, .inr (5, [.ref d0, .int w, .int h])), (d0, .inl (cI, 4096, .inl g)), (bq, .inr (5, [.ref bd, .int bw, .int bh])), (bd, .inl (cI, 4096, .inl gb))] := hD
        refine lv_if_ne (tgt := 34) hx hb dX8_stretch_29 (by decide) (fun c_11 => ?_) (fun c_11 => ?_)
        · skip
          have f_12 := bz1 hr_10 c_11
          refine lv_aload_n hx hb dX8_stretch_34 rfl (lv_at hl 0 rfl) ?_
          refine lv_iload_n hx hb dX8_stretch_35 rfl (lv_at hl 1 rfl) ?_
          refine va_new (ci := 2) (fs := [.int 0, .int 0, .int 0, .int 0]) (C := RX2) (T := TX2) (N := 4) hx hb hts hi_X2 tyX2 tyX2_ok hown (hts _ bw_316) (hts _ bw_56) (hts _ bw_55) hK hP hD hS hA rfl z_X2 (by rw [hR]; exact Nat.le_of_ble_eq_true rfl) (by rw [hR]; exact Nat.le_of_ble_eq_true rfl) dX8_stretch_36 (fun q_13 H hP hD hS => ?_)
          have hP : va_P D vwCl [(h0, .inr (8, [.ref s1, .ref s2, .ref s3, .ref s4, .ref s5, .ref s6, .int ds, va_rf sp, .ref bq])), (s1, .inl (cO, 4, .inr (.inr (.inr (.inr f))))), (s2, .inr (1, [.ref bx, .int ik, .int wy, .int op])), (bx, .inr (0, [.int bx0, .int by0, .int bx1, .int by1])), (t0, .inr (5, [.ref d0, .int w, .int h])), (d0, .inl (cI, 4096, .inl g)), (bq, .inr (5, [.ref bd, .int bw, .int bh])), (bd, .inl (cI, 4096, .inl gb)), (q_13, .inr (2, [.int 0, .int 0, .int 0, .int 0]))] H := hP
          have hD : va_D A [(h0, .inr (8, [.ref s1, .ref s2, .ref s3, .ref s4, .ref s5, .ref s6, .int ds, va_rf sp, .ref bq])), (s1, .inl (cO, 4, .inr (.inr (.inr (.inr f))))), (s2, .inr (1, [.ref bx, .int ik, .int wy, .int op])), (bx, .inr (0, [.int bx0, .int by0, .int bx1, .int by1])), (t0, .inr (5, [.ref d0, .int w, .int h])), (d0, .inl (cI, 4096, .inl g)), (bq, .inr (5, [.ref bd, .int bw, .int bh])), (bd, .inl (cI, 4096, .inl gb)), (q_13, .inr (2, [.int 0, .int 0, .int 0, .int 0]))] := hD
          refine W.widen (k := 1) (n := 4) (by omega) (by omega) ?_
          refine lv_dup hx hb dX8_stretch_39 rfl ?_
          refine lv_iload_n hx hb dX8_stretch_40 rfl (lv_at hl 2 rfl) ?_
          refine lv_iload_n hx hb dX8_stretch_41 rfl (lv_at hl 3 rfl) ?_
          refine lv_iload hx hb dX8_stretch_42 (lv_at hl 4 rfl) ?_
          refine lv_iload hx hb dX8_stretch_44 (lv_at hl 5 rfl) ?_
          have hPc := hP.sub (ws' := [(q_13, .inr (2, [.int 0, .int 0, .int 0, .int 0]))]) [8] rfl
          have hDc := hD.sub (ws' := [(q_13, .inr (2, [.int 0, .int 0, .int 0, .int 0]))]) [8] (by decide) rfl
          have hKc := hK.sub (tys' := []) [] rfl
          have hFc := va_free (wc := [(q_13, .inr (2, [.int 0, .int 0, .int 0, .int 0]))]) hD hS hA [8] rfl
          refine va_callv (va_runI (As := [.int ax, .int ay, .int aw, .int ah]) (rest := [.ref q_13, .int k, .ref h0]) ⟨hx, hb, hml, hown, hts⟩ (k_X2_init l D H.size q_13 ax ay aw ah) (cwI 4 hts (gI bw_57) rfl rfl rfl (hts _ bw_55) (hts _ bw_317) (hts _ bw_58) rfl (by decide +kernel) ⟨(by rw [hR]; exact Nat.le_of_ble_eq_true rfl), (by rw [hR]; exact Nat.le_of_ble_eq_true rfl)⟩) ⟨cP_blind, cP_at hPc hKc hDc hN⟩ rfl rfl hl.1 rfl (lv_room (Nat.le_of_ble_eq_true rfl)) dX8_stretch_46 ⟨(by rw [hR]; exact Nat.le_of_ble_eq_true rfl), (by rw [hR]; exact Nat.le_of_ble_eq_true rfl)⟩) hS (fun q _ h => hFc q h) hFc (fun u9 t9 H1 locs ht hvm hr_14 hB hz1 hk1 hS => ?_)
          try dsimp only at hr_14
          obtain ⟨hP1, hK1, hD1⟩ := hB
          rw [ht] at hP1
          obtain ⟨hP, hD⟩ := va_join (wr := [(h0, .inr (8, [.ref s1, .ref s2, .ref s3, .ref s4, .ref s5, .ref s6, .int ds, va_rf sp, .ref bq])), (s1, .inl (cO, 4, .inr (.inr (.inr (.inr f))))), (s2, .inr (1, [.ref bx, .int ik, .int wy, .int op])), (bx, .inr (0, [.int bx0, .int by0, .int bx1, .int by1])), (t0, .inr (5, [.ref d0, .int w, .int h])), (d0, .inl (cI, 4096, .inl g)), (bq, .inr (5, [.ref bd, .int bw, .int bh])), (bd, .inl (cI, 4096, .inl gb))]) (w1 := [(q_13, .inr (2, [.int ax, .int ay, .int aw, .int ah]))]) hP hD [8] [0, 1, 2, 3, 4, 5, 6, 7] rfl rfl (by decide) (by decide) hk1 hFc hP1 hD1
          clear hz1 hk1 hFc hKc hDc hPc
          generalize H1 = H at hP hS ⊢
          have hP : va_P D vwCl [(h0, .inr (8, [.ref s1, .ref s2, .ref s3, .ref s4, .ref s5, .ref s6, .int ds, va_rf sp, .ref bq])), (s1, .inl (cO, 4, .inr (.inr (.inr (.inr f))))), (s2, .inr (1, [.ref bx, .int ik, .int wy, .int op])), (bx, .inr (0, [.int bx0, .int by0, .int bx1, .int by1])), (t0, .inr (5, [.ref d0, .int w, .int h])), (d0, .inl (cI, 4096, .inl g)), (bq, .inr (5, [.ref bd, .int bw, .int bh])), (bd, .inl (cI, 4096, .inl gb)), (q_13, .inr (2, [.int ax, .int ay, .int aw, .int ah]))] H := hP
          have hD : va_D A [(h0, .inr (8, [.ref s1, .ref s2, .ref s3, .ref s4, .ref s5, .ref s6, .int ds, va_rf sp, .ref bq])), (s1, .inl (cO, 4, .inr (.inr (.inr (.inr f))))), (s2, .inr (1, [.ref bx, .int ik, .int wy, .int op])), (bx, .inr (0, [.int bx0, .int by0, .int bx1, .int by1])), (t0, .inr (5, [.ref d0, .int w, .int h])), (d0, .inl (cI, 4096, .inl g)), (bq, .inr (5, [.ref bd, .int bw, .int bh])), (bd, .inl (cI, 4096, .inl gb)), (q_13, .inr (2, [.int ax, .int ay, .int aw, .int ah]))] := hD
          refine lv_iload hx hb dX8_stretch_49 (lv_at hl 6 rfl) ?_
          refine va_new (ci := 2) (fs := [.int 0, .int 0, .int 0, .int 0]) (C := RX2) (T := TX2) (N := 4) hx hb hts hi_X2 tyX2 tyX2_ok hown (hts _ bw_316) (hts _ bw_56) (hts _ bw_55) hK hP hD hS hA rfl z_X2 (by rw [hR]; exact Nat.le_of_ble_eq_true rfl) (by rw [hR]; exact Nat.le_of_ble_eq_true rfl) dX8_stretch_51 (fun q_15 H hP hD hS => ?_)
          have hP : va_P D vwCl [(h0, .inr (8, [.ref s1, .ref s2, .ref s3, .ref s4, .ref s5, .ref s6, .int ds, va_rf sp, .ref bq])), (s1, .inl (cO, 4, .inr (.inr (.inr (.inr f))))), (s2, .inr (1, [.ref bx, .int ik, .int wy, .int op])), (bx, .inr (0, [.int bx0, .int by0, .int bx1, .int by1])), (t0, .inr (5, [.ref d0, .int w, .int h])), (d0, .inl (cI, 4096, .inl g)), (bq, .inr (5, [.ref bd, .int bw, .int bh])), (bd, .inl (cI, 4096, .inl gb)), (q_13, .inr (2, [.int ax, .int ay, .int aw, .int ah])), (q_15, .inr (2, [.int 0, .int 0, .int 0, .int 0]))] H := hP
          have hD : va_D A [(h0, .inr (8, [.ref s1, .ref s2, .ref s3, .ref s4, .ref s5, .ref s6, .int ds, va_rf sp, .ref bq])), (s1, .inl (cO, 4, .inr (.inr (.inr (.inr f))))), (s2, .inr (1, [.ref bx, .int ik, .int wy, .int op])), (bx, .inr (0, [.int bx0, .int by0, .int bx1, .int by1])), (t0, .inr (5, [.ref d0, .int w, .int h])), (d0, .inl (cI, 4096, .inl g)), (bq, .inr (5, [.ref bd, .int bw, .int bh])), (bd, .inl (cI, 4096, .inl gb)), (q_13, .inr (2, [.int ax, .int ay, .int aw, .int ah])), (q_15, .inr (2, [.int 0, .int 0, .int 0, .int 0]))] := hD
          refine W.widen (k := 2) (n := 8) (by omega) (by omega) ?_
          refine lv_dup hx hb dX8_stretch_54 rfl ?_
          refine lv_iload hx hb dX8_stretch_55 (lv_at hl 7 rfl) ?_
          refine lv_iload hx hb dX8_stretch_57 (lv_at hl 8 rfl) ?_
          refine lv_iload hx hb dX8_stretch_59 (lv_at hl 9 rfl) ?_
          refine lv_iload hx hb dX8_stretch_61 (lv_at hl 10 rfl) ?_
          have hPc := hP.sub (ws' := [(q_15, .inr (2, [.int 0, .int 0, .int 0, .int 0]))]) [9] rfl
          have hDc := hD.sub (ws' := [(q_15, .inr (2, [.int 0, .int 0, .int 0, .int 0]))]) [9] (by decide) rfl
          have hKc := hK.sub (tys' := []) [] rfl
          have hFc := va_free (wc := [(q_15, .inr (2, [.int 0, .int 0, .int 0, .int 0]))]) hD hS hA [9] rfl
          refine va_callv (va_runI (As := [.int ox, .int oy, .int ow, .int oh]) (rest := [.ref q_15, .int kq, .ref q_13, .int k, .ref h0]) ⟨hx, hb, hml, hown, hts⟩ (k_X2_init l D H.size q_15 ox oy ow oh) (cwI 4 hts (gI bw_57) rfl rfl rfl (hts _ bw_55) (hts _ bw_317) (hts _ bw_58) rfl (by decide +kernel) ⟨(by rw [hR]; exact Nat.le_of_ble_eq_true rfl), (by rw [hR]; exact Nat.le_of_ble_eq_true rfl)⟩) ⟨cP_blind, cP_at hPc hKc hDc hN⟩ rfl rfl hl.1 rfl (lv_room (Nat.le_of_ble_eq_true rfl)) dX8_stretch_63 ⟨(by rw [hR]; exact Nat.le_of_ble_eq_true rfl), (by rw [hR]; exact Nat.le_of_ble_eq_true rfl)⟩) hS (fun q _ h => hFc q h) hFc (fun u9 t9 H1 locs ht hvm hr_16 hB hz1 hk1 hS => ?_)
          try dsimp only at hr_16
          obtain ⟨hP1, hK1, hD1⟩ := hB
          rw [ht] at hP1
          obtain ⟨hP, hD⟩ := va_join (wr := [(h0, .inr (8, [.ref s1, .ref s2, .ref s3, .ref s4, .ref s5, .ref s6, .int ds, va_rf sp, .ref bq])), (s1, .inl (cO, 4, .inr (.inr (.inr (.inr f))))), (s2, .inr (1, [.ref bx, .int ik, .int wy, .int op])), (bx, .inr (0, [.int bx0, .int by0, .int bx1, .int by1])), (t0, .inr (5, [.ref d0, .int w, .int h])), (d0, .inl (cI, 4096, .inl g)), (bq, .inr (5, [.ref bd, .int bw, .int bh])), (bd, .inl (cI, 4096, .inl gb)), (q_13, .inr (2, [.int ax, .int ay, .int aw, .int ah]))]) (w1 := [(q_15, .inr (2, [.int ox, .int oy, .int ow, .int oh]))]) hP hD [9] [0, 1, 2, 3, 4, 5, 6, 7, 8] rfl rfl (by decide) (by decide) hk1 hFc hP1 hD1
          clear hz1 hk1 hFc hKc hDc hPc
          generalize H1 = H at hP hS ⊢
          have hP : va_P D vwCl [(h0, .inr (8, [.ref s1, .ref s2, .ref s3, .ref s4, .ref s5, .ref s6, .int ds, va_rf sp, .ref bq])), (s1, .inl (cO, 4, .inr (.inr (.inr (.inr f))))), (s2, .inr (1, [.ref bx, .int ik, .int wy, .int op])), (bx, .inr (0, [.int bx0, .int by0, .int bx1, .int by1])), (t0, .inr (5, [.ref d0, .int w, .int h])), (d0, .inl (cI, 4096, .inl g)), (bq, .inr (5, [.ref bd, .int bw, .int bh])), (bd, .inl (cI, 4096, .inl gb)), (q_13, .inr (2, [.int ax, .int ay, .int aw, .int ah])), (q_15, .inr (2, [.int ox, .int oy, .int ow, .int oh]))] H := hP
          have hD : va_D A [(h0, .inr (8, [.ref s1, .ref s2, .ref s3, .ref s4, .ref s5, .ref s6, .int ds, va_rf sp, .ref bq])), (s1, .inl (cO, 4, .inr (.inr (.inr (.inr f))))), (s2, .inr (1, [.ref bx, .int ik, .int wy, .int op])), (bx, .inr (0, [.int bx0, .int by0, .int bx1, .int by1])), (t0, .inr (5, [.ref d0, .int w, .int h])), (d0, .inl (cI, 4096, .inl g)), (bq, .inr (5, [.ref bd, .int bw, .int bh])), (bd, .inl (cI, 4096, .inl gb)), (q_13, .inr (2, [.int ax, .int ay, .int aw, .int ah])), (q_15, .inr (2, [.int ox, .int oy, .int ow, .int oh]))] := hD
          have hPc := hP.sub (ws' := [(h0, .inr (8, [.ref s1, .ref s2, .ref s3, .ref s4, .ref s5, .ref s6, .int ds, va_rf sp, .ref bq])), (s1, .inl (cO, 4, .inr (.inr (.inr (.inr f))))), (s2, .inr (1, [.ref bx, .int ik, .int wy, .int op])), (bx, .inr (0, [.int bx0, .int by0, .int bx1, .int by1])), (t0, .inr (5, [.ref d0, .int w, .int h])), (d0, .inl (cI, 4096, .inl g)), (bq, .inr (5, [.ref bd, .int bw, .int bh])), (bd, .inl (cI, 4096, .inl gb)), (q_13, .inr (2, [.int ax, .int ay, .int aw, .int ah])), (q_15, .inr (2, [.int ox, .int oy, .int ow, .int oh]))]) [0, 1, 2, 3, 4, 5, 6, 7, 8, 9] rfl
          have hDc := hD.sub (ws' := [(h0, .inr (8, [.ref s1, .ref s2, .ref s3, .ref s4, .ref s5, .ref s6, .int ds, va_rf sp, .ref bq])), (s1, .inl (cO, 4, .inr (.inr (.inr (.inr f))))), (s2, .inr (1, [.ref bx, .int ik, .int wy, .int op])), (bx, .inr (0, [.int bx0, .int by0, .int bx1, .int by1])), (t0, .inr (5, [.ref d0, .int w, .int h])), (d0, .inl (cI, 4096, .inl g)), (bq, .inr (5, [.ref bd, .int bw, .int bh])), (bd, .inl (cI, 4096, .inl gb)), (q_13, .inr (2, [.int ax, .int ay, .int aw, .int ah])), (q_15, .inr (2, [.int ox, .int oy, .int ow, .int oh]))]) [0, 1, 2, 3, 4, 5, 6, 7, 8, 9] (by decide) rfl
          have hKc := hK.sub (tys' := [(cO, .object "DotBench$Sheet"), (cI, .int)]) [0, 1] rfl
          have hFc := va_free (wc := [(h0, .inr (8, [.ref s1, .ref s2, .ref s3, .ref s4, .ref s5, .ref s6, .int ds, va_rf sp, .ref bq])), (s1, .inl (cO, 4, .inr (.inr (.inr (.inr f))))), (s2, .inr (1, [.ref bx, .int ik, .int wy, .int op])), (bx, .inr (0, [.int bx0, .int by0, .int bx1, .int by1])), (t0, .inr (5, [.ref d0, .int w, .int h])), (d0, .inl (cI, 4096, .inl g)), (bq, .inr (5, [.ref bd, .int bw, .int bh])), (bd, .inl (cI, 4096, .inl gb)), (q_13, .inr (2, [.int ax, .int ay, .int aw, .int ah])), (q_15, .inr (2, [.int ox, .int oy, .int ow, .int oh]))]) hD hS hA [0, 1, 2, 3, 4, 5, 6, 7, 8, 9] rfl
          refine va_calli (va_runV (As := [.int k, .ref q_13, .int kq, .ref q_15]) (rest := []) ⟨hx, hb, hml, hown, hts⟩ (k_X8_carry_s1 l D H.size h0 s1 s2 s3 s4 s5 s6 ds sp f bx t0 d0 ik wy op bx0 by0 bx1 by1 w h g bq bd bw bh gb q_13 q_15 ax ay aw ah ox oy ow oh k kq cO cI (by first | assumption | omega | decide) (by first | assumption | omega | decide) (by first | assumption | omega | decide) (by first | assumption | omega | decide) (by first | assumption | omega | decide) (by first | assumption | omega | decide) (by first | assumption | omega | decide) (by first | assumption | omega | decide) (by first | assumption | omega | decide) (by first | assumption | omega | decide) (by first | assumption | omega | decide)) (cwV 4 hts (gV bw_318 bw_383 bw_384 bw_223 bw_382) rfl rfl rfl (by decide +kernel) ⟨(by rw [hR]; exact Nat.le_of_ble_eq_true rfl), (by rw [hR]; exact Nat.le_of_ble_eq_true rfl)⟩) ⟨cP_blind, va_recv hKc hPc (ci := 8) (q0 := 0) rfl rfl, cP_at hPc hKc hDc hN⟩ rfl rfl hl.1 rfl (lv_room (Nat.le_of_ble_eq_true rfl)) dX8_stretch_66 ⟨(by rw [hR]; exact Nat.le_of_ble_eq_true rfl), (by rw [hR]; exact Nat.le_of_ble_eq_true rfl)⟩) hS (fun q _ h => hFc q h) hFc (fun r_17 u9 t9 H1 locs ht hvm hr_17 hB hz1 hk1 hS => ?_)
          try dsimp only at hr_17
          obtain ⟨g_18, g_19, hP1, hK1, hD1⟩ := hB
          rw [ht] at hP1
          obtain ⟨hP, hD⟩ := va_join (wr := []) (w1 := [(h0, .inr (8, [.ref s1, .ref s2, .ref s3, .ref s4, .ref s5, .ref s6, .int ds, va_rf sp, .ref bq])), (s1, .inl (cO, 4, .inr (.inr (.inr (.inr f))))), (s2, .inr (1, [.ref bx, .int ik, .int wy, .int op])), (bx, .inr (0, [.int bx0, .int by0, .int bx1, .int by1])), (t0, .inr (5, [.ref d0, .int w, .int h])), (d0, .inl (cI, 4096, .inl g_18)), (bq, .inr (5, [.ref bd, .int w, .int h])), (bd, .inl (cI, 4096, .inl g_19))]) hP hD [0, 1, 2, 3, 4, 5, 6, 7, 8, 9] [] rfl rfl (by decide) (by decide) hk1 hFc hP1 hD1
          clear hz1 hk1 hFc hKc hDc hPc
          generalize H1 = H at hP hS ⊢
          have hP : va_P D vwCl [(h0, .inr (8, [.ref s1, .ref s2, .ref s3, .ref s4, .ref s5, .ref s6, .int ds, va_rf sp, .ref bq])), (s1, .inl (cO, 4, .inr (.inr (.inr (.inr f))))), (s2, .inr (1, [.ref bx, .int ik, .int wy, .int op])), (bx, .inr (0, [.int bx0, .int by0, .int bx1, .int by1])), (t0, .inr (5, [.ref d0, .int w, .int h])), (d0, .inl (cI, 4096, .inl g_18)), (bq, .inr (5, [.ref bd, .int w, .int h])), (bd, .inl (cI, 4096, .inl g_19))] H := hP
          have hD : va_D A [(h0, .inr (8, [.ref s1, .ref s2, .ref s3, .ref s4, .ref s5, .ref s6, .int ds, va_rf sp, .ref bq])), (s1, .inl (cO, 4, .inr (.inr (.inr (.inr f))))), (s2, .inr (1, [.ref bx, .int ik, .int wy, .int op])), (bx, .inr (0, [.int bx0, .int by0, .int bx1, .int by1])), (t0, .inr (5, [.ref d0, .int w, .int h])), (d0, .inl (cI, 4096, .inl g_18)), (bq, .inr (5, [.ref bd, .int w, .int h])), (bd, .inl (cI, 4096, .inl g_19))] := hD
          have hP9 := hP.sub (ws' := [(h0, .inr (8, [.ref s1, .ref s2, .ref s3, .ref s4, .ref s5, .ref s6, .int ds, va_rf sp, .ref bq])), (s1, .inl (cO, 4, .inr (.inr (.inr (.inr f))))), (s2, .inr (1, [.ref bx, .int ik, .int wy, .int op])), (bx, .inr (0, [.int bx0, .int by0, .int bx1, .int by1])), (t0, .inr (5, [.ref d0, .int w, .int h])), (d0, .inl (cI, 4096, .inl g_18)), (bq, .inr (5, [.ref bd, .int w, .int h])), (bd, .inl (cI, 4096, .inl g_19))]) [0, 1, 2, 3, 4, 5, 6, 7] rfl
          have hD9 := hD.sub (ws' := [(h0, .inr (8, [.ref s1, .ref s2, .ref s3, .ref s4, .ref s5, .ref s6, .int ds, va_rf sp, .ref bq])), (s1, .inl (cO, 4, .inr (.inr (.inr (.inr f))))), (s2, .inr (1, [.ref bx, .int ik, .int wy, .int op])), (bx, .inr (0, [.int bx0, .int by0, .int bx1, .int by1])), (t0, .inr (5, [.ref d0, .int w, .int h])), (d0, .inl (cI, 4096, .inl g_18)), (bq, .inr (5, [.ref bd, .int w, .int h])), (bd, .inl (cI, 4096, .inl g_19))]) [0, 1, 2, 3, 4, 5, 6, 7] (by decide) rfl
          have hK9 := hK.sub (tys' := [(cO, .object "DotBench$Sheet"), (cI, .int)]) [0, 1] rfl
          refine hQ _ _ _ _ _ ?_
          exact W.iret (v := r_17) hx hb hr (fun t ht hW => ⟨⟨r_17, (), rfl, hr_17, ⟨g_18, g_19, by rw [ht]; exact hP9, va_K.moved hW.alike hK9, hD9⟩⟩, hS.F ht⟩) hS.2.2 dX8_stretch_69
        · skip
          have f_12 := bz0 hr_10 c_11
          exact False.elim (by omega)

set_option maxHeartbeats 4000000 in
set_option maxRecDepth 100000 in
theorem k_X8_stretch_s0 (l : Launch) (D : va_G) (sz : Nat) (h0 s1 s2 s3 s4 s5 s6 : Nat) (ds : Int32) (sp : Option Nat) (f : Nat → Option Nat) (bx t0 d0 : Nat) (ik wy op : Int32) (bx0 by0 bx1 by1 : Int32) (w h : Int32) (g : Nat → Int32) (k ax ay aw ah kq ox oy ow oh : Int32) (cO : ClassId) (cI : ClassId) (hsz : (1 ≤ aw.toInt ∧ aw.toInt ≤ 64) ∧ (1 ≤ ah.toInt ∧ ah.toInt ≤ 64) ∧ (1 ≤ ow.toInt ∧ ow.toInt ≤ 64) ∧ (1 ≤ oh.toInt ∧ oh.toInt ≤ 64)) (hak : 0 ≤ k.toInt ∧ k.toInt ≤ 3) (haf : f k.toNatClampNeg = some t0) (hb0k : 0 ≤ kq.toInt ∧ kq.toInt ≤ 3) (hb0f : f kq.toNatClampNeg = some t0) (hne : k.toInt = kq.toInt) (hnr : (-200 ≤ ax.toInt ∧ ax.toInt ≤ 200) ∧ (-200 ≤ ay.toInt ∧ ay.toInt ≤ 200) ∧ (-200 ≤ ox.toInt ∧ ox.toInt ≤ 200) ∧ (-200 ≤ oy.toInt ∧ oy.toInt ≤ 200)) (hwy : 0 ≤ wy.toInt ∧ wy.toInt ≤ 12) (hw : w.toInt ≤ 64) (hh : h.toInt ≤ 64) : Met l yX8_stretch (wB yX8_stretch cX8_stretch 11 (some .int)) ({ frames := 4, cells := 4, slots := 4107, locals := 106 }) (cP D [(h0, .inr (8, [.ref s1, .ref s2, .ref s3, .ref s4, .ref s5, .ref s6, .int ds, va_rf sp, .null])), (s1, .inl (cO, 4, .inr (.inr (.inr (.inr f))))), (s2, .inr (1, [.ref bx, .int ik, .int wy, .int op])), (bx, .inr (0, [.int bx0, .int by0, .int bx1, .int by1])), (t0, .inr (5, [.ref d0, .int w, .int h])), (d0, .inl (cI, 4096, .inl g))] [(cO, .object "DotBench$Sheet"), (cI, .int)] sz [.ref h0, .int k, .int ax, .int ay, .int aw, .int ah, .int kq, .int ox, .int oy, .int ow, .int oh]) (va_Qi (fun (r : Int32) (_ : Unit) => True) (fun (_ : Unit) (t : State) => ∃ (bq bd : Nat), ∃ (g2 g3 : Nat → Int32), cB D (va_A [(h0, .inr (8, [.ref s1, .ref s2, .ref s3, .ref s4, .ref s5, .ref s6, .int ds, va_rf sp, .null])), (s1, .inl (cO, 4, .inr (.inr (.inr (.inr f))))), (s2, .inr (1, [.ref bx, .int ik, .int wy, .int op])), (bx, .inr (0, [.int bx0, .int by0, .int bx1, .int by1])), (t0, .inr (5, [.ref d0, .int w, .int h])), (d0, .inl (cI, 4096, .inl g))] sz) [(h0, .inr (8, [.ref s1, .ref s2, .ref s3, .ref s4, .ref s5, .ref s6, .int ds, va_rf sp, .ref bq])), (s1, .inl (cO, 4, .inr (.inr (.inr (.inr f))))), (s2, .inr (1, [.ref bx, .int ik, .int wy, .int op])), (bx, .inr (0, [.int bx0, .int by0, .int bx1, .int by1])), (t0, .inr (5, [.ref d0, .int w, .int h])), (d0, .inl (cI, 4096, .inl g2)), (bq, .inr (5, [.ref bd, .int w, .int h])), (bd, .inl (cI, 4096, .inl g3))] [(cO, .object "DotBench$Sheet"), (cI, .int)] t) (va_A [(h0, .inr (8, [.ref s1, .ref s2, .ref s3, .ref s4, .ref s5, .ref s6, .int ds, va_rf sp, .null])), (s1, .inl (cO, 4, .inr (.inr (.inr (.inr f))))), (s2, .inr (1, [.ref bx, .int ik, .int wy, .int op])), (bx, .inr (0, [.int bx0, .int by0, .int bx1, .int by1])), (t0, .inr (5, [.ref d0, .int w, .int h])), (d0, .inl (cI, 4096, .inl g))] sz)) 4 4107 (va_A [(h0, .inr (8, [.ref s1, .ref s2, .ref s3, .ref s4, .ref s5, .ref s6, .int ds, va_rf sp, .null])), (s1, .inl (cO, 4, .inr (.inr (.inr (.inr f))))), (s2, .inr (1, [.ref bx, .int ik, .int wy, .int op])), (bx, .inr (0, [.int bx0, .int by0, .int bx1, .int by1])), (t0, .inr (5, [.ref d0, .int w, .int h])), (d0, .inl (cI, 4096, .inl g))] sz) := by
  refine Met.ofW (cc := cX8_stretch) (maxL := 11) (ret := (some .int)) (by decide) rfl ?_
  intro p e s m args below meth c s₁ B hml hv
  obtain ⟨rfl, hsz, hP, hK, hD0, hN⟩ := hv
  have hx := B.exec
  have hb := B.bytes
  have hr := B.returns
  have hts0 := atoms_spec (ws := (wB yX8_stretch cX8_stretch 11 (some .int))) B.pre
  have hts : ∀ w ∈ bigW, w.before _ s = true := fun w h => hts0 w (List.mem_cons_of_mem _ h)
  have hown : s.vm.findClass RX8 = some m.cls := findClass_of_methodNamed B.named
  have hlocks := B.notSynchronized
  subst hsz
  have hD := hD0.self (sz := s.heap.size)
  generalize hAe : va_A [(h0, .inr (8, [.ref s1, .ref s2, .ref s3, .ref s4, .ref s5, .ref s6, .int ds, va_rf sp, .null])), (s1, .inl (cO, 4, .inr (.inr (.inr (.inr f))))), (s2, .inr (1, [.ref bx, .int ik, .int wy, .int op])), (bx, .inr (0, [.int bx0, .int by0, .int bx1, .int by1])), (t0, .inr (5, [.ref d0, .int w, .int h])), (d0, .inl (cI, 4096, .inl g))] s.heap.size = A at hD ⊢
  have hA : ∀ q : Nat, s.heap.size ≤ q → A q := fun q h => by rw [← hAe]; exact Or.inr h
  have hS : va_S A s.heap s.heap [] := va_S.rf
  have hP : va_P D vwCl [(h0, .inr (8, [.ref s1, .ref s2, .ref s3, .ref s4, .ref s5, .ref s6, .int ds, va_rf sp, .null])), (s1, .inl (cO, 4, .inr (.inr (.inr (.inr f))))), (s2, .inr (1, [.ref bx, .int ik, .int wy, .int op])), (bx, .inr (0, [.int bx0, .int by0, .int bx1, .int by1])), (t0, .inr (5, [.ref d0, .int w, .int h])), (d0, .inl (cI, 4096, .inl g))] s.heap := hP
  have hl := lv_entry ([.ref h0, .int k, .int ax, .int ay, .int aw, .int ah, .int kq, .int ox, .int oy, .int ow, .int oh]) (n := 11) (Nat.le_of_ble_eq_true rfl)
  rw [lg_entry_eq]
  generalize (lg_sl ([.ref h0, .int k, .int ax, .int ay, .int aw, .int ah, .int kq, .int ox, .int oy, .int ow, .int oh]) ++ List.replicate (11 - (lg_sl ([.ref h0, .int k, .int ax, .int ay, .int aw, .int ah, .int kq, .int ox, .int oy, .int ow, .int oh])).length) Slot.unset).toArray = ls at hl ⊢
  have hl : lv_has ls 11 [(0, .ref h0), (1, .int k), (2, .int ax), (3, .int ay), (4, .int aw), (5, .int ah), (6, .int kq), (7, .int ox), (8, .int oy), (9, .int ow), (10, .int oh)] := hl
  clear hts0 hD0 hAe
  refine my_abs (fun R Q hR hQ => ?_)
  refine lv_iload hx hb dX8_stretch_0 (lv_at hl 4 rfl) ?_
  have hPc := hP.sub (ws' := []) [] rfl
  have hDc := hD.sub (ws' := []) [] (by decide) rfl
  have hKc := hK.sub (tys' := []) [] rfl
  have hFc := va_free (wc := []) hD hS hA [] rfl
  refine va_calli (va_runS (As := [.int aw]) (rest := []) ⟨hx, hb, hml, hown, hts⟩ (k_X8_isSide l D s.heap.size aw) (va_cwS 1 hts (gS bw_247 bw_353 bw_223 bw_352) rfl rfl rfl (by decide +kernel) ⟨(by rw [hR]; exact Nat.le_of_ble_eq_true rfl), (by rw [hR]; exact Nat.le_of_ble_eq_true rfl)⟩) ⟨cP_blind, cP_at hPc hKc hDc hN⟩ rfl rfl hl.1 rfl (lv_room (Nat.le_of_ble_eq_true rfl)) dX8_stretch_2 ⟨(by rw [hR]; exact Nat.le_of_ble_eq_true rfl), (by rw [hR]; exact Nat.le_of_ble_eq_true rfl)⟩) hS (fun q _ h => hFc q h) hFc (fun r_1 u9 t9 H1 locs ht hvm hr_1 hB hz1 hk1 hS => ?_)
  try dsimp only at hr_1
  have hP1 : va_P D vwCl [] H1 := vP_nil
  have hD1 : va_D (va_A [] s.heap.size) [] := vD_nil
  obtain ⟨hP, hD⟩ := va_join (wr := [(h0, .inr (8, [.ref s1, .ref s2, .ref s3, .ref s4, .ref s5, .ref s6, .int ds, va_rf sp, .null])), (s1, .inl (cO, 4, .inr (.inr (.inr (.inr f))))), (s2, .inr (1, [.ref bx, .int ik, .int wy, .int op])), (bx, .inr (0, [.int bx0, .int by0, .int bx1, .int by1])), (t0, .inr (5, [.ref d0, .int w, .int h])), (d0, .inl (cI, 4096, .inl g))]) (w1 := []) hP hD [] [0, 1, 2, 3, 4, 5] rfl rfl (by decide) (by decide) hk1 hFc hP1 hD1
  clear hz1 hk1 hFc hKc hDc hPc
  generalize H1 = H at hP hS ⊢
  have hP : va_P D vwCl [(h0, .inr (8, [.ref s1, .ref s2, .ref s3, .ref s4, .ref s5, .ref s6, .int ds, va_rf sp, .null])), (s1, .inl (cO, 4, .inr (.inr (.inr (.inr f))))), (s2, .inr (1, [.ref bx, .int ik, .int wy, .int op])), (bx, .inr (0, [.int bx0, .int by0, .int bx1, .int by1])), (t0, .inr (5, [.ref d0, .int w, .int h])), (d0, .inl (cI, 4096, .inl g))] H := hP
  have hD : va_D A [(h0, .inr (8, [.ref s1, .ref s2, .ref s3, .ref s4, .ref s5, .ref s6, .int ds, va_rf sp, .null])), (s1, .inl (cO, 4, .inr (.inr (.inr (.inr f))))), (s2, .inr (1, [.ref bx, .int ik, .int wy, .int op])), (bx, .inr (0, [.int bx0, .int by0, .int bx1, .int by1])), (t0, .inr (5, [.ref d0, .int w, .int h])), (d0, .inl (cI, 4096, .inl g))] := hD
  refine lv_if_eq (tgt := 32) hx hb dX8_stretch_5 (by decide) (fun c_2 => ?_) (fun c_2 => ?_)
  · skip
    have f_3 := bz0 hr_1 c_2
    exact False.elim (by omega)
  · skip
    have f_3 := bz1 hr_1 c_2
    refine lv_iload hx hb dX8_stretch_8 (lv_at hl 5 rfl) ?_
    have hPc := hP.sub (ws' := []) [] rfl
    have hDc := hD.sub (ws' := []) [] (by decide) rfl
    have hKc := hK.sub (tys' := []) [] rfl
    have hFc := va_free (wc := []) hD hS hA [] rfl
    refine va_calli (va_runS (As := [.int ah]) (rest := []) ⟨hx, hb, hml, hown, hts⟩ (k_X8_isSide l D H.size ah) (va_cwS 1 hts (gS bw_247 bw_353 bw_223 bw_352) rfl rfl rfl (by decide +kernel) ⟨(by rw [hR]; exact Nat.le_of_ble_eq_true rfl), (by rw [hR]; exact Nat.le_of_ble_eq_true rfl)⟩) ⟨cP_blind, cP_at hPc hKc hDc hN⟩ rfl rfl hl.1 rfl (lv_room (Nat.le_of_ble_eq_true rfl)) dX8_stretch_10 ⟨(by rw [hR]; exact Nat.le_of_ble_eq_true rfl), (by rw [hR]; exact Nat.le_of_ble_eq_true rfl)⟩) hS (fun q _ h => hFc q h) hFc (fun r_4 u9 t9 H1 locs ht hvm hr_4 hB hz1 hk1 hS => ?_)
    try dsimp only at hr_4
    have hP1 : va_P D vwCl [] H1 := vP_nil
    have hD1 : va_D (va_A [] H.size) [] := vD_nil
    obtain ⟨hP, hD⟩ := va_join (wr := [(h0, .inr (8, [.ref s1, .ref s2, .ref s3, .ref s4, .ref s5, .ref s6, .int ds, va_rf sp, .null])), (s1, .inl (cO, 4, .inr (.inr (.inr (.inr f))))), (s2, .inr (1, [.ref bx, .int ik, .int wy, .int op])), (bx, .inr (0, [.int bx0, .int by0, .int bx1, .int by1])), (t0, .inr (5, [.ref d0, .int w, .int h])), (d0, .inl (cI, 4096, .inl g))]) (w1 := []) hP hD [] [0, 1, 2, 3, 4, 5] rfl rfl (by decide) (by decide) hk1 hFc hP1 hD1
    clear hz1 hk1 hFc hKc hDc hPc
    generalize H1 = H at hP hS ⊢
    have hP : va_P D vwCl [(h0, .inr (8, [.ref s1, .ref s2, .ref s3, .ref s4, .ref s5, .ref s6, .int ds, va_rf sp, .null])), (s1, .inl (cO, 4, .inr (.inr (.inr (.inr f))))), (s2, .inr (1, [.ref bx, .int ik, .int wy, .int op])), (bx, .inr (0, [.int bx0, .int by0, .int bx1, .int by1])), (t0, .inr (5, [.ref d0, .int w, .int h])), (d0, .inl (cI, 4096, .inl g))] H := hP
    have hD : va_D A [(h0, .inr (8, [.ref s1, .ref s2, .ref s3, .ref s4, .ref s5, .ref s6, .int ds, va_rf sp, .null])), (s1, .inl (cO, 4, .inr (.inr (.inr (.inr f))))), (s2, .inr (1, [.ref bx, .int ik, .int wy, .int op])), (bx, .inr (0, [.int bx0, .int by0, .int bx1, .int by1])), (t0, .inr (5, [.ref d0, .int w, .int h])), (d0, .inl (cI, 4096, .inl g))] := hD
    refine lv_if_eq (tgt := 32) hx hb dX8_stretch_13 (by decide) (fun c_5 => ?_) (fun c_5 => ?_)
    · skip
      have f_6 := bz0 hr_4 c_5
      exact False.elim (by omega)
    · skip
      have f_6 := bz1 hr_4 c_5
      refine lv_iload hx hb dX8_stretch_16 (lv_at hl 9 rfl) ?_
      have hPc := hP.sub (ws' := []) [] rfl
      have hDc := hD.sub (ws' := []) [] (by decide) rfl
      have hKc := hK.sub (tys' := []) [] rfl
      have hFc := va_free (wc := []) hD hS hA [] rfl
      refine va_calli (va_runS (As := [.int ow]) (rest := []) ⟨hx, hb, hml, hown, hts⟩ (k_X8_isSide l D H.size ow) (va_cwS 1 hts (gS bw_247 bw_353 bw_223 bw_352) rfl rfl rfl (by decide +kernel) ⟨(by rw [hR]; exact Nat.le_of_ble_eq_true rfl), (by rw [hR]; exact Nat.le_of_ble_eq_true rfl)⟩) ⟨cP_blind, cP_at hPc hKc hDc hN⟩ rfl rfl hl.1 rfl (lv_room (Nat.le_of_ble_eq_true rfl)) dX8_stretch_18 ⟨(by rw [hR]; exact Nat.le_of_ble_eq_true rfl), (by rw [hR]; exact Nat.le_of_ble_eq_true rfl)⟩) hS (fun q _ h => hFc q h) hFc (fun r_7 u9 t9 H1 locs ht hvm hr_7 hB hz1 hk1 hS => ?_)
      try dsimp only at hr_7
      have hP1 : va_P D vwCl [] H1 := vP_nil
      have hD1 : va_D (va_A [] H.size) [] := vD_nil
      obtain ⟨hP, hD⟩ := va_join (wr := [(h0, .inr (8, [.ref s1, .ref s2, .ref s3, .ref s4, .ref s5, .ref s6, .int ds, va_rf sp, .null])), (s1, .inl (cO, 4, .inr (.inr (.inr (.inr f))))), (s2, .inr (1, [.ref bx, .int ik, .int wy, .int op])), (bx, .inr (0, [.int bx0, .int by0, .int bx1, .int by1])), (t0, .inr (5, [.ref d0, .int w, .int h])), (d0, .inl (cI, 4096, .inl g))]) (w1 := []) hP hD [] [0, 1, 2, 3, 4, 5] rfl rfl (by decide) (by decide) hk1 hFc hP1 hD1
      clear hz1 hk1 hFc hKc hDc hPc
      generalize H1 = H at hP hS ⊢
      have hP : va_P D vwCl [(h0, .inr (8, [.ref s1, .ref s2, .ref s3, .ref s4, .ref s5, .ref s6, .int ds, va_rf sp, .null])), (s1, .inl (cO, 4, .inr (.inr (.inr (.inr f))))), (s2, .inr (1, [.ref bx, .int ik, .int wy, .int op])), (bx, .inr (0, [.int bx0, .int by0, .int bx1, .int by1])), (t0, .inr (5, [.ref d0, .int w, .int h])), (d0, .inl (cI, 4096, .inl g))] H := hP
      have hD : va_D A [(h0, .inr (8, [.ref s1, .ref s2, .ref s3, .ref s4, .ref s5, .ref s6, .int ds, va_rf sp, .null])), (s1, .inl (cO, 4, .inr (.inr (.inr (.inr f))))), (s2, .inr (1, [.ref bx, .int ik, .int wy, .int op])), (bx, .inr (0, [.int bx0, .int by0, .int bx1, .int by1])), (t0, .inr (5, [.ref d0, .int w, .int h])), (d0, .inl (cI, 4096, .inl g))] := hD
      refine lv_if_eq (tgt := 32) hx hb dX8_stretch_21 (by decide) (fun c_8 => ?_) (fun c_8 => ?_)
      · skip
        have f_9 := bz0 hr_7 c_8
        exact False.elim (by omega)
      · skip
        have f_9 := bz1 hr_7 c_8
        refine lv_iload hx hb dX8_stretch_24 (lv_at hl 10 rfl) ?_
        have hPc := hP.sub (ws' := []) [] rfl
        have hDc := hD.sub (ws' := []) [] (by decide) rfl
        have hKc := hK.sub (tys' := []) [] rfl
        have hFc := va_free (wc := []) hD hS hA [] rfl
        refine va_calli (va_runS (As := [.int oh]) (rest := []) ⟨hx, hb, hml, hown, hts⟩ (k_X8_isSide l D H.size oh) (va_cwS 1 hts (gS bw_247 bw_353 bw_223 bw_352) rfl rfl rfl (by decide +kernel) ⟨(by rw [hR]; exact Nat.le_of_ble_eq_true rfl), (by rw [hR]; exact Nat.le_of_ble_eq_true rfl)⟩) ⟨cP_blind, cP_at hPc hKc hDc hN⟩ rfl rfl hl.1 rfl (lv_room (Nat.le_of_ble_eq_true rfl)) dX8_stretch_26 ⟨(by rw [hR]; exact Nat.le_of_ble_eq_true rfl), (by rw [hR]; exact Nat.le_of_ble_eq_true rfl)⟩) hS (fun q _ h => hFc q h) hFc (fun r_10 u9 t9 H1 locs ht hvm hr_10 hB hz1 hk1 hS => ?_)
        try dsimp only at hr_10
        have hP1 : va_P D vwCl [] H1 := vP_nil
        have hD1 : va_D (va_A [] H.size) [] := vD_nil
        obtain ⟨hP, hD⟩ := va_join (wr := [(h0, .inr (8, [.ref s1, .ref s2, .ref s3, .ref s4, .ref s5, .ref s6, .int ds, va_rf sp, .null])), (s1, .inl (cO, 4, .inr (.inr (.inr (.inr f))))), (s2, .inr (1, [.ref bx, .int ik, .int wy, .int op])), (bx, .inr (0, [.int bx0, .int by0, .int bx1, .int by1])), (t0, .inr (5, [.ref d0, .int w, .int h])), (d0, .inl (cI, 4096, .inl g))]) (w1 := []) hP hD [] [0, 1, 2, 3, 4, 5] rfl rfl (by decide) (by decide) hk1 hFc hP1 hD1
        clear hz1 hk1 hFc hKc hDc hPc
        generalize H1 = H at hP hS ⊢
        have hP : va_P D vwCl [(h0, .inr (8, [.ref s1, .ref s2, .ref s3, .ref s4, .ref s5, .ref s6, .int ds, va_rf sp, .null])), (s1, .inl (cO, 4, .inr (.inr (.inr (.inr f))))), (s2, .inr (1, [.ref bx, .int ik, .int wy, .int op])), (bx, .inr (0, [.int bx0, .int by0, .int bx1, .int by1])), (t0, .inr (5, [.ref d0, .int w, .int h])), (d0, .inl (cI, 4096, .inl g))] H := hP
        have hD : va_D A [(h0, .inr (8, [.ref s1, .ref s2, .ref s3, .ref s4, .ref s5, .ref s6, .int ds, va_rf sp, .null])), (s1, .inl (cO, 4, .inr (.inr (.inr (.inr f))))), (s2, .inr (1, [.ref bx, .int ik, .int wy, .int op])), (bx, .inr (0, [.int bx0, .int by0, .int bx1, .int by1])), (t0, .inr (5, [.ref d0, .int w, .int h])), (d0, .inl (cI, 4096, .inl g))] := hD
        refine lv_if_ne (tgt := 34) hx hb dX8_stretch_29 (by decide) (fun c_11 => ?_) (fun c_11 => ?_)
        · skip
          have f_12 := bz1 hr_10 c_11
          refine lv_aload_n hx hb dX8_stretch_34 rfl (lv_at hl 0 rfl) ?_
          refine lv_iload_n hx hb dX8_stretch_35 rfl (lv_at hl 1 rfl) ?_
          refine va_new (ci := 2) (fs := [.int 0, .int 0, .int 0, .int 0]) (C := RX2) (T := TX2) (N := 4) hx hb hts hi_X2 tyX2 tyX2_ok hown (hts _ bw_316) (hts _ bw_56) (hts _ bw_55) hK hP hD hS hA rfl z_X2 (by rw [hR]; exact Nat.le_of_ble_eq_true rfl) (by rw [hR]; exact Nat.le_of_ble_eq_true rfl) dX8_stretch_36 (fun q_13 H hP hD hS => ?_)
          have hP : va_P D vwCl [(h0, .inr (8, [.ref s1, .ref s2, .ref s3, .ref s4, .ref s5, .ref s6, .int ds, va_rf sp, .null])), (s1, .inl (cO, 4, .inr (.inr (.inr (.inr f))))), (s2, .inr (1, [.ref bx, .int ik, .int wy, .int op])), (bx, .inr (0, [.int bx0, .int by0, .int bx1, .int by1])), (t0, .inr (5, [.ref d0, .int w, .int h])), (d0, .inl (cI, 4096, .inl g)), (q_13, .inr (2, [.int 0, .int 0, .int 0, .int 0]))] H := hP
          have hD : va_D A [(h0, .inr (8, [.ref s1, .ref s2, .ref s3, .ref s4, .ref s5, .ref s6, .int ds, va_rf sp, .null])), (s1, .inl (cO, 4, .inr (.inr (.inr (.inr f))))), (s2, .inr (1, [.ref bx, .int ik, .int wy, .int op])), (bx, .inr (0, [.int bx0, .int by0, .int bx1, .int by1])), (t0, .inr (5, [.ref d0, .int w, .int h])), (d0, .inl (cI, 4096, .inl g)), (q_13, .inr (2, [.int 0, .int 0, .int 0, .int 0]))] := hD
          refine W.widen (k := 1) (n := 4) (by omega) (by omega) ?_
          refine lv_dup hx hb dX8_stretch_39 rfl ?_
          refine lv_iload_n hx hb dX8_stretch_40 rfl (lv_at hl 2 rfl) ?_
          refine lv_iload_n hx hb dX8_stretch_41 rfl (lv_at hl 3 rfl) ?_
          refine lv_iload hx hb dX8_stretch_42 (lv_at hl 4 rfl) ?_
          refine lv_iload hx hb dX8_stretch_44 (lv_at hl 5 rfl) ?_
          have hPc := hP.sub (ws' := [(q_13, .inr (2, [.int 0, .int 0, .int 0, .int 0]))]) [6] rfl
          have hDc := hD.sub (ws' := [(q_13, .inr (2, [.int 0, .int 0, .int 0, .int 0]))]) [6] (by decide) rfl
          have hKc := hK.sub (tys' := []) [] rfl
          have hFc := va_free (wc := [(q_13, .inr (2, [.int 0, .int 0, .int 0, .int 0]))]) hD hS hA [6] rfl
          refine va_callv (va_runI (As := [.int ax, .int ay, .int aw, .int ah]) (rest := [.ref q_13, .int k, .ref h0]) ⟨hx, hb, hml, hown, hts⟩ (k_X2_init l D H.size q_13 ax ay aw ah) (cwI 4 hts (gI bw_57) rfl rfl rfl (hts _ bw_55) (hts _ bw_317) (hts _ bw_58) rfl (by decide +kernel) ⟨(by rw [hR]; exact Nat.le_of_ble_eq_true rfl), (by rw [hR]; exact Nat.le_of_ble_eq_true rfl)⟩) ⟨cP_blind, cP_at hPc hKc hDc hN⟩ rfl rfl hl.1 rfl (lv_room (Nat.le_of_ble_eq_true rfl)) dX8_stretch_46 ⟨(by rw [hR]; exact Nat.le_of_ble_eq_true rfl), (by rw [hR]; exact Nat.le_of_ble_eq_true rfl)⟩) hS (fun q _ h => hFc q h) hFc (fun u9 t9 H1 locs ht hvm hr_14 hB hz1 hk1 hS => ?_)
          try dsimp only at hr_14
          obtain ⟨hP1, hK1, hD1⟩ := hB
          rw [ht] at hP1
          obtain ⟨hP, hD⟩ := va_join (wr := [(h0, .inr (8, [.ref s1, .ref s2, .ref s3, .ref s4, .ref s5, .ref s6, .int ds, va_rf sp, .null])), (s1, .inl (cO, 4, .inr (.inr (.inr (.inr f))))), (s2, .inr (1, [.ref bx, .int ik, .int wy, .int op])), (bx, .inr (0, [.int bx0, .int by0, .int bx1, .int by1])), (t0, .inr (5, [.ref d0, .int w, .int h])), (d0, .inl (cI, 4096, .inl g))]) (w1 := [(q_13, .inr (2, [.int ax, .int ay, .int aw, .int ah]))]) hP hD [6] [0, 1, 2, 3, 4, 5] rfl rfl (by decide) (by decide) hk1 hFc hP1 hD1
          clear hz1 hk1 hFc hKc hDc hPc
          generalize H1 = H at hP hS ⊢
          have hP : va_P D vwCl [(h0, .inr (8, [.ref s1, .ref s2, .ref s3, .ref s4, .ref s5, .ref s6, .int ds, va_rf sp, .null])), (s1, .inl (cO, 4, .inr (.inr (.inr (.inr f))))), (s2, .inr (1, [.ref bx, .int ik, .int wy, .int op])), (bx, .inr (0, [.int bx0, .int by0, .int bx1, .int by1])), (t0, .inr (5, [.ref d0, .int w, .int h])), (d0, .inl (cI, 4096, .inl g)), (q_13, .inr (2, [.int ax, .int ay, .int aw, .int ah]))] H := hP
          have hD : va_D A [(h0, .inr (8, [.ref s1, .ref s2, .ref s3, .ref s4, .ref s5, .ref s6, .int ds, va_rf sp, .null])), (s1, .inl (cO, 4, .inr (.inr (.inr (.inr f))))), (s2, .inr (1, [.ref bx, .int ik, .int wy, .int op])), (bx, .inr (0, [.int bx0, .int by0, .int bx1, .int by1])), (t0, .inr (5, [.ref d0, .int w, .int h])), (d0, .inl (cI, 4096, .inl g)), (q_13, .inr (2, [.int ax, .int ay, .int aw, .int ah]))] := hD
          refine lv_iload hx hb dX8_stretch_49 (lv_at hl 6 rfl) ?_
          refine va_new (ci := 2) (fs := [.int 0, .int 0, .int 0, .int 0]) (C := RX2) (T := TX2) (N := 4) hx hb hts hi_X2 tyX2 tyX2_ok hown (hts _ bw_316) (hts _ bw_56) (hts _ bw_55) hK hP hD hS hA rfl z_X2 (by rw [hR]; exact Nat.le_of_ble_eq_true rfl) (by rw [hR]; exact Nat.le_of_ble_eq_true rfl) dX8_stretch_51 (fun q_15 H hP hD hS => ?_)
          have hP : va_P D vwCl [(h0, .inr (8, [.ref s1, .ref s2, .ref s3, .ref s4, .ref s5, .ref s6, .int ds, va_rf sp, .null])), (s1, .inl (cO, 4, .inr (.inr (.inr (.inr f))))), (s2, .inr (1, [.ref bx, .int ik, .int wy, .int op])), (bx, .inr (0, [.int bx0, .int by0, .int bx1, .int by1])), (t0, .inr (5, [.ref d0, .int w, .int h])), (d0, .inl (cI, 4096, .inl g)), (q_13, .inr (2, [.int ax, .int ay, .int aw, .int ah])), (q_15, .inr (2, [.int 0, .int 0, .int 0, .int 0]))] H := hP
          have hD : va_D A [(h0, .inr (8, [.ref s1, .ref s2, .ref s3, .ref s4, .ref s5, .ref s6, .int ds, va_rf sp, .null])), (s1, .inl (cO, 4, .inr (.inr (.inr (.inr f))))), (s2, .inr (1, [.ref bx, .int ik, .int wy, .int op])), (bx, .inr (0, [.int bx0, .int by0, .int bx1, .int by1])), (t0, .inr (5, [.ref d0, .int w, .int h])), (d0, .inl (cI, 4096, .inl g)), (q_13, .inr (2, [.int ax, .int ay, .int aw, .int ah])), (q_15, .inr (2, [.int 0, .int 0, .int 0, .int 0]))] := hD
          refine W.widen (k := 2) (n := 8) (by omega) (by omega) ?_
          refine lv_dup hx hb dX8_stretch_54 rfl ?_
          refine lv_iload hx hb dX8_stretch_55 (lv_at hl 7 rfl) ?_
          refine lv_iload hx hb dX8_stretch_57 (lv_at hl 8 rfl) ?_
          refine lv_iload hx hb dX8_stretch_59 (lv_at hl 9 rfl) ?_
          refine lv_iload hx hb dX8_stretch_61 (lv_at hl 10 rfl) ?_
          have hPc := hP.sub (ws' := [(q_15, .inr (2, [.int 0, .int 0, .int 0, .int 0]))]) [7] rfl
          have hDc := hD.sub (ws' := [(q_15, .inr (2, [.int 0, .int 0, .int 0, .int 0]))]) [7] (by decide) rfl
          have hKc := hK.sub (tys' := []) [] rfl
          have hFc := va_free (wc := [(q_15, .inr (2, [.int 0, .int 0, .int 0, .int 0]))]) hD hS hA [7] rfl
          refine va_callv (va_runI (As := [.int ox, .int oy, .int ow, .int oh]) (rest := [.ref q_15, .int kq, .ref q_13, .int k, .ref h0]) ⟨hx, hb, hml, hown, hts⟩ (k_X2_init l D H.size q_15 ox oy ow oh) (cwI 4 hts (gI bw_57) rfl rfl rfl (hts _ bw_55) (hts _ bw_317) (hts _ bw_58) rfl (by decide +kernel) ⟨(by rw [hR]; exact Nat.le_of_ble_eq_true rfl), (by rw [hR]; exact Nat.le_of_ble_eq_true rfl)⟩) ⟨cP_blind, cP_at hPc hKc hDc hN⟩ rfl rfl hl.1 rfl (lv_room (Nat.le_of_ble_eq_true rfl)) dX8_stretch_63 ⟨(by rw [hR]; exact Nat.le_of_ble_eq_true rfl), (by rw [hR]; exact Nat.le_of_ble_eq_true rfl)⟩) hS (fun q _ h => hFc q h) hFc (fun u9 t9 H1 locs ht hvm hr_16 hB hz1 hk1 hS => ?_)
          try dsimp only at hr_16
          obtain ⟨hP1, hK1, hD1⟩ := hB
          rw [ht] at hP1
          obtain ⟨hP, hD⟩ := va_join (wr := [(h0, .inr (8, [.ref s1, .ref s2, .ref s3, .ref s4, .ref s5, .ref s6, .int ds, va_rf sp, .null])), (s1, .inl (cO, 4, .inr (.inr (.inr (.inr f))))), (s2, .inr (1, [.ref bx, .int ik, .int wy, .int op])), (bx, .inr (0, [.int bx0, .int by0, .int bx1, .int by1])), (t0, .inr (5, [.ref d0, .int w, .int h])), (d0, .inl (cI, 4096, .inl g)), (q_13, .inr (2, [.int ax, .int ay, .int aw, .int ah]))]) (w1 := [(q_15, .inr (2, [.int ox, .int oy, .int ow, .int oh]))]) hP hD [7] [0, 1, 2, 3, 4, 5, 6] rfl rfl (by decide) (by decide) hk1 hFc hP1 hD1
          clear hz1 hk1 hFc hKc hDc hPc
          generalize H1 = H at hP hS ⊢
          have hP : va_P D vwCl [(h0, .inr (8, [.ref s1, .ref s2, .ref s3, .ref s4, .ref s5, .ref s6, .int ds, va_rf sp, .null])), (s1, .inl (cO, 4, .inr (.inr (.inr (.inr f))))), (s2, .inr (1, [.ref bx, .int ik, .int wy, .int op])), (bx, .inr (0, [.int bx0, .int by0, .int bx1, .int by1])), (t0, .inr (5, [.ref d0, .int w, .int h])), (d0, .inl (cI, 4096, .inl g)), (q_13, .inr (2, [.int ax, .int ay, .int aw, .int ah])), (q_15, .inr (2, [.int ox, .int oy, .int ow, .int oh]))] H := hP
          have hD : va_D A [(h0, .inr (8, [.ref s1, .ref s2, .ref s3, .ref s4, .ref s5, .ref s6, .int ds, va_rf sp, .null])), (s1, .inl (cO, 4, .inr (.inr (.inr (.inr f))))), (s2, .inr (1, [.ref bx, .int ik, .int wy, .int op])), (bx, .inr (0, [.int bx0, .int by0, .int bx1, .int by1])), (t0, .inr (5, [.ref d0, .int w, .int h])), (d0, .inl (cI, 4096, .inl g)), (q_13, .inr (2, [.int ax, .int ay, .int aw, .int ah])), (q_15, .inr (2, [.int ox, .int oy, .int ow, .int oh]))] := hD
          have hPc := hP.sub (ws' := [(h0, .inr (8, [.ref s1, .ref s2, .ref s3, .ref s4, .ref s5, .ref s6, .int ds, va_rf sp, .null])), (s1, .inl (cO, 4, .inr (.inr (.inr (.inr f))))), (s2, .inr (1, [.ref bx, .int ik, .int wy, .int op])), (bx, .inr (0, [.int bx0, .int by0, .int bx1, .int by1])), (t0, .inr (5, [.ref d0, .int w, .int h])), (d0, .inl (cI, 4096, .inl g)), (q_13, .inr (2, [.int ax, .int ay, .int aw, .int ah])), (q_15, .inr (2, [.int ox, .int oy, .int ow, .int oh]))]) [0, 1, 2, 3, 4, 5, 6, 7] rfl
          have hDc := hD.sub (ws' := [(h0, .inr (8, [.ref s1, .ref s2, .ref s3, .ref s4, .ref s5, .ref s6, .int ds, va_rf sp, .null])), (s1, .inl (cO, 4, .inr (.inr (.inr (.inr f))))), (s2, .inr (1, [.ref bx, .int ik, .int wy, .int op])), (bx, .inr (0, [.int bx0, .int by0, .int bx1, .int by1])), (t0, .inr (5, [.ref d0, .int w, .int h])), (d0, .inl (cI, 4096, .inl g)), (q_13, .inr (2, [.int ax, .int ay, .int aw, .int ah])), (q_15, .inr (2, [.int ox, .int oy, .int ow, .int oh]))]) [0, 1, 2, 3, 4, 5, 6, 7] (by decide) rfl
          have hKc := hK.sub (tys' := [(cO, .object "DotBench$Sheet"), (cI, .int)]) [0, 1] rfl
          have hFc := va_free (wc := [(h0, .inr (8, [.ref s1, .ref s2, .ref s3, .ref s4, .ref s5, .ref s6, .int ds, va_rf sp, .null])), (s1, .inl (cO, 4, .inr (.inr (.inr (.inr f))))), (s2, .inr (1, [.ref bx, .int ik, .int wy, .int op])), (bx, .inr (0, [.int bx0, .int by0, .int bx1, .int by1])), (t0, .inr (5, [.ref d0, .int w, .int h])), (d0, .inl (cI, 4096, .inl g)), (q_13, .inr (2, [.int ax, .int ay, .int aw, .int ah])), (q_15, .inr (2, [.int ox, .int oy, .int ow, .int oh]))]) hD hS hA [0, 1, 2, 3, 4, 5, 6, 7] rfl
          refine va_calli (va_runV (As := [.int k, .ref q_13, .int kq, .ref q_15]) (rest := []) ⟨hx, hb, hml, hown, hts⟩ (k_X8_carry_s0 l D H.size h0 s1 s2 s3 s4 s5 s6 ds sp f bx t0 d0 ik wy op bx0 by0 bx1 by1 w h g q_13 q_15 ax ay aw ah ox oy ow oh k kq cO cI (by first | assumption | omega | decide) (by first | assumption | omega | decide) (by first | assumption | omega | decide) (by first | assumption | omega | decide) (by first | assumption | omega | decide) (by first | assumption | omega | decide) (by first | assumption | omega | decide) (by first | assumption | omega | decide) (by first | assumption | omega | decide) (by first | assumption | omega | decide) (by first | assumption | omega | decide)) (cwV 4 hts (gV bw_318 bw_383 bw_384 bw_223 bw_382) rfl rfl rfl (by decide +kernel) ⟨(by rw [hR]; exact Nat.le_of_ble_eq_true rfl), (by rw [hR]; exact Nat.le_of_ble_eq_true rfl)⟩) ⟨cP_blind, va_recv hKc hPc (ci := 8) (q0 := 0) rfl rfl, cP_at hPc hKc hDc hN⟩ rfl rfl hl.1 rfl (lv_room (Nat.le_of_ble_eq_true rfl)) dX8_stretch_66 ⟨(by rw [hR]; exact Nat.le_of_ble_eq_true rfl), (by rw [hR]; exact Nat.le_of_ble_eq_true rfl)⟩) hS (fun q _ h => hFc q h) hFc (fun r_17 u9 t9 H1 locs ht hvm hr_17 hB hz1 hk1 hS => ?_)
          try dsimp only at hr_17
          obtain ⟨q_18, q_19, g_20, g_21, hP1, hK1, hD1⟩ := hB
          rw [ht] at hP1
          obtain ⟨hP, hD⟩ := va_join (wr := []) (w1 := [(h0, .inr (8, [.ref s1, .ref s2, .ref s3, .ref s4, .ref s5, .ref s6, .int ds, va_rf sp, .ref q_18])), (s1, .inl (cO, 4, .inr (.inr (.inr (.inr f))))), (s2, .inr (1, [.ref bx, .int ik, .int wy, .int op])), (bx, .inr (0, [.int bx0, .int by0, .int bx1, .int by1])), (t0, .inr (5, [.ref d0, .int w, .int h])), (d0, .inl (cI, 4096, .inl g_20)), (q_18, .inr (5, [.ref q_19, .int w, .int h])), (q_19, .inl (cI, 4096, .inl g_21))]) hP hD [0, 1, 2, 3, 4, 5, 6, 7] [] rfl rfl (by decide) (by decide) hk1 hFc hP1 hD1
          clear hz1 hk1 hFc hKc hDc hPc
          generalize H1 = H at hP hS ⊢
          have hP : va_P D vwCl [(h0, .inr (8, [.ref s1, .ref s2, .ref s3, .ref s4, .ref s5, .ref s6, .int ds, va_rf sp, .ref q_18])), (s1, .inl (cO, 4, .inr (.inr (.inr (.inr f))))), (s2, .inr (1, [.ref bx, .int ik, .int wy, .int op])), (bx, .inr (0, [.int bx0, .int by0, .int bx1, .int by1])), (t0, .inr (5, [.ref d0, .int w, .int h])), (d0, .inl (cI, 4096, .inl g_20)), (q_18, .inr (5, [.ref q_19, .int w, .int h])), (q_19, .inl (cI, 4096, .inl g_21))] H := hP
          have hD : va_D A [(h0, .inr (8, [.ref s1, .ref s2, .ref s3, .ref s4, .ref s5, .ref s6, .int ds, va_rf sp, .ref q_18])), (s1, .inl (cO, 4, .inr (.inr (.inr (.inr f))))), (s2, .inr (1, [.ref bx, .int ik, .int wy, .int op])), (bx, .inr (0, [.int bx0, .int by0, .int bx1, .int by1])), (t0, .inr (5, [.ref d0, .int w, .int h])), (d0, .inl (cI, 4096, .inl g_20)), (q_18, .inr (5, [.ref q_19, .int w, .int h])), (q_19, .inl (cI, 4096, .inl g_21))] := hD
          refine W.widen (k := 4) (n := 4107) (by omega) (by omega) ?_
          have hP9 := hP.sub (ws' := [(h0, .inr (8, [.ref s1, .ref s2, .ref s3, .ref s4, .ref s5, .ref s6, .int ds, va_rf sp, .ref q_18])), (s1, .inl (cO, 4, .inr (.inr (.inr (.inr f))))), (s2, .inr (1, [.ref bx, .int ik, .int wy, .int op])), (bx, .inr (0, [.int bx0, .int by0, .int bx1, .int by1])), (t0, .inr (5, [.ref d0, .int w, .int h])), (d0, .inl (cI, 4096, .inl g_20)), (q_18, .inr (5, [.ref q_19, .int w, .int h])), (q_19, .inl (cI, 4096, .inl g_21))]) [0, 1, 2, 3, 4, 5, 6, 7] rfl
          have hD9 := hD.sub (ws' := [(h0, .inr (8, [.ref s1, .ref s2, .ref s3, .ref s4, .ref s5, .ref s6, .int ds, va_rf sp, .ref q_18])), (s1, .inl (cO, 4, .inr (.inr (.inr (.inr f))))), (s2, .inr (1, [.ref bx, .int ik, .int wy, .int op])), (bx, .inr (0, [.int bx0, .int by0, .int bx1, .int by1])), (t0, .inr (5, [.ref d0, .int w, .int h])), (d0, .inl (cI, 4096, .inl g_20)), (q_18, .inr (5, [.ref q_19, .int w, .int h])), (q_19, .inl (cI, 4096, .inl g_21))]) [0, 1, 2, 3, 4, 5, 6, 7] (by decide) rfl
          have hK9 := hK.sub (tys' := [(cO, .object "DotBench$Sheet"), (cI, .int)]) [0, 1] rfl
          refine hQ _ _ _ _ _ ?_
          exact W.iret (v := r_17) hx hb hr (fun t ht hW => ⟨⟨r_17, (), rfl, hr_17, ⟨q_18, q_19, g_20, g_21, by rw [ht]; exact hP9, va_K.moved hW.alike hK9, hD9⟩⟩, hS.F ht⟩) hS.2.2 dX8_stretch_69
        · skip
          have f_12 := bz0 hr_10 c_11
          exact False.elim (by omega)
