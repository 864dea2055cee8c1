set_option maxHeartbeats 4000000 in
set_option maxRecDepth 100000 in
theorem k_X8_isWithin (l : Launch) (D : va_G) (sz : Nat) (n least most : Int32) (A0 B0 : Int) (hA0 : least.toInt = A0) (hB0 : most.toInt = B0) : Met l yX8_isWithin (wB yX8_isWithin cX8_isWithin 3 (some .boolean)) ({ frames := 0, cells := 0, slots := 0, locals := 0 }) (cP D [] [] sz [.int n, .int least, .int most]) (va_Qi (fun (r : Int32) (_ : Unit) => r = if A0 ≤ n.toInt ∧ n.toInt ≤ B0 then 1 else 0) (fun (_ : Unit) (_ : State) => True) (va_A [] sz)) 0 0 (va_A [] sz) := by
  refine Met.ofW (cc := cX8_isWithin) (maxL := 3) (ret := (some .boolean)) (by decide) rfl ?_
  intro p e s m args below meth c s₁ B hml hv
  obtain ⟨rfl, hsz, hP, hK, hD0, hN⟩ := hv
  have hx := B.exec
  have hb := B.bytes
  have hr := B.returns
  have hts0 := atoms_spec (ws := (wB yX8_isWithin cX8_isWithin 3 (some .boolean))) B.pre
  have hts : ∀ w ∈ bigW, w.before _ s = true := fun w h => hts0 w (List.mem_cons_of_mem _ h)
  have hown : s.vm.findClass RX8 = some m.cls := findClass_of_methodNamed B.named
  have hlocks := B.notSynchronized
  subst hsz
  have hD := hD0.self (sz := s.heap.size)
  generalize hAe : va_A [] s.heap.size = A at hD ⊢
  have hA : ∀ q : Nat, s.heap.size ≤ q → A q := fun q h => by rw [← hAe]; exact Or.inr h
  have hS : va_S A s.heap s.heap [] := va_S.rf
  have hP : va_P D vwCl [] s.heap := hP
  have hl := lv_entry ([.int n, .int least, .int most]) (n := 3) (Nat.le_of_ble_eq_true rfl)
  rw [lg_entry_eq]
  generalize (lg_sl ([.int n, .int least, .int most]) ++ List.replicate (3 - (lg_sl ([.int n, .int least, .int most])).length) Slot.unset).toArray = ls at hl ⊢
  have hl : lv_has ls 3 [(0, .int n), (1, .int least), (2, .int most)] := hl
  clear hts0 hD0 hAe
  refine my_abs (fun R Q hR hQ => ?_)
  refine lv_iload_n hx hb dX8_isWithin_0 rfl (lv_at hl 0 rfl) ?_
  refine lv_iload_n hx hb dX8_isWithin_1 rfl (lv_at hl 1 rfl) ?_
  refine lv_icmp_lt (tgt := 14) hx hb dX8_isWithin_2 (by decide) (fun c_1 => ?_) (fun c_1 => ?_)
  · skip
    have f_2 : n.toInt < A0 := f_lt rfl hA0 c_1
    refine lv_iconst (v := 0) hx hb dX8_isWithin_14 (by decide) ?_
    refine hQ _ _ _ _ _ ?_
    exact W.zret (v := 0) hx hb hr rfl (fun t ht hW => ⟨⟨0, (), rfl, (if_neg (by omega)).symm, trivial⟩, hS.F ht⟩) hS.2.2 dX8_isWithin_15
  · skip
    have f_2 : ¬ (n.toInt < A0) := fn_lt rfl hA0 c_1
    refine lv_iload_n hx hb dX8_isWithin_5 rfl (lv_at hl 0 rfl) ?_
    refine lv_iload_n hx hb dX8_isWithin_6 rfl (lv_at hl 2 rfl) ?_
    refine lv_icmp_gt (tgt := 14) hx hb dX8_isWithin_7 (by decide) (fun c_3 => ?_) (fun c_3 => ?_)
    · skip
      have f_4 : B0 < n.toInt := f_lt hB0 rfl c_3
      refine lv_iconst (v := 0) hx hb dX8_isWithin_14 (by decide) ?_
      refine hQ _ _ _ _ _ ?_
      exact W.zret (v := 0) hx hb hr rfl (fun t ht hW => ⟨⟨0, (), rfl, (if_neg (by omega)).symm, trivial⟩, hS.F ht⟩) hS.2.2 dX8_isWithin_15
    · skip
      have f_4 : ¬ (B0 < n.toInt) := fn_lt hB0 rfl c_3
      refine lv_iconst (v := 1) hx hb dX8_isWithin_10 (by decide) ?_
      refine lv_goto (tgt := 15) hx hb dX8_isWithin_11 (by decide) ?_
      refine hQ _ _ _ _ _ ?_
      exact W.zret (v := 1) hx hb hr rfl (fun t ht hW => ⟨⟨1, (), rfl, (if_pos (by omega)).symm, trivial⟩, hS.F ht⟩) hS.2.2 dX8_isWithin_15

set_option maxHeartbeats 4000000 in
set_option maxRecDepth 100000 in
theorem k_X8_isNear (l : Launch) (D : va_G) (sz : Nat) (n far : Int32) (A0 B0 : Int) (hA0 : (-far).toInt = A0) (hB0 : far.toInt = B0) : Met l yX8_isNear (wB yX8_isNear cX8_isNear 2 (some .boolean)) ({ frames := 1, cells := 0, slots := 0, locals := 22 }) (cP D [] [] sz [.int n, .int far]) (va_Qi (fun (r : Int32) (_ : Unit) => r = if A0 ≤ n.toInt ∧ n.toInt ≤ B0 then 1 else 0) (fun (_ : Unit) (_ : State) => True) (va_A [] sz)) 0 0 (va_A [] sz) := by
  refine Met.ofW (cc := cX8_isNear) (maxL := 2) (ret := (some .boolean)) (by decide) rfl ?_
  intro p e s m args below meth c s₁ B hml hv
  obtain ⟨rfl, hsz, hP, hK, hD0, hN⟩ := hv
  have hx := B.exec
  have hb := B.bytes
  have hr := B.returns
  have hts0 := atoms_spec (ws := (wB yX8_isNear cX8_isNear 2 (some .boolean))) B.pre
  have hts : ∀ w ∈ bigW, w.before _ s = true := fun w h => hts0 w (List.mem_cons_of_mem _ h)
  have hown : s.vm.findClass RX8 = some m.cls := findClass_of_methodNamed B.named
  have hlocks := B.notSynchronized
  subst hsz
  have hD := hD0.self (sz := s.heap.size)
  generalize hAe : va_A [] s.heap.size = A at hD ⊢
  have hA : ∀ q : Nat, s.heap.size ≤ q → A q := fun q h => by rw [← hAe]; exact Or.inr h
  have hS : va_S A s.heap s.heap [] := va_S.rf
  have hP : va_P D vwCl [] s.heap := hP
  have hl := lv_entry ([.int n, .int far]) (n := 2) (Nat.le_of_ble_eq_true rfl)
  rw [lg_entry_eq]
  generalize (lg_sl ([.int n, .int far]) ++ List.replicate (2 - (lg_sl ([.int n, .int far])).length) Slot.unset).toArray = ls at hl ⊢
  have hl : lv_has ls 2 [(0, .int n), (1, .int far)] := hl
  clear hts0 hD0 hAe
  refine my_abs (fun R Q hR hQ => ?_)
  refine lv_iload_n hx hb dX8_isNear_0 rfl (lv_at hl 0 rfl) ?_
  refine lv_iload_n hx hb dX8_isNear_1 rfl (lv_at hl 1 rfl) ?_
  refine lv_ineg hx hb dX8_isNear_2 ?_
  refine lv_iload_n hx hb dX8_isNear_3 rfl (lv_at hl 1 rfl) ?_
  have hPc := hP.sub (ws' := []) [] rfl
  have hDc := hD.sub (ws' := []) [] (by decide) rfl
  have hKc := hK.sub (tys' := []) [] rfl
  have hFc := va_free (wc := []) hD hS hA [] rfl
  refine va_calli (va_runS (As := [.int n, .int (-far), .int far]) (rest := []) ⟨hx, hb, hml, hown, hts⟩ (k_X8_isWithin l D s.heap.size n (-far) far A0 B0 hA0 hB0) (va_cwS 3 hts (gS bw_256 bw_349 bw_223 bw_348) rfl rfl rfl (by decide +kernel) ⟨(by rw [hR]; exact Nat.le_of_ble_eq_true rfl), (by rw [hR]; exact Nat.le_of_ble_eq_true rfl)⟩) ⟨cP_blind, cP_at hPc hKc hDc hN⟩ rfl rfl hl.1 rfl (lv_room (Nat.le_of_ble_eq_true rfl)) dX8_isNear_4 ⟨(by rw [hR]; exact Nat.le_of_ble_eq_true rfl), (by rw [hR]; exact Nat.le_of_ble_eq_true rfl)⟩) hS (fun q _ h => hFc q h) hFc (fun r_1 u9 t9 H1 locs ht hvm hr_1 hB hz1 hk1 hS => ?_)
  try dsimp only at hr_1
  have hP1 : va_P D vwCl [] H1 := vP_nil
  have hD1 : va_D (va_A [] s.heap.size) [] := vD_nil
  obtain ⟨hP, hD⟩ := va_join (wr := []) (w1 := []) hP hD [] [] rfl rfl (by decide) (by decide) hk1 hFc hP1 hD1
  clear hz1 hk1 hFc hKc hDc hPc
  generalize H1 = H at hP hS ⊢
  have hP : va_P D vwCl [] H := hP
  have hD : va_D A [] := hD
  refine hQ _ _ _ _ _ ?_
  exact W.zret (v := r_1) hx hb hr (nz_if hr_1) (fun t ht hW => ⟨⟨r_1, (), rfl, hr_1, trivial⟩, hS.F ht⟩) hS.2.2 dX8_isNear_7

set_option maxHeartbeats 4000000 in
set_option maxRecDepth 100000 in
theorem k_X8_isSide (l : Launch) (D : va_G) (sz : Nat) (n : Int32) : Met l yX8_isSide (wB yX8_isSide cX8_isSide 1 (some .boolean)) ({ frames := 1, cells := 0, slots := 0, locals := 22 }) (cP D [] [] sz [.int n]) (va_Qi (fun (r : Int32) (_ : Unit) => r = if 1 ≤ n.toInt ∧ n.toInt ≤ 64 then 1 else 0) (fun (_ : Unit) (_ : State) => True) (va_A [] sz)) 0 0 (va_A [] sz) := by
  refine Met.ofW (cc := cX8_isSide) (maxL := 1) (ret := (some .boolean)) (by decide) rfl ?_
  intro p e s m args below meth c s₁ B hml hv
  obtain ⟨rfl, hsz, hP, hK, hD0, hN⟩ := hv
  have hx := B.exec
  have hb := B.bytes
  have hr := B.returns
  have hts0 := atoms_spec (ws := (wB yX8_isSide cX8_isSide 1 (some .boolean))) B.pre
  have hts : ∀ w ∈ bigW, w.before _ s = true := fun w h => hts0 w (List.mem_cons_of_mem _ h)
  have hown : s.vm.findClass RX8 = some m.cls := findClass_of_methodNamed B.named
  have hlocks := B.notSynchronized
  subst hsz
  have hD := hD0.self (sz := s.heap.size)
  generalize hAe : va_A [] s.heap.size = A at hD ⊢
  have hA : ∀ q : Nat, s.heap.size ≤ q → A q := fun q h => by rw [← hAe]; exact Or.inr h
  have hS : va_S A s.heap s.heap [] := va_S.rf
  have hP : va_P D vwCl [] s.heap := hP
  have hl := lv_entry ([.int n]) (n := 1) (Nat.le_of_ble_eq_true rfl)
  rw [lg_entry_eq]
  generalize (lg_sl ([.int n]) ++ List.replicate (1 - (lg_sl ([.int n])).length) Slot.unset).toArray = ls at hl ⊢
  have hl : lv_has ls 1 [(0, .int n)] := hl
  clear hts0 hD0 hAe
  refine my_abs (fun R Q hR hQ => ?_)
  refine lv_iload_n hx hb dX8_isSide_0 rfl (lv_at hl 0 rfl) ?_
  refine lv_iconst (v := 1) hx hb dX8_isSide_1 (by decide) ?_
  refine lv_bipush (v := 64) hx hb dX8_isSide_2 (by decide) ?_
  have hPc := hP.sub (ws' := []) [] rfl
  have hDc := hD.sub (ws' := []) [] (by decide) rfl
  have hKc := hK.sub (tys' := []) [] rfl
  have hFc := va_free (wc := []) hD hS hA [] rfl
  refine va_calli (va_runS (As := [.int n, .int 1, .int 64]) (rest := []) ⟨hx, hb, hml, hown, hts⟩ (k_X8_isWithin l D s.heap.size n 1 64 1 64 (by decide) (by decide)) (va_cwS 3 hts (gS bw_256 bw_349 bw_223 bw_348) rfl rfl rfl (by decide +kernel) ⟨(by rw [hR]; exact Nat.le_of_ble_eq_true rfl), (by rw [hR]; exact Nat.le_of_ble_eq_true rfl)⟩) ⟨cP_blind, cP_at hPc hKc hDc hN⟩ rfl rfl hl.1 rfl (lv_room (Nat.le_of_ble_eq_true rfl)) dX8_isSide_4 ⟨(by rw [hR]; exact Nat.le_of_ble_eq_true rfl), (by rw [hR]; exact Nat.le_of_ble_eq_true rfl)⟩) hS (fun q _ h => hFc q h) hFc (fun r_1 u9 t9 H1 locs ht hvm hr_1 hB hz1 hk1 hS => ?_)
  try dsimp only at hr_1
  have hP1 : va_P D vwCl [] H1 := vP_nil
  have hD1 : va_D (va_A [] s.heap.size) [] := vD_nil
  obtain ⟨hP, hD⟩ := va_join (wr := []) (w1 := []) hP hD [] [] rfl rfl (by decide) (by decide) hk1 hFc hP1 hD1
  clear hz1 hk1 hFc hKc hDc hPc
  generalize H1 = H at hP hS ⊢
  have hP : va_P D vwCl [] H := hP
  have hD : va_D A [] := hD
  refine hQ _ _ _ _ _ ?_
  exact W.zret (v := r_1) hx hb hr (nz_if hr_1) (fun t ht hW => ⟨⟨r_1, (), rfl, hr_1, trivial⟩, hS.F ht⟩) hS.2.2 dX8_isSide_7

set_option maxHeartbeats 4000000 in
set_option maxRecDepth 100000 in
theorem k_X8_isRule (l : Launch) (D : va_G) (sz : Nat) (n : Int32) : Met l yX8_isRule (wB yX8_isRule cX8_isRule 1 (some .boolean)) ({ frames := 0, cells := 0, slots := 0, locals := 0 }) (cP D [] [] sz [.int n]) (va_Qi (fun (r : Int32) (_ : Unit) => r = if n.toInt = 0 ∨ n.toInt = 1 then 1 else 0) (fun (_ : Unit) (_ : State) => True) (va_A [] sz)) 0 0 (va_A [] sz) := by
  refine Met.ofW (cc := cX8_isRule) (maxL := 1) (ret := (some .boolean)) (by decide) rfl ?_
  intro p e s m args below meth c s₁ B hml hv
  obtain ⟨rfl, hsz, hP, hK, hD0, hN⟩ := hv
  have hx := B.exec
  have hb := B.bytes
  have hr := B.returns
  have hts0 := atoms_spec (ws := (wB yX8_isRule cX8_isRule 1 (some .boolean))) B.pre
  have hts : ∀ w ∈ bigW, w.before _ s = true := fun w h => hts0 w (List.mem_cons_of_mem _ h)
  have hown : s.vm.findClass RX8 = some m.cls := findClass_of_methodNamed B.named
  have hlocks := B.notSynchronized
  subst hsz
  have hD := hD0.self (sz := s.heap.size)
  generalize hAe : va_A [] s.heap.size = A at hD ⊢
  have hA : ∀ q : Nat, s.heap.size ≤ q → A q := fun q h => by rw [← hAe]; exact Or.inr h
  have hS : va_S A s.heap s.heap [] := va_S.rf
  have hP : va_P D vwCl [] s.heap := hP
  have hl := lv_entry ([.int n]) (n := 1) (Nat.le_of_ble_eq_true rfl)
  rw [lg_entry_eq]
  generalize (lg_sl ([.int n]) ++ List.replicate (1 - (lg_sl ([.int n])).length) Slot.unset).toArray = ls at hl ⊢
  have hl : lv_has ls 1 [(0, .int n)] := hl
  clear hts0 hD0 hAe
  refine my_abs (fun R Q hR hQ => ?_)
  refine lv_iload_n hx hb dX8_isRule_0 rfl (lv_at hl 0 rfl) ?_
  refine lv_if_eq (tgt := 9) hx hb dX8_isRule_1 (by decide) (fun c_1 => ?_) (fun c_1 => ?_)
  · skip
    have f_2 : n.toInt = 0 := f_eq rfl (by decide) c_1
    refine lv_iconst (v := 1) hx hb dX8_isRule_9 (by decide) ?_
    refine lv_goto (tgt := 14) hx hb dX8_isRule_10 (by decide) ?_
    refine hQ _ _ _ _ _ ?_
    exact W.zret (v := 1) hx hb hr rfl (fun t ht hW => ⟨⟨1, (), rfl, (if_pos (by omega)).symm, trivial⟩, hS.F ht⟩) hS.2.2 dX8_isRule_14
  · skip
    have f_2 : ¬ (n.toInt = 0) := fn_eq rfl (by decide) c_1
    refine lv_iload_n hx hb dX8_isRule_4 rfl (lv_at hl 0 rfl) ?_
    refine lv_iconst (v := 1) hx hb dX8_isRule_5 (by decide) ?_
    refine lv_icmp_ne (tgt := 13) hx hb dX8_isRule_6 (by decide) (fun c_3 => ?_) (fun c_3 => ?_)
    · skip
      have f_4 : ¬ (n.toInt = 1) := fn_eq rfl (by decide) c_3
      refine lv_iconst (v := 0) hx hb dX8_isRule_13 (by decide) ?_
      refine hQ _ _ _ _ _ ?_
      exact W.zret (v := 0) hx hb hr rfl (fun t ht hW => ⟨⟨0, (), rfl, (if_neg (by omega)).symm, trivial⟩, hS.F ht⟩) hS.2.2 dX8_isRule_14
    · skip
      have f_4 : n.toInt = 1 := f_eq rfl (by decide) c_3
      refine lv_iconst (v := 1) hx hb dX8_isRule_9 (by decide) ?_
      refine lv_goto (tgt := 14) hx hb dX8_isRule_10 (by decide) ?_
      refine hQ _ _ _ _ _ ?_
      exact W.zret (v := 1) hx hb hr rfl (fun t ht hW => ⟨⟨1, (), rfl, (if_pos (by omega)).symm, trivial⟩, hS.F ht⟩) hS.2.2 dX8_isRule_14

set_option maxHeartbeats 4000000 in
set_option maxRecDepth 100000 in
theorem k_X8_shareOfFull (l : Launch) (D : va_G) (sz : Nat) (n : Int32) : Met l yX8_shareOfFull (wB yX8_shareOfFull cX8_shareOfFull 1 (some .int)) ({ frames := 0, cells := 0, slots := 0, locals := 0 }) (cP D [] [] sz [.int n]) (va_Qi (fun (r : Int32) (_ : Unit) => r = shP n) (fun (_ : Unit) (_ : State) => True) (va_A [] sz)) 0 0 (va_A [] sz) := by
  refine Met.ofW (cc := cX8_shareOfFull) (maxL := 1) (ret := (some .int)) (by decide) rfl ?_
  intro p e s m args below meth c s₁ B hml hv
  obtain ⟨rfl, hsz, hP, hK, hD0, hN⟩ := hv
  have hx := B.exec
  have hb := B.bytes
  have hr := B.returns
  have hts0 := atoms_spec (ws := (wB yX8_shareOfFull cX8_shareOfFull 1 (some .int))) B.pre
  have hts : ∀ w ∈ bigW, w.before _ s = true := fun w h => hts0 w (List.mem_cons_of_mem _ h)
  have hown : s.vm.findClass RX8 = some m.cls := findClass_of_methodNamed B.named
  have hlocks := B.notSynchronized
  subst hsz
  have hD := hD0.self (sz := s.heap.size)
  generalize hAe : va_A [] s.heap.size = A at hD ⊢
  have hA : ∀ q : Nat, s.heap.size ≤ q → A q := fun q h => by rw [← hAe]; exact Or.inr h
  have hS : va_S A s.heap s.heap [] := va_S.rf
  have hP : va_P D vwCl [] s.heap := hP
  have hl := lv_entry ([.int n]) (n := 1) (Nat.le_of_ble_eq_true rfl)
  rw [lg_entry_eq]
  generalize (lg_sl ([.int n]) ++ List.replicate (1 - (lg_sl ([.int n])).length) Slot.unset).toArray = ls at hl ⊢
  have hl : lv_has ls 1 [(0, .int n)] := hl
  clear hts0 hD0 hAe
  refine my_abs (fun R Q hR hQ => ?_)
  refine lv_iconst (v := 2) hx hb dX8_shareOfFull_0 (by decide) ?_
  refine lv_iload_n hx hb dX8_shareOfFull_1 rfl (lv_at hl 0 rfl) ?_
  refine lv_imul hx hb dX8_shareOfFull_2 ?_
  refine lv_topi (fun y_1 ey_1 => ?_)
  refine lv_sipush (v := 255) hx hb dX8_shareOfFull_3 (by decide) ?_
  refine lv_iadd hx hb dX8_shareOfFull_6 ?_
  refine lv_topi (fun y_2 ey_2 => ?_)
  refine lv_sipush (v := 510) hx hb dX8_shareOfFull_7 (by decide) ?_
  refine lv_idiv hx hb dX8_shareOfFull_10 (by decide) ?_
  refine lv_topi (fun y_3 ey_3 => ?_)
  refine hQ _ _ _ _ _ ?_
  exact W.iret (v := y_3) hx hb hr (fun t ht hW => ⟨⟨y_3, (), rfl, (by subst_vars; rfl), trivial⟩, hS.F ht⟩) hS.2.2 dX8_shareOfFull_11

set_option maxHeartbeats 4000000 in
set_option maxRecDepth 100000 in
theorem k_X8_channel (l : Launch) (D : va_G) (sz : Nat) (v n : Int32) : Met l yX8_channel (wB yX8_channel cX8_channel 2 (some .int)) ({ frames := 0, cells := 0, slots := 0, locals := 0 }) (cP D [] [] sz [.int v, .int n]) (va_Qi (fun (r : Int32) (_ : Unit) => r = chS v n) (fun (_ : Unit) (_ : State) => True) (va_A [] sz)) 0 0 (va_A [] sz) := by
  refine Met.ofW (cc := cX8_channel) (maxL := 2) (ret := (some .int)) (by decide) rfl ?_
  intro p e s m args below meth c s₁ B hml hv
  obtain ⟨rfl, hsz, hP, hK, hD0, hN⟩ := hv
  have hx := B.exec
  have hb := B.bytes
  have hr := B.returns
  have hts0 := atoms_spec (ws := (wB yX8_channel cX8_channel 2 (some .int))) B.pre
  have hts : ∀ w ∈ bigW, w.before _ s = true := fun w h => hts0 w (List.mem_cons_of_mem _ h)
  have hown : s.vm.findClass RX8 = some m.cls := findClass_of_methodNamed B.named
  have hlocks := B.notSynchronized
  subst hsz
  have hD := hD0.self (sz := s.heap.size)
  generalize hAe : va_A [] s.heap.size = A at hD ⊢
  have hA : ∀ q : Nat, s.heap.size ≤ q → A q := fun q h => by rw [← hAe]; exact Or.inr h
  have hS : va_S A s.heap s.heap [] := va_S.rf
  have hP : va_P D vwCl [] s.heap := hP
  have hl := lv_entry ([.int v, .int n]) (n := 2) (Nat.le_of_ble_eq_true rfl)
  rw [lg_entry_eq]
  generalize (lg_sl ([.int v, .int n]) ++ List.replicate (2 - (lg_sl ([.int v, .int n])).length) Slot.unset).toArray = ls at hl ⊢
  have hl : lv_has ls 2 [(0, .int v), (1, .int n)] := hl
  clear hts0 hD0 hAe
  refine my_abs (fun R Q hR hQ => ?_)
  refine lv_iload_n hx hb dX8_channel_0 rfl (lv_at hl 0 rfl) ?_
  refine lv_iload_n hx hb dX8_channel_1 rfl (lv_at hl 1 rfl) ?_
  refine lv_iushr hx hb dX8_channel_2 rfl ?_
  refine lv_topi (fun y_1 ey_1 => ?_)
  refine lv_sipush (v := 255) hx hb dX8_channel_3 (by decide) ?_
  refine lv_iand hx hb dX8_channel_6 ?_
  refine lv_topi (fun y_2 ey_2 => ?_)
  refine hQ _ _ _ _ _ ?_
  exact W.iret (v := y_2) hx hb hr (fun t ht hW => ⟨⟨y_2, (), rfl, (by subst_vars; rfl), trivial⟩, hS.F ht⟩) hS.2.2 dX8_channel_7

set_option maxHeartbeats 4000000 in
set_option maxRecDepth 100000 in
theorem k_X8_inkOf (l : Launch) (D : va_G) (sz : Nat) (n : Int32) : Met l yX8_inkOf (wB yX8_inkOf cX8_inkOf 4 (some .int)) ({ frames := 1, cells := 0, slots := 0, locals := 21 }) (cP D [] [] sz [.int n]) (va_Qi (fun (r : Int32) (_ : Unit) => r = inkP n) (fun (_ : Unit) (_ : State) => True) (va_A [] sz)) 0 0 (va_A [] sz) := by
  refine Met.ofW (cc := cX8_inkOf) (maxL := 4) (ret := (some .int)) (by decide) rfl ?_
  intro p e s m args below meth c s₁ B hml hv
  obtain ⟨rfl, hsz, hP, hK, hD0, hN⟩ := hv
  have hx := B.exec
  have hb := B.bytes
  have hr := B.returns
  have hts0 := atoms_spec (ws := (wB yX8_inkOf cX8_inkOf 4 (some .int))) B.pre
  have hts : ∀ w ∈ bigW, w.before _ s = true := fun w h => hts0 w (List.mem_cons_of_mem _ h)
  have hown : s.vm.findClass RX8 = some m.cls := findClass_of_methodNamed B.named
  have hlocks := B.notSynchronized
  subst hsz
  have hD := hD0.self (sz := s.heap.size)
  generalize hAe : va_A [] s.heap.size = A at hD ⊢
  have hA : ∀ q : Nat, s.heap.size ≤ q → A q := fun q h => by rw [← hAe]; exact Or.inr h
  have hS : va_S A s.heap s.heap [] := va_S.rf
  have hP : va_P D vwCl [] s.heap := hP
  have hl := lv_entry ([.int n]) (n := 4) (Nat.le_of_ble_eq_true rfl)
  rw [lg_entry_eq]
  generalize (lg_sl ([.int n]) ++ List.replicate (4 - (lg_sl ([.int n])).length) Slot.unset).toArray = ls at hl ⊢
  have hl : lv_has ls 4 [(0, .int n)] := hl
  clear hts0 hD0 hAe
  refine my_abs (fun R Q hR hQ => ?_)
  refine lv_iload_n hx hb dX8_inkOf_0 rfl (lv_at hl 0 rfl) ?_
  refine lv_bipush (v := 24) hx hb dX8_inkOf_1 (by decide) ?_
  have hPc := hP.sub (ws' := []) [] rfl
  have hDc := hD.sub (ws' := []) [] (by decide) rfl
  have hKc := hK.sub (tys' := []) [] rfl
  have hFc := va_free (wc := []) hD hS hA [] rfl
  refine va_calli (va_runS (As := [.int n, .int 24]) (rest := []) ⟨hx, hb, hml, hown, hts⟩ (k_X8_channel l D s.heap.size n 24) (va_cwS 2 hts (gS bw_364 bw_361 bw_223 bw_360) rfl rfl rfl (by decide +kernel) ⟨(by rw [hR]; exact Nat.le_of_ble_eq_true rfl), (by rw [hR]; exact Nat.le_of_ble_eq_true rfl)⟩) ⟨cP_blind, cP_at hPc hKc hDc hN⟩ rfl rfl hl.1 rfl (lv_room (Nat.le_of_ble_eq_true rfl)) dX8_inkOf_3 ⟨(by rw [hR]; exact Nat.le_of_ble_eq_true rfl), (by rw [hR]; exact Nat.le_of_ble_eq_true rfl)⟩) hS (fun q _ h => hFc q h) hFc (fun r_1 u9 t9 H1 locs ht hvm hr_1 hB hz1 hk1 hS => ?_)
  try dsimp only at hr_1
  have hP1 : va_P D vwCl [] H1 := vP_nil
  have hD1 : va_D (va_A [] s.heap.size) [] := vD_nil
  obtain ⟨hP, hD⟩ := va_join (wr := []) (w1 := []) hP hD [] [] rfl rfl (by decide) (by decide) hk1 hFc hP1 hD1
  clear hz1 hk1 hFc hKc hDc hPc
  generalize H1 = H at hP hS ⊢
  have hP : va_P D vwCl [] H := hP
  have hD : va_D A [] := hD
  refine lv_istore_n (lv' := [(1, .int r_1), (0, .int n)]) hx hb dX8_inkOf_6 rfl hl (by decide) rfl (fun ls hl => ?_)
  refine lv_iload_n hx hb dX8_inkOf_7 rfl (lv_at hl 0 rfl) ?_
  refine lv_istore_n (lv' := [(2, .int r_1), (1, .int r_1), (0, .int n)]) hx hb dX8_inkOf_8 rfl hl (by decide) rfl (fun ls hl => ?_)
  refine lv_bipush (v := 16) hx hb dX8_inkOf_9 (by decide) ?_
  refine lv_istore_n (lv' := [(3, .int 16), (2, .int r_1), (1, .int r_1), (0, .int n)]) hx hb dX8_inkOf_11 rfl hl (by decide) rfl (fun ls hl => ?_)
  refine lv_iload_n hx hb dX8_inkOf_12 rfl (lv_at hl 0 rfl) ?_
  refine lv_if_lt (tgt := 38) hx hb dX8_inkOf_13 (by decide) (fun c_2 => ?_) (fun c_2 => ?_)
  · skip
    exact absurd c_2 (by decide)
  · skip
    refine lv_iload_n hx hb dX8_inkOf_16 rfl (lv_at hl 1 rfl) ?_
    refine lv_bipush (v := 8) hx hb dX8_inkOf_17 (by decide) ?_
    refine lv_ishl hx hb dX8_inkOf_19 ?_
    refine lv_topi (fun y_4 ey_4 => ?_)
    refine lv_iload_n hx hb dX8_inkOf_20 rfl (lv_at hl 3 rfl) ?_
    refine lv_iload_n hx hb dX8_inkOf_21 rfl (lv_at hl 0 rfl) ?_
    have hPc := hP.sub (ws' := []) [] rfl
    have hDc := hD.sub (ws' := []) [] (by decide) rfl
    have hKc := hK.sub (tys' := []) [] rfl
    have hFc := va_free (wc := []) hD hS hA [] rfl
    refine va_calli (va_runS (As := [.int n, .int 16]) (rest := [.int y_4]) ⟨hx, hb, hml, hown, hts⟩ (k_X8_channel l D H.size n 16) (va_cwS 2 hts (gS bw_364 bw_361 bw_223 bw_360) rfl rfl rfl (by decide +kernel) ⟨(by rw [hR]; exact Nat.le_of_ble_eq_true rfl), (by rw [hR]; exact Nat.le_of_ble_eq_true rfl)⟩) ⟨cP_blind, cP_at hPc hKc hDc hN⟩ rfl rfl hl.1 rfl (lv_room (Nat.le_of_ble_eq_true rfl)) dX8_inkOf_22 ⟨(by rw [hR]; exact Nat.le_of_ble_eq_true rfl), (by rw [hR]; exact Nat.le_of_ble_eq_true rfl)⟩) hS (fun q _ h => hFc q h) hFc (fun r_5 u9 t9 H1 locs ht hvm hr_5 hB hz1 hk1 hS => ?_)
    try dsimp only at hr_5
    have hP1 : va_P D vwCl [] H1 := vP_nil
    have hD1 : va_D (va_A [] H.size) [] := vD_nil
    obtain ⟨hP, hD⟩ := va_join (wr := []) (w1 := []) hP hD [] [] rfl rfl (by decide) (by decide) hk1 hFc hP1 hD1
    clear hz1 hk1 hFc hKc hDc hPc
    generalize H1 = H at hP hS ⊢
    have hP : va_P D vwCl [] H := hP
    have hD : va_D A [] := hD
    refine lv_iload_n hx hb dX8_inkOf_25 rfl (lv_at hl 2 rfl) ?_
    refine lv_imul hx hb dX8_inkOf_26 ?_
    refine lv_topi (fun y_6 ey_6 => ?_)
    have hPc := hP.sub (ws' := []) [] rfl
    have hDc := hD.sub (ws' := []) [] (by decide) rfl
    have hKc := hK.sub (tys' := []) [] rfl
    have hFc := va_free (wc := []) hD hS hA [] rfl
    refine va_calli (va_runS (As := [.int y_6]) (rest := [.int y_4]) ⟨hx, hb, hml, hown, hts⟩ (k_X8_shareOfFull l D H.size y_6) (va_cwS 1 hts (gS bw_365 bw_359 bw_223 bw_358) rfl rfl rfl (by decide +kernel) ⟨(by rw [hR]; exact Nat.le_of_ble_eq_true rfl), (by rw [hR]; exact Nat.le_of_ble_eq_true rfl)⟩) ⟨cP_blind, cP_at hPc hKc hDc hN⟩ rfl rfl hl.1 rfl (lv_room (Nat.le_of_ble_eq_true rfl)) dX8_inkOf_27 ⟨(by rw [hR]; exact Nat.le_of_ble_eq_true rfl), (by rw [hR]; exact Nat.le_of_ble_eq_true rfl)⟩) hS (fun q _ h => hFc q h) hFc (fun r_7 u9 t9 H1 locs ht hvm hr_7 hB hz1 hk1 hS => ?_)
    try dsimp only at hr_7
    have hP1 : va_P D vwCl [] H1 := vP_nil
    have hD1 : va_D (va_A [] H.size) [] := vD_nil
    obtain ⟨hP, hD⟩ := va_join (wr := []) (w1 := []) hP hD [] [] rfl rfl (by decide) (by decide) hk1 hFc hP1 hD1
    clear hz1 hk1 hFc hKc hDc hPc
    generalize H1 = H at hP hS ⊢
    have hP : va_P D vwCl [] H := hP
    have hD : va_D A [] := hD
    refine lv_ior hx hb dX8_inkOf_30 ?_
    refine lv_topi (fun y_8 ey_8 => ?_)
    refine lv_istore_n (lv' := [(2, .int y_8), (3, .int 16), (1, .int r_1), (0, .int n)]) hx hb dX8_inkOf_31 rfl hl (by decide) rfl (fun ls hl => ?_)
    refine lv_iinc (v := 8) (lv' := [(3, .int 8), (2, .int y_8), (1, .int r_1), (0, .int n)]) hx hb dX8_inkOf_32 hl (k := 1) rfl (by decide) (by decide) rfl (fun ls hl => ?_)
    refine lv_goto (tgt := 12) hx hb dX8_inkOf_35 (by decide) ?_
    refine lv_iload_n hx hb dX8_inkOf_12 rfl (lv_at hl 0 rfl) ?_
    refine lv_if_lt (tgt := 38) hx hb dX8_inkOf_13 (by decide) (fun c_9 => ?_) (fun c_9 => ?_)
    · skip
      exact absurd c_9 (by decide)
    · skip
      refine lv_iload_n hx hb dX8_inkOf_16 rfl (lv_at hl 1 rfl) ?_
      refine lv_bipush (v := 8) hx hb dX8_inkOf_17 (by decide) ?_
      refine lv_ishl hx hb dX8_inkOf_19 ?_
      refine lv_topi (fun y_11 ey_11 => ?_)
      refine lv_iload_n hx hb dX8_inkOf_20 rfl (lv_at hl 3 rfl) ?_
      refine lv_iload_n hx hb dX8_inkOf_21 rfl (lv_at hl 0 rfl) ?_
      have hPc := hP.sub (ws' := []) [] rfl
      have hDc := hD.sub (ws' := []) [] (by decide) rfl
      have hKc := hK.sub (tys' := []) [] rfl
      have hFc := va_free (wc := []) hD hS hA [] rfl
      refine va_calli (va_runS (As := [.int n, .int 8]) (rest := [.int y_11]) ⟨hx, hb, hml, hown, hts⟩ (k_X8_channel l D H.size n 8) (va_cwS 2 hts (gS bw_364 bw_361 bw_223 bw_360) rfl rfl rfl (by decide +kernel) ⟨(by rw [hR]; exact Nat.le_of_ble_eq_true rfl), (by rw [hR]; exact Nat.le_of_ble_eq_true rfl)⟩) ⟨cP_blind, cP_at hPc hKc hDc hN⟩ rfl rfl hl.1 rfl (lv_room (Nat.le_of_ble_eq_true rfl)) dX8_inkOf_22 ⟨(by rw [hR]; exact Nat.le_of_ble_eq_true rfl), (by rw [hR]; exact Nat.le_of_ble_eq_true rfl)⟩) hS (fun q _ h => hFc q h) hFc (fun r_12 u9 t9 H1 locs ht hvm hr_12 hB hz1 hk1 hS => ?_)
      try dsimp only at hr_12
      have hP1 : va_P D vwCl [] H1 := vP_nil
      have hD1 : va_D (va_A [] H.size) [] := vD_nil
      obtain ⟨hP, hD⟩ := va_join (wr := []) (w1 := []) hP hD [] [] rfl rfl (by decide) (by decide) hk1 hFc hP1 hD1
      clear hz1 hk1 hFc hKc hDc hPc
      generalize H1 = H at hP hS ⊢
      have hP : va_P D vwCl [] H := hP
      have hD : va_D A [] := hD
      refine lv_iload_n hx hb dX8_inkOf_25 rfl (lv_at hl 2 rfl) ?_
      refine lv_imul hx hb dX8_inkOf_26 ?_
      refine lv_topi (fun y_13 ey_13 => ?_)
      have hPc := hP.sub (ws' := []) [] rfl
      have hDc := hD.sub (ws' := []) [] (by decide) rfl
      have hKc := hK.sub (tys' := []) [] rfl
      have hFc := va_free (wc := []) hD hS hA [] rfl
      refine va_calli (va_runS (As := [.int y_13]) (rest := [.int y_11]) ⟨hx, hb, hml, hown, hts⟩ (k_X8_shareOfFull l D H.size y_13) (va_cwS 1 hts (gS bw_365 bw_359 bw_223 bw_358) rfl rfl rfl (by decide +kernel) ⟨(by rw [hR]; exact Nat.le_of_ble_eq_true rfl), (by rw [hR]; exact Nat.le_of_ble_eq_true rfl)⟩) ⟨cP_blind, cP_at hPc hKc hDc hN⟩ rfl rfl hl.1 rfl (lv_room (Nat.le_of_ble_eq_true rfl)) dX8_inkOf_27 ⟨(by rw [hR]; exact Nat.le_of_ble_eq_true rfl), (by rw [hR]; exact Nat.le_of_ble_eq_true rfl)⟩) hS (fun q _ h => hFc q h) hFc (fun r_14 u9 t9 H1 locs ht hvm hr_14 hB hz1 hk1 hS => ?_)
      try dsimp only at hr_14
      have hP1 : va_P D vwCl [] H1 := vP_nil
      have hD1 : va_D (va_A [] H.size) [] := vD_nil
      obtain ⟨hP, hD⟩ := va_join (wr := []) (w1 := []) hP hD [] [] rfl rfl (by decide) (by decide) hk1 hFc hP1 hD1
      clear hz1 hk1 hFc hKc hDc hPc
      generalize H1 = H at hP hS ⊢
      have hP : va_P D vwCl [] H := hP
      have hD : va_D A [] := hD
      refine lv_ior hx hb dX8_inkOf_30 ?_
      refine lv_topi (fun y_15 ey_15 => ?_)
      refine lv_istore_n (lv' := [(2, .int y_15), (3, .int 8), (1, .int r_1), (0, .int n)]) hx hb dX8_inkOf_31 rfl hl (by decide) rfl (fun ls hl => ?_)
      refine lv_iinc (v := 0) (lv' := [(3, .int 0), (2, .int y_15), (1, .int r_1), (0, .int n)]) hx hb dX8_inkOf_32 hl (k := 1) rfl (by decide) (by decide) rfl (fun ls hl => ?_)
      refine lv_goto (tgt := 12) hx hb dX8_inkOf_35 (by decide) ?_
      refine lv_iload_n hx hb dX8_inkOf_12 rfl (lv_at hl 0 rfl) ?_
      refine lv_if_lt (tgt := 38) hx hb dX8_inkOf_13 (by decide) (fun c_16 => ?_) (fun c_16 => ?_)
      · skip
        exact absurd c_16 (by decide)
      · skip
        refine lv_iload_n hx hb dX8_inkOf_16 rfl (lv_at hl 1 rfl) ?_
        refine lv_bipush (v := 8) hx hb dX8_inkOf_17 (by decide) ?_
        refine lv_ishl hx hb dX8_inkOf_19 ?_
        refine lv_topi (fun y_18 ey_18 => ?_)
        refine lv_iload_n hx hb dX8_inkOf_20 rfl (lv_at hl 3 rfl) ?_
        refine lv_iload_n hx hb dX8_inkOf_21 rfl (lv_at hl 0 rfl) ?_
        have hPc := hP.sub (ws' := []) [] rfl
        have hDc := hD.sub (ws' := []) [] (by decide) rfl
        have hKc := hK.sub (tys' := []) [] rfl
        have hFc := va_free (wc := []) hD hS hA [] rfl
        refine va_calli (va_runS (As := [.int n, .int 0]) (rest := [.int y_18]) ⟨hx, hb, hml, hown, hts⟩ (k_X8_channel l D H.size n 0) (va_cwS 2 hts (gS bw_364 bw_361 bw_223 bw_360) rfl rfl rfl (by decide +kernel) ⟨(by rw [hR]; exact Nat.le_of_ble_eq_true rfl), (by rw [hR]; exact Nat.le_of_ble_eq_true rfl)⟩) ⟨cP_blind, cP_at hPc hKc hDc hN⟩ rfl rfl hl.1 rfl (lv_room (Nat.le_of_ble_eq_true rfl)) dX8_inkOf_22 ⟨(by rw [hR]; exact Nat.le_of_ble_eq_true rfl), (by rw [hR]; exact Nat.le_of_ble_eq_true rfl)⟩) hS (fun q _ h => hFc q h) hFc (fun r_19 u9 t9 H1 locs ht hvm hr_19 hB hz1 hk1 hS => ?_)
        try dsimp only at hr_19
        have hP1 : va_P D vwCl [] H1 := vP_nil
        have hD1 : va_D (va_A [] H.size) [] := vD_nil
        obtain ⟨hP, hD⟩ := va_join (wr := []) (w1 := []) hP hD [] [] rfl rfl (by decide) (by decide) hk1 hFc hP1 hD1
        clear hz1 hk1 hFc hKc hDc hPc
        generalize H1 = H at hP hS ⊢
        have hP : va_P D vwCl [] H := hP
        have hD : va_D A [] := hD
        refine lv_iload_n hx hb dX8_inkOf_25 rfl (lv_at hl 2 rfl) ?_
        refine lv_imul hx hb dX8_inkOf_26 ?_
        refine lv_topi (fun y_20 ey_20 => ?_)
        have hPc := hP.sub (ws' := []) [] rfl
        have hDc := hD.sub (ws' := []) [] (by decide) rfl
        have hKc := hK.sub (tys' := []) [] rfl
        have hFc := va_free (wc := []) hD hS hA [] rfl
        refine va_calli (va_runS (As := [.int y_20]) (rest := [.int y_18]) ⟨hx, hb, hml, hown, hts⟩ (k_X8_shareOfFull l D H.size y_20) (va_cwS 1 hts (gS bw_365 bw_359 bw_223 bw_358) rfl rfl rfl (by decide +kernel) ⟨(by rw [hR]; exact Nat.le_of_ble_eq_true rfl), (by rw [hR]; exact Nat.le_of_ble_eq_true rfl)⟩) ⟨cP_blind, cP_at hPc hKc hDc hN⟩ rfl rfl hl.1 rfl (lv_room (Nat.le_of_ble_eq_true rfl)) dX8_inkOf_27 ⟨(by rw [hR]; exact Nat.le_of_ble_eq_true rfl), (by rw [hR]; exact Nat.le_of_ble_eq_true rfl)⟩) hS (fun q _ h => hFc q h) hFc (fun r_21 u9 t9 H1 locs ht hvm hr_21 hB hz1 hk1 hS => ?_)
        try dsimp only at hr_21
        have hP1 : va_P D vwCl [] H1 := vP_nil
        have hD1 : va_D (va_A [] H.size) [] := vD_nil
        obtain ⟨hP, hD⟩ := va_join (wr := []) (w1 := []) hP hD [] [] rfl rfl (by decide) (by decide) hk1 hFc hP1 hD1
        clear hz1 hk1 hFc hKc hDc hPc
        generalize H1 = H at hP hS ⊢
        have hP : va_P D vwCl [] H := hP
        have hD : va_D A [] := hD
        refine lv_ior hx hb dX8_inkOf_30 ?_
        refine lv_topi (fun y_22 ey_22 => ?_)
        refine lv_istore_n (lv' := [(2, .int y_22), (3, .int 0), (1, .int r_1), (0, .int n)]) hx hb dX8_inkOf_31 rfl hl (by decide) rfl (fun ls hl => ?_)
        refine lv_iinc (v := (-8)) (lv' := [(3, .int (-8)), (2, .int y_22), (1, .int r_1), (0, .int n)]) hx hb dX8_inkOf_32 hl (k := 1) rfl (by decide) (by decide) rfl (fun ls hl => ?_)
        refine lv_goto (tgt := 12) hx hb dX8_inkOf_35 (by decide) ?_
        refine lv_iload_n hx hb dX8_inkOf_12 rfl (lv_at hl 0 rfl) ?_
        refine lv_if_lt (tgt := 38) hx hb dX8_inkOf_13 (by decide) (fun c_23 => ?_) (fun c_23 => ?_)
        · skip
          refine lv_iload_n hx hb dX8_inkOf_38 rfl (lv_at hl 1 rfl) ?_
          refine hQ _ _ _ _ _ ?_
          exact W.iret (v := y_22) hx hb hr (fun t ht hW => ⟨⟨y_22, (), rfl, (by subst_vars; rfl), trivial⟩, hS.F ht⟩) hS.2.2 dX8_inkOf_39
        · skip
          exact absurd c_23 (by decide)
