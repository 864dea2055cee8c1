set_option maxHeartbeats 4000000 in
set_option maxRecDepth 100000 in
theorem k_X9_isNear (l : Launch) (D : va_G) (sz : Nat) (n far : Int32) (A0 B0 : Int) (hA0 : (-far).toInt = A0) (hB0 : far.toInt = B0) : Met l yX9_isNear (wB yX9_isNear cX9_isNear 2 (some .boolean)) ({ frames := 0, cells := 0, slots := 0, locals := 0 }) (cP D [] [] sz [.int n, .int far]) (va_Qi (fun (r : Int32) (_ : Unit) => r = if A0 ≤ n.toInt ∧ n.toInt ≤ B0 then 1 else 0) (fun (_ : Unit) (_ : State) => True) (va_A [] sz)) 0 0 (va_A [] sz) := by
  refine Met.ofW (cc := cX9_isNear) (maxL := 2) (ret := (some .boolean)) (by decide) rfl ?_
  intro p e s m args below meth c s₁ B hml hv
  obtain ⟨rfl, hsz, hP, hK, hD0, hN⟩ := hv
  have hx := B.exec
  have hb := B.bytes
  have hr := B.returns
  have hts0 := atoms_spec (ws := (wB yX9_isNear cX9_isNear 2 (some .boolean))) B.pre
  have hts : ∀ w ∈ bigW, w.before _ s = true := fun w h => hts0 w (List.mem_cons_of_mem _ h)
  have hown : s.vm.findClass RX9 = some m.cls := findClass_of_methodNamed B.named
  have hlocks := B.notSynchronized
  subst hsz
  have hD := hD0.self (sz := s.heap.size)
  generalize hAe : va_A [] s.heap.size = A at hD ⊢
  have hA : ∀ q : Nat, s.heap.size ≤ q → A q := fun q h => by rw [← hAe]; exact Or.inr h
  have hS : va_S A s.heap s.heap [] := va_S.rf
  have hP : va_P D vwCl [] s.heap := hP
  have hl := lv_entry ([.int n, .int far]) (n := 2) (Nat.le_of_ble_eq_true rfl)
  rw [lg_entry_eq]
  generalize (lg_sl ([.int n, .int far]) ++ List.replicate (2 - (lg_sl ([.int n, .int far])).length) Slot.unset).toArray = ls at hl ⊢
  have hl : lv_has ls 2 [(0, .int n), (1, .int far)] := hl
  refine lv_iload_n hx hb dX9_isNear_0 rfl (lv_at hl 0 rfl) ?_
  refine lv_iload_n hx hb dX9_isNear_1 rfl (lv_at hl 1 rfl) ?_
  refine lv_ineg hx hb dX9_isNear_2 ?_
  refine lv_icmp_lt (tgt := 15) hx hb dX9_isNear_3 (by decide) (fun c_1 => ?_) (fun c_1 => ?_)
  · skip
    have f_2 : n.toInt < A0 := f_lt rfl hA0 c_1
    refine lv_iconst (v := 0) hx hb dX9_isNear_15 (by decide) ?_
    exact W.zret (v := 0) hx hb hr rfl (fun t ht hW => ⟨⟨0, (), rfl, (if_neg (by omega)).symm, trivial⟩, hS.F ht⟩) hS.2.2 dX9_isNear_16
  · skip
    have f_2 : ¬ (n.toInt < A0) := fn_lt rfl hA0 c_1
    refine lv_iload_n hx hb dX9_isNear_6 rfl (lv_at hl 0 rfl) ?_
    refine lv_iload_n hx hb dX9_isNear_7 rfl (lv_at hl 1 rfl) ?_
    refine lv_icmp_gt (tgt := 15) hx hb dX9_isNear_8 (by decide) (fun c_3 => ?_) (fun c_3 => ?_)
    · skip
      have f_4 : B0 < n.toInt := f_lt hB0 rfl c_3
      refine lv_iconst (v := 0) hx hb dX9_isNear_15 (by decide) ?_
      exact W.zret (v := 0) hx hb hr rfl (fun t ht hW => ⟨⟨0, (), rfl, (if_neg (by omega)).symm, trivial⟩, hS.F ht⟩) hS.2.2 dX9_isNear_16
    · skip
      have f_4 : ¬ (B0 < n.toInt) := fn_lt hB0 rfl c_3
      refine lv_iconst (v := 1) hx hb dX9_isNear_11 (by decide) ?_
      refine lv_goto (tgt := 16) hx hb dX9_isNear_12 (by decide) ?_
      exact W.zret (v := 1) hx hb hr rfl (fun t ht hW => ⟨⟨1, (), rfl, (if_pos (by omega)).symm, trivial⟩, hS.F ht⟩) hS.2.2 dX9_isNear_16

set_option maxHeartbeats 4000000 in
set_option maxRecDepth 100000 in
theorem k_X9_nearest (l : Launch) (D : va_G) (sz : Nat) (n d : Int32) (hd : ¬ (2 * d = 0)) : Met l yX9_nearest (wB yX9_nearest cX9_nearest 2 (some .int)) ({ frames := 0, cells := 0, slots := 0, locals := 0 }) (cP D [] [] sz [.int n, .int d]) (va_Qi (fun (r : Int32) (_ : Unit) => True) (fun (_ : Unit) (_ : State) => True) (va_A [] sz)) 0 0 (va_A [] sz) := by
  refine Met.ofW (cc := cX9_nearest) (maxL := 2) (ret := (some .int)) (by decide) rfl ?_
  intro p e s m args below meth c s₁ B hml hv
  obtain ⟨rfl, hsz, hP, hK, hD0, hN⟩ := hv
  have hx := B.exec
  have hb := B.bytes
  have hr := B.returns
  have hts0 := atoms_spec (ws := (wB yX9_nearest cX9_nearest 2 (some .int))) B.pre
  have hts : ∀ w ∈ bigW, w.before _ s = true := fun w h => hts0 w (List.mem_cons_of_mem _ h)
  have hown : s.vm.findClass RX9 = some m.cls := findClass_of_methodNamed B.named
  have hlocks := B.notSynchronized
  subst hsz
  have hD := hD0.self (sz := s.heap.size)
  generalize hAe : va_A [] s.heap.size = A at hD ⊢
  have hA : ∀ q : Nat, s.heap.size ≤ q → A q := fun q h => by rw [← hAe]; exact Or.inr h
  have hS : va_S A s.heap s.heap [] := va_S.rf
  have hP : va_P D vwCl [] s.heap := hP
  have hl := lv_entry ([.int n, .int d]) (n := 2) (Nat.le_of_ble_eq_true rfl)
  rw [lg_entry_eq]
  generalize (lg_sl ([.int n, .int d]) ++ List.replicate (2 - (lg_sl ([.int n, .int d])).length) Slot.unset).toArray = ls at hl ⊢
  have hl : lv_has ls 2 [(0, .int n), (1, .int d)] := hl
  refine lv_iconst (v := 2) hx hb dX9_nearest_0 (by decide) ?_
  refine lv_iload_n hx hb dX9_nearest_1 rfl (lv_at hl 0 rfl) ?_
  refine lv_imul hx hb dX9_nearest_2 ?_
  refine lv_topi (fun y_1 ey_1 => ?_)
  refine lv_iload_n hx hb dX9_nearest_3 rfl (lv_at hl 1 rfl) ?_
  refine lv_iadd hx hb dX9_nearest_4 ?_
  refine lv_topi (fun y_2 ey_2 => ?_)
  refine lv_iconst (v := 2) hx hb dX9_nearest_5 (by decide) ?_
  refine lv_iload_n hx hb dX9_nearest_6 rfl (lv_at hl 1 rfl) ?_
  refine lv_imul hx hb dX9_nearest_7 ?_
  refine lv_topi (fun y_3 ey_3 => ?_)
  refine lv_idiv hx hb dX9_nearest_8 (by rw [ey_3]; exact hd) ?_
  refine lv_topi (fun y_4 ey_4 => ?_)
  exact W.iret (v := y_4) hx hb hr (fun t ht hW => ⟨⟨y_4, (), rfl, trivial, trivial⟩, hS.F ht⟩) hS.2.2 dX9_nearest_9

set_option maxHeartbeats 4000000 in
set_option maxRecDepth 100000 in
theorem k_X9_channel (l : Launch) (D : va_G) (sz : Nat) (v n : Int32) : Met l yX9_channel (wB yX9_channel cX9_channel 2 (some .int)) ({ frames := 0, cells := 0, slots := 0, locals := 0 }) (cP D [] [] sz [.int v, .int n]) (va_Qi (fun (r : Int32) (_ : Unit) => True) (fun (_ : Unit) (_ : State) => True) (va_A [] sz)) 0 0 (va_A [] sz) := by
  refine Met.ofW (cc := cX9_channel) (maxL := 2) (ret := (some .int)) (by decide) rfl ?_
  intro p e s m args below meth c s₁ B hml hv
  obtain ⟨rfl, hsz, hP, hK, hD0, hN⟩ := hv
  have hx := B.exec
  have hb := B.bytes
  have hr := B.returns
  have hts0 := atoms_spec (ws := (wB yX9_channel cX9_channel 2 (some .int))) B.pre
  have hts : ∀ w ∈ bigW, w.before _ s = true := fun w h => hts0 w (List.mem_cons_of_mem _ h)
  have hown : s.vm.findClass RX9 = some m.cls := findClass_of_methodNamed B.named
  have hlocks := B.notSynchronized
  subst hsz
  have hD := hD0.self (sz := s.heap.size)
  generalize hAe : va_A [] s.heap.size = A at hD ⊢
  have hA : ∀ q : Nat, s.heap.size ≤ q → A q := fun q h => by rw [← hAe]; exact Or.inr h
  have hS : va_S A s.heap s.heap [] := va_S.rf
  have hP : va_P D vwCl [] s.heap := hP
  have hl := lv_entry ([.int v, .int n]) (n := 2) (Nat.le_of_ble_eq_true rfl)
  rw [lg_entry_eq]
  generalize (lg_sl ([.int v, .int n]) ++ List.replicate (2 - (lg_sl ([.int v, .int n])).length) Slot.unset).toArray = ls at hl ⊢
  have hl : lv_has ls 2 [(0, .int v), (1, .int n)] := hl
  refine lv_iload_n hx hb dX9_channel_0 rfl (lv_at hl 0 rfl) ?_
  refine lv_bipush (v := 24) hx hb dX9_channel_1 (by decide) ?_
  refine lv_bipush (v := 8) hx hb dX9_channel_3 (by decide) ?_
  refine lv_iload_n hx hb dX9_channel_5 rfl (lv_at hl 1 rfl) ?_
  refine lv_imul hx hb dX9_channel_6 ?_
  refine lv_topi (fun y_1 ey_1 => ?_)
  refine lv_isub hx hb dX9_channel_7 ?_
  refine lv_topi (fun y_2 ey_2 => ?_)
  refine lv_ishr hx hb dX9_channel_8 ?_
  refine lv_topi (fun y_3 ey_3 => ?_)
  refine lv_sipush (v := 255) hx hb dX9_channel_9 (by decide) ?_
  refine lv_iand hx hb dX9_channel_12 ?_
  refine lv_topi (fun y_4 ey_4 => ?_)
  exact W.iret (v := y_4) hx hb hr (fun t ht hW => ⟨⟨y_4, (), rfl, trivial, trivial⟩, hS.F ht⟩) hS.2.2 dX9_channel_13

set_option maxHeartbeats 4000000 in
set_option maxRecDepth 100000 in
theorem k_X9_inkOf (l : Launch) (D : va_G) (sz : Nat) (n : Int32) : Met l yX9_inkOf (wB yX9_inkOf cX9_inkOf 4 (some .int)) ({ frames := 1, cells := 0, slots := 0, locals := 21 }) (cP D [] [] sz [.int n]) (va_Qi (fun (r : Int32) (_ : Unit) => True) (fun (_ : Unit) (_ : State) => True) (va_A [] sz)) 0 0 (va_A [] sz) := by
  refine Met.ofW (cc := cX9_inkOf) (maxL := 4) (ret := (some .int)) (by decide) rfl ?_
  intro p e s m args below meth c s₁ B hml hv
  obtain ⟨rfl, hsz, hP, hK, hD0, hN⟩ := hv
  have hx := B.exec
  have hb := B.bytes
  have hr := B.returns
  have hts0 := atoms_spec (ws := (wB yX9_inkOf cX9_inkOf 4 (some .int))) B.pre
  have hts : ∀ w ∈ bigW, w.before _ s = true := fun w h => hts0 w (List.mem_cons_of_mem _ h)
  have hown : s.vm.findClass RX9 = some m.cls := findClass_of_methodNamed B.named
  have hlocks := B.notSynchronized
  subst hsz
  have hD := hD0.self (sz := s.heap.size)
  generalize hAe : va_A [] s.heap.size = A at hD ⊢
  have hA : ∀ q : Nat, s.heap.size ≤ q → A q := fun q h => by rw [← hAe]; exact Or.inr h
  have hS : va_S A s.heap s.heap [] := va_S.rf
  have hP : va_P D vwCl [] s.heap := hP
  have hl := lv_entry ([.int n]) (n := 4) (Nat.le_of_ble_eq_true rfl)
  rw [lg_entry_eq]
  generalize (lg_sl ([.int n]) ++ List.replicate (4 - (lg_sl ([.int n])).length) Slot.unset).toArray = ls at hl ⊢
  have hl : lv_has ls 4 [(0, .int n)] := hl
  refine lv_iload_n hx hb dX9_inkOf_0 rfl (lv_at hl 0 rfl) ?_
  refine lv_iconst (v := 0) hx hb dX9_inkOf_1 (by decide) ?_
  have hPc := hP.sub (ws' := []) [] rfl
  have hDc := hD.sub (ws' := []) [] (by decide) rfl
  have hKc := hK.sub (tys' := []) [] rfl
  have hFc := va_free (wc := []) hD hS hA [] rfl
  refine va_calli (va_runS (As := [.int n, .int 0]) (rest := []) ⟨hx, hb, hml, hown, hts⟩ (k_X9_channel l D s.heap.size n 0) (va_cwS 2 hts (gS bw_12 bw_13 bw_11 bw_10) rfl rfl rfl (by decide +kernel) ⟨Nat.le_of_ble_eq_true rfl, Nat.le_of_ble_eq_true rfl⟩) ⟨cP_blind, cP_at hPc hKc hDc hN⟩ rfl rfl hl.1 rfl (lv_room (Nat.le_of_ble_eq_true rfl)) dX9_inkOf_2 ⟨Nat.le_of_ble_eq_true rfl, Nat.le_of_ble_eq_true rfl⟩) hS (fun q _ h => hFc q h) hFc (fun r_1 u9 t9 H1 locs ht hvm hr_1 hB hz1 hk1 hS => ?_)
  try dsimp only at hr_1
  have hP1 : va_P D vwCl [] H1 := vP_nil
  have hD1 : va_D (va_A [] s.heap.size) [] := vD_nil
  obtain ⟨hP, hD⟩ := va_join (wr := []) (w1 := []) hP hD [] [] rfl rfl (by decide) (by decide) hk1 hFc hP1 hD1
  clear hz1 hk1 hFc hKc hDc hPc
  generalize H1 = H at hP hS ⊢
  have hP : va_P D vwCl [] H := hP
  have hD : va_D A [] := hD
  refine lv_istore_n (lv' := [(1, .int r_1), (0, .int n)]) hx hb dX9_inkOf_5 rfl hl (by decide) rfl (fun ls hl => ?_)
  refine lv_iload_n hx hb dX9_inkOf_6 rfl (lv_at hl 0 rfl) ?_
  refine lv_istore_n (lv' := [(2, .int r_1), (1, .int r_1), (0, .int n)]) hx hb dX9_inkOf_7 rfl hl (by decide) rfl (fun ls hl => ?_)
  refine lv_iconst (v := 1) hx hb dX9_inkOf_8 (by decide) ?_
  refine lv_istore_n (lv' := [(3, .int 1), (2, .int r_1), (1, .int r_1), (0, .int n)]) hx hb dX9_inkOf_9 rfl hl (by decide) rfl (fun ls hl => ?_)
  refine lv_iload_n hx hb dX9_inkOf_10 rfl (lv_at hl 0 rfl) ?_
  refine lv_iconst (v := 4) hx hb dX9_inkOf_11 (by decide) ?_
  refine lv_icmp_ge (tgt := 40) hx hb dX9_inkOf_12 (by decide) (fun c_2 => ?_) (fun c_2 => ?_)
  · skip
    exact absurd c_2 (by decide)
  · skip
    refine lv_iload_n hx hb dX9_inkOf_15 rfl (lv_at hl 1 rfl) ?_
    refine lv_bipush (v := 8) hx hb dX9_inkOf_16 (by decide) ?_
    refine lv_ishl hx hb dX9_inkOf_18 ?_
    refine lv_topi (fun y_4 ey_4 => ?_)
    refine lv_iload_n hx hb dX9_inkOf_19 rfl (lv_at hl 3 rfl) ?_
    refine lv_iload_n hx hb dX9_inkOf_20 rfl (lv_at hl 0 rfl) ?_
    have hPc := hP.sub (ws' := []) [] rfl
    have hDc := hD.sub (ws' := []) [] (by decide) rfl
    have hKc := hK.sub (tys' := []) [] rfl
    have hFc := va_free (wc := []) hD hS hA [] rfl
    refine va_calli (va_runS (As := [.int n, .int 1]) (rest := [.int y_4]) ⟨hx, hb, hml, hown, hts⟩ (k_X9_channel l D H.size n 1) (va_cwS 2 hts (gS bw_12 bw_13 bw_11 bw_10) rfl rfl rfl (by decide +kernel) ⟨Nat.le_of_ble_eq_true rfl, Nat.le_of_ble_eq_true rfl⟩) ⟨cP_blind, cP_at hPc hKc hDc hN⟩ rfl rfl hl.1 rfl (lv_room (Nat.le_of_ble_eq_true rfl)) dX9_inkOf_21 ⟨Nat.le_of_ble_eq_true rfl, Nat.le_of_ble_eq_true rfl⟩) hS (fun q _ h => hFc q h) hFc (fun r_5 u9 t9 H1 locs ht hvm hr_5 hB hz1 hk1 hS => ?_)
    try dsimp only at hr_5
    have hP1 : va_P D vwCl [] H1 := vP_nil
    have hD1 : va_D (va_A [] H.size) [] := vD_nil
    obtain ⟨hP, hD⟩ := va_join (wr := []) (w1 := []) hP hD [] [] rfl rfl (by decide) (by decide) hk1 hFc hP1 hD1
    clear hz1 hk1 hFc hKc hDc hPc
    generalize H1 = H at hP hS ⊢
    have hP : va_P D vwCl [] H := hP
    have hD : va_D A [] := hD
    refine lv_iload_n hx hb dX9_inkOf_24 rfl (lv_at hl 2 rfl) ?_
    refine lv_imul hx hb dX9_inkOf_25 ?_
    refine lv_topi (fun y_6 ey_6 => ?_)
    refine lv_sipush (v := 255) hx hb dX9_inkOf_26 (by decide) ?_
    have hPc := hP.sub (ws' := []) [] rfl
    have hDc := hD.sub (ws' := []) [] (by decide) rfl
    have hKc := hK.sub (tys' := []) [] rfl
    have hFc := va_free (wc := []) hD hS hA [] rfl
    refine va_calli (va_runS (As := [.int y_6, .int 255]) (rest := [.int y_4]) ⟨hx, hb, hml, hown, hts⟩ (k_X9_nearest l D H.size y_6 255 (by decide)) (va_cwS 2 hts (gS bw_15 bw_16 bw_11 bw_14) rfl rfl rfl (by decide +kernel) ⟨Nat.le_of_ble_eq_true rfl, Nat.le_of_ble_eq_true rfl⟩) ⟨cP_blind, cP_at hPc hKc hDc hN⟩ rfl rfl hl.1 rfl (lv_room (Nat.le_of_ble_eq_true rfl)) dX9_inkOf_29 ⟨Nat.le_of_ble_eq_true rfl, Nat.le_of_ble_eq_true rfl⟩) hS (fun q _ h => hFc q h) hFc (fun r_7 u9 t9 H1 locs ht hvm hr_7 hB hz1 hk1 hS => ?_)
    try dsimp only at hr_7
    have hP1 : va_P D vwCl [] H1 := vP_nil
    have hD1 : va_D (va_A [] H.size) [] := vD_nil
    obtain ⟨hP, hD⟩ := va_join (wr := []) (w1 := []) hP hD [] [] rfl rfl (by decide) (by decide) hk1 hFc hP1 hD1
    clear hz1 hk1 hFc hKc hDc hPc
    generalize H1 = H at hP hS ⊢
    have hP : va_P D vwCl [] H := hP
    have hD : va_D A [] := hD
    refine lv_ior hx hb dX9_inkOf_32 ?_
    refine lv_topi (fun y_8 ey_8 => ?_)
    refine lv_istore_n (lv' := [(2, .int y_8), (3, .int 1), (1, .int r_1), (0, .int n)]) hx hb dX9_inkOf_33 rfl hl (by decide) rfl (fun ls hl => ?_)
    refine lv_iinc (v := 2) (lv' := [(3, .int 2), (2, .int y_8), (1, .int r_1), (0, .int n)]) hx hb dX9_inkOf_34 hl (k := 1) rfl (by decide) (by decide) rfl (fun ls hl => ?_)
    refine lv_goto (tgt := 10) hx hb dX9_inkOf_37 (by decide) ?_
    refine lv_iload_n hx hb dX9_inkOf_10 rfl (lv_at hl 0 rfl) ?_
    refine lv_iconst (v := 4) hx hb dX9_inkOf_11 (by decide) ?_
    refine lv_icmp_ge (tgt := 40) hx hb dX9_inkOf_12 (by decide) (fun c_9 => ?_) (fun c_9 => ?_)
    · skip
      exact absurd c_9 (by decide)
    · skip
      refine lv_iload_n hx hb dX9_inkOf_15 rfl (lv_at hl 1 rfl) ?_
      refine lv_bipush (v := 8) hx hb dX9_inkOf_16 (by decide) ?_
      refine lv_ishl hx hb dX9_inkOf_18 ?_
      refine lv_topi (fun y_11 ey_11 => ?_)
      refine lv_iload_n hx hb dX9_inkOf_19 rfl (lv_at hl 3 rfl) ?_
      refine lv_iload_n hx hb dX9_inkOf_20 rfl (lv_at hl 0 rfl) ?_
      have hPc := hP.sub (ws' := []) [] rfl
      have hDc := hD.sub (ws' := []) [] (by decide) rfl
      have hKc := hK.sub (tys' := []) [] rfl
      have hFc := va_free (wc := []) hD hS hA [] rfl
      refine va_calli (va_runS (As := [.int n, .int 2]) (rest := [.int y_11]) ⟨hx, hb, hml, hown, hts⟩ (k_X9_channel l D H.size n 2) (va_cwS 2 hts (gS bw_12 bw_13 bw_11 bw_10) rfl rfl rfl (by decide +kernel) ⟨Nat.le_of_ble_eq_true rfl, Nat.le_of_ble_eq_true rfl⟩) ⟨cP_blind, cP_at hPc hKc hDc hN⟩ rfl rfl hl.1 rfl (lv_room (Nat.le_of_ble_eq_true rfl)) dX9_inkOf_21 ⟨Nat.le_of_ble_eq_true rfl, Nat.le_of_ble_eq_true rfl⟩) hS (fun q _ h => hFc q h) hFc (fun r_12 u9 t9 H1 locs ht hvm hr_12 hB hz1 hk1 hS => ?_)
      try dsimp only at hr_12
      have hP1 : va_P D vwCl [] H1 := vP_nil
      have hD1 : va_D (va_A [] H.size) [] := vD_nil
      obtain ⟨hP, hD⟩ := va_join (wr := []) (w1 := []) hP hD [] [] rfl rfl (by decide) (by decide) hk1 hFc hP1 hD1
      clear hz1 hk1 hFc hKc hDc hPc
      generalize H1 = H at hP hS ⊢
      have hP : va_P D vwCl [] H := hP
      have hD : va_D A [] := hD
      refine lv_iload_n hx hb dX9_inkOf_24 rfl (lv_at hl 2 rfl) ?_
      refine lv_imul hx hb dX9_inkOf_25 ?_
      refine lv_topi (fun y_13 ey_13 => ?_)
      refine lv_sipush (v := 255) hx hb dX9_inkOf_26 (by decide) ?_
      have hPc := hP.sub (ws' := []) [] rfl
      have hDc := hD.sub (ws' := []) [] (by decide) rfl
      have hKc := hK.sub (tys' := []) [] rfl
      have hFc := va_free (wc := []) hD hS hA [] rfl
      refine va_calli (va_runS (As := [.int y_13, .int 255]) (rest := [.int y_11]) ⟨hx, hb, hml, hown, hts⟩ (k_X9_nearest l D H.size y_13 255 (by decide)) (va_cwS 2 hts (gS bw_15 bw_16 bw_11 bw_14) rfl rfl rfl (by decide +kernel) ⟨Nat.le_of_ble_eq_true rfl, Nat.le_of_ble_eq_true rfl⟩) ⟨cP_blind, cP_at hPc hKc hDc hN⟩ rfl rfl hl.1 rfl (lv_room (Nat.le_of_ble_eq_true rfl)) dX9_inkOf_29 ⟨Nat.le_of_ble_eq_true rfl, Nat.le_of_ble_eq_true rfl⟩) hS (fun q _ h => hFc q h) hFc (fun r_14 u9 t9 H1 locs ht hvm hr_14 hB hz1 hk1 hS => ?_)
      try dsimp only at hr_14
      have hP1 : va_P D vwCl [] H1 := vP_nil
      have hD1 : va_D (va_A [] H.size) [] := vD_nil
      obtain ⟨hP, hD⟩ := va_join (wr := []) (w1 := []) hP hD [] [] rfl rfl (by decide) (by decide) hk1 hFc hP1 hD1
      clear hz1 hk1 hFc hKc hDc hPc
      generalize H1 = H at hP hS ⊢
      have hP : va_P D vwCl [] H := hP
      have hD : va_D A [] := hD
      refine lv_ior hx hb dX9_inkOf_32 ?_
      refine lv_topi (fun y_15 ey_15 => ?_)
      refine lv_istore_n (lv' := [(2, .int y_15), (3, .int 2), (1, .int r_1), (0, .int n)]) hx hb dX9_inkOf_33 rfl hl (by decide) rfl (fun ls hl => ?_)
      refine lv_iinc (v := 3) (lv' := [(3, .int 3), (2, .int y_15), (1, .int r_1), (0, .int n)]) hx hb dX9_inkOf_34 hl (k := 1) rfl (by decide) (by decide) rfl (fun ls hl => ?_)
      refine lv_goto (tgt := 10) hx hb dX9_inkOf_37 (by decide) ?_
      refine lv_iload_n hx hb dX9_inkOf_10 rfl (lv_at hl 0 rfl) ?_
      refine lv_iconst (v := 4) hx hb dX9_inkOf_11 (by decide) ?_
      refine lv_icmp_ge (tgt := 40) hx hb dX9_inkOf_12 (by decide) (fun c_16 => ?_) (fun c_16 => ?_)
      · skip
        exact absurd c_16 (by decide)
      · skip
        refine lv_iload_n hx hb dX9_inkOf_15 rfl (lv_at hl 1 rfl) ?_
        refine lv_bipush (v := 8) hx hb dX9_inkOf_16 (by decide) ?_
        refine lv_ishl hx hb dX9_inkOf_18 ?_
        refine lv_topi (fun y_18 ey_18 => ?_)
        refine lv_iload_n hx hb dX9_inkOf_19 rfl (lv_at hl 3 rfl) ?_
        refine lv_iload_n hx hb dX9_inkOf_20 rfl (lv_at hl 0 rfl) ?_
        have hPc := hP.sub (ws' := []) [] rfl
        have hDc := hD.sub (ws' := []) [] (by decide) rfl
        have hKc := hK.sub (tys' := []) [] rfl
        have hFc := va_free (wc := []) hD hS hA [] rfl
        refine va_calli (va_runS (As := [.int n, .int 3]) (rest := [.int y_18]) ⟨hx, hb, hml, hown, hts⟩ (k_X9_channel l D H.size n 3) (va_cwS 2 hts (gS bw_12 bw_13 bw_11 bw_10) rfl rfl rfl (by decide +kernel) ⟨Nat.le_of_ble_eq_true rfl, Nat.le_of_ble_eq_true rfl⟩) ⟨cP_blind, cP_at hPc hKc hDc hN⟩ rfl rfl hl.1 rfl (lv_room (Nat.le_of_ble_eq_true rfl)) dX9_inkOf_21 ⟨Nat.le_of_ble_eq_true rfl, Nat.le_of_ble_eq_true rfl⟩) hS (fun q _ h => hFc q h) hFc (fun r_19 u9 t9 H1 locs ht hvm hr_19 hB hz1 hk1 hS => ?_)
        try dsimp only at hr_19
        have hP1 : va_P D vwCl [] H1 := vP_nil
        have hD1 : va_D (va_A [] H.size) [] := vD_nil
        obtain ⟨hP, hD⟩ := va_join (wr := []) (w1 := []) hP hD [] [] rfl rfl (by decide) (by decide) hk1 hFc hP1 hD1
        clear hz1 hk1 hFc hKc hDc hPc
        generalize H1 = H at hP hS ⊢
        have hP : va_P D vwCl [] H := hP
        have hD : va_D A [] := hD
        refine lv_iload_n hx hb dX9_inkOf_24 rfl (lv_at hl 2 rfl) ?_
        refine lv_imul hx hb dX9_inkOf_25 ?_
        refine lv_topi (fun y_20 ey_20 => ?_)
        refine lv_sipush (v := 255) hx hb dX9_inkOf_26 (by decide) ?_
        have hPc := hP.sub (ws' := []) [] rfl
        have hDc := hD.sub (ws' := []) [] (by decide) rfl
        have hKc := hK.sub (tys' := []) [] rfl
        have hFc := va_free (wc := []) hD hS hA [] rfl
        refine va_calli (va_runS (As := [.int y_20, .int 255]) (rest := [.int y_18]) ⟨hx, hb, hml, hown, hts⟩ (k_X9_nearest l D H.size y_20 255 (by decide)) (va_cwS 2 hts (gS bw_15 bw_16 bw_11 bw_14) rfl rfl rfl (by decide +kernel) ⟨Nat.le_of_ble_eq_true rfl, Nat.le_of_ble_eq_true rfl⟩) ⟨cP_blind, cP_at hPc hKc hDc hN⟩ rfl rfl hl.1 rfl (lv_room (Nat.le_of_ble_eq_true rfl)) dX9_inkOf_29 ⟨Nat.le_of_ble_eq_true rfl, Nat.le_of_ble_eq_true rfl⟩) hS (fun q _ h => hFc q h) hFc (fun r_21 u9 t9 H1 locs ht hvm hr_21 hB hz1 hk1 hS => ?_)
        try dsimp only at hr_21
        have hP1 : va_P D vwCl [] H1 := vP_nil
        have hD1 : va_D (va_A [] H.size) [] := vD_nil
        obtain ⟨hP, hD⟩ := va_join (wr := []) (w1 := []) hP hD [] [] rfl rfl (by decide) (by decide) hk1 hFc hP1 hD1
        clear hz1 hk1 hFc hKc hDc hPc
        generalize H1 = H at hP hS ⊢
        have hP : va_P D vwCl [] H := hP
        have hD : va_D A [] := hD
        refine lv_ior hx hb dX9_inkOf_32 ?_
        refine lv_topi (fun y_22 ey_22 => ?_)
        refine lv_istore_n (lv' := [(2, .int y_22), (3, .int 3), (1, .int r_1), (0, .int n)]) hx hb dX9_inkOf_33 rfl hl (by decide) rfl (fun ls hl => ?_)
        refine lv_iinc (v := 4) (lv' := [(3, .int 4), (2, .int y_22), (1, .int r_1), (0, .int n)]) hx hb dX9_inkOf_34 hl (k := 1) rfl (by decide) (by decide) rfl (fun ls hl => ?_)
        refine lv_goto (tgt := 10) hx hb dX9_inkOf_37 (by decide) ?_
        refine lv_iload_n hx hb dX9_inkOf_10 rfl (lv_at hl 0 rfl) ?_
        refine lv_iconst (v := 4) hx hb dX9_inkOf_11 (by decide) ?_
        refine lv_icmp_ge (tgt := 40) hx hb dX9_inkOf_12 (by decide) (fun c_23 => ?_) (fun c_23 => ?_)
        · skip
          refine lv_iload_n hx hb dX9_inkOf_40 rfl (lv_at hl 1 rfl) ?_
          exact W.iret (v := y_22) hx hb hr (fun t ht hW => ⟨⟨y_22, (), rfl, trivial, trivial⟩, hS.F ht⟩) hS.2.2 dX9_inkOf_41
        · skip
          exact absurd c_23 (by decide)
