set_option maxHeartbeats 4000000 in
set_option maxRecDepth 100000 in
theorem whole_start {p : Program} {e : Env} {s : State} {m : MethodId} {below : List Frame} {meth : Method} {c : Code} (l : Launch) {b L : Nat} {xs : Nat → Int32} (hL : L ≤ 11) (C0 : lw_At p s m meth c b L xs) : W p l e room_1 s m #[Value.ref b] below meth c s.heap [] 0 0 (lw_Z below #[Value.ref b] s) (entryFrame m ([Value.ref b] : List Value).toArray 4) := by
  obtain ⟨hx, hb, hr, hml, hown, hts0, hX, hbl, hlocks, hgv⟩ := id C0
  have hA : ∀ q : Nat, s.heap.size ≤ q → (fun q : Nat => s.heap.size ≤ q) q := fun _ h => h
  have hbA : ¬ (fun q : Nat => s.heap.size ≤ q) b := Nat.not_le.mpr hbl
  have hts : ∀ w ∈ bigW, w.before #[Value.ref b] s = true := fun w h => hts0 w (bigW_in w h).1
  have hown : s.vm.findClass RL = some m.cls := hown
  obtain ⟨k0, iS0, hKn0⟩ := u_known (C := RX0) (T := TX0) (N := 4) (n := 4) hts hi_X0 (hts _ bw_26)
  obtain ⟨k1, iS1, hKn1⟩ := u_known (C := RX1) (T := TX1) (N := 4) (n := 4) hts hi_X1 (hts _ bw_69)
  obtain ⟨k2, iS2, hKn2⟩ := u_known (C := RX2) (T := TX2) (N := 4) (n := 4) hts hi_X2 (hts _ bw_141)
  obtain ⟨k3, iS3, hKn3⟩ := u_known (C := RX3) (T := TX3) (N := 7) (n := 7) hts hi_X3 (hts _ bw_48)
  obtain ⟨k4, iS4, hKn4⟩ := u_known (C := RX4) (T := TX4) (N := 2) (n := 2) hts hi_X4 (hts _ bw_85)
  obtain ⟨k5, iS5, hKn5⟩ := u_known (C := RX5) (T := TX5) (N := 3) (n := 3) hts hi_X5 (hts _ bw_125)
  obtain ⟨k6, iS6, hKn6⟩ := u_known (C := RX6) (T := TX6) (N := 3) (n := 3) hts hi_X6 (hts _ bw_367)
  obtain ⟨k7, iS7, hKn7⟩ := u_known (C := RX7) (T := TX7) (N := 4) (n := 4) hts hi_X7 (hts _ bw_79)
  obtain ⟨k8, iS8, hKn8⟩ := u_known (C := RX8) (T := TX8) (N := 9) (n := 9) hts hi_X8 (hts _ bw_368)
  obtain ⟨k9, iS9, hKn9⟩ := u_known (C := RX9) (T := TX9) (N := 23) (n := 23) hts hi_X9 (hts _ bw_369)
  obtain ⟨D, hKc⟩ : ∃ D : va_G, ∀ (k : Nat) (q : vw_C), vwCl[k]? = some q → u_Kn s q.1 q.2.1 q.2.2 (D.1 k) (D.2 k) := by
    refine ⟨(fun k => match k with | 0 => k0 | 1 => k1 | 2 => k2 | 3 => k3 | 4 => k4 | 5 => k5 | 6 => k6 | 7 => k7 | 8 => k8 | _ => k9, fun k => match k with | 0 => iS0 | 1 => iS1 | 2 => iS2 | 3 => iS3 | 4 => iS4 | 5 => iS5 | 6 => iS6 | 7 => iS7 | 8 => iS8 | _ => iS9), ?_⟩
    intro k q hq
    match k, hq with
    | 0, hq => cases hq; exact hKn0
    | 1, hq => cases hq; exact hKn1
    | 2, hq => cases hq; exact hKn2
    | 3, hq => cases hq; exact hKn3
    | 4, hq => cases hq; exact hKn4
    | 5, hq => cases hq; exact hKn5
    | 6, hq => cases hq; exact hKn6
    | 7, hq => cases hq; exact hKn7
    | 8, hq => cases hq; exact hKn8
    | 9, hq => cases hq; exact hKn9
    | k + 10, hq => simp [vwCl] at hq
  have hN : nW s := by
    refine ⟨?_, ?_, va_AO.of (hts0 (.arrayOver (.object RX5)) (List.mem_of_getElem? (i := 54) (by decide +kernel)))⟩
    · exact List.forall_mem_cons.mpr ⟨va_Nw.of rfl (hts0 (.fieldLinkNest RX8 89 "DotBench$Brush" "clip" "LDotBench$Box;" RX8) (List.mem_of_getElem? (i := 81) (by decide +kernel))), List.forall_mem_cons.mpr ⟨va_Nw.of rfl (hts0 (.fieldLinkNest RX8 76 "DotBench$Brush" "ink" "I" RX8) (List.mem_of_getElem? (i := 83) (by decide +kernel))), List.forall_mem_cons.mpr ⟨va_Nw.of rfl (hts0 (.fieldLinkNest RX8 83 "DotBench$Brush" "way" "I" RX8) (List.mem_of_getElem? (i := 85) (by decide +kernel))), List.forall_mem_cons.mpr ⟨va_Nw.of rfl (hts0 (.fieldLinkNest RX8 86 "DotBench$Brush" "opacity" "I" RX8) (List.mem_of_getElem? (i := 87) (by decide +kernel))), List.forall_mem_cons.mpr ⟨va_Nw.of rfl (hts0 (.fieldLinkNest RX8 136 "DotBench$Path" "points" "I" RX8) (List.mem_of_getElem? (i := 110) (by decide +kernel))), fun _ h => absurd h List.not_mem_nil⟩⟩⟩⟩⟩
    · exact List.forall_mem_cons.mpr ⟨va_Nw.of rfl (hts0 (.methodLinkNest RX8 17 yX1_init RX8) (List.mem_of_getElem? (i := 57) (by decide +kernel))), List.forall_mem_cons.mpr ⟨va_Nw.of rfl (hts0 (.methodLinkNest RX1 11 yX0_init RX8) (List.mem_of_getElem? (i := 63) (by decide +kernel))), List.forall_mem_cons.mpr ⟨va_Nw.of rfl (hts0 (.methodLinkNest RX8 24 yX0_init RX8) (List.mem_of_getElem? (i := 98) (by decide +kernel))), List.forall_mem_cons.mpr ⟨va_Nw.of rfl (hts0 (.methodLinkNest RX8 31 yX3_init RX8) (List.mem_of_getElem? (i := 101) (by decide +kernel))), List.forall_mem_cons.mpr ⟨va_Nw.of rfl (hts0 (.methodLinkNest RX8 38 yX7_init RX8) (List.mem_of_getElem? (i := 131) (by decide +kernel))), List.forall_mem_cons.mpr ⟨va_Nw.of rfl (hts0 (.methodLinkNest RX7 23 yX3_init RX8) (List.mem_of_getElem? (i := 136) (by decide +kernel))), List.forall_mem_cons.mpr ⟨va_Nw.of rfl (hts0 (.methodLinkNest RX8 45 yX4_init RX8) (List.mem_of_getElem? (i := 153) (by decide +kernel))), List.forall_mem_cons.mpr ⟨va_Nw.of rfl (hts0 (.methodLinkNest RX8 67 yX5_init RX8) (List.mem_of_getElem? (i := 204) (by decide +kernel))), fun _ h => absurd h List.not_mem_nil⟩⟩⟩⟩⟩⟩⟩⟩
  have hS : va_S (fun q : Nat => s.heap.size ≤ q) s.heap s.heap [] := va_S.rf
  have hK : va_K D vwCl [] s := ⟨hKc, fun k q h => by simp at h⟩
  have hP : va_P D vwCl [] s.heap := vP_nil
  have hD : va_D (fun q : Nat => s.heap.size ≤ q) [] := vD_nil
  have hl := lv_entry ([.ref b]) (n := 4) (Nat.le_of_ble_eq_true rfl)
  rw [lg_entry_eq]
  generalize (lg_sl ([.ref b]) ++ List.replicate (4 - (lg_sl ([.ref b])).length) Slot.unset).toArray = ls at hl ⊢
  have hl : lv_has ls 4 [(0, .ref b)] := hl
  refine va_new (ci := 8) (fs := [.null, .null, .null, .null, .null, .null, .int 0, .null, .null]) (C := RX8) (T := TX8) (N := 9) hx hb hts hi_X8 tyX8 tyX8_ok hown (hts _ bw_370) (hts _ bw_368) (hts _ bw_1) hK hP hD hS hA rfl z_X8 (Nat.le_of_ble_eq_true rfl) (Nat.le_of_ble_eq_true rfl) dL_law_0 (fun q_1 H hP hD hS => ?_)
  have hP : va_P D vwCl [(q_1, .inr (8, [.null, .null, .null, .null, .null, .null, .int 0, .null, .null]))] H := hP
  have hD : va_D (fun q : Nat => s.heap.size ≤ q) [(q_1, .inr (8, [.null, .null, .null, .null, .null, .null, .int 0, .null, .null]))] := hD
  refine W.widen (k := 1) (n := 9) (by omega) (by omega) ?_
  refine lv_dup hx hb dL_law_3 rfl ?_
  have hPc := hP.sub (ws' := [(q_1, .inr (8, [.null, .null, .null, .null, .null, .null, .int 0, .null, .null]))]) [0] rfl
  have hDc := hD.sub (ws' := [(q_1, .inr (8, [.null, .null, .null, .null, .null, .null, .int 0, .null, .null]))]) [0] (by decide) rfl
  have hKc := hK.sub (tys' := []) [] rfl
  have hFc := va_free (wc := [(q_1, .inr (8, [.null, .null, .null, .null, .null, .null, .int 0, .null, .null]))]) hD hS hA [0] rfl
  refine va_callv (va_runI (As := []) (rest := [.ref q_1]) ⟨hx, hb, hml, hown, hts⟩ (k_X8_init l D H.size q_1) (cwI 0 hts (gI bw_371) rfl rfl rfl (hts _ bw_1) (hts _ bw_372) (hts _ bw_373) rfl (by decide +kernel) ⟨Nat.le_of_ble_eq_true rfl, Nat.le_of_ble_eq_true rfl⟩) ⟨cP_blind, cP_at hPc hKc hDc hN⟩ rfl rfl hl.1 rfl (lv_room (Nat.le_of_ble_eq_true rfl)) dL_law_4 ⟨Nat.le_of_ble_eq_true rfl, Nat.le_of_ble_eq_true rfl⟩) hS (fun q _ h => hFc q h) hFc (fun u9 t9 H1 locs ht hvm hr_2 hB hz1 hk1 hS => ?_)
  try dsimp only at hr_2
  obtain ⟨q_3, q_4, q_5, q_6, q_7, q_8, q_9, q_10, q_11, q_12, q_13, q_14, q_15, q_16, q_17, a_18, a_19, a_20, a_21, a_22, a_23, a_24, a_25, hP1, hK1, hD1⟩ := hB
  rw [ht] at hP1
  obtain ⟨hP, hD⟩ := va_join (wr := []) (w1 := [(q_1, .inr (8, [.ref q_3, .ref q_4, .ref q_5, .ref q_6, .ref q_7, .ref q_8, .int 65535, .null, .null])), (q_3, .inl (a_18, 4, .inr (.inr (.inr (.inr (fun _ => none)))))), (q_4, .inr (1, [.ref q_9, .int (-1), .int 3, .int 255])), (q_9, .inr (0, [.int 0, .int 0, .int 63, .int 63])), (q_6, .inr (3, [.ref q_10, .ref q_11, .ref q_12, .ref q_13, .int 0, .int 0, .int 0])), (q_10, .inl (a_19, 48, .inl (fun _ => 0))), (q_11, .inl (a_20, 48, .inl (fun _ => 0))), (q_12, .inl (a_21, 48, .inl (fun _ => 0))), (q_13, .inl (a_22, 48, .inl (fun _ => 0))), (q_7, .inr (7, [.ref q_14, .ref q_15, .ref q_16, .ref q_17])), (q_14, .inl (a_23, 3, .inl (fun _ => 0))), (q_15, .inl (a_24, 3, .inl (fun _ => 0))), (q_16, .inl (a_25, 3, .inl (fun _ => 0)))]) hP hD [0] [] rfl rfl (by decide) (by decide) hk1 hFc hP1 hD1
  have hK : va_K D vwCl [(a_18, .object "DotBench$Sheet"), (a_19, .int), (a_20, .int), (a_21, .int), (a_22, .int), (a_23, .int), (a_24, .int), (a_25, .int)] s := hK.app (va_K.moved hvm.symm hK1)
  clear hz1 hk1 hFc hKc hDc hPc
  generalize H1 = H at hP hS ⊢
  have hP : va_P D vwCl [(q_1, .inr (8, [.ref q_3, .ref q_4, .ref q_5, .ref q_6, .ref q_7, .ref q_8, .int 65535, .null, .null])), (q_3, .inl (a_18, 4, .inr (.inr (.inr (.inr (fun _ => none)))))), (q_4, .inr (1, [.ref q_9, .int (-1), .int 3, .int 255])), (q_9, .inr (0, [.int 0, .int 0, .int 63, .int 63])), (q_6, .inr (3, [.ref q_10, .ref q_11, .ref q_12, .ref q_13, .int 0, .int 0, .int 0])), (q_10, .inl (a_19, 48, .inl (fun _ => 0))), (q_11, .inl (a_20, 48, .inl (fun _ => 0))), (q_12, .inl (a_21, 48, .inl (fun _ => 0))), (q_13, .inl (a_22, 48, .inl (fun _ => 0))), (q_7, .inr (7, [.ref q_14, .ref q_15, .ref q_16, .ref q_17])), (q_14, .inl (a_23, 3, .inl (fun _ => 0))), (q_15, .inl (a_24, 3, .inl (fun _ => 0))), (q_16, .inl (a_25, 3, .inl (fun _ => 0)))] H := hP
  have hD : va_D (fun q : Nat => s.heap.size ≤ q) [(q_1, .inr (8, [.ref q_3, .ref q_4, .ref q_5, .ref q_6, .ref q_7, .ref q_8, .int 65535, .null, .null])), (q_3, .inl (a_18, 4, .inr (.inr (.inr (.inr (fun _ => none)))))), (q_4, .inr (1, [.ref q_9, .int (-1), .int 3, .int 255])), (q_9, .inr (0, [.int 0, .int 0, .int 63, .int 63])), (q_6, .inr (3, [.ref q_10, .ref q_11, .ref q_12, .ref q_13, .int 0, .int 0, .int 0])), (q_10, .inl (a_19, 48, .inl (fun _ => 0))), (q_11, .inl (a_20, 48, .inl (fun _ => 0))), (q_12, .inl (a_21, 48, .inl (fun _ => 0))), (q_13, .inl (a_22, 48, .inl (fun _ => 0))), (q_7, .inr (7, [.ref q_14, .ref q_15, .ref q_16, .ref q_17])), (q_14, .inl (a_23, 3, .inl (fun _ => 0))), (q_15, .inl (a_24, 3, .inl (fun _ => 0))), (q_16, .inl (a_25, 3, .inl (fun _ => 0)))] := hD
  refine W.widen (k := 22) (n := 758) (by omega) (by omega) ?_
  refine lv_astore_n (lv' := [(1, .ref q_1), (0, .ref b)]) hx hb dL_law_7 rfl hl (by decide) rfl (fun ls hl => ?_)
  refine va_new (ci := 9) (fs := [.null, .null, .null, .int 0, .int 0, .int 0, .int 0, .int 0, .int 0, .int 0, .int 0, .int 0, .null, .null, .null, .null, .null, .null, .int 0, .null, .null, .null, .null]) (C := RX9) (T := TX9) (N := 23) hx hb hts hi_X9 tyX9 tyX9_ok hown (hts _ bw_374) (hts _ bw_369) (hts _ bw_11) hK hP hD hS hA rfl z_X9 (Nat.le_of_ble_eq_true rfl) (Nat.le_of_ble_eq_true rfl) dL_law_8 (fun q_26 H hP hD hS => ?_)
  have hP : va_P D vwCl [(q_1, .inr (8, [.ref q_3, .ref q_4, .ref q_5, .ref q_6, .ref q_7, .ref q_8, .int 65535, .null, .null])), (q_3, .inl (a_18, 4, .inr (.inr (.inr (.inr (fun _ => none)))))), (q_4, .inr (1, [.ref q_9, .int (-1), .int 3, .int 255])), (q_9, .inr (0, [.int 0, .int 0, .int 63, .int 63])), (q_6, .inr (3, [.ref q_10, .ref q_11, .ref q_12, .ref q_13, .int 0, .int 0, .int 0])), (q_10, .inl (a_19, 48, .inl (fun _ => 0))), (q_11, .inl (a_20, 48, .inl (fun _ => 0))), (q_12, .inl (a_21, 48, .inl (fun _ => 0))), (q_13, .inl (a_22, 48, .inl (fun _ => 0))), (q_7, .inr (7, [.ref q_14, .ref q_15, .ref q_16, .ref q_17])), (q_14, .inl (a_23, 3, .inl (fun _ => 0))), (q_15, .inl (a_24, 3, .inl (fun _ => 0))), (q_16, .inl (a_25, 3, .inl (fun _ => 0))), (q_26, .inr (9, [.null, .null, .null, .int 0, .int 0, .int 0, .int 0, .int 0, .int 0, .int 0, .int 0, .int 0, .null, .null, .null, .null, .null, .null, .int 0, .null, .null, .null, .null]))] H := hP
  have hD : va_D (fun q : Nat => s.heap.size ≤ q) [(q_1, .inr (8, [.ref q_3, .ref q_4, .ref q_5, .ref q_6, .ref q_7, .ref q_8, .int 65535, .null, .null])), (q_3, .inl (a_18, 4, .inr (.inr (.inr (.inr (fun _ => none)))))), (q_4, .inr (1, [.ref q_9, .int (-1), .int 3, .int 255])), (q_9, .inr (0, [.int 0, .int 0, .int 63, .int 63])), (q_6, .inr (3, [.ref q_10, .ref q_11, .ref q_12, .ref q_13, .int 0, .int 0, .int 0])), (q_10, .inl (a_19, 48, .inl (fun _ => 0))), (q_11, .inl (a_20, 48, .inl (fun _ => 0))), (q_12, .inl (a_21, 48, .inl (fun _ => 0))), (q_13, .inl (a_22, 48, .inl (fun _ => 0))), (q_7, .inr (7, [.ref q_14, .ref q_15, .ref q_16, .ref q_17])), (q_14, .inl (a_23, 3, .inl (fun _ => 0))), (q_15, .inl (a_24, 3, .inl (fun _ => 0))), (q_16, .inl (a_25, 3, .inl (fun _ => 0))), (q_26, .inr (9, [.null, .null, .null, .int 0, .int 0, .int 0, .int 0, .int 0, .int 0, .int 0, .int 0, .int 0, .null, .null, .null, .null, .null, .null, .int 0, .null, .null, .null, .null]))] := hD
  refine W.widen (k := 23) (n := 781) (by omega) (by omega) ?_
  refine lv_dup hx hb dL_law_11 rfl ?_
  have hPc := hP.sub (ws' := [(q_26, .inr (9, [.null, .null, .null, .int 0, .int 0, .int 0, .int 0, .int 0, .int 0, .int 0, .int 0, .int 0, .null, .null, .null, .null, .null, .null, .int 0, .null, .null, .null, .null]))]) [13] rfl
  have hDc := hD.sub (ws' := [(q_26, .inr (9, [.null, .null, .null, .int 0, .int 0, .int 0, .int 0, .int 0, .int 0, .int 0, .int 0, .int 0, .null, .null, .null, .null, .null, .null, .int 0, .null, .null, .null, .null]))]) [13] (by decide) rfl
  have hKc := hK.sub (tys' := []) [] rfl
  have hFc := va_free (wc := [(q_26, .inr (9, [.null, .null, .null, .int 0, .int 0, .int 0, .int 0, .int 0, .int 0, .int 0, .int 0, .int 0, .null, .null, .null, .null, .null, .null, .int 0, .null, .null, .null, .null]))]) hD hS hA [13] rfl
  refine va_callv (va_runI (As := []) (rest := [.ref q_26]) ⟨hx, hb, hml, hown, hts⟩ (k_X9_init l D H.size q_26) (cwI 0 hts (gI bw_375) rfl rfl rfl (hts _ bw_11) (hts _ bw_376) (hts _ bw_377) rfl (by decide +kernel) ⟨Nat.le_of_ble_eq_true rfl, Nat.le_of_ble_eq_true rfl⟩) ⟨cP_blind, cP_at hPc hKc hDc hN⟩ rfl rfl hl.1 rfl (lv_room (Nat.le_of_ble_eq_true rfl)) dL_law_12 ⟨Nat.le_of_ble_eq_true rfl, Nat.le_of_ble_eq_true rfl⟩) hS (fun q _ h => hFc q h) hFc (fun u9 t9 H1 locs ht hvm hr_27 hB hz1 hk1 hS => ?_)
  try dsimp only at hr_27
  obtain ⟨q_28, q_29, q_30, q_31, q_32, q_33, q_34, q_35, q_36, q_37, q_38, q_39, q_40, a_41, a_42, a_43, a_44, a_45, a_46, a_47, a_48, a_49, hP1, hK1, hD1⟩ := hB
  rw [ht] at hP1
  obtain ⟨hP, hD⟩ := va_join (wr := [(q_1, .inr (8, [.ref q_3, .ref q_4, .ref q_5, .ref q_6, .ref q_7, .ref q_8, .int 65535, .null, .null])), (q_3, .inl (a_18, 4, .inr (.inr (.inr (.inr (fun _ => none)))))), (q_4, .inr (1, [.ref q_9, .int (-1), .int 3, .int 255])), (q_9, .inr (0, [.int 0, .int 0, .int 63, .int 63])), (q_6, .inr (3, [.ref q_10, .ref q_11, .ref q_12, .ref q_13, .int 0, .int 0, .int 0])), (q_10, .inl (a_19, 48, .inl (fun _ => 0))), (q_11, .inl (a_20, 48, .inl (fun _ => 0))), (q_12, .inl (a_21, 48, .inl (fun _ => 0))), (q_13, .inl (a_22, 48, .inl (fun _ => 0))), (q_7, .inr (7, [.ref q_14, .ref q_15, .ref q_16, .ref q_17])), (q_14, .inl (a_23, 3, .inl (fun _ => 0))), (q_15, .inl (a_24, 3, .inl (fun _ => 0))), (q_16, .inl (a_25, 3, .inl (fun _ => 0)))]) (w1 := [(q_26, .inr (9, [.ref q_28, .ref q_29, .ref q_30, .int (-1), .int 3, .int 255, .int 0, .int 0, .int 0, .int 0, .int 0, .int 65535, .ref q_31, .ref q_32, .ref q_33, .ref q_34, .ref q_35, .ref q_36, .int 0, .ref q_37, .ref q_38, .ref q_39, .ref q_40])), (q_28, .inl (a_41, 4, .inl (fun _ => 0))), (q_29, .inl (a_42, 4, .inl (fun _ => 0))), (q_30, .inl (a_43, 16384, .inl (fun _ => 0))), (q_34, .inl (a_44, 48, .inl (fun _ => 0))), (q_35, .inl (a_45, 48, .inl (fun _ => 0))), (q_36, .inl (a_46, 48, .inl (fun _ => 0))), (q_37, .inl (a_47, 3, .inl (fun _ => 0))), (q_38, .inl (a_48, 3, .inl (fun _ => 0))), (q_39, .inl (a_49, 3, .inl (fun _ => 0)))]) hP hD [13] [0, 1, 2, 3, 4, 5, 6, 7, 8, 9, 10, 11, 12] rfl rfl (by decide) (by decide) hk1 hFc hP1 hD1
  have hK : va_K D vwCl [(a_18, .object "DotBench$Sheet"), (a_19, .int), (a_20, .int), (a_21, .int), (a_22, .int), (a_23, .int), (a_24, .int), (a_25, .int), (a_41, .int), (a_42, .int), (a_43, .int), (a_44, .int), (a_45, .int), (a_46, .boolean), (a_47, .int), (a_48, .int), (a_49, .int)] s := hK.app (va_K.moved hvm.symm hK1)
  clear hz1 hk1 hFc hKc hDc hPc
  generalize H1 = H at hP hS ⊢
  have hP : va_P D vwCl [(q_1, .inr (8, [.ref q_3, .ref q_4, .ref q_5, .ref q_6, .ref q_7, .ref q_8, .int 65535, .null, .null])), (q_3, .inl (a_18, 4, .inr (.inr (.inr (.inr (fun _ => none)))))), (q_4, .inr (1, [.ref q_9, .int (-1), .int 3, .int 255])), (q_9, .inr (0, [.int 0, .int 0, .int 63, .int 63])), (q_6, .inr (3, [.ref q_10, .ref q_11, .ref q_12, .ref q_13, .int 0, .int 0, .int 0])), (q_10, .inl (a_19, 48, .inl (fun _ => 0))), (q_11, .inl (a_20, 48, .inl (fun _ => 0))), (q_12, .inl (a_21, 48, .inl (fun _ => 0))), (q_13, .inl (a_22, 48, .inl (fun _ => 0))), (q_7, .inr (7, [.ref q_14, .ref q_15, .ref q_16, .ref q_17])), (q_14, .inl (a_23, 3, .inl (fun _ => 0))), (q_15, .inl (a_24, 3, .inl (fun _ => 0))), (q_16, .inl (a_25, 3, .inl (fun _ => 0))), (q_26, .inr (9, [.ref q_28, .ref q_29, .ref q_30, .int (-1), .int 3, .int 255, .int 0, .int 0, .int 0, .int 0, .int 0, .int 65535, .ref q_31, .ref q_32, .ref q_33, .ref q_34, .ref q_35, .ref q_36, .int 0, .ref q_37, .ref q_38, .ref q_39, .ref q_40])), (q_28, .inl (a_41, 4, .inl (fun _ => 0))), (q_29, .inl (a_42, 4, .inl (fun _ => 0))), (q_30, .inl (a_43, 16384, .inl (fun _ => 0))), (q_34, .inl (a_44, 48, .inl (fun _ => 0))), (q_35, .inl (a_45, 48, .inl (fun _ => 0))), (q_36, .inl (a_46, 48, .inl (fun _ => 0))), (q_37, .inl (a_47, 3, .inl (fun _ => 0))), (q_38, .inl (a_48, 3, .inl (fun _ => 0))), (q_39, .inl (a_49, 3, .inl (fun _ => 0)))] H := hP
  have hD : va_D (fun q : Nat => s.heap.size ≤ q) [(q_1, .inr (8, [.ref q_3, .ref q_4, .ref q_5, .ref q_6, .ref q_7, .ref q_8, .int 65535, .null, .null])), (q_3, .inl (a_18, 4, .inr (.inr (.inr (.inr (fun _ => none)))))), (q_4, .inr (1, [.ref q_9, .int (-1), .int 3, .int 255])), (q_9, .inr (0, [.int 0, .int 0, .int 63, .int 63])), (q_6, .inr (3, [.ref q_10, .ref q_11, .ref q_12, .ref q_13, .int 0, .int 0, .int 0])), (q_10, .inl (a_19, 48, .inl (fun _ => 0))), (q_11, .inl (a_20, 48, .inl (fun _ => 0))), (q_12, .inl (a_21, 48, .inl (fun _ => 0))), (q_13, .inl (a_22, 48, .inl (fun _ => 0))), (q_7, .inr (7, [.ref q_14, .ref q_15, .ref q_16, .ref q_17])), (q_14, .inl (a_23, 3, .inl (fun _ => 0))), (q_15, .inl (a_24, 3, .inl (fun _ => 0))), (q_16, .inl (a_25, 3, .inl (fun _ => 0))), (q_26, .inr (9, [.ref q_28, .ref q_29, .ref q_30, .int (-1), .int 3, .int 255, .int 0, .int 0, .int 0, .int 0, .int 0, .int 65535, .ref q_31, .ref q_32, .ref q_33, .ref q_34, .ref q_35, .ref q_36, .int 0, .ref q_37, .ref q_38, .ref q_39, .ref q_40])), (q_28, .inl (a_41, 4, .inl (fun _ => 0))), (q_29, .inl (a_42, 4, .inl (fun _ => 0))), (q_30, .inl (a_43, 16384, .inl (fun _ => 0))), (q_34, .inl (a_44, 48, .inl (fun _ => 0))), (q_35, .inl (a_45, 48, .inl (fun _ => 0))), (q_36, .inl (a_46, 48, .inl (fun _ => 0))), (q_37, .inl (a_47, 3, .inl (fun _ => 0))), (q_38, .inl (a_48, 3, .inl (fun _ => 0))), (q_39, .inl (a_49, 3, .inl (fun _ => 0)))] := hD
  refine W.widen (k := 36) (n := 33710) (by omega) (by omega) ?_
  refine lv_astore_n (lv' := [(2, .ref q_26), (1, .ref q_1), (0, .ref b)]) hx hb dL_law_15 rfl hl (by decide) rfl (fun ls hl => ?_)
  refine lv_iconst (v := 0) hx hb dL_law_16 (by decide) ?_
  refine lv_istore_n (lv' := [(3, .int 0), (2, .ref q_26), (1, .ref q_1), (0, .ref b)]) hx hb dL_law_17 rfl hl (by decide) rfl (fun ls hl => ?_)
  refine lv_iload_n hx hb dL_law_18 rfl (lv_at hl 0 rfl) ?_
  refine lv_aload_n hx hb dL_law_19 rfl (lv_at hl 3 rfl) ?_
  refine va_slen hx hb hX hbl hbA hS dL_law_20 ?_
  refine lv_bipush (v := 11) hx hb dL_law_21 (by decide) ?_
  refine lv_isub hx hb dL_law_23 ?_
  refine lv_topi (fun y_50 ey_50 => ?_)
  refine lv_icmp_gt (tgt := 1173) hx hb dL_law_24 (by decide) (fun c_51 => ?_) (fun c_51 => ?_)
  · skip
    have f_52 : y_50.toInt < 0 := f_lt rfl (by decide) c_51
    refine lv_iconst (v := 1) hx hb dL_law_1173 (by decide) ?_
    refine va_forget (fun q hq => hS.2.2 q hq) ?_
    refine W.widen (k := 600000) (n := 7302250) (by omega) (by omega) ?_
    exact lw_ret hx hb hr hlocks dL_law_1174
  · skip
    have f_52 : ¬ (y_50.toInt < 0) := fn_lt rfl (by decide) c_51
    obtain rfl := law_len hL (by rw [← ey_50]; exact c_51)
    refine lv_aload_n hx hb dL_law_27 rfl (lv_at hl 3 rfl) ?_
    refine lv_iload_n hx hb dL_law_28 rfl (lv_at hl 0 rfl) ?_
    refine va_sld hx hb hX hbl hbA hS (i := 0) (my_in (by decide) (by decide)) dL_law_29 ?_
    refine my_topv (v := .int (xs 0)) rfl ?_
    refine lv_bipush (v := 31) hx hb dL_law_30 (by decide) ?_
    refine lv_iand hx hb dL_law_32 ?_
    refine lv_topi (fun y_53 ey_53 => ?_)
    obtain ⟨j, hj, ej⟩ := pk_andE (xs 0) (m := 31) 5 (by decide)
    rw [ej] at ey_53
    subst ey_53
    have hj : j < 32 := hj
    rcases (show j = 0 ∨ j = 1 ∨ j = 2 ∨ j = 3 ∨ j = 4 ∨ j = 5 ∨ j = 6 ∨ j = 7 ∨ j = 8 ∨ j = 9 ∨ j = 10 ∨ j = 11 ∨ j = 12 ∨ j = 13 ∨ j = 14 ∨ j = 15 ∨ j = 16 ∨ j = 17 ∨ j = 18 ∨ j = 19 ∨ j = 20 ∨ j = 21 ∨ j = 22 ∨ j = 23 ∨ j = 24 ∨ j = 25 ∨ j = 26 ∨ j = 27 ∨ j = 28 ∨ j = 29 ∨ j = 30 ∨ j = 31 by omega) with rfl | rfl | rfl | rfl | rfl | rfl | rfl | rfl | rfl | rfl | rfl | rfl | rfl | rfl | rfl | rfl | rfl | rfl | rfl | rfl | rfl | rfl | rfl | rfl | rfl | rfl | rfl | rfl | rfl | rfl | rfl | rfl
    · refine lv_tableIn (off := 99) (tgt := 132) hx hb dL_law_33 (by decide) (by decide) rfl (by decide) ?_
      exact law_c0 C0 hN hK hP hD hS hl
    · refine lv_tableIn (off := 142) (tgt := 175) hx hb dL_law_33 (by decide) (by decide) rfl (by decide) ?_
      exact law_c1 C0 hN hK hP hD hS hl
    · refine lv_tableIn (off := 163) (tgt := 196) hx hb dL_law_33 (by decide) (by decide) rfl (by decide) ?_
      exact law_c2 C0 hN hK hP hD hS hl
    · refine lv_tableIn (off := 196) (tgt := 229) hx hb dL_law_33 (by decide) (by decide) rfl (by decide) ?_
      exact law_c3 C0 hN hK hP hD hS hl
    · refine lv_tableIn (off := 247) (tgt := 280) hx hb dL_law_33 (by decide) (by decide) rfl (by decide) ?_
      exact law_c4 C0 hN hK hP hD hS hl
    · refine lv_tableIn (off := 268) (tgt := 301) hx hb dL_law_33 (by decide) (by decide) rfl (by decide) ?_
      exact law_c5 C0 hN hK hP hD hS hl
    · refine lv_tableIn (off := 331) (tgt := 364) hx hb dL_law_33 (by decide) (by decide) rfl (by decide) ?_
      exact law_c6 C0 hN hK hP hD hS hl
    · refine lv_tableIn (off := 384) (tgt := 417) hx hb dL_law_33 (by decide) (by decide) rfl (by decide) ?_
      exact law_c7 C0 hN hK hP hD hS hl
    · refine lv_tableIn (off := 443) (tgt := 476) hx hb dL_law_33 (by decide) (by decide) rfl (by decide) ?_
      exact law_c8 C0 hN hK hP hD hS hl
    · refine lv_tableIn (off := 454) (tgt := 487) hx hb dL_law_33 (by decide) (by decide) rfl (by decide) ?_
      exact law_c9 C0 hN hK hP hD hS hl
    · refine lv_tableIn (off := 513) (tgt := 546) hx hb dL_law_33 (by decide) (by decide) rfl (by decide) ?_
      exact law_c10 C0 hN hK hP hD hS hl
    · refine lv_tableIn (off := 566) (tgt := 599) hx hb dL_law_33 (by decide) (by decide) rfl (by decide) ?_
      exact law_c11 C0 hN hK hP hD hS hl
    · refine lv_tableIn (off := 589) (tgt := 622) hx hb dL_law_33 (by decide) (by decide) rfl (by decide) ?_
      exact law_c12 C0 hN hK hP hD hS hl
    · refine lv_tableIn (off := 658) (tgt := 691) hx hb dL_law_33 (by decide) (by decide) rfl (by decide) ?_
      exact law_c13 C0 hN hK hP hD hS hl
    · refine lv_tableIn (off := 757) (tgt := 790) hx hb dL_law_33 (by decide) (by decide) rfl (by decide) ?_
      exact law_c14 C0 hN hK hP hD hS hl
    · refine lv_tableIn (off := 880) (tgt := 913) hx hb dL_law_33 (by decide) (by decide) rfl (by decide) ?_
      exact law_c15 C0 hN hK hP hD hS hl
    · refine lv_tableIn (off := 923) (tgt := 956) hx hb dL_law_33 (by decide) (by decide) rfl (by decide) ?_
      exact law_c16 C0 hN hK hP hD hS hl
    · refine lv_tableIn (off := 956) (tgt := 989) hx hb dL_law_33 (by decide) (by decide) rfl (by decide) ?_
      exact law_c17 C0 hN hK hP hD hS hl
    · refine lv_tableIn (off := 1025) (tgt := 1058) hx hb dL_law_33 (by decide) (by decide) rfl (by decide) ?_
      exact law_c18 C0 hN hK hP hD hS hl
    · refine lv_tableIn (off := 1058) (tgt := 1091) hx hb dL_law_33 (by decide) (by decide) rfl (by decide) ?_
      exact law_c19 C0 hN hK hP hD hS hl
    · refine lv_tableIn (off := 1091) (tgt := 1124) hx hb dL_law_33 (by decide) (by decide) rfl (by decide) ?_
      exact law_c20 C0 hN hK hP hD hS hl
    · refine lv_tableOut (tgt := 1167) hx hb dL_law_33 (by decide) (by decide) ?_
      exact law_tail C0 (by omega) (by omega) hS (lv_sub hl [0, 3] rfl)
    · refine lv_tableOut (tgt := 1167) hx hb dL_law_33 (by decide) (by decide) ?_
      exact law_tail C0 (by omega) (by omega) hS (lv_sub hl [0, 3] rfl)
    · refine lv_tableOut (tgt := 1167) hx hb dL_law_33 (by decide) (by decide) ?_
      exact law_tail C0 (by omega) (by omega) hS (lv_sub hl [0, 3] rfl)
    · refine lv_tableOut (tgt := 1167) hx hb dL_law_33 (by decide) (by decide) ?_
      exact law_tail C0 (by omega) (by omega) hS (lv_sub hl [0, 3] rfl)
    · refine lv_tableOut (tgt := 1167) hx hb dL_law_33 (by decide) (by decide) ?_
      exact law_tail C0 (by omega) (by omega) hS (lv_sub hl [0, 3] rfl)
    · refine lv_tableOut (tgt := 1167) hx hb dL_law_33 (by decide) (by decide) ?_
      exact law_tail C0 (by omega) (by omega) hS (lv_sub hl [0, 3] rfl)
    · refine lv_tableOut (tgt := 1167) hx hb dL_law_33 (by decide) (by decide) ?_
      exact law_tail C0 (by omega) (by omega) hS (lv_sub hl [0, 3] rfl)
    · refine lv_tableOut (tgt := 1167) hx hb dL_law_33 (by decide) (by decide) ?_
      exact law_tail C0 (by omega) (by omega) hS (lv_sub hl [0, 3] rfl)
    · refine lv_tableOut (tgt := 1167) hx hb dL_law_33 (by decide) (by decide) ?_
      exact law_tail C0 (by omega) (by omega) hS (lv_sub hl [0, 3] rfl)
    · refine lv_tableOut (tgt := 1167) hx hb dL_law_33 (by decide) (by decide) ?_
      exact law_tail C0 (by omega) (by omega) hS (lv_sub hl [0, 3] rfl)
    · refine lv_tableOut (tgt := 1167) hx hb dL_law_33 (by decide) (by decide) ?_
      exact law_tail C0 (by omega) (by omega) hS (lv_sub hl [0, 3] rfl)
