set_option maxHeartbeats 1000000 in
set_option maxRecDepth 100000 in
theorem law_op_8 {p : Program} {e : Env} {s : State} {m : MethodId} {below : List Frame} {meth : Method} {c : Code} (l : Launch) {b L : Nat} {xs : Nat → Int32} (C0 : lw_At p s m meth c b L xs) (hN : nW s) {D : va_G} {cI cO cZ : ClassId} (hK : va_K D vwCl [(cI, .int), (cO, .object "DotBench$Sheet"), (cZ, .boolean)] s) {ad am : Nat → Nat} (hL : L ≤ 5632) {i : Nat} (hi : 11 * i + 11 ≤ L) {n : Nat → Int32} {g : Nat → Nat → Int32} {f : Nat → Option Nat} {sh : Nat → Option Sh} {sv : Option Sp} {bv : Option Sh} {nm : Nat → Int32} {gm : Nat → Nat → Int32} (hok : okC n f sh) (hom : okM nm gm) (hpr : RW n g (fun k => vO (sh k)) nm gm) {H : Heap} {locs : List Loc} (hP : va_P D vwCl (cWld cI cO ad n g f sh sv bv ++ mWld cI cZ am nm gm) H) (hD : va_D (fun q : Nat => s.heap.size ≤ q) (cWld cI cO ad n g f sh sv bv ++ mWld cI cZ am nm gm)) (hS : va_S (fun q : Nat => s.heap.size ≤ q) s.heap H locs) {ls : Array Slot} (hl : lv_has ls 4 [(3, .int (nI (11 * i))), (2, .ref (am 0)), (1, .ref (ad 0)), (0, .ref b)]) (hnext : ∀ (n : Nat → Int32) (g : Nat → Nat → Int32) (f : Nat → Option Nat) (sh : Nat → Option Sh) (sv : Option Sp) (bv : Option Sh) (nm : Nat → Int32) (gm : Nat → Nat → Int32) (H : Heap) (locs : List Loc) (ls : Array Slot), okC n f sh → okM nm gm → RW n g (fun k => vO (sh k)) nm gm → va_P D vwCl (cWld cI cO ad n g f sh sv bv ++ mWld cI cZ am nm gm) H → va_D (fun q : Nat => s.heap.size ≤ q) (cWld cI cO ad n g f sh sv bv ++ mWld cI cZ am nm gm) → va_S (fun q : Nat => s.heap.size ≤ q) s.heap H locs → lv_has ls 4 [(3, .int (nI (11 * i))), (2, .ref (am 0)), (1, .ref (ad 0)), (0, .ref b)] → W p l e room_1 s m #[Value.ref b] below meth c H locs (36 + 4 * i + 4) (33710 + 8195 * i + 8195) (lw_Z below #[Value.ref b] s) (F0 m 1167 ls [])) : W p l e room_1 s m #[Value.ref b] below meth c H locs (36 + 4 * i) (33710 + 8195 * i) (lw_Z below #[Value.ref b] s) (F0 m 476 ls []) := by
  obtain ⟨hx, hb, hr, hml, hown, hts0, hX, hbl, hlocks, hgv⟩ := id C0
  have hts : ∀ w ∈ bigW, w.before #[Value.ref b] s = true := fun w h => hts0 w (bigW_in w h).1
  have hown : s.vm.findClass RL = some m.cls := hown
  have hA : ∀ q : Nat, s.heap.size ≤ q → (fun q : Nat => s.heap.size ≤ q) q := fun _ h => h
  have hbA : ¬ (fun q : Nat => s.heap.size ≤ q) b := Nat.not_le.mpr hbl
  refine lv_aload_n hx hb dL_law_476 rfl (lv_at hl 2 rfl) ?_
  have hPq : va_P D vwCl (cWld cI cO ad n g f sh sv bv ++ mWld cI cZ am nm gm) H := hP
  have hDq : va_D (fun q : Nat => s.heap.size ≤ q) (cWld cI cO ad n g f sh sv bv ++ mWld cI cZ am nm gm) := hD
  have hFc := free_left hDq hS hA
  have hKc := hK.sub (tys' := [(cI, .int), (cO, .object "DotBench$Sheet")]) [0, 1] rfl
  refine va_callv (va_runV (As := []) (rest := []) ⟨hx, hb, hml, hown, hts⟩ (w_X8_clear l D H.size cI cO ad n g f sh sv bv hok ) (cwV 0 hts (gV bw_601 bw_287 bw_288 bw_223 bw_286) rfl rfl rfl (by decide +kernel) ⟨Nat.le_of_ble_eq_true rfl, Nat.le_of_ble_eq_true rfl⟩) ⟨cP_blind, va_recv hKc (P_left hPq) (ci := 8) (q0 := 0) rfl rfl, cP_at (P_left hPq) hKc (D_left hDq) hN⟩ rfl rfl hl.1 rfl (lv_room (Nat.le_of_ble_eq_true rfl)) dL_law_477 ⟨(show 36 + 4 * i + 0 ≤ 135154 by omega), (show 33710 + 8195 * i + 0 ≤ 8696788 by omega)⟩) hS (fun q _ h => hFc q h) hFc (fun u9 t9 H1 locs ht hvm hr_1 hB hz1 hk1 hS => ?_)
  obtain ⟨w1, ⟨n2, g2, f2, sh2, sv2, bv2, hok2, hrl2, rfl⟩, hP1, hD1⟩ := hB
  rw [ht] at hP1
  obtain ⟨hP, hD⟩ := my_joinM hPq hDq hk1 hFc hP1 hD1
  clear hz1 hk1 hFc hKc hPq hDq
  generalize H1 = H at hP hS ⊢
  have hP : va_P D vwCl (cWld cI cO ad n2 g2 f2 sh2 sv2 bv2 ++ mWld cI cZ am nm gm) H := hP
  have hD : va_D (fun q : Nat => s.heap.size ≤ q) (cWld cI cO ad n2 g2 f2 sh2 sv2 bv2 ++ mWld cI cZ am nm gm) := hD
  refine lv_aload_n hx hb dL_law_480 rfl (lv_at hl 1 rfl) ?_
  have hPq : va_P D vwCl (mWld cI cZ am nm gm ++ cWld cI cO ad n2 g2 f2 sh2 sv2 bv2) H := P_perm List.perm_append_comm hP
  have hDq : va_D (fun q : Nat => s.heap.size ≤ q) (mWld cI cZ am nm gm ++ cWld cI cO ad n2 g2 f2 sh2 sv2 bv2) := D_perm List.perm_append_comm hD
  have hFc := free_left hDq hS hA
  have hKc := hK.sub (tys' := [(cI, .int), (cZ, .boolean)]) [0, 2] rfl
  refine va_callv (va_runV (As := []) (rest := []) ⟨hx, hb, hml, hown, hts⟩ (w_X9_clear l D H.size cI cZ am nm gm hom ) (cwV 0 hts (gV bw_602 bw_508 bw_509 bw_391 bw_507) rfl rfl rfl (by decide +kernel) ⟨Nat.le_of_ble_eq_true rfl, Nat.le_of_ble_eq_true rfl⟩) ⟨cP_blind, va_recv hKc (P_left hPq) (ci := 9) (q0 := 0) rfl rfl, cP_at (P_left hPq) hKc (D_left hDq) hN⟩ rfl rfl hl.1 rfl (lv_room (Nat.le_of_ble_eq_true rfl)) dL_law_481 ⟨(show 36 + 4 * i + 0 + 0 ≤ 135154 by omega), (show 33710 + 8195 * i + 0 + 0 ≤ 8696788 by omega)⟩) hS (fun q _ h => hFc q h) hFc (fun u9 t9 H1 locs ht hvm hr_3 hB hz1 hk1 hS => ?_)
  obtain ⟨w1, ⟨nm4, gm4, hom4, hrl4, rfl⟩, hP1, hD1⟩ := hB
  rw [ht] at hP1
  obtain ⟨hP, hD⟩ := my_joinM hPq hDq hk1 hFc hP1 hD1
  have hP := P_perm (List.perm_append_comm (l₁ := mWld cI cZ am nm4 gm4) (l₂ := cWld cI cO ad n2 g2 f2 sh2 sv2 bv2)) hP
  have hD := D_perm (List.perm_append_comm (l₁ := mWld cI cZ am nm4 gm4) (l₂ := cWld cI cO ad n2 g2 f2 sh2 sv2 bv2)) hD
  clear hz1 hk1 hFc hKc hPq hDq
  generalize H1 = H at hP hS ⊢
  have hP : va_P D vwCl (cWld cI cO ad n2 g2 f2 sh2 sv2 bv2 ++ mWld cI cZ am nm4 gm4) H := hP
  have hD : va_D (fun q : Nat => s.heap.size ≤ q) (cWld cI cO ad n2 g2 f2 sh2 sv2 bv2 ++ mWld cI cZ am nm4 gm4) := hD
  refine lv_goto (tgt := 1167) hx hb dL_law_484 (by decide) ?_
  refine W.widen (k := 36 + 4 * i + 4) (n := 33710 + 8195 * i + 8195) (by omega) (by omega) ?_
  exact hnext n2 g2 f2 sh2 sv2 bv2 nm4 gm4 _ _ _ hok2 hom4 (RW_c (RW_clear hpr) hrl2 hrl4) hP hD hS hl

set_option maxHeartbeats 1000000 in
set_option maxRecDepth 100000 in
theorem law_op_9 {p : Program} {e : Env} {s : State} {m : MethodId} {below : List Frame} {meth : Method} {c : Code} (l : Launch) {b L : Nat} {xs : Nat → Int32} (C0 : lw_At p s m meth c b L xs) (hN : nW s) {D : va_G} {cI cO cZ : ClassId} (hK : va_K D vwCl [(cI, .int), (cO, .object "DotBench$Sheet"), (cZ, .boolean)] s) {ad am : Nat → Nat} (hL : L ≤ 5632) {i : Nat} (hi : 11 * i + 11 ≤ L) {n : Nat → Int32} {g : Nat → Nat → Int32} {f : Nat → Option Nat} {sh : Nat → Option Sh} {sv : Option Sp} {bv : Option Sh} {nm : Nat → Int32} {gm : Nat → Nat → Int32} (hok : okC n f sh) (hom : okM nm gm) (hpr : RW n g (fun k => vO (sh k)) nm gm) {H : Heap} {locs : List Loc} (hP : va_P D vwCl (cWld cI cO ad n g f sh sv bv ++ mWld cI cZ am nm gm) H) (hD : va_D (fun q : Nat => s.heap.size ≤ q) (cWld cI cO ad n g f sh sv bv ++ mWld cI cZ am nm gm)) (hS : va_S (fun q : Nat => s.heap.size ≤ q) s.heap H locs) {ls : Array Slot} (hl : lv_has ls 4 [(3, .int (nI (11 * i))), (2, .ref (am 0)), (1, .ref (ad 0)), (0, .ref b)]) (hnext : ∀ (n : Nat → Int32) (g : Nat → Nat → Int32) (f : Nat → Option Nat) (sh : Nat → Option Sh) (sv : Option Sp) (bv : Option Sh) (nm : Nat → Int32) (gm : Nat → Nat → Int32) (H : Heap) (locs : List Loc) (ls : Array Slot), okC n f sh → okM nm gm → RW n g (fun k => vO (sh k)) nm gm → va_P D vwCl (cWld cI cO ad n g f sh sv bv ++ mWld cI cZ am nm gm) H → va_D (fun q : Nat => s.heap.size ≤ q) (cWld cI cO ad n g f sh sv bv ++ mWld cI cZ am nm gm) → va_S (fun q : Nat => s.heap.size ≤ q) s.heap H locs → lv_has ls 4 [(3, .int (nI (11 * i))), (2, .ref (am 0)), (1, .ref (ad 0)), (0, .ref b)] → W p l e room_1 s m #[Value.ref b] below meth c H locs (36 + 4 * i + 4) (33710 + 8195 * i + 8195) (lw_Z below #[Value.ref b] s) (F0 m 1167 ls [])) : W p l e room_1 s m #[Value.ref b] below meth c H locs (36 + 4 * i) (33710 + 8195 * i) (lw_Z below #[Value.ref b] s) (F0 m 487 ls []) := by
  obtain ⟨hx, hb, hr, hml, hown, hts0, hX, hbl, hlocks, hgv⟩ := id C0
  have hts : ∀ w ∈ bigW, w.before #[Value.ref b] s = true := fun w h => hts0 w (bigW_in w h).1
  have hown : s.vm.findClass RL = some m.cls := hown
  have hA : ∀ q : Nat, s.heap.size ≤ q → (fun q : Nat => s.heap.size ≤ q) q := fun _ h => h
  have hbA : ¬ (fun q : Nat => s.heap.size ≤ q) b := Nat.not_le.mpr hbl
  refine lv_aload_n hx hb dL_law_487 rfl (lv_at hl 2 rfl) ?_
  refine lv_aload_n hx hb dL_law_488 rfl (lv_at hl 3 rfl) ?_
  refine lv_iload_n hx hb dL_law_489 rfl (lv_at hl 0 rfl) ?_
  refine lv_iconst (v := 1) hx hb dL_law_490 (by decide) ?_
  refine lv_iadd hx hb dL_law_491 ?_
  refine my_fold (v := nI (11 * i + 1)) (show nI (11 * i) + nI 1 = _ from nI_add _ _) ?_
  refine va_sld hx hb hX hbl hbA hS (i := nI (11 * i + 1)) (vp_in_nI (by omega) (by omega)) dL_law_492 ?_
  refine my_topv (v := .int (xs (11 * i + 1))) (by rw [nI_clamp (by omega)]) ?_
  refine lv_aload_n hx hb dL_law_493 rfl (lv_at hl 3 rfl) ?_
  refine lv_iload_n hx hb dL_law_494 rfl (lv_at hl 0 rfl) ?_
  refine lv_iconst (v := 2) hx hb dL_law_495 (by decide) ?_
  refine lv_iadd hx hb dL_law_496 ?_
  refine my_fold (v := nI (11 * i + 2)) (show nI (11 * i) + nI 2 = _ from nI_add _ _) ?_
  refine va_sld hx hb hX hbl hbA hS (i := nI (11 * i + 2)) (vp_in_nI (by omega) (by omega)) dL_law_497 ?_
  refine my_topv (v := .int (xs (11 * i + 2))) (by rw [nI_clamp (by omega)]) ?_
  refine lv_aload_n hx hb dL_law_498 rfl (lv_at hl 3 rfl) ?_
  refine lv_iload_n hx hb dL_law_499 rfl (lv_at hl 0 rfl) ?_
  refine lv_iconst (v := 3) hx hb dL_law_500 (by decide) ?_
  refine lv_iadd hx hb dL_law_501 ?_
  refine my_fold (v := nI (11 * i + 3)) (show nI (11 * i) + nI 3 = _ from nI_add _ _) ?_
  refine va_sld hx hb hX hbl hbA hS (i := nI (11 * i + 3)) (vp_in_nI (by omega) (by omega)) dL_law_502 ?_
  refine my_topv (v := .int (xs (11 * i + 3))) (by rw [nI_clamp (by omega)]) ?_
  refine lv_if_eq (tgt := 510) hx hb dL_law_503 (by decide) (fun c_1 => ?_) (fun c_1 => ?_)
  · skip
    have f_2 : (xs (11 * i + 3)).toInt = 0 := f_eq rfl (by decide) c_1
    refine lv_iconst (v := 0) hx hb dL_law_510 (by decide) ?_
    have hPq : va_P D vwCl (cWld cI cO ad n g f sh sv bv ++ mWld cI cZ am nm gm) H := hP
    have hDq : va_D (fun q : Nat => s.heap.size ≤ q) (cWld cI cO ad n g f sh sv bv ++ mWld cI cZ am nm gm) := hD
    have hFc := free_left hDq hS hA
    have hKc := hK.sub (tys' := [(cI, .int), (cO, .object "DotBench$Sheet")]) [0, 1] rfl
    refine va_calli (va_runV (As := [.int (xs (11 * i + 1)), .int (xs (11 * i + 2)), .int 0]) (rest := []) ⟨hx, hb, hml, hown, hts⟩ (w_X8_fill l D H.size cI cO ad n g f sh sv bv hok (xs (11 * i + 1)) (xs (11 * i + 2)) 0 (rw_q8 hpr hok hom)) (cwV 3 hts (gV bw_603 bw_291 bw_292 bw_223 bw_290) rfl rfl rfl (by decide +kernel) ⟨Nat.le_of_ble_eq_true rfl, Nat.le_of_ble_eq_true rfl⟩) ⟨cP_blind, va_recv hKc (P_left hPq) (ci := 8) (q0 := 0) rfl rfl, cP_at (P_left hPq) hKc (D_left hDq) hN⟩ rfl rfl hl.1 rfl (lv_room (Nat.le_of_ble_eq_true rfl)) dL_law_511 ⟨(show 36 + 4 * i + 0 ≤ 135154 by omega), (show 33710 + 8195 * i + 0 ≤ 8696788 by omega)⟩) hS (fun q _ h => hFc q h) hFc (fun r_3 u9 t9 H1 locs ht hvm hr_3 hB hz1 hk1 hS => ?_)
    obtain ⟨w1, ⟨n4, g4, f4, sh4, sv4, bv4, hok4, hrl4, rfl⟩, hP1, hD1⟩ := hB
    rw [ht] at hP1
    obtain ⟨hP, hD⟩ := my_joinM hPq hDq hk1 hFc hP1 hD1
    clear hz1 hk1 hFc hKc hPq hDq
    generalize H1 = H at hP hS ⊢
    have hP : va_P D vwCl (cWld cI cO ad n4 g4 f4 sh4 sv4 bv4 ++ mWld cI cZ am nm gm) H := hP
    have hD : va_D (fun q : Nat => s.heap.size ≤ q) (cWld cI cO ad n4 g4 f4 sh4 sv4 bv4 ++ mWld cI cZ am nm gm) := hD
    refine lv_aload_n hx hb dL_law_514 rfl (lv_at hl 1 rfl) ?_
    refine lv_aload_n hx hb dL_law_515 rfl (lv_at hl 3 rfl) ?_
    refine lv_iload_n hx hb dL_law_516 rfl (lv_at hl 0 rfl) ?_
    refine lv_iconst (v := 1) hx hb dL_law_517 (by decide) ?_
    refine lv_iadd hx hb dL_law_518 ?_
    refine my_fold (v := nI (11 * i + 1)) (show nI (11 * i) + nI 1 = _ from nI_add _ _) ?_
    refine va_sld hx hb hX hbl hbA hS (i := nI (11 * i + 1)) (vp_in_nI (by omega) (by omega)) dL_law_519 ?_
    refine my_topv (v := .int (xs (11 * i + 1))) (by rw [nI_clamp (by omega)]) ?_
    refine lv_aload_n hx hb dL_law_520 rfl (lv_at hl 3 rfl) ?_
    refine lv_iload_n hx hb dL_law_521 rfl (lv_at hl 0 rfl) ?_
    refine lv_iconst (v := 2) hx hb dL_law_522 (by decide) ?_
    refine lv_iadd hx hb dL_law_523 ?_
    refine my_fold (v := nI (11 * i + 2)) (show nI (11 * i) + nI 2 = _ from nI_add _ _) ?_
    refine va_sld hx hb hX hbl hbA hS (i := nI (11 * i + 2)) (vp_in_nI (by omega) (by omega)) dL_law_524 ?_
    refine my_topv (v := .int (xs (11 * i + 2))) (by rw [nI_clamp (by omega)]) ?_
    refine lv_aload_n hx hb dL_law_525 rfl (lv_at hl 3 rfl) ?_
    refine lv_iload_n hx hb dL_law_526 rfl (lv_at hl 0 rfl) ?_
    refine lv_iconst (v := 3) hx hb dL_law_527 (by decide) ?_
    refine lv_iadd hx hb dL_law_528 ?_
    refine my_fold (v := nI (11 * i + 3)) (show nI (11 * i) + nI 3 = _ from nI_add _ _) ?_
    refine va_sld hx hb hX hbl hbA hS (i := nI (11 * i + 3)) (vp_in_nI (by omega) (by omega)) dL_law_529 ?_
    refine my_topv (v := .int (xs (11 * i + 3))) (by rw [nI_clamp (by omega)]) ?_
    refine lv_if_eq (tgt := 537) hx hb dL_law_530 (by decide) (fun c_5 => ?_) (fun c_5 => ?_)
    · skip
      have f_6 : (xs (11 * i + 3)).toInt = 0 := f_eq rfl (by decide) c_5
      refine lv_iconst (v := 0) hx hb dL_law_537 (by decide) ?_
      have hPq : va_P D vwCl (mWld cI cZ am nm gm ++ cWld cI cO ad n4 g4 f4 sh4 sv4 bv4) H := P_perm List.perm_append_comm hP
      have hDq : va_D (fun q : Nat => s.heap.size ≤ q) (mWld cI cZ am nm gm ++ cWld cI cO ad n4 g4 f4 sh4 sv4 bv4) := D_perm List.perm_append_comm hD
      have hFc := free_left hDq hS hA
      have hKc := hK.sub (tys' := [(cI, .int), (cZ, .boolean)]) [0, 2] rfl
      refine va_calli (va_runV (As := [.int (xs (11 * i + 1)), .int (xs (11 * i + 2)), .int 0]) (rest := [.int r_3]) ⟨hx, hb, hml, hown, hts⟩ (w_X9_fill l D H.size cI cZ am nm gm hom (xs (11 * i + 1)) (xs (11 * i + 2)) 0) (cwV 3 hts (gV bw_604 bw_528 bw_529 bw_391 bw_527) rfl rfl rfl (by decide +kernel) ⟨Nat.le_of_ble_eq_true rfl, Nat.le_of_ble_eq_true rfl⟩) ⟨cP_blind, va_recv hKc (P_left hPq) (ci := 9) (q0 := 0) rfl rfl, cP_at (P_left hPq) hKc (D_left hDq) hN⟩ rfl rfl hl.1 rfl (lv_room (Nat.le_of_ble_eq_true rfl)) dL_law_538 ⟨(show 36 + 4 * i + 0 + 0 ≤ 135154 by omega), (show 33710 + 8195 * i + 0 + 0 ≤ 8696788 by omega)⟩) hS (fun q _ h => hFc q h) hFc (fun r_7 u9 t9 H1 locs ht hvm hr_7 hB hz1 hk1 hS => ?_)
      obtain ⟨w1, ⟨nm8, gm8, hom8, hrl8, rfl⟩, hP1, hD1⟩ := hB
      rw [ht] at hP1
      obtain ⟨hP, hD⟩ := my_joinM hPq hDq hk1 hFc hP1 hD1
      have hP := P_perm (List.perm_append_comm (l₁ := mWld cI cZ am nm8 gm8) (l₂ := cWld cI cO ad n4 g4 f4 sh4 sv4 bv4)) hP
      have hD := D_perm (List.perm_append_comm (l₁ := mWld cI cZ am nm8 gm8) (l₂ := cWld cI cO ad n4 g4 f4 sh4 sv4 bv4)) hD
      clear hz1 hk1 hFc hKc hPq hDq
      generalize H1 = H at hP hS ⊢
      have hP : va_P D vwCl (cWld cI cO ad n4 g4 f4 sh4 sv4 bv4 ++ mWld cI cZ am nm8 gm8) H := hP
      have hD : va_D (fun q : Nat => s.heap.size ≤ q) (cWld cI cO ad n4 g4 f4 sh4 sv4 bv4 ++ mWld cI cZ am nm8 gm8) := hD
      refine lv_icmp_eq (tgt := 1167) hx hb dL_law_541 (by decide) (fun c_9 => ?_) (fun c_9 => ?_)
      · skip
        have f_10 : r_3.toInt = r_7.toInt := f_eq rfl rfl c_9
        refine W.widen (k := 36 + 4 * i + 4) (n := 33710 + 8195 * i + 8195) (by omega) (by omega) ?_
        exact hnext n4 g4 f4 sh4 sv4 bv4 nm8 gm8 _ _ _ hok4 hom8 (RW_c (fi_ok (k := xs (11 * i + 1)) (ru := xs (11 * i + 2)) (sm := 0) hpr hok hom).2 hrl4 hrl8) hP hD hS hl
      · skip
        have heq : r_3 = r_7 := (hr_3.trans (fi_ok (k := xs (11 * i + 1)) (ru := xs (11 * i + 2)) (sm := 0) hpr hok hom).1).trans hr_7.symm
        exact absurd heq c_9
    · skip
      exact absurd c_1 c_5
  · skip
    have f_2 : ¬ ((xs (11 * i + 3)).toInt = 0) := fn_eq rfl (by decide) c_1
    refine lv_iconst (v := 1) hx hb dL_law_506 (by decide) ?_
    refine lv_goto (tgt := 511) hx hb dL_law_507 (by decide) ?_
    have hPq : va_P D vwCl (cWld cI cO ad n g f sh sv bv ++ mWld cI cZ am nm gm) H := hP
    have hDq : va_D (fun q : Nat => s.heap.size ≤ q) (cWld cI cO ad n g f sh sv bv ++ mWld cI cZ am nm gm) := hD
    have hFc := free_left hDq hS hA
    have hKc := hK.sub (tys' := [(cI, .int), (cO, .object "DotBench$Sheet")]) [0, 1] rfl
    refine va_calli (va_runV (As := [.int (xs (11 * i + 1)), .int (xs (11 * i + 2)), .int 1]) (rest := []) ⟨hx, hb, hml, hown, hts⟩ (w_X8_fill l D H.size cI cO ad n g f sh sv bv hok (xs (11 * i + 1)) (xs (11 * i + 2)) 1 (rw_q8 hpr hok hom)) (cwV 3 hts (gV bw_603 bw_291 bw_292 bw_223 bw_290) rfl rfl rfl (by decide +kernel) ⟨Nat.le_of_ble_eq_true rfl, Nat.le_of_ble_eq_true rfl⟩) ⟨cP_blind, va_recv hKc (P_left hPq) (ci := 8) (q0 := 0) rfl rfl, cP_at (P_left hPq) hKc (D_left hDq) hN⟩ rfl rfl hl.1 rfl (lv_room (Nat.le_of_ble_eq_true rfl)) dL_law_511 ⟨(show 36 + 4 * i + 0 ≤ 135154 by omega), (show 33710 + 8195 * i + 0 ≤ 8696788 by omega)⟩) hS (fun q _ h => hFc q h) hFc (fun r_11 u9 t9 H1 locs ht hvm hr_11 hB hz1 hk1 hS => ?_)
    obtain ⟨w1, ⟨n12, g12, f12, sh12, sv12, bv12, hok12, hrl12, rfl⟩, hP1, hD1⟩ := hB
    rw [ht] at hP1
    obtain ⟨hP, hD⟩ := my_joinM hPq hDq hk1 hFc hP1 hD1
    clear hz1 hk1 hFc hKc hPq hDq
    generalize H1 = H at hP hS ⊢
    have hP : va_P D vwCl (cWld cI cO ad n12 g12 f12 sh12 sv12 bv12 ++ mWld cI cZ am nm gm) H := hP
    have hD : va_D (fun q : Nat => s.heap.size ≤ q) (cWld cI cO ad n12 g12 f12 sh12 sv12 bv12 ++ mWld cI cZ am nm gm) := hD
    refine lv_aload_n hx hb dL_law_514 rfl (lv_at hl 1 rfl) ?_
    refine lv_aload_n hx hb dL_law_515 rfl (lv_at hl 3 rfl) ?_
    refine lv_iload_n hx hb dL_law_516 rfl (lv_at hl 0 rfl) ?_
    refine lv_iconst (v := 1) hx hb dL_law_517 (by decide) ?_
    refine lv_iadd hx hb dL_law_518 ?_
    refine my_fold (v := nI (11 * i + 1)) (show nI (11 * i) + nI 1 = _ from nI_add _ _) ?_
    refine va_sld hx hb hX hbl hbA hS (i := nI (11 * i + 1)) (vp_in_nI (by omega) (by omega)) dL_law_519 ?_
    refine my_topv (v := .int (xs (11 * i + 1))) (by rw [nI_clamp (by omega)]) ?_
    refine lv_aload_n hx hb dL_law_520 rfl (lv_at hl 3 rfl) ?_
    refine lv_iload_n hx hb dL_law_521 rfl (lv_at hl 0 rfl) ?_
    refine lv_iconst (v := 2) hx hb dL_law_522 (by decide) ?_
    refine lv_iadd hx hb dL_law_523 ?_
    refine my_fold (v := nI (11 * i + 2)) (show nI (11 * i) + nI 2 = _ from nI_add _ _) ?_
    refine va_sld hx hb hX hbl hbA hS (i := nI (11 * i + 2)) (vp_in_nI (by omega) (by omega)) dL_law_524 ?_
    refine my_topv (v := .int (xs (11 * i + 2))) (by rw [nI_clamp (by omega)]) ?_
    refine lv_aload_n hx hb dL_law_525 rfl (lv_at hl 3 rfl) ?_
    refine lv_iload_n hx hb dL_law_526 rfl (lv_at hl 0 rfl) ?_
    refine lv_iconst (v := 3) hx hb dL_law_527 (by decide) ?_
    refine lv_iadd hx hb dL_law_528 ?_
    refine my_fold (v := nI (11 * i + 3)) (show nI (11 * i) + nI 3 = _ from nI_add _ _) ?_
    refine va_sld hx hb hX hbl hbA hS (i := nI (11 * i + 3)) (vp_in_nI (by omega) (by omega)) dL_law_529 ?_
    refine my_topv (v := .int (xs (11 * i + 3))) (by rw [nI_clamp (by omega)]) ?_
    refine lv_if_eq (tgt := 537) hx hb dL_law_530 (by decide) (fun c_13 => ?_) (fun c_13 => ?_)
    · skip
      exact absurd c_13 c_1
    · skip
      have f_14 : ¬ ((xs (11 * i + 3)).toInt = 0) := fn_eq rfl (by decide) c_13
      refine lv_iconst (v := 1) hx hb dL_law_533 (by decide) ?_
      refine lv_goto (tgt := 538) hx hb dL_law_534 (by decide) ?_
      have hPq : va_P D vwCl (mWld cI cZ am nm gm ++ cWld cI cO ad n12 g12 f12 sh12 sv12 bv12) H := P_perm List.perm_append_comm hP
      have hDq : va_D (fun q : Nat => s.heap.size ≤ q) (mWld cI cZ am nm gm ++ cWld cI cO ad n12 g12 f12 sh12 sv12 bv12) := D_perm List.perm_append_comm hD
      have hFc := free_left hDq hS hA
      have hKc := hK.sub (tys' := [(cI, .int), (cZ, .boolean)]) [0, 2] rfl
      refine va_calli (va_runV (As := [.int (xs (11 * i + 1)), .int (xs (11 * i + 2)), .int 1]) (rest := [.int r_11]) ⟨hx, hb, hml, hown, hts⟩ (w_X9_fill l D H.size cI cZ am nm gm hom (xs (11 * i + 1)) (xs (11 * i + 2)) 1) (cwV 3 hts (gV bw_604 bw_528 bw_529 bw_391 bw_527) rfl rfl rfl (by decide +kernel) ⟨Nat.le_of_ble_eq_true rfl, Nat.le_of_ble_eq_true rfl⟩) ⟨cP_blind, va_recv hKc (P_left hPq) (ci := 9) (q0 := 0) rfl rfl, cP_at (P_left hPq) hKc (D_left hDq) hN⟩ rfl rfl hl.1 rfl (lv_room (Nat.le_of_ble_eq_true rfl)) dL_law_538 ⟨(show 36 + 4 * i + 0 + 0 ≤ 135154 by omega), (show 33710 + 8195 * i + 0 + 0 ≤ 8696788 by omega)⟩) hS (fun q _ h => hFc q h) hFc (fun r_15 u9 t9 H1 locs ht hvm hr_15 hB hz1 hk1 hS => ?_)
      obtain ⟨w1, ⟨nm16, gm16, hom16, hrl16, rfl⟩, hP1, hD1⟩ := hB
      rw [ht] at hP1
      obtain ⟨hP, hD⟩ := my_joinM hPq hDq hk1 hFc hP1 hD1
      have hP := P_perm (List.perm_append_comm (l₁ := mWld cI cZ am nm16 gm16) (l₂ := cWld cI cO ad n12 g12 f12 sh12 sv12 bv12)) hP
      have hD := D_perm (List.perm_append_comm (l₁ := mWld cI cZ am nm16 gm16) (l₂ := cWld cI cO ad n12 g12 f12 sh12 sv12 bv12)) hD
      clear hz1 hk1 hFc hKc hPq hDq
      generalize H1 = H at hP hS ⊢
      have hP : va_P D vwCl (cWld cI cO ad n12 g12 f12 sh12 sv12 bv12 ++ mWld cI cZ am nm16 gm16) H := hP
      have hD : va_D (fun q : Nat => s.heap.size ≤ q) (cWld cI cO ad n12 g12 f12 sh12 sv12 bv12 ++ mWld cI cZ am nm16 gm16) := hD
      refine lv_icmp_eq (tgt := 1167) hx hb dL_law_541 (by decide) (fun c_17 => ?_) (fun c_17 => ?_)
      · skip
        have f_18 : r_11.toInt = r_15.toInt := f_eq rfl rfl c_17
        refine W.widen (k := 36 + 4 * i + 4) (n := 33710 + 8195 * i + 8195) (by omega) (by omega) ?_
        exact hnext n12 g12 f12 sh12 sv12 bv12 nm16 gm16 _ _ _ hok12 hom16 (RW_c (fi_ok (k := xs (11 * i + 1)) (ru := xs (11 * i + 2)) (sm := 1) hpr hok hom).2 hrl12 hrl16) hP hD hS hl
      · skip
        have heq : r_11 = r_15 := (hr_11.trans (fi_ok (k := xs (11 * i + 1)) (ru := xs (11 * i + 2)) (sm := 1) hpr hok hom).1).trans hr_15.symm
        exact absurd heq c_17

set_option maxHeartbeats 1000000 in
set_option maxRecDepth 100000 in
theorem law_op_10 {p : Program} {e : Env} {s : State} {m : MethodId} {below : List Frame} {meth : Method} {c : Code} (l : Launch) {b L : Nat} {xs : Nat → Int32} (C0 : lw_At p s m meth c b L xs) (hN : nW s) {D : va_G} {cI cO cZ : ClassId} (hK : va_K D vwCl [(cI, .int), (cO, .object "DotBench$Sheet"), (cZ, .boolean)] s) {ad am : Nat → Nat} (hL : L ≤ 5632) {i : Nat} (hi : 11 * i + 11 ≤ L) {n : Nat → Int32} {g : Nat → Nat → Int32} {f : Nat → Option Nat} {sh : Nat → Option Sh} {sv : Option Sp} {bv : Option Sh} {nm : Nat → Int32} {gm : Nat → Nat → Int32} (hok : okC n f sh) (hom : okM nm gm) (hpr : RW n g (fun k => vO (sh k)) nm gm) {H : Heap} {locs : List Loc} (hP : va_P D vwCl (cWld cI cO ad n g f sh sv bv ++ mWld cI cZ am nm gm) H) (hD : va_D (fun q : Nat => s.heap.size ≤ q) (cWld cI cO ad n g f sh sv bv ++ mWld cI cZ am nm gm)) (hS : va_S (fun q : Nat => s.heap.size ≤ q) s.heap H locs) {ls : Array Slot} (hl : lv_has ls 4 [(3, .int (nI (11 * i))), (2, .ref (am 0)), (1, .ref (ad 0)), (0, .ref b)]) (hnext : ∀ (n : Nat → Int32) (g : Nat → Nat → Int32) (f : Nat → Option Nat) (sh : Nat → Option Sh) (sv : Option Sp) (bv : Option Sh) (nm : Nat → Int32) (gm : Nat → Nat → Int32) (H : Heap) (locs : List Loc) (ls : Array Slot), okC n f sh → okM nm gm → RW n g (fun k => vO (sh k)) nm gm → va_P D vwCl (cWld cI cO ad n g f sh sv bv ++ mWld cI cZ am nm gm) H → va_D (fun q : Nat => s.heap.size ≤ q) (cWld cI cO ad n g f sh sv bv ++ mWld cI cZ am nm gm) → va_S (fun q : Nat => s.heap.size ≤ q) s.heap H locs → lv_has ls 4 [(3, .int (nI (11 * i))), (2, .ref (am 0)), (1, .ref (ad 0)), (0, .ref b)] → W p l e room_1 s m #[Value.ref b] below meth c H locs (36 + 4 * i + 4) (33710 + 8195 * i + 8195) (lw_Z below #[Value.ref b] s) (F0 m 1167 ls [])) : W p l e room_1 s m #[Value.ref b] below meth c H locs (36 + 4 * i) (33710 + 8195 * i) (lw_Z below #[Value.ref b] s) (F0 m 546 ls []) := by
  obtain ⟨hx, hb, hr, hml, hown, hts0, hX, hbl, hlocks, hgv⟩ := id C0
  have hts : ∀ w ∈ bigW, w.before #[Value.ref b] s = true := fun w h => hts0 w (bigW_in w h).1
  have hown : s.vm.findClass RL = some m.cls := hown
  have hA : ∀ q : Nat, s.heap.size ≤ q → (fun q : Nat => s.heap.size ≤ q) q := fun _ h => h
  have hbA : ¬ (fun q : Nat => s.heap.size ≤ q) b := Nat.not_le.mpr hbl
  refine lv_aload_n hx hb dL_law_546 rfl (lv_at hl 2 rfl) ?_
  refine lv_aload_n hx hb dL_law_547 rfl (lv_at hl 3 rfl) ?_
  refine lv_iload_n hx hb dL_law_548 rfl (lv_at hl 0 rfl) ?_
  refine lv_iconst (v := 1) hx hb dL_law_549 (by decide) ?_
  refine lv_iadd hx hb dL_law_550 ?_
  refine my_fold (v := nI (11 * i + 1)) (show nI (11 * i) + nI 1 = _ from nI_add _ _) ?_
  refine va_sld hx hb hX hbl hbA hS (i := nI (11 * i + 1)) (vp_in_nI (by omega) (by omega)) dL_law_551 ?_
  refine my_topv (v := .int (xs (11 * i + 1))) (by rw [nI_clamp (by omega)]) ?_
  refine lv_aload_n hx hb dL_law_552 rfl (lv_at hl 3 rfl) ?_
  refine lv_iload_n hx hb dL_law_553 rfl (lv_at hl 0 rfl) ?_
  refine lv_iconst (v := 2) hx hb dL_law_554 (by decide) ?_
  refine lv_iadd hx hb dL_law_555 ?_
  refine my_fold (v := nI (11 * i + 2)) (show nI (11 * i) + nI 2 = _ from nI_add _ _) ?_
  refine va_sld hx hb hX hbl hbA hS (i := nI (11 * i + 2)) (vp_in_nI (by omega) (by omega)) dL_law_556 ?_
  refine my_topv (v := .int (xs (11 * i + 2))) (by rw [nI_clamp (by omega)]) ?_
  refine lv_aload_n hx hb dL_law_557 rfl (lv_at hl 3 rfl) ?_
  refine lv_iload_n hx hb dL_law_558 rfl (lv_at hl 0 rfl) ?_
  refine lv_iconst (v := 3) hx hb dL_law_559 (by decide) ?_
  refine lv_iadd hx hb dL_law_560 ?_
  refine my_fold (v := nI (11 * i + 3)) (show nI (11 * i) + nI 3 = _ from nI_add _ _) ?_
  refine va_sld hx hb hX hbl hbA hS (i := nI (11 * i + 3)) (vp_in_nI (by omega) (by omega)) dL_law_561 ?_
  refine my_topv (v := .int (xs (11 * i + 3))) (by rw [nI_clamp (by omega)]) ?_
  refine lv_aload_n hx hb dL_law_562 rfl (lv_at hl 3 rfl) ?_
  refine lv_iload_n hx hb dL_law_563 rfl (lv_at hl 0 rfl) ?_
  refine lv_iconst (v := 4) hx hb dL_law_564 (by decide) ?_
  refine lv_iadd hx hb dL_law_565 ?_
  refine my_fold (v := nI (11 * i + 4)) (show nI (11 * i) + nI 4 = _ from nI_add _ _) ?_
  refine va_sld hx hb hX hbl hbA hS (i := nI (11 * i + 4)) (vp_in_nI (by omega) (by omega)) dL_law_566 ?_
  refine my_topv (v := .int (xs (11 * i + 4))) (by rw [nI_clamp (by omega)]) ?_
  have hPq : va_P D vwCl (cWld cI cO ad n g f sh sv bv ++ mWld cI cZ am nm gm) H := hP
  have hDq : va_D (fun q : Nat => s.heap.size ≤ q) (cWld cI cO ad n g f sh sv bv ++ mWld cI cZ am nm gm) := hD
  have hFc := free_left hDq hS hA
  have hKc := hK.sub (tys' := [(cI, .int), (cO, .object "DotBench$Sheet")]) [0, 1] rfl
  refine va_calli (va_runV (As := [.int (xs (11 * i + 1)), .int (xs (11 * i + 2)), .int (xs (11 * i + 3)), .int (xs (11 * i + 4))]) (rest := []) ⟨hx, hb, hml, hown, hts⟩ (w_X8_corner l D H.size cI cO ad n g f sh sv bv hok (xs (11 * i + 1)) (xs (11 * i + 2)) (xs (11 * i + 3)) (xs (11 * i + 4))) (cwV 4 hts (gV bw_605 bw_298 bw_299 bw_223 bw_297) rfl rfl rfl (by decide +kernel) ⟨Nat.le_of_ble_eq_true rfl, Nat.le_of_ble_eq_true rfl⟩) ⟨cP_blind, va_recv hKc (P_left hPq) (ci := 8) (q0 := 0) rfl rfl, cP_at (P_left hPq) hKc (D_left hDq) hN⟩ rfl rfl hl.1 rfl (lv_room (Nat.le_of_ble_eq_true rfl)) dL_law_567 ⟨(show 36 + 4 * i + 0 ≤ 135154 by omega), (show 33710 + 8195 * i + 0 ≤ 8696788 by omega)⟩) hS (fun q _ h => hFc q h) hFc (fun r_1 u9 t9 H1 locs ht hvm hr_1 hB hz1 hk1 hS => ?_)
  obtain ⟨w1, ⟨n2, g2, f2, sh2, sv2, bv2, hok2, hrl2, rfl⟩, hP1, hD1⟩ := hB
  rw [ht] at hP1
  obtain ⟨hP, hD⟩ := my_joinM hPq hDq hk1 hFc hP1 hD1
  clear hz1 hk1 hFc hKc hPq hDq
  generalize H1 = H at hP hS ⊢
  have hP : va_P D vwCl (cWld cI cO ad n2 g2 f2 sh2 sv2 bv2 ++ mWld cI cZ am nm gm) H := hP
  have hD : va_D (fun q : Nat => s.heap.size ≤ q) (cWld cI cO ad n2 g2 f2 sh2 sv2 bv2 ++ mWld cI cZ am nm gm) := hD
  refine lv_aload_n hx hb dL_law_570 rfl (lv_at hl 1 rfl) ?_
  refine lv_aload_n hx hb dL_law_571 rfl (lv_at hl 3 rfl) ?_
  refine lv_iload_n hx hb dL_law_572 rfl (lv_at hl 0 rfl) ?_
  refine lv_iconst (v := 1) hx hb dL_law_573 (by decide) ?_
  refine lv_iadd hx hb dL_law_574 ?_
  refine my_fold (v := nI (11 * i + 1)) (show nI (11 * i) + nI 1 = _ from nI_add _ _) ?_
  refine va_sld hx hb hX hbl hbA hS (i := nI (11 * i + 1)) (vp_in_nI (by omega) (by omega)) dL_law_575 ?_
  refine my_topv (v := .int (xs (11 * i + 1))) (by rw [nI_clamp (by omega)]) ?_
  refine lv_aload_n hx hb dL_law_576 rfl (lv_at hl 3 rfl) ?_
  refine lv_iload_n hx hb dL_law_577 rfl (lv_at hl 0 rfl) ?_
  refine lv_iconst (v := 2) hx hb dL_law_578 (by decide) ?_
  refine lv_iadd hx hb dL_law_579 ?_
  refine my_fold (v := nI (11 * i + 2)) (show nI (11 * i) + nI 2 = _ from nI_add _ _) ?_
  refine va_sld hx hb hX hbl hbA hS (i := nI (11 * i + 2)) (vp_in_nI (by omega) (by omega)) dL_law_580 ?_
  refine my_topv (v := .int (xs (11 * i + 2))) (by rw [nI_clamp (by omega)]) ?_
  refine lv_aload_n hx hb dL_law_581 rfl (lv_at hl 3 rfl) ?_
  refine lv_iload_n hx hb dL_law_582 rfl (lv_at hl 0 rfl) ?_
  refine lv_iconst (v := 3) hx hb dL_law_583 (by decide) ?_
  refine lv_iadd hx hb dL_law_584 ?_
  refine my_fold (v := nI (11 * i + 3)) (show nI (11 * i) + nI 3 = _ from nI_add _ _) ?_
  refine va_sld hx hb hX hbl hbA hS (i := nI (11 * i + 3)) (vp_in_nI (by omega) (by omega)) dL_law_585 ?_
  refine my_topv (v := .int (xs (11 * i + 3))) (by rw [nI_clamp (by omega)]) ?_
  refine lv_aload_n hx hb dL_law_586 rfl (lv_at hl 3 rfl) ?_
  refine lv_iload_n hx hb dL_law_587 rfl (lv_at hl 0 rfl) ?_
  refine lv_iconst (v := 4) hx hb dL_law_588 (by decide) ?_
  refine lv_iadd hx hb dL_law_589 ?_
  refine my_fold (v := nI (11 * i + 4)) (show nI (11 * i) + nI 4 = _ from nI_add _ _) ?_
  refine va_sld hx hb hX hbl hbA hS (i := nI (11 * i + 4)) (vp_in_nI (by omega) (by omega)) dL_law_590 ?_
  refine my_topv (v := .int (xs (11 * i + 4))) (by rw [nI_clamp (by omega)]) ?_
  have hPq : va_P D vwCl (mWld cI cZ am nm gm ++ cWld cI cO ad n2 g2 f2 sh2 sv2 bv2) H := P_perm List.perm_append_comm hP
  have hDq : va_D (fun q : Nat => s.heap.size ≤ q) (mWld cI cZ am nm gm ++ cWld cI cO ad n2 g2 f2 sh2 sv2 bv2) := D_perm List.perm_append_comm hD
  have hFc := free_left hDq hS hA
  have hKc := hK.sub (tys' := [(cI, .int), (cZ, .boolean)]) [0, 2] rfl
  refine va_calli (va_runV (As := [.int (xs (11 * i + 1)), .int (xs (11 * i + 2)), .int (xs (11 * i + 3)), .int (xs (11 * i + 4))]) (rest := [.int r_1]) ⟨hx, hb, hml, hown, hts⟩ (w_X9_corner l D H.size cI cZ am nm gm hom (xs (11 * i + 1)) (xs (11 * i + 2)) (xs (11 * i + 3)) (xs (11 * i + 4))) (cwV 4 hts (gV bw_606 bw_532 bw_533 bw_391 bw_531) rfl rfl rfl (by decide +kernel) ⟨Nat.le_of_ble_eq_true rfl, Nat.le_of_ble_eq_true rfl⟩) ⟨cP_blind, va_recv hKc (P_left hPq) (ci := 9) (q0 := 0) rfl rfl, cP_at (P_left hPq) hKc (D_left hDq) hN⟩ rfl rfl hl.1 rfl (lv_room (Nat.le_of_ble_eq_true rfl)) dL_law_591 ⟨(show 36 + 4 * i + 0 + 0 ≤ 135154 by omega), (show 33710 + 8195 * i + 0 + 0 ≤ 8696788 by omega)⟩) hS (fun q _ h => hFc q h) hFc (fun r_3 u9 t9 H1 locs ht hvm hr_3 hB hz1 hk1 hS => ?_)
  obtain ⟨w1, ⟨nm4, gm4, hom4, hrl4, rfl⟩, hP1, hD1⟩ := hB
  rw [ht] at hP1
  obtain ⟨hP, hD⟩ := my_joinM hPq hDq hk1 hFc hP1 hD1
  have hP := P_perm (List.perm_append_comm (l₁ := mWld cI cZ am nm4 gm4) (l₂ := cWld cI cO ad n2 g2 f2 sh2 sv2 bv2)) hP
  have hD := D_perm (List.perm_append_comm (l₁ := mWld cI cZ am nm4 gm4) (l₂ := cWld cI cO ad n2 g2 f2 sh2 sv2 bv2)) hD
  clear hz1 hk1 hFc hKc hPq hDq
  generalize H1 = H at hP hS ⊢
  have hP : va_P D vwCl (cWld cI cO ad n2 g2 f2 sh2 sv2 bv2 ++ mWld cI cZ am nm4 gm4) H := hP
  have hD : va_D (fun q : Nat => s.heap.size ≤ q) (cWld cI cO ad n2 g2 f2 sh2 sv2 bv2 ++ mWld cI cZ am nm4 gm4) := hD
  refine lv_icmp_eq (tgt := 1167) hx hb dL_law_594 (by decide) (fun c_5 => ?_) (fun c_5 => ?_)
  · skip
    have f_6 : r_1.toInt = r_3.toInt := f_eq rfl rfl c_5
    refine W.widen (k := 36 + 4 * i + 4) (n := 33710 + 8195 * i + 8195) (by omega) (by omega) ?_
    exact hnext n2 g2 f2 sh2 sv2 bv2 nm4 gm4 _ _ _ hok2 hom4 (RW_cornerc hpr hrl2 hrl4) hP hD hS hl
  · skip
    have heq : r_1 = r_3 := hr_1.trans hr_3.symm
    exact absurd heq c_5

set_option maxHeartbeats 1000000 in
set_option maxRecDepth 100000 in
theorem law_op_11 {p : Program} {e : Env} {s : State} {m : MethodId} {below : List Frame} {meth : Method} {c : Code} (l : Launch) {b L : Nat} {xs : Nat → Int32} (C0 : lw_At p s m meth c b L xs) (hN : nW s) {D : va_G} {cI cO cZ : ClassId} (hK : va_K D vwCl [(cI, .int), (cO, .object "DotBench$Sheet"), (cZ, .boolean)] s) {ad am : Nat → Nat} (hL : L ≤ 5632) {i : Nat} (hi : 11 * i + 11 ≤ L) {n : Nat → Int32} {g : Nat → Nat → Int32} {f : Nat → Option Nat} {sh : Nat → Option Sh} {sv : Option Sp} {bv : Option Sh} {nm : Nat → Int32} {gm : Nat → Nat → Int32} (hok : okC n f sh) (hom : okM nm gm) (hpr : RW n g (fun k => vO (sh k)) nm gm) {H : Heap} {locs : List Loc} (hP : va_P D vwCl (cWld cI cO ad n g f sh sv bv ++ mWld cI cZ am nm gm) H) (hD : va_D (fun q : Nat => s.heap.size ≤ q) (cWld cI cO ad n g f sh sv bv ++ mWld cI cZ am nm gm)) (hS : va_S (fun q : Nat => s.heap.size ≤ q) s.heap H locs) {ls : Array Slot} (hl : lv_has ls 4 [(3, .int (nI (11 * i))), (2, .ref (am 0)), (1, .ref (ad 0)), (0, .ref b)]) (hnext : ∀ (n : Nat → Int32) (g : Nat → Nat → Int32) (f : Nat → Option Nat) (sh : Nat → Option Sh) (sv : Option Sp) (bv : Option Sh) (nm : Nat → Int32) (gm : Nat → Nat → Int32) (H : Heap) (locs : List Loc) (ls : Array Slot), okC n f sh → okM nm gm → RW n g (fun k => vO (sh k)) nm gm → va_P D vwCl (cWld cI cO ad n g f sh sv bv ++ mWld cI cZ am nm gm) H → va_D (fun q : Nat => s.heap.size ≤ q) (cWld cI cO ad n g f sh sv bv ++ mWld cI cZ am nm gm) → va_S (fun q : Nat => s.heap.size ≤ q) s.heap H locs → lv_has ls 4 [(3, .int (nI (11 * i))), (2, .ref (am 0)), (1, .ref (ad 0)), (0, .ref b)] → W p l e room_1 s m #[Value.ref b] below meth c H locs (36 + 4 * i + 4) (33710 + 8195 * i + 8195) (lw_Z below #[Value.ref b] s) (F0 m 1167 ls [])) : W p l e room_1 s m #[Value.ref b] below meth c H locs (36 + 4 * i) (33710 + 8195 * i) (lw_Z below #[Value.ref b] s) (F0 m 599 ls []) := by
  obtain ⟨hx, hb, hr, hml, hown, hts0, hX, hbl, hlocks, hgv⟩ := id C0
  have hts : ∀ w ∈ bigW, w.before #[Value.ref b] s = true := fun w h => hts0 w (bigW_in w h).1
  have hown : s.vm.findClass RL = some m.cls := hown
  have hA : ∀ q : Nat, s.heap.size ≤ q → (fun q : Nat => s.heap.size ≤ q) q := fun _ h => h
  have hbA : ¬ (fun q : Nat => s.heap.size ≤ q) b := Nat.not_le.mpr hbl
  refine lv_aload_n hx hb dL_law_599 rfl (lv_at hl 2 rfl) ?_
  refine lv_aload_n hx hb dL_law_600 rfl (lv_at hl 3 rfl) ?_
  refine lv_iload_n hx hb dL_law_601 rfl (lv_at hl 0 rfl) ?_
  refine lv_iconst (v := 1) hx hb dL_law_602 (by decide) ?_
  refine lv_iadd hx hb dL_law_603 ?_
  refine my_fold (v := nI (11 * i + 1)) (show nI (11 * i) + nI 1 = _ from nI_add _ _) ?_
  refine va_sld hx hb hX hbl hbA hS (i := nI (11 * i + 1)) (vp_in_nI (by omega) (by omega)) dL_law_604 ?_
  refine my_topv (v := .int (xs (11 * i + 1))) (by rw [nI_clamp (by omega)]) ?_
  have hPq : va_P D vwCl (cWld cI cO ad n g f sh sv bv ++ mWld cI cZ am nm gm) H := hP
  have hDq : va_D (fun q : Nat => s.heap.size ≤ q) (cWld cI cO ad n g f sh sv bv ++ mWld cI cZ am nm gm) := hD
  have hFc := free_left hDq hS hA
  have hKc := hK.sub (tys' := [(cI, .int), (cO, .object "DotBench$Sheet")]) [0, 1] rfl
  refine va_calli (va_runV (As := [.int (xs (11 * i + 1))]) (rest := []) ⟨hx, hb, hml, hown, hts⟩ (w_X8_shade l D H.size cI cO ad n g f sh sv bv hok (xs (11 * i + 1)) (rw_tb hpr hom)) (cwV 1 hts (gV bw_607 bw_302 bw_303 bw_223 bw_301) rfl rfl rfl (by decide +kernel) ⟨Nat.le_of_ble_eq_true rfl, Nat.le_of_ble_eq_true rfl⟩) ⟨cP_blind, va_recv hKc (P_left hPq) (ci := 8) (q0 := 0) rfl rfl, cP_at (P_left hPq) hKc (D_left hDq) hN⟩ rfl rfl hl.1 rfl (lv_room (Nat.le_of_ble_eq_true rfl)) dL_law_605 ⟨(show 36 + 4 * i + 0 ≤ 135154 by omega), (show 33710 + 8195 * i + 0 ≤ 8696788 by omega)⟩) hS (fun q _ h => hFc q h) hFc (fun r_1 u9 t9 H1 locs ht hvm hr_1 hB hz1 hk1 hS => ?_)
  obtain ⟨w1, ⟨n2, g2, f2, sh2, sv2, bv2, hok2, hrl2, rfl⟩, hP1, hD1⟩ := hB
  rw [ht] at hP1
  obtain ⟨hP, hD⟩ := my_joinM hPq hDq hk1 hFc hP1 hD1
  clear hz1 hk1 hFc hKc hPq hDq
  generalize H1 = H at hP hS ⊢
  have hP : va_P D vwCl (cWld cI cO ad n2 g2 f2 sh2 sv2 bv2 ++ mWld cI cZ am nm gm) H := hP
  have hD : va_D (fun q : Nat => s.heap.size ≤ q) (cWld cI cO ad n2 g2 f2 sh2 sv2 bv2 ++ mWld cI cZ am nm gm) := hD
  refine lv_aload_n hx hb dL_law_608 rfl (lv_at hl 1 rfl) ?_
  refine lv_aload_n hx hb dL_law_609 rfl (lv_at hl 3 rfl) ?_
  refine lv_iload_n hx hb dL_law_610 rfl (lv_at hl 0 rfl) ?_
  refine lv_iconst (v := 1) hx hb dL_law_611 (by decide) ?_
  refine lv_iadd hx hb dL_law_612 ?_
  refine my_fold (v := nI (11 * i + 1)) (show nI (11 * i) + nI 1 = _ from nI_add _ _) ?_
  refine va_sld hx hb hX hbl hbA hS (i := nI (11 * i + 1)) (vp_in_nI (by omega) (by omega)) dL_law_613 ?_
  refine my_topv (v := .int (xs (11 * i + 1))) (by rw [nI_clamp (by omega)]) ?_
  have hPq : va_P D vwCl (mWld cI cZ am nm gm ++ cWld cI cO ad n2 g2 f2 sh2 sv2 bv2) H := P_perm List.perm_append_comm hP
  have hDq : va_D (fun q : Nat => s.heap.size ≤ q) (mWld cI cZ am nm gm ++ cWld cI cO ad n2 g2 f2 sh2 sv2 bv2) := D_perm List.perm_append_comm hD
  have hFc := free_left hDq hS hA
  have hKc := hK.sub (tys' := [(cI, .int), (cZ, .boolean)]) [0, 2] rfl
  refine va_calli (va_runV (As := [.int (xs (11 * i + 1))]) (rest := [.int r_1]) ⟨hx, hb, hml, hown, hts⟩ (w_X9_shade l D H.size cI cZ am nm gm hom (xs (11 * i + 1))) (cwV 1 hts (gV bw_608 bw_540 bw_541 bw_391 bw_539) rfl rfl rfl (by decide +kernel) ⟨Nat.le_of_ble_eq_true rfl, Nat.le_of_ble_eq_true rfl⟩) ⟨cP_blind, va_recv hKc (P_left hPq) (ci := 9) (q0 := 0) rfl rfl, cP_at (P_left hPq) hKc (D_left hDq) hN⟩ rfl rfl hl.1 rfl (lv_room (Nat.le_of_ble_eq_true rfl)) dL_law_614 ⟨(show 36 + 4 * i + 0 + 0 ≤ 135154 by omega), (show 33710 + 8195 * i + 0 + 0 ≤ 8696788 by omega)⟩) hS (fun q _ h => hFc q h) hFc (fun r_3 u9 t9 H1 locs ht hvm hr_3 hB hz1 hk1 hS => ?_)
  obtain ⟨w1, ⟨nm4, gm4, hom4, hrl4, rfl⟩, hP1, hD1⟩ := hB
  rw [ht] at hP1
  obtain ⟨hP, hD⟩ := my_joinM hPq hDq hk1 hFc hP1 hD1
  have hP := P_perm (List.perm_append_comm (l₁ := mWld cI cZ am nm4 gm4) (l₂ := cWld cI cO ad n2 g2 f2 sh2 sv2 bv2)) hP
  have hD := D_perm (List.perm_append_comm (l₁ := mWld cI cZ am nm4 gm4) (l₂ := cWld cI cO ad n2 g2 f2 sh2 sv2 bv2)) hD
  clear hz1 hk1 hFc hKc hPq hDq
  generalize H1 = H at hP hS ⊢
  have hP : va_P D vwCl (cWld cI cO ad n2 g2 f2 sh2 sv2 bv2 ++ mWld cI cZ am nm4 gm4) H := hP
  have hD : va_D (fun q : Nat => s.heap.size ≤ q) (cWld cI cO ad n2 g2 f2 sh2 sv2 bv2 ++ mWld cI cZ am nm4 gm4) := hD
  refine lv_icmp_eq (tgt := 1167) hx hb dL_law_617 (by decide) (fun c_5 => ?_) (fun c_5 => ?_)
  · skip
    have f_6 : r_1.toInt = r_3.toInt := f_eq rfl rfl c_5
    refine W.widen (k := 36 + 4 * i + 4) (n := 33710 + 8195 * i + 8195) (by omega) (by omega) ?_
    exact hnext n2 g2 f2 sh2 sv2 bv2 nm4 gm4 _ _ _ hok2 hom4 (RW_c (sh_ok (k := xs (11 * i + 1)) hpr hok hom).2 hrl2 hrl4) hP hD hS hl
  · skip
    have heq : r_1 = r_3 := (hr_1.trans (sh_ok (k := xs (11 * i + 1)) hpr hok hom).1).trans hr_3.symm
    exact absurd heq c_5
