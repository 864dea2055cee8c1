set_option maxHeartbeats 1000000 in
set_option maxRecDepth 100000 in
theorem law_op_12 {p : Program} {e : Env} {s : State} {m : MethodId} {below : List Frame} {meth : Method} {c : Code} (l : Launch) {b L : Nat} {xs : Nat → Int32} (C0 : lw_At p s m meth c b L xs) (hN : nW s) {D : va_G} {cI cO cZ : ClassId} (hK : va_K D vwCl [(cI, .int), (cO, .object "DotBench$Sheet"), (cZ, .boolean)] s) {ad am : Nat → Nat} (hL : L ≤ 5632) {i : Nat} (hi : 11 * i + 11 ≤ L) {n : Nat → Int32} {g : Nat → Nat → Int32} {f : Nat → Option Nat} {sh : Nat → Option Sh} {sv : Option Sp} {bv : Option Sh} {nm : Nat → Int32} {gm : Nat → Nat → Int32} (hok : okC n f sh) (hom : okM nm gm) (hpr : RW n g (fun k => vO (sh k)) nm gm) {H : Heap} {locs : List Loc} (hP : va_P D vwCl (cWld cI cO ad n g f sh sv bv ++ mWld cI cZ am nm gm) H) (hD : va_D (fun q : Nat => s.heap.size ≤ q) (cWld cI cO ad n g f sh sv bv ++ mWld cI cZ am nm gm)) (hS : va_S (fun q : Nat => s.heap.size ≤ q) s.heap H locs) {ls : Array Slot} (hl : lv_has ls 4 [(3, .int (nI (11 * i))), (2, .ref (am 0)), (1, .ref (ad 0)), (0, .ref b)]) (hnext : ∀ (n : Nat → Int32) (g : Nat → Nat → Int32) (f : Nat → Option Nat) (sh : Nat → Option Sh) (sv : Option Sp) (bv : Option Sh) (nm : Nat → Int32) (gm : Nat → Nat → Int32) (H : Heap) (locs : List Loc) (ls : Array Slot), okC n f sh → okM nm gm → RW n g (fun k => vO (sh k)) nm gm → va_P D vwCl (cWld cI cO ad n g f sh sv bv ++ mWld cI cZ am nm gm) H → va_D (fun q : Nat => s.heap.size ≤ q) (cWld cI cO ad n g f sh sv bv ++ mWld cI cZ am nm gm) → va_S (fun q : Nat => s.heap.size ≤ q) s.heap H locs → lv_has ls 4 [(3, .int (nI (11 * i))), (2, .ref (am 0)), (1, .ref (ad 0)), (0, .ref b)] → W p l e room_1 s m #[Value.ref b] below meth c H locs (36 + 4 * i + 4) (33710 + 8195 * i + 8195) (lw_Z below #[Value.ref b] s) (F0 m 1167 ls [])) : W p l e room_1 s m #[Value.ref b] below meth c H locs (36 + 4 * i) (33710 + 8195 * i) (lw_Z below #[Value.ref b] s) (F0 m 622 ls []) := by
  obtain ⟨hx, hb, hr, hml, hown, hts0, hX, hbl, hlocks, hgv⟩ := id C0
  have hts : ∀ w ∈ bigW, w.before #[Value.ref b] s = true := fun w h => hts0 w (bigW_in w h).1
  have hown : s.vm.findClass RL = some m.cls := hown
  have hA : ∀ q : Nat, s.heap.size ≤ q → (fun q : Nat => s.heap.size ≤ q) q := fun _ h => h
  have hbA : ¬ (fun q : Nat => s.heap.size ≤ q) b := Nat.not_le.mpr hbl
  refine lv_aload_n hx hb dL_law_622 rfl (lv_at hl 2 rfl) ?_
  refine lv_aload_n hx hb dL_law_623 rfl (lv_at hl 3 rfl) ?_
  refine lv_iload_n hx hb dL_law_624 rfl (lv_at hl 0 rfl) ?_
  refine lv_iconst (v := 1) hx hb dL_law_625 (by decide) ?_
  refine lv_iadd hx hb dL_law_626 ?_
  refine my_fold (v := nI (11 * i + 1)) (show nI (11 * i) + nI 1 = _ from nI_add _ _) ?_
  refine va_sld hx hb hX hbl hbA hS (i := nI (11 * i + 1)) (vp_in_nI (by omega) (by omega)) dL_law_627 ?_
  refine my_topv (v := .int (xs (11 * i + 1))) (by rw [nI_clamp (by omega)]) ?_
  refine lv_aload_n hx hb dL_law_628 rfl (lv_at hl 3 rfl) ?_
  refine lv_iload_n hx hb dL_law_629 rfl (lv_at hl 0 rfl) ?_
  refine lv_iconst (v := 2) hx hb dL_law_630 (by decide) ?_
  refine lv_iadd hx hb dL_law_631 ?_
  refine my_fold (v := nI (11 * i + 2)) (show nI (11 * i) + nI 2 = _ from nI_add _ _) ?_
  refine va_sld hx hb hX hbl hbA hS (i := nI (11 * i + 2)) (vp_in_nI (by omega) (by omega)) dL_law_632 ?_
  refine my_topv (v := .int (xs (11 * i + 2))) (by rw [nI_clamp (by omega)]) ?_
  refine lv_aload_n hx hb dL_law_633 rfl (lv_at hl 3 rfl) ?_
  refine lv_iload_n hx hb dL_law_634 rfl (lv_at hl 0 rfl) ?_
  refine lv_iconst (v := 3) hx hb dL_law_635 (by decide) ?_
  refine lv_iadd hx hb dL_law_636 ?_
  refine my_fold (v := nI (11 * i + 3)) (show nI (11 * i) + nI 3 = _ from nI_add _ _) ?_
  refine va_sld hx hb hX hbl hbA hS (i := nI (11 * i + 3)) (vp_in_nI (by omega) (by omega)) dL_law_637 ?_
  refine my_topv (v := .int (xs (11 * i + 3))) (by rw [nI_clamp (by omega)]) ?_
  refine lv_aload_n hx hb dL_law_638 rfl (lv_at hl 3 rfl) ?_
  refine lv_iload_n hx hb dL_law_639 rfl (lv_at hl 0 rfl) ?_
  refine lv_iconst (v := 4) hx hb dL_law_640 (by decide) ?_
  refine lv_iadd hx hb dL_law_641 ?_
  refine my_fold (v := nI (11 * i + 4)) (show nI (11 * i) + nI 4 = _ from nI_add _ _) ?_
  refine va_sld hx hb hX hbl hbA hS (i := nI (11 * i + 4)) (vp_in_nI (by omega) (by omega)) dL_law_642 ?_
  refine my_topv (v := .int (xs (11 * i + 4))) (by rw [nI_clamp (by omega)]) ?_
  refine lv_if_eq (tgt := 650) hx hb dL_law_643 (by decide) (fun c_1 => ?_) (fun c_1 => ?_)
  · skip
    have f_2 : (xs (11 * i + 4)).toInt = 0 := f_eq rfl (by decide) c_1
    refine lv_iconst (v := 0) hx hb dL_law_650 (by decide) ?_
    have hPq : va_P D vwCl (cWld cI cO ad n g f sh sv bv ++ mWld cI cZ am nm gm) H := hP
    have hDq : va_D (fun q : Nat => s.heap.size ≤ q) (cWld cI cO ad n g f sh sv bv ++ mWld cI cZ am nm gm) := hD
    have hFc := free_left hDq hS hA
    have hKc := hK.sub (tys' := [(cI, .int), (cO, .object "DotBench$Sheet")]) [0, 1] rfl
    refine va_calli (va_runV (As := [.int (xs (11 * i + 1)), .int (xs (11 * i + 2)), .int (xs (11 * i + 3)), .int 0]) (rest := []) ⟨hx, hb, hml, hown, hts⟩ (w_X8_flood l D H.size cI cO ad n g f sh sv bv hok (xs (11 * i + 1)) (xs (11 * i + 2)) (xs (11 * i + 3)) 0) (cwV 4 hts (gV bw_609 bw_307 bw_308 bw_223 bw_306) rfl rfl rfl (by decide +kernel) ⟨Nat.le_of_ble_eq_true rfl, Nat.le_of_ble_eq_true rfl⟩) ⟨cP_blind, va_recv hKc (P_left hPq) (ci := 8) (q0 := 0) rfl rfl, cP_at (P_left hPq) hKc (D_left hDq) hN⟩ rfl rfl hl.1 rfl (lv_room (Nat.le_of_ble_eq_true rfl)) dL_law_651 ⟨(show 36 + 4 * i + 3 ≤ 135154 by omega), (show 33710 + 8195 * i + 8195 ≤ 8696788 by omega)⟩) hS (fun q _ h => hFc q h) hFc (fun r_3 u9 t9 H1 locs ht hvm hr_3 hB hz1 hk1 hS => ?_)
    obtain ⟨w1, ⟨n4, g4, f4, sh4, sv4, bv4, hok4, hrl4, rfl⟩, hP1, hD1⟩ := hB
    rw [ht] at hP1
    obtain ⟨hP, hD⟩ := my_joinM hPq hDq hk1 hFc hP1 hD1
    clear hz1 hk1 hFc hKc hPq hDq
    generalize H1 = H at hP hS ⊢
    have hP : va_P D vwCl (cWld cI cO ad n4 g4 f4 sh4 sv4 bv4 ++ mWld cI cZ am nm gm) H := hP
    have hD : va_D (fun q : Nat => s.heap.size ≤ q) (cWld cI cO ad n4 g4 f4 sh4 sv4 bv4 ++ mWld cI cZ am nm gm) := hD
    refine lv_aload_n hx hb dL_law_654 rfl (lv_at hl 1 rfl) ?_
    refine lv_aload_n hx hb dL_law_655 rfl (lv_at hl 3 rfl) ?_
    refine lv_iload_n hx hb dL_law_656 rfl (lv_at hl 0 rfl) ?_
    refine lv_iconst (v := 1) hx hb dL_law_657 (by decide) ?_
    refine lv_iadd hx hb dL_law_658 ?_
    refine my_fold (v := nI (11 * i + 1)) (show nI (11 * i) + nI 1 = _ from nI_add _ _) ?_
    refine va_sld hx hb hX hbl hbA hS (i := nI (11 * i + 1)) (vp_in_nI (by omega) (by omega)) dL_law_659 ?_
    refine my_topv (v := .int (xs (11 * i + 1))) (by rw [nI_clamp (by omega)]) ?_
    refine lv_aload_n hx hb dL_law_660 rfl (lv_at hl 3 rfl) ?_
    refine lv_iload_n hx hb dL_law_661 rfl (lv_at hl 0 rfl) ?_
    refine lv_iconst (v := 2) hx hb dL_law_662 (by decide) ?_
    refine lv_iadd hx hb dL_law_663 ?_
    refine my_fold (v := nI (11 * i + 2)) (show nI (11 * i) + nI 2 = _ from nI_add _ _) ?_
    refine va_sld hx hb hX hbl hbA hS (i := nI (11 * i + 2)) (vp_in_nI (by omega) (by omega)) dL_law_664 ?_
    refine my_topv (v := .int (xs (11 * i + 2))) (by rw [nI_clamp (by omega)]) ?_
    refine lv_aload_n hx hb dL_law_665 rfl (lv_at hl 3 rfl) ?_
    refine lv_iload_n hx hb dL_law_666 rfl (lv_at hl 0 rfl) ?_
    refine lv_iconst (v := 3) hx hb dL_law_667 (by decide) ?_
    refine lv_iadd hx hb dL_law_668 ?_
    refine my_fold (v := nI (11 * i + 3)) (show nI (11 * i) + nI 3 = _ from nI_add _ _) ?_
    refine va_sld hx hb hX hbl hbA hS (i := nI (11 * i + 3)) (vp_in_nI (by omega) (by omega)) dL_law_669 ?_
    refine my_topv (v := .int (xs (11 * i + 3))) (by rw [nI_clamp (by omega)]) ?_
    refine lv_aload_n hx hb dL_law_670 rfl (lv_at hl 3 rfl) ?_
    refine lv_iload_n hx hb dL_law_671 rfl (lv_at hl 0 rfl) ?_
    refine lv_iconst (v := 4) hx hb dL_law_672 (by decide) ?_
    refine lv_iadd hx hb dL_law_673 ?_
    refine my_fold (v := nI (11 * i + 4)) (show nI (11 * i) + nI 4 = _ from nI_add _ _) ?_
    refine va_sld hx hb hX hbl hbA hS (i := nI (11 * i + 4)) (vp_in_nI (by omega) (by omega)) dL_law_674 ?_
    refine my_topv (v := .int (xs (11 * i + 4))) (by rw [nI_clamp (by omega)]) ?_
    refine lv_if_eq (tgt := 682) hx hb dL_law_675 (by decide) (fun c_5 => ?_) (fun c_5 => ?_)
    · skip
      have f_6 : (xs (11 * i + 4)).toInt = 0 := f_eq rfl (by decide) c_5
      refine lv_iconst (v := 0) hx hb dL_law_682 (by decide) ?_
      have hPq : va_P D vwCl (mWld cI cZ am nm gm ++ cWld cI cO ad n4 g4 f4 sh4 sv4 bv4) H := P_perm List.perm_append_comm hP
      have hDq : va_D (fun q : Nat => s.heap.size ≤ q) (mWld cI cZ am nm gm ++ cWld cI cO ad n4 g4 f4 sh4 sv4 bv4) := D_perm List.perm_append_comm hD
      have hFc := free_left hDq hS hA
      have hKc := hK.sub (tys' := [(cI, .int), (cZ, .boolean)]) [0, 2] rfl
      refine va_calli (va_runV (As := [.int (xs (11 * i + 1)), .int (xs (11 * i + 2)), .int (xs (11 * i + 3)), .int 0]) (rest := [.int r_3]) ⟨hx, hb, hml, hown, hts⟩ (w_X9_flood l D H.size cI cZ am nm gm hom (xs (11 * i + 1)) (xs (11 * i + 2)) (xs (11 * i + 3)) 0) (cwV 4 hts (gV bw_610 bw_553 bw_554 bw_391 bw_552) rfl rfl rfl (by decide +kernel) ⟨Nat.le_of_ble_eq_true rfl, Nat.le_of_ble_eq_true rfl⟩) ⟨cP_blind, va_recv hKc (P_left hPq) (ci := 9) (q0 := 0) rfl rfl, cP_at (P_left hPq) hKc (D_left hDq) hN⟩ rfl rfl hl.1 rfl (lv_room (Nat.le_of_ble_eq_true rfl)) dL_law_683 ⟨(show 36 + 4 * i + 3 + 0 ≤ 135154 by omega), (show 33710 + 8195 * i + 8195 + 0 ≤ 8696788 by omega)⟩) hS (fun q _ h => hFc q h) hFc (fun r_7 u9 t9 H1 locs ht hvm hr_7 hB hz1 hk1 hS => ?_)
      obtain ⟨w1, ⟨nm8, gm8, hom8, hrl8, rfl⟩, hP1, hD1⟩ := hB
      rw [ht] at hP1
      obtain ⟨hP, hD⟩ := my_joinM hPq hDq hk1 hFc hP1 hD1
      have hP := P_perm (List.perm_append_comm (l₁ := mWld cI cZ am nm8 gm8) (l₂ := cWld cI cO ad n4 g4 f4 sh4 sv4 bv4)) hP
      have hD := D_perm (List.perm_append_comm (l₁ := mWld cI cZ am nm8 gm8) (l₂ := cWld cI cO ad n4 g4 f4 sh4 sv4 bv4)) hD
      clear hz1 hk1 hFc hKc hPq hDq
      generalize H1 = H at hP hS ⊢
      have hP : va_P D vwCl (cWld cI cO ad n4 g4 f4 sh4 sv4 bv4 ++ mWld cI cZ am nm8 gm8) H := hP
      have hD : va_D (fun q : Nat => s.heap.size ≤ q) (cWld cI cO ad n4 g4 f4 sh4 sv4 bv4 ++ mWld cI cZ am nm8 gm8) := hD
      refine lv_icmp_eq (tgt := 1167) hx hb dL_law_686 (by decide) (fun c_9 => ?_) (fun c_9 => ?_)
      · skip
        have f_10 : r_3.toInt = r_7.toInt := f_eq rfl rfl c_9
        refine W.widen (k := 36 + 4 * i + 4) (n := 33710 + 8195 * i + 8195) (by omega) (by omega) ?_
        exact hnext n4 g4 f4 sh4 sv4 bv4 nm8 gm8 _ _ _ hok4 hom8 (RW_c (fd_ok (k := xs (11 * i + 1)) (x := xs (11 * i + 2)) (y := xs (11 * i + 3)) (co := 0) hpr hok hom).2 hrl4 hrl8) hP hD hS hl
      · skip
        have heq : r_3 = r_7 := (hr_3.trans (fd_ok (k := xs (11 * i + 1)) (x := xs (11 * i + 2)) (y := xs (11 * i + 3)) (co := 0) hpr hok hom).1).trans hr_7.symm
        exact absurd heq c_9
    · skip
      exact absurd c_1 c_5
  · skip
    have f_2 : ¬ ((xs (11 * i + 4)).toInt = 0) := fn_eq rfl (by decide) c_1
    refine lv_iconst (v := 1) hx hb dL_law_646 (by decide) ?_
    refine lv_goto (tgt := 651) hx hb dL_law_647 (by decide) ?_
    have hPq : va_P D vwCl (cWld cI cO ad n g f sh sv bv ++ mWld cI cZ am nm gm) H := hP
    have hDq : va_D (fun q : Nat => s.heap.size ≤ q) (cWld cI cO ad n g f sh sv bv ++ mWld cI cZ am nm gm) := hD
    have hFc := free_left hDq hS hA
    have hKc := hK.sub (tys' := [(cI, .int), (cO, .object "DotBench$Sheet")]) [0, 1] rfl
    refine va_calli (va_runV (As := [.int (xs (11 * i + 1)), .int (xs (11 * i + 2)), .int (xs (11 * i + 3)), .int 1]) (rest := []) ⟨hx, hb, hml, hown, hts⟩ (w_X8_flood l D H.size cI cO ad n g f sh sv bv hok (xs (11 * i + 1)) (xs (11 * i + 2)) (xs (11 * i + 3)) 1) (cwV 4 hts (gV bw_609 bw_307 bw_308 bw_223 bw_306) rfl rfl rfl (by decide +kernel) ⟨Nat.le_of_ble_eq_true rfl, Nat.le_of_ble_eq_true rfl⟩) ⟨cP_blind, va_recv hKc (P_left hPq) (ci := 8) (q0 := 0) rfl rfl, cP_at (P_left hPq) hKc (D_left hDq) hN⟩ rfl rfl hl.1 rfl (lv_room (Nat.le_of_ble_eq_true rfl)) dL_law_651 ⟨(show 36 + 4 * i + 3 ≤ 135154 by omega), (show 33710 + 8195 * i + 8195 ≤ 8696788 by omega)⟩) hS (fun q _ h => hFc q h) hFc (fun r_11 u9 t9 H1 locs ht hvm hr_11 hB hz1 hk1 hS => ?_)
    obtain ⟨w1, ⟨n12, g12, f12, sh12, sv12, bv12, hok12, hrl12, rfl⟩, hP1, hD1⟩ := hB
    rw [ht] at hP1
    obtain ⟨hP, hD⟩ := my_joinM hPq hDq hk1 hFc hP1 hD1
    clear hz1 hk1 hFc hKc hPq hDq
    generalize H1 = H at hP hS ⊢
    have hP : va_P D vwCl (cWld cI cO ad n12 g12 f12 sh12 sv12 bv12 ++ mWld cI cZ am nm gm) H := hP
    have hD : va_D (fun q : Nat => s.heap.size ≤ q) (cWld cI cO ad n12 g12 f12 sh12 sv12 bv12 ++ mWld cI cZ am nm gm) := hD
    refine lv_aload_n hx hb dL_law_654 rfl (lv_at hl 1 rfl) ?_
    refine lv_aload_n hx hb dL_law_655 rfl (lv_at hl 3 rfl) ?_
    refine lv_iload_n hx hb dL_law_656 rfl (lv_at hl 0 rfl) ?_
    refine lv_iconst (v := 1) hx hb dL_law_657 (by decide) ?_
    refine lv_iadd hx hb dL_law_658 ?_
    refine my_fold (v := nI (11 * i + 1)) (show nI (11 * i) + nI 1 = _ from nI_add _ _) ?_
    refine va_sld hx hb hX hbl hbA hS (i := nI (11 * i + 1)) (vp_in_nI (by omega) (by omega)) dL_law_659 ?_
    refine my_topv (v := .int (xs (11 * i + 1))) (by rw [nI_clamp (by omega)]) ?_
    refine lv_aload_n hx hb dL_law_660 rfl (lv_at hl 3 rfl) ?_
    refine lv_iload_n hx hb dL_law_661 rfl (lv_at hl 0 rfl) ?_
    refine lv_iconst (v := 2) hx hb dL_law_662 (by decide) ?_
    refine lv_iadd hx hb dL_law_663 ?_
    refine my_fold (v := nI (11 * i + 2)) (show nI (11 * i) + nI 2 = _ from nI_add _ _) ?_
    refine va_sld hx hb hX hbl hbA hS (i := nI (11 * i + 2)) (vp_in_nI (by omega) (by omega)) dL_law_664 ?_
    refine my_topv (v := .int (xs (11 * i + 2))) (by rw [nI_clamp (by omega)]) ?_
    refine lv_aload_n hx hb dL_law_665 rfl (lv_at hl 3 rfl) ?_
    refine lv_iload_n hx hb dL_law_666 rfl (lv_at hl 0 rfl) ?_
    refine lv_iconst (v := 3) hx hb dL_law_667 (by decide) ?_
    refine lv_iadd hx hb dL_law_668 ?_
    refine my_fold (v := nI (11 * i + 3)) (show nI (11 * i) + nI 3 = _ from nI_add _ _) ?_
    refine va_sld hx hb hX hbl hbA hS (i := nI (11 * i + 3)) (vp_in_nI (by omega) (by omega)) dL_law_669 ?_
    refine my_topv (v := .int (xs (11 * i + 3))) (by rw [nI_clamp (by omega)]) ?_
    refine lv_aload_n hx hb dL_law_670 rfl (lv_at hl 3 rfl) ?_
    refine lv_iload_n hx hb dL_law_671 rfl (lv_at hl 0 rfl) ?_
    refine lv_iconst (v := 4) hx hb dL_law_672 (by decide) ?_
    refine lv_iadd hx hb dL_law_673 ?_
    refine my_fold (v := nI (11 * i + 4)) (show nI (11 * i) + nI 4 = _ from nI_add _ _) ?_
    refine va_sld hx hb hX hbl hbA hS (i := nI (11 * i + 4)) (vp_in_nI (by omega) (by omega)) dL_law_674 ?_
    refine my_topv (v := .int (xs (11 * i + 4))) (by rw [nI_clamp (by omega)]) ?_
    refine lv_if_eq (tgt := 682) hx hb dL_law_675 (by decide) (fun c_13 => ?_) (fun c_13 => ?_)
    · skip
      exact absurd c_13 c_1
    · skip
      have f_14 : ¬ ((xs (11 * i + 4)).toInt = 0) := fn_eq rfl (by decide) c_13
      refine lv_iconst (v := 1) hx hb dL_law_678 (by decide) ?_
      refine lv_goto (tgt := 683) hx hb dL_law_679 (by decide) ?_
      have hPq : va_P D vwCl (mWld cI cZ am nm gm ++ cWld cI cO ad n12 g12 f12 sh12 sv12 bv12) H := P_perm List.perm_append_comm hP
      have hDq : va_D (fun q : Nat => s.heap.size ≤ q) (mWld cI cZ am nm gm ++ cWld cI cO ad n12 g12 f12 sh12 sv12 bv12) := D_perm List.perm_append_comm hD
      have hFc := free_left hDq hS hA
      have hKc := hK.sub (tys' := [(cI, .int), (cZ, .boolean)]) [0, 2] rfl
      refine va_calli (va_runV (As := [.int (xs (11 * i + 1)), .int (xs (11 * i + 2)), .int (xs (11 * i + 3)), .int 1]) (rest := [.int r_11]) ⟨hx, hb, hml, hown, hts⟩ (w_X9_flood l D H.size cI cZ am nm gm hom (xs (11 * i + 1)) (xs (11 * i + 2)) (xs (11 * i + 3)) 1) (cwV 4 hts (gV bw_610 bw_553 bw_554 bw_391 bw_552) rfl rfl rfl (by decide +kernel) ⟨Nat.le_of_ble_eq_true rfl, Nat.le_of_ble_eq_true rfl⟩) ⟨cP_blind, va_recv hKc (P_left hPq) (ci := 9) (q0 := 0) rfl rfl, cP_at (P_left hPq) hKc (D_left hDq) hN⟩ rfl rfl hl.1 rfl (lv_room (Nat.le_of_ble_eq_true rfl)) dL_law_683 ⟨(show 36 + 4 * i + 3 + 0 ≤ 135154 by omega), (show 33710 + 8195 * i + 8195 + 0 ≤ 8696788 by omega)⟩) hS (fun q _ h => hFc q h) hFc (fun r_15 u9 t9 H1 locs ht hvm hr_15 hB hz1 hk1 hS => ?_)
      obtain ⟨w1, ⟨nm16, gm16, hom16, hrl16, rfl⟩, hP1, hD1⟩ := hB
      rw [ht] at hP1
      obtain ⟨hP, hD⟩ := my_joinM hPq hDq hk1 hFc hP1 hD1
      have hP := P_perm (List.perm_append_comm (l₁ := mWld cI cZ am nm16 gm16) (l₂ := cWld cI cO ad n12 g12 f12 sh12 sv12 bv12)) hP
      have hD := D_perm (List.perm_append_comm (l₁ := mWld cI cZ am nm16 gm16) (l₂ := cWld cI cO ad n12 g12 f12 sh12 sv12 bv12)) hD
      clear hz1 hk1 hFc hKc hPq hDq
      generalize H1 = H at hP hS ⊢
      have hP : va_P D vwCl (cWld cI cO ad n12 g12 f12 sh12 sv12 bv12 ++ mWld cI cZ am nm16 gm16) H := hP
      have hD : va_D (fun q : Nat => s.heap.size ≤ q) (cWld cI cO ad n12 g12 f12 sh12 sv12 bv12 ++ mWld cI cZ am nm16 gm16) := hD
      refine lv_icmp_eq (tgt := 1167) hx hb dL_law_686 (by decide) (fun c_17 => ?_) (fun c_17 => ?_)
      · skip
        have f_18 : r_11.toInt = r_15.toInt := f_eq rfl rfl c_17
        refine W.widen (k := 36 + 4 * i + 4) (n := 33710 + 8195 * i + 8195) (by omega) (by omega) ?_
        exact hnext n12 g12 f12 sh12 sv12 bv12 nm16 gm16 _ _ _ hok12 hom16 (RW_c (fd_ok (k := xs (11 * i + 1)) (x := xs (11 * i + 2)) (y := xs (11 * i + 3)) (co := 1) hpr hok hom).2 hrl12 hrl16) hP hD hS hl
      · skip
        have heq : r_11 = r_15 := (hr_11.trans (fd_ok (k := xs (11 * i + 1)) (x := xs (11 * i + 2)) (y := xs (11 * i + 3)) (co := 1) hpr hok hom).1).trans hr_15.symm
        exact absurd heq c_17

set_option maxHeartbeats 1000000 in
set_option maxRecDepth 100000 in
theorem law_op_13 {p : Program} {e : Env} {s : State} {m : MethodId} {below : List Frame} {meth : Method} {c : Code} (l : Launch) {b L : Nat} {xs : Nat → Int32} (C0 : lw_At p s m meth c b L xs) (hN : nW s) {D : va_G} {cI cO cZ : ClassId} (hK : va_K D vwCl [(cI, .int), (cO, .object "DotBench$Sheet"), (cZ, .boolean)] s) {ad am : Nat → Nat} (hL : L ≤ 5632) {i : Nat} (hi : 11 * i + 11 ≤ L) {n : Nat → Int32} {g : Nat → Nat → Int32} {f : Nat → Option Nat} {sh : Nat → Option Sh} {sv : Option Sp} {bv : Option Sh} {nm : Nat → Int32} {gm : Nat → Nat → Int32} (hok : okC n f sh) (hom : okM nm gm) (hpr : RW n g (fun k => vO (sh k)) nm gm) {H : Heap} {locs : List Loc} (hP : va_P D vwCl (cWld cI cO ad n g f sh sv bv ++ mWld cI cZ am nm gm) H) (hD : va_D (fun q : Nat => s.heap.size ≤ q) (cWld cI cO ad n g f sh sv bv ++ mWld cI cZ am nm gm)) (hS : va_S (fun q : Nat => s.heap.size ≤ q) s.heap H locs) {ls : Array Slot} (hl : lv_has ls 4 [(3, .int (nI (11 * i))), (2, .ref (am 0)), (1, .ref (ad 0)), (0, .ref b)]) (hnext : ∀ (n : Nat → Int32) (g : Nat → Nat → Int32) (f : Nat → Option Nat) (sh : Nat → Option Sh) (sv : Option Sp) (bv : Option Sh) (nm : Nat → Int32) (gm : Nat → Nat → Int32) (H : Heap) (locs : List Loc) (ls : Array Slot), okC n f sh → okM nm gm → RW n g (fun k => vO (sh k)) nm gm → va_P D vwCl (cWld cI cO ad n g f sh sv bv ++ mWld cI cZ am nm gm) H → va_D (fun q : Nat => s.heap.size ≤ q) (cWld cI cO ad n g f sh sv bv ++ mWld cI cZ am nm gm) → va_S (fun q : Nat => s.heap.size ≤ q) s.heap H locs → lv_has ls 4 [(3, .int (nI (11 * i))), (2, .ref (am 0)), (1, .ref (ad 0)), (0, .ref b)] → W p l e room_1 s m #[Value.ref b] below meth c H locs (36 + 4 * i + 4) (33710 + 8195 * i + 8195) (lw_Z below #[Value.ref b] s) (F0 m 1167 ls [])) : W p l e room_1 s m #[Value.ref b] below meth c H locs (36 + 4 * i) (33710 + 8195 * i) (lw_Z below #[Value.ref b] s) (F0 m 691 ls []) := by
  obtain ⟨hx, hb, hr, hml, hown, hts0, hX, hbl, hlocks, hgv⟩ := id C0
  have hts : ∀ w ∈ bigW, w.before #[Value.ref b] s = true := fun w h => hts0 w (bigW_in w h).1
  have hown : s.vm.findClass RL = some m.cls := hown
  have hA : ∀ q : Nat, s.heap.size ≤ q → (fun q : Nat => s.heap.size ≤ q) q := fun _ h => h
  have hbA : ¬ (fun q : Nat => s.heap.size ≤ q) b := Nat.not_le.mpr hbl
  refine lv_aload_n hx hb dL_law_691 rfl (lv_at hl 2 rfl) ?_
  refine lv_aload_n hx hb dL_law_692 rfl (lv_at hl 3 rfl) ?_
  refine lv_iload_n hx hb dL_law_693 rfl (lv_at hl 0 rfl) ?_
  refine lv_iconst (v := 1) hx hb dL_law_694 (by decide) ?_
  refine lv_iadd hx hb dL_law_695 ?_
  refine my_fold (v := nI (11 * i + 1)) (show nI (11 * i) + nI 1 = _ from nI_add _ _) ?_
  refine va_sld hx hb hX hbl hbA hS (i := nI (11 * i + 1)) (vp_in_nI (by omega) (by omega)) dL_law_696 ?_
  refine my_topv (v := .int (xs (11 * i + 1))) (by rw [nI_clamp (by omega)]) ?_
  refine lv_aload_n hx hb dL_law_697 rfl (lv_at hl 3 rfl) ?_
  refine lv_iload_n hx hb dL_law_698 rfl (lv_at hl 0 rfl) ?_
  refine lv_iconst (v := 2) hx hb dL_law_699 (by decide) ?_
  refine lv_iadd hx hb dL_law_700 ?_
  refine my_fold (v := nI (11 * i + 2)) (show nI (11 * i) + nI 2 = _ from nI_add _ _) ?_
  refine va_sld hx hb hX hbl hbA hS (i := nI (11 * i + 2)) (vp_in_nI (by omega) (by omega)) dL_law_701 ?_
  refine my_topv (v := .int (xs (11 * i + 2))) (by rw [nI_clamp (by omega)]) ?_
  refine lv_aload_n hx hb dL_law_702 rfl (lv_at hl 3 rfl) ?_
  refine lv_iload_n hx hb dL_law_703 rfl (lv_at hl 0 rfl) ?_
  refine lv_iconst (v := 3) hx hb dL_law_704 (by decide) ?_
  refine lv_iadd hx hb dL_law_705 ?_
  refine my_fold (v := nI (11 * i + 3)) (show nI (11 * i) + nI 3 = _ from nI_add _ _) ?_
  refine va_sld hx hb hX hbl hbA hS (i := nI (11 * i + 3)) (vp_in_nI (by omega) (by omega)) dL_law_706 ?_
  refine my_topv (v := .int (xs (11 * i + 3))) (by rw [nI_clamp (by omega)]) ?_
  refine lv_aload_n hx hb dL_law_707 rfl (lv_at hl 3 rfl) ?_
  refine lv_iload_n hx hb dL_law_708 rfl (lv_at hl 0 rfl) ?_
  refine lv_iconst (v := 4) hx hb dL_law_709 (by decide) ?_
  refine lv_iadd hx hb dL_law_710 ?_
  refine my_fold (v := nI (11 * i + 4)) (show nI (11 * i) + nI 4 = _ from nI_add _ _) ?_
  refine va_sld hx hb hX hbl hbA hS (i := nI (11 * i + 4)) (vp_in_nI (by omega) (by omega)) dL_law_711 ?_
  refine my_topv (v := .int (xs (11 * i + 4))) (by rw [nI_clamp (by omega)]) ?_
  refine lv_aload_n hx hb dL_law_712 rfl (lv_at hl 3 rfl) ?_
  refine lv_iload_n hx hb dL_law_713 rfl (lv_at hl 0 rfl) ?_
  refine lv_iconst (v := 5) hx hb dL_law_714 (by decide) ?_
  refine lv_iadd hx hb dL_law_715 ?_
  refine my_fold (v := nI (11 * i + 5)) (show nI (11 * i) + nI 5 = _ from nI_add _ _) ?_
  refine va_sld hx hb hX hbl hbA hS (i := nI (11 * i + 5)) (vp_in_nI (by omega) (by omega)) dL_law_716 ?_
  refine my_topv (v := .int (xs (11 * i + 5))) (by rw [nI_clamp (by omega)]) ?_
  refine lv_aload_n hx hb dL_law_717 rfl (lv_at hl 3 rfl) ?_
  refine lv_iload_n hx hb dL_law_718 rfl (lv_at hl 0 rfl) ?_
  refine lv_bipush (v := 6) hx hb dL_law_719 (by decide) ?_
  refine lv_iadd hx hb dL_law_721 ?_
  refine my_fold (v := nI (11 * i + 6)) (show nI (11 * i) + nI 6 = _ from nI_add _ _) ?_
  refine va_sld hx hb hX hbl hbA hS (i := nI (11 * i + 6)) (vp_in_nI (by omega) (by omega)) dL_law_722 ?_
  refine my_topv (v := .int (xs (11 * i + 6))) (by rw [nI_clamp (by omega)]) ?_
  refine lv_aload_n hx hb dL_law_723 rfl (lv_at hl 3 rfl) ?_
  refine lv_iload_n hx hb dL_law_724 rfl (lv_at hl 0 rfl) ?_
  refine lv_bipush (v := 7) hx hb dL_law_725 (by decide) ?_
  refine lv_iadd hx hb dL_law_727 ?_
  refine my_fold (v := nI (11 * i + 7)) (show nI (11 * i) + nI 7 = _ from nI_add _ _) ?_
  refine va_sld hx hb hX hbl hbA hS (i := nI (11 * i + 7)) (vp_in_nI (by omega) (by omega)) dL_law_728 ?_
  refine my_topv (v := .int (xs (11 * i + 7))) (by rw [nI_clamp (by omega)]) ?_
  refine lv_aload_n hx hb dL_law_729 rfl (lv_at hl 3 rfl) ?_
  refine lv_iload_n hx hb dL_law_730 rfl (lv_at hl 0 rfl) ?_
  refine lv_bipush (v := 8) hx hb dL_law_731 (by decide) ?_
  refine lv_iadd hx hb dL_law_733 ?_
  refine my_fold (v := nI (11 * i + 8)) (show nI (11 * i) + nI 8 = _ from nI_add _ _) ?_
  refine va_sld hx hb hX hbl hbA hS (i := nI (11 * i + 8)) (vp_in_nI (by omega) (by omega)) dL_law_734 ?_
  refine my_topv (v := .int (xs (11 * i + 8))) (by rw [nI_clamp (by omega)]) ?_
  have hPq : va_P D vwCl (cWld cI cO ad n g f sh sv bv ++ mWld cI cZ am nm gm) H := hP
  have hDq : va_D (fun q : Nat => s.heap.size ≤ q) (cWld cI cO ad n g f sh sv bv ++ mWld cI cZ am nm gm) := hD
  have hFc := free_left hDq hS hA
  have hKc := hK.sub (tys' := [(cI, .int), (cO, .object "DotBench$Sheet")]) [0, 1] rfl
  refine va_calli (va_runV (As := [.int (xs (11 * i + 1)), .int (xs (11 * i + 2)), .int (xs (11 * i + 3)), .int (xs (11 * i + 4)), .int (xs (11 * i + 5)), .int (xs (11 * i + 6)), .int (xs (11 * i + 7)), .int (xs (11 * i + 8))]) (rest := []) ⟨hx, hb, hml, hown, hts⟩ (w_X8_copy l D H.size cI cO ad n g f sh sv bv hok (xs (11 * i + 1)) (xs (11 * i + 2)) (xs (11 * i + 3)) (xs (11 * i + 4)) (xs (11 * i + 5)) (xs (11 * i + 6)) (xs (11 * i + 7)) (xs (11 * i + 8))) (cwV 8 hts (gV bw_611 bw_314 bw_315 bw_223 bw_313) rfl rfl rfl (by decide +kernel) ⟨Nat.le_of_ble_eq_true rfl, Nat.le_of_ble_eq_true rfl⟩) ⟨cP_blind, va_recv hKc (P_left hPq) (ci := 8) (q0 := 0) rfl rfl, cP_at (P_left hPq) hKc (D_left hDq) hN⟩ rfl rfl hl.1 rfl (lv_room (Nat.le_of_ble_eq_true rfl)) dL_law_735 ⟨(show 36 + 4 * i + 4 ≤ 135154 by omega), (show 33710 + 8195 * i + 4107 ≤ 8696788 by omega)⟩) hS (fun q _ h => hFc q h) hFc (fun r_1 u9 t9 H1 locs ht hvm hr_1 hB hz1 hk1 hS => ?_)
  obtain ⟨w1, ⟨n2, g2, f2, sh2, sv2, bv2, hok2, hrl2, rfl⟩, hP1, hD1⟩ := hB
  rw [ht] at hP1
  obtain ⟨hP, hD⟩ := my_joinM hPq hDq hk1 hFc hP1 hD1
  clear hz1 hk1 hFc hKc hPq hDq
  generalize H1 = H at hP hS ⊢
  have hP : va_P D vwCl (cWld cI cO ad n2 g2 f2 sh2 sv2 bv2 ++ mWld cI cZ am nm gm) H := hP
  have hD : va_D (fun q : Nat => s.heap.size ≤ q) (cWld cI cO ad n2 g2 f2 sh2 sv2 bv2 ++ mWld cI cZ am nm gm) := hD
  refine lv_aload_n hx hb dL_law_738 rfl (lv_at hl 1 rfl) ?_
  refine lv_aload_n hx hb dL_law_739 rfl (lv_at hl 3 rfl) ?_
  refine lv_iload_n hx hb dL_law_740 rfl (lv_at hl 0 rfl) ?_
  refine lv_iconst (v := 1) hx hb dL_law_741 (by decide) ?_
  refine lv_iadd hx hb dL_law_742 ?_
  refine my_fold (v := nI (11 * i + 1)) (show nI (11 * i) + nI 1 = _ from nI_add _ _) ?_
  refine va_sld hx hb hX hbl hbA hS (i := nI (11 * i + 1)) (vp_in_nI (by omega) (by omega)) dL_law_743 ?_
  refine my_topv (v := .int (xs (11 * i + 1))) (by rw [nI_clamp (by omega)]) ?_
  refine lv_aload_n hx hb dL_law_744 rfl (lv_at hl 3 rfl) ?_
  refine lv_iload_n hx hb dL_law_745 rfl (lv_at hl 0 rfl) ?_
  refine lv_iconst (v := 2) hx hb dL_law_746 (by decide) ?_
  refine lv_iadd hx hb dL_law_747 ?_
  refine my_fold (v := nI (11 * i + 2)) (show nI (11 * i) + nI 2 = _ from nI_add _ _) ?_
  refine va_sld hx hb hX hbl hbA hS (i := nI (11 * i + 2)) (vp_in_nI (by omega) (by omega)) dL_law_748 ?_
  refine my_topv (v := .int (xs (11 * i + 2))) (by rw [nI_clamp (by omega)]) ?_
  refine lv_aload_n hx hb dL_law_749 rfl (lv_at hl 3 rfl) ?_
  refine lv_iload_n hx hb dL_law_750 rfl (lv_at hl 0 rfl) ?_
  refine lv_iconst (v := 3) hx hb dL_law_751 (by decide) ?_
  refine lv_iadd hx hb dL_law_752 ?_
  refine my_fold (v := nI (11 * i + 3)) (show nI (11 * i) + nI 3 = _ from nI_add _ _) ?_
  refine va_sld hx hb hX hbl hbA hS (i := nI (11 * i + 3)) (vp_in_nI (by omega) (by omega)) dL_law_753 ?_
  refine my_topv (v := .int (xs (11 * i + 3))) (by rw [nI_clamp (by omega)]) ?_
  refine lv_aload_n hx hb dL_law_754 rfl (lv_at hl 3 rfl) ?_
  refine lv_iload_n hx hb dL_law_755 rfl (lv_at hl 0 rfl) ?_
  refine lv_iconst (v := 4) hx hb dL_law_756 (by decide) ?_
  refine lv_iadd hx hb dL_law_757 ?_
  refine my_fold (v := nI (11 * i + 4)) (show nI (11 * i) + nI 4 = _ from nI_add _ _) ?_
  refine va_sld hx hb hX hbl hbA hS (i := nI (11 * i + 4)) (vp_in_nI (by omega) (by omega)) dL_law_758 ?_
  refine my_topv (v := .int (xs (11 * i + 4))) (by rw [nI_clamp (by omega)]) ?_
  refine lv_aload_n hx hb dL_law_759 rfl (lv_at hl 3 rfl) ?_
  refine lv_iload_n hx hb dL_law_760 rfl (lv_at hl 0 rfl) ?_
  refine lv_iconst (v := 5) hx hb dL_law_761 (by decide) ?_
  refine lv_iadd hx hb dL_law_762 ?_
  refine my_fold (v := nI (11 * i + 5)) (show nI (11 * i) + nI 5 = _ from nI_add _ _) ?_
  refine va_sld hx hb hX hbl hbA hS (i := nI (11 * i + 5)) (vp_in_nI (by omega) (by omega)) dL_law_763 ?_
  refine my_topv (v := .int (xs (11 * i + 5))) (by rw [nI_clamp (by omega)]) ?_
  refine lv_aload_n hx hb dL_law_764 rfl (lv_at hl 3 rfl) ?_
  refine lv_iload_n hx hb dL_law_765 rfl (lv_at hl 0 rfl) ?_
  refine lv_bipush (v := 6) hx hb dL_law_766 (by decide) ?_
  refine lv_iadd hx hb dL_law_768 ?_
  refine my_fold (v := nI (11 * i + 6)) (show nI (11 * i) + nI 6 = _ from nI_add _ _) ?_
  refine va_sld hx hb hX hbl hbA hS (i := nI (11 * i + 6)) (vp_in_nI (by omega) (by omega)) dL_law_769 ?_
  refine my_topv (v := .int (xs (11 * i + 6))) (by rw [nI_clamp (by omega)]) ?_
  refine lv_aload_n hx hb dL_law_770 rfl (lv_at hl 3 rfl) ?_
  refine lv_iload_n hx hb dL_law_771 rfl (lv_at hl 0 rfl) ?_
  refine lv_bipush (v := 7) hx hb dL_law_772 (by decide) ?_
  refine lv_iadd hx hb dL_law_774 ?_
  refine my_fold (v := nI (11 * i + 7)) (show nI (11 * i) + nI 7 = _ from nI_add _ _) ?_
  refine va_sld hx hb hX hbl hbA hS (i := nI (11 * i + 7)) (vp_in_nI (by omega) (by omega)) dL_law_775 ?_
  refine my_topv (v := .int (xs (11 * i + 7))) (by rw [nI_clamp (by omega)]) ?_
  refine lv_aload_n hx hb dL_law_776 rfl (lv_at hl 3 rfl) ?_
  refine lv_iload_n hx hb dL_law_777 rfl (lv_at hl 0 rfl) ?_
  refine lv_bipush (v := 8) hx hb dL_law_778 (by decide) ?_
  refine lv_iadd hx hb dL_law_780 ?_
  refine my_fold (v := nI (11 * i + 8)) (show nI (11 * i) + nI 8 = _ from nI_add _ _) ?_
  refine va_sld hx hb hX hbl hbA hS (i := nI (11 * i + 8)) (vp_in_nI (by omega) (by omega)) dL_law_781 ?_
  refine my_topv (v := .int (xs (11 * i + 8))) (by rw [nI_clamp (by omega)]) ?_
  have hPq : va_P D vwCl (mWld cI cZ am nm gm ++ cWld cI cO ad n2 g2 f2 sh2 sv2 bv2) H := P_perm List.perm_append_comm hP
  have hDq : va_D (fun q : Nat => s.heap.size ≤ q) (mWld cI cZ am nm gm ++ cWld cI cO ad n2 g2 f2 sh2 sv2 bv2) := D_perm List.perm_append_comm hD
  have hFc := free_left hDq hS hA
  have hKc := hK.sub (tys' := [(cI, .int), (cZ, .boolean)]) [0, 2] rfl
  refine va_calli (va_runV (As := [.int (xs (11 * i + 1)), .int (xs (11 * i + 2)), .int (xs (11 * i + 3)), .int (xs (11 * i + 4)), .int (xs (11 * i + 5)), .int (xs (11 * i + 6)), .int (xs (11 * i + 7)), .int (xs (11 * i + 8))]) (rest := [.int r_1]) ⟨hx, hb, hml, hown, hts⟩ (w_X9_copy l D H.size cI cZ am nm gm hom (xs (11 * i + 1)) (xs (11 * i + 2)) (xs (11 * i + 3)) (xs (11 * i + 4)) (xs (11 * i + 5)) (xs (11 * i + 6)) (xs (11 * i + 7)) (xs (11 * i + 8))) (cwV 8 hts (gV bw_612 bw_562 bw_563 bw_391 bw_561) rfl rfl rfl (by decide +kernel) ⟨Nat.le_of_ble_eq_true rfl, Nat.le_of_ble_eq_true rfl⟩) ⟨cP_blind, va_recv hKc (P_left hPq) (ci := 9) (q0 := 0) rfl rfl, cP_at (P_left hPq) hKc (D_left hDq) hN⟩ rfl rfl hl.1 rfl (lv_room (Nat.le_of_ble_eq_true rfl)) dL_law_782 ⟨(show 36 + 4 * i + 4 + 0 ≤ 135154 by omega), (show 33710 + 8195 * i + 4107 + 0 ≤ 8696788 by omega)⟩) hS (fun q _ h => hFc q h) hFc (fun r_3 u9 t9 H1 locs ht hvm hr_3 hB hz1 hk1 hS => ?_)
  obtain ⟨w1, ⟨nm4, gm4, hom4, hrl4, rfl⟩, hP1, hD1⟩ := hB
  rw [ht] at hP1
  obtain ⟨hP, hD⟩ := my_joinM hPq hDq hk1 hFc hP1 hD1
  have hP := P_perm (List.perm_append_comm (l₁ := mWld cI cZ am nm4 gm4) (l₂ := cWld cI cO ad n2 g2 f2 sh2 sv2 bv2)) hP
  have hD := D_perm (List.perm_append_comm (l₁ := mWld cI cZ am nm4 gm4) (l₂ := cWld cI cO ad n2 g2 f2 sh2 sv2 bv2)) hD
  clear hz1 hk1 hFc hKc hPq hDq
  generalize H1 = H at hP hS ⊢
  have hP : va_P D vwCl (cWld cI cO ad n2 g2 f2 sh2 sv2 bv2 ++ mWld cI cZ am nm4 gm4) H := hP
  have hD : va_D (fun q : Nat => s.heap.size ≤ q) (cWld cI cO ad n2 g2 f2 sh2 sv2 bv2 ++ mWld cI cZ am nm4 gm4) := hD
  refine lv_icmp_eq (tgt := 1167) hx hb dL_law_785 (by decide) (fun c_5 => ?_) (fun c_5 => ?_)
  · skip
    have f_6 : r_1.toInt = r_3.toInt := f_eq rfl rfl c_5
    refine W.widen (k := 36 + 4 * i + 4) (n := 33710 + 8195 * i + 8195) (by omega) (by omega) ?_
    exact hnext n2 g2 f2 sh2 sv2 bv2 nm4 gm4 _ _ _ hok2 hom4 (RW_c (cp_ok (k := xs (11 * i + 1)) (ax := xs (11 * i + 2)) (ay := xs (11 * i + 3)) (aw := xs (11 * i + 4)) (ah := xs (11 * i + 5)) (kq := xs (11 * i + 6)) (ox := xs (11 * i + 7)) (oy := xs (11 * i + 8)) hpr hok hom).2 hrl2 hrl4) hP hD hS hl
  · skip
    have heq : r_1 = r_3 := (hr_1.trans (cp_ok (k := xs (11 * i + 1)) (ax := xs (11 * i + 2)) (ay := xs (11 * i + 3)) (aw := xs (11 * i + 4)) (ah := xs (11 * i + 5)) (kq := xs (11 * i + 6)) (ox := xs (11 * i + 7)) (oy := xs (11 * i + 8)) hpr hok hom).1).trans hr_3.symm
    exact absurd heq c_5

set_option maxHeartbeats 1000000 in
set_option maxRecDepth 100000 in
theorem law_op_14 {p : Program} {e : Env} {s : State} {m : MethodId} {below : List Frame} {meth : Method} {c : Code} (l : Launch) {b L : Nat} {xs : Nat → Int32} (C0 : lw_At p s m meth c b L xs) (hN : nW s) {D : va_G} {cI cO cZ : ClassId} (hK : va_K D vwCl [(cI, .int), (cO, .object "DotBench$Sheet"), (cZ, .boolean)] s) {ad am : Nat → Nat} (hL : L ≤ 5632) {i : Nat} (hi : 11 * i + 11 ≤ L) {n : Nat → Int32} {g : Nat → Nat → Int32} {f : Nat → Option Nat} {sh : Nat → Option Sh} {sv : Option Sp} {bv : Option Sh} {nm : Nat → Int32} {gm : Nat → Nat → Int32} (hok : okC n f sh) (hom : okM nm gm) (hpr : RW n g (fun k => vO (sh k)) nm gm) {H : Heap} {locs : List Loc} (hP : va_P D vwCl (cWld cI cO ad n g f sh sv bv ++ mWld cI cZ am nm gm) H) (hD : va_D (fun q : Nat => s.heap.size ≤ q) (cWld cI cO ad n g f sh sv bv ++ mWld cI cZ am nm gm)) (hS : va_S (fun q : Nat => s.heap.size ≤ q) s.heap H locs) {ls : Array Slot} (hl : lv_has ls 4 [(3, .int (nI (11 * i))), (2, .ref (am 0)), (1, .ref (ad 0)), (0, .ref b)]) (hnext : ∀ (n : Nat → Int32) (g : Nat → Nat → Int32) (f : Nat → Option Nat) (sh : Nat → Option Sh) (sv : Option Sp) (bv : Option Sh) (nm : Nat → Int32) (gm : Nat → Nat → Int32) (H : Heap) (locs : List Loc) (ls : Array Slot), okC n f sh → okM nm gm → RW n g (fun k => vO (sh k)) nm gm → va_P D vwCl (cWld cI cO ad n g f sh sv bv ++ mWld cI cZ am nm gm) H → va_D (fun q : Nat => s.heap.size ≤ q) (cWld cI cO ad n g f sh sv bv ++ mWld cI cZ am nm gm) → va_S (fun q : Nat => s.heap.size ≤ q) s.heap H locs → lv_has ls 4 [(3, .int (nI (11 * i))), (2, .ref (am 0)), (1, .ref (ad 0)), (0, .ref b)] → W p l e room_1 s m #[Value.ref b] below meth c H locs (36 + 4 * i + 4) (33710 + 8195 * i + 8195) (lw_Z below #[Value.ref b] s) (F0 m 1167 ls [])) : W p l e room_1 s m #[Value.ref b] below meth c H locs (36 + 4 * i) (33710 + 8195 * i) (lw_Z below #[Value.ref b] s) (F0 m 790 ls []) := by
  obtain ⟨hx, hb, hr, hml, hown, hts0, hX, hbl, hlocks, hgv⟩ := id C0
  have hts : ∀ w ∈ bigW, w.before #[Value.ref b] s = true := fun w h => hts0 w (bigW_in w h).1
  have hown : s.vm.findClass RL = some m.cls := hown
  have hA : ∀ q : Nat, s.heap.size ≤ q → (fun q : Nat => s.heap.size ≤ q) q := fun _ h => h
  have hbA : ¬ (fun q : Nat => s.heap.size ≤ q) b := Nat.not_le.mpr hbl
  refine lv_aload_n hx hb dL_law_790 rfl (lv_at hl 2 rfl) ?_
  refine lv_aload_n hx hb dL_law_791 rfl (lv_at hl 3 rfl) ?_
  refine lv_iload_n hx hb dL_law_792 rfl (lv_at hl 0 rfl) ?_
  refine lv_iconst (v := 1) hx hb dL_law_793 (by decide) ?_
  refine lv_iadd hx hb dL_law_794 ?_
  refine my_fold (v := nI (11 * i + 1)) (show nI (11 * i) + nI 1 = _ from nI_add _ _) ?_
  refine va_sld hx hb hX hbl hbA hS (i := nI (11 * i + 1)) (vp_in_nI (by omega) (by omega)) dL_law_795 ?_
  refine my_topv (v := .int (xs (11 * i + 1))) (by rw [nI_clamp (by omega)]) ?_
  refine lv_aload_n hx hb dL_law_796 rfl (lv_at hl 3 rfl) ?_
  refine lv_iload_n hx hb dL_law_797 rfl (lv_at hl 0 rfl) ?_
  refine lv_iconst (v := 2) hx hb dL_law_798 (by decide) ?_
  refine lv_iadd hx hb dL_law_799 ?_
  refine my_fold (v := nI (11 * i + 2)) (show nI (11 * i) + nI 2 = _ from nI_add _ _) ?_
  refine va_sld hx hb hX hbl hbA hS (i := nI (11 * i + 2)) (vp_in_nI (by omega) (by omega)) dL_law_800 ?_
  refine my_topv (v := .int (xs (11 * i + 2))) (by rw [nI_clamp (by omega)]) ?_
  refine lv_aload_n hx hb dL_law_801 rfl (lv_at hl 3 rfl) ?_
  refine lv_iload_n hx hb dL_law_802 rfl (lv_at hl 0 rfl) ?_
  refine lv_iconst (v := 3) hx hb dL_law_803 (by decide) ?_
  refine lv_iadd hx hb dL_law_804 ?_
  refine my_fold (v := nI (11 * i + 3)) (show nI (11 * i) + nI 3 = _ from nI_add _ _) ?_
  refine va_sld hx hb hX hbl hbA hS (i := nI (11 * i + 3)) (vp_in_nI (by omega) (by omega)) dL_law_805 ?_
  refine my_topv (v := .int (xs (11 * i + 3))) (by rw [nI_clamp (by omega)]) ?_
  refine lv_aload_n hx hb dL_law_806 rfl (lv_at hl 3 rfl) ?_
  refine lv_iload_n hx hb dL_law_807 rfl (lv_at hl 0 rfl) ?_
  refine lv_iconst (v := 4) hx hb dL_law_808 (by decide) ?_
  refine lv_iadd hx hb dL_law_809 ?_
  refine my_fold (v := nI (11 * i + 4)) (show nI (11 * i) + nI 4 = _ from nI_add _ _) ?_
  refine va_sld hx hb hX hbl hbA hS (i := nI (11 * i + 4)) (vp_in_nI (by omega) (by omega)) dL_law_810 ?_
  refine my_topv (v := .int (xs (11 * i + 4))) (by rw [nI_clamp (by omega)]) ?_
  refine lv_aload_n hx hb dL_law_811 rfl (lv_at hl 3 rfl) ?_
  refine lv_iload_n hx hb dL_law_812 rfl (lv_at hl 0 rfl) ?_
  refine lv_iconst (v := 5) hx hb dL_law_813 (by decide) ?_
  refine lv_iadd hx hb dL_law_814 ?_
  refine my_fold (v := nI (11 * i + 5)) (show nI (11 * i) + nI 5 = _ from nI_add _ _) ?_
  refine va_sld hx hb hX hbl hbA hS (i := nI (11 * i + 5)) (vp_in_nI (by omega) (by omega)) dL_law_815 ?_
  refine my_topv (v := .int (xs (11 * i + 5))) (by rw [nI_clamp (by omega)]) ?_
  refine lv_aload_n hx hb dL_law_816 rfl (lv_at hl 3 rfl) ?_
  refine lv_iload_n hx hb dL_law_817 rfl (lv_at hl 0 rfl) ?_
  refine lv_bipush (v := 6) hx hb dL_law_818 (by decide) ?_
  refine lv_iadd hx hb dL_law_820 ?_
  refine my_fold (v := nI (11 * i + 6)) (show nI (11 * i) + nI 6 = _ from nI_add _ _) ?_
  refine va_sld hx hb hX hbl hbA hS (i := nI (11 * i + 6)) (vp_in_nI (by omega) (by omega)) dL_law_821 ?_
  refine my_topv (v := .int (xs (11 * i + 6))) (by rw [nI_clamp (by omega)]) ?_
  refine lv_aload_n hx hb dL_law_822 rfl (lv_at hl 3 rfl) ?_
  refine lv_iload_n hx hb dL_law_823 rfl (lv_at hl 0 rfl) ?_
  refine lv_bipush (v := 7) hx hb dL_law_824 (by decide) ?_
  refine lv_iadd hx hb dL_law_826 ?_
  refine my_fold (v := nI (11 * i + 7)) (show nI (11 * i) + nI 7 = _ from nI_add _ _) ?_
  refine va_sld hx hb hX hbl hbA hS (i := nI (11 * i + 7)) (vp_in_nI (by omega) (by omega)) dL_law_827 ?_
  refine my_topv (v := .int (xs (11 * i + 7))) (by rw [nI_clamp (by omega)]) ?_
  refine lv_aload_n hx hb dL_law_828 rfl (lv_at hl 3 rfl) ?_
  refine lv_iload_n hx hb dL_law_829 rfl (lv_at hl 0 rfl) ?_
  refine lv_bipush (v := 8) hx hb dL_law_830 (by decide) ?_
  refine lv_iadd hx hb dL_law_832 ?_
  refine my_fold (v := nI (11 * i + 8)) (show nI (11 * i) + nI 8 = _ from nI_add _ _) ?_
  refine va_sld hx hb hX hbl hbA hS (i := nI (11 * i + 8)) (vp_in_nI (by omega) (by omega)) dL_law_833 ?_
  refine my_topv (v := .int (xs (11 * i + 8))) (by rw [nI_clamp (by omega)]) ?_
  refine lv_aload_n hx hb dL_law_834 rfl (lv_at hl 3 rfl) ?_
  refine lv_iload_n hx hb dL_law_835 rfl (lv_at hl 0 rfl) ?_
  refine lv_bipush (v := 9) hx hb dL_law_836 (by decide) ?_
  refine lv_iadd hx hb dL_law_838 ?_
  refine my_fold (v := nI (11 * i + 9)) (show nI (11 * i) + nI 9 = _ from nI_add _ _) ?_
  refine va_sld hx hb hX hbl hbA hS (i := nI (11 * i + 9)) (vp_in_nI (by omega) (by omega)) dL_law_839 ?_
  refine my_topv (v := .int (xs (11 * i + 9))) (by rw [nI_clamp (by omega)]) ?_
  refine lv_aload_n hx hb dL_law_840 rfl (lv_at hl 3 rfl) ?_
  refine lv_iload_n hx hb dL_law_841 rfl (lv_at hl 0 rfl) ?_
  refine lv_bipush (v := 10) hx hb dL_law_842 (by decide) ?_
  refine lv_iadd hx hb dL_law_844 ?_
  refine my_fold (v := nI (11 * i + 10)) (show nI (11 * i) + nI 10 = _ from nI_add _ _) ?_
  refine va_sld hx hb hX hbl hbA hS (i := nI (11 * i + 10)) (vp_in_nI (by omega) (by omega)) dL_law_845 ?_
  refine my_topv (v := .int (xs (11 * i + 10))) (by rw [nI_clamp (by omega)]) ?_
  have hPq : va_P D vwCl (cWld cI cO ad n g f sh sv bv ++ mWld cI cZ am nm gm) H := hP
  have hDq : va_D (fun q : Nat => s.heap.size ≤ q) (cWld cI cO ad n g f sh sv bv ++ mWld cI cZ am nm gm) := hD
  have hFc := free_left hDq hS hA
  have hKc := hK.sub (tys' := [(cI, .int), (cO, .object "DotBench$Sheet")]) [0, 1] rfl
  refine va_calli (va_runV (As := [.int (xs (11 * i + 1)), .int (xs (11 * i + 2)), .int (xs (11 * i + 3)), .int (xs (11 * i + 4)), .int (xs (11 * i + 5)), .int (xs (11 * i + 6)), .int (xs (11 * i + 7)), .int (xs (11 * i + 8)), .int (xs (11 * i + 9)), .int (xs (11 * i + 10))]) (rest := []) ⟨hx, hb, hml, hown, hts⟩ (w_X8_stretch l D H.size cI cO ad n g f sh sv bv hok (xs (11 * i + 1)) (xs (11 * i + 2)) (xs (11 * i + 3)) (xs (11 * i + 4)) (xs (11 * i + 5)) (xs (11 * i + 6)) (xs (11 * i + 7)) (xs (11 * i + 8)) (xs (11 * i + 9)) (xs (11 * i + 10))) (cwV 10 hts (gV bw_613 bw_320 bw_321 bw_223 bw_319) rfl rfl rfl (by decide +kernel) ⟨Nat.le_of_ble_eq_true rfl, Nat.le_of_ble_eq_true rfl⟩) ⟨cP_blind, va_recv hKc (P_left hPq) (ci := 8) (q0 := 0) rfl rfl, cP_at (P_left hPq) hKc (D_left hDq) hN⟩ rfl rfl hl.1 rfl (lv_room (Nat.le_of_ble_eq_true rfl)) dL_law_846 ⟨(show 36 + 4 * i + 4 ≤ 135154 by omega), (show 33710 + 8195 * i + 4107 ≤ 8696788 by omega)⟩) hS (fun q _ h => hFc q h) hFc (fun r_1 u9 t9 H1 locs ht hvm hr_1 hB hz1 hk1 hS => ?_)
  obtain ⟨w1, ⟨n2, g2, f2, sh2, sv2, bv2, hok2, hrl2, rfl⟩, hP1, hD1⟩ := hB
  rw [ht] at hP1
  obtain ⟨hP, hD⟩ := my_joinM hPq hDq hk1 hFc hP1 hD1
  clear hz1 hk1 hFc hKc hPq hDq
  generalize H1 = H at hP hS ⊢
  have hP : va_P D vwCl (cWld cI cO ad n2 g2 f2 sh2 sv2 bv2 ++ mWld cI cZ am nm gm) H := hP
  have hD : va_D (fun q : Nat => s.heap.size ≤ q) (cWld cI cO ad n2 g2 f2 sh2 sv2 bv2 ++ mWld cI cZ am nm gm) := hD
  refine lv_aload_n hx hb dL_law_849 rfl (lv_at hl 1 rfl) ?_
  refine lv_aload_n hx hb dL_law_850 rfl (lv_at hl 3 rfl) ?_
  refine lv_iload_n hx hb dL_law_851 rfl (lv_at hl 0 rfl) ?_
  refine lv_iconst (v := 1) hx hb dL_law_852 (by decide) ?_
  refine lv_iadd hx hb dL_law_853 ?_
  refine my_fold (v := nI (11 * i + 1)) (show nI (11 * i) + nI 1 = _ from nI_add _ _) ?_
  refine va_sld hx hb hX hbl hbA hS (i := nI (11 * i + 1)) (vp_in_nI (by omega) (by omega)) dL_law_854 ?_
  refine my_topv (v := .int (xs (11 * i + 1))) (by rw [nI_clamp (by omega)]) ?_
  refine lv_aload_n hx hb dL_law_855 rfl (lv_at hl 3 rfl) ?_
  refine lv_iload_n hx hb dL_law_856 rfl (lv_at hl 0 rfl) ?_
  refine lv_iconst (v := 2) hx hb dL_law_857 (by decide) ?_
  refine lv_iadd hx hb dL_law_858 ?_
  refine my_fold (v := nI (11 * i + 2)) (show nI (11 * i) + nI 2 = _ from nI_add _ _) ?_
  refine va_sld hx hb hX hbl hbA hS (i := nI (11 * i + 2)) (vp_in_nI (by omega) (by omega)) dL_law_859 ?_
  refine my_topv (v := .int (xs (11 * i + 2))) (by rw [nI_clamp (by omega)]) ?_
  refine lv_aload_n hx hb dL_law_860 rfl (lv_at hl 3 rfl) ?_
  refine lv_iload_n hx hb dL_law_861 rfl (lv_at hl 0 rfl) ?_
  refine lv_iconst (v := 3) hx hb dL_law_862 (by decide) ?_
  refine lv_iadd hx hb dL_law_863 ?_
  refine my_fold (v := nI (11 * i + 3)) (show nI (11 * i) + nI 3 = _ from nI_add _ _) ?_
  refine va_sld hx hb hX hbl hbA hS (i := nI (11 * i + 3)) (vp_in_nI (by omega) (by omega)) dL_law_864 ?_
  refine my_topv (v := .int (xs (11 * i + 3))) (by rw [nI_clamp (by omega)]) ?_
  refine lv_aload_n hx hb dL_law_865 rfl (lv_at hl 3 rfl) ?_
  refine lv_iload_n hx hb dL_law_866 rfl (lv_at hl 0 rfl) ?_
  refine lv_iconst (v := 4) hx hb dL_law_867 (by decide) ?_
  refine lv_iadd hx hb dL_law_868 ?_
  refine my_fold (v := nI (11 * i + 4)) (show nI (11 * i) + nI 4 = _ from nI_add _ _) ?_
  refine va_sld hx hb hX hbl hbA hS (i := nI (11 * i + 4)) (vp_in_nI (by omega) (by omega)) dL_law_869 ?_
  refine my_topv (v := .int (xs (11 * i + 4))) (by rw [nI_clamp (by omega)]) ?_
  refine lv_aload_n hx hb dL_law_870 rfl (lv_at hl 3 rfl) ?_
  refine lv_iload_n hx hb dL_law_871 rfl (lv_at hl 0 rfl) ?_
  refine lv_iconst (v := 5) hx hb dL_law_872 (by decide) ?_
  refine lv_iadd hx hb dL_law_873 ?_
  refine my_fold (v := nI (11 * i + 5)) (show nI (11 * i) + nI 5 = _ from nI_add _ _) ?_
  refine va_sld hx hb hX hbl hbA hS (i := nI (11 * i + 5)) (vp_in_nI (by omega) (by omega)) dL_law_874 ?_
  refine my_topv (v := .int (xs (11 * i + 5))) (by rw [nI_clamp (by omega)]) ?_
  refine lv_aload_n hx hb dL_law_875 rfl (lv_at hl 3 rfl) ?_
  refine lv_iload_n hx hb dL_law_876 rfl (lv_at hl 0 rfl) ?_
  refine lv_bipush (v := 6) hx hb dL_law_877 (by decide) ?_
  refine lv_iadd hx hb dL_law_879 ?_
  refine my_fold (v := nI (11 * i + 6)) (show nI (11 * i) + nI 6 = _ from nI_add _ _) ?_
  refine va_sld hx hb hX hbl hbA hS (i := nI (11 * i + 6)) (vp_in_nI (by omega) (by omega)) dL_law_880 ?_
  refine my_topv (v := .int (xs (11 * i + 6))) (by rw [nI_clamp (by omega)]) ?_
  refine lv_aload_n hx hb dL_law_881 rfl (lv_at hl 3 rfl) ?_
  refine lv_iload_n hx hb dL_law_882 rfl (lv_at hl 0 rfl) ?_
  refine lv_bipush (v := 7) hx hb dL_law_883 (by decide) ?_
  refine lv_iadd hx hb dL_law_885 ?_
  refine my_fold (v := nI (11 * i + 7)) (show nI (11 * i) + nI 7 = _ from nI_add _ _) ?_
  refine va_sld hx hb hX hbl hbA hS (i := nI (11 * i + 7)) (vp_in_nI (by omega) (by omega)) dL_law_886 ?_
  refine my_topv (v := .int (xs (11 * i + 7))) (by rw [nI_clamp (by omega)]) ?_
  refine lv_aload_n hx hb dL_law_887 rfl (lv_at hl 3 rfl) ?_
  refine lv_iload_n hx hb dL_law_888 rfl (lv_at hl 0 rfl) ?_
  refine lv_bipush (v := 8) hx hb dL_law_889 (by decide) ?_
  refine lv_iadd hx hb dL_law_891 ?_
  refine my_fold (v := nI (11 * i + 8)) (show nI (11 * i) + nI 8 = _ from nI_add _ _) ?_
  refine va_sld hx hb hX hbl hbA hS (i := nI (11 * i + 8)) (vp_in_nI (by omega) (by omega)) dL_law_892 ?_
  refine my_topv (v := .int (xs (11 * i + 8))) (by rw [nI_clamp (by omega)]) ?_
  refine lv_aload_n hx hb dL_law_893 rfl (lv_at hl 3 rfl) ?_
  refine lv_iload_n hx hb dL_law_894 rfl (lv_at hl 0 rfl) ?_
  refine lv_bipush (v := 9) hx hb dL_law_895 (by decide) ?_
  refine lv_iadd hx hb dL_law_897 ?_
  refine my_fold (v := nI (11 * i + 9)) (show nI (11 * i) + nI 9 = _ from nI_add _ _) ?_
  refine va_sld hx hb hX hbl hbA hS (i := nI (11 * i + 9)) (vp_in_nI (by omega) (by omega)) dL_law_898 ?_
  refine my_topv (v := .int (xs (11 * i + 9))) (by rw [nI_clamp (by omega)]) ?_
  refine lv_aload_n hx hb dL_law_899 rfl (lv_at hl 3 rfl) ?_
  refine lv_iload_n hx hb dL_law_900 rfl (lv_at hl 0 rfl) ?_
  refine lv_bipush (v := 10) hx hb dL_law_901 (by decide) ?_
  refine lv_iadd hx hb dL_law_903 ?_
  refine my_fold (v := nI (11 * i + 10)) (show nI (11 * i) + nI 10 = _ from nI_add _ _) ?_
  refine va_sld hx hb hX hbl hbA hS (i := nI (11 * i + 10)) (vp_in_nI (by omega) (by omega)) dL_law_904 ?_
  refine my_topv (v := .int (xs (11 * i + 10))) (by rw [nI_clamp (by omega)]) ?_
  have hPq : va_P D vwCl (mWld cI cZ am nm gm ++ cWld cI cO ad n2 g2 f2 sh2 sv2 bv2) H := P_perm List.perm_append_comm hP
  have hDq : va_D (fun q : Nat => s.heap.size ≤ q) (mWld cI cZ am nm gm ++ cWld cI cO ad n2 g2 f2 sh2 sv2 bv2) := D_perm List.perm_append_comm hD
  have hFc := free_left hDq hS hA
  have hKc := hK.sub (tys' := [(cI, .int), (cZ, .boolean)]) [0, 2] rfl
  refine va_calli (va_runV (As := [.int (xs (11 * i + 1)), .int (xs (11 * i + 2)), .int (xs (11 * i + 3)), .int (xs (11 * i + 4)), .int (xs (11 * i + 5)), .int (xs (11 * i + 6)), .int (xs (11 * i + 7)), .int (xs (11 * i + 8)), .int (xs (11 * i + 9)), .int (xs (11 * i + 10))]) (rest := [.int r_1]) ⟨hx, hb, hml, hown, hts⟩ (w_X9_stretch l D H.size cI cZ am nm gm hom (xs (11 * i + 1)) (xs (11 * i + 2)) (xs (11 * i + 3)) (xs (11 * i + 4)) (xs (11 * i + 5)) (xs (11 * i + 6)) (xs (11 * i + 7)) (xs (11 * i + 8)) (xs (11 * i + 9)) (xs (11 * i + 10))) (cwV 10 hts (gV bw_614 bw_566 bw_567 bw_391 bw_565) rfl rfl rfl (by decide +kernel) ⟨Nat.le_of_ble_eq_true rfl, Nat.le_of_ble_eq_true rfl⟩) ⟨cP_blind, va_recv hKc (P_left hPq) (ci := 9) (q0 := 0) rfl rfl, cP_at (P_left hPq) hKc (D_left hDq) hN⟩ rfl rfl hl.1 rfl (lv_room (Nat.le_of_ble_eq_true rfl)) dL_law_905 ⟨(show 36 + 4 * i + 4 + 0 ≤ 135154 by omega), (show 33710 + 8195 * i + 4107 + 0 ≤ 8696788 by omega)⟩) hS (fun q _ h => hFc q h) hFc (fun r_3 u9 t9 H1 locs ht hvm hr_3 hB hz1 hk1 hS => ?_)
  obtain ⟨w1, ⟨nm4, gm4, hom4, hrl4, rfl⟩, hP1, hD1⟩ := hB
  rw [ht] at hP1
  obtain ⟨hP, hD⟩ := my_joinM hPq hDq hk1 hFc hP1 hD1
  have hP := P_perm (List.perm_append_comm (l₁ := mWld cI cZ am nm4 gm4) (l₂ := cWld cI cO ad n2 g2 f2 sh2 sv2 bv2)) hP
  have hD := D_perm (List.perm_append_comm (l₁ := mWld cI cZ am nm4 gm4) (l₂ := cWld cI cO ad n2 g2 f2 sh2 sv2 bv2)) hD
  clear hz1 hk1 hFc hKc hPq hDq
  generalize H1 = H at hP hS ⊢
  have hP : va_P D vwCl (cWld cI cO ad n2 g2 f2 sh2 sv2 bv2 ++ mWld cI cZ am nm4 gm4) H := hP
  have hD : va_D (fun q : Nat => s.heap.size ≤ q) (cWld cI cO ad n2 g2 f2 sh2 sv2 bv2 ++ mWld cI cZ am nm4 gm4) := hD
  refine lv_icmp_eq (tgt := 1167) hx hb dL_law_908 (by decide) (fun c_5 => ?_) (fun c_5 => ?_)
  · skip
    have f_6 : r_1.toInt = r_3.toInt := f_eq rfl rfl c_5
    refine W.widen (k := 36 + 4 * i + 4) (n := 33710 + 8195 * i + 8195) (by omega) (by omega) ?_
    exact hnext n2 g2 f2 sh2 sv2 bv2 nm4 gm4 _ _ _ hok2 hom4 (RW_c (st_ok (k := xs (11 * i + 1)) (ax := xs (11 * i + 2)) (ay := xs (11 * i + 3)) (aw := xs (11 * i + 4)) (ah := xs (11 * i + 5)) (kq := xs (11 * i + 6)) (ox := xs (11 * i + 7)) (oy := xs (11 * i + 8)) (ow := xs (11 * i + 9)) (oh := xs (11 * i + 10)) hpr hok hom).2 hrl2 hrl4) hP hD hS hl
  · skip
    have heq : r_1 = r_3 := (hr_1.trans (st_ok (k := xs (11 * i + 1)) (ax := xs (11 * i + 2)) (ay := xs (11 * i + 3)) (aw := xs (11 * i + 4)) (ah := xs (11 * i + 5)) (kq := xs (11 * i + 6)) (ox := xs (11 * i + 7)) (oy := xs (11 * i + 8)) (ow := xs (11 * i + 9)) (oh := xs (11 * i + 10)) hpr hok hom).1).trans hr_3.symm
    exact absurd heq c_5

set_option maxHeartbeats 1000000 in
set_option maxRecDepth 100000 in
theorem law_op_15 {p : Program} {e : Env} {s : State} {m : MethodId} {below : List Frame} {meth : Method} {c : Code} (l : Launch) {b L : Nat} {xs : Nat → Int32} (C0 : lw_At p s m meth c b L xs) (hN : nW s) {D : va_G} {cI cO cZ : ClassId} (hK : va_K D vwCl [(cI, .int), (cO, .object "DotBench$Sheet"), (cZ, .boolean)] s) {ad am : Nat → Nat} (hL : L ≤ 5632) {i : Nat} (hi : 11 * i + 11 ≤ L) {n : Nat → Int32} {g : Nat → Nat → Int32} {f : Nat → Option Nat} {sh : Nat → Option Sh} {sv : Option Sp} {bv : Option Sh} {nm : Nat → Int32} {gm : Nat → Nat → Int32} (hok : okC n f sh) (hom : okM nm gm) (hpr : RW n g (fun k => vO (sh k)) nm gm) {H : Heap} {locs : List Loc} (hP : va_P D vwCl (cWld cI cO ad n g f sh sv bv ++ mWld cI cZ am nm gm) H) (hD : va_D (fun q : Nat => s.heap.size ≤ q) (cWld cI cO ad n g f sh sv bv ++ mWld cI cZ am nm gm)) (hS : va_S (fun q : Nat => s.heap.size ≤ q) s.heap H locs) {ls : Array Slot} (hl : lv_has ls 4 [(3, .int (nI (11 * i))), (2, .ref (am 0)), (1, .ref (ad 0)), (0, .ref b)]) (hnext : ∀ (n : Nat → Int32) (g : Nat → Nat → Int32) (f : Nat → Option Nat) (sh : Nat → Option Sh) (sv : Option Sp) (bv : Option Sh) (nm : Nat → Int32) (gm : Nat → Nat → Int32) (H : Heap) (locs : List Loc) (ls : Array Slot), okC n f sh → okM nm gm → RW n g (fun k => vO (sh k)) nm gm → va_P D vwCl (cWld cI cO ad n g f sh sv bv ++ mWld cI cZ am nm gm) H → va_D (fun q : Nat => s.heap.size ≤ q) (cWld cI cO ad n g f sh sv bv ++ mWld cI cZ am nm gm) → va_S (fun q : Nat => s.heap.size ≤ q) s.heap H locs → lv_has ls 4 [(3, .int (nI (11 * i))), (2, .ref (am 0)), (1, .ref (ad 0)), (0, .ref b)] → W p l e room_1 s m #[Value.ref b] below meth c H locs (36 + 4 * i + 4) (33710 + 8195 * i + 8195) (lw_Z below #[Value.ref b] s) (F0 m 1167 ls [])) : W p l e room_1 s m #[Value.ref b] below meth c H locs (36 + 4 * i) (33710 + 8195 * i) (lw_Z below #[Value.ref b] s) (F0 m 913 ls []) := by
  obtain ⟨hx, hb, hr, hml, hown, hts0, hX, hbl, hlocks, hgv⟩ := id C0
  have hts : ∀ w ∈ bigW, w.before #[Value.ref b] s = true := fun w h => hts0 w (bigW_in w h).1
  have hown : s.vm.findClass RL = some m.cls := hown
  have hA : ∀ q : Nat, s.heap.size ≤ q → (fun q : Nat => s.heap.size ≤ q) q := fun _ h => h
  have hbA : ¬ (fun q : Nat => s.heap.size ≤ q) b := Nat.not_le.mpr hbl
  refine lv_aload_n hx hb dL_law_913 rfl (lv_at hl 2 rfl) ?_
  refine lv_aload_n hx hb dL_law_914 rfl (lv_at hl 3 rfl) ?_
  refine lv_iload_n hx hb dL_law_915 rfl (lv_at hl 0 rfl) ?_
  refine lv_iconst (v := 1) hx hb dL_law_916 (by decide) ?_
  refine lv_iadd hx hb dL_law_917 ?_
  refine my_fold (v := nI (11 * i + 1)) (show nI (11 * i) + nI 1 = _ from nI_add _ _) ?_
  refine va_sld hx hb hX hbl hbA hS (i := nI (11 * i + 1)) (vp_in_nI (by omega) (by omega)) dL_law_918 ?_
  refine my_topv (v := .int (xs (11 * i + 1))) (by rw [nI_clamp (by omega)]) ?_
  refine lv_aload_n hx hb dL_law_919 rfl (lv_at hl 3 rfl) ?_
  refine lv_iload_n hx hb dL_law_920 rfl (lv_at hl 0 rfl) ?_
  refine lv_iconst (v := 2) hx hb dL_law_921 (by decide) ?_
  refine lv_iadd hx hb dL_law_922 ?_
  refine my_fold (v := nI (11 * i + 2)) (show nI (11 * i) + nI 2 = _ from nI_add _ _) ?_
  refine va_sld hx hb hX hbl hbA hS (i := nI (11 * i + 2)) (vp_in_nI (by omega) (by omega)) dL_law_923 ?_
  refine my_topv (v := .int (xs (11 * i + 2))) (by rw [nI_clamp (by omega)]) ?_
  refine lv_aload_n hx hb dL_law_924 rfl (lv_at hl 3 rfl) ?_
  refine lv_iload_n hx hb dL_law_925 rfl (lv_at hl 0 rfl) ?_
  refine lv_iconst (v := 3) hx hb dL_law_926 (by decide) ?_
  refine lv_iadd hx hb dL_law_927 ?_
  refine my_fold (v := nI (11 * i + 3)) (show nI (11 * i) + nI 3 = _ from nI_add _ _) ?_
  refine va_sld hx hb hX hbl hbA hS (i := nI (11 * i + 3)) (vp_in_nI (by omega) (by omega)) dL_law_928 ?_
  refine my_topv (v := .int (xs (11 * i + 3))) (by rw [nI_clamp (by omega)]) ?_
  have hPq : va_P D vwCl (cWld cI cO ad n g f sh sv bv ++ mWld cI cZ am nm gm) H := hP
  have hDq : va_D (fun q : Nat => s.heap.size ≤ q) (cWld cI cO ad n g f sh sv bv ++ mWld cI cZ am nm gm) := hD
  have hFc := free_left hDq hS hA
  have hKc := hK.sub (tys' := [(cI, .int), (cO, .object "DotBench$Sheet")]) [0, 1] rfl
  refine va_calli (va_runV (As := [.int (xs (11 * i + 1)), .int (xs (11 * i + 2)), .int (xs (11 * i + 3))]) (rest := []) ⟨hx, hb, hml, hown, hts⟩ (w_X8_dot l D H.size cI cO ad n g f sh sv bv hok (xs (11 * i + 1)) (xs (11 * i + 2)) (xs (11 * i + 3))) (cwV 3 hts (gV bw_615 bw_323 bw_324 bw_223 bw_322) rfl rfl rfl (by decide +kernel) ⟨Nat.le_of_ble_eq_true rfl, Nat.le_of_ble_eq_true rfl⟩) ⟨cP_blind, va_recv hKc (P_left hPq) (ci := 8) (q0 := 0) rfl rfl, cP_at (P_left hPq) hKc (D_left hDq) hN⟩ rfl rfl hl.1 rfl (lv_room (Nat.le_of_ble_eq_true rfl)) dL_law_929 ⟨(show 36 + 4 * i + 0 ≤ 135154 by omega), (show 33710 + 8195 * i + 0 ≤ 8696788 by omega)⟩) hS (fun q _ h => hFc q h) hFc (fun r_1 u9 t9 H1 locs ht hvm hr_1 hB hz1 hk1 hS => ?_)
  obtain ⟨w1, ⟨n2, g2, f2, sh2, sv2, bv2, hok2, hrl2, rfl⟩, hP1, hD1⟩ := hB
  rw [ht] at hP1
  obtain ⟨hP, hD⟩ := my_joinM hPq hDq hk1 hFc hP1 hD1
  clear hz1 hk1 hFc hKc hPq hDq
  generalize H1 = H at hP hS ⊢
  have hP : va_P D vwCl (cWld cI cO ad n2 g2 f2 sh2 sv2 bv2 ++ mWld cI cZ am nm gm) H := hP
  have hD : va_D (fun q : Nat => s.heap.size ≤ q) (cWld cI cO ad n2 g2 f2 sh2 sv2 bv2 ++ mWld cI cZ am nm gm) := hD
  refine lv_aload_n hx hb dL_law_932 rfl (lv_at hl 1 rfl) ?_
  refine lv_aload_n hx hb dL_law_933 rfl (lv_at hl 3 rfl) ?_
  refine lv_iload_n hx hb dL_law_934 rfl (lv_at hl 0 rfl) ?_
  refine lv_iconst (v := 1) hx hb dL_law_935 (by decide) ?_
  refine lv_iadd hx hb dL_law_936 ?_
  refine my_fold (v := nI (11 * i + 1)) (show nI (11 * i) + nI 1 = _ from nI_add _ _) ?_
  refine va_sld hx hb hX hbl hbA hS (i := nI (11 * i + 1)) (vp_in_nI (by omega) (by omega)) dL_law_937 ?_
  refine my_topv (v := .int (xs (11 * i + 1))) (by rw [nI_clamp (by omega)]) ?_
  refine lv_aload_n hx hb dL_law_938 rfl (lv_at hl 3 rfl) ?_
  refine lv_iload_n hx hb dL_law_939 rfl (lv_at hl 0 rfl) ?_
  refine lv_iconst (v := 2) hx hb dL_law_940 (by decide) ?_
  refine lv_iadd hx hb dL_law_941 ?_
  refine my_fold (v := nI (11 * i + 2)) (show nI (11 * i) + nI 2 = _ from nI_add _ _) ?_
  refine va_sld hx hb hX hbl hbA hS (i := nI (11 * i + 2)) (vp_in_nI (by omega) (by omega)) dL_law_942 ?_
  refine my_topv (v := .int (xs (11 * i + 2))) (by rw [nI_clamp (by omega)]) ?_
  refine lv_aload_n hx hb dL_law_943 rfl (lv_at hl 3 rfl) ?_
  refine lv_iload_n hx hb dL_law_944 rfl (lv_at hl 0 rfl) ?_
  refine lv_iconst (v := 3) hx hb dL_law_945 (by decide) ?_
  refine lv_iadd hx hb dL_law_946 ?_
  refine my_fold (v := nI (11 * i + 3)) (show nI (11 * i) + nI 3 = _ from nI_add _ _) ?_
  refine va_sld hx hb hX hbl hbA hS (i := nI (11 * i + 3)) (vp_in_nI (by omega) (by omega)) dL_law_947 ?_
  refine my_topv (v := .int (xs (11 * i + 3))) (by rw [nI_clamp (by omega)]) ?_
  have hPq : va_P D vwCl (mWld cI cZ am nm gm ++ cWld cI cO ad n2 g2 f2 sh2 sv2 bv2) H := P_perm List.perm_append_comm hP
  have hDq : va_D (fun q : Nat => s.heap.size ≤ q) (mWld cI cZ am nm gm ++ cWld cI cO ad n2 g2 f2 sh2 sv2 bv2) := D_perm List.perm_append_comm hD
  have hFc := free_left hDq hS hA
  have hKc := hK.sub (tys' := [(cI, .int), (cZ, .boolean)]) [0, 2] rfl
  refine va_calli (va_runV (As := [.int (xs (11 * i + 1)), .int (xs (11 * i + 2)), .int (xs (11 * i + 3))]) (rest := [.int r_1]) ⟨hx, hb, hml, hown, hts⟩ (w_X9_dot l D H.size cI cZ am nm gm hom (xs (11 * i + 1)) (xs (11 * i + 2)) (xs (11 * i + 3))) (cwV 3 hts (gV bw_616 bw_569 bw_570 bw_391 bw_568) rfl rfl rfl (by decide +kernel) ⟨Nat.le_of_ble_eq_true rfl, Nat.le_of_ble_eq_true rfl⟩) ⟨cP_blind, va_recv hKc (P_left hPq) (ci := 9) (q0 := 0) rfl rfl, cP_at (P_left hPq) hKc (D_left hDq) hN⟩ rfl rfl hl.1 rfl (lv_room (Nat.le_of_ble_eq_true rfl)) dL_law_948 ⟨(show 36 + 4 * i + 0 + 0 ≤ 135154 by omega), (show 33710 + 8195 * i + 0 + 0 ≤ 8696788 by omega)⟩) hS (fun q _ h => hFc q h) hFc (fun r_3 u9 t9 H1 locs ht hvm hr_3 hB hz1 hk1 hS => ?_)
  obtain ⟨w1, ⟨nm4, gm4, hom4, hrl4, rfl⟩, hP1, hD1⟩ := hB
  rw [ht] at hP1
  obtain ⟨hP, hD⟩ := my_joinM hPq hDq hk1 hFc hP1 hD1
  have hP := P_perm (List.perm_append_comm (l₁ := mWld cI cZ am nm4 gm4) (l₂ := cWld cI cO ad n2 g2 f2 sh2 sv2 bv2)) hP
  have hD := D_perm (List.perm_append_comm (l₁ := mWld cI cZ am nm4 gm4) (l₂ := cWld cI cO ad n2 g2 f2 sh2 sv2 bv2)) hD
  clear hz1 hk1 hFc hKc hPq hDq
  generalize H1 = H at hP hS ⊢
  have hP : va_P D vwCl (cWld cI cO ad n2 g2 f2 sh2 sv2 bv2 ++ mWld cI cZ am nm4 gm4) H := hP
  have hD : va_D (fun q : Nat => s.heap.size ≤ q) (cWld cI cO ad n2 g2 f2 sh2 sv2 bv2 ++ mWld cI cZ am nm4 gm4) := hD
  refine lv_icmp_eq (tgt := 1167) hx hb dL_law_951 (by decide) (fun c_5 => ?_) (fun c_5 => ?_)
  · skip
    have f_6 : r_1.toInt = r_3.toInt := f_eq rfl rfl c_5
    refine W.widen (k := 36 + 4 * i + 4) (n := 33710 + 8195 * i + 8195) (by omega) (by omega) ?_
    exact hnext n2 g2 f2 sh2 sv2 bv2 nm4 gm4 _ _ _ hok2 hom4 (RW_c hpr hrl2 hrl4) hP hD hS hl
  · skip
    have heq : r_1 = r_3 := (hr_1.trans (dt_ok (k := xs (11 * i + 1)) (x := xs (11 * i + 2)) (y := xs (11 * i + 3)) hpr hok hom)).trans hr_3.symm
    exact absurd heq c_5
