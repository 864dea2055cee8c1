set_option maxHeartbeats 1000000 in
set_option maxRecDepth 100000 in
theorem law_op_16 {p : Program} {e : Env} {s : State} {m : MethodId} {below : List Frame} {meth : Method} {c : Code} (l : Launch) {b L : Nat} {xs : Nat → Int32} (C0 : lw_At p s m meth c b L xs) (hN : nW s) {D : va_G} {cI cO cZ : ClassId} (hK : va_K D vwCl [(cI, .int), (cO, .object "DotBench$Sheet"), (cZ, .boolean)] s) {ad am : Nat → Nat} (hL : L ≤ 5632) {i : Nat} (hi : 11 * i + 11 ≤ L) {n : Nat → Int32} {g : Nat → Nat → Int32} {f : Nat → Option Nat} {sh : Nat → Option Sh} {sv : Option Sp} {bv : Option Sh} {nm : Nat → Int32} {gm : Nat → Nat → Int32} (hok : okC n f sh) (hom : okM nm gm) (hpr : RW n g (fun k => vO (sh k)) nm gm) {H : Heap} {locs : List Loc} (hP : va_P D vwCl (cWld cI cO ad n g f sh sv bv ++ mWld cI cZ am nm gm) H) (hD : va_D (fun q : Nat => s.heap.size ≤ q) (cWld cI cO ad n g f sh sv bv ++ mWld cI cZ am nm gm)) (hS : va_S (fun q : Nat => s.heap.size ≤ q) s.heap H locs) {ls : Array Slot} (hl : lv_has ls 4 [(3, .int (nI (11 * i))), (2, .ref (am 0)), (1, .ref (ad 0)), (0, .ref b)]) (hnext : ∀ (n : Nat → Int32) (g : Nat → Nat → Int32) (f : Nat → Option Nat) (sh : Nat → Option Sh) (sv : Option Sp) (bv : Option Sh) (nm : Nat → Int32) (gm : Nat → Nat → Int32) (H : Heap) (locs : List Loc) (ls : Array Slot), okC n f sh → okM nm gm → RW n g (fun k => vO (sh k)) nm gm → va_P D vwCl (cWld cI cO ad n g f sh sv bv ++ mWld cI cZ am nm gm) H → va_D (fun q : Nat => s.heap.size ≤ q) (cWld cI cO ad n g f sh sv bv ++ mWld cI cZ am nm gm) → va_S (fun q : Nat => s.heap.size ≤ q) s.heap H locs → lv_has ls 4 [(3, .int (nI (11 * i))), (2, .ref (am 0)), (1, .ref (ad 0)), (0, .ref b)] → W p l e room_1 s m #[Value.ref b] below meth c H locs (36 + 4 * i + 4) (33710 + 8195 * i + 8195) (lw_Z below #[Value.ref b] s) (F0 m 1167 ls [])) : W p l e room_1 s m #[Value.ref b] below meth c H locs (36 + 4 * i) (33710 + 8195 * i) (lw_Z below #[Value.ref b] s) (F0 m 956 ls []) := by
  obtain ⟨hx, hb, hr, hml, hown, hts0, hX, hbl, hlocks, hgv⟩ := id C0
  have hts : ∀ w ∈ bigW, w.before #[Value.ref b] s = true := fun w h => hts0 w (bigW_in w h).1
  have hown : s.vm.findClass RL = some m.cls := hown
  have hA : ∀ q : Nat, s.heap.size ≤ q → (fun q : Nat => s.heap.size ≤ q) q := fun _ h => h
  have hbA : ¬ (fun q : Nat => s.heap.size ≤ q) b := Nat.not_le.mpr hbl
  refine lv_aload_n hx hb dL_law_956 rfl (lv_at hl 2 rfl) ?_
  refine lv_aload_n hx hb dL_law_957 rfl (lv_at hl 3 rfl) ?_
  refine lv_iload_n hx hb dL_law_958 rfl (lv_at hl 0 rfl) ?_
  refine lv_iconst (v := 1) hx hb dL_law_959 (by decide) ?_
  refine lv_iadd hx hb dL_law_960 ?_
  refine my_fold (v := nI (11 * i + 1)) (show nI (11 * i) + nI 1 = _ from nI_add _ _) ?_
  refine va_sld hx hb hX hbl hbA hS (i := nI (11 * i + 1)) (vp_in_nI (by omega) (by omega)) dL_law_961 ?_
  refine my_topv (v := .int (xs (11 * i + 1))) (by rw [nI_clamp (by omega)]) ?_
  refine lv_aload_n hx hb dL_law_962 rfl (lv_at hl 3 rfl) ?_
  refine lv_iload_n hx hb dL_law_963 rfl (lv_at hl 0 rfl) ?_
  refine lv_iconst (v := 2) hx hb dL_law_964 (by decide) ?_
  refine lv_iadd hx hb dL_law_965 ?_
  refine my_fold (v := nI (11 * i + 2)) (show nI (11 * i) + nI 2 = _ from nI_add _ _) ?_
  refine va_sld hx hb hX hbl hbA hS (i := nI (11 * i + 2)) (vp_in_nI (by omega) (by omega)) dL_law_966 ?_
  refine my_topv (v := .int (xs (11 * i + 2))) (by rw [nI_clamp (by omega)]) ?_
  have hPq : va_P D vwCl (cWld cI cO ad n g f sh sv bv ++ mWld cI cZ am nm gm) H := hP
  have hDq : va_D (fun q : Nat => s.heap.size ≤ q) (cWld cI cO ad n g f sh sv bv ++ mWld cI cZ am nm gm) := hD
  have hFc := free_left hDq hS hA
  have hKc := hK.sub (tys' := [(cI, .int), (cO, .object "DotBench$Sheet")]) [0, 1] rfl
  refine va_calli (va_runV (As := [.int (xs (11 * i + 1)), .int (xs (11 * i + 2))]) (rest := []) ⟨hx, hb, hml, hown, hts⟩ (w_X8_count l D H.size cI cO ad n g f sh sv bv hok (xs (11 * i + 1)) (xs (11 * i + 2))) (cwV 2 hts (gV bw_617 bw_327 bw_328 bw_223 bw_326) rfl rfl rfl (by decide +kernel) ⟨Nat.le_of_ble_eq_true rfl, Nat.le_of_ble_eq_true rfl⟩) ⟨cP_blind, va_recv hKc (P_left hPq) (ci := 8) (q0 := 0) rfl rfl, cP_at (P_left hPq) hKc (D_left hDq) hN⟩ rfl rfl hl.1 rfl (lv_room (Nat.le_of_ble_eq_true rfl)) dL_law_967 ⟨(show 36 + 4 * i + 0 ≤ 135154 by omega), (show 33710 + 8195 * i + 0 ≤ 8696788 by omega)⟩) hS (fun q _ h => hFc q h) hFc (fun r_1 u9 t9 H1 locs ht hvm hr_1 hB hz1 hk1 hS => ?_)
  obtain ⟨w1, ⟨n2, g2, f2, sh2, sv2, bv2, hok2, hrl2, rfl⟩, hP1, hD1⟩ := hB
  rw [ht] at hP1
  obtain ⟨hP, hD⟩ := my_joinM hPq hDq hk1 hFc hP1 hD1
  clear hz1 hk1 hFc hKc hPq hDq
  generalize H1 = H at hP hS ⊢
  have hP : va_P D vwCl (cWld cI cO ad n2 g2 f2 sh2 sv2 bv2 ++ mWld cI cZ am nm gm) H := hP
  have hD : va_D (fun q : Nat => s.heap.size ≤ q) (cWld cI cO ad n2 g2 f2 sh2 sv2 bv2 ++ mWld cI cZ am nm gm) := hD
  refine lv_aload_n hx hb dL_law_970 rfl (lv_at hl 1 rfl) ?_
  refine lv_aload_n hx hb dL_law_971 rfl (lv_at hl 3 rfl) ?_
  refine lv_iload_n hx hb dL_law_972 rfl (lv_at hl 0 rfl) ?_
  refine lv_iconst (v := 1) hx hb dL_law_973 (by decide) ?_
  refine lv_iadd hx hb dL_law_974 ?_
  refine my_fold (v := nI (11 * i + 1)) (show nI (11 * i) + nI 1 = _ from nI_add _ _) ?_
  refine va_sld hx hb hX hbl hbA hS (i := nI (11 * i + 1)) (vp_in_nI (by omega) (by omega)) dL_law_975 ?_
  refine my_topv (v := .int (xs (11 * i + 1))) (by rw [nI_clamp (by omega)]) ?_
  refine lv_aload_n hx hb dL_law_976 rfl (lv_at hl 3 rfl) ?_
  refine lv_iload_n hx hb dL_law_977 rfl (lv_at hl 0 rfl) ?_
  refine lv_iconst (v := 2) hx hb dL_law_978 (by decide) ?_
  refine lv_iadd hx hb dL_law_979 ?_
  refine my_fold (v := nI (11 * i + 2)) (show nI (11 * i) + nI 2 = _ from nI_add _ _) ?_
  refine va_sld hx hb hX hbl hbA hS (i := nI (11 * i + 2)) (vp_in_nI (by omega) (by omega)) dL_law_980 ?_
  refine my_topv (v := .int (xs (11 * i + 2))) (by rw [nI_clamp (by omega)]) ?_
  have hPq : va_P D vwCl (mWld cI cZ am nm gm ++ cWld cI cO ad n2 g2 f2 sh2 sv2 bv2) H := P_perm List.perm_append_comm hP
  have hDq : va_D (fun q : Nat => s.heap.size ≤ q) (mWld cI cZ am nm gm ++ cWld cI cO ad n2 g2 f2 sh2 sv2 bv2) := D_perm List.perm_append_comm hD
  have hFc := free_left hDq hS hA
  have hKc := hK.sub (tys' := [(cI, .int), (cZ, .boolean)]) [0, 2] rfl
  refine va_calli (va_runV (As := [.int (xs (11 * i + 1)), .int (xs (11 * i + 2))]) (rest := [.int r_1]) ⟨hx, hb, hml, hown, hts⟩ (w_X9_count l D H.size cI cZ am nm gm hom (xs (11 * i + 1)) (xs (11 * i + 2))) (cwV 2 hts (gV bw_618 bw_572 bw_573 bw_391 bw_571) rfl rfl rfl (by decide +kernel) ⟨Nat.le_of_ble_eq_true rfl, Nat.le_of_ble_eq_true rfl⟩) ⟨cP_blind, va_recv hKc (P_left hPq) (ci := 9) (q0 := 0) rfl rfl, cP_at (P_left hPq) hKc (D_left hDq) hN⟩ rfl rfl hl.1 rfl (lv_room (Nat.le_of_ble_eq_true rfl)) dL_law_981 ⟨(show 36 + 4 * i + 0 + 0 ≤ 135154 by omega), (show 33710 + 8195 * i + 0 + 0 ≤ 8696788 by omega)⟩) hS (fun q _ h => hFc q h) hFc (fun r_3 u9 t9 H1 locs ht hvm hr_3 hB hz1 hk1 hS => ?_)
  obtain ⟨w1, ⟨nm4, gm4, hom4, hrl4, rfl⟩, hP1, hD1⟩ := hB
  rw [ht] at hP1
  obtain ⟨hP, hD⟩ := my_joinM hPq hDq hk1 hFc hP1 hD1
  have hP := P_perm (List.perm_append_comm (l₁ := mWld cI cZ am nm4 gm4) (l₂ := cWld cI cO ad n2 g2 f2 sh2 sv2 bv2)) hP
  have hD := D_perm (List.perm_append_comm (l₁ := mWld cI cZ am nm4 gm4) (l₂ := cWld cI cO ad n2 g2 f2 sh2 sv2 bv2)) hD
  clear hz1 hk1 hFc hKc hPq hDq
  generalize H1 = H at hP hS ⊢
  have hP : va_P D vwCl (cWld cI cO ad n2 g2 f2 sh2 sv2 bv2 ++ mWld cI cZ am nm4 gm4) H := hP
  have hD : va_D (fun q : Nat => s.heap.size ≤ q) (cWld cI cO ad n2 g2 f2 sh2 sv2 bv2 ++ mWld cI cZ am nm4 gm4) := hD
  refine lv_icmp_eq (tgt := 1167) hx hb dL_law_984 (by decide) (fun c_5 => ?_) (fun c_5 => ?_)
  · skip
    have f_6 : r_1.toInt = r_3.toInt := f_eq rfl rfl c_5
    refine W.widen (k := 36 + 4 * i + 4) (n := 33710 + 8195 * i + 8195) (by omega) (by omega) ?_
    exact hnext n2 g2 f2 sh2 sv2 bv2 nm4 gm4 _ _ _ hok2 hom4 (RW_c hpr hrl2 hrl4) hP hD hS hl
  · skip
    have heq : r_1 = r_3 := (hr_1.trans (ct_ok (k := xs (11 * i + 1)) (vl := xs (11 * i + 2)) hpr hok hom)).trans hr_3.symm
    exact absurd heq c_5

set_option maxHeartbeats 1000000 in
set_option maxRecDepth 100000 in
theorem law_op_17 {p : Program} {e : Env} {s : State} {m : MethodId} {below : List Frame} {meth : Method} {c : Code} (l : Launch) {b L : Nat} {xs : Nat → Int32} (C0 : lw_At p s m meth c b L xs) (hN : nW s) {D : va_G} {cI cO cZ : ClassId} (hK : va_K D vwCl [(cI, .int), (cO, .object "DotBench$Sheet"), (cZ, .boolean)] s) {ad am : Nat → Nat} (hL : L ≤ 5632) {i : Nat} (hi : 11 * i + 11 ≤ L) {n : Nat → Int32} {g : Nat → Nat → Int32} {f : Nat → Option Nat} {sh : Nat → Option Sh} {sv : Option Sp} {bv : Option Sh} {nm : Nat → Int32} {gm : Nat → Nat → Int32} (hok : okC n f sh) (hom : okM nm gm) (hpr : RW n g (fun k => vO (sh k)) nm gm) {H : Heap} {locs : List Loc} (hP : va_P D vwCl (cWld cI cO ad n g f sh sv bv ++ mWld cI cZ am nm gm) H) (hD : va_D (fun q : Nat => s.heap.size ≤ q) (cWld cI cO ad n g f sh sv bv ++ mWld cI cZ am nm gm)) (hS : va_S (fun q : Nat => s.heap.size ≤ q) s.heap H locs) {ls : Array Slot} (hl : lv_has ls 4 [(3, .int (nI (11 * i))), (2, .ref (am 0)), (1, .ref (ad 0)), (0, .ref b)]) (hnext : ∀ (n : Nat → Int32) (g : Nat → Nat → Int32) (f : Nat → Option Nat) (sh : Nat → Option Sh) (sv : Option Sp) (bv : Option Sh) (nm : Nat → Int32) (gm : Nat → Nat → Int32) (H : Heap) (locs : List Loc) (ls : Array Slot), okC n f sh → okM nm gm → RW n g (fun k => vO (sh k)) nm gm → va_P D vwCl (cWld cI cO ad n g f sh sv bv ++ mWld cI cZ am nm gm) H → va_D (fun q : Nat => s.heap.size ≤ q) (cWld cI cO ad n g f sh sv bv ++ mWld cI cZ am nm gm) → va_S (fun q : Nat => s.heap.size ≤ q) s.heap H locs → lv_has ls 4 [(3, .int (nI (11 * i))), (2, .ref (am 0)), (1, .ref (ad 0)), (0, .ref b)] → W p l e room_1 s m #[Value.ref b] below meth c H locs (36 + 4 * i + 4) (33710 + 8195 * i + 8195) (lw_Z below #[Value.ref b] s) (F0 m 1167 ls [])) : W p l e room_1 s m #[Value.ref b] below meth c H locs (36 + 4 * i) (33710 + 8195 * i) (lw_Z below #[Value.ref b] s) (F0 m 989 ls []) := by
  obtain ⟨hx, hb, hr, hml, hown, hts0, hX, hbl, hlocks, hgv⟩ := id C0
  have hts : ∀ w ∈ bigW, w.before #[Value.ref b] s = true := fun w h => hts0 w (bigW_in w h).1
  have hown : s.vm.findClass RL = some m.cls := hown
  have hA : ∀ q : Nat, s.heap.size ≤ q → (fun q : Nat => s.heap.size ≤ q) q := fun _ h => h
  have hbA : ¬ (fun q : Nat => s.heap.size ≤ q) b := Nat.not_le.mpr hbl
  refine lv_aload_n hx hb dL_law_989 rfl (lv_at hl 2 rfl) ?_
  refine lv_aload_n hx hb dL_law_990 rfl (lv_at hl 3 rfl) ?_
  refine lv_iload_n hx hb dL_law_991 rfl (lv_at hl 0 rfl) ?_
  refine lv_iconst (v := 1) hx hb dL_law_992 (by decide) ?_
  refine lv_iadd hx hb dL_law_993 ?_
  refine my_fold (v := nI (11 * i + 1)) (show nI (11 * i) + nI 1 = _ from nI_add _ _) ?_
  refine va_sld hx hb hX hbl hbA hS (i := nI (11 * i + 1)) (vp_in_nI (by omega) (by omega)) dL_law_994 ?_
  refine my_topv (v := .int (xs (11 * i + 1))) (by rw [nI_clamp (by omega)]) ?_
  refine lv_aload_n hx hb dL_law_995 rfl (lv_at hl 3 rfl) ?_
  refine lv_iload_n hx hb dL_law_996 rfl (lv_at hl 0 rfl) ?_
  refine lv_iconst (v := 2) hx hb dL_law_997 (by decide) ?_
  refine lv_iadd hx hb dL_law_998 ?_
  refine my_fold (v := nI (11 * i + 2)) (show nI (11 * i) + nI 2 = _ from nI_add _ _) ?_
  refine va_sld hx hb hX hbl hbA hS (i := nI (11 * i + 2)) (vp_in_nI (by omega) (by omega)) dL_law_999 ?_
  refine my_topv (v := .int (xs (11 * i + 2))) (by rw [nI_clamp (by omega)]) ?_
  refine lv_aload_n hx hb dL_law_1000 rfl (lv_at hl 3 rfl) ?_
  refine lv_iload_n hx hb dL_law_1001 rfl (lv_at hl 0 rfl) ?_
  refine lv_iconst (v := 3) hx hb dL_law_1002 (by decide) ?_
  refine lv_iadd hx hb dL_law_1003 ?_
  refine my_fold (v := nI (11 * i + 3)) (show nI (11 * i) + nI 3 = _ from nI_add _ _) ?_
  refine va_sld hx hb hX hbl hbA hS (i := nI (11 * i + 3)) (vp_in_nI (by omega) (by omega)) dL_law_1004 ?_
  refine my_topv (v := .int (xs (11 * i + 3))) (by rw [nI_clamp (by omega)]) ?_
  refine lv_aload_n hx hb dL_law_1005 rfl (lv_at hl 3 rfl) ?_
  refine lv_iload_n hx hb dL_law_1006 rfl (lv_at hl 0 rfl) ?_
  refine lv_iconst (v := 4) hx hb dL_law_1007 (by decide) ?_
  refine lv_iadd hx hb dL_law_1008 ?_
  refine my_fold (v := nI (11 * i + 4)) (show nI (11 * i) + nI 4 = _ from nI_add _ _) ?_
  refine va_sld hx hb hX hbl hbA hS (i := nI (11 * i + 4)) (vp_in_nI (by omega) (by omega)) dL_law_1009 ?_
  refine my_topv (v := .int (xs (11 * i + 4))) (by rw [nI_clamp (by omega)]) ?_
  refine lv_if_eq (tgt := 1017) hx hb dL_law_1010 (by decide) (fun c_1 => ?_) (fun c_1 => ?_)
  · skip
    have f_2 : (xs (11 * i + 4)).toInt = 0 := f_eq rfl (by decide) c_1
    refine lv_iconst (v := 0) hx hb dL_law_1017 (by decide) ?_
    have hPq : va_P D vwCl (cWld cI cO ad n g f sh sv bv ++ mWld cI cZ am nm gm) H := hP
    have hDq : va_D (fun q : Nat => s.heap.size ≤ q) (cWld cI cO ad n g f sh sv bv ++ mWld cI cZ am nm gm) := hD
    have hFc := free_left hDq hS hA
    have hKc := hK.sub (tys' := [(cI, .int), (cO, .object "DotBench$Sheet")]) [0, 1] rfl
    refine va_calli (va_runV (As := [.int (xs (11 * i + 1)), .int (xs (11 * i + 2)), .int (xs (11 * i + 3)), .int 0]) (rest := []) ⟨hx, hb, hml, hown, hts⟩ (w_X8_region l D H.size cI cO ad n g f sh sv bv hok (xs (11 * i + 1)) (xs (11 * i + 2)) (xs (11 * i + 3)) 0) (cwV 4 hts (gV bw_619 bw_330 bw_331 bw_223 bw_329) rfl rfl rfl (by decide +kernel) ⟨Nat.le_of_ble_eq_true rfl, Nat.le_of_ble_eq_true rfl⟩) ⟨cP_blind, va_recv hKc (P_left hPq) (ci := 8) (q0 := 0) rfl rfl, cP_at (P_left hPq) hKc (D_left hDq) hN⟩ rfl rfl hl.1 rfl (lv_room (Nat.le_of_ble_eq_true rfl)) dL_law_1018 ⟨(show 36 + 4 * i + 3 ≤ 135154 by omega), (show 33710 + 8195 * i + 8195 ≤ 8696788 by omega)⟩) hS (fun q _ h => hFc q h) hFc (fun r_3 u9 t9 H1 locs ht hvm hr_3 hB hz1 hk1 hS => ?_)
    obtain ⟨w1, ⟨n4, g4, f4, sh4, sv4, bv4, hok4, hrl4, rfl⟩, hP1, hD1⟩ := hB
    rw [ht] at hP1
    obtain ⟨hP, hD⟩ := my_joinM hPq hDq hk1 hFc hP1 hD1
    clear hz1 hk1 hFc hKc hPq hDq
    generalize H1 = H at hP hS ⊢
    have hP : va_P D vwCl (cWld cI cO ad n4 g4 f4 sh4 sv4 bv4 ++ mWld cI cZ am nm gm) H := hP
    have hD : va_D (fun q : Nat => s.heap.size ≤ q) (cWld cI cO ad n4 g4 f4 sh4 sv4 bv4 ++ mWld cI cZ am nm gm) := hD
    refine lv_aload_n hx hb dL_law_1021 rfl (lv_at hl 1 rfl) ?_
    refine lv_aload_n hx hb dL_law_1022 rfl (lv_at hl 3 rfl) ?_
    refine lv_iload_n hx hb dL_law_1023 rfl (lv_at hl 0 rfl) ?_
    refine lv_iconst (v := 1) hx hb dL_law_1024 (by decide) ?_
    refine lv_iadd hx hb dL_law_1025 ?_
    refine my_fold (v := nI (11 * i + 1)) (show nI (11 * i) + nI 1 = _ from nI_add _ _) ?_
    refine va_sld hx hb hX hbl hbA hS (i := nI (11 * i + 1)) (vp_in_nI (by omega) (by omega)) dL_law_1026 ?_
    refine my_topv (v := .int (xs (11 * i + 1))) (by rw [nI_clamp (by omega)]) ?_
    refine lv_aload_n hx hb dL_law_1027 rfl (lv_at hl 3 rfl) ?_
    refine lv_iload_n hx hb dL_law_1028 rfl (lv_at hl 0 rfl) ?_
    refine lv_iconst (v := 2) hx hb dL_law_1029 (by decide) ?_
    refine lv_iadd hx hb dL_law_1030 ?_
    refine my_fold (v := nI (11 * i + 2)) (show nI (11 * i) + nI 2 = _ from nI_add _ _) ?_
    refine va_sld hx hb hX hbl hbA hS (i := nI (11 * i + 2)) (vp_in_nI (by omega) (by omega)) dL_law_1031 ?_
    refine my_topv (v := .int (xs (11 * i + 2))) (by rw [nI_clamp (by omega)]) ?_
    refine lv_aload_n hx hb dL_law_1032 rfl (lv_at hl 3 rfl) ?_
    refine lv_iload_n hx hb dL_law_1033 rfl (lv_at hl 0 rfl) ?_
    refine lv_iconst (v := 3) hx hb dL_law_1034 (by decide) ?_
    refine lv_iadd hx hb dL_law_1035 ?_
    refine my_fold (v := nI (11 * i + 3)) (show nI (11 * i) + nI 3 = _ from nI_add _ _) ?_
    refine va_sld hx hb hX hbl hbA hS (i := nI (11 * i + 3)) (vp_in_nI (by omega) (by omega)) dL_law_1036 ?_
    refine my_topv (v := .int (xs (11 * i + 3))) (by rw [nI_clamp (by omega)]) ?_
    refine lv_aload_n hx hb dL_law_1037 rfl (lv_at hl 3 rfl) ?_
    refine lv_iload_n hx hb dL_law_1038 rfl (lv_at hl 0 rfl) ?_
    refine lv_iconst (v := 4) hx hb dL_law_1039 (by decide) ?_
    refine lv_iadd hx hb dL_law_1040 ?_
    refine my_fold (v := nI (11 * i + 4)) (show nI (11 * i) + nI 4 = _ from nI_add _ _) ?_
    refine va_sld hx hb hX hbl hbA hS (i := nI (11 * i + 4)) (vp_in_nI (by omega) (by omega)) dL_law_1041 ?_
    refine my_topv (v := .int (xs (11 * i + 4))) (by rw [nI_clamp (by omega)]) ?_
    refine lv_if_eq (tgt := 1049) hx hb dL_law_1042 (by decide) (fun c_5 => ?_) (fun c_5 => ?_)
    · skip
      have f_6 : (xs (11 * i + 4)).toInt = 0 := f_eq rfl (by decide) c_5
      refine lv_iconst (v := 0) hx hb dL_law_1049 (by decide) ?_
      have hPq : va_P D vwCl (mWld cI cZ am nm gm ++ cWld cI cO ad n4 g4 f4 sh4 sv4 bv4) H := P_perm List.perm_append_comm hP
      have hDq : va_D (fun q : Nat => s.heap.size ≤ q) (mWld cI cZ am nm gm ++ cWld cI cO ad n4 g4 f4 sh4 sv4 bv4) := D_perm List.perm_append_comm hD
      have hFc := free_left hDq hS hA
      have hKc := hK.sub (tys' := [(cI, .int), (cZ, .boolean)]) [0, 2] rfl
      refine va_calli (va_runV (As := [.int (xs (11 * i + 1)), .int (xs (11 * i + 2)), .int (xs (11 * i + 3)), .int 0]) (rest := [.int r_3]) ⟨hx, hb, hml, hown, hts⟩ (w_X9_region l D H.size cI cZ am nm gm hom (xs (11 * i + 1)) (xs (11 * i + 2)) (xs (11 * i + 3)) 0) (cwV 4 hts (gV bw_620 bw_557 bw_558 bw_391 bw_556) rfl rfl rfl (by decide +kernel) ⟨Nat.le_of_ble_eq_true rfl, Nat.le_of_ble_eq_true rfl⟩) ⟨cP_blind, va_recv hKc (P_left hPq) (ci := 9) (q0 := 0) rfl rfl, cP_at (P_left hPq) hKc (D_left hDq) hN⟩ rfl rfl hl.1 rfl (lv_room (Nat.le_of_ble_eq_true rfl)) dL_law_1050 ⟨(show 36 + 4 * i + 3 + 0 ≤ 135154 by omega), (show 33710 + 8195 * i + 8195 + 0 ≤ 8696788 by omega)⟩) hS (fun q _ h => hFc q h) hFc (fun r_7 u9 t9 H1 locs ht hvm hr_7 hB hz1 hk1 hS => ?_)
      obtain ⟨w1, ⟨nm8, gm8, hom8, hrl8, rfl⟩, hP1, hD1⟩ := hB
      rw [ht] at hP1
      obtain ⟨hP, hD⟩ := my_joinM hPq hDq hk1 hFc hP1 hD1
      have hP := P_perm (List.perm_append_comm (l₁ := mWld cI cZ am nm8 gm8) (l₂ := cWld cI cO ad n4 g4 f4 sh4 sv4 bv4)) hP
      have hD := D_perm (List.perm_append_comm (l₁ := mWld cI cZ am nm8 gm8) (l₂ := cWld cI cO ad n4 g4 f4 sh4 sv4 bv4)) hD
      clear hz1 hk1 hFc hKc hPq hDq
      generalize H1 = H at hP hS ⊢
      have hP : va_P D vwCl (cWld cI cO ad n4 g4 f4 sh4 sv4 bv4 ++ mWld cI cZ am nm8 gm8) H := hP
      have hD : va_D (fun q : Nat => s.heap.size ≤ q) (cWld cI cO ad n4 g4 f4 sh4 sv4 bv4 ++ mWld cI cZ am nm8 gm8) := hD
      refine lv_icmp_eq (tgt := 1167) hx hb dL_law_1053 (by decide) (fun c_9 => ?_) (fun c_9 => ?_)
      · skip
        have f_10 : r_3.toInt = r_7.toInt := f_eq rfl rfl c_9
        refine W.widen (k := 36 + 4 * i + 4) (n := 33710 + 8195 * i + 8195) (by omega) (by omega) ?_
        exact hnext n4 g4 f4 sh4 sv4 bv4 nm8 gm8 _ _ _ hok4 hom8 (RW_c hpr hrl4 hrl8) hP hD hS hl
      · skip
        have heq : r_3 = r_7 := (hr_3.trans (rg_ok (k := xs (11 * i + 1)) (x := xs (11 * i + 2)) (y := xs (11 * i + 3)) (co := 0) hpr hok hom)).trans hr_7.symm
        exact absurd heq c_9
    · skip
      exact absurd c_1 c_5
  · skip
    have f_2 : ¬ ((xs (11 * i + 4)).toInt = 0) := fn_eq rfl (by decide) c_1
    refine lv_iconst (v := 1) hx hb dL_law_1013 (by decide) ?_
    refine lv_goto (tgt := 1018) hx hb dL_law_1014 (by decide) ?_
    have hPq : va_P D vwCl (cWld cI cO ad n g f sh sv bv ++ mWld cI cZ am nm gm) H := hP
    have hDq : va_D (fun q : Nat => s.heap.size ≤ q) (cWld cI cO ad n g f sh sv bv ++ mWld cI cZ am nm gm) := hD
    have hFc := free_left hDq hS hA
    have hKc := hK.sub (tys' := [(cI, .int), (cO, .object "DotBench$Sheet")]) [0, 1] rfl
    refine va_calli (va_runV (As := [.int (xs (11 * i + 1)), .int (xs (11 * i + 2)), .int (xs (11 * i + 3)), .int 1]) (rest := []) ⟨hx, hb, hml, hown, hts⟩ (w_X8_region l D H.size cI cO ad n g f sh sv bv hok (xs (11 * i + 1)) (xs (11 * i + 2)) (xs (11 * i + 3)) 1) (cwV 4 hts (gV bw_619 bw_330 bw_331 bw_223 bw_329) rfl rfl rfl (by decide +kernel) ⟨Nat.le_of_ble_eq_true rfl, Nat.le_of_ble_eq_true rfl⟩) ⟨cP_blind, va_recv hKc (P_left hPq) (ci := 8) (q0 := 0) rfl rfl, cP_at (P_left hPq) hKc (D_left hDq) hN⟩ rfl rfl hl.1 rfl (lv_room (Nat.le_of_ble_eq_true rfl)) dL_law_1018 ⟨(show 36 + 4 * i + 3 ≤ 135154 by omega), (show 33710 + 8195 * i + 8195 ≤ 8696788 by omega)⟩) hS (fun q _ h => hFc q h) hFc (fun r_11 u9 t9 H1 locs ht hvm hr_11 hB hz1 hk1 hS => ?_)
    obtain ⟨w1, ⟨n12, g12, f12, sh12, sv12, bv12, hok12, hrl12, rfl⟩, hP1, hD1⟩ := hB
    rw [ht] at hP1
    obtain ⟨hP, hD⟩ := my_joinM hPq hDq hk1 hFc hP1 hD1
    clear hz1 hk1 hFc hKc hPq hDq
    generalize H1 = H at hP hS ⊢
    have hP : va_P D vwCl (cWld cI cO ad n12 g12 f12 sh12 sv12 bv12 ++ mWld cI cZ am nm gm) H := hP
    have hD : va_D (fun q : Nat => s.heap.size ≤ q) (cWld cI cO ad n12 g12 f12 sh12 sv12 bv12 ++ mWld cI cZ am nm gm) := hD
    refine lv_aload_n hx hb dL_law_1021 rfl (lv_at hl 1 rfl) ?_
    refine lv_aload_n hx hb dL_law_1022 rfl (lv_at hl 3 rfl) ?_
    refine lv_iload_n hx hb dL_law_1023 rfl (lv_at hl 0 rfl) ?_
    refine lv_iconst (v := 1) hx hb dL_law_1024 (by decide) ?_
    refine lv_iadd hx hb dL_law_1025 ?_
    refine my_fold (v := nI (11 * i + 1)) (show nI (11 * i) + nI 1 = _ from nI_add _ _) ?_
    refine va_sld hx hb hX hbl hbA hS (i := nI (11 * i + 1)) (vp_in_nI (by omega) (by omega)) dL_law_1026 ?_
    refine my_topv (v := .int (xs (11 * i + 1))) (by rw [nI_clamp (by omega)]) ?_
    refine lv_aload_n hx hb dL_law_1027 rfl (lv_at hl 3 rfl) ?_
    refine lv_iload_n hx hb dL_law_1028 rfl (lv_at hl 0 rfl) ?_
    refine lv_iconst (v := 2) hx hb dL_law_1029 (by decide) ?_
    refine lv_iadd hx hb dL_law_1030 ?_
    refine my_fold (v := nI (11 * i + 2)) (show nI (11 * i) + nI 2 = _ from nI_add _ _) ?_
    refine va_sld hx hb hX hbl hbA hS (i := nI (11 * i + 2)) (vp_in_nI (by omega) (by omega)) dL_law_1031 ?_
    refine my_topv (v := .int (xs (11 * i + 2))) (by rw [nI_clamp (by omega)]) ?_
    refine lv_aload_n hx hb dL_law_1032 rfl (lv_at hl 3 rfl) ?_
    refine lv_iload_n hx hb dL_law_1033 rfl (lv_at hl 0 rfl) ?_
    refine lv_iconst (v := 3) hx hb dL_law_1034 (by decide) ?_
    refine lv_iadd hx hb dL_law_1035 ?_
    refine my_fold (v := nI (11 * i + 3)) (show nI (11 * i) + nI 3 = _ from nI_add _ _) ?_
    refine va_sld hx hb hX hbl hbA hS (i := nI (11 * i + 3)) (vp_in_nI (by omega) (by omega)) dL_law_1036 ?_
    refine my_topv (v := .int (xs (11 * i + 3))) (by rw [nI_clamp (by omega)]) ?_
    refine lv_aload_n hx hb dL_law_1037 rfl (lv_at hl 3 rfl) ?_
    refine lv_iload_n hx hb dL_law_1038 rfl (lv_at hl 0 rfl) ?_
    refine lv_iconst (v := 4) hx hb dL_law_1039 (by decide) ?_
    refine lv_iadd hx hb dL_law_1040 ?_
    refine my_fold (v := nI (11 * i + 4)) (show nI (11 * i) + nI 4 = _ from nI_add _ _) ?_
    refine va_sld hx hb hX hbl hbA hS (i := nI (11 * i + 4)) (vp_in_nI (by omega) (by omega)) dL_law_1041 ?_
    refine my_topv (v := .int (xs (11 * i + 4))) (by rw [nI_clamp (by omega)]) ?_
    refine lv_if_eq (tgt := 1049) hx hb dL_law_1042 (by decide) (fun c_13 => ?_) (fun c_13 => ?_)
    · skip
      exact absurd c_13 c_1
    · skip
      have f_14 : ¬ ((xs (11 * i + 4)).toInt = 0) := fn_eq rfl (by decide) c_13
      refine lv_iconst (v := 1) hx hb dL_law_1045 (by decide) ?_
      refine lv_goto (tgt := 1050) hx hb dL_law_1046 (by decide) ?_
      have hPq : va_P D vwCl (mWld cI cZ am nm gm ++ cWld cI cO ad n12 g12 f12 sh12 sv12 bv12) H := P_perm List.perm_append_comm hP
      have hDq : va_D (fun q : Nat => s.heap.size ≤ q) (mWld cI cZ am nm gm ++ cWld cI cO ad n12 g12 f12 sh12 sv12 bv12) := D_perm List.perm_append_comm hD
      have hFc := free_left hDq hS hA
      have hKc := hK.sub (tys' := [(cI, .int), (cZ, .boolean)]) [0, 2] rfl
      refine va_calli (va_runV (As := [.int (xs (11 * i + 1)), .int (xs (11 * i + 2)), .int (xs (11 * i + 3)), .int 1]) (rest := [.int r_11]) ⟨hx, hb, hml, hown, hts⟩ (w_X9_region l D H.size cI cZ am nm gm hom (xs (11 * i + 1)) (xs (11 * i + 2)) (xs (11 * i + 3)) 1) (cwV 4 hts (gV bw_620 bw_557 bw_558 bw_391 bw_556) rfl rfl rfl (by decide +kernel) ⟨Nat.le_of_ble_eq_true rfl, Nat.le_of_ble_eq_true rfl⟩) ⟨cP_blind, va_recv hKc (P_left hPq) (ci := 9) (q0 := 0) rfl rfl, cP_at (P_left hPq) hKc (D_left hDq) hN⟩ rfl rfl hl.1 rfl (lv_room (Nat.le_of_ble_eq_true rfl)) dL_law_1050 ⟨(show 36 + 4 * i + 3 + 0 ≤ 135154 by omega), (show 33710 + 8195 * i + 8195 + 0 ≤ 8696788 by omega)⟩) hS (fun q _ h => hFc q h) hFc (fun r_15 u9 t9 H1 locs ht hvm hr_15 hB hz1 hk1 hS => ?_)
      obtain ⟨w1, ⟨nm16, gm16, hom16, hrl16, rfl⟩, hP1, hD1⟩ := hB
      rw [ht] at hP1
      obtain ⟨hP, hD⟩ := my_joinM hPq hDq hk1 hFc hP1 hD1
      have hP := P_perm (List.perm_append_comm (l₁ := mWld cI cZ am nm16 gm16) (l₂ := cWld cI cO ad n12 g12 f12 sh12 sv12 bv12)) hP
      have hD := D_perm (List.perm_append_comm (l₁ := mWld cI cZ am nm16 gm16) (l₂ := cWld cI cO ad n12 g12 f12 sh12 sv12 bv12)) hD
      clear hz1 hk1 hFc hKc hPq hDq
      generalize H1 = H at hP hS ⊢
      have hP : va_P D vwCl (cWld cI cO ad n12 g12 f12 sh12 sv12 bv12 ++ mWld cI cZ am nm16 gm16) H := hP
      have hD : va_D (fun q : Nat => s.heap.size ≤ q) (cWld cI cO ad n12 g12 f12 sh12 sv12 bv12 ++ mWld cI cZ am nm16 gm16) := hD
      refine lv_icmp_eq (tgt := 1167) hx hb dL_law_1053 (by decide) (fun c_17 => ?_) (fun c_17 => ?_)
      · skip
        have f_18 : r_11.toInt = r_15.toInt := f_eq rfl rfl c_17
        refine W.widen (k := 36 + 4 * i + 4) (n := 33710 + 8195 * i + 8195) (by omega) (by omega) ?_
        exact hnext n12 g12 f12 sh12 sv12 bv12 nm16 gm16 _ _ _ hok12 hom16 (RW_c hpr hrl12 hrl16) hP hD hS hl
      · skip
        have heq : r_11 = r_15 := (hr_11.trans (rg_ok (k := xs (11 * i + 1)) (x := xs (11 * i + 2)) (y := xs (11 * i + 3)) (co := 1) hpr hok hom)).trans hr_15.symm
        exact absurd heq c_17

set_option maxHeartbeats 1000000 in
set_option maxRecDepth 100000 in
theorem law_op_18 {p : Program} {e : Env} {s : State} {m : MethodId} {below : List Frame} {meth : Method} {c : Code} (l : Launch) {b L : Nat} {xs : Nat → Int32} (C0 : lw_At p s m meth c b L xs) (hN : nW s) {D : va_G} {cI cO cZ : ClassId} (hK : va_K D vwCl [(cI, .int), (cO, .object "DotBench$Sheet"), (cZ, .boolean)] s) {ad am : Nat → Nat} (hL : L ≤ 5632) {i : Nat} (hi : 11 * i + 11 ≤ L) {n : Nat → Int32} {g : Nat → Nat → Int32} {f : Nat → Option Nat} {sh : Nat → Option Sh} {sv : Option Sp} {bv : Option Sh} {nm : Nat → Int32} {gm : Nat → Nat → Int32} (hok : okC n f sh) (hom : okM nm gm) (hpr : RW n g (fun k => vO (sh k)) nm gm) {H : Heap} {locs : List Loc} (hP : va_P D vwCl (cWld cI cO ad n g f sh sv bv ++ mWld cI cZ am nm gm) H) (hD : va_D (fun q : Nat => s.heap.size ≤ q) (cWld cI cO ad n g f sh sv bv ++ mWld cI cZ am nm gm)) (hS : va_S (fun q : Nat => s.heap.size ≤ q) s.heap H locs) {ls : Array Slot} (hl : lv_has ls 4 [(3, .int (nI (11 * i))), (2, .ref (am 0)), (1, .ref (ad 0)), (0, .ref b)]) (hnext : ∀ (n : Nat → Int32) (g : Nat → Nat → Int32) (f : Nat → Option Nat) (sh : Nat → Option Sh) (sv : Option Sp) (bv : Option Sh) (nm : Nat → Int32) (gm : Nat → Nat → Int32) (H : Heap) (locs : List Loc) (ls : Array Slot), okC n f sh → okM nm gm → RW n g (fun k => vO (sh k)) nm gm → va_P D vwCl (cWld cI cO ad n g f sh sv bv ++ mWld cI cZ am nm gm) H → va_D (fun q : Nat => s.heap.size ≤ q) (cWld cI cO ad n g f sh sv bv ++ mWld cI cZ am nm gm) → va_S (fun q : Nat => s.heap.size ≤ q) s.heap H locs → lv_has ls 4 [(3, .int (nI (11 * i))), (2, .ref (am 0)), (1, .ref (ad 0)), (0, .ref b)] → W p l e room_1 s m #[Value.ref b] below meth c H locs (36 + 4 * i + 4) (33710 + 8195 * i + 8195) (lw_Z below #[Value.ref b] s) (F0 m 1167 ls [])) : W p l e room_1 s m #[Value.ref b] below meth c H locs (36 + 4 * i) (33710 + 8195 * i) (lw_Z below #[Value.ref b] s) (F0 m 1058 ls []) := by
  obtain ⟨hx, hb, hr, hml, hown, hts0, hX, hbl, hlocks, hgv⟩ := id C0
  have hts : ∀ w ∈ bigW, w.before #[Value.ref b] s = true := fun w h => hts0 w (bigW_in w h).1
  have hown : s.vm.findClass RL = some m.cls := hown
  have hA : ∀ q : Nat, s.heap.size ≤ q → (fun q : Nat => s.heap.size ≤ q) q := fun _ h => h
  have hbA : ¬ (fun q : Nat => s.heap.size ≤ q) b := Nat.not_le.mpr hbl
  refine lv_aload_n hx hb dL_law_1058 rfl (lv_at hl 2 rfl) ?_
  refine lv_aload_n hx hb dL_law_1059 rfl (lv_at hl 3 rfl) ?_
  refine lv_iload_n hx hb dL_law_1060 rfl (lv_at hl 0 rfl) ?_
  refine lv_iconst (v := 1) hx hb dL_law_1061 (by decide) ?_
  refine lv_iadd hx hb dL_law_1062 ?_
  refine my_fold (v := nI (11 * i + 1)) (show nI (11 * i) + nI 1 = _ from nI_add _ _) ?_
  refine va_sld hx hb hX hbl hbA hS (i := nI (11 * i + 1)) (vp_in_nI (by omega) (by omega)) dL_law_1063 ?_
  refine my_topv (v := .int (xs (11 * i + 1))) (by rw [nI_clamp (by omega)]) ?_
  refine lv_aload_n hx hb dL_law_1064 rfl (lv_at hl 3 rfl) ?_
  refine lv_iload_n hx hb dL_law_1065 rfl (lv_at hl 0 rfl) ?_
  refine lv_iconst (v := 2) hx hb dL_law_1066 (by decide) ?_
  refine lv_iadd hx hb dL_law_1067 ?_
  refine my_fold (v := nI (11 * i + 2)) (show nI (11 * i) + nI 2 = _ from nI_add _ _) ?_
  refine va_sld hx hb hX hbl hbA hS (i := nI (11 * i + 2)) (vp_in_nI (by omega) (by omega)) dL_law_1068 ?_
  refine my_topv (v := .int (xs (11 * i + 2))) (by rw [nI_clamp (by omega)]) ?_
  have hPq : va_P D vwCl (cWld cI cO ad n g f sh sv bv ++ mWld cI cZ am nm gm) H := hP
  have hDq : va_D (fun q : Nat => s.heap.size ≤ q) (cWld cI cO ad n g f sh sv bv ++ mWld cI cZ am nm gm) := hD
  have hFc := free_left hDq hS hA
  have hKc := hK.sub (tys' := [(cI, .int), (cO, .object "DotBench$Sheet")]) [0, 1] rfl
  refine va_calli (va_runV (As := [.int (xs (11 * i + 1)), .int (xs (11 * i + 2))]) (rest := []) ⟨hx, hb, hml, hown, hts⟩ (w_X8_differ l D H.size cI cO ad n g f sh sv bv hok (xs (11 * i + 1)) (xs (11 * i + 2))) (cwV 2 hts (gV bw_621 bw_333 bw_334 bw_223 bw_332) rfl rfl rfl (by decide +kernel) ⟨Nat.le_of_ble_eq_true rfl, Nat.le_of_ble_eq_true rfl⟩) ⟨cP_blind, va_recv hKc (P_left hPq) (ci := 8) (q0 := 0) rfl rfl, cP_at (P_left hPq) hKc (D_left hDq) hN⟩ rfl rfl hl.1 rfl (lv_room (Nat.le_of_ble_eq_true rfl)) dL_law_1069 ⟨(show 36 + 4 * i + 0 ≤ 135154 by omega), (show 33710 + 8195 * i + 0 ≤ 8696788 by omega)⟩) hS (fun q _ h => hFc q h) hFc (fun r_1 u9 t9 H1 locs ht hvm hr_1 hB hz1 hk1 hS => ?_)
  obtain ⟨w1, ⟨n2, g2, f2, sh2, sv2, bv2, hok2, hrl2, rfl⟩, hP1, hD1⟩ := hB
  rw [ht] at hP1
  obtain ⟨hP, hD⟩ := my_joinM hPq hDq hk1 hFc hP1 hD1
  clear hz1 hk1 hFc hKc hPq hDq
  generalize H1 = H at hP hS ⊢
  have hP : va_P D vwCl (cWld cI cO ad n2 g2 f2 sh2 sv2 bv2 ++ mWld cI cZ am nm gm) H := hP
  have hD : va_D (fun q : Nat => s.heap.size ≤ q) (cWld cI cO ad n2 g2 f2 sh2 sv2 bv2 ++ mWld cI cZ am nm gm) := hD
  refine lv_aload_n hx hb dL_law_1072 rfl (lv_at hl 1 rfl) ?_
  refine lv_aload_n hx hb dL_law_1073 rfl (lv_at hl 3 rfl) ?_
  refine lv_iload_n hx hb dL_law_1074 rfl (lv_at hl 0 rfl) ?_
  refine lv_iconst (v := 1) hx hb dL_law_1075 (by decide) ?_
  refine lv_iadd hx hb dL_law_1076 ?_
  refine my_fold (v := nI (11 * i + 1)) (show nI (11 * i) + nI 1 = _ from nI_add _ _) ?_
  refine va_sld hx hb hX hbl hbA hS (i := nI (11 * i + 1)) (vp_in_nI (by omega) (by omega)) dL_law_1077 ?_
  refine my_topv (v := .int (xs (11 * i + 1))) (by rw [nI_clamp (by omega)]) ?_
  refine lv_aload_n hx hb dL_law_1078 rfl (lv_at hl 3 rfl) ?_
  refine lv_iload_n hx hb dL_law_1079 rfl (lv_at hl 0 rfl) ?_
  refine lv_iconst (v := 2) hx hb dL_law_1080 (by decide) ?_
  refine lv_iadd hx hb dL_law_1081 ?_
  refine my_fold (v := nI (11 * i + 2)) (show nI (11 * i) + nI 2 = _ from nI_add _ _) ?_
  refine va_sld hx hb hX hbl hbA hS (i := nI (11 * i + 2)) (vp_in_nI (by omega) (by omega)) dL_law_1082 ?_
  refine my_topv (v := .int (xs (11 * i + 2))) (by rw [nI_clamp (by omega)]) ?_
  have hPq : va_P D vwCl (mWld cI cZ am nm gm ++ cWld cI cO ad n2 g2 f2 sh2 sv2 bv2) H := P_perm List.perm_append_comm hP
  have hDq : va_D (fun q : Nat => s.heap.size ≤ q) (mWld cI cZ am nm gm ++ cWld cI cO ad n2 g2 f2 sh2 sv2 bv2) := D_perm List.perm_append_comm hD
  have hFc := free_left hDq hS hA
  have hKc := hK.sub (tys' := [(cI, .int), (cZ, .boolean)]) [0, 2] rfl
  refine va_calli (va_runV (As := [.int (xs (11 * i + 1)), .int (xs (11 * i + 2))]) (rest := [.int r_1]) ⟨hx, hb, hml, hown, hts⟩ (w_X9_differ l D H.size cI cZ am nm gm hom (xs (11 * i + 1)) (xs (11 * i + 2))) (cwV 2 hts (gV bw_622 bw_575 bw_576 bw_391 bw_574) rfl rfl rfl (by decide +kernel) ⟨Nat.le_of_ble_eq_true rfl, Nat.le_of_ble_eq_true rfl⟩) ⟨cP_blind, va_recv hKc (P_left hPq) (ci := 9) (q0 := 0) rfl rfl, cP_at (P_left hPq) hKc (D_left hDq) hN⟩ rfl rfl hl.1 rfl (lv_room (Nat.le_of_ble_eq_true rfl)) dL_law_1083 ⟨(show 36 + 4 * i + 0 + 0 ≤ 135154 by omega), (show 33710 + 8195 * i + 0 + 0 ≤ 8696788 by omega)⟩) hS (fun q _ h => hFc q h) hFc (fun r_3 u9 t9 H1 locs ht hvm hr_3 hB hz1 hk1 hS => ?_)
  obtain ⟨w1, ⟨nm4, gm4, hom4, hrl4, rfl⟩, hP1, hD1⟩ := hB
  rw [ht] at hP1
  obtain ⟨hP, hD⟩ := my_joinM hPq hDq hk1 hFc hP1 hD1
  have hP := P_perm (List.perm_append_comm (l₁ := mWld cI cZ am nm4 gm4) (l₂ := cWld cI cO ad n2 g2 f2 sh2 sv2 bv2)) hP
  have hD := D_perm (List.perm_append_comm (l₁ := mWld cI cZ am nm4 gm4) (l₂ := cWld cI cO ad n2 g2 f2 sh2 sv2 bv2)) hD
  clear hz1 hk1 hFc hKc hPq hDq
  generalize H1 = H at hP hS ⊢
  have hP : va_P D vwCl (cWld cI cO ad n2 g2 f2 sh2 sv2 bv2 ++ mWld cI cZ am nm4 gm4) H := hP
  have hD : va_D (fun q : Nat => s.heap.size ≤ q) (cWld cI cO ad n2 g2 f2 sh2 sv2 bv2 ++ mWld cI cZ am nm4 gm4) := hD
  refine lv_icmp_eq (tgt := 1167) hx hb dL_law_1086 (by decide) (fun c_5 => ?_) (fun c_5 => ?_)
  · skip
    have f_6 : r_1.toInt = r_3.toInt := f_eq rfl rfl c_5
    refine W.widen (k := 36 + 4 * i + 4) (n := 33710 + 8195 * i + 8195) (by omega) (by omega) ?_
    exact hnext n2 g2 f2 sh2 sv2 bv2 nm4 gm4 _ _ _ hok2 hom4 (RW_c hpr hrl2 hrl4) hP hD hS hl
  · skip
    have heq : r_1 = r_3 := (hr_1.trans (df_ok (k := xs (11 * i + 1)) (kq := xs (11 * i + 2)) hpr hok hom)).trans hr_3.symm
    exact absurd heq c_5

set_option maxHeartbeats 1000000 in
set_option maxRecDepth 100000 in
theorem law_op_19 {p : Program} {e : Env} {s : State} {m : MethodId} {below : List Frame} {meth : Method} {c : Code} (l : Launch) {b L : Nat} {xs : Nat → Int32} (C0 : lw_At p s m meth c b L xs) (hN : nW s) {D : va_G} {cI cO cZ : ClassId} (hK : va_K D vwCl [(cI, .int), (cO, .object "DotBench$Sheet"), (cZ, .boolean)] s) {ad am : Nat → Nat} (hL : L ≤ 5632) {i : Nat} (hi : 11 * i + 11 ≤ L) {n : Nat → Int32} {g : Nat → Nat → Int32} {f : Nat → Option Nat} {sh : Nat → Option Sh} {sv : Option Sp} {bv : Option Sh} {nm : Nat → Int32} {gm : Nat → Nat → Int32} (hok : okC n f sh) (hom : okM nm gm) (hpr : RW n g (fun k => vO (sh k)) nm gm) {H : Heap} {locs : List Loc} (hP : va_P D vwCl (cWld cI cO ad n g f sh sv bv ++ mWld cI cZ am nm gm) H) (hD : va_D (fun q : Nat => s.heap.size ≤ q) (cWld cI cO ad n g f sh sv bv ++ mWld cI cZ am nm gm)) (hS : va_S (fun q : Nat => s.heap.size ≤ q) s.heap H locs) {ls : Array Slot} (hl : lv_has ls 4 [(3, .int (nI (11 * i))), (2, .ref (am 0)), (1, .ref (ad 0)), (0, .ref b)]) (hnext : ∀ (n : Nat → Int32) (g : Nat → Nat → Int32) (f : Nat → Option Nat) (sh : Nat → Option Sh) (sv : Option Sp) (bv : Option Sh) (nm : Nat → Int32) (gm : Nat → Nat → Int32) (H : Heap) (locs : List Loc) (ls : Array Slot), okC n f sh → okM nm gm → RW n g (fun k => vO (sh k)) nm gm → va_P D vwCl (cWld cI cO ad n g f sh sv bv ++ mWld cI cZ am nm gm) H → va_D (fun q : Nat => s.heap.size ≤ q) (cWld cI cO ad n g f sh sv bv ++ mWld cI cZ am nm gm) → va_S (fun q : Nat => s.heap.size ≤ q) s.heap H locs → lv_has ls 4 [(3, .int (nI (11 * i))), (2, .ref (am 0)), (1, .ref (ad 0)), (0, .ref b)] → W p l e room_1 s m #[Value.ref b] below meth c H locs (36 + 4 * i + 4) (33710 + 8195 * i + 8195) (lw_Z below #[Value.ref b] s) (F0 m 1167 ls [])) : W p l e room_1 s m #[Value.ref b] below meth c H locs (36 + 4 * i) (33710 + 8195 * i) (lw_Z below #[Value.ref b] s) (F0 m 1091 ls []) := by
  obtain ⟨hx, hb, hr, hml, hown, hts0, hX, hbl, hlocks, hgv⟩ := id C0
  have hts : ∀ w ∈ bigW, w.before #[Value.ref b] s = true := fun w h => hts0 w (bigW_in w h).1
  have hown : s.vm.findClass RL = some m.cls := hown
  have hA : ∀ q : Nat, s.heap.size ≤ q → (fun q : Nat => s.heap.size ≤ q) q := fun _ h => h
  have hbA : ¬ (fun q : Nat => s.heap.size ≤ q) b := Nat.not_le.mpr hbl
  refine lv_aload_n hx hb dL_law_1091 rfl (lv_at hl 2 rfl) ?_
  refine lv_aload_n hx hb dL_law_1092 rfl (lv_at hl 3 rfl) ?_
  refine lv_iload_n hx hb dL_law_1093 rfl (lv_at hl 0 rfl) ?_
  refine lv_iconst (v := 1) hx hb dL_law_1094 (by decide) ?_
  refine lv_iadd hx hb dL_law_1095 ?_
  refine my_fold (v := nI (11 * i + 1)) (show nI (11 * i) + nI 1 = _ from nI_add _ _) ?_
  refine va_sld hx hb hX hbl hbA hS (i := nI (11 * i + 1)) (vp_in_nI (by omega) (by omega)) dL_law_1096 ?_
  refine my_topv (v := .int (xs (11 * i + 1))) (by rw [nI_clamp (by omega)]) ?_
  refine lv_aload_n hx hb dL_law_1097 rfl (lv_at hl 3 rfl) ?_
  refine lv_iload_n hx hb dL_law_1098 rfl (lv_at hl 0 rfl) ?_
  refine lv_iconst (v := 2) hx hb dL_law_1099 (by decide) ?_
  refine lv_iadd hx hb dL_law_1100 ?_
  refine my_fold (v := nI (11 * i + 2)) (show nI (11 * i) + nI 2 = _ from nI_add _ _) ?_
  refine va_sld hx hb hX hbl hbA hS (i := nI (11 * i + 2)) (vp_in_nI (by omega) (by omega)) dL_law_1101 ?_
  refine my_topv (v := .int (xs (11 * i + 2))) (by rw [nI_clamp (by omega)]) ?_
  have hPq : va_P D vwCl (cWld cI cO ad n g f sh sv bv ++ mWld cI cZ am nm gm) H := hP
  have hDq : va_D (fun q : Nat => s.heap.size ≤ q) (cWld cI cO ad n g f sh sv bv ++ mWld cI cZ am nm gm) := hD
  have hFc := free_left hDq hS hA
  have hKc := hK.sub (tys' := [(cI, .int), (cO, .object "DotBench$Sheet")]) [0, 1] rfl
  refine va_calli (va_runV (As := [.int (xs (11 * i + 1)), .int (xs (11 * i + 2))]) (rest := []) ⟨hx, hb, hml, hown, hts⟩ (w_X8_look l D H.size cI cO ad n g f sh sv bv hok (xs (11 * i + 1)) (xs (11 * i + 2))) (cwV 2 hts (gV bw_623 bw_336 bw_337 bw_223 bw_335) rfl rfl rfl (by decide +kernel) ⟨Nat.le_of_ble_eq_true rfl, Nat.le_of_ble_eq_true rfl⟩) ⟨cP_blind, va_recv hKc (P_left hPq) (ci := 8) (q0 := 0) rfl rfl, cP_at (P_left hPq) hKc (D_left hDq) hN⟩ rfl rfl hl.1 rfl (lv_room (Nat.le_of_ble_eq_true rfl)) dL_law_1102 ⟨(show 36 + 4 * i + 0 ≤ 135154 by omega), (show 33710 + 8195 * i + 0 ≤ 8696788 by omega)⟩) hS (fun q _ h => hFc q h) hFc (fun r_1 u9 t9 H1 locs ht hvm hr_1 hB hz1 hk1 hS => ?_)
  obtain ⟨w1, ⟨n2, g2, f2, sh2, sv2, bv2, hok2, hrl2, rfl⟩, hP1, hD1⟩ := hB
  rw [ht] at hP1
  obtain ⟨hP, hD⟩ := my_joinM hPq hDq hk1 hFc hP1 hD1
  clear hz1 hk1 hFc hKc hPq hDq
  generalize H1 = H at hP hS ⊢
  have hP : va_P D vwCl (cWld cI cO ad n2 g2 f2 sh2 sv2 bv2 ++ mWld cI cZ am nm gm) H := hP
  have hD : va_D (fun q : Nat => s.heap.size ≤ q) (cWld cI cO ad n2 g2 f2 sh2 sv2 bv2 ++ mWld cI cZ am nm gm) := hD
  refine lv_aload_n hx hb dL_law_1105 rfl (lv_at hl 1 rfl) ?_
  refine lv_aload_n hx hb dL_law_1106 rfl (lv_at hl 3 rfl) ?_
  refine lv_iload_n hx hb dL_law_1107 rfl (lv_at hl 0 rfl) ?_
  refine lv_iconst (v := 1) hx hb dL_law_1108 (by decide) ?_
  refine lv_iadd hx hb dL_law_1109 ?_
  refine my_fold (v := nI (11 * i + 1)) (show nI (11 * i) + nI 1 = _ from nI_add _ _) ?_
  refine va_sld hx hb hX hbl hbA hS (i := nI (11 * i + 1)) (vp_in_nI (by omega) (by omega)) dL_law_1110 ?_
  refine my_topv (v := .int (xs (11 * i + 1))) (by rw [nI_clamp (by omega)]) ?_
  refine lv_aload_n hx hb dL_law_1111 rfl (lv_at hl 3 rfl) ?_
  refine lv_iload_n hx hb dL_law_1112 rfl (lv_at hl 0 rfl) ?_
  refine lv_iconst (v := 2) hx hb dL_law_1113 (by decide) ?_
  refine lv_iadd hx hb dL_law_1114 ?_
  refine my_fold (v := nI (11 * i + 2)) (show nI (11 * i) + nI 2 = _ from nI_add _ _) ?_
  refine va_sld hx hb hX hbl hbA hS (i := nI (11 * i + 2)) (vp_in_nI (by omega) (by omega)) dL_law_1115 ?_
  refine my_topv (v := .int (xs (11 * i + 2))) (by rw [nI_clamp (by omega)]) ?_
  have hPq : va_P D vwCl (mWld cI cZ am nm gm ++ cWld cI cO ad n2 g2 f2 sh2 sv2 bv2) H := P_perm List.perm_append_comm hP
  have hDq : va_D (fun q : Nat => s.heap.size ≤ q) (mWld cI cZ am nm gm ++ cWld cI cO ad n2 g2 f2 sh2 sv2 bv2) := D_perm List.perm_append_comm hD
  have hFc := free_left hDq hS hA
  have hKc := hK.sub (tys' := [(cI, .int), (cZ, .boolean)]) [0, 2] rfl
  refine va_calli (va_runV (As := [.int (xs (11 * i + 1)), .int (xs (11 * i + 2))]) (rest := [.int r_1]) ⟨hx, hb, hml, hown, hts⟩ (w_X9_look l D H.size cI cZ am nm gm hom (xs (11 * i + 1)) (xs (11 * i + 2))) (cwV 2 hts (gV bw_624 bw_578 bw_579 bw_391 bw_577) rfl rfl rfl (by decide +kernel) ⟨Nat.le_of_ble_eq_true rfl, Nat.le_of_ble_eq_true rfl⟩) ⟨cP_blind, va_recv hKc (P_left hPq) (ci := 9) (q0 := 0) rfl rfl, cP_at (P_left hPq) hKc (D_left hDq) hN⟩ rfl rfl hl.1 rfl (lv_room (Nat.le_of_ble_eq_true rfl)) dL_law_1116 ⟨(show 36 + 4 * i + 0 + 0 ≤ 135154 by omega), (show 33710 + 8195 * i + 0 + 0 ≤ 8696788 by omega)⟩) hS (fun q _ h => hFc q h) hFc (fun r_3 u9 t9 H1 locs ht hvm hr_3 hB hz1 hk1 hS => ?_)
  obtain ⟨w1, ⟨nm4, gm4, hom4, hrl4, rfl⟩, hP1, hD1⟩ := hB
  rw [ht] at hP1
  obtain ⟨hP, hD⟩ := my_joinM hPq hDq hk1 hFc hP1 hD1
  have hP := P_perm (List.perm_append_comm (l₁ := mWld cI cZ am nm4 gm4) (l₂ := cWld cI cO ad n2 g2 f2 sh2 sv2 bv2)) hP
  have hD := D_perm (List.perm_append_comm (l₁ := mWld cI cZ am nm4 gm4) (l₂ := cWld cI cO ad n2 g2 f2 sh2 sv2 bv2)) hD
  clear hz1 hk1 hFc hKc hPq hDq
  generalize H1 = H at hP hS ⊢
  have hP : va_P D vwCl (cWld cI cO ad n2 g2 f2 sh2 sv2 bv2 ++ mWld cI cZ am nm4 gm4) H := hP
  have hD : va_D (fun q : Nat => s.heap.size ≤ q) (cWld cI cO ad n2 g2 f2 sh2 sv2 bv2 ++ mWld cI cZ am nm4 gm4) := hD
  refine lv_icmp_eq (tgt := 1167) hx hb dL_law_1119 (by decide) (fun c_5 => ?_) (fun c_5 => ?_)
  · skip
    have f_6 : r_1.toInt = r_3.toInt := f_eq rfl rfl c_5
    refine W.widen (k := 36 + 4 * i + 4) (n := 33710 + 8195 * i + 8195) (by omega) (by omega) ?_
    exact hnext n2 g2 f2 sh2 sv2 bv2 nm4 gm4 _ _ _ hok2 hom4 (RW_c hpr hrl2 hrl4) hP hD hS hl
  · skip
    have heq : r_1 = r_3 := (hr_1.trans (lk_ok (k := xs (11 * i + 1)) (wh := xs (11 * i + 2)) hpr hok hom)).trans hr_3.symm
    exact absurd heq c_5
