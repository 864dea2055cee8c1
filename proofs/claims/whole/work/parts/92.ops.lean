set_option maxHeartbeats 1000000 in
set_option maxRecDepth 100000 in
theorem law_op_4 {p : Program} {e : Env} {s : State} {m : MethodId} {below : List Frame} {meth : Method} {c : Code} (l : Launch) {b L : Nat} {xs : Nat → Int32} (C0 : lw_At p s m meth c b L xs) (hN : nW s) {D : va_G} {cI cO cZ : ClassId} (hK : va_K D vwCl [(cI, .int), (cO, .object "DotBench$Sheet"), (cZ, .boolean)] s) {ad am : Nat → Nat} (hL : L ≤ 5632) {i : Nat} (hi : 11 * i + 11 ≤ L) {n : Nat → Int32} {g : Nat → Nat → Int32} {f : Nat → Option Nat} {sh : Nat → Option Sh} {sv : Option Sp} {bv : Option Sh} {nm : Nat → Int32} {gm : Nat → Nat → Int32} (hok : okC n f sh) (hom : okM nm gm) (hpr : RW n g (fun k => vO (sh k)) nm gm) {H : Heap} {locs : List Loc} (hP : va_P D vwCl (cWld cI cO ad n g f sh sv bv ++ mWld cI cZ am nm gm) H) (hD : va_D (fun q : Nat => s.heap.size ≤ q) (cWld cI cO ad n g f sh sv bv ++ mWld cI cZ am nm gm)) (hS : va_S (fun q : Nat => s.heap.size ≤ q) s.heap H locs) {ls : Array Slot} (hl : lv_has ls 4 [(3, .int (nI (11 * i))), (2, .ref (am 0)), (1, .ref (ad 0)), (0, .ref b)]) (hnext : ∀ (n : Nat → Int32) (g : Nat → Nat → Int32) (f : Nat → Option Nat) (sh : Nat → Option Sh) (sv : Option Sp) (bv : Option Sh) (nm : Nat → Int32) (gm : Nat → Nat → Int32) (H : Heap) (locs : List Loc) (ls : Array Slot), okC n f sh → okM nm gm → RW n g (fun k => vO (sh k)) nm gm → va_P D vwCl (cWld cI cO ad n g f sh sv bv ++ mWld cI cZ am nm gm) H → va_D (fun q : Nat => s.heap.size ≤ q) (cWld cI cO ad n g f sh sv bv ++ mWld cI cZ am nm gm) → va_S (fun q : Nat => s.heap.size ≤ q) s.heap H locs → lv_has ls 4 [(3, .int (nI (11 * i))), (2, .ref (am 0)), (1, .ref (ad 0)), (0, .ref b)] → W p l e room_1 s m #[Value.ref b] below meth c H locs (36 + 4 * i + 4) (33710 + 8195 * i + 8195) (lw_Z below #[Value.ref b] s) (F0 m 1167 ls [])) : W p l e room_1 s m #[Value.ref b] below meth c H locs (36 + 4 * i) (33710 + 8195 * i) (lw_Z below #[Value.ref b] s) (F0 m 280 ls []) := by
  obtain ⟨hx, hb, hr, hml, hown, hts0, hX, hbl, hlocks, hgv⟩ := id C0
  have hts : ∀ w ∈ bigW, w.before #[Value.ref b] s = true := fun w h => hts0 w (bigW_in w h).1
  have hown : s.vm.findClass RL = some m.cls := hown
  have hA : ∀ q : Nat, s.heap.size ≤ q → (fun q : Nat => s.heap.size ≤ q) q := fun _ h => h
  have hbA : ¬ (fun q : Nat => s.heap.size ≤ q) b := Nat.not_le.mpr hbl
  refine lv_aload_n hx hb dL_law_280 rfl (lv_at hl 2 rfl) ?_
  refine lv_aload_n hx hb dL_law_281 rfl (lv_at hl 3 rfl) ?_
  refine lv_iload_n hx hb dL_law_282 rfl (lv_at hl 0 rfl) ?_
  refine lv_iconst (v := 1) hx hb dL_law_283 (by decide) ?_
  refine lv_iadd hx hb dL_law_284 ?_
  refine my_fold (v := nI (11 * i + 1)) (show nI (11 * i) + nI 1 = _ from nI_add _ _) ?_
  refine va_sld hx hb hX hbl hbA hS (i := nI (11 * i + 1)) (vp_in_nI (by omega) (by omega)) dL_law_285 ?_
  refine my_topv (v := .int (xs (11 * i + 1))) (by rw [nI_clamp (by omega)]) ?_
  have hPq : va_P D vwCl (cWld cI cO ad n g f sh sv bv ++ mWld cI cZ am nm gm) H := hP
  have hDq : va_D (fun q : Nat => s.heap.size ≤ q) (cWld cI cO ad n g f sh sv bv ++ mWld cI cZ am nm gm) := hD
  have hFc := free_left hDq hS hA
  have hKc := hK.sub (tys' := [(cI, .int), (cO, .object "DotBench$Sheet")]) [0, 1] rfl
  refine va_callv (va_runV (As := [.int (xs (11 * i + 1))]) (rest := []) ⟨hx, hb, hml, hown, hts⟩ (w_X8_dashes l D H.size cI cO ad n g f sh sv bv hok (xs (11 * i + 1))) (cwV 1 hts (gV bw_593 bw_262 bw_263 bw_223 bw_261) rfl rfl rfl (by decide +kernel) ⟨Nat.le_of_ble_eq_true rfl, Nat.le_of_ble_eq_true rfl⟩) ⟨cP_blind, va_recv hKc (P_left hPq) (ci := 8) (q0 := 0) rfl rfl, cP_at (P_left hPq) hKc (D_left hDq) hN⟩ rfl rfl hl.1 rfl (lv_room (Nat.le_of_ble_eq_true rfl)) dL_law_286 ⟨(show 36 + 4 * i + 0 ≤ 135154 by omega), (show 33710 + 8195 * i + 0 ≤ 8696788 by omega)⟩) hS (fun q _ h => hFc q h) hFc (fun u9 t9 H1 locs ht hvm hr_1 hB hz1 hk1 hS => ?_)
  obtain ⟨w1, ⟨n2, g2, f2, sh2, sv2, bv2, hok2, hrl2, rfl⟩, hP1, hD1⟩ := hB
  rw [ht] at hP1
  obtain ⟨hP, hD⟩ := my_joinM hPq hDq hk1 hFc hP1 hD1
  clear hz1 hk1 hFc hKc hPq hDq
  generalize H1 = H at hP hS ⊢
  have hP : va_P D vwCl (cWld cI cO ad n2 g2 f2 sh2 sv2 bv2 ++ mWld cI cZ am nm gm) H := hP
  have hD : va_D (fun q : Nat => s.heap.size ≤ q) (cWld cI cO ad n2 g2 f2 sh2 sv2 bv2 ++ mWld cI cZ am nm gm) := hD
  refine lv_aload_n hx hb dL_law_289 rfl (lv_at hl 1 rfl) ?_
  refine lv_aload_n hx hb dL_law_290 rfl (lv_at hl 3 rfl) ?_
  refine lv_iload_n hx hb dL_law_291 rfl (lv_at hl 0 rfl) ?_
  refine lv_iconst (v := 1) hx hb dL_law_292 (by decide) ?_
  refine lv_iadd hx hb dL_law_293 ?_
  refine my_fold (v := nI (11 * i + 1)) (show nI (11 * i) + nI 1 = _ from nI_add _ _) ?_
  refine va_sld hx hb hX hbl hbA hS (i := nI (11 * i + 1)) (vp_in_nI (by omega) (by omega)) dL_law_294 ?_
  refine my_topv (v := .int (xs (11 * i + 1))) (by rw [nI_clamp (by omega)]) ?_
  have hPq : va_P D vwCl (mWld cI cZ am nm gm ++ cWld cI cO ad n2 g2 f2 sh2 sv2 bv2) H := P_perm List.perm_append_comm hP
  have hDq : va_D (fun q : Nat => s.heap.size ≤ q) (mWld cI cZ am nm gm ++ cWld cI cO ad n2 g2 f2 sh2 sv2 bv2) := D_perm List.perm_append_comm hD
  have hFc := free_left hDq hS hA
  have hKc := hK.sub (tys' := [(cI, .int), (cZ, .boolean)]) [0, 2] rfl
  refine va_callv (va_runV (As := [.int (xs (11 * i + 1))]) (rest := []) ⟨hx, hb, hml, hown, hts⟩ (w_X9_dashes l D H.size cI cZ am nm gm hom (xs (11 * i + 1))) (cwV 1 hts (gV bw_594 bw_479 bw_480 bw_391 bw_478) rfl rfl rfl (by decide +kernel) ⟨Nat.le_of_ble_eq_true rfl, Nat.le_of_ble_eq_true rfl⟩) ⟨cP_blind, va_recv hKc (P_left hPq) (ci := 9) (q0 := 0) rfl rfl, cP_at (P_left hPq) hKc (D_left hDq) hN⟩ rfl rfl hl.1 rfl (lv_room (Nat.le_of_ble_eq_true rfl)) dL_law_295 ⟨(show 36 + 4 * i + 0 + 0 ≤ 135154 by omega), (show 33710 + 8195 * i + 0 + 0 ≤ 8696788 by omega)⟩) hS (fun q _ h => hFc q h) hFc (fun u9 t9 H1 locs ht hvm hr_3 hB hz1 hk1 hS => ?_)
  obtain ⟨w1, ⟨nm4, gm4, hom4, hrl4, rfl⟩, hP1, hD1⟩ := hB
  rw [ht] at hP1
  obtain ⟨hP, hD⟩ := my_joinM hPq hDq hk1 hFc hP1 hD1
  have hP := P_perm (List.perm_append_comm (l₁ := mWld cI cZ am nm4 gm4) (l₂ := cWld cI cO ad n2 g2 f2 sh2 sv2 bv2)) hP
  have hD := D_perm (List.perm_append_comm (l₁ := mWld cI cZ am nm4 gm4) (l₂ := cWld cI cO ad n2 g2 f2 sh2 sv2 bv2)) hD
  clear hz1 hk1 hFc hKc hPq hDq
  generalize H1 = H at hP hS ⊢
  have hP : va_P D vwCl (cWld cI cO ad n2 g2 f2 sh2 sv2 bv2 ++ mWld cI cZ am nm4 gm4) H := hP
  have hD : va_D (fun q : Nat => s.heap.size ≤ q) (cWld cI cO ad n2 g2 f2 sh2 sv2 bv2 ++ mWld cI cZ am nm4 gm4) := hD
  refine lv_goto (tgt := 1167) hx hb dL_law_298 (by decide) ?_
  refine W.widen (k := 36 + 4 * i + 4) (n := 33710 + 8195 * i + 8195) (by omega) (by omega) ?_
  exact hnext n2 g2 f2 sh2 sv2 bv2 nm4 gm4 _ _ _ hok2 hom4 (RW_c (RW_dash hpr) hrl2 hrl4) hP hD hS hl

set_option maxHeartbeats 1000000 in
set_option maxRecDepth 100000 in
theorem law_op_5 {p : Program} {e : Env} {s : State} {m : MethodId} {below : List Frame} {meth : Method} {c : Code} (l : Launch) {b L : Nat} {xs : Nat → Int32} (C0 : lw_At p s m meth c b L xs) (hN : nW s) {D : va_G} {cI cO cZ : ClassId} (hK : va_K D vwCl [(cI, .int), (cO, .object "DotBench$Sheet"), (cZ, .boolean)] s) {ad am : Nat → Nat} (hL : L ≤ 5632) {i : Nat} (hi : 11 * i + 11 ≤ L) {n : Nat → Int32} {g : Nat → Nat → Int32} {f : Nat → Option Nat} {sh : Nat → Option Sh} {sv : Option Sp} {bv : Option Sh} {nm : Nat → Int32} {gm : Nat → Nat → Int32} (hok : okC n f sh) (hom : okM nm gm) (hpr : RW n g (fun k => vO (sh k)) nm gm) {H : Heap} {locs : List Loc} (hP : va_P D vwCl (cWld cI cO ad n g f sh sv bv ++ mWld cI cZ am nm gm) H) (hD : va_D (fun q : Nat => s.heap.size ≤ q) (cWld cI cO ad n g f sh sv bv ++ mWld cI cZ am nm gm)) (hS : va_S (fun q : Nat => s.heap.size ≤ q) s.heap H locs) {ls : Array Slot} (hl : lv_has ls 4 [(3, .int (nI (11 * i))), (2, .ref (am 0)), (1, .ref (ad 0)), (0, .ref b)]) (hnext : ∀ (n : Nat → Int32) (g : Nat → Nat → Int32) (f : Nat → Option Nat) (sh : Nat → Option Sh) (sv : Option Sp) (bv : Option Sh) (nm : Nat → Int32) (gm : Nat → Nat → Int32) (H : Heap) (locs : List Loc) (ls : Array Slot), okC n f sh → okM nm gm → RW n g (fun k => vO (sh k)) nm gm → va_P D vwCl (cWld cI cO ad n g f sh sv bv ++ mWld cI cZ am nm gm) H → va_D (fun q : Nat => s.heap.size ≤ q) (cWld cI cO ad n g f sh sv bv ++ mWld cI cZ am nm gm) → va_S (fun q : Nat => s.heap.size ≤ q) s.heap H locs → lv_has ls 4 [(3, .int (nI (11 * i))), (2, .ref (am 0)), (1, .ref (ad 0)), (0, .ref b)] → W p l e room_1 s m #[Value.ref b] below meth c H locs (36 + 4 * i + 4) (33710 + 8195 * i + 8195) (lw_Z below #[Value.ref b] s) (F0 m 1167 ls [])) : W p l e room_1 s m #[Value.ref b] below meth c H locs (36 + 4 * i) (33710 + 8195 * i) (lw_Z below #[Value.ref b] s) (F0 m 301 ls []) := by
  obtain ⟨hx, hb, hr, hml, hown, hts0, hX, hbl, hlocks, hgv⟩ := id C0
  have hts : ∀ w ∈ bigW, w.before #[Value.ref b] s = true := fun w h => hts0 w (bigW_in w h).1
  have hown : s.vm.findClass RL = some m.cls := hown
  have hA : ∀ q : Nat, s.heap.size ≤ q → (fun q : Nat => s.heap.size ≤ q) q := fun _ h => h
  have hbA : ¬ (fun q : Nat => s.heap.size ≤ q) b := Nat.not_le.mpr hbl
  refine lv_aload_n hx hb dL_law_301 rfl (lv_at hl 2 rfl) ?_
  refine lv_aload_n hx hb dL_law_302 rfl (lv_at hl 3 rfl) ?_
  refine lv_iload_n hx hb dL_law_303 rfl (lv_at hl 0 rfl) ?_
  refine lv_iconst (v := 1) hx hb dL_law_304 (by decide) ?_
  refine lv_iadd hx hb dL_law_305 ?_
  refine my_fold (v := nI (11 * i + 1)) (show nI (11 * i) + nI 1 = _ from nI_add _ _) ?_
  refine va_sld hx hb hX hbl hbA hS (i := nI (11 * i + 1)) (vp_in_nI (by omega) (by omega)) dL_law_306 ?_
  refine my_topv (v := .int (xs (11 * i + 1))) (by rw [nI_clamp (by omega)]) ?_
  refine lv_aload_n hx hb dL_law_307 rfl (lv_at hl 3 rfl) ?_
  refine lv_iload_n hx hb dL_law_308 rfl (lv_at hl 0 rfl) ?_
  refine lv_iconst (v := 2) hx hb dL_law_309 (by decide) ?_
  refine lv_iadd hx hb dL_law_310 ?_
  refine my_fold (v := nI (11 * i + 2)) (show nI (11 * i) + nI 2 = _ from nI_add _ _) ?_
  refine va_sld hx hb hX hbl hbA hS (i := nI (11 * i + 2)) (vp_in_nI (by omega) (by omega)) dL_law_311 ?_
  refine my_topv (v := .int (xs (11 * i + 2))) (by rw [nI_clamp (by omega)]) ?_
  refine lv_aload_n hx hb dL_law_312 rfl (lv_at hl 3 rfl) ?_
  refine lv_iload_n hx hb dL_law_313 rfl (lv_at hl 0 rfl) ?_
  refine lv_iconst (v := 3) hx hb dL_law_314 (by decide) ?_
  refine lv_iadd hx hb dL_law_315 ?_
  refine my_fold (v := nI (11 * i + 3)) (show nI (11 * i) + nI 3 = _ from nI_add _ _) ?_
  refine va_sld hx hb hX hbl hbA hS (i := nI (11 * i + 3)) (vp_in_nI (by omega) (by omega)) dL_law_316 ?_
  refine my_topv (v := .int (xs (11 * i + 3))) (by rw [nI_clamp (by omega)]) ?_
  refine lv_aload_n hx hb dL_law_317 rfl (lv_at hl 3 rfl) ?_
  refine lv_iload_n hx hb dL_law_318 rfl (lv_at hl 0 rfl) ?_
  refine lv_iconst (v := 4) hx hb dL_law_319 (by decide) ?_
  refine lv_iadd hx hb dL_law_320 ?_
  refine my_fold (v := nI (11 * i + 4)) (show nI (11 * i) + nI 4 = _ from nI_add _ _) ?_
  refine va_sld hx hb hX hbl hbA hS (i := nI (11 * i + 4)) (vp_in_nI (by omega) (by omega)) dL_law_321 ?_
  refine my_topv (v := .int (xs (11 * i + 4))) (by rw [nI_clamp (by omega)]) ?_
  refine lv_aload_n hx hb dL_law_322 rfl (lv_at hl 3 rfl) ?_
  refine lv_iload_n hx hb dL_law_323 rfl (lv_at hl 0 rfl) ?_
  refine lv_iconst (v := 5) hx hb dL_law_324 (by decide) ?_
  refine lv_iadd hx hb dL_law_325 ?_
  refine my_fold (v := nI (11 * i + 5)) (show nI (11 * i) + nI 5 = _ from nI_add _ _) ?_
  refine va_sld hx hb hX hbl hbA hS (i := nI (11 * i + 5)) (vp_in_nI (by omega) (by omega)) dL_law_326 ?_
  refine my_topv (v := .int (xs (11 * i + 5))) (by rw [nI_clamp (by omega)]) ?_
  have hPq : va_P D vwCl (cWld cI cO ad n g f sh sv bv ++ mWld cI cZ am nm gm) H := hP
  have hDq : va_D (fun q : Nat => s.heap.size ≤ q) (cWld cI cO ad n g f sh sv bv ++ mWld cI cZ am nm gm) := hD
  have hFc := free_left hDq hS hA
  have hKc := hK.sub (tys' := [(cI, .int), (cO, .object "DotBench$Sheet")]) [0, 1] rfl
  refine va_calli (va_runV (As := [.int (xs (11 * i + 1)), .int (xs (11 * i + 2)), .int (xs (11 * i + 3)), .int (xs (11 * i + 4)), .int (xs (11 * i + 5))]) (rest := []) ⟨hx, hb, hml, hown, hts⟩ (w_X8_line l D H.size cI cO ad n g f sh sv bv hok (xs (11 * i + 1)) (xs (11 * i + 2)) (xs (11 * i + 3)) (xs (11 * i + 4)) (xs (11 * i + 5))) (cwV 5 hts (gV bw_595 bw_265 bw_266 bw_223 bw_264) rfl rfl rfl (by decide +kernel) ⟨Nat.le_of_ble_eq_true rfl, Nat.le_of_ble_eq_true rfl⟩) ⟨cP_blind, va_recv hKc (P_left hPq) (ci := 8) (q0 := 0) rfl rfl, cP_at (P_left hPq) hKc (D_left hDq) hN⟩ rfl rfl hl.1 rfl (lv_room (Nat.le_of_ble_eq_true rfl)) dL_law_327 ⟨(show 36 + 4 * i + 0 ≤ 135154 by omega), (show 33710 + 8195 * i + 0 ≤ 8696788 by omega)⟩) hS (fun q _ h => hFc q h) hFc (fun r_1 u9 t9 H1 locs ht hvm hr_1 hB hz1 hk1 hS => ?_)
  obtain ⟨w1, ⟨n2, g2, f2, sh2, sv2, bv2, hok2, hrl2, rfl⟩, hP1, hD1⟩ := hB
  rw [ht] at hP1
  obtain ⟨hP, hD⟩ := my_joinM hPq hDq hk1 hFc hP1 hD1
  clear hz1 hk1 hFc hKc hPq hDq
  generalize H1 = H at hP hS ⊢
  have hP : va_P D vwCl (cWld cI cO ad n2 g2 f2 sh2 sv2 bv2 ++ mWld cI cZ am nm gm) H := hP
  have hD : va_D (fun q : Nat => s.heap.size ≤ q) (cWld cI cO ad n2 g2 f2 sh2 sv2 bv2 ++ mWld cI cZ am nm gm) := hD
  refine lv_aload_n hx hb dL_law_330 rfl (lv_at hl 1 rfl) ?_
  refine lv_aload_n hx hb dL_law_331 rfl (lv_at hl 3 rfl) ?_
  refine lv_iload_n hx hb dL_law_332 rfl (lv_at hl 0 rfl) ?_
  refine lv_iconst (v := 1) hx hb dL_law_333 (by decide) ?_
  refine lv_iadd hx hb dL_law_334 ?_
  refine my_fold (v := nI (11 * i + 1)) (show nI (11 * i) + nI 1 = _ from nI_add _ _) ?_
  refine va_sld hx hb hX hbl hbA hS (i := nI (11 * i + 1)) (vp_in_nI (by omega) (by omega)) dL_law_335 ?_
  refine my_topv (v := .int (xs (11 * i + 1))) (by rw [nI_clamp (by omega)]) ?_
  refine lv_aload_n hx hb dL_law_336 rfl (lv_at hl 3 rfl) ?_
  refine lv_iload_n hx hb dL_law_337 rfl (lv_at hl 0 rfl) ?_
  refine lv_iconst (v := 2) hx hb dL_law_338 (by decide) ?_
  refine lv_iadd hx hb dL_law_339 ?_
  refine my_fold (v := nI (11 * i + 2)) (show nI (11 * i) + nI 2 = _ from nI_add _ _) ?_
  refine va_sld hx hb hX hbl hbA hS (i := nI (11 * i + 2)) (vp_in_nI (by omega) (by omega)) dL_law_340 ?_
  refine my_topv (v := .int (xs (11 * i + 2))) (by rw [nI_clamp (by omega)]) ?_
  refine lv_aload_n hx hb dL_law_341 rfl (lv_at hl 3 rfl) ?_
  refine lv_iload_n hx hb dL_law_342 rfl (lv_at hl 0 rfl) ?_
  refine lv_iconst (v := 3) hx hb dL_law_343 (by decide) ?_
  refine lv_iadd hx hb dL_law_344 ?_
  refine my_fold (v := nI (11 * i + 3)) (show nI (11 * i) + nI 3 = _ from nI_add _ _) ?_
  refine va_sld hx hb hX hbl hbA hS (i := nI (11 * i + 3)) (vp_in_nI (by omega) (by omega)) dL_law_345 ?_
  refine my_topv (v := .int (xs (11 * i + 3))) (by rw [nI_clamp (by omega)]) ?_
  refine lv_aload_n hx hb dL_law_346 rfl (lv_at hl 3 rfl) ?_
  refine lv_iload_n hx hb dL_law_347 rfl (lv_at hl 0 rfl) ?_
  refine lv_iconst (v := 4) hx hb dL_law_348 (by decide) ?_
  refine lv_iadd hx hb dL_law_349 ?_
  refine my_fold (v := nI (11 * i + 4)) (show nI (11 * i) + nI 4 = _ from nI_add _ _) ?_
  refine va_sld hx hb hX hbl hbA hS (i := nI (11 * i + 4)) (vp_in_nI (by omega) (by omega)) dL_law_350 ?_
  refine my_topv (v := .int (xs (11 * i + 4))) (by rw [nI_clamp (by omega)]) ?_
  refine lv_aload_n hx hb dL_law_351 rfl (lv_at hl 3 rfl) ?_
  refine lv_iload_n hx hb dL_law_352 rfl (lv_at hl 0 rfl) ?_
  refine lv_iconst (v := 5) hx hb dL_law_353 (by decide) ?_
  refine lv_iadd hx hb dL_law_354 ?_
  refine my_fold (v := nI (11 * i + 5)) (show nI (11 * i) + nI 5 = _ from nI_add _ _) ?_
  refine va_sld hx hb hX hbl hbA hS (i := nI (11 * i + 5)) (vp_in_nI (by omega) (by omega)) dL_law_355 ?_
  refine my_topv (v := .int (xs (11 * i + 5))) (by rw [nI_clamp (by omega)]) ?_
  have hPq : va_P D vwCl (mWld cI cZ am nm gm ++ cWld cI cO ad n2 g2 f2 sh2 sv2 bv2) H := P_perm List.perm_append_comm hP
  have hDq : va_D (fun q : Nat => s.heap.size ≤ q) (mWld cI cZ am nm gm ++ cWld cI cO ad n2 g2 f2 sh2 sv2 bv2) := D_perm List.perm_append_comm hD
  have hFc := free_left hDq hS hA
  have hKc := hK.sub (tys' := [(cI, .int), (cZ, .boolean)]) [0, 2] rfl
  refine va_calli (va_runV (As := [.int (xs (11 * i + 1)), .int (xs (11 * i + 2)), .int (xs (11 * i + 3)), .int (xs (11 * i + 4)), .int (xs (11 * i + 5))]) (rest := [.int r_1]) ⟨hx, hb, hml, hown, hts⟩ (w_X9_line l D H.size cI cZ am nm gm hom (xs (11 * i + 1)) (xs (11 * i + 2)) (xs (11 * i + 3)) (xs (11 * i + 4)) (xs (11 * i + 5))) (cwV 5 hts (gV bw_596 bw_488 bw_489 bw_391 bw_487) rfl rfl rfl (by decide +kernel) ⟨Nat.le_of_ble_eq_true rfl, Nat.le_of_ble_eq_true rfl⟩) ⟨cP_blind, va_recv hKc (P_left hPq) (ci := 9) (q0 := 0) rfl rfl, cP_at (P_left hPq) hKc (D_left hDq) hN⟩ rfl rfl hl.1 rfl (lv_room (Nat.le_of_ble_eq_true rfl)) dL_law_356 ⟨(show 36 + 4 * i + 0 + 0 ≤ 135154 by omega), (show 33710 + 8195 * i + 0 + 0 ≤ 8696788 by omega)⟩) hS (fun q _ h => hFc q h) hFc (fun r_3 u9 t9 H1 locs ht hvm hr_3 hB hz1 hk1 hS => ?_)
  obtain ⟨w1, ⟨nm4, gm4, hom4, hrl4, rfl⟩, hP1, hD1⟩ := hB
  rw [ht] at hP1
  obtain ⟨hP, hD⟩ := my_joinM hPq hDq hk1 hFc hP1 hD1
  have hP := P_perm (List.perm_append_comm (l₁ := mWld cI cZ am nm4 gm4) (l₂ := cWld cI cO ad n2 g2 f2 sh2 sv2 bv2)) hP
  have hD := D_perm (List.perm_append_comm (l₁ := mWld cI cZ am nm4 gm4) (l₂ := cWld cI cO ad n2 g2 f2 sh2 sv2 bv2)) hD
  clear hz1 hk1 hFc hKc hPq hDq
  generalize H1 = H at hP hS ⊢
  have hP : va_P D vwCl (cWld cI cO ad n2 g2 f2 sh2 sv2 bv2 ++ mWld cI cZ am nm4 gm4) H := hP
  have hD : va_D (fun q : Nat => s.heap.size ≤ q) (cWld cI cO ad n2 g2 f2 sh2 sv2 bv2 ++ mWld cI cZ am nm4 gm4) := hD
  refine lv_icmp_eq (tgt := 1167) hx hb dL_law_359 (by decide) (fun c_5 => ?_) (fun c_5 => ?_)
  · skip
    have f_6 : r_1.toInt = r_3.toInt := f_eq rfl rfl c_5
    refine W.widen (k := 36 + 4 * i + 4) (n := 33710 + 8195 * i + 8195) (by omega) (by omega) ?_
    exact hnext n2 g2 f2 sh2 sv2 bv2 nm4 gm4 _ _ _ hok2 hom4 (RW_c (ln_ok (k := xs (11 * i + 1)) (x0 := xs (11 * i + 2)) (y0 := xs (11 * i + 3)) (x1 := xs (11 * i + 4)) (y1 := xs (11 * i + 5)) hpr hok hom).2 hrl2 hrl4) hP hD hS hl
  · skip
    have heq : r_1 = r_3 := (hr_1.trans (ln_ok (k := xs (11 * i + 1)) (x0 := xs (11 * i + 2)) (y0 := xs (11 * i + 3)) (x1 := xs (11 * i + 4)) (y1 := xs (11 * i + 5)) hpr hok hom).1).trans hr_3.symm
    exact absurd heq c_5

set_option maxHeartbeats 1000000 in
set_option maxRecDepth 100000 in
theorem law_op_6 {p : Program} {e : Env} {s : State} {m : MethodId} {below : List Frame} {meth : Method} {c : Code} (l : Launch) {b L : Nat} {xs : Nat → Int32} (C0 : lw_At p s m meth c b L xs) (hN : nW s) {D : va_G} {cI cO cZ : ClassId} (hK : va_K D vwCl [(cI, .int), (cO, .object "DotBench$Sheet"), (cZ, .boolean)] s) {ad am : Nat → Nat} (hL : L ≤ 5632) {i : Nat} (hi : 11 * i + 11 ≤ L) {n : Nat → Int32} {g : Nat → Nat → Int32} {f : Nat → Option Nat} {sh : Nat → Option Sh} {sv : Option Sp} {bv : Option Sh} {nm : Nat → Int32} {gm : Nat → Nat → Int32} (hok : okC n f sh) (hom : okM nm gm) (hpr : RW n g (fun k => vO (sh k)) nm gm) {H : Heap} {locs : List Loc} (hP : va_P D vwCl (cWld cI cO ad n g f sh sv bv ++ mWld cI cZ am nm gm) H) (hD : va_D (fun q : Nat => s.heap.size ≤ q) (cWld cI cO ad n g f sh sv bv ++ mWld cI cZ am nm gm)) (hS : va_S (fun q : Nat => s.heap.size ≤ q) s.heap H locs) {ls : Array Slot} (hl : lv_has ls 4 [(3, .int (nI (11 * i))), (2, .ref (am 0)), (1, .ref (ad 0)), (0, .ref b)]) (hnext : ∀ (n : Nat → Int32) (g : Nat → Nat → Int32) (f : Nat → Option Nat) (sh : Nat → Option Sh) (sv : Option Sp) (bv : Option Sh) (nm : Nat → Int32) (gm : Nat → Nat → Int32) (H : Heap) (locs : List Loc) (ls : Array Slot), okC n f sh → okM nm gm → RW n g (fun k => vO (sh k)) nm gm → va_P D vwCl (cWld cI cO ad n g f sh sv bv ++ mWld cI cZ am nm gm) H → va_D (fun q : Nat => s.heap.size ≤ q) (cWld cI cO ad n g f sh sv bv ++ mWld cI cZ am nm gm) → va_S (fun q : Nat => s.heap.size ≤ q) s.heap H locs → lv_has ls 4 [(3, .int (nI (11 * i))), (2, .ref (am 0)), (1, .ref (ad 0)), (0, .ref b)] → W p l e room_1 s m #[Value.ref b] below meth c H locs (36 + 4 * i + 4) (33710 + 8195 * i + 8195) (lw_Z below #[Value.ref b] s) (F0 m 1167 ls [])) : W p l e room_1 s m #[Value.ref b] below meth c H locs (36 + 4 * i) (33710 + 8195 * i) (lw_Z below #[Value.ref b] s) (F0 m 364 ls []) := by
  obtain ⟨hx, hb, hr, hml, hown, hts0, hX, hbl, hlocks, hgv⟩ := id C0
  have hts : ∀ w ∈ bigW, w.before #[Value.ref b] s = true := fun w h => hts0 w (bigW_in w h).1
  have hown : s.vm.findClass RL = some m.cls := hown
  have hA : ∀ q : Nat, s.heap.size ≤ q → (fun q : Nat => s.heap.size ≤ q) q := fun _ h => h
  have hbA : ¬ (fun q : Nat => s.heap.size ≤ q) b := Nat.not_le.mpr hbl
  refine lv_aload_n hx hb dL_law_364 rfl (lv_at hl 2 rfl) ?_
  refine lv_aload_n hx hb dL_law_365 rfl (lv_at hl 3 rfl) ?_
  refine lv_iload_n hx hb dL_law_366 rfl (lv_at hl 0 rfl) ?_
  refine lv_iconst (v := 1) hx hb dL_law_367 (by decide) ?_
  refine lv_iadd hx hb dL_law_368 ?_
  refine my_fold (v := nI (11 * i + 1)) (show nI (11 * i) + nI 1 = _ from nI_add _ _) ?_
  refine va_sld hx hb hX hbl hbA hS (i := nI (11 * i + 1)) (vp_in_nI (by omega) (by omega)) dL_law_369 ?_
  refine my_topv (v := .int (xs (11 * i + 1))) (by rw [nI_clamp (by omega)]) ?_
  refine lv_aload_n hx hb dL_law_370 rfl (lv_at hl 3 rfl) ?_
  refine lv_iload_n hx hb dL_law_371 rfl (lv_at hl 0 rfl) ?_
  refine lv_iconst (v := 2) hx hb dL_law_372 (by decide) ?_
  refine lv_iadd hx hb dL_law_373 ?_
  refine my_fold (v := nI (11 * i + 2)) (show nI (11 * i) + nI 2 = _ from nI_add _ _) ?_
  refine va_sld hx hb hX hbl hbA hS (i := nI (11 * i + 2)) (vp_in_nI (by omega) (by omega)) dL_law_374 ?_
  refine my_topv (v := .int (xs (11 * i + 2))) (by rw [nI_clamp (by omega)]) ?_
  refine lv_aload_n hx hb dL_law_375 rfl (lv_at hl 3 rfl) ?_
  refine lv_iload_n hx hb dL_law_376 rfl (lv_at hl 0 rfl) ?_
  refine lv_iconst (v := 3) hx hb dL_law_377 (by decide) ?_
  refine lv_iadd hx hb dL_law_378 ?_
  refine my_fold (v := nI (11 * i + 3)) (show nI (11 * i) + nI 3 = _ from nI_add _ _) ?_
  refine va_sld hx hb hX hbl hbA hS (i := nI (11 * i + 3)) (vp_in_nI (by omega) (by omega)) dL_law_379 ?_
  refine my_topv (v := .int (xs (11 * i + 3))) (by rw [nI_clamp (by omega)]) ?_
  refine lv_aload_n hx hb dL_law_380 rfl (lv_at hl 3 rfl) ?_
  refine lv_iload_n hx hb dL_law_381 rfl (lv_at hl 0 rfl) ?_
  refine lv_iconst (v := 4) hx hb dL_law_382 (by decide) ?_
  refine lv_iadd hx hb dL_law_383 ?_
  refine my_fold (v := nI (11 * i + 4)) (show nI (11 * i) + nI 4 = _ from nI_add _ _) ?_
  refine va_sld hx hb hX hbl hbA hS (i := nI (11 * i + 4)) (vp_in_nI (by omega) (by omega)) dL_law_384 ?_
  refine my_topv (v := .int (xs (11 * i + 4))) (by rw [nI_clamp (by omega)]) ?_
  have hPq : va_P D vwCl (cWld cI cO ad n g f sh sv bv ++ mWld cI cZ am nm gm) H := hP
  have hDq : va_D (fun q : Nat => s.heap.size ≤ q) (cWld cI cO ad n g f sh sv bv ++ mWld cI cZ am nm gm) := hD
  have hFc := free_left hDq hS hA
  have hKc := hK.sub (tys' := [(cI, .int), (cO, .object "DotBench$Sheet")]) [0, 1] rfl
  refine va_calli (va_runV (As := [.int (xs (11 * i + 1)), .int (xs (11 * i + 2)), .int (xs (11 * i + 3)), .int (xs (11 * i + 4))]) (rest := []) ⟨hx, hb, hml, hown, hts⟩ (w_X8_circle l D H.size cI cO ad n g f sh sv bv hok (xs (11 * i + 1)) (xs (11 * i + 2)) (xs (11 * i + 3)) (xs (11 * i + 4))) (cwV 4 hts (gV bw_597 bw_278 bw_279 bw_223 bw_277) rfl rfl rfl (by decide +kernel) ⟨Nat.le_of_ble_eq_true rfl, Nat.le_of_ble_eq_true rfl⟩) ⟨cP_blind, va_recv hKc (P_left hPq) (ci := 8) (q0 := 0) rfl rfl, cP_at (P_left hPq) hKc (D_left hDq) hN⟩ rfl rfl hl.1 rfl (lv_room (Nat.le_of_ble_eq_true rfl)) dL_law_385 ⟨(show 36 + 4 * i + 0 ≤ 135154 by omega), (show 33710 + 8195 * i + 0 ≤ 8696788 by omega)⟩) hS (fun q _ h => hFc q h) hFc (fun r_1 u9 t9 H1 locs ht hvm hr_1 hB hz1 hk1 hS => ?_)
  obtain ⟨w1, ⟨n2, g2, f2, sh2, sv2, bv2, hok2, hrl2, rfl⟩, hP1, hD1⟩ := hB
  rw [ht] at hP1
  obtain ⟨hP, hD⟩ := my_joinM hPq hDq hk1 hFc hP1 hD1
  clear hz1 hk1 hFc hKc hPq hDq
  generalize H1 = H at hP hS ⊢
  have hP : va_P D vwCl (cWld cI cO ad n2 g2 f2 sh2 sv2 bv2 ++ mWld cI cZ am nm gm) H := hP
  have hD : va_D (fun q : Nat => s.heap.size ≤ q) (cWld cI cO ad n2 g2 f2 sh2 sv2 bv2 ++ mWld cI cZ am nm gm) := hD
  refine lv_aload_n hx hb dL_law_388 rfl (lv_at hl 1 rfl) ?_
  refine lv_aload_n hx hb dL_law_389 rfl (lv_at hl 3 rfl) ?_
  refine lv_iload_n hx hb dL_law_390 rfl (lv_at hl 0 rfl) ?_
  refine lv_iconst (v := 1) hx hb dL_law_391 (by decide) ?_
  refine lv_iadd hx hb dL_law_392 ?_
  refine my_fold (v := nI (11 * i + 1)) (show nI (11 * i) + nI 1 = _ from nI_add _ _) ?_
  refine va_sld hx hb hX hbl hbA hS (i := nI (11 * i + 1)) (vp_in_nI (by omega) (by omega)) dL_law_393 ?_
  refine my_topv (v := .int (xs (11 * i + 1))) (by rw [nI_clamp (by omega)]) ?_
  refine lv_aload_n hx hb dL_law_394 rfl (lv_at hl 3 rfl) ?_
  refine lv_iload_n hx hb dL_law_395 rfl (lv_at hl 0 rfl) ?_
  refine lv_iconst (v := 2) hx hb dL_law_396 (by decide) ?_
  refine lv_iadd hx hb dL_law_397 ?_
  refine my_fold (v := nI (11 * i + 2)) (show nI (11 * i) + nI 2 = _ from nI_add _ _) ?_
  refine va_sld hx hb hX hbl hbA hS (i := nI (11 * i + 2)) (vp_in_nI (by omega) (by omega)) dL_law_398 ?_
  refine my_topv (v := .int (xs (11 * i + 2))) (by rw [nI_clamp (by omega)]) ?_
  refine lv_aload_n hx hb dL_law_399 rfl (lv_at hl 3 rfl) ?_
  refine lv_iload_n hx hb dL_law_400 rfl (lv_at hl 0 rfl) ?_
  refine lv_iconst (v := 3) hx hb dL_law_401 (by decide) ?_
  refine lv_iadd hx hb dL_law_402 ?_
  refine my_fold (v := nI (11 * i + 3)) (show nI (11 * i) + nI 3 = _ from nI_add _ _) ?_
  refine va_sld hx hb hX hbl hbA hS (i := nI (11 * i + 3)) (vp_in_nI (by omega) (by omega)) dL_law_403 ?_
  refine my_topv (v := .int (xs (11 * i + 3))) (by rw [nI_clamp (by omega)]) ?_
  refine lv_aload_n hx hb dL_law_404 rfl (lv_at hl 3 rfl) ?_
  refine lv_iload_n hx hb dL_law_405 rfl (lv_at hl 0 rfl) ?_
  refine lv_iconst (v := 4) hx hb dL_law_406 (by decide) ?_
  refine lv_iadd hx hb dL_law_407 ?_
  refine my_fold (v := nI (11 * i + 4)) (show nI (11 * i) + nI 4 = _ from nI_add _ _) ?_
  refine va_sld hx hb hX hbl hbA hS (i := nI (11 * i + 4)) (vp_in_nI (by omega) (by omega)) dL_law_408 ?_
  refine my_topv (v := .int (xs (11 * i + 4))) (by rw [nI_clamp (by omega)]) ?_
  have hPq : va_P D vwCl (mWld cI cZ am nm gm ++ cWld cI cO ad n2 g2 f2 sh2 sv2 bv2) H := P_perm List.perm_append_comm hP
  have hDq : va_D (fun q : Nat => s.heap.size ≤ q) (mWld cI cZ am nm gm ++ cWld cI cO ad n2 g2 f2 sh2 sv2 bv2) := D_perm List.perm_append_comm hD
  have hFc := free_left hDq hS hA
  have hKc := hK.sub (tys' := [(cI, .int), (cZ, .boolean)]) [0, 2] rfl
  refine va_calli (va_runV (As := [.int (xs (11 * i + 1)), .int (xs (11 * i + 2)), .int (xs (11 * i + 3)), .int (xs (11 * i + 4))]) (rest := [.int r_1]) ⟨hx, hb, hml, hown, hts⟩ (w_X9_circle l D H.size cI cZ am nm gm hom (xs (11 * i + 1)) (xs (11 * i + 2)) (xs (11 * i + 3)) (xs (11 * i + 4))) (cwV 4 hts (gV bw_598 bw_500 bw_501 bw_391 bw_499) rfl rfl rfl (by decide +kernel) ⟨Nat.le_of_ble_eq_true rfl, Nat.le_of_ble_eq_true rfl⟩) ⟨cP_blind, va_recv hKc (P_left hPq) (ci := 9) (q0 := 0) rfl rfl, cP_at (P_left hPq) hKc (D_left hDq) hN⟩ rfl rfl hl.1 rfl (lv_room (Nat.le_of_ble_eq_true rfl)) dL_law_409 ⟨(show 36 + 4 * i + 0 + 0 ≤ 135154 by omega), (show 33710 + 8195 * i + 0 + 0 ≤ 8696788 by omega)⟩) hS (fun q _ h => hFc q h) hFc (fun r_3 u9 t9 H1 locs ht hvm hr_3 hB hz1 hk1 hS => ?_)
  obtain ⟨w1, ⟨nm4, gm4, hom4, hrl4, rfl⟩, hP1, hD1⟩ := hB
  rw [ht] at hP1
  obtain ⟨hP, hD⟩ := my_joinM hPq hDq hk1 hFc hP1 hD1
  have hP := P_perm (List.perm_append_comm (l₁ := mWld cI cZ am nm4 gm4) (l₂ := cWld cI cO ad n2 g2 f2 sh2 sv2 bv2)) hP
  have hD := D_perm (List.perm_append_comm (l₁ := mWld cI cZ am nm4 gm4) (l₂ := cWld cI cO ad n2 g2 f2 sh2 sv2 bv2)) hD
  clear hz1 hk1 hFc hKc hPq hDq
  generalize H1 = H at hP hS ⊢
  have hP : va_P D vwCl (cWld cI cO ad n2 g2 f2 sh2 sv2 bv2 ++ mWld cI cZ am nm4 gm4) H := hP
  have hD : va_D (fun q : Nat => s.heap.size ≤ q) (cWld cI cO ad n2 g2 f2 sh2 sv2 bv2 ++ mWld cI cZ am nm4 gm4) := hD
  refine lv_icmp_eq (tgt := 1167) hx hb dL_law_412 (by decide) (fun c_5 => ?_) (fun c_5 => ?_)
  · skip
    have f_6 : r_1.toInt = r_3.toInt := f_eq rfl rfl c_5
    refine W.widen (k := 36 + 4 * i + 4) (n := 33710 + 8195 * i + 8195) (by omega) (by omega) ?_
    exact hnext n2 g2 f2 sh2 sv2 bv2 nm4 gm4 _ _ _ hok2 hom4 (RW_c (ci_ok (k := xs (11 * i + 1)) (x := xs (11 * i + 2)) (y := xs (11 * i + 3)) (rd := xs (11 * i + 4)) hpr hok hom).2 hrl2 hrl4) hP hD hS hl
  · skip
    have heq : r_1 = r_3 := (hr_1.trans (ci_ok (k := xs (11 * i + 1)) (x := xs (11 * i + 2)) (y := xs (11 * i + 3)) (rd := xs (11 * i + 4)) hpr hok hom).1).trans hr_3.symm
    exact absurd heq c_5

set_option maxHeartbeats 1000000 in
set_option maxRecDepth 100000 in
theorem law_op_7 {p : Program} {e : Env} {s : State} {m : MethodId} {below : List Frame} {meth : Method} {c : Code} (l : Launch) {b L : Nat} {xs : Nat → Int32} (C0 : lw_At p s m meth c b L xs) (hN : nW s) {D : va_G} {cI cO cZ : ClassId} (hK : va_K D vwCl [(cI, .int), (cO, .object "DotBench$Sheet"), (cZ, .boolean)] s) {ad am : Nat → Nat} (hL : L ≤ 5632) {i : Nat} (hi : 11 * i + 11 ≤ L) {n : Nat → Int32} {g : Nat → Nat → Int32} {f : Nat → Option Nat} {sh : Nat → Option Sh} {sv : Option Sp} {bv : Option Sh} {nm : Nat → Int32} {gm : Nat → Nat → Int32} (hok : okC n f sh) (hom : okM nm gm) (hpr : RW n g (fun k => vO (sh k)) nm gm) {H : Heap} {locs : List Loc} (hP : va_P D vwCl (cWld cI cO ad n g f sh sv bv ++ mWld cI cZ am nm gm) H) (hD : va_D (fun q : Nat => s.heap.size ≤ q) (cWld cI cO ad n g f sh sv bv ++ mWld cI cZ am nm gm)) (hS : va_S (fun q : Nat => s.heap.size ≤ q) s.heap H locs) {ls : Array Slot} (hl : lv_has ls 4 [(3, .int (nI (11 * i))), (2, .ref (am 0)), (1, .ref (ad 0)), (0, .ref b)]) (hnext : ∀ (n : Nat → Int32) (g : Nat → Nat → Int32) (f : Nat → Option Nat) (sh : Nat → Option Sh) (sv : Option Sp) (bv : Option Sh) (nm : Nat → Int32) (gm : Nat → Nat → Int32) (H : Heap) (locs : List Loc) (ls : Array Slot), okC n f sh → okM nm gm → RW n g (fun k => vO (sh k)) nm gm → va_P D vwCl (cWld cI cO ad n g f sh sv bv ++ mWld cI cZ am nm gm) H → va_D (fun q : Nat => s.heap.size ≤ q) (cWld cI cO ad n g f sh sv bv ++ mWld cI cZ am nm gm) → va_S (fun q : Nat => s.heap.size ≤ q) s.heap H locs → lv_has ls 4 [(3, .int (nI (11 * i))), (2, .ref (am 0)), (1, .ref (ad 0)), (0, .ref b)] → W p l e room_1 s m #[Value.ref b] below meth c H locs (36 + 4 * i + 4) (33710 + 8195 * i + 8195) (lw_Z below #[Value.ref b] s) (F0 m 1167 ls [])) : W p l e room_1 s m #[Value.ref b] below meth c H locs (36 + 4 * i) (33710 + 8195 * i) (lw_Z below #[Value.ref b] s) (F0 m 417 ls []) := by
  obtain ⟨hx, hb, hr, hml, hown, hts0, hX, hbl, hlocks, hgv⟩ := id C0
  have hts : ∀ w ∈ bigW, w.before #[Value.ref b] s = true := fun w h => hts0 w (bigW_in w h).1
  have hown : s.vm.findClass RL = some m.cls := hown
  have hA : ∀ q : Nat, s.heap.size ≤ q → (fun q : Nat => s.heap.size ≤ q) q := fun _ h => h
  have hbA : ¬ (fun q : Nat => s.heap.size ≤ q) b := Nat.not_le.mpr hbl
  refine lv_aload_n hx hb dL_law_417 rfl (lv_at hl 2 rfl) ?_
  refine lv_aload_n hx hb dL_law_418 rfl (lv_at hl 3 rfl) ?_
  refine lv_iload_n hx hb dL_law_419 rfl (lv_at hl 0 rfl) ?_
  refine lv_iconst (v := 1) hx hb dL_law_420 (by decide) ?_
  refine lv_iadd hx hb dL_law_421 ?_
  refine my_fold (v := nI (11 * i + 1)) (show nI (11 * i) + nI 1 = _ from nI_add _ _) ?_
  refine va_sld hx hb hX hbl hbA hS (i := nI (11 * i + 1)) (vp_in_nI (by omega) (by omega)) dL_law_422 ?_
  refine my_topv (v := .int (xs (11 * i + 1))) (by rw [nI_clamp (by omega)]) ?_
  refine lv_aload_n hx hb dL_law_423 rfl (lv_at hl 3 rfl) ?_
  refine lv_iload_n hx hb dL_law_424 rfl (lv_at hl 0 rfl) ?_
  refine lv_iconst (v := 2) hx hb dL_law_425 (by decide) ?_
  refine lv_iadd hx hb dL_law_426 ?_
  refine my_fold (v := nI (11 * i + 2)) (show nI (11 * i) + nI 2 = _ from nI_add _ _) ?_
  refine va_sld hx hb hX hbl hbA hS (i := nI (11 * i + 2)) (vp_in_nI (by omega) (by omega)) dL_law_427 ?_
  refine my_topv (v := .int (xs (11 * i + 2))) (by rw [nI_clamp (by omega)]) ?_
  refine lv_aload_n hx hb dL_law_428 rfl (lv_at hl 3 rfl) ?_
  refine lv_iload_n hx hb dL_law_429 rfl (lv_at hl 0 rfl) ?_
  refine lv_iconst (v := 3) hx hb dL_law_430 (by decide) ?_
  refine lv_iadd hx hb dL_law_431 ?_
  refine my_fold (v := nI (11 * i + 3)) (show nI (11 * i) + nI 3 = _ from nI_add _ _) ?_
  refine va_sld hx hb hX hbl hbA hS (i := nI (11 * i + 3)) (vp_in_nI (by omega) (by omega)) dL_law_432 ?_
  refine my_topv (v := .int (xs (11 * i + 3))) (by rw [nI_clamp (by omega)]) ?_
  refine lv_if_eq (tgt := 440) hx hb dL_law_433 (by decide) (fun c_1 => ?_) (fun c_1 => ?_)
  · skip
    have f_2 : (xs (11 * i + 3)).toInt = 0 := f_eq rfl (by decide) c_1
    refine lv_iconst (v := 0) hx hb dL_law_440 (by decide) ?_
    have hPq : va_P D vwCl (cWld cI cO ad n g f sh sv bv ++ mWld cI cZ am nm gm) H := hP
    have hDq : va_D (fun q : Nat => s.heap.size ≤ q) (cWld cI cO ad n g f sh sv bv ++ mWld cI cZ am nm gm) := hD
    have hFc := free_left hDq hS hA
    have hKc := hK.sub (tys' := [(cI, .int), (cO, .object "DotBench$Sheet")]) [0, 1] rfl
    refine va_calli (va_runV (As := [.int (xs (11 * i + 1)), .int (xs (11 * i + 2)), .int 0]) (rest := []) ⟨hx, hb, hml, hown, hts⟩ (w_X8_point l D H.size cI cO ad n g f sh sv bv hok (xs (11 * i + 1)) (xs (11 * i + 2)) 0) (cwV 3 hts (gV bw_599 bw_283 bw_284 bw_223 bw_282) rfl rfl rfl (by decide +kernel) ⟨Nat.le_of_ble_eq_true rfl, Nat.le_of_ble_eq_true rfl⟩) ⟨cP_blind, va_recv hKc (P_left hPq) (ci := 8) (q0 := 0) rfl rfl, cP_at (P_left hPq) hKc (D_left hDq) hN⟩ rfl rfl hl.1 rfl (lv_room (Nat.le_of_ble_eq_true rfl)) dL_law_441 ⟨(show 36 + 4 * i + 0 ≤ 135154 by omega), (show 33710 + 8195 * i + 0 ≤ 8696788 by omega)⟩) hS (fun q _ h => hFc q h) hFc (fun r_3 u9 t9 H1 locs ht hvm hr_3 hB hz1 hk1 hS => ?_)
    obtain ⟨w1, ⟨n4, g4, f4, sh4, sv4, bv4, hok4, hrl4, rfl⟩, hP1, hD1⟩ := hB
    rw [ht] at hP1
    obtain ⟨hP, hD⟩ := my_joinM hPq hDq hk1 hFc hP1 hD1
    clear hz1 hk1 hFc hKc hPq hDq
    generalize H1 = H at hP hS ⊢
    have hP : va_P D vwCl (cWld cI cO ad n4 g4 f4 sh4 sv4 bv4 ++ mWld cI cZ am nm gm) H := hP
    have hD : va_D (fun q : Nat => s.heap.size ≤ q) (cWld cI cO ad n4 g4 f4 sh4 sv4 bv4 ++ mWld cI cZ am nm gm) := hD
    refine lv_aload_n hx hb dL_law_444 rfl (lv_at hl 1 rfl) ?_
    refine lv_aload_n hx hb dL_law_445 rfl (lv_at hl 3 rfl) ?_
    refine lv_iload_n hx hb dL_law_446 rfl (lv_at hl 0 rfl) ?_
    refine lv_iconst (v := 1) hx hb dL_law_447 (by decide) ?_
    refine lv_iadd hx hb dL_law_448 ?_
    refine my_fold (v := nI (11 * i + 1)) (show nI (11 * i) + nI 1 = _ from nI_add _ _) ?_
    refine va_sld hx hb hX hbl hbA hS (i := nI (11 * i + 1)) (vp_in_nI (by omega) (by omega)) dL_law_449 ?_
    refine my_topv (v := .int (xs (11 * i + 1))) (by rw [nI_clamp (by omega)]) ?_
    refine lv_aload_n hx hb dL_law_450 rfl (lv_at hl 3 rfl) ?_
    refine lv_iload_n hx hb dL_law_451 rfl (lv_at hl 0 rfl) ?_
    refine lv_iconst (v := 2) hx hb dL_law_452 (by decide) ?_
    refine lv_iadd hx hb dL_law_453 ?_
    refine my_fold (v := nI (11 * i + 2)) (show nI (11 * i) + nI 2 = _ from nI_add _ _) ?_
    refine va_sld hx hb hX hbl hbA hS (i := nI (11 * i + 2)) (vp_in_nI (by omega) (by omega)) dL_law_454 ?_
    refine my_topv (v := .int (xs (11 * i + 2))) (by rw [nI_clamp (by omega)]) ?_
    refine lv_aload_n hx hb dL_law_455 rfl (lv_at hl 3 rfl) ?_
    refine lv_iload_n hx hb dL_law_456 rfl (lv_at hl 0 rfl) ?_
    refine lv_iconst (v := 3) hx hb dL_law_457 (by decide) ?_
    refine lv_iadd hx hb dL_law_458 ?_
    refine my_fold (v := nI (11 * i + 3)) (show nI (11 * i) + nI 3 = _ from nI_add _ _) ?_
    refine va_sld hx hb hX hbl hbA hS (i := nI (11 * i + 3)) (vp_in_nI (by omega) (by omega)) dL_law_459 ?_
    refine my_topv (v := .int (xs (11 * i + 3))) (by rw [nI_clamp (by omega)]) ?_
    refine lv_if_eq (tgt := 467) hx hb dL_law_460 (by decide) (fun c_5 => ?_) (fun c_5 => ?_)
    · skip
      have f_6 : (xs (11 * i + 3)).toInt = 0 := f_eq rfl (by decide) c_5
      refine lv_iconst (v := 0) hx hb dL_law_467 (by decide) ?_
      have hPq : va_P D vwCl (mWld cI cZ am nm gm ++ cWld cI cO ad n4 g4 f4 sh4 sv4 bv4) H := P_perm List.perm_append_comm hP
      have hDq : va_D (fun q : Nat => s.heap.size ≤ q) (mWld cI cZ am nm gm ++ cWld cI cO ad n4 g4 f4 sh4 sv4 bv4) := D_perm List.perm_append_comm hD
      have hFc := free_left hDq hS hA
      have hKc := hK.sub (tys' := [(cI, .int), (cZ, .boolean)]) [0, 2] rfl
      refine va_calli (va_runV (As := [.int (xs (11 * i + 1)), .int (xs (11 * i + 2)), .int 0]) (rest := [.int r_3]) ⟨hx, hb, hml, hown, hts⟩ (w_X9_point l D H.size cI cZ am nm gm hom (xs (11 * i + 1)) (xs (11 * i + 2)) 0) (cwV 3 hts (gV bw_600 bw_504 bw_505 bw_391 bw_503) rfl rfl rfl (by decide +kernel) ⟨Nat.le_of_ble_eq_true rfl, Nat.le_of_ble_eq_true rfl⟩) ⟨cP_blind, va_recv hKc (P_left hPq) (ci := 9) (q0 := 0) rfl rfl, cP_at (P_left hPq) hKc (D_left hDq) hN⟩ rfl rfl hl.1 rfl (lv_room (Nat.le_of_ble_eq_true rfl)) dL_law_468 ⟨(show 36 + 4 * i + 0 + 0 ≤ 135154 by omega), (show 33710 + 8195 * i + 0 + 0 ≤ 8696788 by omega)⟩) hS (fun q _ h => hFc q h) hFc (fun r_7 u9 t9 H1 locs ht hvm hr_7 hB hz1 hk1 hS => ?_)
      obtain ⟨w1, ⟨nm8, gm8, hom8, hrl8, rfl⟩, hP1, hD1⟩ := hB
      rw [ht] at hP1
      obtain ⟨hP, hD⟩ := my_joinM hPq hDq hk1 hFc hP1 hD1
      have hP := P_perm (List.perm_append_comm (l₁ := mWld cI cZ am nm8 gm8) (l₂ := cWld cI cO ad n4 g4 f4 sh4 sv4 bv4)) hP
      have hD := D_perm (List.perm_append_comm (l₁ := mWld cI cZ am nm8 gm8) (l₂ := cWld cI cO ad n4 g4 f4 sh4 sv4 bv4)) hD
      clear hz1 hk1 hFc hKc hPq hDq
      generalize H1 = H at hP hS ⊢
      have hP : va_P D vwCl (cWld cI cO ad n4 g4 f4 sh4 sv4 bv4 ++ mWld cI cZ am nm8 gm8) H := hP
      have hD : va_D (fun q : Nat => s.heap.size ≤ q) (cWld cI cO ad n4 g4 f4 sh4 sv4 bv4 ++ mWld cI cZ am nm8 gm8) := hD
      refine lv_icmp_eq (tgt := 1167) hx hb dL_law_471 (by decide) (fun c_9 => ?_) (fun c_9 => ?_)
      · skip
        have f_10 : r_3.toInt = r_7.toInt := f_eq rfl rfl c_9
        refine W.widen (k := 36 + 4 * i + 4) (n := 33710 + 8195 * i + 8195) (by omega) (by omega) ?_
        exact hnext n4 g4 f4 sh4 sv4 bv4 nm8 gm8 _ _ _ hok4 hom8 (RW_pointc hpr hok hrl4 hrl8) hP hD hS hl
      · skip
        have heq : r_3 = r_7 := by rw [hr_3, hr_7, hpr.2.2.1.1]
        exact absurd heq c_9
    · skip
      exact absurd c_1 c_5
  · skip
    have f_2 : ¬ ((xs (11 * i + 3)).toInt = 0) := fn_eq rfl (by decide) c_1
    refine lv_iconst (v := 1) hx hb dL_law_436 (by decide) ?_
    refine lv_goto (tgt := 441) hx hb dL_law_437 (by decide) ?_
    have hPq : va_P D vwCl (cWld cI cO ad n g f sh sv bv ++ mWld cI cZ am nm gm) H := hP
    have hDq : va_D (fun q : Nat => s.heap.size ≤ q) (cWld cI cO ad n g f sh sv bv ++ mWld cI cZ am nm gm) := hD
    have hFc := free_left hDq hS hA
    have hKc := hK.sub (tys' := [(cI, .int), (cO, .object "DotBench$Sheet")]) [0, 1] rfl
    refine va_calli (va_runV (As := [.int (xs (11 * i + 1)), .int (xs (11 * i + 2)), .int 1]) (rest := []) ⟨hx, hb, hml, hown, hts⟩ (w_X8_point l D H.size cI cO ad n g f sh sv bv hok (xs (11 * i + 1)) (xs (11 * i + 2)) 1) (cwV 3 hts (gV bw_599 bw_283 bw_284 bw_223 bw_282) rfl rfl rfl (by decide +kernel) ⟨Nat.le_of_ble_eq_true rfl, Nat.le_of_ble_eq_true rfl⟩) ⟨cP_blind, va_recv hKc (P_left hPq) (ci := 8) (q0 := 0) rfl rfl, cP_at (P_left hPq) hKc (D_left hDq) hN⟩ rfl rfl hl.1 rfl (lv_room (Nat.le_of_ble_eq_true rfl)) dL_law_441 ⟨(show 36 + 4 * i + 0 ≤ 135154 by omega), (show 33710 + 8195 * i + 0 ≤ 8696788 by omega)⟩) hS (fun q _ h => hFc q h) hFc (fun r_11 u9 t9 H1 locs ht hvm hr_11 hB hz1 hk1 hS => ?_)
    obtain ⟨w1, ⟨n12, g12, f12, sh12, sv12, bv12, hok12, hrl12, rfl⟩, hP1, hD1⟩ := hB
    rw [ht] at hP1
    obtain ⟨hP, hD⟩ := my_joinM hPq hDq hk1 hFc hP1 hD1
    clear hz1 hk1 hFc hKc hPq hDq
    generalize H1 = H at hP hS ⊢
    have hP : va_P D vwCl (cWld cI cO ad n12 g12 f12 sh12 sv12 bv12 ++ mWld cI cZ am nm gm) H := hP
    have hD : va_D (fun q : Nat => s.heap.size ≤ q) (cWld cI cO ad n12 g12 f12 sh12 sv12 bv12 ++ mWld cI cZ am nm gm) := hD
    refine lv_aload_n hx hb dL_law_444 rfl (lv_at hl 1 rfl) ?_
    refine lv_aload_n hx hb dL_law_445 rfl (lv_at hl 3 rfl) ?_
    refine lv_iload_n hx hb dL_law_446 rfl (lv_at hl 0 rfl) ?_
    refine lv_iconst (v := 1) hx hb dL_law_447 (by decide) ?_
    refine lv_iadd hx hb dL_law_448 ?_
    refine my_fold (v := nI (11 * i + 1)) (show nI (11 * i) + nI 1 = _ from nI_add _ _) ?_
    refine va_sld hx hb hX hbl hbA hS (i := nI (11 * i + 1)) (vp_in_nI (by omega) (by omega)) dL_law_449 ?_
    refine my_topv (v := .int (xs (11 * i + 1))) (by rw [nI_clamp (by omega)]) ?_
    refine lv_aload_n hx hb dL_law_450 rfl (lv_at hl 3 rfl) ?_
    refine lv_iload_n hx hb dL_law_451 rfl (lv_at hl 0 rfl) ?_
    refine lv_iconst (v := 2) hx hb dL_law_452 (by decide) ?_
    refine lv_iadd hx hb dL_law_453 ?_
    refine my_fold (v := nI (11 * i + 2)) (show nI (11 * i) + nI 2 = _ from nI_add _ _) ?_
    refine va_sld hx hb hX hbl hbA hS (i := nI (11 * i + 2)) (vp_in_nI (by omega) (by omega)) dL_law_454 ?_
    refine my_topv (v := .int (xs (11 * i + 2))) (by rw [nI_clamp (by omega)]) ?_
    refine lv_aload_n hx hb dL_law_455 rfl (lv_at hl 3 rfl) ?_
    refine lv_iload_n hx hb dL_law_456 rfl (lv_at hl 0 rfl) ?_
    refine lv_iconst (v := 3) hx hb dL_law_457 (by decide) ?_
    refine lv_iadd hx hb dL_law_458 ?_
    refine my_fold (v := nI (11 * i + 3)) (show nI (11 * i) + nI 3 = _ from nI_add _ _) ?_
    refine va_sld hx hb hX hbl hbA hS (i := nI (11 * i + 3)) (vp_in_nI (by omega) (by omega)) dL_law_459 ?_
    refine my_topv (v := .int (xs (11 * i + 3))) (by rw [nI_clamp (by omega)]) ?_
    refine lv_if_eq (tgt := 467) hx hb dL_law_460 (by decide) (fun c_13 => ?_) (fun c_13 => ?_)
    · skip
      exact absurd c_13 c_1
    · skip
      have f_14 : ¬ ((xs (11 * i + 3)).toInt = 0) := fn_eq rfl (by decide) c_13
      refine lv_iconst (v := 1) hx hb dL_law_463 (by decide) ?_
      refine lv_goto (tgt := 468) hx hb dL_law_464 (by decide) ?_
      have hPq : va_P D vwCl (mWld cI cZ am nm gm ++ cWld cI cO ad n12 g12 f12 sh12 sv12 bv12) H := P_perm List.perm_append_comm hP
      have hDq : va_D (fun q : Nat => s.heap.size ≤ q) (mWld cI cZ am nm gm ++ cWld cI cO ad n12 g12 f12 sh12 sv12 bv12) := D_perm List.perm_append_comm hD
      have hFc := free_left hDq hS hA
      have hKc := hK.sub (tys' := [(cI, .int), (cZ, .boolean)]) [0, 2] rfl
      refine va_calli (va_runV (As := [.int (xs (11 * i + 1)), .int (xs (11 * i + 2)), .int 1]) (rest := [.int r_11]) ⟨hx, hb, hml, hown, hts⟩ (w_X9_point l D H.size cI cZ am nm gm hom (xs (11 * i + 1)) (xs (11 * i + 2)) 1) (cwV 3 hts (gV bw_600 bw_504 bw_505 bw_391 bw_503) rfl rfl rfl (by decide +kernel) ⟨Nat.le_of_ble_eq_true rfl, Nat.le_of_ble_eq_true rfl⟩) ⟨cP_blind, va_recv hKc (P_left hPq) (ci := 9) (q0 := 0) rfl rfl, cP_at (P_left hPq) hKc (D_left hDq) hN⟩ rfl rfl hl.1 rfl (lv_room (Nat.le_of_ble_eq_true rfl)) dL_law_468 ⟨(show 36 + 4 * i + 0 + 0 ≤ 135154 by omega), (show 33710 + 8195 * i + 0 + 0 ≤ 8696788 by omega)⟩) hS (fun q _ h => hFc q h) hFc (fun r_15 u9 t9 H1 locs ht hvm hr_15 hB hz1 hk1 hS => ?_)
      obtain ⟨w1, ⟨nm16, gm16, hom16, hrl16, rfl⟩, hP1, hD1⟩ := hB
      rw [ht] at hP1
      obtain ⟨hP, hD⟩ := my_joinM hPq hDq hk1 hFc hP1 hD1
      have hP := P_perm (List.perm_append_comm (l₁ := mWld cI cZ am nm16 gm16) (l₂ := cWld cI cO ad n12 g12 f12 sh12 sv12 bv12)) hP
      have hD := D_perm (List.perm_append_comm (l₁ := mWld cI cZ am nm16 gm16) (l₂ := cWld cI cO ad n12 g12 f12 sh12 sv12 bv12)) hD
      clear hz1 hk1 hFc hKc hPq hDq
      generalize H1 = H at hP hS ⊢
      have hP : va_P D vwCl (cWld cI cO ad n12 g12 f12 sh12 sv12 bv12 ++ mWld cI cZ am nm16 gm16) H := hP
      have hD : va_D (fun q : Nat => s.heap.size ≤ q) (cWld cI cO ad n12 g12 f12 sh12 sv12 bv12 ++ mWld cI cZ am nm16 gm16) := hD
      refine lv_icmp_eq (tgt := 1167) hx hb dL_law_471 (by decide) (fun c_17 => ?_) (fun c_17 => ?_)
      · skip
        have f_18 : r_11.toInt = r_15.toInt := f_eq rfl rfl c_17
        refine W.widen (k := 36 + 4 * i + 4) (n := 33710 + 8195 * i + 8195) (by omega) (by omega) ?_
        exact hnext n12 g12 f12 sh12 sv12 bv12 nm16 gm16 _ _ _ hok12 hom16 (RW_pointc hpr hok hrl12 hrl16) hP hD hS hl
      · skip
        have heq : r_11 = r_15 := by rw [hr_11, hr_15, hpr.2.2.1.1]
        exact absurd heq c_17
