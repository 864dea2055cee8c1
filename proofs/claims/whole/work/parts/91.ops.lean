set_option maxHeartbeats 1000000 in
set_option maxRecDepth 100000 in
theorem law_op_0 {p : Program} {e : Env} {s : State} {m : MethodId} {below : List Frame} {meth : Method} {c : Code} (l : Launch) {b L : Nat} {xs : Nat → Int32} (C0 : lw_At p s m meth c b L xs) (hN : nW s) {D : va_G} {cI cO cZ : ClassId} (hK : va_K D vwCl [(cI, .int), (cO, .object "DotBench$Sheet"), (cZ, .boolean)] s) {ad am : Nat → Nat} (hL : L ≤ 5632) {i : Nat} (hi : 11 * i + 11 ≤ L) {n : Nat → Int32} {g : Nat → Nat → Int32} {f : Nat → Option Nat} {sh : Nat → Option Sh} {sv : Option Sp} {bv : Option Sh} {nm : Nat → Int32} {gm : Nat → Nat → Int32} (hok : okC n f sh) (hom : okM nm gm) (hpr : RW n g (fun k => vO (sh k)) nm gm) {H : Heap} {locs : List Loc} (hP : va_P D vwCl (cWld cI cO ad n g f sh sv bv ++ mWld cI cZ am nm gm) H) (hD : va_D (fun q : Nat => s.heap.size ≤ q) (cWld cI cO ad n g f sh sv bv ++ mWld cI cZ am nm gm)) (hS : va_S (fun q : Nat => s.heap.size ≤ q) s.heap H locs) {ls : Array Slot} (hl : lv_has ls 4 [(3, .int (nI (11 * i))), (2, .ref (am 0)), (1, .ref (ad 0)), (0, .ref b)]) (hnext : ∀ (n : Nat → Int32) (g : Nat → Nat → Int32) (f : Nat → Option Nat) (sh : Nat → Option Sh) (sv : Option Sp) (bv : Option Sh) (nm : Nat → Int32) (gm : Nat → Nat → Int32) (H : Heap) (locs : List Loc) (ls : Array Slot), okC n f sh → okM nm gm → RW n g (fun k => vO (sh k)) nm gm → va_P D vwCl (cWld cI cO ad n g f sh sv bv ++ mWld cI cZ am nm gm) H → va_D (fun q : Nat => s.heap.size ≤ q) (cWld cI cO ad n g f sh sv bv ++ mWld cI cZ am nm gm) → va_S (fun q : Nat => s.heap.size ≤ q) s.heap H locs → lv_has ls 4 [(3, .int (nI (11 * i))), (2, .ref (am 0)), (1, .ref (ad 0)), (0, .ref b)] → W p l e room_1 s m #[Value.ref b] below meth c H locs (36 + 4 * i + 4) (33710 + 8195 * i + 8195) (lw_Z below #[Value.ref b] s) (F0 m 1167 ls [])) : W p l e room_1 s m #[Value.ref b] below meth c H locs (36 + 4 * i) (33710 + 8195 * i) (lw_Z below #[Value.ref b] s) (F0 m 132 ls []) := by
  obtain ⟨hx, hb, hr, hml, hown, hts0, hX, hbl, hlocks, hgv⟩ := id C0
  have hts : ∀ w ∈ bigW, w.before #[Value.ref b] s = true := fun w h => hts0 w (bigW_in w h).1
  have hown : s.vm.findClass RL = some m.cls := hown
  have hA : ∀ q : Nat, s.heap.size ≤ q → (fun q : Nat => s.heap.size ≤ q) q := fun _ h => h
  have hbA : ¬ (fun q : Nat => s.heap.size ≤ q) b := Nat.not_le.mpr hbl
  refine lv_aload_n hx hb dL_law_132 rfl (lv_at hl 2 rfl) ?_
  refine lv_aload_n hx hb dL_law_133 rfl (lv_at hl 3 rfl) ?_
  refine lv_iload_n hx hb dL_law_134 rfl (lv_at hl 0 rfl) ?_
  refine lv_iconst (v := 1) hx hb dL_law_135 (by decide) ?_
  refine lv_iadd hx hb dL_law_136 ?_
  refine my_fold (v := nI (11 * i + 1)) (show nI (11 * i) + nI 1 = _ from nI_add _ _) ?_
  refine va_sld hx hb hX hbl hbA hS (i := nI (11 * i + 1)) (vp_in_nI (by omega) (by omega)) dL_law_137 ?_
  refine my_topv (v := .int (xs (11 * i + 1))) (by rw [nI_clamp (by omega)]) ?_
  refine lv_aload_n hx hb dL_law_138 rfl (lv_at hl 3 rfl) ?_
  refine lv_iload_n hx hb dL_law_139 rfl (lv_at hl 0 rfl) ?_
  refine lv_iconst (v := 2) hx hb dL_law_140 (by decide) ?_
  refine lv_iadd hx hb dL_law_141 ?_
  refine my_fold (v := nI (11 * i + 2)) (show nI (11 * i) + nI 2 = _ from nI_add _ _) ?_
  refine va_sld hx hb hX hbl hbA hS (i := nI (11 * i + 2)) (vp_in_nI (by omega) (by omega)) dL_law_142 ?_
  refine my_topv (v := .int (xs (11 * i + 2))) (by rw [nI_clamp (by omega)]) ?_
  refine lv_aload_n hx hb dL_law_143 rfl (lv_at hl 3 rfl) ?_
  refine lv_iload_n hx hb dL_law_144 rfl (lv_at hl 0 rfl) ?_
  refine lv_iconst (v := 3) hx hb dL_law_145 (by decide) ?_
  refine lv_iadd hx hb dL_law_146 ?_
  refine my_fold (v := nI (11 * i + 3)) (show nI (11 * i) + nI 3 = _ from nI_add _ _) ?_
  refine va_sld hx hb hX hbl hbA hS (i := nI (11 * i + 3)) (vp_in_nI (by omega) (by omega)) dL_law_147 ?_
  refine my_topv (v := .int (xs (11 * i + 3))) (by rw [nI_clamp (by omega)]) ?_
  have hPq : va_P D vwCl (cWld cI cO ad n g f sh sv bv ++ mWld cI cZ am nm gm) H := hP
  have hDq : va_D (fun q : Nat => s.heap.size ≤ q) (cWld cI cO ad n g f sh sv bv ++ mWld cI cZ am nm gm) := hD
  have hFc := free_left hDq hS hA
  have hKc := hK.sub (tys' := [(cI, .int), (cO, .object "DotBench$Sheet")]) [0, 1] rfl
  refine va_calli (va_runV (As := [.int (xs (11 * i + 1)), .int (xs (11 * i + 2)), .int (xs (11 * i + 3))]) (rest := []) ⟨hx, hb, hml, hown, hts⟩ (w_X8_sheet l D H.size cI cO ad n g f sh sv bv hok (xs (11 * i + 1)) (xs (11 * i + 2)) (xs (11 * i + 3))) (cwV 3 hts (gV bw_585 bw_245 bw_246 bw_223 bw_244) rfl rfl rfl (by decide +kernel) ⟨Nat.le_of_ble_eq_true rfl, Nat.le_of_ble_eq_true rfl⟩) ⟨cP_blind, va_recv hKc (P_left hPq) (ci := 8) (q0 := 0) rfl rfl, cP_at (P_left hPq) hKc (D_left hDq) hN⟩ rfl rfl hl.1 rfl (lv_room (Nat.le_of_ble_eq_true rfl)) dL_law_148 ⟨(show 36 + 4 * i + 2 ≤ 135154 by omega), (show 33710 + 8195 * i + 4099 ≤ 8696788 by omega)⟩) hS (fun q _ h => hFc q h) hFc (fun r_1 u9 t9 H1 locs ht hvm hr_1 hB hz1 hk1 hS => ?_)
  obtain ⟨w1, ⟨n2, g2, f2, sh2, sv2, bv2, hok2, hrl2, rfl⟩, hP1, hD1⟩ := hB
  rw [ht] at hP1
  obtain ⟨hP, hD⟩ := my_joinM hPq hDq hk1 hFc hP1 hD1
  clear hz1 hk1 hFc hKc hPq hDq
  generalize H1 = H at hP hS ⊢
  have hP : va_P D vwCl (cWld cI cO ad n2 g2 f2 sh2 sv2 bv2 ++ mWld cI cZ am nm gm) H := hP
  have hD : va_D (fun q : Nat => s.heap.size ≤ q) (cWld cI cO ad n2 g2 f2 sh2 sv2 bv2 ++ mWld cI cZ am nm gm) := hD
  refine lv_aload_n hx hb dL_law_151 rfl (lv_at hl 1 rfl) ?_
  refine lv_aload_n hx hb dL_law_152 rfl (lv_at hl 3 rfl) ?_
  refine lv_iload_n hx hb dL_law_153 rfl (lv_at hl 0 rfl) ?_
  refine lv_iconst (v := 1) hx hb dL_law_154 (by decide) ?_
  refine lv_iadd hx hb dL_law_155 ?_
  refine my_fold (v := nI (11 * i + 1)) (show nI (11 * i) + nI 1 = _ from nI_add _ _) ?_
  refine va_sld hx hb hX hbl hbA hS (i := nI (11 * i + 1)) (vp_in_nI (by omega) (by omega)) dL_law_156 ?_
  refine my_topv (v := .int (xs (11 * i + 1))) (by rw [nI_clamp (by omega)]) ?_
  refine lv_aload_n hx hb dL_law_157 rfl (lv_at hl 3 rfl) ?_
  refine lv_iload_n hx hb dL_law_158 rfl (lv_at hl 0 rfl) ?_
  refine lv_iconst (v := 2) hx hb dL_law_159 (by decide) ?_
  refine lv_iadd hx hb dL_law_160 ?_
  refine my_fold (v := nI (11 * i + 2)) (show nI (11 * i) + nI 2 = _ from nI_add _ _) ?_
  refine va_sld hx hb hX hbl hbA hS (i := nI (11 * i + 2)) (vp_in_nI (by omega) (by omega)) dL_law_161 ?_
  refine my_topv (v := .int (xs (11 * i + 2))) (by rw [nI_clamp (by omega)]) ?_
  refine lv_aload_n hx hb dL_law_162 rfl (lv_at hl 3 rfl) ?_
  refine lv_iload_n hx hb dL_law_163 rfl (lv_at hl 0 rfl) ?_
  refine lv_iconst (v := 3) hx hb dL_law_164 (by decide) ?_
  refine lv_iadd hx hb dL_law_165 ?_
  refine my_fold (v := nI (11 * i + 3)) (show nI (11 * i) + nI 3 = _ from nI_add _ _) ?_
  refine va_sld hx hb hX hbl hbA hS (i := nI (11 * i + 3)) (vp_in_nI (by omega) (by omega)) dL_law_166 ?_
  refine my_topv (v := .int (xs (11 * i + 3))) (by rw [nI_clamp (by omega)]) ?_
  have hPq : va_P D vwCl (mWld cI cZ am nm gm ++ cWld cI cO ad n2 g2 f2 sh2 sv2 bv2) H := P_perm List.perm_append_comm hP
  have hDq : va_D (fun q : Nat => s.heap.size ≤ q) (mWld cI cZ am nm gm ++ cWld cI cO ad n2 g2 f2 sh2 sv2 bv2) := D_perm List.perm_append_comm hD
  have hFc := free_left hDq hS hA
  have hKc := hK.sub (tys' := [(cI, .int), (cZ, .boolean)]) [0, 2] rfl
  refine va_calli (va_runV (As := [.int (xs (11 * i + 1)), .int (xs (11 * i + 2)), .int (xs (11 * i + 3))]) (rest := [.int r_1]) ⟨hx, hb, hml, hown, hts⟩ (w_X9_sheet l D H.size cI cZ am nm gm hom (xs (11 * i + 1)) (xs (11 * i + 2)) (xs (11 * i + 3))) (cwV 3 hts (gV bw_586 bw_466 bw_467 bw_391 bw_465) rfl rfl rfl (by decide +kernel) ⟨Nat.le_of_ble_eq_true rfl, Nat.le_of_ble_eq_true rfl⟩) ⟨cP_blind, va_recv hKc (P_left hPq) (ci := 9) (q0 := 0) rfl rfl, cP_at (P_left hPq) hKc (D_left hDq) hN⟩ rfl rfl hl.1 rfl (lv_room (Nat.le_of_ble_eq_true rfl)) dL_law_167 ⟨(show 36 + 4 * i + 2 + 0 ≤ 135154 by omega), (show 33710 + 8195 * i + 4099 + 0 ≤ 8696788 by omega)⟩) hS (fun q _ h => hFc q h) hFc (fun r_3 u9 t9 H1 locs ht hvm hr_3 hB hz1 hk1 hS => ?_)
  obtain ⟨w1, ⟨nm4, gm4, hom4, hrl4, rfl⟩, hP1, hD1⟩ := hB
  rw [ht] at hP1
  obtain ⟨hP, hD⟩ := my_joinM hPq hDq hk1 hFc hP1 hD1
  have hP := P_perm (List.perm_append_comm (l₁ := mWld cI cZ am nm4 gm4) (l₂ := cWld cI cO ad n2 g2 f2 sh2 sv2 bv2)) hP
  have hD := D_perm (List.perm_append_comm (l₁ := mWld cI cZ am nm4 gm4) (l₂ := cWld cI cO ad n2 g2 f2 sh2 sv2 bv2)) hD
  clear hz1 hk1 hFc hKc hPq hDq
  generalize H1 = H at hP hS ⊢
  have hP : va_P D vwCl (cWld cI cO ad n2 g2 f2 sh2 sv2 bv2 ++ mWld cI cZ am nm4 gm4) H := hP
  have hD : va_D (fun q : Nat => s.heap.size ≤ q) (cWld cI cO ad n2 g2 f2 sh2 sv2 bv2 ++ mWld cI cZ am nm4 gm4) := hD
  refine lv_icmp_eq (tgt := 1167) hx hb dL_law_170 (by decide) (fun c_5 => ?_) (fun c_5 => ?_)
  · skip
    have f_6 : r_1.toInt = r_3.toInt := f_eq rfl rfl c_5
    refine W.widen (k := 36 + 4 * i + 4) (n := 33710 + 8195 * i + 8195) (by omega) (by omega) ?_
    exact hnext n2 g2 f2 sh2 sv2 bv2 nm4 gm4 _ _ _ hok2 hom4 (RW_sheetc hpr hrl2 hrl4) hP hD hS hl
  · skip
    have heq : r_1 = r_3 := hr_1.trans hr_3.symm
    exact absurd heq c_5

set_option maxHeartbeats 1000000 in
set_option maxRecDepth 100000 in
theorem law_op_1 {p : Program} {e : Env} {s : State} {m : MethodId} {below : List Frame} {meth : Method} {c : Code} (l : Launch) {b L : Nat} {xs : Nat → Int32} (C0 : lw_At p s m meth c b L xs) (hN : nW s) {D : va_G} {cI cO cZ : ClassId} (hK : va_K D vwCl [(cI, .int), (cO, .object "DotBench$Sheet"), (cZ, .boolean)] s) {ad am : Nat → Nat} (hL : L ≤ 5632) {i : Nat} (hi : 11 * i + 11 ≤ L) {n : Nat → Int32} {g : Nat → Nat → Int32} {f : Nat → Option Nat} {sh : Nat → Option Sh} {sv : Option Sp} {bv : Option Sh} {nm : Nat → Int32} {gm : Nat → Nat → Int32} (hok : okC n f sh) (hom : okM nm gm) (hpr : RW n g (fun k => vO (sh k)) nm gm) {H : Heap} {locs : List Loc} (hP : va_P D vwCl (cWld cI cO ad n g f sh sv bv ++ mWld cI cZ am nm gm) H) (hD : va_D (fun q : Nat => s.heap.size ≤ q) (cWld cI cO ad n g f sh sv bv ++ mWld cI cZ am nm gm)) (hS : va_S (fun q : Nat => s.heap.size ≤ q) s.heap H locs) {ls : Array Slot} (hl : lv_has ls 4 [(3, .int (nI (11 * i))), (2, .ref (am 0)), (1, .ref (ad 0)), (0, .ref b)]) (hnext : ∀ (n : Nat → Int32) (g : Nat → Nat → Int32) (f : Nat → Option Nat) (sh : Nat → Option Sh) (sv : Option Sp) (bv : Option Sh) (nm : Nat → Int32) (gm : Nat → Nat → Int32) (H : Heap) (locs : List Loc) (ls : Array Slot), okC n f sh → okM nm gm → RW n g (fun k => vO (sh k)) nm gm → va_P D vwCl (cWld cI cO ad n g f sh sv bv ++ mWld cI cZ am nm gm) H → va_D (fun q : Nat => s.heap.size ≤ q) (cWld cI cO ad n g f sh sv bv ++ mWld cI cZ am nm gm) → va_S (fun q : Nat => s.heap.size ≤ q) s.heap H locs → lv_has ls 4 [(3, .int (nI (11 * i))), (2, .ref (am 0)), (1, .ref (ad 0)), (0, .ref b)] → W p l e room_1 s m #[Value.ref b] below meth c H locs (36 + 4 * i + 4) (33710 + 8195 * i + 8195) (lw_Z below #[Value.ref b] s) (F0 m 1167 ls [])) : W p l e room_1 s m #[Value.ref b] below meth c H locs (36 + 4 * i) (33710 + 8195 * i) (lw_Z below #[Value.ref b] s) (F0 m 175 ls []) := by
  obtain ⟨hx, hb, hr, hml, hown, hts0, hX, hbl, hlocks, hgv⟩ := id C0
  have hts : ∀ w ∈ bigW, w.before #[Value.ref b] s = true := fun w h => hts0 w (bigW_in w h).1
  have hown : s.vm.findClass RL = some m.cls := hown
  have hA : ∀ q : Nat, s.heap.size ≤ q → (fun q : Nat => s.heap.size ≤ q) q := fun _ h => h
  have hbA : ¬ (fun q : Nat => s.heap.size ≤ q) b := Nat.not_le.mpr hbl
  refine lv_aload_n hx hb dL_law_175 rfl (lv_at hl 2 rfl) ?_
  refine lv_aload_n hx hb dL_law_176 rfl (lv_at hl 3 rfl) ?_
  refine lv_iload_n hx hb dL_law_177 rfl (lv_at hl 0 rfl) ?_
  refine lv_iconst (v := 1) hx hb dL_law_178 (by decide) ?_
  refine lv_iadd hx hb dL_law_179 ?_
  refine my_fold (v := nI (11 * i + 1)) (show nI (11 * i) + nI 1 = _ from nI_add _ _) ?_
  refine va_sld hx hb hX hbl hbA hS (i := nI (11 * i + 1)) (vp_in_nI (by omega) (by omega)) dL_law_180 ?_
  refine my_topv (v := .int (xs (11 * i + 1))) (by rw [nI_clamp (by omega)]) ?_
  have hPq : va_P D vwCl (cWld cI cO ad n g f sh sv bv ++ mWld cI cZ am nm gm) H := hP
  have hDq : va_D (fun q : Nat => s.heap.size ≤ q) (cWld cI cO ad n g f sh sv bv ++ mWld cI cZ am nm gm) := hD
  have hFc := free_left hDq hS hA
  have hKc := hK.sub (tys' := [(cI, .int), (cO, .object "DotBench$Sheet")]) [0, 1] rfl
  refine va_callv (va_runV (As := [.int (xs (11 * i + 1))]) (rest := []) ⟨hx, hb, hml, hown, hts⟩ (w_X8_ink l D H.size cI cO ad n g f sh sv bv hok (xs (11 * i + 1))) (cwV 1 hts (gV bw_587 bw_250 bw_251 bw_223 bw_249) rfl rfl rfl (by decide +kernel) ⟨Nat.le_of_ble_eq_true rfl, Nat.le_of_ble_eq_true rfl⟩) ⟨cP_blind, va_recv hKc (P_left hPq) (ci := 8) (q0 := 0) rfl rfl, cP_at (P_left hPq) hKc (D_left hDq) hN⟩ rfl rfl hl.1 rfl (lv_room (Nat.le_of_ble_eq_true rfl)) dL_law_181 ⟨(show 36 + 4 * i + 0 ≤ 135154 by omega), (show 33710 + 8195 * i + 0 ≤ 8696788 by omega)⟩) hS (fun q _ h => hFc q h) hFc (fun u9 t9 H1 locs ht hvm hr_1 hB hz1 hk1 hS => ?_)
  obtain ⟨w1, ⟨n2, g2, f2, sh2, sv2, bv2, hok2, hrl2, rfl⟩, hP1, hD1⟩ := hB
  rw [ht] at hP1
  obtain ⟨hP, hD⟩ := my_joinM hPq hDq hk1 hFc hP1 hD1
  clear hz1 hk1 hFc hKc hPq hDq
  generalize H1 = H at hP hS ⊢
  have hP : va_P D vwCl (cWld cI cO ad n2 g2 f2 sh2 sv2 bv2 ++ mWld cI cZ am nm gm) H := hP
  have hD : va_D (fun q : Nat => s.heap.size ≤ q) (cWld cI cO ad n2 g2 f2 sh2 sv2 bv2 ++ mWld cI cZ am nm gm) := hD
  refine lv_aload_n hx hb dL_law_184 rfl (lv_at hl 1 rfl) ?_
  refine lv_aload_n hx hb dL_law_185 rfl (lv_at hl 3 rfl) ?_
  refine lv_iload_n hx hb dL_law_186 rfl (lv_at hl 0 rfl) ?_
  refine lv_iconst (v := 1) hx hb dL_law_187 (by decide) ?_
  refine lv_iadd hx hb dL_law_188 ?_
  refine my_fold (v := nI (11 * i + 1)) (show nI (11 * i) + nI 1 = _ from nI_add _ _) ?_
  refine va_sld hx hb hX hbl hbA hS (i := nI (11 * i + 1)) (vp_in_nI (by omega) (by omega)) dL_law_189 ?_
  refine my_topv (v := .int (xs (11 * i + 1))) (by rw [nI_clamp (by omega)]) ?_
  have hPq : va_P D vwCl (mWld cI cZ am nm gm ++ cWld cI cO ad n2 g2 f2 sh2 sv2 bv2) H := P_perm List.perm_append_comm hP
  have hDq : va_D (fun q : Nat => s.heap.size ≤ q) (mWld cI cZ am nm gm ++ cWld cI cO ad n2 g2 f2 sh2 sv2 bv2) := D_perm List.perm_append_comm hD
  have hFc := free_left hDq hS hA
  have hKc := hK.sub (tys' := [(cI, .int), (cZ, .boolean)]) [0, 2] rfl
  refine va_callv (va_runV (As := [.int (xs (11 * i + 1))]) (rest := []) ⟨hx, hb, hml, hown, hts⟩ (w_X9_ink l D H.size cI cZ am nm gm hom (xs (11 * i + 1))) (cwV 1 hts (gV bw_588 bw_469 bw_470 bw_391 bw_468) rfl rfl rfl (by decide +kernel) ⟨Nat.le_of_ble_eq_true rfl, Nat.le_of_ble_eq_true rfl⟩) ⟨cP_blind, va_recv hKc (P_left hPq) (ci := 9) (q0 := 0) rfl rfl, cP_at (P_left hPq) hKc (D_left hDq) hN⟩ rfl rfl hl.1 rfl (lv_room (Nat.le_of_ble_eq_true rfl)) dL_law_190 ⟨(show 36 + 4 * i + 0 + 0 ≤ 135154 by omega), (show 33710 + 8195 * i + 0 + 0 ≤ 8696788 by omega)⟩) hS (fun q _ h => hFc q h) hFc (fun u9 t9 H1 locs ht hvm hr_3 hB hz1 hk1 hS => ?_)
  obtain ⟨w1, ⟨nm4, gm4, hom4, hrl4, rfl⟩, hP1, hD1⟩ := hB
  rw [ht] at hP1
  obtain ⟨hP, hD⟩ := my_joinM hPq hDq hk1 hFc hP1 hD1
  have hP := P_perm (List.perm_append_comm (l₁ := mWld cI cZ am nm4 gm4) (l₂ := cWld cI cO ad n2 g2 f2 sh2 sv2 bv2)) hP
  have hD := D_perm (List.perm_append_comm (l₁ := mWld cI cZ am nm4 gm4) (l₂ := cWld cI cO ad n2 g2 f2 sh2 sv2 bv2)) hD
  clear hz1 hk1 hFc hKc hPq hDq
  generalize H1 = H at hP hS ⊢
  have hP : va_P D vwCl (cWld cI cO ad n2 g2 f2 sh2 sv2 bv2 ++ mWld cI cZ am nm4 gm4) H := hP
  have hD : va_D (fun q : Nat => s.heap.size ≤ q) (cWld cI cO ad n2 g2 f2 sh2 sv2 bv2 ++ mWld cI cZ am nm4 gm4) := hD
  refine lv_goto (tgt := 1167) hx hb dL_law_193 (by decide) ?_
  refine W.widen (k := 36 + 4 * i + 4) (n := 33710 + 8195 * i + 8195) (by omega) (by omega) ?_
  exact hnext n2 g2 f2 sh2 sv2 bv2 nm4 gm4 _ _ _ hok2 hom4 (RW_c (RW_ink hpr) hrl2 hrl4) hP hD hS hl

set_option maxHeartbeats 1000000 in
set_option maxRecDepth 100000 in
theorem law_op_2 {p : Program} {e : Env} {s : State} {m : MethodId} {below : List Frame} {meth : Method} {c : Code} (l : Launch) {b L : Nat} {xs : Nat → Int32} (C0 : lw_At p s m meth c b L xs) (hN : nW s) {D : va_G} {cI cO cZ : ClassId} (hK : va_K D vwCl [(cI, .int), (cO, .object "DotBench$Sheet"), (cZ, .boolean)] s) {ad am : Nat → Nat} (hL : L ≤ 5632) {i : Nat} (hi : 11 * i + 11 ≤ L) {n : Nat → Int32} {g : Nat → Nat → Int32} {f : Nat → Option Nat} {sh : Nat → Option Sh} {sv : Option Sp} {bv : Option Sh} {nm : Nat → Int32} {gm : Nat → Nat → Int32} (hok : okC n f sh) (hom : okM nm gm) (hpr : RW n g (fun k => vO (sh k)) nm gm) {H : Heap} {locs : List Loc} (hP : va_P D vwCl (cWld cI cO ad n g f sh sv bv ++ mWld cI cZ am nm gm) H) (hD : va_D (fun q : Nat => s.heap.size ≤ q) (cWld cI cO ad n g f sh sv bv ++ mWld cI cZ am nm gm)) (hS : va_S (fun q : Nat => s.heap.size ≤ q) s.heap H locs) {ls : Array Slot} (hl : lv_has ls 4 [(3, .int (nI (11 * i))), (2, .ref (am 0)), (1, .ref (ad 0)), (0, .ref b)]) (hnext : ∀ (n : Nat → Int32) (g : Nat → Nat → Int32) (f : Nat → Option Nat) (sh : Nat → Option Sh) (sv : Option Sp) (bv : Option Sh) (nm : Nat → Int32) (gm : Nat → Nat → Int32) (H : Heap) (locs : List Loc) (ls : Array Slot), okC n f sh → okM nm gm → RW n g (fun k => vO (sh k)) nm gm → va_P D vwCl (cWld cI cO ad n g f sh sv bv ++ mWld cI cZ am nm gm) H → va_D (fun q : Nat => s.heap.size ≤ q) (cWld cI cO ad n g f sh sv bv ++ mWld cI cZ am nm gm) → va_S (fun q : Nat => s.heap.size ≤ q) s.heap H locs → lv_has ls 4 [(3, .int (nI (11 * i))), (2, .ref (am 0)), (1, .ref (ad 0)), (0, .ref b)] → W p l e room_1 s m #[Value.ref b] below meth c H locs (36 + 4 * i + 4) (33710 + 8195 * i + 8195) (lw_Z below #[Value.ref b] s) (F0 m 1167 ls [])) : W p l e room_1 s m #[Value.ref b] below meth c H locs (36 + 4 * i) (33710 + 8195 * i) (lw_Z below #[Value.ref b] s) (F0 m 196 ls []) := by
  obtain ⟨hx, hb, hr, hml, hown, hts0, hX, hbl, hlocks, hgv⟩ := id C0
  have hts : ∀ w ∈ bigW, w.before #[Value.ref b] s = true := fun w h => hts0 w (bigW_in w h).1
  have hown : s.vm.findClass RL = some m.cls := hown
  have hA : ∀ q : Nat, s.heap.size ≤ q → (fun q : Nat => s.heap.size ≤ q) q := fun _ h => h
  have hbA : ¬ (fun q : Nat => s.heap.size ≤ q) b := Nat.not_le.mpr hbl
  refine lv_aload_n hx hb dL_law_196 rfl (lv_at hl 2 rfl) ?_
  refine lv_aload_n hx hb dL_law_197 rfl (lv_at hl 3 rfl) ?_
  refine lv_iload_n hx hb dL_law_198 rfl (lv_at hl 0 rfl) ?_
  refine lv_iconst (v := 1) hx hb dL_law_199 (by decide) ?_
  refine lv_iadd hx hb dL_law_200 ?_
  refine my_fold (v := nI (11 * i + 1)) (show nI (11 * i) + nI 1 = _ from nI_add _ _) ?_
  refine va_sld hx hb hX hbl hbA hS (i := nI (11 * i + 1)) (vp_in_nI (by omega) (by omega)) dL_law_201 ?_
  refine my_topv (v := .int (xs (11 * i + 1))) (by rw [nI_clamp (by omega)]) ?_
  refine lv_aload_n hx hb dL_law_202 rfl (lv_at hl 3 rfl) ?_
  refine lv_iload_n hx hb dL_law_203 rfl (lv_at hl 0 rfl) ?_
  refine lv_iconst (v := 2) hx hb dL_law_204 (by decide) ?_
  refine lv_iadd hx hb dL_law_205 ?_
  refine my_fold (v := nI (11 * i + 2)) (show nI (11 * i) + nI 2 = _ from nI_add _ _) ?_
  refine va_sld hx hb hX hbl hbA hS (i := nI (11 * i + 2)) (vp_in_nI (by omega) (by omega)) dL_law_206 ?_
  refine my_topv (v := .int (xs (11 * i + 2))) (by rw [nI_clamp (by omega)]) ?_
  have hPq : va_P D vwCl (cWld cI cO ad n g f sh sv bv ++ mWld cI cZ am nm gm) H := hP
  have hDq : va_D (fun q : Nat => s.heap.size ≤ q) (cWld cI cO ad n g f sh sv bv ++ mWld cI cZ am nm gm) := hD
  have hFc := free_left hDq hS hA
  have hKc := hK.sub (tys' := [(cI, .int), (cO, .object "DotBench$Sheet")]) [0, 1] rfl
  refine va_calli (va_runV (As := [.int (xs (11 * i + 1)), .int (xs (11 * i + 2))]) (rest := []) ⟨hx, hb, hml, hown, hts⟩ (w_X8_way l D H.size cI cO ad n g f sh sv bv hok (xs (11 * i + 1)) (xs (11 * i + 2))) (cwV 2 hts (gV bw_589 bw_254 bw_255 bw_223 bw_253) rfl rfl rfl (by decide +kernel) ⟨Nat.le_of_ble_eq_true rfl, Nat.le_of_ble_eq_true rfl⟩) ⟨cP_blind, va_recv hKc (P_left hPq) (ci := 8) (q0 := 0) rfl rfl, cP_at (P_left hPq) hKc (D_left hDq) hN⟩ rfl rfl hl.1 rfl (lv_room (Nat.le_of_ble_eq_true rfl)) dL_law_207 ⟨(show 36 + 4 * i + 0 ≤ 135154 by omega), (show 33710 + 8195 * i + 0 ≤ 8696788 by omega)⟩) hS (fun q _ h => hFc q h) hFc (fun r_1 u9 t9 H1 locs ht hvm hr_1 hB hz1 hk1 hS => ?_)
  obtain ⟨w1, ⟨n2, g2, f2, sh2, sv2, bv2, hok2, hrl2, rfl⟩, hP1, hD1⟩ := hB
  rw [ht] at hP1
  obtain ⟨hP, hD⟩ := my_joinM hPq hDq hk1 hFc hP1 hD1
  clear hz1 hk1 hFc hKc hPq hDq
  generalize H1 = H at hP hS ⊢
  have hP : va_P D vwCl (cWld cI cO ad n2 g2 f2 sh2 sv2 bv2 ++ mWld cI cZ am nm gm) H := hP
  have hD : va_D (fun q : Nat => s.heap.size ≤ q) (cWld cI cO ad n2 g2 f2 sh2 sv2 bv2 ++ mWld cI cZ am nm gm) := hD
  refine lv_aload_n hx hb dL_law_210 rfl (lv_at hl 1 rfl) ?_
  refine lv_aload_n hx hb dL_law_211 rfl (lv_at hl 3 rfl) ?_
  refine lv_iload_n hx hb dL_law_212 rfl (lv_at hl 0 rfl) ?_
  refine lv_iconst (v := 1) hx hb dL_law_213 (by decide) ?_
  refine lv_iadd hx hb dL_law_214 ?_
  refine my_fold (v := nI (11 * i + 1)) (show nI (11 * i) + nI 1 = _ from nI_add _ _) ?_
  refine va_sld hx hb hX hbl hbA hS (i := nI (11 * i + 1)) (vp_in_nI (by omega) (by omega)) dL_law_215 ?_
  refine my_topv (v := .int (xs (11 * i + 1))) (by rw [nI_clamp (by omega)]) ?_
  refine lv_aload_n hx hb dL_law_216 rfl (lv_at hl 3 rfl) ?_
  refine lv_iload_n hx hb dL_law_217 rfl (lv_at hl 0 rfl) ?_
  refine lv_iconst (v := 2) hx hb dL_law_218 (by decide) ?_
  refine lv_iadd hx hb dL_law_219 ?_
  refine my_fold (v := nI (11 * i + 2)) (show nI (11 * i) + nI 2 = _ from nI_add _ _) ?_
  refine va_sld hx hb hX hbl hbA hS (i := nI (11 * i + 2)) (vp_in_nI (by omega) (by omega)) dL_law_220 ?_
  refine my_topv (v := .int (xs (11 * i + 2))) (by rw [nI_clamp (by omega)]) ?_
  have hPq : va_P D vwCl (mWld cI cZ am nm gm ++ cWld cI cO ad n2 g2 f2 sh2 sv2 bv2) H := P_perm List.perm_append_comm hP
  have hDq : va_D (fun q : Nat => s.heap.size ≤ q) (mWld cI cZ am nm gm ++ cWld cI cO ad n2 g2 f2 sh2 sv2 bv2) := D_perm List.perm_append_comm hD
  have hFc := free_left hDq hS hA
  have hKc := hK.sub (tys' := [(cI, .int), (cZ, .boolean)]) [0, 2] rfl
  refine va_calli (va_runV (As := [.int (xs (11 * i + 1)), .int (xs (11 * i + 2))]) (rest := [.int r_1]) ⟨hx, hb, hml, hown, hts⟩ (w_X9_way l D H.size cI cZ am nm gm hom (xs (11 * i + 1)) (xs (11 * i + 2))) (cwV 2 hts (gV bw_590 bw_473 bw_474 bw_391 bw_472) rfl rfl rfl (by decide +kernel) ⟨Nat.le_of_ble_eq_true rfl, Nat.le_of_ble_eq_true rfl⟩) ⟨cP_blind, va_recv hKc (P_left hPq) (ci := 9) (q0 := 0) rfl rfl, cP_at (P_left hPq) hKc (D_left hDq) hN⟩ rfl rfl hl.1 rfl (lv_room (Nat.le_of_ble_eq_true rfl)) dL_law_221 ⟨(show 36 + 4 * i + 0 + 0 ≤ 135154 by omega), (show 33710 + 8195 * i + 0 + 0 ≤ 8696788 by omega)⟩) hS (fun q _ h => hFc q h) hFc (fun r_3 u9 t9 H1 locs ht hvm hr_3 hB hz1 hk1 hS => ?_)
  obtain ⟨w1, ⟨nm4, gm4, hom4, hrl4, rfl⟩, hP1, hD1⟩ := hB
  rw [ht] at hP1
  obtain ⟨hP, hD⟩ := my_joinM hPq hDq hk1 hFc hP1 hD1
  have hP := P_perm (List.perm_append_comm (l₁ := mWld cI cZ am nm4 gm4) (l₂ := cWld cI cO ad n2 g2 f2 sh2 sv2 bv2)) hP
  have hD := D_perm (List.perm_append_comm (l₁ := mWld cI cZ am nm4 gm4) (l₂ := cWld cI cO ad n2 g2 f2 sh2 sv2 bv2)) hD
  clear hz1 hk1 hFc hKc hPq hDq
  generalize H1 = H at hP hS ⊢
  have hP : va_P D vwCl (cWld cI cO ad n2 g2 f2 sh2 sv2 bv2 ++ mWld cI cZ am nm4 gm4) H := hP
  have hD : va_D (fun q : Nat => s.heap.size ≤ q) (cWld cI cO ad n2 g2 f2 sh2 sv2 bv2 ++ mWld cI cZ am nm4 gm4) := hD
  refine lv_icmp_eq (tgt := 1167) hx hb dL_law_224 (by decide) (fun c_5 => ?_) (fun c_5 => ?_)
  · skip
    have f_6 : r_1.toInt = r_3.toInt := f_eq rfl rfl c_5
    refine W.widen (k := 36 + 4 * i + 4) (n := 33710 + 8195 * i + 8195) (by omega) (by omega) ?_
    exact hnext n2 g2 f2 sh2 sv2 bv2 nm4 gm4 _ _ _ hok2 hom4 (RW_wayc hpr hrl2 hrl4) hP hD hS hl
  · skip
    have heq : r_1 = r_3 := hr_1.trans hr_3.symm
    exact absurd heq c_5

set_option maxHeartbeats 1000000 in
set_option maxRecDepth 100000 in
theorem law_op_3 {p : Program} {e : Env} {s : State} {m : MethodId} {below : List Frame} {meth : Method} {c : Code} (l : Launch) {b L : Nat} {xs : Nat → Int32} (C0 : lw_At p s m meth c b L xs) (hN : nW s) {D : va_G} {cI cO cZ : ClassId} (hK : va_K D vwCl [(cI, .int), (cO, .object "DotBench$Sheet"), (cZ, .boolean)] s) {ad am : Nat → Nat} (hL : L ≤ 5632) {i : Nat} (hi : 11 * i + 11 ≤ L) {n : Nat → Int32} {g : Nat → Nat → Int32} {f : Nat → Option Nat} {sh : Nat → Option Sh} {sv : Option Sp} {bv : Option Sh} {nm : Nat → Int32} {gm : Nat → Nat → Int32} (hok : okC n f sh) (hom : okM nm gm) (hpr : RW n g (fun k => vO (sh k)) nm gm) {H : Heap} {locs : List Loc} (hP : va_P D vwCl (cWld cI cO ad n g f sh sv bv ++ mWld cI cZ am nm gm) H) (hD : va_D (fun q : Nat => s.heap.size ≤ q) (cWld cI cO ad n g f sh sv bv ++ mWld cI cZ am nm gm)) (hS : va_S (fun q : Nat => s.heap.size ≤ q) s.heap H locs) {ls : Array Slot} (hl : lv_has ls 4 [(3, .int (nI (11 * i))), (2, .ref (am 0)), (1, .ref (ad 0)), (0, .ref b)]) (hnext : ∀ (n : Nat → Int32) (g : Nat → Nat → Int32) (f : Nat → Option Nat) (sh : Nat → Option Sh) (sv : Option Sp) (bv : Option Sh) (nm : Nat → Int32) (gm : Nat → Nat → Int32) (H : Heap) (locs : List Loc) (ls : Array Slot), okC n f sh → okM nm gm → RW n g (fun k => vO (sh k)) nm gm → va_P D vwCl (cWld cI cO ad n g f sh sv bv ++ mWld cI cZ am nm gm) H → va_D (fun q : Nat => s.heap.size ≤ q) (cWld cI cO ad n g f sh sv bv ++ mWld cI cZ am nm gm) → va_S (fun q : Nat => s.heap.size ≤ q) s.heap H locs → lv_has ls 4 [(3, .int (nI (11 * i))), (2, .ref (am 0)), (1, .ref (ad 0)), (0, .ref b)] → W p l e room_1 s m #[Value.ref b] below meth c H locs (36 + 4 * i + 4) (33710 + 8195 * i + 8195) (lw_Z below #[Value.ref b] s) (F0 m 1167 ls [])) : W p l e room_1 s m #[Value.ref b] below meth c H locs (36 + 4 * i) (33710 + 8195 * i) (lw_Z below #[Value.ref b] s) (F0 m 229 ls []) := by
  obtain ⟨hx, hb, hr, hml, hown, hts0, hX, hbl, hlocks, hgv⟩ := id C0
  have hts : ∀ w ∈ bigW, w.before #[Value.ref b] s = true := fun w h => hts0 w (bigW_in w h).1
  have hown : s.vm.findClass RL = some m.cls := hown
  have hA : ∀ q : Nat, s.heap.size ≤ q → (fun q : Nat => s.heap.size ≤ q) q := fun _ h => h
  have hbA : ¬ (fun q : Nat => s.heap.size ≤ q) b := Nat.not_le.mpr hbl
  refine lv_aload_n hx hb dL_law_229 rfl (lv_at hl 2 rfl) ?_
  refine lv_aload_n hx hb dL_law_230 rfl (lv_at hl 3 rfl) ?_
  refine lv_iload_n hx hb dL_law_231 rfl (lv_at hl 0 rfl) ?_
  refine lv_iconst (v := 1) hx hb dL_law_232 (by decide) ?_
  refine lv_iadd hx hb dL_law_233 ?_
  refine my_fold (v := nI (11 * i + 1)) (show nI (11 * i) + nI 1 = _ from nI_add _ _) ?_
  refine va_sld hx hb hX hbl hbA hS (i := nI (11 * i + 1)) (vp_in_nI (by omega) (by omega)) dL_law_234 ?_
  refine my_topv (v := .int (xs (11 * i + 1))) (by rw [nI_clamp (by omega)]) ?_
  refine lv_aload_n hx hb dL_law_235 rfl (lv_at hl 3 rfl) ?_
  refine lv_iload_n hx hb dL_law_236 rfl (lv_at hl 0 rfl) ?_
  refine lv_iconst (v := 2) hx hb dL_law_237 (by decide) ?_
  refine lv_iadd hx hb dL_law_238 ?_
  refine my_fold (v := nI (11 * i + 2)) (show nI (11 * i) + nI 2 = _ from nI_add _ _) ?_
  refine va_sld hx hb hX hbl hbA hS (i := nI (11 * i + 2)) (vp_in_nI (by omega) (by omega)) dL_law_239 ?_
  refine my_topv (v := .int (xs (11 * i + 2))) (by rw [nI_clamp (by omega)]) ?_
  refine lv_aload_n hx hb dL_law_240 rfl (lv_at hl 3 rfl) ?_
  refine lv_iload_n hx hb dL_law_241 rfl (lv_at hl 0 rfl) ?_
  refine lv_iconst (v := 3) hx hb dL_law_242 (by decide) ?_
  refine lv_iadd hx hb dL_law_243 ?_
  refine my_fold (v := nI (11 * i + 3)) (show nI (11 * i) + nI 3 = _ from nI_add _ _) ?_
  refine va_sld hx hb hX hbl hbA hS (i := nI (11 * i + 3)) (vp_in_nI (by omega) (by omega)) dL_law_244 ?_
  refine my_topv (v := .int (xs (11 * i + 3))) (by rw [nI_clamp (by omega)]) ?_
  refine lv_aload_n hx hb dL_law_245 rfl (lv_at hl 3 rfl) ?_
  refine lv_iload_n hx hb dL_law_246 rfl (lv_at hl 0 rfl) ?_
  refine lv_iconst (v := 4) hx hb dL_law_247 (by decide) ?_
  refine lv_iadd hx hb dL_law_248 ?_
  refine my_fold (v := nI (11 * i + 4)) (show nI (11 * i) + nI 4 = _ from nI_add _ _) ?_
  refine va_sld hx hb hX hbl hbA hS (i := nI (11 * i + 4)) (vp_in_nI (by omega) (by omega)) dL_law_249 ?_
  refine my_topv (v := .int (xs (11 * i + 4))) (by rw [nI_clamp (by omega)]) ?_
  have hPq : va_P D vwCl (cWld cI cO ad n g f sh sv bv ++ mWld cI cZ am nm gm) H := hP
  have hDq : va_D (fun q : Nat => s.heap.size ≤ q) (cWld cI cO ad n g f sh sv bv ++ mWld cI cZ am nm gm) := hD
  have hFc := free_left hDq hS hA
  have hKc := hK.sub (tys' := [(cI, .int), (cO, .object "DotBench$Sheet")]) [0, 1] rfl
  refine va_callv (va_runV (As := [.int (xs (11 * i + 1)), .int (xs (11 * i + 2)), .int (xs (11 * i + 3)), .int (xs (11 * i + 4))]) (rest := []) ⟨hx, hb, hml, hown, hts⟩ (w_X8_clip l D H.size cI cO ad n g f sh sv bv hok (xs (11 * i + 1)) (xs (11 * i + 2)) (xs (11 * i + 3)) (xs (11 * i + 4))) (cwV 4 hts (gV bw_591 bw_258 bw_259 bw_223 bw_257) rfl rfl rfl (by decide +kernel) ⟨Nat.le_of_ble_eq_true rfl, Nat.le_of_ble_eq_true rfl⟩) ⟨cP_blind, va_recv hKc (P_left hPq) (ci := 8) (q0 := 0) rfl rfl, cP_at (P_left hPq) hKc (D_left hDq) hN⟩ rfl rfl hl.1 rfl (lv_room (Nat.le_of_ble_eq_true rfl)) dL_law_250 ⟨(show 36 + 4 * i + 0 ≤ 135154 by omega), (show 33710 + 8195 * i + 0 ≤ 8696788 by omega)⟩) hS (fun q _ h => hFc q h) hFc (fun u9 t9 H1 locs ht hvm hr_1 hB hz1 hk1 hS => ?_)
  obtain ⟨w1, ⟨n2, g2, f2, sh2, sv2, bv2, hok2, hrl2, rfl⟩, hP1, hD1⟩ := hB
  rw [ht] at hP1
  obtain ⟨hP, hD⟩ := my_joinM hPq hDq hk1 hFc hP1 hD1
  clear hz1 hk1 hFc hKc hPq hDq
  generalize H1 = H at hP hS ⊢
  have hP : va_P D vwCl (cWld cI cO ad n2 g2 f2 sh2 sv2 bv2 ++ mWld cI cZ am nm gm) H := hP
  have hD : va_D (fun q : Nat => s.heap.size ≤ q) (cWld cI cO ad n2 g2 f2 sh2 sv2 bv2 ++ mWld cI cZ am nm gm) := hD
  refine lv_aload_n hx hb dL_law_253 rfl (lv_at hl 1 rfl) ?_
  refine lv_aload_n hx hb dL_law_254 rfl (lv_at hl 3 rfl) ?_
  refine lv_iload_n hx hb dL_law_255 rfl (lv_at hl 0 rfl) ?_
  refine lv_iconst (v := 1) hx hb dL_law_256 (by decide) ?_
  refine lv_iadd hx hb dL_law_257 ?_
  refine my_fold (v := nI (11 * i + 1)) (show nI (11 * i) + nI 1 = _ from nI_add _ _) ?_
  refine va_sld hx hb hX hbl hbA hS (i := nI (11 * i + 1)) (vp_in_nI (by omega) (by omega)) dL_law_258 ?_
  refine my_topv (v := .int (xs (11 * i + 1))) (by rw [nI_clamp (by omega)]) ?_
  refine lv_aload_n hx hb dL_law_259 rfl (lv_at hl 3 rfl) ?_
  refine lv_iload_n hx hb dL_law_260 rfl (lv_at hl 0 rfl) ?_
  refine lv_iconst (v := 2) hx hb dL_law_261 (by decide) ?_
  refine lv_iadd hx hb dL_law_262 ?_
  refine my_fold (v := nI (11 * i + 2)) (show nI (11 * i) + nI 2 = _ from nI_add _ _) ?_
  refine va_sld hx hb hX hbl hbA hS (i := nI (11 * i + 2)) (vp_in_nI (by omega) (by omega)) dL_law_263 ?_
  refine my_topv (v := .int (xs (11 * i + 2))) (by rw [nI_clamp (by omega)]) ?_
  refine lv_aload_n hx hb dL_law_264 rfl (lv_at hl 3 rfl) ?_
  refine lv_iload_n hx hb dL_law_265 rfl (lv_at hl 0 rfl) ?_
  refine lv_iconst (v := 3) hx hb dL_law_266 (by decide) ?_
  refine lv_iadd hx hb dL_law_267 ?_
  refine my_fold (v := nI (11 * i + 3)) (show nI (11 * i) + nI 3 = _ from nI_add _ _) ?_
  refine va_sld hx hb hX hbl hbA hS (i := nI (11 * i + 3)) (vp_in_nI (by omega) (by omega)) dL_law_268 ?_
  refine my_topv (v := .int (xs (11 * i + 3))) (by rw [nI_clamp (by omega)]) ?_
  refine lv_aload_n hx hb dL_law_269 rfl (lv_at hl 3 rfl) ?_
  refine lv_iload_n hx hb dL_law_270 rfl (lv_at hl 0 rfl) ?_
  refine lv_iconst (v := 4) hx hb dL_law_271 (by decide) ?_
  refine lv_iadd hx hb dL_law_272 ?_
  refine my_fold (v := nI (11 * i + 4)) (show nI (11 * i) + nI 4 = _ from nI_add _ _) ?_
  refine va_sld hx hb hX hbl hbA hS (i := nI (11 * i + 4)) (vp_in_nI (by omega) (by omega)) dL_law_273 ?_
  refine my_topv (v := .int (xs (11 * i + 4))) (by rw [nI_clamp (by omega)]) ?_
  have hPq : va_P D vwCl (mWld cI cZ am nm gm ++ cWld cI cO ad n2 g2 f2 sh2 sv2 bv2) H := P_perm List.perm_append_comm hP
  have hDq : va_D (fun q : Nat => s.heap.size ≤ q) (mWld cI cZ am nm gm ++ cWld cI cO ad n2 g2 f2 sh2 sv2 bv2) := D_perm List.perm_append_comm hD
  have hFc := free_left hDq hS hA
  have hKc := hK.sub (tys' := [(cI, .int), (cZ, .boolean)]) [0, 2] rfl
  refine va_callv (va_runV (As := [.int (xs (11 * i + 1)), .int (xs (11 * i + 2)), .int (xs (11 * i + 3)), .int (xs (11 * i + 4))]) (rest := []) ⟨hx, hb, hml, hown, hts⟩ (w_X9_clip l D H.size cI cZ am nm gm hom (xs (11 * i + 1)) (xs (11 * i + 2)) (xs (11 * i + 3)) (xs (11 * i + 4))) (cwV 4 hts (gV bw_592 bw_476 bw_477 bw_391 bw_475) rfl rfl rfl (by decide +kernel) ⟨Nat.le_of_ble_eq_true rfl, Nat.le_of_ble_eq_true rfl⟩) ⟨cP_blind, va_recv hKc (P_left hPq) (ci := 9) (q0 := 0) rfl rfl, cP_at (P_left hPq) hKc (D_left hDq) hN⟩ rfl rfl hl.1 rfl (lv_room (Nat.le_of_ble_eq_true rfl)) dL_law_274 ⟨(show 36 + 4 * i + 0 + 0 ≤ 135154 by omega), (show 33710 + 8195 * i + 0 + 0 ≤ 8696788 by omega)⟩) hS (fun q _ h => hFc q h) hFc (fun u9 t9 H1 locs ht hvm hr_3 hB hz1 hk1 hS => ?_)
  obtain ⟨w1, ⟨nm4, gm4, hom4, hrl4, rfl⟩, hP1, hD1⟩ := hB
  rw [ht] at hP1
  obtain ⟨hP, hD⟩ := my_joinM hPq hDq hk1 hFc hP1 hD1
  have hP := P_perm (List.perm_append_comm (l₁ := mWld cI cZ am nm4 gm4) (l₂ := cWld cI cO ad n2 g2 f2 sh2 sv2 bv2)) hP
  have hD := D_perm (List.perm_append_comm (l₁ := mWld cI cZ am nm4 gm4) (l₂ := cWld cI cO ad n2 g2 f2 sh2 sv2 bv2)) hD
  clear hz1 hk1 hFc hKc hPq hDq
  generalize H1 = H at hP hS ⊢
  have hP : va_P D vwCl (cWld cI cO ad n2 g2 f2 sh2 sv2 bv2 ++ mWld cI cZ am nm4 gm4) H := hP
  have hD : va_D (fun q : Nat => s.heap.size ≤ q) (cWld cI cO ad n2 g2 f2 sh2 sv2 bv2 ++ mWld cI cZ am nm4 gm4) := hD
  refine lv_goto (tgt := 1167) hx hb dL_law_277 (by decide) ?_
  refine W.widen (k := 36 + 4 * i + 4) (n := 33710 + 8195 * i + 8195) (by omega) (by omega) ?_
  exact hnext n2 g2 f2 sh2 sv2 bv2 nm4 gm4 _ _ _ hok2 hom4 (RW_c (RW_clip hpr) hrl2 hrl4) hP hD hS hl
