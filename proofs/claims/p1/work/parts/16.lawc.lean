set_option maxHeartbeats 4000000 in
set_option maxRecDepth 100000 in
theorem law_c14 {p : Program} {l : Launch} {e : Env} {s : State} {m : MethodId} {below : List Frame} {meth : Method} {c : Code} {b : Nat} {xs : Nat → Int32} (C0 : lw_At p s m meth c b 11 xs) (hN : nW s) {D : va_G} {h0 s1 s2 s3 s4 s5 s6 bx p1 p2 p3 p4 t1 t2 t3 t4 hm m1 m2 m3 m4 m5 m6 m7 m8 m9 m10 m11 m12 m13 : Nat} {ca d1 d2 d3 d4 e1 e2 e3 c1 c2 c3 c7 c8 c9 c10 c11 c12 : ClassId} {H : Heap} {locs : List Loc} (hK : va_K D vwCl [(ca, .object "DotBench$Sheet"), (d1, .int), (d2, .int), (d3, .int), (d4, .int), (e1, .int), (e2, .int), (e3, .int), (c1, .int), (c2, .int), (c3, .int), (c7, .int), (c8, .int), (c9, .boolean), (c10, .int), (c11, .int), (c12, .int)] s) (hP : va_P D vwCl [(h0, .inr (8, [.ref s1, .ref s2, .ref s3, .ref s4, .ref s5, .ref s6, .int 65535, .null, .null])), (s1, .inl (ca, 4, .inr (.inr (.inr (.inr (fun _ => none)))))), (s2, .inr (1, [.ref bx, .int (-1), .int 3, .int 255])), (bx, .inr (0, [.int 0, .int 0, .int 63, .int 63])), (s4, .inr (3, [.ref p1, .ref p2, .ref p3, .ref p4, .int 0, .int 0, .int 0])), (p1, .inl (d1, 48, .inl (fun _ => 0))), (p2, .inl (d2, 48, .inl (fun _ => 0))), (p3, .inl (d3, 48, .inl (fun _ => 0))), (p4, .inl (d4, 48, .inl (fun _ => 0))), (s5, .inr (7, [.ref t1, .ref t2, .ref t3, .ref t4])), (t1, .inl (e1, 3, .inl (fun _ => 0))), (t2, .inl (e2, 3, .inl (fun _ => 0))), (t3, .inl (e3, 3, .inl (fun _ => 0))), (hm, .inr (9, [.ref m1, .ref m2, .ref m3, .int (-1), .int 3, .int 255, .int 0, .int 0, .int 0, .int 0, .int 0, .int 65535, .ref m4, .ref m5, .ref m6, .ref m7, .ref m8, .ref m9, .int 0, .ref m10, .ref m11, .ref m12, .ref m13])), (m1, .inl (c1, 4, .inl (fun _ => 0))), (m2, .inl (c2, 4, .inl (fun _ => 0))), (m3, .inl (c3, 16384, .inl (fun _ => 0))), (m7, .inl (c7, 48, .inl (fun _ => 0))), (m8, .inl (c8, 48, .inl (fun _ => 0))), (m9, .inl (c9, 48, .inl (fun _ => 0))), (m10, .inl (c10, 3, .inl (fun _ => 0))), (m11, .inl (c11, 3, .inl (fun _ => 0))), (m12, .inl (c12, 3, .inl (fun _ => 0)))] H) (hD : va_D (fun q : Nat => s.heap.size ≤ q) [(h0, .inr (8, [.ref s1, .ref s2, .ref s3, .ref s4, .ref s5, .ref s6, .int 65535, .null, .null])), (s1, .inl (ca, 4, .inr (.inr (.inr (.inr (fun _ => none)))))), (s2, .inr (1, [.ref bx, .int (-1), .int 3, .int 255])), (bx, .inr (0, [.int 0, .int 0, .int 63, .int 63])), (s4, .inr (3, [.ref p1, .ref p2, .ref p3, .ref p4, .int 0, .int 0, .int 0])), (p1, .inl (d1, 48, .inl (fun _ => 0))), (p2, .inl (d2, 48, .inl (fun _ => 0))), (p3, .inl (d3, 48, .inl (fun _ => 0))), (p4, .inl (d4, 48, .inl (fun _ => 0))), (s5, .inr (7, [.ref t1, .ref t2, .ref t3, .ref t4])), (t1, .inl (e1, 3, .inl (fun _ => 0))), (t2, .inl (e2, 3, .inl (fun _ => 0))), (t3, .inl (e3, 3, .inl (fun _ => 0))), (hm, .inr (9, [.ref m1, .ref m2, .ref m3, .int (-1), .int 3, .int 255, .int 0, .int 0, .int 0, .int 0, .int 0, .int 65535, .ref m4, .ref m5, .ref m6, .ref m7, .ref m8, .ref m9, .int 0, .ref m10, .ref m11, .ref m12, .ref m13])), (m1, .inl (c1, 4, .inl (fun _ => 0))), (m2, .inl (c2, 4, .inl (fun _ => 0))), (m3, .inl (c3, 16384, .inl (fun _ => 0))), (m7, .inl (c7, 48, .inl (fun _ => 0))), (m8, .inl (c8, 48, .inl (fun _ => 0))), (m9, .inl (c9, 48, .inl (fun _ => 0))), (m10, .inl (c10, 3, .inl (fun _ => 0))), (m11, .inl (c11, 3, .inl (fun _ => 0))), (m12, .inl (c12, 3, .inl (fun _ => 0)))]) (hS : va_S (fun q : Nat => s.heap.size ≤ q) s.heap H locs) {ls : Array Slot} (hl : lv_has ls 4 [(3, .int 0), (2, .ref hm), (1, .ref h0), (0, .ref b)]) : W p l e room_1 s m #[Value.ref b] below meth c H locs 36 33710 (lw_Z below #[Value.ref b] s) (F0 m 790 ls []) := by
  obtain ⟨hx, hb, hr, hml, hown, hts0, hX, hbl, hlocks, hgv⟩ := id C0
  have hts : ∀ w ∈ bigW, w.before #[Value.ref b] s = true := fun w h => hts0 w (bigW_in w h).1
  have hown : s.vm.findClass RL = some m.cls := hown
  have hA : ∀ q : Nat, s.heap.size ≤ q → (fun q : Nat => s.heap.size ≤ q) q := fun _ h => h
  have hbA : ¬ (fun q : Nat => s.heap.size ≤ q) b := Nat.not_le.mpr hbl
  refine lv_aload_n hx hb dL_law_790 rfl (lv_at hl 2 rfl) ?_
  refine lv_aload_n hx hb dL_law_791 rfl (lv_at hl 3 rfl) ?_
  refine lv_iload_n hx hb dL_law_792 rfl (lv_at hl 0 rfl) ?_
  refine lv_iconst (v := 1) hx hb dL_law_793 (by decide) ?_
  refine lv_iadd hx hb dL_law_794 ?_
  refine my_fold (v := 1) (by decide) ?_
  refine va_sld hx hb hX hbl hbA hS (i := 1) (my_in (by decide) (by decide)) dL_law_795 ?_
  refine my_topv (v := .int (xs 1)) rfl ?_
  refine lv_aload_n hx hb dL_law_796 rfl (lv_at hl 3 rfl) ?_
  refine lv_iload_n hx hb dL_law_797 rfl (lv_at hl 0 rfl) ?_
  refine lv_iconst (v := 2) hx hb dL_law_798 (by decide) ?_
  refine lv_iadd hx hb dL_law_799 ?_
  refine my_fold (v := 2) (by decide) ?_
  refine va_sld hx hb hX hbl hbA hS (i := 2) (my_in (by decide) (by decide)) dL_law_800 ?_
  refine my_topv (v := .int (xs 2)) rfl ?_
  refine lv_aload_n hx hb dL_law_801 rfl (lv_at hl 3 rfl) ?_
  refine lv_iload_n hx hb dL_law_802 rfl (lv_at hl 0 rfl) ?_
  refine lv_iconst (v := 3) hx hb dL_law_803 (by decide) ?_
  refine lv_iadd hx hb dL_law_804 ?_
  refine my_fold (v := 3) (by decide) ?_
  refine va_sld hx hb hX hbl hbA hS (i := 3) (my_in (by decide) (by decide)) dL_law_805 ?_
  refine my_topv (v := .int (xs 3)) rfl ?_
  refine lv_aload_n hx hb dL_law_806 rfl (lv_at hl 3 rfl) ?_
  refine lv_iload_n hx hb dL_law_807 rfl (lv_at hl 0 rfl) ?_
  refine lv_iconst (v := 4) hx hb dL_law_808 (by decide) ?_
  refine lv_iadd hx hb dL_law_809 ?_
  refine my_fold (v := 4) (by decide) ?_
  refine va_sld hx hb hX hbl hbA hS (i := 4) (my_in (by decide) (by decide)) dL_law_810 ?_
  refine my_topv (v := .int (xs 4)) rfl ?_
  refine lv_aload_n hx hb dL_law_811 rfl (lv_at hl 3 rfl) ?_
  refine lv_iload_n hx hb dL_law_812 rfl (lv_at hl 0 rfl) ?_
  refine lv_iconst (v := 5) hx hb dL_law_813 (by decide) ?_
  refine lv_iadd hx hb dL_law_814 ?_
  refine my_fold (v := 5) (by decide) ?_
  refine va_sld hx hb hX hbl hbA hS (i := 5) (my_in (by decide) (by decide)) dL_law_815 ?_
  refine my_topv (v := .int (xs 5)) rfl ?_
  refine lv_aload_n hx hb dL_law_816 rfl (lv_at hl 3 rfl) ?_
  refine lv_iload_n hx hb dL_law_817 rfl (lv_at hl 0 rfl) ?_
  refine lv_bipush (v := 6) hx hb dL_law_818 (by decide) ?_
  refine lv_iadd hx hb dL_law_820 ?_
  refine my_fold (v := 6) (by decide) ?_
  refine va_sld hx hb hX hbl hbA hS (i := 6) (my_in (by decide) (by decide)) dL_law_821 ?_
  refine my_topv (v := .int (xs 6)) rfl ?_
  refine lv_aload_n hx hb dL_law_822 rfl (lv_at hl 3 rfl) ?_
  refine lv_iload_n hx hb dL_law_823 rfl (lv_at hl 0 rfl) ?_
  refine lv_bipush (v := 7) hx hb dL_law_824 (by decide) ?_
  refine lv_iadd hx hb dL_law_826 ?_
  refine my_fold (v := 7) (by decide) ?_
  refine va_sld hx hb hX hbl hbA hS (i := 7) (my_in (by decide) (by decide)) dL_law_827 ?_
  refine my_topv (v := .int (xs 7)) rfl ?_
  refine lv_aload_n hx hb dL_law_828 rfl (lv_at hl 3 rfl) ?_
  refine lv_iload_n hx hb dL_law_829 rfl (lv_at hl 0 rfl) ?_
  refine lv_bipush (v := 8) hx hb dL_law_830 (by decide) ?_
  refine lv_iadd hx hb dL_law_832 ?_
  refine my_fold (v := 8) (by decide) ?_
  refine va_sld hx hb hX hbl hbA hS (i := 8) (my_in (by decide) (by decide)) dL_law_833 ?_
  refine my_topv (v := .int (xs 8)) rfl ?_
  refine lv_aload_n hx hb dL_law_834 rfl (lv_at hl 3 rfl) ?_
  refine lv_iload_n hx hb dL_law_835 rfl (lv_at hl 0 rfl) ?_
  refine lv_bipush (v := 9) hx hb dL_law_836 (by decide) ?_
  refine lv_iadd hx hb dL_law_838 ?_
  refine my_fold (v := 9) (by decide) ?_
  refine va_sld hx hb hX hbl hbA hS (i := 9) (my_in (by decide) (by decide)) dL_law_839 ?_
  refine my_topv (v := .int (xs 9)) rfl ?_
  refine lv_aload_n hx hb dL_law_840 rfl (lv_at hl 3 rfl) ?_
  refine lv_iload_n hx hb dL_law_841 rfl (lv_at hl 0 rfl) ?_
  refine lv_bipush (v := 10) hx hb dL_law_842 (by decide) ?_
  refine lv_iadd hx hb dL_law_844 ?_
  refine my_fold (v := 10) (by decide) ?_
  refine va_sld hx hb hX hbl hbA hS (i := 10) (my_in (by decide) (by decide)) dL_law_845 ?_
  refine my_topv (v := .int (xs 10)) rfl ?_
  have hPc := hP.sub (ws' := [(h0, .inr (8, [.ref s1, .ref s2, .ref s3, .ref s4, .ref s5, .ref s6, .int 65535, .null, .null])), (s1, .inl (ca, 4, .inr (.inr (.inr (.inr (fun _ => none))))))]) [0, 1] rfl
  have hDc := hD.sub (ws' := [(h0, .inr (8, [.ref s1, .ref s2, .ref s3, .ref s4, .ref s5, .ref s6, .int 65535, .null, .null])), (s1, .inl (ca, 4, .inr (.inr (.inr (.inr (fun _ => none))))))]) [0, 1] (by decide) rfl
  have hKc := hK.sub (tys' := [(ca, .object "DotBench$Sheet")]) [0] rfl
  have hFc := va_free (wc := [(h0, .inr (8, [.ref s1, .ref s2, .ref s3, .ref s4, .ref s5, .ref s6, .int 65535, .null, .null])), (s1, .inl (ca, 4, .inr (.inr (.inr (.inr (fun _ => none))))))]) hD hS hA [0, 1] rfl
  refine va_calli (va_runV (As := [.int (xs 1), .int (xs 2), .int (xs 3), .int (xs 4), .int (xs 5), .int (xs 6), .int (xs 7), .int (xs 8), .int (xs 9), .int (xs 10)]) (rest := []) ⟨hx, hb, hml, hown, hts⟩ (k_X8_stretch l D H.size h0 s1 s2 s3 s4 s5 s6 ca (xs 1) (xs 2) (xs 3) (xs 4) (xs 5) (xs 6) (xs 7) (xs 8) (xs 9) (xs 10)) (cwV 10 hts (gV bw_312 bw_313 bw_314 bw_1 bw_311) rfl rfl rfl (by decide +kernel) ⟨Nat.le_of_ble_eq_true rfl, Nat.le_of_ble_eq_true rfl⟩) ⟨cP_blind, va_recv hKc hPc (ci := 8) (q0 := 0) rfl rfl, cP_at hPc hKc hDc hN⟩ rfl rfl hl.1 rfl (lv_room (Nat.le_of_ble_eq_true rfl)) dL_law_846 ⟨Nat.le_of_ble_eq_true rfl, Nat.le_of_ble_eq_true rfl⟩) hS (fun q _ h => hFc q h) hFc (fun r_1 u9 t9 H1 locs ht hvm hr_1 hB hz1 hk1 hS => ?_)
  try dsimp only at hr_1
  have hP1 : va_P D vwCl [] H1 := vP_nil
  have hD1 : va_D (va_A [(h0, .inr (8, [.ref s1, .ref s2, .ref s3, .ref s4, .ref s5, .ref s6, .int 65535, .null, .null])), (s1, .inl (ca, 4, .inr (.inr (.inr (.inr (fun _ => none))))))] H.size) [] := vD_nil
  obtain ⟨hP, hD⟩ := va_join (wr := [(s2, .inr (1, [.ref bx, .int (-1), .int 3, .int 255])), (bx, .inr (0, [.int 0, .int 0, .int 63, .int 63])), (s4, .inr (3, [.ref p1, .ref p2, .ref p3, .ref p4, .int 0, .int 0, .int 0])), (p1, .inl (d1, 48, .inl (fun _ => 0))), (p2, .inl (d2, 48, .inl (fun _ => 0))), (p3, .inl (d3, 48, .inl (fun _ => 0))), (p4, .inl (d4, 48, .inl (fun _ => 0))), (s5, .inr (7, [.ref t1, .ref t2, .ref t3, .ref t4])), (t1, .inl (e1, 3, .inl (fun _ => 0))), (t2, .inl (e2, 3, .inl (fun _ => 0))), (t3, .inl (e3, 3, .inl (fun _ => 0))), (hm, .inr (9, [.ref m1, .ref m2, .ref m3, .int (-1), .int 3, .int 255, .int 0, .int 0, .int 0, .int 0, .int 0, .int 65535, .ref m4, .ref m5, .ref m6, .ref m7, .ref m8, .ref m9, .int 0, .ref m10, .ref m11, .ref m12, .ref m13])), (m1, .inl (c1, 4, .inl (fun _ => 0))), (m2, .inl (c2, 4, .inl (fun _ => 0))), (m3, .inl (c3, 16384, .inl (fun _ => 0))), (m7, .inl (c7, 48, .inl (fun _ => 0))), (m8, .inl (c8, 48, .inl (fun _ => 0))), (m9, .inl (c9, 48, .inl (fun _ => 0))), (m10, .inl (c10, 3, .inl (fun _ => 0))), (m11, .inl (c11, 3, .inl (fun _ => 0))), (m12, .inl (c12, 3, .inl (fun _ => 0)))]) (w1 := []) hP hD [0, 1] [2, 3, 4, 5, 6, 7, 8, 9, 10, 11, 12, 13, 14, 15, 16, 17, 18, 19, 20, 21, 22] rfl rfl (by decide) (by decide) hk1 hFc hP1 hD1
  clear hz1 hk1 hFc hKc hDc hPc
  generalize H1 = H at hP hS ⊢
  have hP : va_P D vwCl [(s2, .inr (1, [.ref bx, .int (-1), .int 3, .int 255])), (bx, .inr (0, [.int 0, .int 0, .int 63, .int 63])), (s4, .inr (3, [.ref p1, .ref p2, .ref p3, .ref p4, .int 0, .int 0, .int 0])), (p1, .inl (d1, 48, .inl (fun _ => 0))), (p2, .inl (d2, 48, .inl (fun _ => 0))), (p3, .inl (d3, 48, .inl (fun _ => 0))), (p4, .inl (d4, 48, .inl (fun _ => 0))), (s5, .inr (7, [.ref t1, .ref t2, .ref t3, .ref t4])), (t1, .inl (e1, 3, .inl (fun _ => 0))), (t2, .inl (e2, 3, .inl (fun _ => 0))), (t3, .inl (e3, 3, .inl (fun _ => 0))), (hm, .inr (9, [.ref m1, .ref m2, .ref m3, .int (-1), .int 3, .int 255, .int 0, .int 0, .int 0, .int 0, .int 0, .int 65535, .ref m4, .ref m5, .ref m6, .ref m7, .ref m8, .ref m9, .int 0, .ref m10, .ref m11, .ref m12, .ref m13])), (m1, .inl (c1, 4, .inl (fun _ => 0))), (m2, .inl (c2, 4, .inl (fun _ => 0))), (m3, .inl (c3, 16384, .inl (fun _ => 0))), (m7, .inl (c7, 48, .inl (fun _ => 0))), (m8, .inl (c8, 48, .inl (fun _ => 0))), (m9, .inl (c9, 48, .inl (fun _ => 0))), (m10, .inl (c10, 3, .inl (fun _ => 0))), (m11, .inl (c11, 3, .inl (fun _ => 0))), (m12, .inl (c12, 3, .inl (fun _ => 0)))] H := hP
  have hD : va_D (fun q : Nat => s.heap.size ≤ q) [(s2, .inr (1, [.ref bx, .int (-1), .int 3, .int 255])), (bx, .inr (0, [.int 0, .int 0, .int 63, .int 63])), (s4, .inr (3, [.ref p1, .ref p2, .ref p3, .ref p4, .int 0, .int 0, .int 0])), (p1, .inl (d1, 48, .inl (fun _ => 0))), (p2, .inl (d2, 48, .inl (fun _ => 0))), (p3, .inl (d3, 48, .inl (fun _ => 0))), (p4, .inl (d4, 48, .inl (fun _ => 0))), (s5, .inr (7, [.ref t1, .ref t2, .ref t3, .ref t4])), (t1, .inl (e1, 3, .inl (fun _ => 0))), (t2, .inl (e2, 3, .inl (fun _ => 0))), (t3, .inl (e3, 3, .inl (fun _ => 0))), (hm, .inr (9, [.ref m1, .ref m2, .ref m3, .int (-1), .int 3, .int 255, .int 0, .int 0, .int 0, .int 0, .int 0, .int 65535, .ref m4, .ref m5, .ref m6, .ref m7, .ref m8, .ref m9, .int 0, .ref m10, .ref m11, .ref m12, .ref m13])), (m1, .inl (c1, 4, .inl (fun _ => 0))), (m2, .inl (c2, 4, .inl (fun _ => 0))), (m3, .inl (c3, 16384, .inl (fun _ => 0))), (m7, .inl (c7, 48, .inl (fun _ => 0))), (m8, .inl (c8, 48, .inl (fun _ => 0))), (m9, .inl (c9, 48, .inl (fun _ => 0))), (m10, .inl (c10, 3, .inl (fun _ => 0))), (m11, .inl (c11, 3, .inl (fun _ => 0))), (m12, .inl (c12, 3, .inl (fun _ => 0)))] := hD
  refine W.widen (k := 38) (n := 33718) (by omega) (by omega) ?_
  subst hr_1
  refine lv_aload_n hx hb dL_law_849 rfl (lv_at hl 1 rfl) ?_
  refine lv_aload_n hx hb dL_law_850 rfl (lv_at hl 3 rfl) ?_
  refine lv_iload_n hx hb dL_law_851 rfl (lv_at hl 0 rfl) ?_
  refine lv_iconst (v := 1) hx hb dL_law_852 (by decide) ?_
  refine lv_iadd hx hb dL_law_853 ?_
  refine my_fold (v := 1) (by decide) ?_
  refine va_sld hx hb hX hbl hbA hS (i := 1) (my_in (by decide) (by decide)) dL_law_854 ?_
  refine my_topv (v := .int (xs 1)) rfl ?_
  refine lv_aload_n hx hb dL_law_855 rfl (lv_at hl 3 rfl) ?_
  refine lv_iload_n hx hb dL_law_856 rfl (lv_at hl 0 rfl) ?_
  refine lv_iconst (v := 2) hx hb dL_law_857 (by decide) ?_
  refine lv_iadd hx hb dL_law_858 ?_
  refine my_fold (v := 2) (by decide) ?_
  refine va_sld hx hb hX hbl hbA hS (i := 2) (my_in (by decide) (by decide)) dL_law_859 ?_
  refine my_topv (v := .int (xs 2)) rfl ?_
  refine lv_aload_n hx hb dL_law_860 rfl (lv_at hl 3 rfl) ?_
  refine lv_iload_n hx hb dL_law_861 rfl (lv_at hl 0 rfl) ?_
  refine lv_iconst (v := 3) hx hb dL_law_862 (by decide) ?_
  refine lv_iadd hx hb dL_law_863 ?_
  refine my_fold (v := 3) (by decide) ?_
  refine va_sld hx hb hX hbl hbA hS (i := 3) (my_in (by decide) (by decide)) dL_law_864 ?_
  refine my_topv (v := .int (xs 3)) rfl ?_
  refine lv_aload_n hx hb dL_law_865 rfl (lv_at hl 3 rfl) ?_
  refine lv_iload_n hx hb dL_law_866 rfl (lv_at hl 0 rfl) ?_
  refine lv_iconst (v := 4) hx hb dL_law_867 (by decide) ?_
  refine lv_iadd hx hb dL_law_868 ?_
  refine my_fold (v := 4) (by decide) ?_
  refine va_sld hx hb hX hbl hbA hS (i := 4) (my_in (by decide) (by decide)) dL_law_869 ?_
  refine my_topv (v := .int (xs 4)) rfl ?_
  refine lv_aload_n hx hb dL_law_870 rfl (lv_at hl 3 rfl) ?_
  refine lv_iload_n hx hb dL_law_871 rfl (lv_at hl 0 rfl) ?_
  refine lv_iconst (v := 5) hx hb dL_law_872 (by decide) ?_
  refine lv_iadd hx hb dL_law_873 ?_
  refine my_fold (v := 5) (by decide) ?_
  refine va_sld hx hb hX hbl hbA hS (i := 5) (my_in (by decide) (by decide)) dL_law_874 ?_
  refine my_topv (v := .int (xs 5)) rfl ?_
  refine lv_aload_n hx hb dL_law_875 rfl (lv_at hl 3 rfl) ?_
  refine lv_iload_n hx hb dL_law_876 rfl (lv_at hl 0 rfl) ?_
  refine lv_bipush (v := 6) hx hb dL_law_877 (by decide) ?_
  refine lv_iadd hx hb dL_law_879 ?_
  refine my_fold (v := 6) (by decide) ?_
  refine va_sld hx hb hX hbl hbA hS (i := 6) (my_in (by decide) (by decide)) dL_law_880 ?_
  refine my_topv (v := .int (xs 6)) rfl ?_
  refine lv_aload_n hx hb dL_law_881 rfl (lv_at hl 3 rfl) ?_
  refine lv_iload_n hx hb dL_law_882 rfl (lv_at hl 0 rfl) ?_
  refine lv_bipush (v := 7) hx hb dL_law_883 (by decide) ?_
  refine lv_iadd hx hb dL_law_885 ?_
  refine my_fold (v := 7) (by decide) ?_
  refine va_sld hx hb hX hbl hbA hS (i := 7) (my_in (by decide) (by decide)) dL_law_886 ?_
  refine my_topv (v := .int (xs 7)) rfl ?_
  refine lv_aload_n hx hb dL_law_887 rfl (lv_at hl 3 rfl) ?_
  refine lv_iload_n hx hb dL_law_888 rfl (lv_at hl 0 rfl) ?_
  refine lv_bipush (v := 8) hx hb dL_law_889 (by decide) ?_
  refine lv_iadd hx hb dL_law_891 ?_
  refine my_fold (v := 8) (by decide) ?_
  refine va_sld hx hb hX hbl hbA hS (i := 8) (my_in (by decide) (by decide)) dL_law_892 ?_
  refine my_topv (v := .int (xs 8)) rfl ?_
  refine lv_aload_n hx hb dL_law_893 rfl (lv_at hl 3 rfl) ?_
  refine lv_iload_n hx hb dL_law_894 rfl (lv_at hl 0 rfl) ?_
  refine lv_bipush (v := 9) hx hb dL_law_895 (by decide) ?_
  refine lv_iadd hx hb dL_law_897 ?_
  refine my_fold (v := 9) (by decide) ?_
  refine va_sld hx hb hX hbl hbA hS (i := 9) (my_in (by decide) (by decide)) dL_law_898 ?_
  refine my_topv (v := .int (xs 9)) rfl ?_
  refine lv_aload_n hx hb dL_law_899 rfl (lv_at hl 3 rfl) ?_
  refine lv_iload_n hx hb dL_law_900 rfl (lv_at hl 0 rfl) ?_
  refine lv_bipush (v := 10) hx hb dL_law_901 (by decide) ?_
  refine lv_iadd hx hb dL_law_903 ?_
  refine my_fold (v := 10) (by decide) ?_
  refine va_sld hx hb hX hbl hbA hS (i := 10) (my_in (by decide) (by decide)) dL_law_904 ?_
  refine my_topv (v := .int (xs 10)) rfl ?_
  have hPc := hP.sub (ws' := [(hm, .inr (9, [.ref m1, .ref m2, .ref m3, .int (-1), .int 3, .int 255, .int 0, .int 0, .int 0, .int 0, .int 0, .int 65535, .ref m4, .ref m5, .ref m6, .ref m7, .ref m8, .ref m9, .int 0, .ref m10, .ref m11, .ref m12, .ref m13])), (m1, .inl (c1, 4, .inl (fun _ => 0)))]) [11, 12] rfl
  have hDc := hD.sub (ws' := [(hm, .inr (9, [.ref m1, .ref m2, .ref m3, .int (-1), .int 3, .int 255, .int 0, .int 0, .int 0, .int 0, .int 0, .int 65535, .ref m4, .ref m5, .ref m6, .ref m7, .ref m8, .ref m9, .int 0, .ref m10, .ref m11, .ref m12, .ref m13])), (m1, .inl (c1, 4, .inl (fun _ => 0)))]) [11, 12] (by decide) rfl
  have hKc := hK.sub (tys' := [(c1, .int)]) [8] rfl
  have hFc := va_free (wc := [(hm, .inr (9, [.ref m1, .ref m2, .ref m3, .int (-1), .int 3, .int 255, .int 0, .int 0, .int 0, .int 0, .int 0, .int 65535, .ref m4, .ref m5, .ref m6, .ref m7, .ref m8, .ref m9, .int 0, .ref m10, .ref m11, .ref m12, .ref m13])), (m1, .inl (c1, 4, .inl (fun _ => 0)))]) hD hS hA [11, 12] rfl
  refine va_calli (va_runV (As := [.int (xs 1), .int (xs 2), .int (xs 3), .int (xs 4), .int (xs 5), .int (xs 6), .int (xs 7), .int (xs 8), .int (xs 9), .int (xs 10)]) (rest := [.int (-1)]) ⟨hx, hb, hml, hown, hts⟩ (k_X9_stretch l D H.size hm m1 m2 m3 m4 m5 m6 m7 m8 m9 m10 m11 m12 m13 c1 (xs 1) (xs 2) (xs 3) (xs 4) (xs 5) (xs 6) (xs 7) (xs 8) (xs 9) (xs 10)) (cwV 10 hts (gV bw_316 bw_317 bw_318 bw_11 bw_315) rfl rfl rfl (by decide +kernel) ⟨Nat.le_of_ble_eq_true rfl, Nat.le_of_ble_eq_true rfl⟩) ⟨cP_blind, va_recv hKc hPc (ci := 9) (q0 := 0) rfl rfl, cP_at hPc hKc hDc hN⟩ rfl rfl hl.1 rfl (lv_room (Nat.le_of_ble_eq_true rfl)) dL_law_905 ⟨Nat.le_of_ble_eq_true rfl, Nat.le_of_ble_eq_true rfl⟩) hS (fun q _ h => hFc q h) hFc (fun r_2 u9 t9 H1 locs ht hvm hr_2 hB hz1 hk1 hS => ?_)
  try dsimp only at hr_2
  have hP1 : va_P D vwCl [] H1 := vP_nil
  have hD1 : va_D (va_A [(hm, .inr (9, [.ref m1, .ref m2, .ref m3, .int (-1), .int 3, .int 255, .int 0, .int 0, .int 0, .int 0, .int 0, .int 65535, .ref m4, .ref m5, .ref m6, .ref m7, .ref m8, .ref m9, .int 0, .ref m10, .ref m11, .ref m12, .ref m13])), (m1, .inl (c1, 4, .inl (fun _ => 0)))] H.size) [] := vD_nil
  obtain ⟨hP, hD⟩ := va_join (wr := [(s2, .inr (1, [.ref bx, .int (-1), .int 3, .int 255])), (bx, .inr (0, [.int 0, .int 0, .int 63, .int 63])), (s4, .inr (3, [.ref p1, .ref p2, .ref p3, .ref p4, .int 0, .int 0, .int 0])), (p1, .inl (d1, 48, .inl (fun _ => 0))), (p2, .inl (d2, 48, .inl (fun _ => 0))), (p3, .inl (d3, 48, .inl (fun _ => 0))), (p4, .inl (d4, 48, .inl (fun _ => 0))), (s5, .inr (7, [.ref t1, .ref t2, .ref t3, .ref t4])), (t1, .inl (e1, 3, .inl (fun _ => 0))), (t2, .inl (e2, 3, .inl (fun _ => 0))), (t3, .inl (e3, 3, .inl (fun _ => 0))), (m2, .inl (c2, 4, .inl (fun _ => 0))), (m3, .inl (c3, 16384, .inl (fun _ => 0))), (m7, .inl (c7, 48, .inl (fun _ => 0))), (m8, .inl (c8, 48, .inl (fun _ => 0))), (m9, .inl (c9, 48, .inl (fun _ => 0))), (m10, .inl (c10, 3, .inl (fun _ => 0))), (m11, .inl (c11, 3, .inl (fun _ => 0))), (m12, .inl (c12, 3, .inl (fun _ => 0)))]) (w1 := []) hP hD [11, 12] [0, 1, 2, 3, 4, 5, 6, 7, 8, 9, 10, 13, 14, 15, 16, 17, 18, 19, 20] rfl rfl (by decide) (by decide) hk1 hFc hP1 hD1
  clear hz1 hk1 hFc hKc hDc hPc
  generalize H1 = H at hP hS ⊢
  have hP : va_P D vwCl [(s2, .inr (1, [.ref bx, .int (-1), .int 3, .int 255])), (bx, .inr (0, [.int 0, .int 0, .int 63, .int 63])), (s4, .inr (3, [.ref p1, .ref p2, .ref p3, .ref p4, .int 0, .int 0, .int 0])), (p1, .inl (d1, 48, .inl (fun _ => 0))), (p2, .inl (d2, 48, .inl (fun _ => 0))), (p3, .inl (d3, 48, .inl (fun _ => 0))), (p4, .inl (d4, 48, .inl (fun _ => 0))), (s5, .inr (7, [.ref t1, .ref t2, .ref t3, .ref t4])), (t1, .inl (e1, 3, .inl (fun _ => 0))), (t2, .inl (e2, 3, .inl (fun _ => 0))), (t3, .inl (e3, 3, .inl (fun _ => 0))), (m2, .inl (c2, 4, .inl (fun _ => 0))), (m3, .inl (c3, 16384, .inl (fun _ => 0))), (m7, .inl (c7, 48, .inl (fun _ => 0))), (m8, .inl (c8, 48, .inl (fun _ => 0))), (m9, .inl (c9, 48, .inl (fun _ => 0))), (m10, .inl (c10, 3, .inl (fun _ => 0))), (m11, .inl (c11, 3, .inl (fun _ => 0))), (m12, .inl (c12, 3, .inl (fun _ => 0)))] H := hP
  have hD : va_D (fun q : Nat => s.heap.size ≤ q) [(s2, .inr (1, [.ref bx, .int (-1), .int 3, .int 255])), (bx, .inr (0, [.int 0, .int 0, .int 63, .int 63])), (s4, .inr (3, [.ref p1, .ref p2, .ref p3, .ref p4, .int 0, .int 0, .int 0])), (p1, .inl (d1, 48, .inl (fun _ => 0))), (p2, .inl (d2, 48, .inl (fun _ => 0))), (p3, .inl (d3, 48, .inl (fun _ => 0))), (p4, .inl (d4, 48, .inl (fun _ => 0))), (s5, .inr (7, [.ref t1, .ref t2, .ref t3, .ref t4])), (t1, .inl (e1, 3, .inl (fun _ => 0))), (t2, .inl (e2, 3, .inl (fun _ => 0))), (t3, .inl (e3, 3, .inl (fun _ => 0))), (m2, .inl (c2, 4, .inl (fun _ => 0))), (m3, .inl (c3, 16384, .inl (fun _ => 0))), (m7, .inl (c7, 48, .inl (fun _ => 0))), (m8, .inl (c8, 48, .inl (fun _ => 0))), (m9, .inl (c9, 48, .inl (fun _ => 0))), (m10, .inl (c10, 3, .inl (fun _ => 0))), (m11, .inl (c11, 3, .inl (fun _ => 0))), (m12, .inl (c12, 3, .inl (fun _ => 0)))] := hD
  subst hr_2
  refine lv_icmp_eq (tgt := 1167) hx hb dL_law_908 (by decide) (fun c_3 => ?_) (fun c_3 => ?_)
  · skip
    exact law_tail C0 (by omega) (by omega) hS (lv_sub hl [0, 3] rfl)
  · skip
    exact absurd c_3 (by decide)

set_option maxHeartbeats 4000000 in
set_option maxRecDepth 100000 in
theorem law_c15 {p : Program} {l : Launch} {e : Env} {s : State} {m : MethodId} {below : List Frame} {meth : Method} {c : Code} {b : Nat} {xs : Nat → Int32} (C0 : lw_At p s m meth c b 11 xs) (hN : nW s) {D : va_G} {h0 s1 s2 s3 s4 s5 s6 bx p1 p2 p3 p4 t1 t2 t3 t4 hm m1 m2 m3 m4 m5 m6 m7 m8 m9 m10 m11 m12 m13 : Nat} {ca d1 d2 d3 d4 e1 e2 e3 c1 c2 c3 c7 c8 c9 c10 c11 c12 : ClassId} {H : Heap} {locs : List Loc} (hK : va_K D vwCl [(ca, .object "DotBench$Sheet"), (d1, .int), (d2, .int), (d3, .int), (d4, .int), (e1, .int), (e2, .int), (e3, .int), (c1, .int), (c2, .int), (c3, .int), (c7, .int), (c8, .int), (c9, .boolean), (c10, .int), (c11, .int), (c12, .int)] s) (hP : va_P D vwCl [(h0, .inr (8, [.ref s1, .ref s2, .ref s3, .ref s4, .ref s5, .ref s6, .int 65535, .null, .null])), (s1, .inl (ca, 4, .inr (.inr (.inr (.inr (fun _ => none)))))), (s2, .inr (1, [.ref bx, .int (-1), .int 3, .int 255])), (bx, .inr (0, [.int 0, .int 0, .int 63, .int 63])), (s4, .inr (3, [.ref p1, .ref p2, .ref p3, .ref p4, .int 0, .int 0, .int 0])), (p1, .inl (d1, 48, .inl (fun _ => 0))), (p2, .inl (d2, 48, .inl (fun _ => 0))), (p3, .inl (d3, 48, .inl (fun _ => 0))), (p4, .inl (d4, 48, .inl (fun _ => 0))), (s5, .inr (7, [.ref t1, .ref t2, .ref t3, .ref t4])), (t1, .inl (e1, 3, .inl (fun _ => 0))), (t2, .inl (e2, 3, .inl (fun _ => 0))), (t3, .inl (e3, 3, .inl (fun _ => 0))), (hm, .inr (9, [.ref m1, .ref m2, .ref m3, .int (-1), .int 3, .int 255, .int 0, .int 0, .int 0, .int 0, .int 0, .int 65535, .ref m4, .ref m5, .ref m6, .ref m7, .ref m8, .ref m9, .int 0, .ref m10, .ref m11, .ref m12, .ref m13])), (m1, .inl (c1, 4, .inl (fun _ => 0))), (m2, .inl (c2, 4, .inl (fun _ => 0))), (m3, .inl (c3, 16384, .inl (fun _ => 0))), (m7, .inl (c7, 48, .inl (fun _ => 0))), (m8, .inl (c8, 48, .inl (fun _ => 0))), (m9, .inl (c9, 48, .inl (fun _ => 0))), (m10, .inl (c10, 3, .inl (fun _ => 0))), (m11, .inl (c11, 3, .inl (fun _ => 0))), (m12, .inl (c12, 3, .inl (fun _ => 0)))] H) (hD : va_D (fun q : Nat => s.heap.size ≤ q) [(h0, .inr (8, [.ref s1, .ref s2, .ref s3, .ref s4, .ref s5, .ref s6, .int 65535, .null, .null])), (s1, .inl (ca, 4, .inr (.inr (.inr (.inr (fun _ => none)))))), (s2, .inr (1, [.ref bx, .int (-1), .int 3, .int 255])), (bx, .inr (0, [.int 0, .int 0, .int 63, .int 63])), (s4, .inr (3, [.ref p1, .ref p2, .ref p3, .ref p4, .int 0, .int 0, .int 0])), (p1, .inl (d1, 48, .inl (fun _ => 0))), (p2, .inl (d2, 48, .inl (fun _ => 0))), (p3, .inl (d3, 48, .inl (fun _ => 0))), (p4, .inl (d4, 48, .inl (fun _ => 0))), (s5, .inr (7, [.ref t1, .ref t2, .ref t3, .ref t4])), (t1, .inl (e1, 3, .inl (fun _ => 0))), (t2, .inl (e2, 3, .inl (fun _ => 0))), (t3, .inl (e3, 3, .inl (fun _ => 0))), (hm, .inr (9, [.ref m1, .ref m2, .ref m3, .int (-1), .int 3, .int 255, .int 0, .int 0, .int 0, .int 0, .int 0, .int 65535, .ref m4, .ref m5, .ref m6, .ref m7, .ref m8, .ref m9, .int 0, .ref m10, .ref m11, .ref m12, .ref m13])), (m1, .inl (c1, 4, .inl (fun _ => 0))), (m2, .inl (c2, 4, .inl (fun _ => 0))), (m3, .inl (c3, 16384, .inl (fun _ => 0))), (m7, .inl (c7, 48, .inl (fun _ => 0))), (m8, .inl (c8, 48, .inl (fun _ => 0))), (m9, .inl (c9, 48, .inl (fun _ => 0))), (m10, .inl (c10, 3, .inl (fun _ => 0))), (m11, .inl (c11, 3, .inl (fun _ => 0))), (m12, .inl (c12, 3, .inl (fun _ => 0)))]) (hS : va_S (fun q : Nat => s.heap.size ≤ q) s.heap H locs) {ls : Array Slot} (hl : lv_has ls 4 [(3, .int 0), (2, .ref hm), (1, .ref h0), (0, .ref b)]) : W p l e room_1 s m #[Value.ref b] below meth c H locs 36 33710 (lw_Z below #[Value.ref b] s) (F0 m 913 ls []) := by
  obtain ⟨hx, hb, hr, hml, hown, hts0, hX, hbl, hlocks, hgv⟩ := id C0
  have hts : ∀ w ∈ bigW, w.before #[Value.ref b] s = true := fun w h => hts0 w (bigW_in w h).1
  have hown : s.vm.findClass RL = some m.cls := hown
  have hA : ∀ q : Nat, s.heap.size ≤ q → (fun q : Nat => s.heap.size ≤ q) q := fun _ h => h
  have hbA : ¬ (fun q : Nat => s.heap.size ≤ q) b := Nat.not_le.mpr hbl
  refine lv_aload_n hx hb dL_law_913 rfl (lv_at hl 2 rfl) ?_
  refine lv_aload_n hx hb dL_law_914 rfl (lv_at hl 3 rfl) ?_
  refine lv_iload_n hx hb dL_law_915 rfl (lv_at hl 0 rfl) ?_
  refine lv_iconst (v := 1) hx hb dL_law_916 (by decide) ?_
  refine lv_iadd hx hb dL_law_917 ?_
  refine my_fold (v := 1) (by decide) ?_
  refine va_sld hx hb hX hbl hbA hS (i := 1) (my_in (by decide) (by decide)) dL_law_918 ?_
  refine my_topv (v := .int (xs 1)) rfl ?_
  refine lv_aload_n hx hb dL_law_919 rfl (lv_at hl 3 rfl) ?_
  refine lv_iload_n hx hb dL_law_920 rfl (lv_at hl 0 rfl) ?_
  refine lv_iconst (v := 2) hx hb dL_law_921 (by decide) ?_
  refine lv_iadd hx hb dL_law_922 ?_
  refine my_fold (v := 2) (by decide) ?_
  refine va_sld hx hb hX hbl hbA hS (i := 2) (my_in (by decide) (by decide)) dL_law_923 ?_
  refine my_topv (v := .int (xs 2)) rfl ?_
  refine lv_aload_n hx hb dL_law_924 rfl (lv_at hl 3 rfl) ?_
  refine lv_iload_n hx hb dL_law_925 rfl (lv_at hl 0 rfl) ?_
  refine lv_iconst (v := 3) hx hb dL_law_926 (by decide) ?_
  refine lv_iadd hx hb dL_law_927 ?_
  refine my_fold (v := 3) (by decide) ?_
  refine va_sld hx hb hX hbl hbA hS (i := 3) (my_in (by decide) (by decide)) dL_law_928 ?_
  refine my_topv (v := .int (xs 3)) rfl ?_
  have hPc := hP.sub (ws' := [(h0, .inr (8, [.ref s1, .ref s2, .ref s3, .ref s4, .ref s5, .ref s6, .int 65535, .null, .null])), (s1, .inl (ca, 4, .inr (.inr (.inr (.inr (fun _ => none))))))]) [0, 1] rfl
  have hDc := hD.sub (ws' := [(h0, .inr (8, [.ref s1, .ref s2, .ref s3, .ref s4, .ref s5, .ref s6, .int 65535, .null, .null])), (s1, .inl (ca, 4, .inr (.inr (.inr (.inr (fun _ => none))))))]) [0, 1] (by decide) rfl
  have hKc := hK.sub (tys' := [(ca, .object "DotBench$Sheet")]) [0] rfl
  have hFc := va_free (wc := [(h0, .inr (8, [.ref s1, .ref s2, .ref s3, .ref s4, .ref s5, .ref s6, .int 65535, .null, .null])), (s1, .inl (ca, 4, .inr (.inr (.inr (.inr (fun _ => none))))))]) hD hS hA [0, 1] rfl
  refine va_calli (va_runV (As := [.int (xs 1), .int (xs 2), .int (xs 3)]) (rest := []) ⟨hx, hb, hml, hown, hts⟩ (k_X8_dot l D H.size h0 s1 s2 s3 s4 s5 s6 ca (xs 1) (xs 2) (xs 3)) (cwV 3 hts (gV bw_320 bw_321 bw_322 bw_1 bw_319) rfl rfl rfl (by decide +kernel) ⟨Nat.le_of_ble_eq_true rfl, Nat.le_of_ble_eq_true rfl⟩) ⟨cP_blind, va_recv hKc hPc (ci := 8) (q0 := 0) rfl rfl, cP_at hPc hKc hDc hN⟩ rfl rfl hl.1 rfl (lv_room (Nat.le_of_ble_eq_true rfl)) dL_law_929 ⟨Nat.le_of_ble_eq_true rfl, Nat.le_of_ble_eq_true rfl⟩) hS (fun q _ h => hFc q h) hFc (fun r_1 u9 t9 H1 locs ht hvm hr_1 hB hz1 hk1 hS => ?_)
  try dsimp only at hr_1
  have hP1 : va_P D vwCl [] H1 := vP_nil
  have hD1 : va_D (va_A [(h0, .inr (8, [.ref s1, .ref s2, .ref s3, .ref s4, .ref s5, .ref s6, .int 65535, .null, .null])), (s1, .inl (ca, 4, .inr (.inr (.inr (.inr (fun _ => none))))))] H.size) [] := vD_nil
  obtain ⟨hP, hD⟩ := va_join (wr := [(s2, .inr (1, [.ref bx, .int (-1), .int 3, .int 255])), (bx, .inr (0, [.int 0, .int 0, .int 63, .int 63])), (s4, .inr (3, [.ref p1, .ref p2, .ref p3, .ref p4, .int 0, .int 0, .int 0])), (p1, .inl (d1, 48, .inl (fun _ => 0))), (p2, .inl (d2, 48, .inl (fun _ => 0))), (p3, .inl (d3, 48, .inl (fun _ => 0))), (p4, .inl (d4, 48, .inl (fun _ => 0))), (s5, .inr (7, [.ref t1, .ref t2, .ref t3, .ref t4])), (t1, .inl (e1, 3, .inl (fun _ => 0))), (t2, .inl (e2, 3, .inl (fun _ => 0))), (t3, .inl (e3, 3, .inl (fun _ => 0))), (hm, .inr (9, [.ref m1, .ref m2, .ref m3, .int (-1), .int 3, .int 255, .int 0, .int 0, .int 0, .int 0, .int 0, .int 65535, .ref m4, .ref m5, .ref m6, .ref m7, .ref m8, .ref m9, .int 0, .ref m10, .ref m11, .ref m12, .ref m13])), (m1, .inl (c1, 4, .inl (fun _ => 0))), (m2, .inl (c2, 4, .inl (fun _ => 0))), (m3, .inl (c3, 16384, .inl (fun _ => 0))), (m7, .inl (c7, 48, .inl (fun _ => 0))), (m8, .inl (c8, 48, .inl (fun _ => 0))), (m9, .inl (c9, 48, .inl (fun _ => 0))), (m10, .inl (c10, 3, .inl (fun _ => 0))), (m11, .inl (c11, 3, .inl (fun _ => 0))), (m12, .inl (c12, 3, .inl (fun _ => 0)))]) (w1 := []) hP hD [0, 1] [2, 3, 4, 5, 6, 7, 8, 9, 10, 11, 12, 13, 14, 15, 16, 17, 18, 19, 20, 21, 22] rfl rfl (by decide) (by decide) hk1 hFc hP1 hD1
  clear hz1 hk1 hFc hKc hDc hPc
  generalize H1 = H at hP hS ⊢
  have hP : va_P D vwCl [(s2, .inr (1, [.ref bx, .int (-1), .int 3, .int 255])), (bx, .inr (0, [.int 0, .int 0, .int 63, .int 63])), (s4, .inr (3, [.ref p1, .ref p2, .ref p3, .ref p4, .int 0, .int 0, .int 0])), (p1, .inl (d1, 48, .inl (fun _ => 0))), (p2, .inl (d2, 48, .inl (fun _ => 0))), (p3, .inl (d3, 48, .inl (fun _ => 0))), (p4, .inl (d4, 48, .inl (fun _ => 0))), (s5, .inr (7, [.ref t1, .ref t2, .ref t3, .ref t4])), (t1, .inl (e1, 3, .inl (fun _ => 0))), (t2, .inl (e2, 3, .inl (fun _ => 0))), (t3, .inl (e3, 3, .inl (fun _ => 0))), (hm, .inr (9, [.ref m1, .ref m2, .ref m3, .int (-1), .int 3, .int 255, .int 0, .int 0, .int 0, .int 0, .int 0, .int 65535, .ref m4, .ref m5, .ref m6, .ref m7, .ref m8, .ref m9, .int 0, .ref m10, .ref m11, .ref m12, .ref m13])), (m1, .inl (c1, 4, .inl (fun _ => 0))), (m2, .inl (c2, 4, .inl (fun _ => 0))), (m3, .inl (c3, 16384, .inl (fun _ => 0))), (m7, .inl (c7, 48, .inl (fun _ => 0))), (m8, .inl (c8, 48, .inl (fun _ => 0))), (m9, .inl (c9, 48, .inl (fun _ => 0))), (m10, .inl (c10, 3, .inl (fun _ => 0))), (m11, .inl (c11, 3, .inl (fun _ => 0))), (m12, .inl (c12, 3, .inl (fun _ => 0)))] H := hP
  have hD : va_D (fun q : Nat => s.heap.size ≤ q) [(s2, .inr (1, [.ref bx, .int (-1), .int 3, .int 255])), (bx, .inr (0, [.int 0, .int 0, .int 63, .int 63])), (s4, .inr (3, [.ref p1, .ref p2, .ref p3, .ref p4, .int 0, .int 0, .int 0])), (p1, .inl (d1, 48, .inl (fun _ => 0))), (p2, .inl (d2, 48, .inl (fun _ => 0))), (p3, .inl (d3, 48, .inl (fun _ => 0))), (p4, .inl (d4, 48, .inl (fun _ => 0))), (s5, .inr (7, [.ref t1, .ref t2, .ref t3, .ref t4])), (t1, .inl (e1, 3, .inl (fun _ => 0))), (t2, .inl (e2, 3, .inl (fun _ => 0))), (t3, .inl (e3, 3, .inl (fun _ => 0))), (hm, .inr (9, [.ref m1, .ref m2, .ref m3, .int (-1), .int 3, .int 255, .int 0, .int 0, .int 0, .int 0, .int 0, .int 65535, .ref m4, .ref m5, .ref m6, .ref m7, .ref m8, .ref m9, .int 0, .ref m10, .ref m11, .ref m12, .ref m13])), (m1, .inl (c1, 4, .inl (fun _ => 0))), (m2, .inl (c2, 4, .inl (fun _ => 0))), (m3, .inl (c3, 16384, .inl (fun _ => 0))), (m7, .inl (c7, 48, .inl (fun _ => 0))), (m8, .inl (c8, 48, .inl (fun _ => 0))), (m9, .inl (c9, 48, .inl (fun _ => 0))), (m10, .inl (c10, 3, .inl (fun _ => 0))), (m11, .inl (c11, 3, .inl (fun _ => 0))), (m12, .inl (c12, 3, .inl (fun _ => 0)))] := hD
  subst hr_1
  refine lv_aload_n hx hb dL_law_932 rfl (lv_at hl 1 rfl) ?_
  refine lv_aload_n hx hb dL_law_933 rfl (lv_at hl 3 rfl) ?_
  refine lv_iload_n hx hb dL_law_934 rfl (lv_at hl 0 rfl) ?_
  refine lv_iconst (v := 1) hx hb dL_law_935 (by decide) ?_
  refine lv_iadd hx hb dL_law_936 ?_
  refine my_fold (v := 1) (by decide) ?_
  refine va_sld hx hb hX hbl hbA hS (i := 1) (my_in (by decide) (by decide)) dL_law_937 ?_
  refine my_topv (v := .int (xs 1)) rfl ?_
  refine lv_aload_n hx hb dL_law_938 rfl (lv_at hl 3 rfl) ?_
  refine lv_iload_n hx hb dL_law_939 rfl (lv_at hl 0 rfl) ?_
  refine lv_iconst (v := 2) hx hb dL_law_940 (by decide) ?_
  refine lv_iadd hx hb dL_law_941 ?_
  refine my_fold (v := 2) (by decide) ?_
  refine va_sld hx hb hX hbl hbA hS (i := 2) (my_in (by decide) (by decide)) dL_law_942 ?_
  refine my_topv (v := .int (xs 2)) rfl ?_
  refine lv_aload_n hx hb dL_law_943 rfl (lv_at hl 3 rfl) ?_
  refine lv_iload_n hx hb dL_law_944 rfl (lv_at hl 0 rfl) ?_
  refine lv_iconst (v := 3) hx hb dL_law_945 (by decide) ?_
  refine lv_iadd hx hb dL_law_946 ?_
  refine my_fold (v := 3) (by decide) ?_
  refine va_sld hx hb hX hbl hbA hS (i := 3) (my_in (by decide) (by decide)) dL_law_947 ?_
  refine my_topv (v := .int (xs 3)) rfl ?_
  have hPc := hP.sub (ws' := [(hm, .inr (9, [.ref m1, .ref m2, .ref m3, .int (-1), .int 3, .int 255, .int 0, .int 0, .int 0, .int 0, .int 0, .int 65535, .ref m4, .ref m5, .ref m6, .ref m7, .ref m8, .ref m9, .int 0, .ref m10, .ref m11, .ref m12, .ref m13])), (m1, .inl (c1, 4, .inl (fun _ => 0)))]) [11, 12] rfl
  have hDc := hD.sub (ws' := [(hm, .inr (9, [.ref m1, .ref m2, .ref m3, .int (-1), .int 3, .int 255, .int 0, .int 0, .int 0, .int 0, .int 0, .int 65535, .ref m4, .ref m5, .ref m6, .ref m7, .ref m8, .ref m9, .int 0, .ref m10, .ref m11, .ref m12, .ref m13])), (m1, .inl (c1, 4, .inl (fun _ => 0)))]) [11, 12] (by decide) rfl
  have hKc := hK.sub (tys' := [(c1, .int)]) [8] rfl
  have hFc := va_free (wc := [(hm, .inr (9, [.ref m1, .ref m2, .ref m3, .int (-1), .int 3, .int 255, .int 0, .int 0, .int 0, .int 0, .int 0, .int 65535, .ref m4, .ref m5, .ref m6, .ref m7, .ref m8, .ref m9, .int 0, .ref m10, .ref m11, .ref m12, .ref m13])), (m1, .inl (c1, 4, .inl (fun _ => 0)))]) hD hS hA [11, 12] rfl
  refine va_calli (va_runV (As := [.int (xs 1), .int (xs 2), .int (xs 3)]) (rest := [.int 0]) ⟨hx, hb, hml, hown, hts⟩ (k_X9_dot l D H.size hm m1 m2 m3 m4 m5 m6 m7 m8 m9 m10 m11 m12 m13 c1 (xs 1) (xs 2) (xs 3)) (cwV 3 hts (gV bw_324 bw_325 bw_326 bw_11 bw_323) rfl rfl rfl (by decide +kernel) ⟨Nat.le_of_ble_eq_true rfl, Nat.le_of_ble_eq_true rfl⟩) ⟨cP_blind, va_recv hKc hPc (ci := 9) (q0 := 0) rfl rfl, cP_at hPc hKc hDc hN⟩ rfl rfl hl.1 rfl (lv_room (Nat.le_of_ble_eq_true rfl)) dL_law_948 ⟨Nat.le_of_ble_eq_true rfl, Nat.le_of_ble_eq_true rfl⟩) hS (fun q _ h => hFc q h) hFc (fun r_2 u9 t9 H1 locs ht hvm hr_2 hB hz1 hk1 hS => ?_)
  try dsimp only at hr_2
  have hP1 : va_P D vwCl [] H1 := vP_nil
  have hD1 : va_D (va_A [(hm, .inr (9, [.ref m1, .ref m2, .ref m3, .int (-1), .int 3, .int 255, .int 0, .int 0, .int 0, .int 0, .int 0, .int 65535, .ref m4, .ref m5, .ref m6, .ref m7, .ref m8, .ref m9, .int 0, .ref m10, .ref m11, .ref m12, .ref m13])), (m1, .inl (c1, 4, .inl (fun _ => 0)))] H.size) [] := vD_nil
  obtain ⟨hP, hD⟩ := va_join (wr := [(s2, .inr (1, [.ref bx, .int (-1), .int 3, .int 255])), (bx, .inr (0, [.int 0, .int 0, .int 63, .int 63])), (s4, .inr (3, [.ref p1, .ref p2, .ref p3, .ref p4, .int 0, .int 0, .int 0])), (p1, .inl (d1, 48, .inl (fun _ => 0))), (p2, .inl (d2, 48, .inl (fun _ => 0))), (p3, .inl (d3, 48, .inl (fun _ => 0))), (p4, .inl (d4, 48, .inl (fun _ => 0))), (s5, .inr (7, [.ref t1, .ref t2, .ref t3, .ref t4])), (t1, .inl (e1, 3, .inl (fun _ => 0))), (t2, .inl (e2, 3, .inl (fun _ => 0))), (t3, .inl (e3, 3, .inl (fun _ => 0))), (m2, .inl (c2, 4, .inl (fun _ => 0))), (m3, .inl (c3, 16384, .inl (fun _ => 0))), (m7, .inl (c7, 48, .inl (fun _ => 0))), (m8, .inl (c8, 48, .inl (fun _ => 0))), (m9, .inl (c9, 48, .inl (fun _ => 0))), (m10, .inl (c10, 3, .inl (fun _ => 0))), (m11, .inl (c11, 3, .inl (fun _ => 0))), (m12, .inl (c12, 3, .inl (fun _ => 0)))]) (w1 := []) hP hD [11, 12] [0, 1, 2, 3, 4, 5, 6, 7, 8, 9, 10, 13, 14, 15, 16, 17, 18, 19, 20] rfl rfl (by decide) (by decide) hk1 hFc hP1 hD1
  clear hz1 hk1 hFc hKc hDc hPc
  generalize H1 = H at hP hS ⊢
  have hP : va_P D vwCl [(s2, .inr (1, [.ref bx, .int (-1), .int 3, .int 255])), (bx, .inr (0, [.int 0, .int 0, .int 63, .int 63])), (s4, .inr (3, [.ref p1, .ref p2, .ref p3, .ref p4, .int 0, .int 0, .int 0])), (p1, .inl (d1, 48, .inl (fun _ => 0))), (p2, .inl (d2, 48, .inl (fun _ => 0))), (p3, .inl (d3, 48, .inl (fun _ => 0))), (p4, .inl (d4, 48, .inl (fun _ => 0))), (s5, .inr (7, [.ref t1, .ref t2, .ref t3, .ref t4])), (t1, .inl (e1, 3, .inl (fun _ => 0))), (t2, .inl (e2, 3, .inl (fun _ => 0))), (t3, .inl (e3, 3, .inl (fun _ => 0))), (m2, .inl (c2, 4, .inl (fun _ => 0))), (m3, .inl (c3, 16384, .inl (fun _ => 0))), (m7, .inl (c7, 48, .inl (fun _ => 0))), (m8, .inl (c8, 48, .inl (fun _ => 0))), (m9, .inl (c9, 48, .inl (fun _ => 0))), (m10, .inl (c10, 3, .inl (fun _ => 0))), (m11, .inl (c11, 3, .inl (fun _ => 0))), (m12, .inl (c12, 3, .inl (fun _ => 0)))] H := hP
  have hD : va_D (fun q : Nat => s.heap.size ≤ q) [(s2, .inr (1, [.ref bx, .int (-1), .int 3, .int 255])), (bx, .inr (0, [.int 0, .int 0, .int 63, .int 63])), (s4, .inr (3, [.ref p1, .ref p2, .ref p3, .ref p4, .int 0, .int 0, .int 0])), (p1, .inl (d1, 48, .inl (fun _ => 0))), (p2, .inl (d2, 48, .inl (fun _ => 0))), (p3, .inl (d3, 48, .inl (fun _ => 0))), (p4, .inl (d4, 48, .inl (fun _ => 0))), (s5, .inr (7, [.ref t1, .ref t2, .ref t3, .ref t4])), (t1, .inl (e1, 3, .inl (fun _ => 0))), (t2, .inl (e2, 3, .inl (fun _ => 0))), (t3, .inl (e3, 3, .inl (fun _ => 0))), (m2, .inl (c2, 4, .inl (fun _ => 0))), (m3, .inl (c3, 16384, .inl (fun _ => 0))), (m7, .inl (c7, 48, .inl (fun _ => 0))), (m8, .inl (c8, 48, .inl (fun _ => 0))), (m9, .inl (c9, 48, .inl (fun _ => 0))), (m10, .inl (c10, 3, .inl (fun _ => 0))), (m11, .inl (c11, 3, .inl (fun _ => 0))), (m12, .inl (c12, 3, .inl (fun _ => 0)))] := hD
  subst hr_2
  refine lv_icmp_eq (tgt := 1167) hx hb dL_law_951 (by decide) (fun c_3 => ?_) (fun c_3 => ?_)
  · skip
    exact law_tail C0 (by omega) (by omega) hS (lv_sub hl [0, 3] rfl)
  · skip
    exact absurd c_3 (by decide)

set_option maxHeartbeats 4000000 in
set_option maxRecDepth 100000 in
theorem law_c16 {p : Program} {l : Launch} {e : Env} {s : State} {m : MethodId} {below : List Frame} {meth : Method} {c : Code} {b : Nat} {xs : Nat → Int32} (C0 : lw_At p s m meth c b 11 xs) (hN : nW s) {D : va_G} {h0 s1 s2 s3 s4 s5 s6 bx p1 p2 p3 p4 t1 t2 t3 t4 hm m1 m2 m3 m4 m5 m6 m7 m8 m9 m10 m11 m12 m13 : Nat} {ca d1 d2 d3 d4 e1 e2 e3 c1 c2 c3 c7 c8 c9 c10 c11 c12 : ClassId} {H : Heap} {locs : List Loc} (hK : va_K D vwCl [(ca, .object "DotBench$Sheet"), (d1, .int), (d2, .int), (d3, .int), (d4, .int), (e1, .int), (e2, .int), (e3, .int), (c1, .int), (c2, .int), (c3, .int), (c7, .int), (c8, .int), (c9, .boolean), (c10, .int), (c11, .int), (c12, .int)] s) (hP : va_P D vwCl [(h0, .inr (8, [.ref s1, .ref s2, .ref s3, .ref s4, .ref s5, .ref s6, .int 65535, .null, .null])), (s1, .inl (ca, 4, .inr (.inr (.inr (.inr (fun _ => none)))))), (s2, .inr (1, [.ref bx, .int (-1), .int 3, .int 255])), (bx, .inr (0, [.int 0, .int 0, .int 63, .int 63])), (s4, .inr (3, [.ref p1, .ref p2, .ref p3, .ref p4, .int 0, .int 0, .int 0])), (p1, .inl (d1, 48, .inl (fun _ => 0))), (p2, .inl (d2, 48, .inl (fun _ => 0))), (p3, .inl (d3, 48, .inl (fun _ => 0))), (p4, .inl (d4, 48, .inl (fun _ => 0))), (s5, .inr (7, [.ref t1, .ref t2, .ref t3, .ref t4])), (t1, .inl (e1, 3, .inl (fun _ => 0))), (t2, .inl (e2, 3, .inl (fun _ => 0))), (t3, .inl (e3, 3, .inl (fun _ => 0))), (hm, .inr (9, [.ref m1, .ref m2, .ref m3, .int (-1), .int 3, .int 255, .int 0, .int 0, .int 0, .int 0, .int 0, .int 65535, .ref m4, .ref m5, .ref m6, .ref m7, .ref m8, .ref m9, .int 0, .ref m10, .ref m11, .ref m12, .ref m13])), (m1, .inl (c1, 4, .inl (fun _ => 0))), (m2, .inl (c2, 4, .inl (fun _ => 0))), (m3, .inl (c3, 16384, .inl (fun _ => 0))), (m7, .inl (c7, 48, .inl (fun _ => 0))), (m8, .inl (c8, 48, .inl (fun _ => 0))), (m9, .inl (c9, 48, .inl (fun _ => 0))), (m10, .inl (c10, 3, .inl (fun _ => 0))), (m11, .inl (c11, 3, .inl (fun _ => 0))), (m12, .inl (c12, 3, .inl (fun _ => 0)))] H) (hD : va_D (fun q : Nat => s.heap.size ≤ q) [(h0, .inr (8, [.ref s1, .ref s2, .ref s3, .ref s4, .ref s5, .ref s6, .int 65535, .null, .null])), (s1, .inl (ca, 4, .inr (.inr (.inr (.inr (fun _ => none)))))), (s2, .inr (1, [.ref bx, .int (-1), .int 3, .int 255])), (bx, .inr (0, [.int 0, .int 0, .int 63, .int 63])), (s4, .inr (3, [.ref p1, .ref p2, .ref p3, .ref p4, .int 0, .int 0, .int 0])), (p1, .inl (d1, 48, .inl (fun _ => 0))), (p2, .inl (d2, 48, .inl (fun _ => 0))), (p3, .inl (d3, 48, .inl (fun _ => 0))), (p4, .inl (d4, 48, .inl (fun _ => 0))), (s5, .inr (7, [.ref t1, .ref t2, .ref t3, .ref t4])), (t1, .inl (e1, 3, .inl (fun _ => 0))), (t2, .inl (e2, 3, .inl (fun _ => 0))), (t3, .inl (e3, 3, .inl (fun _ => 0))), (hm, .inr (9, [.ref m1, .ref m2, .ref m3, .int (-1), .int 3, .int 255, .int 0, .int 0, .int 0, .int 0, .int 0, .int 65535, .ref m4, .ref m5, .ref m6, .ref m7, .ref m8, .ref m9, .int 0, .ref m10, .ref m11, .ref m12, .ref m13])), (m1, .inl (c1, 4, .inl (fun _ => 0))), (m2, .inl (c2, 4, .inl (fun _ => 0))), (m3, .inl (c3, 16384, .inl (fun _ => 0))), (m7, .inl (c7, 48, .inl (fun _ => 0))), (m8, .inl (c8, 48, .inl (fun _ => 0))), (m9, .inl (c9, 48, .inl (fun _ => 0))), (m10, .inl (c10, 3, .inl (fun _ => 0))), (m11, .inl (c11, 3, .inl (fun _ => 0))), (m12, .inl (c12, 3, .inl (fun _ => 0)))]) (hS : va_S (fun q : Nat => s.heap.size ≤ q) s.heap H locs) {ls : Array Slot} (hl : lv_has ls 4 [(3, .int 0), (2, .ref hm), (1, .ref h0), (0, .ref b)]) : W p l e room_1 s m #[Value.ref b] below meth c H locs 36 33710 (lw_Z below #[Value.ref b] s) (F0 m 956 ls []) := by
  obtain ⟨hx, hb, hr, hml, hown, hts0, hX, hbl, hlocks, hgv⟩ := id C0
  have hts : ∀ w ∈ bigW, w.before #[Value.ref b] s = true := fun w h => hts0 w (bigW_in w h).1
  have hown : s.vm.findClass RL = some m.cls := hown
  have hA : ∀ q : Nat, s.heap.size ≤ q → (fun q : Nat => s.heap.size ≤ q) q := fun _ h => h
  have hbA : ¬ (fun q : Nat => s.heap.size ≤ q) b := Nat.not_le.mpr hbl
  refine lv_aload_n hx hb dL_law_956 rfl (lv_at hl 2 rfl) ?_
  refine lv_aload_n hx hb dL_law_957 rfl (lv_at hl 3 rfl) ?_
  refine lv_iload_n hx hb dL_law_958 rfl (lv_at hl 0 rfl) ?_
  refine lv_iconst (v := 1) hx hb dL_law_959 (by decide) ?_
  refine lv_iadd hx hb dL_law_960 ?_
  refine my_fold (v := 1) (by decide) ?_
  refine va_sld hx hb hX hbl hbA hS (i := 1) (my_in (by decide) (by decide)) dL_law_961 ?_
  refine my_topv (v := .int (xs 1)) rfl ?_
  refine lv_aload_n hx hb dL_law_962 rfl (lv_at hl 3 rfl) ?_
  refine lv_iload_n hx hb dL_law_963 rfl (lv_at hl 0 rfl) ?_
  refine lv_iconst (v := 2) hx hb dL_law_964 (by decide) ?_
  refine lv_iadd hx hb dL_law_965 ?_
  refine my_fold (v := 2) (by decide) ?_
  refine va_sld hx hb hX hbl hbA hS (i := 2) (my_in (by decide) (by decide)) dL_law_966 ?_
  refine my_topv (v := .int (xs 2)) rfl ?_
  have hPc := hP.sub (ws' := [(h0, .inr (8, [.ref s1, .ref s2, .ref s3, .ref s4, .ref s5, .ref s6, .int 65535, .null, .null])), (s1, .inl (ca, 4, .inr (.inr (.inr (.inr (fun _ => none))))))]) [0, 1] rfl
  have hDc := hD.sub (ws' := [(h0, .inr (8, [.ref s1, .ref s2, .ref s3, .ref s4, .ref s5, .ref s6, .int 65535, .null, .null])), (s1, .inl (ca, 4, .inr (.inr (.inr (.inr (fun _ => none))))))]) [0, 1] (by decide) rfl
  have hKc := hK.sub (tys' := [(ca, .object "DotBench$Sheet")]) [0] rfl
  have hFc := va_free (wc := [(h0, .inr (8, [.ref s1, .ref s2, .ref s3, .ref s4, .ref s5, .ref s6, .int 65535, .null, .null])), (s1, .inl (ca, 4, .inr (.inr (.inr (.inr (fun _ => none))))))]) hD hS hA [0, 1] rfl
  refine va_calli (va_runV (As := [.int (xs 1), .int (xs 2)]) (rest := []) ⟨hx, hb, hml, hown, hts⟩ (k_X8_count l D H.size h0 s1 s2 s3 s4 s5 s6 ca (xs 1) (xs 2)) (cwV 2 hts (gV bw_328 bw_329 bw_330 bw_1 bw_327) rfl rfl rfl (by decide +kernel) ⟨Nat.le_of_ble_eq_true rfl, Nat.le_of_ble_eq_true rfl⟩) ⟨cP_blind, va_recv hKc hPc (ci := 8) (q0 := 0) rfl rfl, cP_at hPc hKc hDc hN⟩ rfl rfl hl.1 rfl (lv_room (Nat.le_of_ble_eq_true rfl)) dL_law_967 ⟨Nat.le_of_ble_eq_true rfl, Nat.le_of_ble_eq_true rfl⟩) hS (fun q _ h => hFc q h) hFc (fun r_1 u9 t9 H1 locs ht hvm hr_1 hB hz1 hk1 hS => ?_)
  try dsimp only at hr_1
  have hP1 : va_P D vwCl [] H1 := vP_nil
  have hD1 : va_D (va_A [(h0, .inr (8, [.ref s1, .ref s2, .ref s3, .ref s4, .ref s5, .ref s6, .int 65535, .null, .null])), (s1, .inl (ca, 4, .inr (.inr (.inr (.inr (fun _ => none))))))] H.size) [] := vD_nil
  obtain ⟨hP, hD⟩ := va_join (wr := [(s2, .inr (1, [.ref bx, .int (-1), .int 3, .int 255])), (bx, .inr (0, [.int 0, .int 0, .int 63, .int 63])), (s4, .inr (3, [.ref p1, .ref p2, .ref p3, .ref p4, .int 0, .int 0, .int 0])), (p1, .inl (d1, 48, .inl (fun _ => 0))), (p2, .inl (d2, 48, .inl (fun _ => 0))), (p3, .inl (d3, 48, .inl (fun _ => 0))), (p4, .inl (d4, 48, .inl (fun _ => 0))), (s5, .inr (7, [.ref t1, .ref t2, .ref t3, .ref t4])), (t1, .inl (e1, 3, .inl (fun _ => 0))), (t2, .inl (e2, 3, .inl (fun _ => 0))), (t3, .inl (e3, 3, .inl (fun _ => 0))), (hm, .inr (9, [.ref m1, .ref m2, .ref m3, .int (-1), .int 3, .int 255, .int 0, .int 0, .int 0, .int 0, .int 0, .int 65535, .ref m4, .ref m5, .ref m6, .ref m7, .ref m8, .ref m9, .int 0, .ref m10, .ref m11, .ref m12, .ref m13])), (m1, .inl (c1, 4, .inl (fun _ => 0))), (m2, .inl (c2, 4, .inl (fun _ => 0))), (m3, .inl (c3, 16384, .inl (fun _ => 0))), (m7, .inl (c7, 48, .inl (fun _ => 0))), (m8, .inl (c8, 48, .inl (fun _ => 0))), (m9, .inl (c9, 48, .inl (fun _ => 0))), (m10, .inl (c10, 3, .inl (fun _ => 0))), (m11, .inl (c11, 3, .inl (fun _ => 0))), (m12, .inl (c12, 3, .inl (fun _ => 0)))]) (w1 := []) hP hD [0, 1] [2, 3, 4, 5, 6, 7, 8, 9, 10, 11, 12, 13, 14, 15, 16, 17, 18, 19, 20, 21, 22] rfl rfl (by decide) (by decide) hk1 hFc hP1 hD1
  clear hz1 hk1 hFc hKc hDc hPc
  generalize H1 = H at hP hS ⊢
  have hP : va_P D vwCl [(s2, .inr (1, [.ref bx, .int (-1), .int 3, .int 255])), (bx, .inr (0, [.int 0, .int 0, .int 63, .int 63])), (s4, .inr (3, [.ref p1, .ref p2, .ref p3, .ref p4, .int 0, .int 0, .int 0])), (p1, .inl (d1, 48, .inl (fun _ => 0))), (p2, .inl (d2, 48, .inl (fun _ => 0))), (p3, .inl (d3, 48, .inl (fun _ => 0))), (p4, .inl (d4, 48, .inl (fun _ => 0))), (s5, .inr (7, [.ref t1, .ref t2, .ref t3, .ref t4])), (t1, .inl (e1, 3, .inl (fun _ => 0))), (t2, .inl (e2, 3, .inl (fun _ => 0))), (t3, .inl (e3, 3, .inl (fun _ => 0))), (hm, .inr (9, [.ref m1, .ref m2, .ref m3, .int (-1), .int 3, .int 255, .int 0, .int 0, .int 0, .int 0, .int 0, .int 65535, .ref m4, .ref m5, .ref m6, .ref m7, .ref m8, .ref m9, .int 0, .ref m10, .ref m11, .ref m12, .ref m13])), (m1, .inl (c1, 4, .inl (fun _ => 0))), (m2, .inl (c2, 4, .inl (fun _ => 0))), (m3, .inl (c3, 16384, .inl (fun _ => 0))), (m7, .inl (c7, 48, .inl (fun _ => 0))), (m8, .inl (c8, 48, .inl (fun _ => 0))), (m9, .inl (c9, 48, .inl (fun _ => 0))), (m10, .inl (c10, 3, .inl (fun _ => 0))), (m11, .inl (c11, 3, .inl (fun _ => 0))), (m12, .inl (c12, 3, .inl (fun _ => 0)))] H := hP
  have hD : va_D (fun q : Nat => s.heap.size ≤ q) [(s2, .inr (1, [.ref bx, .int (-1), .int 3, .int 255])), (bx, .inr (0, [.int 0, .int 0, .int 63, .int 63])), (s4, .inr (3, [.ref p1, .ref p2, .ref p3, .ref p4, .int 0, .int 0, .int 0])), (p1, .inl (d1, 48, .inl (fun _ => 0))), (p2, .inl (d2, 48, .inl (fun _ => 0))), (p3, .inl (d3, 48, .inl (fun _ => 0))), (p4, .inl (d4, 48, .inl (fun _ => 0))), (s5, .inr (7, [.ref t1, .ref t2, .ref t3, .ref t4])), (t1, .inl (e1, 3, .inl (fun _ => 0))), (t2, .inl (e2, 3, .inl (fun _ => 0))), (t3, .inl (e3, 3, .inl (fun _ => 0))), (hm, .inr (9, [.ref m1, .ref m2, .ref m3, .int (-1), .int 3, .int 255, .int 0, .int 0, .int 0, .int 0, .int 0, .int 65535, .ref m4, .ref m5, .ref m6, .ref m7, .ref m8, .ref m9, .int 0, .ref m10, .ref m11, .ref m12, .ref m13])), (m1, .inl (c1, 4, .inl (fun _ => 0))), (m2, .inl (c2, 4, .inl (fun _ => 0))), (m3, .inl (c3, 16384, .inl (fun _ => 0))), (m7, .inl (c7, 48, .inl (fun _ => 0))), (m8, .inl (c8, 48, .inl (fun _ => 0))), (m9, .inl (c9, 48, .inl (fun _ => 0))), (m10, .inl (c10, 3, .inl (fun _ => 0))), (m11, .inl (c11, 3, .inl (fun _ => 0))), (m12, .inl (c12, 3, .inl (fun _ => 0)))] := hD
  subst hr_1
  refine lv_aload_n hx hb dL_law_970 rfl (lv_at hl 1 rfl) ?_
  refine lv_aload_n hx hb dL_law_971 rfl (lv_at hl 3 rfl) ?_
  refine lv_iload_n hx hb dL_law_972 rfl (lv_at hl 0 rfl) ?_
  refine lv_iconst (v := 1) hx hb dL_law_973 (by decide) ?_
  refine lv_iadd hx hb dL_law_974 ?_
  refine my_fold (v := 1) (by decide) ?_
  refine va_sld hx hb hX hbl hbA hS (i := 1) (my_in (by decide) (by decide)) dL_law_975 ?_
  refine my_topv (v := .int (xs 1)) rfl ?_
  refine lv_aload_n hx hb dL_law_976 rfl (lv_at hl 3 rfl) ?_
  refine lv_iload_n hx hb dL_law_977 rfl (lv_at hl 0 rfl) ?_
  refine lv_iconst (v := 2) hx hb dL_law_978 (by decide) ?_
  refine lv_iadd hx hb dL_law_979 ?_
  refine my_fold (v := 2) (by decide) ?_
  refine va_sld hx hb hX hbl hbA hS (i := 2) (my_in (by decide) (by decide)) dL_law_980 ?_
  refine my_topv (v := .int (xs 2)) rfl ?_
  have hPc := hP.sub (ws' := [(hm, .inr (9, [.ref m1, .ref m2, .ref m3, .int (-1), .int 3, .int 255, .int 0, .int 0, .int 0, .int 0, .int 0, .int 65535, .ref m4, .ref m5, .ref m6, .ref m7, .ref m8, .ref m9, .int 0, .ref m10, .ref m11, .ref m12, .ref m13])), (m1, .inl (c1, 4, .inl (fun _ => 0)))]) [11, 12] rfl
  have hDc := hD.sub (ws' := [(hm, .inr (9, [.ref m1, .ref m2, .ref m3, .int (-1), .int 3, .int 255, .int 0, .int 0, .int 0, .int 0, .int 0, .int 65535, .ref m4, .ref m5, .ref m6, .ref m7, .ref m8, .ref m9, .int 0, .ref m10, .ref m11, .ref m12, .ref m13])), (m1, .inl (c1, 4, .inl (fun _ => 0)))]) [11, 12] (by decide) rfl
  have hKc := hK.sub (tys' := [(c1, .int)]) [8] rfl
  have hFc := va_free (wc := [(hm, .inr (9, [.ref m1, .ref m2, .ref m3, .int (-1), .int 3, .int 255, .int 0, .int 0, .int 0, .int 0, .int 0, .int 65535, .ref m4, .ref m5, .ref m6, .ref m7, .ref m8, .ref m9, .int 0, .ref m10, .ref m11, .ref m12, .ref m13])), (m1, .inl (c1, 4, .inl (fun _ => 0)))]) hD hS hA [11, 12] rfl
  refine va_calli (va_runV (As := [.int (xs 1), .int (xs 2)]) (rest := [.int (-1)]) ⟨hx, hb, hml, hown, hts⟩ (k_X9_count l D H.size hm m1 m2 m3 m4 m5 m6 m7 m8 m9 m10 m11 m12 m13 c1 (xs 1) (xs 2)) (cwV 2 hts (gV bw_332 bw_333 bw_334 bw_11 bw_331) rfl rfl rfl (by decide +kernel) ⟨Nat.le_of_ble_eq_true rfl, Nat.le_of_ble_eq_true rfl⟩) ⟨cP_blind, va_recv hKc hPc (ci := 9) (q0 := 0) rfl rfl, cP_at hPc hKc hDc hN⟩ rfl rfl hl.1 rfl (lv_room (Nat.le_of_ble_eq_true rfl)) dL_law_981 ⟨Nat.le_of_ble_eq_true rfl, Nat.le_of_ble_eq_true rfl⟩) hS (fun q _ h => hFc q h) hFc (fun r_2 u9 t9 H1 locs ht hvm hr_2 hB hz1 hk1 hS => ?_)
  try dsimp only at hr_2
  have hP1 : va_P D vwCl [] H1 := vP_nil
  have hD1 : va_D (va_A [(hm, .inr (9, [.ref m1, .ref m2, .ref m3, .int (-1), .int 3, .int 255, .int 0, .int 0, .int 0, .int 0, .int 0, .int 65535, .ref m4, .ref m5, .ref m6, .ref m7, .ref m8, .ref m9, .int 0, .ref m10, .ref m11, .ref m12, .ref m13])), (m1, .inl (c1, 4, .inl (fun _ => 0)))] H.size) [] := vD_nil
  obtain ⟨hP, hD⟩ := va_join (wr := [(s2, .inr (1, [.ref bx, .int (-1), .int 3, .int 255])), (bx, .inr (0, [.int 0, .int 0, .int 63, .int 63])), (s4, .inr (3, [.ref p1, .ref p2, .ref p3, .ref p4, .int 0, .int 0, .int 0])), (p1, .inl (d1, 48, .inl (fun _ => 0))), (p2, .inl (d2, 48, .inl (fun _ => 0))), (p3, .inl (d3, 48, .inl (fun _ => 0))), (p4, .inl (d4, 48, .inl (fun _ => 0))), (s5, .inr (7, [.ref t1, .ref t2, .ref t3, .ref t4])), (t1, .inl (e1, 3, .inl (fun _ => 0))), (t2, .inl (e2, 3, .inl (fun _ => 0))), (t3, .inl (e3, 3, .inl (fun _ => 0))), (m2, .inl (c2, 4, .inl (fun _ => 0))), (m3, .inl (c3, 16384, .inl (fun _ => 0))), (m7, .inl (c7, 48, .inl (fun _ => 0))), (m8, .inl (c8, 48, .inl (fun _ => 0))), (m9, .inl (c9, 48, .inl (fun _ => 0))), (m10, .inl (c10, 3, .inl (fun _ => 0))), (m11, .inl (c11, 3, .inl (fun _ => 0))), (m12, .inl (c12, 3, .inl (fun _ => 0)))]) (w1 := []) hP hD [11, 12] [0, 1, 2, 3, 4, 5, 6, 7, 8, 9, 10, 13, 14, 15, 16, 17, 18, 19, 20] rfl rfl (by decide) (by decide) hk1 hFc hP1 hD1
  clear hz1 hk1 hFc hKc hDc hPc
  generalize H1 = H at hP hS ⊢
  have hP : va_P D vwCl [(s2, .inr (1, [.ref bx, .int (-1), .int 3, .int 255])), (bx, .inr (0, [.int 0, .int 0, .int 63, .int 63])), (s4, .inr (3, [.ref p1, .ref p2, .ref p3, .ref p4, .int 0, .int 0, .int 0])), (p1, .inl (d1, 48, .inl (fun _ => 0))), (p2, .inl (d2, 48, .inl (fun _ => 0))), (p3, .inl (d3, 48, .inl (fun _ => 0))), (p4, .inl (d4, 48, .inl (fun _ => 0))), (s5, .inr (7, [.ref t1, .ref t2, .ref t3, .ref t4])), (t1, .inl (e1, 3, .inl (fun _ => 0))), (t2, .inl (e2, 3, .inl (fun _ => 0))), (t3, .inl (e3, 3, .inl (fun _ => 0))), (m2, .inl (c2, 4, .inl (fun _ => 0))), (m3, .inl (c3, 16384, .inl (fun _ => 0))), (m7, .inl (c7, 48, .inl (fun _ => 0))), (m8, .inl (c8, 48, .inl (fun _ => 0))), (m9, .inl (c9, 48, .inl (fun _ => 0))), (m10, .inl (c10, 3, .inl (fun _ => 0))), (m11, .inl (c11, 3, .inl (fun _ => 0))), (m12, .inl (c12, 3, .inl (fun _ => 0)))] H := hP
  have hD : va_D (fun q : Nat => s.heap.size ≤ q) [(s2, .inr (1, [.ref bx, .int (-1), .int 3, .int 255])), (bx, .inr (0, [.int 0, .int 0, .int 63, .int 63])), (s4, .inr (3, [.ref p1, .ref p2, .ref p3, .ref p4, .int 0, .int 0, .int 0])), (p1, .inl (d1, 48, .inl (fun _ => 0))), (p2, .inl (d2, 48, .inl (fun _ => 0))), (p3, .inl (d3, 48, .inl (fun _ => 0))), (p4, .inl (d4, 48, .inl (fun _ => 0))), (s5, .inr (7, [.ref t1, .ref t2, .ref t3, .ref t4])), (t1, .inl (e1, 3, .inl (fun _ => 0))), (t2, .inl (e2, 3, .inl (fun _ => 0))), (t3, .inl (e3, 3, .inl (fun _ => 0))), (m2, .inl (c2, 4, .inl (fun _ => 0))), (m3, .inl (c3, 16384, .inl (fun _ => 0))), (m7, .inl (c7, 48, .inl (fun _ => 0))), (m8, .inl (c8, 48, .inl (fun _ => 0))), (m9, .inl (c9, 48, .inl (fun _ => 0))), (m10, .inl (c10, 3, .inl (fun _ => 0))), (m11, .inl (c11, 3, .inl (fun _ => 0))), (m12, .inl (c12, 3, .inl (fun _ => 0)))] := hD
  subst hr_2
  refine lv_icmp_eq (tgt := 1167) hx hb dL_law_984 (by decide) (fun c_3 => ?_) (fun c_3 => ?_)
  · skip
    exact law_tail C0 (by omega) (by omega) hS (lv_sub hl [0, 3] rfl)
  · skip
    exact absurd c_3 (by decide)

set_option maxHeartbeats 4000000 in
set_option maxRecDepth 100000 in
theorem law_c17 {p : Program} {l : Launch} {e : Env} {s : State} {m : MethodId} {below : List Frame} {meth : Method} {c : Code} {b : Nat} {xs : Nat → Int32} (C0 : lw_At p s m meth c b 11 xs) (hN : nW s) {D : va_G} {h0 s1 s2 s3 s4 s5 s6 bx p1 p2 p3 p4 t1 t2 t3 t4 hm m1 m2 m3 m4 m5 m6 m7 m8 m9 m10 m11 m12 m13 : Nat} {ca d1 d2 d3 d4 e1 e2 e3 c1 c2 c3 c7 c8 c9 c10 c11 c12 : ClassId} {H : Heap} {locs : List Loc} (hK : va_K D vwCl [(ca, .object "DotBench$Sheet"), (d1, .int), (d2, .int), (d3, .int), (d4, .int), (e1, .int), (e2, .int), (e3, .int), (c1, .int), (c2, .int), (c3, .int), (c7, .int), (c8, .int), (c9, .boolean), (c10, .int), (c11, .int), (c12, .int)] s) (hP : va_P D vwCl [(h0, .inr (8, [.ref s1, .ref s2, .ref s3, .ref s4, .ref s5, .ref s6, .int 65535, .null, .null])), (s1, .inl (ca, 4, .inr (.inr (.inr (.inr (fun _ => none)))))), (s2, .inr (1, [.ref bx, .int (-1), .int 3, .int 255])), (bx, .inr (0, [.int 0, .int 0, .int 63, .int 63])), (s4, .inr (3, [.ref p1, .ref p2, .ref p3, .ref p4, .int 0, .int 0, .int 0])), (p1, .inl (d1, 48, .inl (fun _ => 0))), (p2, .inl (d2, 48, .inl (fun _ => 0))), (p3, .inl (d3, 48, .inl (fun _ => 0))), (p4, .inl (d4, 48, .inl (fun _ => 0))), (s5, .inr (7, [.ref t1, .ref t2, .ref t3, .ref t4])), (t1, .inl (e1, 3, .inl (fun _ => 0))), (t2, .inl (e2, 3, .inl (fun _ => 0))), (t3, .inl (e3, 3, .inl (fun _ => 0))), (hm, .inr (9, [.ref m1, .ref m2, .ref m3, .int (-1), .int 3, .int 255, .int 0, .int 0, .int 0, .int 0, .int 0, .int 65535, .ref m4, .ref m5, .ref m6, .ref m7, .ref m8, .ref m9, .int 0, .ref m10, .ref m11, .ref m12, .ref m13])), (m1, .inl (c1, 4, .inl (fun _ => 0))), (m2, .inl (c2, 4, .inl (fun _ => 0))), (m3, .inl (c3, 16384, .inl (fun _ => 0))), (m7, .inl (c7, 48, .inl (fun _ => 0))), (m8, .inl (c8, 48, .inl (fun _ => 0))), (m9, .inl (c9, 48, .inl (fun _ => 0))), (m10, .inl (c10, 3, .inl (fun _ => 0))), (m11, .inl (c11, 3, .inl (fun _ => 0))), (m12, .inl (c12, 3, .inl (fun _ => 0)))] H) (hD : va_D (fun q : Nat => s.heap.size ≤ q) [(h0, .inr (8, [.ref s1, .ref s2, .ref s3, .ref s4, .ref s5, .ref s6, .int 65535, .null, .null])), (s1, .inl (ca, 4, .inr (.inr (.inr (.inr (fun _ => none)))))), (s2, .inr (1, [.ref bx, .int (-1), .int 3, .int 255])), (bx, .inr (0, [.int 0, .int 0, .int 63, .int 63])), (s4, .inr (3, [.ref p1, .ref p2, .ref p3, .ref p4, .int 0, .int 0, .int 0])), (p1, .inl (d1, 48, .inl (fun _ => 0))), (p2, .inl (d2, 48, .inl (fun _ => 0))), (p3, .inl (d3, 48, .inl (fun _ => 0))), (p4, .inl (d4, 48, .inl (fun _ => 0))), (s5, .inr (7, [.ref t1, .ref t2, .ref t3, .ref t4])), (t1, .inl (e1, 3, .inl (fun _ => 0))), (t2, .inl (e2, 3, .inl (fun _ => 0))), (t3, .inl (e3, 3, .inl (fun _ => 0))), (hm, .inr (9, [.ref m1, .ref m2, .ref m3, .int (-1), .int 3, .int 255, .int 0, .int 0, .int 0, .int 0, .int 0, .int 65535, .ref m4, .ref m5, .ref m6, .ref m7, .ref m8, .ref m9, .int 0, .ref m10, .ref m11, .ref m12, .ref m13])), (m1, .inl (c1, 4, .inl (fun _ => 0))), (m2, .inl (c2, 4, .inl (fun _ => 0))), (m3, .inl (c3, 16384, .inl (fun _ => 0))), (m7, .inl (c7, 48, .inl (fun _ => 0))), (m8, .inl (c8, 48, .inl (fun _ => 0))), (m9, .inl (c9, 48, .inl (fun _ => 0))), (m10, .inl (c10, 3, .inl (fun _ => 0))), (m11, .inl (c11, 3, .inl (fun _ => 0))), (m12, .inl (c12, 3, .inl (fun _ => 0)))]) (hS : va_S (fun q : Nat => s.heap.size ≤ q) s.heap H locs) {ls : Array Slot} (hl : lv_has ls 4 [(3, .int 0), (2, .ref hm), (1, .ref h0), (0, .ref b)]) : W p l e room_1 s m #[Value.ref b] below meth c H locs 36 33710 (lw_Z below #[Value.ref b] s) (F0 m 989 ls []) := by
  obtain ⟨hx, hb, hr, hml, hown, hts0, hX, hbl, hlocks, hgv⟩ := id C0
  have hts : ∀ w ∈ bigW, w.before #[Value.ref b] s = true := fun w h => hts0 w (bigW_in w h).1
  have hown : s.vm.findClass RL = some m.cls := hown
  have hA : ∀ q : Nat, s.heap.size ≤ q → (fun q : Nat => s.heap.size ≤ q) q := fun _ h => h
  have hbA : ¬ (fun q : Nat => s.heap.size ≤ q) b := Nat.not_le.mpr hbl
  refine lv_aload_n hx hb dL_law_989 rfl (lv_at hl 2 rfl) ?_
  refine lv_aload_n hx hb dL_law_990 rfl (lv_at hl 3 rfl) ?_
  refine lv_iload_n hx hb dL_law_991 rfl (lv_at hl 0 rfl) ?_
  refine lv_iconst (v := 1) hx hb dL_law_992 (by decide) ?_
  refine lv_iadd hx hb dL_law_993 ?_
  refine my_fold (v := 1) (by decide) ?_
  refine va_sld hx hb hX hbl hbA hS (i := 1) (my_in (by decide) (by decide)) dL_law_994 ?_
  refine my_topv (v := .int (xs 1)) rfl ?_
  refine lv_aload_n hx hb dL_law_995 rfl (lv_at hl 3 rfl) ?_
  refine lv_iload_n hx hb dL_law_996 rfl (lv_at hl 0 rfl) ?_
  refine lv_iconst (v := 2) hx hb dL_law_997 (by decide) ?_
  refine lv_iadd hx hb dL_law_998 ?_
  refine my_fold (v := 2) (by decide) ?_
  refine va_sld hx hb hX hbl hbA hS (i := 2) (my_in (by decide) (by decide)) dL_law_999 ?_
  refine my_topv (v := .int (xs 2)) rfl ?_
  refine lv_aload_n hx hb dL_law_1000 rfl (lv_at hl 3 rfl) ?_
  refine lv_iload_n hx hb dL_law_1001 rfl (lv_at hl 0 rfl) ?_
  refine lv_iconst (v := 3) hx hb dL_law_1002 (by decide) ?_
  refine lv_iadd hx hb dL_law_1003 ?_
  refine my_fold (v := 3) (by decide) ?_
  refine va_sld hx hb hX hbl hbA hS (i := 3) (my_in (by decide) (by decide)) dL_law_1004 ?_
  refine my_topv (v := .int (xs 3)) rfl ?_
  refine lv_aload_n hx hb dL_law_1005 rfl (lv_at hl 3 rfl) ?_
  refine lv_iload_n hx hb dL_law_1006 rfl (lv_at hl 0 rfl) ?_
  refine lv_iconst (v := 4) hx hb dL_law_1007 (by decide) ?_
  refine lv_iadd hx hb dL_law_1008 ?_
  refine my_fold (v := 4) (by decide) ?_
  refine va_sld hx hb hX hbl hbA hS (i := 4) (my_in (by decide) (by decide)) dL_law_1009 ?_
  refine my_topv (v := .int (xs 4)) rfl ?_
  refine lv_if_eq (tgt := 1017) hx hb dL_law_1010 (by decide) (fun c_1 => ?_) (fun c_1 => ?_)
  · skip
    have f_2 : (xs 4).toInt = 0 := f_eq rfl (by decide) c_1
    refine lv_iconst (v := 0) hx hb dL_law_1017 (by decide) ?_
    have hPc := hP.sub (ws' := [(h0, .inr (8, [.ref s1, .ref s2, .ref s3, .ref s4, .ref s5, .ref s6, .int 65535, .null, .null])), (s1, .inl (ca, 4, .inr (.inr (.inr (.inr (fun _ => none))))))]) [0, 1] rfl
    have hDc := hD.sub (ws' := [(h0, .inr (8, [.ref s1, .ref s2, .ref s3, .ref s4, .ref s5, .ref s6, .int 65535, .null, .null])), (s1, .inl (ca, 4, .inr (.inr (.inr (.inr (fun _ => none))))))]) [0, 1] (by decide) rfl
    have hKc := hK.sub (tys' := [(ca, .object "DotBench$Sheet")]) [0] rfl
    have hFc := va_free (wc := [(h0, .inr (8, [.ref s1, .ref s2, .ref s3, .ref s4, .ref s5, .ref s6, .int 65535, .null, .null])), (s1, .inl (ca, 4, .inr (.inr (.inr (.inr (fun _ => none))))))]) hD hS hA [0, 1] rfl
    refine va_calli (va_runV (As := [.int (xs 1), .int (xs 2), .int (xs 3), .int 0]) (rest := []) ⟨hx, hb, hml, hown, hts⟩ (k_X8_region l D H.size h0 s1 s2 s3 s4 s5 s6 ca (xs 1) (xs 2) (xs 3) 0) (cwV 4 hts (gV bw_336 bw_337 bw_338 bw_1 bw_335) rfl rfl rfl (by decide +kernel) ⟨Nat.le_of_ble_eq_true rfl, Nat.le_of_ble_eq_true rfl⟩) ⟨cP_blind, va_recv hKc hPc (ci := 8) (q0 := 0) rfl rfl, cP_at hPc hKc hDc hN⟩ rfl rfl hl.1 rfl (lv_room (Nat.le_of_ble_eq_true rfl)) dL_law_1018 ⟨Nat.le_of_ble_eq_true rfl, Nat.le_of_ble_eq_true rfl⟩) hS (fun q _ h => hFc q h) hFc (fun r_3 u9 t9 H1 locs ht hvm hr_3 hB hz1 hk1 hS => ?_)
    try dsimp only at hr_3
    have hP1 : va_P D vwCl [] H1 := vP_nil
    have hD1 : va_D (va_A [(h0, .inr (8, [.ref s1, .ref s2, .ref s3, .ref s4, .ref s5, .ref s6, .int 65535, .null, .null])), (s1, .inl (ca, 4, .inr (.inr (.inr (.inr (fun _ => none))))))] H.size) [] := vD_nil
    obtain ⟨hP, hD⟩ := va_join (wr := [(s2, .inr (1, [.ref bx, .int (-1), .int 3, .int 255])), (bx, .inr (0, [.int 0, .int 0, .int 63, .int 63])), (s4, .inr (3, [.ref p1, .ref p2, .ref p3, .ref p4, .int 0, .int 0, .int 0])), (p1, .inl (d1, 48, .inl (fun _ => 0))), (p2, .inl (d2, 48, .inl (fun _ => 0))), (p3, .inl (d3, 48, .inl (fun _ => 0))), (p4, .inl (d4, 48, .inl (fun _ => 0))), (s5, .inr (7, [.ref t1, .ref t2, .ref t3, .ref t4])), (t1, .inl (e1, 3, .inl (fun _ => 0))), (t2, .inl (e2, 3, .inl (fun _ => 0))), (t3, .inl (e3, 3, .inl (fun _ => 0))), (hm, .inr (9, [.ref m1, .ref m2, .ref m3, .int (-1), .int 3, .int 255, .int 0, .int 0, .int 0, .int 0, .int 0, .int 65535, .ref m4, .ref m5, .ref m6, .ref m7, .ref m8, .ref m9, .int 0, .ref m10, .ref m11, .ref m12, .ref m13])), (m1, .inl (c1, 4, .inl (fun _ => 0))), (m2, .inl (c2, 4, .inl (fun _ => 0))), (m3, .inl (c3, 16384, .inl (fun _ => 0))), (m7, .inl (c7, 48, .inl (fun _ => 0))), (m8, .inl (c8, 48, .inl (fun _ => 0))), (m9, .inl (c9, 48, .inl (fun _ => 0))), (m10, .inl (c10, 3, .inl (fun _ => 0))), (m11, .inl (c11, 3, .inl (fun _ => 0))), (m12, .inl (c12, 3, .inl (fun _ => 0)))]) (w1 := []) hP hD [0, 1] [2, 3, 4, 5, 6, 7, 8, 9, 10, 11, 12, 13, 14, 15, 16, 17, 18, 19, 20, 21, 22] rfl rfl (by decide) (by decide) hk1 hFc hP1 hD1
    clear hz1 hk1 hFc hKc hDc hPc
    generalize H1 = H at hP hS ⊢
    have hP : va_P D vwCl [(s2, .inr (1, [.ref bx, .int (-1), .int 3, .int 255])), (bx, .inr (0, [.int 0, .int 0, .int 63, .int 63])), (s4, .inr (3, [.ref p1, .ref p2, .ref p3, .ref p4, .int 0, .int 0, .int 0])), (p1, .inl (d1, 48, .inl (fun _ => 0))), (p2, .inl (d2, 48, .inl (fun _ => 0))), (p3, .inl (d3, 48, .inl (fun _ => 0))), (p4, .inl (d4, 48, .inl (fun _ => 0))), (s5, .inr (7, [.ref t1, .ref t2, .ref t3, .ref t4])), (t1, .inl (e1, 3, .inl (fun _ => 0))), (t2, .inl (e2, 3, .inl (fun _ => 0))), (t3, .inl (e3, 3, .inl (fun _ => 0))), (hm, .inr (9, [.ref m1, .ref m2, .ref m3, .int (-1), .int 3, .int 255, .int 0, .int 0, .int 0, .int 0, .int 0, .int 65535, .ref m4, .ref m5, .ref m6, .ref m7, .ref m8, .ref m9, .int 0, .ref m10, .ref m11, .ref m12, .ref m13])), (m1, .inl (c1, 4, .inl (fun _ => 0))), (m2, .inl (c2, 4, .inl (fun _ => 0))), (m3, .inl (c3, 16384, .inl (fun _ => 0))), (m7, .inl (c7, 48, .inl (fun _ => 0))), (m8, .inl (c8, 48, .inl (fun _ => 0))), (m9, .inl (c9, 48, .inl (fun _ => 0))), (m10, .inl (c10, 3, .inl (fun _ => 0))), (m11, .inl (c11, 3, .inl (fun _ => 0))), (m12, .inl (c12, 3, .inl (fun _ => 0)))] H := hP
    have hD : va_D (fun q : Nat => s.heap.size ≤ q) [(s2, .inr (1, [.ref bx, .int (-1), .int 3, .int 255])), (bx, .inr (0, [.int 0, .int 0, .int 63, .int 63])), (s4, .inr (3, [.ref p1, .ref p2, .ref p3, .ref p4, .int 0, .int 0, .int 0])), (p1, .inl (d1, 48, .inl (fun _ => 0))), (p2, .inl (d2, 48, .inl (fun _ => 0))), (p3, .inl (d3, 48, .inl (fun _ => 0))), (p4, .inl (d4, 48, .inl (fun _ => 0))), (s5, .inr (7, [.ref t1, .ref t2, .ref t3, .ref t4])), (t1, .inl (e1, 3, .inl (fun _ => 0))), (t2, .inl (e2, 3, .inl (fun _ => 0))), (t3, .inl (e3, 3, .inl (fun _ => 0))), (hm, .inr (9, [.ref m1, .ref m2, .ref m3, .int (-1), .int 3, .int 255, .int 0, .int 0, .int 0, .int 0, .int 0, .int 65535, .ref m4, .ref m5, .ref m6, .ref m7, .ref m8, .ref m9, .int 0, .ref m10, .ref m11, .ref m12, .ref m13])), (m1, .inl (c1, 4, .inl (fun _ => 0))), (m2, .inl (c2, 4, .inl (fun _ => 0))), (m3, .inl (c3, 16384, .inl (fun _ => 0))), (m7, .inl (c7, 48, .inl (fun _ => 0))), (m8, .inl (c8, 48, .inl (fun _ => 0))), (m9, .inl (c9, 48, .inl (fun _ => 0))), (m10, .inl (c10, 3, .inl (fun _ => 0))), (m11, .inl (c11, 3, .inl (fun _ => 0))), (m12, .inl (c12, 3, .inl (fun _ => 0)))] := hD
    subst hr_3
    refine lv_aload_n hx hb dL_law_1021 rfl (lv_at hl 1 rfl) ?_
    refine lv_aload_n hx hb dL_law_1022 rfl (lv_at hl 3 rfl) ?_
    refine lv_iload_n hx hb dL_law_1023 rfl (lv_at hl 0 rfl) ?_
    refine lv_iconst (v := 1) hx hb dL_law_1024 (by decide) ?_
    refine lv_iadd hx hb dL_law_1025 ?_
    refine my_fold (v := 1) (by decide) ?_
    refine va_sld hx hb hX hbl hbA hS (i := 1) (my_in (by decide) (by decide)) dL_law_1026 ?_
    refine my_topv (v := .int (xs 1)) rfl ?_
    refine lv_aload_n hx hb dL_law_1027 rfl (lv_at hl 3 rfl) ?_
    refine lv_iload_n hx hb dL_law_1028 rfl (lv_at hl 0 rfl) ?_
    refine lv_iconst (v := 2) hx hb dL_law_1029 (by decide) ?_
    refine lv_iadd hx hb dL_law_1030 ?_
    refine my_fold (v := 2) (by decide) ?_
    refine va_sld hx hb hX hbl hbA hS (i := 2) (my_in (by decide) (by decide)) dL_law_1031 ?_
    refine my_topv (v := .int (xs 2)) rfl ?_
    refine lv_aload_n hx hb dL_law_1032 rfl (lv_at hl 3 rfl) ?_
    refine lv_iload_n hx hb dL_law_1033 rfl (lv_at hl 0 rfl) ?_
    refine lv_iconst (v := 3) hx hb dL_law_1034 (by decide) ?_
    refine lv_iadd hx hb dL_law_1035 ?_
    refine my_fold (v := 3) (by decide) ?_
    refine va_sld hx hb hX hbl hbA hS (i := 3) (my_in (by decide) (by decide)) dL_law_1036 ?_
    refine my_topv (v := .int (xs 3)) rfl ?_
    refine lv_aload_n hx hb dL_law_1037 rfl (lv_at hl 3 rfl) ?_
    refine lv_iload_n hx hb dL_law_1038 rfl (lv_at hl 0 rfl) ?_
    refine lv_iconst (v := 4) hx hb dL_law_1039 (by decide) ?_
    refine lv_iadd hx hb dL_law_1040 ?_
    refine my_fold (v := 4) (by decide) ?_
    refine va_sld hx hb hX hbl hbA hS (i := 4) (my_in (by decide) (by decide)) dL_law_1041 ?_
    refine my_topv (v := .int (xs 4)) rfl ?_
    refine lv_if_eq (tgt := 1049) hx hb dL_law_1042 (by decide) (fun c_4 => ?_) (fun c_4 => ?_)
    · skip
      have f_5 : (xs 4).toInt = 0 := f_eq rfl (by decide) c_4
      refine lv_iconst (v := 0) hx hb dL_law_1049 (by decide) ?_
      have hPc := hP.sub (ws' := [(hm, .inr (9, [.ref m1, .ref m2, .ref m3, .int (-1), .int 3, .int 255, .int 0, .int 0, .int 0, .int 0, .int 0, .int 65535, .ref m4, .ref m5, .ref m6, .ref m7, .ref m8, .ref m9, .int 0, .ref m10, .ref m11, .ref m12, .ref m13])), (m1, .inl (c1, 4, .inl (fun _ => 0)))]) [11, 12] rfl
      have hDc := hD.sub (ws' := [(hm, .inr (9, [.ref m1, .ref m2, .ref m3, .int (-1), .int 3, .int 255, .int 0, .int 0, .int 0, .int 0, .int 0, .int 65535, .ref m4, .ref m5, .ref m6, .ref m7, .ref m8, .ref m9, .int 0, .ref m10, .ref m11, .ref m12, .ref m13])), (m1, .inl (c1, 4, .inl (fun _ => 0)))]) [11, 12] (by decide) rfl
      have hKc := hK.sub (tys' := [(c1, .int)]) [8] rfl
      have hFc := va_free (wc := [(hm, .inr (9, [.ref m1, .ref m2, .ref m3, .int (-1), .int 3, .int 255, .int 0, .int 0, .int 0, .int 0, .int 0, .int 65535, .ref m4, .ref m5, .ref m6, .ref m7, .ref m8, .ref m9, .int 0, .ref m10, .ref m11, .ref m12, .ref m13])), (m1, .inl (c1, 4, .inl (fun _ => 0)))]) hD hS hA [11, 12] rfl
      refine va_calli (va_runV (As := [.int (xs 1), .int (xs 2), .int (xs 3), .int 0]) (rest := [.int (-1)]) ⟨hx, hb, hml, hown, hts⟩ (k_X9_region l D H.size hm m1 m2 m3 m4 m5 m6 m7 m8 m9 m10 m11 m12 m13 c1 (xs 1) (xs 2) (xs 3) 0) (cwV 4 hts (gV bw_340 bw_341 bw_342 bw_11 bw_339) rfl rfl rfl (by decide +kernel) ⟨Nat.le_of_ble_eq_true rfl, Nat.le_of_ble_eq_true rfl⟩) ⟨cP_blind, va_recv hKc hPc (ci := 9) (q0 := 0) rfl rfl, cP_at hPc hKc hDc hN⟩ rfl rfl hl.1 rfl (lv_room (Nat.le_of_ble_eq_true rfl)) dL_law_1050 ⟨Nat.le_of_ble_eq_true rfl, Nat.le_of_ble_eq_true rfl⟩) hS (fun q _ h => hFc q h) hFc (fun r_6 u9 t9 H1 locs ht hvm hr_6 hB hz1 hk1 hS => ?_)
      try dsimp only at hr_6
      have hP1 : va_P D vwCl [] H1 := vP_nil
      have hD1 : va_D (va_A [(hm, .inr (9, [.ref m1, .ref m2, .ref m3, .int (-1), .int 3, .int 255, .int 0, .int 0, .int 0, .int 0, .int 0, .int 65535, .ref m4, .ref m5, .ref m6, .ref m7, .ref m8, .ref m9, .int 0, .ref m10, .ref m11, .ref m12, .ref m13])), (m1, .inl (c1, 4, .inl (fun _ => 0)))] H.size) [] := vD_nil
      obtain ⟨hP, hD⟩ := va_join (wr := [(s2, .inr (1, [.ref bx, .int (-1), .int 3, .int 255])), (bx, .inr (0, [.int 0, .int 0, .int 63, .int 63])), (s4, .inr (3, [.ref p1, .ref p2, .ref p3, .ref p4, .int 0, .int 0, .int 0])), (p1, .inl (d1, 48, .inl (fun _ => 0))), (p2, .inl (d2, 48, .inl (fun _ => 0))), (p3, .inl (d3, 48, .inl (fun _ => 0))), (p4, .inl (d4, 48, .inl (fun _ => 0))), (s5, .inr (7, [.ref t1, .ref t2, .ref t3, .ref t4])), (t1, .inl (e1, 3, .inl (fun _ => 0))), (t2, .inl (e2, 3, .inl (fun _ => 0))), (t3, .inl (e3, 3, .inl (fun _ => 0))), (m2, .inl (c2, 4, .inl (fun _ => 0))), (m3, .inl (c3, 16384, .inl (fun _ => 0))), (m7, .inl (c7, 48, .inl (fun _ => 0))), (m8, .inl (c8, 48, .inl (fun _ => 0))), (m9, .inl (c9, 48, .inl (fun _ => 0))), (m10, .inl (c10, 3, .inl (fun _ => 0))), (m11, .inl (c11, 3, .inl (fun _ => 0))), (m12, .inl (c12, 3, .inl (fun _ => 0)))]) (w1 := []) hP hD [11, 12] [0, 1, 2, 3, 4, 5, 6, 7, 8, 9, 10, 13, 14, 15, 16, 17, 18, 19, 20] rfl rfl (by decide) (by decide) hk1 hFc hP1 hD1
      clear hz1 hk1 hFc hKc hDc hPc
      generalize H1 = H at hP hS ⊢
      have hP : va_P D vwCl [(s2, .inr (1, [.ref bx, .int (-1), .int 3, .int 255])), (bx, .inr (0, [.int 0, .int 0, .int 63, .int 63])), (s4, .inr (3, [.ref p1, .ref p2, .ref p3, .ref p4, .int 0, .int 0, .int 0])), (p1, .inl (d1, 48, .inl (fun _ => 0))), (p2, .inl (d2, 48, .inl (fun _ => 0))), (p3, .inl (d3, 48, .inl (fun _ => 0))), (p4, .inl (d4, 48, .inl (fun _ => 0))), (s5, .inr (7, [.ref t1, .ref t2, .ref t3, .ref t4])), (t1, .inl (e1, 3, .inl (fun _ => 0))), (t2, .inl (e2, 3, .inl (fun _ => 0))), (t3, .inl (e3, 3, .inl (fun _ => 0))), (m2, .inl (c2, 4, .inl (fun _ => 0))), (m3, .inl (c3, 16384, .inl (fun _ => 0))), (m7, .inl (c7, 48, .inl (fun _ => 0))), (m8, .inl (c8, 48, .inl (fun _ => 0))), (m9, .inl (c9, 48, .inl (fun _ => 0))), (m10, .inl (c10, 3, .inl (fun _ => 0))), (m11, .inl (c11, 3, .inl (fun _ => 0))), (m12, .inl (c12, 3, .inl (fun _ => 0)))] H := hP
      have hD : va_D (fun q : Nat => s.heap.size ≤ q) [(s2, .inr (1, [.ref bx, .int (-1), .int 3, .int 255])), (bx, .inr (0, [.int 0, .int 0, .int 63, .int 63])), (s4, .inr (3, [.ref p1, .ref p2, .ref p3, .ref p4, .int 0, .int 0, .int 0])), (p1, .inl (d1, 48, .inl (fun _ => 0))), (p2, .inl (d2, 48, .inl (fun _ => 0))), (p3, .inl (d3, 48, .inl (fun _ => 0))), (p4, .inl (d4, 48, .inl (fun _ => 0))), (s5, .inr (7, [.ref t1, .ref t2, .ref t3, .ref t4])), (t1, .inl (e1, 3, .inl (fun _ => 0))), (t2, .inl (e2, 3, .inl (fun _ => 0))), (t3, .inl (e3, 3, .inl (fun _ => 0))), (m2, .inl (c2, 4, .inl (fun _ => 0))), (m3, .inl (c3, 16384, .inl (fun _ => 0))), (m7, .inl (c7, 48, .inl (fun _ => 0))), (m8, .inl (c8, 48, .inl (fun _ => 0))), (m9, .inl (c9, 48, .inl (fun _ => 0))), (m10, .inl (c10, 3, .inl (fun _ => 0))), (m11, .inl (c11, 3, .inl (fun _ => 0))), (m12, .inl (c12, 3, .inl (fun _ => 0)))] := hD
      subst hr_6
      refine lv_icmp_eq (tgt := 1167) hx hb dL_law_1053 (by decide) (fun c_7 => ?_) (fun c_7 => ?_)
      · skip
        exact law_tail C0 (by omega) (by omega) hS (lv_sub hl [0, 3] rfl)
      · skip
        exact absurd c_7 (by decide)
    · skip
      exact absurd c_1 c_4
  · skip
    have f_2 : ¬ ((xs 4).toInt = 0) := fn_eq rfl (by decide) c_1
    refine lv_iconst (v := 1) hx hb dL_law_1013 (by decide) ?_
    refine lv_goto (tgt := 1018) hx hb dL_law_1014 (by decide) ?_
    have hPc := hP.sub (ws' := [(h0, .inr (8, [.ref s1, .ref s2, .ref s3, .ref s4, .ref s5, .ref s6, .int 65535, .null, .null])), (s1, .inl (ca, 4, .inr (.inr (.inr (.inr (fun _ => none))))))]) [0, 1] rfl
    have hDc := hD.sub (ws' := [(h0, .inr (8, [.ref s1, .ref s2, .ref s3, .ref s4, .ref s5, .ref s6, .int 65535, .null, .null])), (s1, .inl (ca, 4, .inr (.inr (.inr (.inr (fun _ => none))))))]) [0, 1] (by decide) rfl
    have hKc := hK.sub (tys' := [(ca, .object "DotBench$Sheet")]) [0] rfl
    have hFc := va_free (wc := [(h0, .inr (8, [.ref s1, .ref s2, .ref s3, .ref s4, .ref s5, .ref s6, .int 65535, .null, .null])), (s1, .inl (ca, 4, .inr (.inr (.inr (.inr (fun _ => none))))))]) hD hS hA [0, 1] rfl
    refine va_calli (va_runV (As := [.int (xs 1), .int (xs 2), .int (xs 3), .int 1]) (rest := []) ⟨hx, hb, hml, hown, hts⟩ (k_X8_region l D H.size h0 s1 s2 s3 s4 s5 s6 ca (xs 1) (xs 2) (xs 3) 1) (cwV 4 hts (gV bw_336 bw_337 bw_338 bw_1 bw_335) rfl rfl rfl (by decide +kernel) ⟨Nat.le_of_ble_eq_true rfl, Nat.le_of_ble_eq_true rfl⟩) ⟨cP_blind, va_recv hKc hPc (ci := 8) (q0 := 0) rfl rfl, cP_at hPc hKc hDc hN⟩ rfl rfl hl.1 rfl (lv_room (Nat.le_of_ble_eq_true rfl)) dL_law_1018 ⟨Nat.le_of_ble_eq_true rfl, Nat.le_of_ble_eq_true rfl⟩) hS (fun q _ h => hFc q h) hFc (fun r_9 u9 t9 H1 locs ht hvm hr_9 hB hz1 hk1 hS => ?_)
    try dsimp only at hr_9
    have hP1 : va_P D vwCl [] H1 := vP_nil
    have hD1 : va_D (va_A [(h0, .inr (8, [.ref s1, .ref s2, .ref s3, .ref s4, .ref s5, .ref s6, .int 65535, .null, .null])), (s1, .inl (ca, 4, .inr (.inr (.inr (.inr (fun _ => none))))))] H.size) [] := vD_nil
    obtain ⟨hP, hD⟩ := va_join (wr := [(s2, .inr (1, [.ref bx, .int (-1), .int 3, .int 255])), (bx, .inr (0, [.int 0, .int 0, .int 63, .int 63])), (s4, .inr (3, [.ref p1, .ref p2, .ref p3, .ref p4, .int 0, .int 0, .int 0])), (p1, .inl (d1, 48, .inl (fun _ => 0))), (p2, .inl (d2, 48, .inl (fun _ => 0))), (p3, .inl (d3, 48, .inl (fun _ => 0))), (p4, .inl (d4, 48, .inl (fun _ => 0))), (s5, .inr (7, [.ref t1, .ref t2, .ref t3, .ref t4])), (t1, .inl (e1, 3, .inl (fun _ => 0))), (t2, .inl (e2, 3, .inl (fun _ => 0))), (t3, .inl (e3, 3, .inl (fun _ => 0))), (hm, .inr (9, [.ref m1, .ref m2, .ref m3, .int (-1), .int 3, .int 255, .int 0, .int 0, .int 0, .int 0, .int 0, .int 65535, .ref m4, .ref m5, .ref m6, .ref m7, .ref m8, .ref m9, .int 0, .ref m10, .ref m11, .ref m12, .ref m13])), (m1, .inl (c1, 4, .inl (fun _ => 0))), (m2, .inl (c2, 4, .inl (fun _ => 0))), (m3, .inl (c3, 16384, .inl (fun _ => 0))), (m7, .inl (c7, 48, .inl (fun _ => 0))), (m8, .inl (c8, 48, .inl (fun _ => 0))), (m9, .inl (c9, 48, .inl (fun _ => 0))), (m10, .inl (c10, 3, .inl (fun _ => 0))), (m11, .inl (c11, 3, .inl (fun _ => 0))), (m12, .inl (c12, 3, .inl (fun _ => 0)))]) (w1 := []) hP hD [0, 1] [2, 3, 4, 5, 6, 7, 8, 9, 10, 11, 12, 13, 14, 15, 16, 17, 18, 19, 20, 21, 22] rfl rfl (by decide) (by decide) hk1 hFc hP1 hD1
    clear hz1 hk1 hFc hKc hDc hPc
    generalize H1 = H at hP hS ⊢
    have hP : va_P D vwCl [(s2, .inr (1, [.ref bx, .int (-1), .int 3, .int 255])), (bx, .inr (0, [.int 0, .int 0, .int 63, .int 63])), (s4, .inr (3, [.ref p1, .ref p2, .ref p3, .ref p4, .int 0, .int 0, .int 0])), (p1, .inl (d1, 48, .inl (fun _ => 0))), (p2, .inl (d2, 48, .inl (fun _ => 0))), (p3, .inl (d3, 48, .inl (fun _ => 0))), (p4, .inl (d4, 48, .inl (fun _ => 0))), (s5, .inr (7, [.ref t1, .ref t2, .ref t3, .ref t4])), (t1, .inl (e1, 3, .inl (fun _ => 0))), (t2, .inl (e2, 3, .inl (fun _ => 0))), (t3, .inl (e3, 3, .inl (fun _ => 0))), (hm, .inr (9, [.ref m1, .ref m2, .ref m3, .int (-1), .int 3, .int 255, .int 0, .int 0, .int 0, .int 0, .int 0, .int 65535, .ref m4, .ref m5, .ref m6, .ref m7, .ref m8, .ref m9, .int 0, .ref m10, .ref m11, .ref m12, .ref m13])), (m1, .inl (c1, 4, .inl (fun _ => 0))), (m2, .inl (c2, 4, .inl (fun _ => 0))), (m3, .inl (c3, 16384, .inl (fun _ => 0))), (m7, .inl (c7, 48, .inl (fun _ => 0))), (m8, .inl (c8, 48, .inl (fun _ => 0))), (m9, .inl (c9, 48, .inl (fun _ => 0))), (m10, .inl (c10, 3, .inl (fun _ => 0))), (m11, .inl (c11, 3, .inl (fun _ => 0))), (m12, .inl (c12, 3, .inl (fun _ => 0)))] H := hP
    have hD : va_D (fun q : Nat => s.heap.size ≤ q) [(s2, .inr (1, [.ref bx, .int (-1), .int 3, .int 255])), (bx, .inr (0, [.int 0, .int 0, .int 63, .int 63])), (s4, .inr (3, [.ref p1, .ref p2, .ref p3, .ref p4, .int 0, .int 0, .int 0])), (p1, .inl (d1, 48, .inl (fun _ => 0))), (p2, .inl (d2, 48, .inl (fun _ => 0))), (p3, .inl (d3, 48, .inl (fun _ => 0))), (p4, .inl (d4, 48, .inl (fun _ => 0))), (s5, .inr (7, [.ref t1, .ref t2, .ref t3, .ref t4])), (t1, .inl (e1, 3, .inl (fun _ => 0))), (t2, .inl (e2, 3, .inl (fun _ => 0))), (t3, .inl (e3, 3, .inl (fun _ => 0))), (hm, .inr (9, [.ref m1, .ref m2, .ref m3, .int (-1), .int 3, .int 255, .int 0, .int 0, .int 0, .int 0, .int 0, .int 65535, .ref m4, .ref m5, .ref m6, .ref m7, .ref m8, .ref m9, .int 0, .ref m10, .ref m11, .ref m12, .ref m13])), (m1, .inl (c1, 4, .inl (fun _ => 0))), (m2, .inl (c2, 4, .inl (fun _ => 0))), (m3, .inl (c3, 16384, .inl (fun _ => 0))), (m7, .inl (c7, 48, .inl (fun _ => 0))), (m8, .inl (c8, 48, .inl (fun _ => 0))), (m9, .inl (c9, 48, .inl (fun _ => 0))), (m10, .inl (c10, 3, .inl (fun _ => 0))), (m11, .inl (c11, 3, .inl (fun _ => 0))), (m12, .inl (c12, 3, .inl (fun _ => 0)))] := hD
    subst hr_9
    refine lv_aload_n hx hb dL_law_1021 rfl (lv_at hl 1 rfl) ?_
    refine lv_aload_n hx hb dL_law_1022 rfl (lv_at hl 3 rfl) ?_
    refine lv_iload_n hx hb dL_law_1023 rfl (lv_at hl 0 rfl) ?_
    refine lv_iconst (v := 1) hx hb dL_law_1024 (by decide) ?_
    refine lv_iadd hx hb dL_law_1025 ?_
    refine my_fold (v := 1) (by decide) ?_
    refine va_sld hx hb hX hbl hbA hS (i := 1) (my_in (by decide) (by decide)) dL_law_1026 ?_
    refine my_topv (v := .int (xs 1)) rfl ?_
    refine lv_aload_n hx hb dL_law_1027 rfl (lv_at hl 3 rfl) ?_
    refine lv_iload_n hx hb dL_law_1028 rfl (lv_at hl 0 rfl) ?_
    refine lv_iconst (v := 2) hx hb dL_law_1029 (by decide) ?_
    refine lv_iadd hx hb dL_law_1030 ?_
    refine my_fold (v := 2) (by decide) ?_
    refine va_sld hx hb hX hbl hbA hS (i := 2) (my_in (by decide) (by decide)) dL_law_1031 ?_
    refine my_topv (v := .int (xs 2)) rfl ?_
    refine lv_aload_n hx hb dL_law_1032 rfl (lv_at hl 3 rfl) ?_
    refine lv_iload_n hx hb dL_law_1033 rfl (lv_at hl 0 rfl) ?_
    refine lv_iconst (v := 3) hx hb dL_law_1034 (by decide) ?_
    refine lv_iadd hx hb dL_law_1035 ?_
    refine my_fold (v := 3) (by decide) ?_
    refine va_sld hx hb hX hbl hbA hS (i := 3) (my_in (by decide) (by decide)) dL_law_1036 ?_
    refine my_topv (v := .int (xs 3)) rfl ?_
    refine lv_aload_n hx hb dL_law_1037 rfl (lv_at hl 3 rfl) ?_
    refine lv_iload_n hx hb dL_law_1038 rfl (lv_at hl 0 rfl) ?_
    refine lv_iconst (v := 4) hx hb dL_law_1039 (by decide) ?_
    refine lv_iadd hx hb dL_law_1040 ?_
    refine my_fold (v := 4) (by decide) ?_
    refine va_sld hx hb hX hbl hbA hS (i := 4) (my_in (by decide) (by decide)) dL_law_1041 ?_
    refine my_topv (v := .int (xs 4)) rfl ?_
    refine lv_if_eq (tgt := 1049) hx hb dL_law_1042 (by decide) (fun c_10 => ?_) (fun c_10 => ?_)
    · skip
      exact absurd c_10 c_1
    · skip
      have f_11 : ¬ ((xs 4).toInt = 0) := fn_eq rfl (by decide) c_10
      refine lv_iconst (v := 1) hx hb dL_law_1045 (by decide) ?_
      refine lv_goto (tgt := 1050) hx hb dL_law_1046 (by decide) ?_
      have hPc := hP.sub (ws' := [(hm, .inr (9, [.ref m1, .ref m2, .ref m3, .int (-1), .int 3, .int 255, .int 0, .int 0, .int 0, .int 0, .int 0, .int 65535, .ref m4, .ref m5, .ref m6, .ref m7, .ref m8, .ref m9, .int 0, .ref m10, .ref m11, .ref m12, .ref m13])), (m1, .inl (c1, 4, .inl (fun _ => 0)))]) [11, 12] rfl
      have hDc := hD.sub (ws' := [(hm, .inr (9, [.ref m1, .ref m2, .ref m3, .int (-1), .int 3, .int 255, .int 0, .int 0, .int 0, .int 0, .int 0, .int 65535, .ref m4, .ref m5, .ref m6, .ref m7, .ref m8, .ref m9, .int 0, .ref m10, .ref m11, .ref m12, .ref m13])), (m1, .inl (c1, 4, .inl (fun _ => 0)))]) [11, 12] (by decide) rfl
      have hKc := hK.sub (tys' := [(c1, .int)]) [8] rfl
      have hFc := va_free (wc := [(hm, .inr (9, [.ref m1, .ref m2, .ref m3, .int (-1), .int 3, .int 255, .int 0, .int 0, .int 0, .int 0, .int 0, .int 65535, .ref m4, .ref m5, .ref m6, .ref m7, .ref m8, .ref m9, .int 0, .ref m10, .ref m11, .ref m12, .ref m13])), (m1, .inl (c1, 4, .inl (fun _ => 0)))]) hD hS hA [11, 12] rfl
      refine va_calli (va_runV (As := [.int (xs 1), .int (xs 2), .int (xs 3), .int 1]) (rest := [.int (-1)]) ⟨hx, hb, hml, hown, hts⟩ (k_X9_region l D H.size hm m1 m2 m3 m4 m5 m6 m7 m8 m9 m10 m11 m12 m13 c1 (xs 1) (xs 2) (xs 3) 1) (cwV 4 hts (gV bw_340 bw_341 bw_342 bw_11 bw_339) rfl rfl rfl (by decide +kernel) ⟨Nat.le_of_ble_eq_true rfl, Nat.le_of_ble_eq_true rfl⟩) ⟨cP_blind, va_recv hKc hPc (ci := 9) (q0 := 0) rfl rfl, cP_at hPc hKc hDc hN⟩ rfl rfl hl.1 rfl (lv_room (Nat.le_of_ble_eq_true rfl)) dL_law_1050 ⟨Nat.le_of_ble_eq_true rfl, Nat.le_of_ble_eq_true rfl⟩) hS (fun q _ h => hFc q h) hFc (fun r_12 u9 t9 H1 locs ht hvm hr_12 hB hz1 hk1 hS => ?_)
      try dsimp only at hr_12
      have hP1 : va_P D vwCl [] H1 := vP_nil
      have hD1 : va_D (va_A [(hm, .inr (9, [.ref m1, .ref m2, .ref m3, .int (-1), .int 3, .int 255, .int 0, .int 0, .int 0, .int 0, .int 0, .int 65535, .ref m4, .ref m5, .ref m6, .ref m7, .ref m8, .ref m9, .int 0, .ref m10, .ref m11, .ref m12, .ref m13])), (m1, .inl (c1, 4, .inl (fun _ => 0)))] H.size) [] := vD_nil
      obtain ⟨hP, hD⟩ := va_join (wr := [(s2, .inr (1, [.ref bx, .int (-1), .int 3, .int 255])), (bx, .inr (0, [.int 0, .int 0, .int 63, .int 63])), (s4, .inr (3, [.ref p1, .ref p2, .ref p3, .ref p4, .int 0, .int 0, .int 0])), (p1, .inl (d1, 48, .inl (fun _ => 0))), (p2, .inl (d2, 48, .inl (fun _ => 0))), (p3, .inl (d3, 48, .inl (fun _ => 0))), (p4, .inl (d4, 48, .inl (fun _ => 0))), (s5, .inr (7, [.ref t1, .ref t2, .ref t3, .ref t4])), (t1, .inl (e1, 3, .inl (fun _ => 0))), (t2, .inl (e2, 3, .inl (fun _ => 0))), (t3, .inl (e3, 3, .inl (fun _ => 0))), (m2, .inl (c2, 4, .inl (fun _ => 0))), (m3, .inl (c3, 16384, .inl (fun _ => 0))), (m7, .inl (c7, 48, .inl (fun _ => 0))), (m8, .inl (c8, 48, .inl (fun _ => 0))), (m9, .inl (c9, 48, .inl (fun _ => 0))), (m10, .inl (c10, 3, .inl (fun _ => 0))), (m11, .inl (c11, 3, .inl (fun _ => 0))), (m12, .inl (c12, 3, .inl (fun _ => 0)))]) (w1 := []) hP hD [11, 12] [0, 1, 2, 3, 4, 5, 6, 7, 8, 9, 10, 13, 14, 15, 16, 17, 18, 19, 20] rfl rfl (by decide) (by decide) hk1 hFc hP1 hD1
      clear hz1 hk1 hFc hKc hDc hPc
      generalize H1 = H at hP hS ⊢
      have hP : va_P D vwCl [(s2, .inr (1, [.ref bx, .int (-1), .int 3, .int 255])), (bx, .inr (0, [.int 0, .int 0, .int 63, .int 63])), (s4, .inr (3, [.ref p1, .ref p2, .ref p3, .ref p4, .int 0, .int 0, .int 0])), (p1, .inl (d1, 48, .inl (fun _ => 0))), (p2, .inl (d2, 48, .inl (fun _ => 0))), (p3, .inl (d3, 48, .inl (fun _ => 0))), (p4, .inl (d4, 48, .inl (fun _ => 0))), (s5, .inr (7, [.ref t1, .ref t2, .ref t3, .ref t4])), (t1, .inl (e1, 3, .inl (fun _ => 0))), (t2, .inl (e2, 3, .inl (fun _ => 0))), (t3, .inl (e3, 3, .inl (fun _ => 0))), (m2, .inl (c2, 4, .inl (fun _ => 0))), (m3, .inl (c3, 16384, .inl (fun _ => 0))), (m7, .inl (c7, 48, .inl (fun _ => 0))), (m8, .inl (c8, 48, .inl (fun _ => 0))), (m9, .inl (c9, 48, .inl (fun _ => 0))), (m10, .inl (c10, 3, .inl (fun _ => 0))), (m11, .inl (c11, 3, .inl (fun _ => 0))), (m12, .inl (c12, 3, .inl (fun _ => 0)))] H := hP
      have hD : va_D (fun q : Nat => s.heap.size ≤ q) [(s2, .inr (1, [.ref bx, .int (-1), .int 3, .int 255])), (bx, .inr (0, [.int 0, .int 0, .int 63, .int 63])), (s4, .inr (3, [.ref p1, .ref p2, .ref p3, .ref p4, .int 0, .int 0, .int 0])), (p1, .inl (d1, 48, .inl (fun _ => 0))), (p2, .inl (d2, 48, .inl (fun _ => 0))), (p3, .inl (d3, 48, .inl (fun _ => 0))), (p4, .inl (d4, 48, .inl (fun _ => 0))), (s5, .inr (7, [.ref t1, .ref t2, .ref t3, .ref t4])), (t1, .inl (e1, 3, .inl (fun _ => 0))), (t2, .inl (e2, 3, .inl (fun _ => 0))), (t3, .inl (e3, 3, .inl (fun _ => 0))), (m2, .inl (c2, 4, .inl (fun _ => 0))), (m3, .inl (c3, 16384, .inl (fun _ => 0))), (m7, .inl (c7, 48, .inl (fun _ => 0))), (m8, .inl (c8, 48, .inl (fun _ => 0))), (m9, .inl (c9, 48, .inl (fun _ => 0))), (m10, .inl (c10, 3, .inl (fun _ => 0))), (m11, .inl (c11, 3, .inl (fun _ => 0))), (m12, .inl (c12, 3, .inl (fun _ => 0)))] := hD
      subst hr_12
      refine lv_icmp_eq (tgt := 1167) hx hb dL_law_1053 (by decide) (fun c_13 => ?_) (fun c_13 => ?_)
      · skip
        exact law_tail C0 (by omega) (by omega) hS (lv_sub hl [0, 3] rfl)
      · skip
        exact absurd c_13 (by decide)

set_option maxHeartbeats 4000000 in
set_option maxRecDepth 100000 in
theorem law_c18 {p : Program} {l : Launch} {e : Env} {s : State} {m : MethodId} {below : List Frame} {meth : Method} {c : Code} {b : Nat} {xs : Nat → Int32} (C0 : lw_At p s m meth c b 11 xs) (hN : nW s) {D : va_G} {h0 s1 s2 s3 s4 s5 s6 bx p1 p2 p3 p4 t1 t2 t3 t4 hm m1 m2 m3 m4 m5 m6 m7 m8 m9 m10 m11 m12 m13 : Nat} {ca d1 d2 d3 d4 e1 e2 e3 c1 c2 c3 c7 c8 c9 c10 c11 c12 : ClassId} {H : Heap} {locs : List Loc} (hK : va_K D vwCl [(ca, .object "DotBench$Sheet"), (d1, .int), (d2, .int), (d3, .int), (d4, .int), (e1, .int), (e2, .int), (e3, .int), (c1, .int), (c2, .int), (c3, .int), (c7, .int), (c8, .int), (c9, .boolean), (c10, .int), (c11, .int), (c12, .int)] s) (hP : va_P D vwCl [(h0, .inr (8, [.ref s1, .ref s2, .ref s3, .ref s4, .ref s5, .ref s6, .int 65535, .null, .null])), (s1, .inl (ca, 4, .inr (.inr (.inr (.inr (fun _ => none)))))), (s2, .inr (1, [.ref bx, .int (-1), .int 3, .int 255])), (bx, .inr (0, [.int 0, .int 0, .int 63, .int 63])), (s4, .inr (3, [.ref p1, .ref p2, .ref p3, .ref p4, .int 0, .int 0, .int 0])), (p1, .inl (d1, 48, .inl (fun _ => 0))), (p2, .inl (d2, 48, .inl (fun _ => 0))), (p3, .inl (d3, 48, .inl (fun _ => 0))), (p4, .inl (d4, 48, .inl (fun _ => 0))), (s5, .inr (7, [.ref t1, .ref t2, .ref t3, .ref t4])), (t1, .inl (e1, 3, .inl (fun _ => 0))), (t2, .inl (e2, 3, .inl (fun _ => 0))), (t3, .inl (e3, 3, .inl (fun _ => 0))), (hm, .inr (9, [.ref m1, .ref m2, .ref m3, .int (-1), .int 3, .int 255, .int 0, .int 0, .int 0, .int 0, .int 0, .int 65535, .ref m4, .ref m5, .ref m6, .ref m7, .ref m8, .ref m9, .int 0, .ref m10, .ref m11, .ref m12, .ref m13])), (m1, .inl (c1, 4, .inl (fun _ => 0))), (m2, .inl (c2, 4, .inl (fun _ => 0))), (m3, .inl (c3, 16384, .inl (fun _ => 0))), (m7, .inl (c7, 48, .inl (fun _ => 0))), (m8, .inl (c8, 48, .inl (fun _ => 0))), (m9, .inl (c9, 48, .inl (fun _ => 0))), (m10, .inl (c10, 3, .inl (fun _ => 0))), (m11, .inl (c11, 3, .inl (fun _ => 0))), (m12, .inl (c12, 3, .inl (fun _ => 0)))] H) (hD : va_D (fun q : Nat => s.heap.size ≤ q) [(h0, .inr (8, [.ref s1, .ref s2, .ref s3, .ref s4, .ref s5, .ref s6, .int 65535, .null, .null])), (s1, .inl (ca, 4, .inr (.inr (.inr (.inr (fun _ => none)))))), (s2, .inr (1, [.ref bx, .int (-1), .int 3, .int 255])), (bx, .inr (0, [.int 0, .int 0, .int 63, .int 63])), (s4, .inr (3, [.ref p1, .ref p2, .ref p3, .ref p4, .int 0, .int 0, .int 0])), (p1, .inl (d1, 48, .inl (fun _ => 0))), (p2, .inl (d2, 48, .inl (fun _ => 0))), (p3, .inl (d3, 48, .inl (fun _ => 0))), (p4, .inl (d4, 48, .inl (fun _ => 0))), (s5, .inr (7, [.ref t1, .ref t2, .ref t3, .ref t4])), (t1, .inl (e1, 3, .inl (fun _ => 0))), (t2, .inl (e2, 3, .inl (fun _ => 0))), (t3, .inl (e3, 3, .inl (fun _ => 0))), (hm, .inr (9, [.ref m1, .ref m2, .ref m3, .int (-1), .int 3, .int 255, .int 0, .int 0, .int 0, .int 0, .int 0, .int 65535, .ref m4, .ref m5, .ref m6, .ref m7, .ref m8, .ref m9, .int 0, .ref m10, .ref m11, .ref m12, .ref m13])), (m1, .inl (c1, 4, .inl (fun _ => 0))), (m2, .inl (c2, 4, .inl (fun _ => 0))), (m3, .inl (c3, 16384, .inl (fun _ => 0))), (m7, .inl (c7, 48, .inl (fun _ => 0))), (m8, .inl (c8, 48, .inl (fun _ => 0))), (m9, .inl (c9, 48, .inl (fun _ => 0))), (m10, .inl (c10, 3, .inl (fun _ => 0))), (m11, .inl (c11, 3, .inl (fun _ => 0))), (m12, .inl (c12, 3, .inl (fun _ => 0)))]) (hS : va_S (fun q : Nat => s.heap.size ≤ q) s.heap H locs) {ls : Array Slot} (hl : lv_has ls 4 [(3, .int 0), (2, .ref hm), (1, .ref h0), (0, .ref b)]) : W p l e room_1 s m #[Value.ref b] below meth c H locs 36 33710 (lw_Z below #[Value.ref b] s) (F0 m 1058 ls []) := by
  obtain ⟨hx, hb, hr, hml, hown, hts0, hX, hbl, hlocks, hgv⟩ := id C0
  have hts : ∀ w ∈ bigW, w.before #[Value.ref b] s = true := fun w h => hts0 w (bigW_in w h).1
  have hown : s.vm.findClass RL = some m.cls := hown
  have hA : ∀ q : Nat, s.heap.size ≤ q → (fun q : Nat => s.heap.size ≤ q) q := fun _ h => h
  have hbA : ¬ (fun q : Nat => s.heap.size ≤ q) b := Nat.not_le.mpr hbl
  refine lv_aload_n hx hb dL_law_1058 rfl (lv_at hl 2 rfl) ?_
  refine lv_aload_n hx hb dL_law_1059 rfl (lv_at hl 3 rfl) ?_
  refine lv_iload_n hx hb dL_law_1060 rfl (lv_at hl 0 rfl) ?_
  refine lv_iconst (v := 1) hx hb dL_law_1061 (by decide) ?_
  refine lv_iadd hx hb dL_law_1062 ?_
  refine my_fold (v := 1) (by decide) ?_
  refine va_sld hx hb hX hbl hbA hS (i := 1) (my_in (by decide) (by decide)) dL_law_1063 ?_
  refine my_topv (v := .int (xs 1)) rfl ?_
  refine lv_aload_n hx hb dL_law_1064 rfl (lv_at hl 3 rfl) ?_
  refine lv_iload_n hx hb dL_law_1065 rfl (lv_at hl 0 rfl) ?_
  refine lv_iconst (v := 2) hx hb dL_law_1066 (by decide) ?_
  refine lv_iadd hx hb dL_law_1067 ?_
  refine my_fold (v := 2) (by decide) ?_
  refine va_sld hx hb hX hbl hbA hS (i := 2) (my_in (by decide) (by decide)) dL_law_1068 ?_
  refine my_topv (v := .int (xs 2)) rfl ?_
  have hPc := hP.sub (ws' := [(h0, .inr (8, [.ref s1, .ref s2, .ref s3, .ref s4, .ref s5, .ref s6, .int 65535, .null, .null])), (s1, .inl (ca, 4, .inr (.inr (.inr (.inr (fun _ => none))))))]) [0, 1] rfl
  have hDc := hD.sub (ws' := [(h0, .inr (8, [.ref s1, .ref s2, .ref s3, .ref s4, .ref s5, .ref s6, .int 65535, .null, .null])), (s1, .inl (ca, 4, .inr (.inr (.inr (.inr (fun _ => none))))))]) [0, 1] (by decide) rfl
  have hKc := hK.sub (tys' := [(ca, .object "DotBench$Sheet")]) [0] rfl
  have hFc := va_free (wc := [(h0, .inr (8, [.ref s1, .ref s2, .ref s3, .ref s4, .ref s5, .ref s6, .int 65535, .null, .null])), (s1, .inl (ca, 4, .inr (.inr (.inr (.inr (fun _ => none))))))]) hD hS hA [0, 1] rfl
  refine va_calli (va_runV (As := [.int (xs 1), .int (xs 2)]) (rest := []) ⟨hx, hb, hml, hown, hts⟩ (k_X8_differ l D H.size h0 s1 s2 s3 s4 s5 s6 ca (xs 1) (xs 2)) (cwV 2 hts (gV bw_344 bw_345 bw_346 bw_1 bw_343) rfl rfl rfl (by decide +kernel) ⟨Nat.le_of_ble_eq_true rfl, Nat.le_of_ble_eq_true rfl⟩) ⟨cP_blind, va_recv hKc hPc (ci := 8) (q0 := 0) rfl rfl, cP_at hPc hKc hDc hN⟩ rfl rfl hl.1 rfl (lv_room (Nat.le_of_ble_eq_true rfl)) dL_law_1069 ⟨Nat.le_of_ble_eq_true rfl, Nat.le_of_ble_eq_true rfl⟩) hS (fun q _ h => hFc q h) hFc (fun r_1 u9 t9 H1 locs ht hvm hr_1 hB hz1 hk1 hS => ?_)
  try dsimp only at hr_1
  have hP1 : va_P D vwCl [] H1 := vP_nil
  have hD1 : va_D (va_A [(h0, .inr (8, [.ref s1, .ref s2, .ref s3, .ref s4, .ref s5, .ref s6, .int 65535, .null, .null])), (s1, .inl (ca, 4, .inr (.inr (.inr (.inr (fun _ => none))))))] H.size) [] := vD_nil
  obtain ⟨hP, hD⟩ := va_join (wr := [(s2, .inr (1, [.ref bx, .int (-1), .int 3, .int 255])), (bx, .inr (0, [.int 0, .int 0, .int 63, .int 63])), (s4, .inr (3, [.ref p1, .ref p2, .ref p3, .ref p4, .int 0, .int 0, .int 0])), (p1, .inl (d1, 48, .inl (fun _ => 0))), (p2, .inl (d2, 48, .inl (fun _ => 0))), (p3, .inl (d3, 48, .inl (fun _ => 0))), (p4, .inl (d4, 48, .inl (fun _ => 0))), (s5, .inr (7, [.ref t1, .ref t2, .ref t3, .ref t4])), (t1, .inl (e1, 3, .inl (fun _ => 0))), (t2, .inl (e2, 3, .inl (fun _ => 0))), (t3, .inl (e3, 3, .inl (fun _ => 0))), (hm, .inr (9, [.ref m1, .ref m2, .ref m3, .int (-1), .int 3, .int 255, .int 0, .int 0, .int 0, .int 0, .int 0, .int 65535, .ref m4, .ref m5, .ref m6, .ref m7, .ref m8, .ref m9, .int 0, .ref m10, .ref m11, .ref m12, .ref m13])), (m1, .inl (c1, 4, .inl (fun _ => 0))), (m2, .inl (c2, 4, .inl (fun _ => 0))), (m3, .inl (c3, 16384, .inl (fun _ => 0))), (m7, .inl (c7, 48, .inl (fun _ => 0))), (m8, .inl (c8, 48, .inl (fun _ => 0))), (m9, .inl (c9, 48, .inl (fun _ => 0))), (m10, .inl (c10, 3, .inl (fun _ => 0))), (m11, .inl (c11, 3, .inl (fun _ => 0))), (m12, .inl (c12, 3, .inl (fun _ => 0)))]) (w1 := []) hP hD [0, 1] [2, 3, 4, 5, 6, 7, 8, 9, 10, 11, 12, 13, 14, 15, 16, 17, 18, 19, 20, 21, 22] rfl rfl (by decide) (by decide) hk1 hFc hP1 hD1
  clear hz1 hk1 hFc hKc hDc hPc
  generalize H1 = H at hP hS ⊢
  have hP : va_P D vwCl [(s2, .inr (1, [.ref bx, .int (-1), .int 3, .int 255])), (bx, .inr (0, [.int 0, .int 0, .int 63, .int 63])), (s4, .inr (3, [.ref p1, .ref p2, .ref p3, .ref p4, .int 0, .int 0, .int 0])), (p1, .inl (d1, 48, .inl (fun _ => 0))), (p2, .inl (d2, 48, .inl (fun _ => 0))), (p3, .inl (d3, 48, .inl (fun _ => 0))), (p4, .inl (d4, 48, .inl (fun _ => 0))), (s5, .inr (7, [.ref t1, .ref t2, .ref t3, .ref t4])), (t1, .inl (e1, 3, .inl (fun _ => 0))), (t2, .inl (e2, 3, .inl (fun _ => 0))), (t3, .inl (e3, 3, .inl (fun _ => 0))), (hm, .inr (9, [.ref m1, .ref m2, .ref m3, .int (-1), .int 3, .int 255, .int 0, .int 0, .int 0, .int 0, .int 0, .int 65535, .ref m4, .ref m5, .ref m6, .ref m7, .ref m8, .ref m9, .int 0, .ref m10, .ref m11, .ref m12, .ref m13])), (m1, .inl (c1, 4, .inl (fun _ => 0))), (m2, .inl (c2, 4, .inl (fun _ => 0))), (m3, .inl (c3, 16384, .inl (fun _ => 0))), (m7, .inl (c7, 48, .inl (fun _ => 0))), (m8, .inl (c8, 48, .inl (fun _ => 0))), (m9, .inl (c9, 48, .inl (fun _ => 0))), (m10, .inl (c10, 3, .inl (fun _ => 0))), (m11, .inl (c11, 3, .inl (fun _ => 0))), (m12, .inl (c12, 3, .inl (fun _ => 0)))] H := hP
  have hD : va_D (fun q : Nat => s.heap.size ≤ q) [(s2, .inr (1, [.ref bx, .int (-1), .int 3, .int 255])), (bx, .inr (0, [.int 0, .int 0, .int 63, .int 63])), (s4, .inr (3, [.ref p1, .ref p2, .ref p3, .ref p4, .int 0, .int 0, .int 0])), (p1, .inl (d1, 48, .inl (fun _ => 0))), (p2, .inl (d2, 48, .inl (fun _ => 0))), (p3, .inl (d3, 48, .inl (fun _ => 0))), (p4, .inl (d4, 48, .inl (fun _ => 0))), (s5, .inr (7, [.ref t1, .ref t2, .ref t3, .ref t4])), (t1, .inl (e1, 3, .inl (fun _ => 0))), (t2, .inl (e2, 3, .inl (fun _ => 0))), (t3, .inl (e3, 3, .inl (fun _ => 0))), (hm, .inr (9, [.ref m1, .ref m2, .ref m3, .int (-1), .int 3, .int 255, .int 0, .int 0, .int 0, .int 0, .int 0, .int 65535, .ref m4, .ref m5, .ref m6, .ref m7, .ref m8, .ref m9, .int 0, .ref m10, .ref m11, .ref m12, .ref m13])), (m1, .inl (c1, 4, .inl (fun _ => 0))), (m2, .inl (c2, 4, .inl (fun _ => 0))), (m3, .inl (c3, 16384, .inl (fun _ => 0))), (m7, .inl (c7, 48, .inl (fun _ => 0))), (m8, .inl (c8, 48, .inl (fun _ => 0))), (m9, .inl (c9, 48, .inl (fun _ => 0))), (m10, .inl (c10, 3, .inl (fun _ => 0))), (m11, .inl (c11, 3, .inl (fun _ => 0))), (m12, .inl (c12, 3, .inl (fun _ => 0)))] := hD
  subst hr_1
  refine lv_aload_n hx hb dL_law_1072 rfl (lv_at hl 1 rfl) ?_
  refine lv_aload_n hx hb dL_law_1073 rfl (lv_at hl 3 rfl) ?_
  refine lv_iload_n hx hb dL_law_1074 rfl (lv_at hl 0 rfl) ?_
  refine lv_iconst (v := 1) hx hb dL_law_1075 (by decide) ?_
  refine lv_iadd hx hb dL_law_1076 ?_
  refine my_fold (v := 1) (by decide) ?_
  refine va_sld hx hb hX hbl hbA hS (i := 1) (my_in (by decide) (by decide)) dL_law_1077 ?_
  refine my_topv (v := .int (xs 1)) rfl ?_
  refine lv_aload_n hx hb dL_law_1078 rfl (lv_at hl 3 rfl) ?_
  refine lv_iload_n hx hb dL_law_1079 rfl (lv_at hl 0 rfl) ?_
  refine lv_iconst (v := 2) hx hb dL_law_1080 (by decide) ?_
  refine lv_iadd hx hb dL_law_1081 ?_
  refine my_fold (v := 2) (by decide) ?_
  refine va_sld hx hb hX hbl hbA hS (i := 2) (my_in (by decide) (by decide)) dL_law_1082 ?_
  refine my_topv (v := .int (xs 2)) rfl ?_
  have hPc := hP.sub (ws' := [(hm, .inr (9, [.ref m1, .ref m2, .ref m3, .int (-1), .int 3, .int 255, .int 0, .int 0, .int 0, .int 0, .int 0, .int 65535, .ref m4, .ref m5, .ref m6, .ref m7, .ref m8, .ref m9, .int 0, .ref m10, .ref m11, .ref m12, .ref m13])), (m1, .inl (c1, 4, .inl (fun _ => 0)))]) [11, 12] rfl
  have hDc := hD.sub (ws' := [(hm, .inr (9, [.ref m1, .ref m2, .ref m3, .int (-1), .int 3, .int 255, .int 0, .int 0, .int 0, .int 0, .int 0, .int 65535, .ref m4, .ref m5, .ref m6, .ref m7, .ref m8, .ref m9, .int 0, .ref m10, .ref m11, .ref m12, .ref m13])), (m1, .inl (c1, 4, .inl (fun _ => 0)))]) [11, 12] (by decide) rfl
  have hKc := hK.sub (tys' := [(c1, .int)]) [8] rfl
  have hFc := va_free (wc := [(hm, .inr (9, [.ref m1, .ref m2, .ref m3, .int (-1), .int 3, .int 255, .int 0, .int 0, .int 0, .int 0, .int 0, .int 65535, .ref m4, .ref m5, .ref m6, .ref m7, .ref m8, .ref m9, .int 0, .ref m10, .ref m11, .ref m12, .ref m13])), (m1, .inl (c1, 4, .inl (fun _ => 0)))]) hD hS hA [11, 12] rfl
  refine va_calli (va_runV (As := [.int (xs 1), .int (xs 2)]) (rest := [.int (-1)]) ⟨hx, hb, hml, hown, hts⟩ (k_X9_differ l D H.size hm m1 m2 m3 m4 m5 m6 m7 m8 m9 m10 m11 m12 m13 c1 (xs 1) (xs 2)) (cwV 2 hts (gV bw_348 bw_349 bw_350 bw_11 bw_347) rfl rfl rfl (by decide +kernel) ⟨Nat.le_of_ble_eq_true rfl, Nat.le_of_ble_eq_true rfl⟩) ⟨cP_blind, va_recv hKc hPc (ci := 9) (q0 := 0) rfl rfl, cP_at hPc hKc hDc hN⟩ rfl rfl hl.1 rfl (lv_room (Nat.le_of_ble_eq_true rfl)) dL_law_1083 ⟨Nat.le_of_ble_eq_true rfl, Nat.le_of_ble_eq_true rfl⟩) hS (fun q _ h => hFc q h) hFc (fun r_2 u9 t9 H1 locs ht hvm hr_2 hB hz1 hk1 hS => ?_)
  try dsimp only at hr_2
  have hP1 : va_P D vwCl [] H1 := vP_nil
  have hD1 : va_D (va_A [(hm, .inr (9, [.ref m1, .ref m2, .ref m3, .int (-1), .int 3, .int 255, .int 0, .int 0, .int 0, .int 0, .int 0, .int 65535, .ref m4, .ref m5, .ref m6, .ref m7, .ref m8, .ref m9, .int 0, .ref m10, .ref m11, .ref m12, .ref m13])), (m1, .inl (c1, 4, .inl (fun _ => 0)))] H.size) [] := vD_nil
  obtain ⟨hP, hD⟩ := va_join (wr := [(s2, .inr (1, [.ref bx, .int (-1), .int 3, .int 255])), (bx, .inr (0, [.int 0, .int 0, .int 63, .int 63])), (s4, .inr (3, [.ref p1, .ref p2, .ref p3, .ref p4, .int 0, .int 0, .int 0])), (p1, .inl (d1, 48, .inl (fun _ => 0))), (p2, .inl (d2, 48, .inl (fun _ => 0))), (p3, .inl (d3, 48, .inl (fun _ => 0))), (p4, .inl (d4, 48, .inl (fun _ => 0))), (s5, .inr (7, [.ref t1, .ref t2, .ref t3, .ref t4])), (t1, .inl (e1, 3, .inl (fun _ => 0))), (t2, .inl (e2, 3, .inl (fun _ => 0))), (t3, .inl (e3, 3, .inl (fun _ => 0))), (m2, .inl (c2, 4, .inl (fun _ => 0))), (m3, .inl (c3, 16384, .inl (fun _ => 0))), (m7, .inl (c7, 48, .inl (fun _ => 0))), (m8, .inl (c8, 48, .inl (fun _ => 0))), (m9, .inl (c9, 48, .inl (fun _ => 0))), (m10, .inl (c10, 3, .inl (fun _ => 0))), (m11, .inl (c11, 3, .inl (fun _ => 0))), (m12, .inl (c12, 3, .inl (fun _ => 0)))]) (w1 := []) hP hD [11, 12] [0, 1, 2, 3, 4, 5, 6, 7, 8, 9, 10, 13, 14, 15, 16, 17, 18, 19, 20] rfl rfl (by decide) (by decide) hk1 hFc hP1 hD1
  clear hz1 hk1 hFc hKc hDc hPc
  generalize H1 = H at hP hS ⊢
  have hP : va_P D vwCl [(s2, .inr (1, [.ref bx, .int (-1), .int 3, .int 255])), (bx, .inr (0, [.int 0, .int 0, .int 63, .int 63])), (s4, .inr (3, [.ref p1, .ref p2, .ref p3, .ref p4, .int 0, .int 0, .int 0])), (p1, .inl (d1, 48, .inl (fun _ => 0))), (p2, .inl (d2, 48, .inl (fun _ => 0))), (p3, .inl (d3, 48, .inl (fun _ => 0))), (p4, .inl (d4, 48, .inl (fun _ => 0))), (s5, .inr (7, [.ref t1, .ref t2, .ref t3, .ref t4])), (t1, .inl (e1, 3, .inl (fun _ => 0))), (t2, .inl (e2, 3, .inl (fun _ => 0))), (t3, .inl (e3, 3, .inl (fun _ => 0))), (m2, .inl (c2, 4, .inl (fun _ => 0))), (m3, .inl (c3, 16384, .inl (fun _ => 0))), (m7, .inl (c7, 48, .inl (fun _ => 0))), (m8, .inl (c8, 48, .inl (fun _ => 0))), (m9, .inl (c9, 48, .inl (fun _ => 0))), (m10, .inl (c10, 3, .inl (fun _ => 0))), (m11, .inl (c11, 3, .inl (fun _ => 0))), (m12, .inl (c12, 3, .inl (fun _ => 0)))] H := hP
  have hD : va_D (fun q : Nat => s.heap.size ≤ q) [(s2, .inr (1, [.ref bx, .int (-1), .int 3, .int 255])), (bx, .inr (0, [.int 0, .int 0, .int 63, .int 63])), (s4, .inr (3, [.ref p1, .ref p2, .ref p3, .ref p4, .int 0, .int 0, .int 0])), (p1, .inl (d1, 48, .inl (fun _ => 0))), (p2, .inl (d2, 48, .inl (fun _ => 0))), (p3, .inl (d3, 48, .inl (fun _ => 0))), (p4, .inl (d4, 48, .inl (fun _ => 0))), (s5, .inr (7, [.ref t1, .ref t2, .ref t3, .ref t4])), (t1, .inl (e1, 3, .inl (fun _ => 0))), (t2, .inl (e2, 3, .inl (fun _ => 0))), (t3, .inl (e3, 3, .inl (fun _ => 0))), (m2, .inl (c2, 4, .inl (fun _ => 0))), (m3, .inl (c3, 16384, .inl (fun _ => 0))), (m7, .inl (c7, 48, .inl (fun _ => 0))), (m8, .inl (c8, 48, .inl (fun _ => 0))), (m9, .inl (c9, 48, .inl (fun _ => 0))), (m10, .inl (c10, 3, .inl (fun _ => 0))), (m11, .inl (c11, 3, .inl (fun _ => 0))), (m12, .inl (c12, 3, .inl (fun _ => 0)))] := hD
  subst hr_2
  refine lv_icmp_eq (tgt := 1167) hx hb dL_law_1086 (by decide) (fun c_3 => ?_) (fun c_3 => ?_)
  · skip
    exact law_tail C0 (by omega) (by omega) hS (lv_sub hl [0, 3] rfl)
  · skip
    exact absurd c_3 (by decide)

set_option maxHeartbeats 4000000 in
set_option maxRecDepth 100000 in
theorem law_c19 {p : Program} {l : Launch} {e : Env} {s : State} {m : MethodId} {below : List Frame} {meth : Method} {c : Code} {b : Nat} {xs : Nat → Int32} (C0 : lw_At p s m meth c b 11 xs) (hN : nW s) {D : va_G} {h0 s1 s2 s3 s4 s5 s6 bx p1 p2 p3 p4 t1 t2 t3 t4 hm m1 m2 m3 m4 m5 m6 m7 m8 m9 m10 m11 m12 m13 : Nat} {ca d1 d2 d3 d4 e1 e2 e3 c1 c2 c3 c7 c8 c9 c10 c11 c12 : ClassId} {H : Heap} {locs : List Loc} (hK : va_K D vwCl [(ca, .object "DotBench$Sheet"), (d1, .int), (d2, .int), (d3, .int), (d4, .int), (e1, .int), (e2, .int), (e3, .int), (c1, .int), (c2, .int), (c3, .int), (c7, .int), (c8, .int), (c9, .boolean), (c10, .int), (c11, .int), (c12, .int)] s) (hP : va_P D vwCl [(h0, .inr (8, [.ref s1, .ref s2, .ref s3, .ref s4, .ref s5, .ref s6, .int 65535, .null, .null])), (s1, .inl (ca, 4, .inr (.inr (.inr (.inr (fun _ => none)))))), (s2, .inr (1, [.ref bx, .int (-1), .int 3, .int 255])), (bx, .inr (0, [.int 0, .int 0, .int 63, .int 63])), (s4, .inr (3, [.ref p1, .ref p2, .ref p3, .ref p4, .int 0, .int 0, .int 0])), (p1, .inl (d1, 48, .inl (fun _ => 0))), (p2, .inl (d2, 48, .inl (fun _ => 0))), (p3, .inl (d3, 48, .inl (fun _ => 0))), (p4, .inl (d4, 48, .inl (fun _ => 0))), (s5, .inr (7, [.ref t1, .ref t2, .ref t3, .ref t4])), (t1, .inl (e1, 3, .inl (fun _ => 0))), (t2, .inl (e2, 3, .inl (fun _ => 0))), (t3, .inl (e3, 3, .inl (fun _ => 0))), (hm, .inr (9, [.ref m1, .ref m2, .ref m3, .int (-1), .int 3, .int 255, .int 0, .int 0, .int 0, .int 0, .int 0, .int 65535, .ref m4, .ref m5, .ref m6, .ref m7, .ref m8, .ref m9, .int 0, .ref m10, .ref m11, .ref m12, .ref m13])), (m1, .inl (c1, 4, .inl (fun _ => 0))), (m2, .inl (c2, 4, .inl (fun _ => 0))), (m3, .inl (c3, 16384, .inl (fun _ => 0))), (m7, .inl (c7, 48, .inl (fun _ => 0))), (m8, .inl (c8, 48, .inl (fun _ => 0))), (m9, .inl (c9, 48, .inl (fun _ => 0))), (m10, .inl (c10, 3, .inl (fun _ => 0))), (m11, .inl (c11, 3, .inl (fun _ => 0))), (m12, .inl (c12, 3, .inl (fun _ => 0)))] H) (hD : va_D (fun q : Nat => s.heap.size ≤ q) [(h0, .inr (8, [.ref s1, .ref s2, .ref s3, .ref s4, .ref s5, .ref s6, .int 65535, .null, .null])), (s1, .inl (ca, 4, .inr (.inr (.inr (.inr (fun _ => none)))))), (s2, .inr (1, [.ref bx, .int (-1), .int 3, .int 255])), (bx, .inr (0, [.int 0, .int 0, .int 63, .int 63])), (s4, .inr (3, [.ref p1, .ref p2, .ref p3, .ref p4, .int 0, .int 0, .int 0])), (p1, .inl (d1, 48, .inl (fun _ => 0))), (p2, .inl (d2, 48, .inl (fun _ => 0))), (p3, .inl (d3, 48, .inl (fun _ => 0))), (p4, .inl (d4, 48, .inl (fun _ => 0))), (s5, .inr (7, [.ref t1, .ref t2, .ref t3, .ref t4])), (t1, .inl (e1, 3, .inl (fun _ => 0))), (t2, .inl (e2, 3, .inl (fun _ => 0))), (t3, .inl (e3, 3, .inl (fun _ => 0))), (hm, .inr (9, [.ref m1, .ref m2, .ref m3, .int (-1), .int 3, .int 255, .int 0, .int 0, .int 0, .int 0, .int 0, .int 65535, .ref m4, .ref m5, .ref m6, .ref m7, .ref m8, .ref m9, .int 0, .ref m10, .ref m11, .ref m12, .ref m13])), (m1, .inl (c1, 4, .inl (fun _ => 0))), (m2, .inl (c2, 4, .inl (fun _ => 0))), (m3, .inl (c3, 16384, .inl (fun _ => 0))), (m7, .inl (c7, 48, .inl (fun _ => 0))), (m8, .inl (c8, 48, .inl (fun _ => 0))), (m9, .inl (c9, 48, .inl (fun _ => 0))), (m10, .inl (c10, 3, .inl (fun _ => 0))), (m11, .inl (c11, 3, .inl (fun _ => 0))), (m12, .inl (c12, 3, .inl (fun _ => 0)))]) (hS : va_S (fun q : Nat => s.heap.size ≤ q) s.heap H locs) {ls : Array Slot} (hl : lv_has ls 4 [(3, .int 0), (2, .ref hm), (1, .ref h0), (0, .ref b)]) : W p l e room_1 s m #[Value.ref b] below meth c H locs 36 33710 (lw_Z below #[Value.ref b] s) (F0 m 1091 ls []) := by
  obtain ⟨hx, hb, hr, hml, hown, hts0, hX, hbl, hlocks, hgv⟩ := id C0
  have hts : ∀ w ∈ bigW, w.before #[Value.ref b] s = true := fun w h => hts0 w (bigW_in w h).1
  have hown : s.vm.findClass RL = some m.cls := hown
  have hA : ∀ q : Nat, s.heap.size ≤ q → (fun q : Nat => s.heap.size ≤ q) q := fun _ h => h
  have hbA : ¬ (fun q : Nat => s.heap.size ≤ q) b := Nat.not_le.mpr hbl
  refine lv_aload_n hx hb dL_law_1091 rfl (lv_at hl 2 rfl) ?_
  refine lv_aload_n hx hb dL_law_1092 rfl (lv_at hl 3 rfl) ?_
  refine lv_iload_n hx hb dL_law_1093 rfl (lv_at hl 0 rfl) ?_
  refine lv_iconst (v := 1) hx hb dL_law_1094 (by decide) ?_
  refine lv_iadd hx hb dL_law_1095 ?_
  refine my_fold (v := 1) (by decide) ?_
  refine va_sld hx hb hX hbl hbA hS (i := 1) (my_in (by decide) (by decide)) dL_law_1096 ?_
  refine my_topv (v := .int (xs 1)) rfl ?_
  refine lv_aload_n hx hb dL_law_1097 rfl (lv_at hl 3 rfl) ?_
  refine lv_iload_n hx hb dL_law_1098 rfl (lv_at hl 0 rfl) ?_
  refine lv_iconst (v := 2) hx hb dL_law_1099 (by decide) ?_
  refine lv_iadd hx hb dL_law_1100 ?_
  refine my_fold (v := 2) (by decide) ?_
  refine va_sld hx hb hX hbl hbA hS (i := 2) (my_in (by decide) (by decide)) dL_law_1101 ?_
  refine my_topv (v := .int (xs 2)) rfl ?_
  have hPc := hP.sub (ws' := [(h0, .inr (8, [.ref s1, .ref s2, .ref s3, .ref s4, .ref s5, .ref s6, .int 65535, .null, .null])), (s1, .inl (ca, 4, .inr (.inr (.inr (.inr (fun _ => none))))))]) [0, 1] rfl
  have hDc := hD.sub (ws' := [(h0, .inr (8, [.ref s1, .ref s2, .ref s3, .ref s4, .ref s5, .ref s6, .int 65535, .null, .null])), (s1, .inl (ca, 4, .inr (.inr (.inr (.inr (fun _ => none))))))]) [0, 1] (by decide) rfl
  have hKc := hK.sub (tys' := [(ca, .object "DotBench$Sheet")]) [0] rfl
  have hFc := va_free (wc := [(h0, .inr (8, [.ref s1, .ref s2, .ref s3, .ref s4, .ref s5, .ref s6, .int 65535, .null, .null])), (s1, .inl (ca, 4, .inr (.inr (.inr (.inr (fun _ => none))))))]) hD hS hA [0, 1] rfl
  refine va_calli (va_runV (As := [.int (xs 1), .int (xs 2)]) (rest := []) ⟨hx, hb, hml, hown, hts⟩ (k_X8_look l D H.size h0 s1 s2 s3 s4 s5 s6 ca (xs 1) (xs 2)) (cwV 2 hts (gV bw_352 bw_353 bw_354 bw_1 bw_351) rfl rfl rfl (by decide +kernel) ⟨Nat.le_of_ble_eq_true rfl, Nat.le_of_ble_eq_true rfl⟩) ⟨cP_blind, va_recv hKc hPc (ci := 8) (q0 := 0) rfl rfl, cP_at hPc hKc hDc hN⟩ rfl rfl hl.1 rfl (lv_room (Nat.le_of_ble_eq_true rfl)) dL_law_1102 ⟨Nat.le_of_ble_eq_true rfl, Nat.le_of_ble_eq_true rfl⟩) hS (fun q _ h => hFc q h) hFc (fun r_1 u9 t9 H1 locs ht hvm hr_1 hB hz1 hk1 hS => ?_)
  try dsimp only at hr_1
  have hP1 : va_P D vwCl [] H1 := vP_nil
  have hD1 : va_D (va_A [(h0, .inr (8, [.ref s1, .ref s2, .ref s3, .ref s4, .ref s5, .ref s6, .int 65535, .null, .null])), (s1, .inl (ca, 4, .inr (.inr (.inr (.inr (fun _ => none))))))] H.size) [] := vD_nil
  obtain ⟨hP, hD⟩ := va_join (wr := [(s2, .inr (1, [.ref bx, .int (-1), .int 3, .int 255])), (bx, .inr (0, [.int 0, .int 0, .int 63, .int 63])), (s4, .inr (3, [.ref p1, .ref p2, .ref p3, .ref p4, .int 0, .int 0, .int 0])), (p1, .inl (d1, 48, .inl (fun _ => 0))), (p2, .inl (d2, 48, .inl (fun _ => 0))), (p3, .inl (d3, 48, .inl (fun _ => 0))), (p4, .inl (d4, 48, .inl (fun _ => 0))), (s5, .inr (7, [.ref t1, .ref t2, .ref t3, .ref t4])), (t1, .inl (e1, 3, .inl (fun _ => 0))), (t2, .inl (e2, 3, .inl (fun _ => 0))), (t3, .inl (e3, 3, .inl (fun _ => 0))), (hm, .inr (9, [.ref m1, .ref m2, .ref m3, .int (-1), .int 3, .int 255, .int 0, .int 0, .int 0, .int 0, .int 0, .int 65535, .ref m4, .ref m5, .ref m6, .ref m7, .ref m8, .ref m9, .int 0, .ref m10, .ref m11, .ref m12, .ref m13])), (m1, .inl (c1, 4, .inl (fun _ => 0))), (m2, .inl (c2, 4, .inl (fun _ => 0))), (m3, .inl (c3, 16384, .inl (fun _ => 0))), (m7, .inl (c7, 48, .inl (fun _ => 0))), (m8, .inl (c8, 48, .inl (fun _ => 0))), (m9, .inl (c9, 48, .inl (fun _ => 0))), (m10, .inl (c10, 3, .inl (fun _ => 0))), (m11, .inl (c11, 3, .inl (fun _ => 0))), (m12, .inl (c12, 3, .inl (fun _ => 0)))]) (w1 := []) hP hD [0, 1] [2, 3, 4, 5, 6, 7, 8, 9, 10, 11, 12, 13, 14, 15, 16, 17, 18, 19, 20, 21, 22] rfl rfl (by decide) (by decide) hk1 hFc hP1 hD1
  clear hz1 hk1 hFc hKc hDc hPc
  generalize H1 = H at hP hS ⊢
  have hP : va_P D vwCl [(s2, .inr (1, [.ref bx, .int (-1), .int 3, .int 255])), (bx, .inr (0, [.int 0, .int 0, .int 63, .int 63])), (s4, .inr (3, [.ref p1, .ref p2, .ref p3, .ref p4, .int 0, .int 0, .int 0])), (p1, .inl (d1, 48, .inl (fun _ => 0))), (p2, .inl (d2, 48, .inl (fun _ => 0))), (p3, .inl (d3, 48, .inl (fun _ => 0))), (p4, .inl (d4, 48, .inl (fun _ => 0))), (s5, .inr (7, [.ref t1, .ref t2, .ref t3, .ref t4])), (t1, .inl (e1, 3, .inl (fun _ => 0))), (t2, .inl (e2, 3, .inl (fun _ => 0))), (t3, .inl (e3, 3, .inl (fun _ => 0))), (hm, .inr (9, [.ref m1, .ref m2, .ref m3, .int (-1), .int 3, .int 255, .int 0, .int 0, .int 0, .int 0, .int 0, .int 65535, .ref m4, .ref m5, .ref m6, .ref m7, .ref m8, .ref m9, .int 0, .ref m10, .ref m11, .ref m12, .ref m13])), (m1, .inl (c1, 4, .inl (fun _ => 0))), (m2, .inl (c2, 4, .inl (fun _ => 0))), (m3, .inl (c3, 16384, .inl (fun _ => 0))), (m7, .inl (c7, 48, .inl (fun _ => 0))), (m8, .inl (c8, 48, .inl (fun _ => 0))), (m9, .inl (c9, 48, .inl (fun _ => 0))), (m10, .inl (c10, 3, .inl (fun _ => 0))), (m11, .inl (c11, 3, .inl (fun _ => 0))), (m12, .inl (c12, 3, .inl (fun _ => 0)))] H := hP
  have hD : va_D (fun q : Nat => s.heap.size ≤ q) [(s2, .inr (1, [.ref bx, .int (-1), .int 3, .int 255])), (bx, .inr (0, [.int 0, .int 0, .int 63, .int 63])), (s4, .inr (3, [.ref p1, .ref p2, .ref p3, .ref p4, .int 0, .int 0, .int 0])), (p1, .inl (d1, 48, .inl (fun _ => 0))), (p2, .inl (d2, 48, .inl (fun _ => 0))), (p3, .inl (d3, 48, .inl (fun _ => 0))), (p4, .inl (d4, 48, .inl (fun _ => 0))), (s5, .inr (7, [.ref t1, .ref t2, .ref t3, .ref t4])), (t1, .inl (e1, 3, .inl (fun _ => 0))), (t2, .inl (e2, 3, .inl (fun _ => 0))), (t3, .inl (e3, 3, .inl (fun _ => 0))), (hm, .inr (9, [.ref m1, .ref m2, .ref m3, .int (-1), .int 3, .int 255, .int 0, .int 0, .int 0, .int 0, .int 0, .int 65535, .ref m4, .ref m5, .ref m6, .ref m7, .ref m8, .ref m9, .int 0, .ref m10, .ref m11, .ref m12, .ref m13])), (m1, .inl (c1, 4, .inl (fun _ => 0))), (m2, .inl (c2, 4, .inl (fun _ => 0))), (m3, .inl (c3, 16384, .inl (fun _ => 0))), (m7, .inl (c7, 48, .inl (fun _ => 0))), (m8, .inl (c8, 48, .inl (fun _ => 0))), (m9, .inl (c9, 48, .inl (fun _ => 0))), (m10, .inl (c10, 3, .inl (fun _ => 0))), (m11, .inl (c11, 3, .inl (fun _ => 0))), (m12, .inl (c12, 3, .inl (fun _ => 0)))] := hD
  subst hr_1
  refine lv_aload_n hx hb dL_law_1105 rfl (lv_at hl 1 rfl) ?_
  refine lv_aload_n hx hb dL_law_1106 rfl (lv_at hl 3 rfl) ?_
  refine lv_iload_n hx hb dL_law_1107 rfl (lv_at hl 0 rfl) ?_
  refine lv_iconst (v := 1) hx hb dL_law_1108 (by decide) ?_
  refine lv_iadd hx hb dL_law_1109 ?_
  refine my_fold (v := 1) (by decide) ?_
  refine va_sld hx hb hX hbl hbA hS (i := 1) (my_in (by decide) (by decide)) dL_law_1110 ?_
  refine my_topv (v := .int (xs 1)) rfl ?_
  refine lv_aload_n hx hb dL_law_1111 rfl (lv_at hl 3 rfl) ?_
  refine lv_iload_n hx hb dL_law_1112 rfl (lv_at hl 0 rfl) ?_
  refine lv_iconst (v := 2) hx hb dL_law_1113 (by decide) ?_
  refine lv_iadd hx hb dL_law_1114 ?_
  refine my_fold (v := 2) (by decide) ?_
  refine va_sld hx hb hX hbl hbA hS (i := 2) (my_in (by decide) (by decide)) dL_law_1115 ?_
  refine my_topv (v := .int (xs 2)) rfl ?_
  have hPc := hP.sub (ws' := [(hm, .inr (9, [.ref m1, .ref m2, .ref m3, .int (-1), .int 3, .int 255, .int 0, .int 0, .int 0, .int 0, .int 0, .int 65535, .ref m4, .ref m5, .ref m6, .ref m7, .ref m8, .ref m9, .int 0, .ref m10, .ref m11, .ref m12, .ref m13])), (m1, .inl (c1, 4, .inl (fun _ => 0)))]) [11, 12] rfl
  have hDc := hD.sub (ws' := [(hm, .inr (9, [.ref m1, .ref m2, .ref m3, .int (-1), .int 3, .int 255, .int 0, .int 0, .int 0, .int 0, .int 0, .int 65535, .ref m4, .ref m5, .ref m6, .ref m7, .ref m8, .ref m9, .int 0, .ref m10, .ref m11, .ref m12, .ref m13])), (m1, .inl (c1, 4, .inl (fun _ => 0)))]) [11, 12] (by decide) rfl
  have hKc := hK.sub (tys' := [(c1, .int)]) [8] rfl
  have hFc := va_free (wc := [(hm, .inr (9, [.ref m1, .ref m2, .ref m3, .int (-1), .int 3, .int 255, .int 0, .int 0, .int 0, .int 0, .int 0, .int 65535, .ref m4, .ref m5, .ref m6, .ref m7, .ref m8, .ref m9, .int 0, .ref m10, .ref m11, .ref m12, .ref m13])), (m1, .inl (c1, 4, .inl (fun _ => 0)))]) hD hS hA [11, 12] rfl
  refine va_calli (va_runV (As := [.int (xs 1), .int (xs 2)]) (rest := [.int (-1)]) ⟨hx, hb, hml, hown, hts⟩ (k_X9_look l D H.size hm m1 m2 m3 m4 m5 m6 m7 m8 m9 m10 m11 m12 m13 c1 (xs 1) (xs 2)) (cwV 2 hts (gV bw_356 bw_357 bw_358 bw_11 bw_355) rfl rfl rfl (by decide +kernel) ⟨Nat.le_of_ble_eq_true rfl, Nat.le_of_ble_eq_true rfl⟩) ⟨cP_blind, va_recv hKc hPc (ci := 9) (q0 := 0) rfl rfl, cP_at hPc hKc hDc hN⟩ rfl rfl hl.1 rfl (lv_room (Nat.le_of_ble_eq_true rfl)) dL_law_1116 ⟨Nat.le_of_ble_eq_true rfl, Nat.le_of_ble_eq_true rfl⟩) hS (fun q _ h => hFc q h) hFc (fun r_2 u9 t9 H1 locs ht hvm hr_2 hB hz1 hk1 hS => ?_)
  try dsimp only at hr_2
  have hP1 : va_P D vwCl [] H1 := vP_nil
  have hD1 : va_D (va_A [(hm, .inr (9, [.ref m1, .ref m2, .ref m3, .int (-1), .int 3, .int 255, .int 0, .int 0, .int 0, .int 0, .int 0, .int 65535, .ref m4, .ref m5, .ref m6, .ref m7, .ref m8, .ref m9, .int 0, .ref m10, .ref m11, .ref m12, .ref m13])), (m1, .inl (c1, 4, .inl (fun _ => 0)))] H.size) [] := vD_nil
  obtain ⟨hP, hD⟩ := va_join (wr := [(s2, .inr (1, [.ref bx, .int (-1), .int 3, .int 255])), (bx, .inr (0, [.int 0, .int 0, .int 63, .int 63])), (s4, .inr (3, [.ref p1, .ref p2, .ref p3, .ref p4, .int 0, .int 0, .int 0])), (p1, .inl (d1, 48, .inl (fun _ => 0))), (p2, .inl (d2, 48, .inl (fun _ => 0))), (p3, .inl (d3, 48, .inl (fun _ => 0))), (p4, .inl (d4, 48, .inl (fun _ => 0))), (s5, .inr (7, [.ref t1, .ref t2, .ref t3, .ref t4])), (t1, .inl (e1, 3, .inl (fun _ => 0))), (t2, .inl (e2, 3, .inl (fun _ => 0))), (t3, .inl (e3, 3, .inl (fun _ => 0))), (m2, .inl (c2, 4, .inl (fun _ => 0))), (m3, .inl (c3, 16384, .inl (fun _ => 0))), (m7, .inl (c7, 48, .inl (fun _ => 0))), (m8, .inl (c8, 48, .inl (fun _ => 0))), (m9, .inl (c9, 48, .inl (fun _ => 0))), (m10, .inl (c10, 3, .inl (fun _ => 0))), (m11, .inl (c11, 3, .inl (fun _ => 0))), (m12, .inl (c12, 3, .inl (fun _ => 0)))]) (w1 := []) hP hD [11, 12] [0, 1, 2, 3, 4, 5, 6, 7, 8, 9, 10, 13, 14, 15, 16, 17, 18, 19, 20] rfl rfl (by decide) (by decide) hk1 hFc hP1 hD1
  clear hz1 hk1 hFc hKc hDc hPc
  generalize H1 = H at hP hS ⊢
  have hP : va_P D vwCl [(s2, .inr (1, [.ref bx, .int (-1), .int 3, .int 255])), (bx, .inr (0, [.int 0, .int 0, .int 63, .int 63])), (s4, .inr (3, [.ref p1, .ref p2, .ref p3, .ref p4, .int 0, .int 0, .int 0])), (p1, .inl (d1, 48, .inl (fun _ => 0))), (p2, .inl (d2, 48, .inl (fun _ => 0))), (p3, .inl (d3, 48, .inl (fun _ => 0))), (p4, .inl (d4, 48, .inl (fun _ => 0))), (s5, .inr (7, [.ref t1, .ref t2, .ref t3, .ref t4])), (t1, .inl (e1, 3, .inl (fun _ => 0))), (t2, .inl (e2, 3, .inl (fun _ => 0))), (t3, .inl (e3, 3, .inl (fun _ => 0))), (m2, .inl (c2, 4, .inl (fun _ => 0))), (m3, .inl (c3, 16384, .inl (fun _ => 0))), (m7, .inl (c7, 48, .inl (fun _ => 0))), (m8, .inl (c8, 48, .inl (fun _ => 0))), (m9, .inl (c9, 48, .inl (fun _ => 0))), (m10, .inl (c10, 3, .inl (fun _ => 0))), (m11, .inl (c11, 3, .inl (fun _ => 0))), (m12, .inl (c12, 3, .inl (fun _ => 0)))] H := hP
  have hD : va_D (fun q : Nat => s.heap.size ≤ q) [(s2, .inr (1, [.ref bx, .int (-1), .int 3, .int 255])), (bx, .inr (0, [.int 0, .int 0, .int 63, .int 63])), (s4, .inr (3, [.ref p1, .ref p2, .ref p3, .ref p4, .int 0, .int 0, .int 0])), (p1, .inl (d1, 48, .inl (fun _ => 0))), (p2, .inl (d2, 48, .inl (fun _ => 0))), (p3, .inl (d3, 48, .inl (fun _ => 0))), (p4, .inl (d4, 48, .inl (fun _ => 0))), (s5, .inr (7, [.ref t1, .ref t2, .ref t3, .ref t4])), (t1, .inl (e1, 3, .inl (fun _ => 0))), (t2, .inl (e2, 3, .inl (fun _ => 0))), (t3, .inl (e3, 3, .inl (fun _ => 0))), (m2, .inl (c2, 4, .inl (fun _ => 0))), (m3, .inl (c3, 16384, .inl (fun _ => 0))), (m7, .inl (c7, 48, .inl (fun _ => 0))), (m8, .inl (c8, 48, .inl (fun _ => 0))), (m9, .inl (c9, 48, .inl (fun _ => 0))), (m10, .inl (c10, 3, .inl (fun _ => 0))), (m11, .inl (c11, 3, .inl (fun _ => 0))), (m12, .inl (c12, 3, .inl (fun _ => 0)))] := hD
  subst hr_2
  refine lv_icmp_eq (tgt := 1167) hx hb dL_law_1119 (by decide) (fun c_3 => ?_) (fun c_3 => ?_)
  · skip
    exact law_tail C0 (by omega) (by omega) hS (lv_sub hl [0, 3] rfl)
  · skip
    exact absurd c_3 (by decide)

set_option maxHeartbeats 4000000 in
set_option maxRecDepth 100000 in
theorem law_c20 {p : Program} {l : Launch} {e : Env} {s : State} {m : MethodId} {below : List Frame} {meth : Method} {c : Code} {b : Nat} {xs : Nat → Int32} (C0 : lw_At p s m meth c b 11 xs) (hN : nW s) {D : va_G} {h0 s1 s2 s3 s4 s5 s6 bx p1 p2 p3 p4 t1 t2 t3 t4 hm m1 m2 m3 m4 m5 m6 m7 m8 m9 m10 m11 m12 m13 : Nat} {ca d1 d2 d3 d4 e1 e2 e3 c1 c2 c3 c7 c8 c9 c10 c11 c12 : ClassId} {H : Heap} {locs : List Loc} (hK : va_K D vwCl [(ca, .object "DotBench$Sheet"), (d1, .int), (d2, .int), (d3, .int), (d4, .int), (e1, .int), (e2, .int), (e3, .int), (c1, .int), (c2, .int), (c3, .int), (c7, .int), (c8, .int), (c9, .boolean), (c10, .int), (c11, .int), (c12, .int)] s) (hP : va_P D vwCl [(h0, .inr (8, [.ref s1, .ref s2, .ref s3, .ref s4, .ref s5, .ref s6, .int 65535, .null, .null])), (s1, .inl (ca, 4, .inr (.inr (.inr (.inr (fun _ => none)))))), (s2, .inr (1, [.ref bx, .int (-1), .int 3, .int 255])), (bx, .inr (0, [.int 0, .int 0, .int 63, .int 63])), (s4, .inr (3, [.ref p1, .ref p2, .ref p3, .ref p4, .int 0, .int 0, .int 0])), (p1, .inl (d1, 48, .inl (fun _ => 0))), (p2, .inl (d2, 48, .inl (fun _ => 0))), (p3, .inl (d3, 48, .inl (fun _ => 0))), (p4, .inl (d4, 48, .inl (fun _ => 0))), (s5, .inr (7, [.ref t1, .ref t2, .ref t3, .ref t4])), (t1, .inl (e1, 3, .inl (fun _ => 0))), (t2, .inl (e2, 3, .inl (fun _ => 0))), (t3, .inl (e3, 3, .inl (fun _ => 0))), (hm, .inr (9, [.ref m1, .ref m2, .ref m3, .int (-1), .int 3, .int 255, .int 0, .int 0, .int 0, .int 0, .int 0, .int 65535, .ref m4, .ref m5, .ref m6, .ref m7, .ref m8, .ref m9, .int 0, .ref m10, .ref m11, .ref m12, .ref m13])), (m1, .inl (c1, 4, .inl (fun _ => 0))), (m2, .inl (c2, 4, .inl (fun _ => 0))), (m3, .inl (c3, 16384, .inl (fun _ => 0))), (m7, .inl (c7, 48, .inl (fun _ => 0))), (m8, .inl (c8, 48, .inl (fun _ => 0))), (m9, .inl (c9, 48, .inl (fun _ => 0))), (m10, .inl (c10, 3, .inl (fun _ => 0))), (m11, .inl (c11, 3, .inl (fun _ => 0))), (m12, .inl (c12, 3, .inl (fun _ => 0)))] H) (hD : va_D (fun q : Nat => s.heap.size ≤ q) [(h0, .inr (8, [.ref s1, .ref s2, .ref s3, .ref s4, .ref s5, .ref s6, .int 65535, .null, .null])), (s1, .inl (ca, 4, .inr (.inr (.inr (.inr (fun _ => none)))))), (s2, .inr (1, [.ref bx, .int (-1), .int 3, .int 255])), (bx, .inr (0, [.int 0, .int 0, .int 63, .int 63])), (s4, .inr (3, [.ref p1, .ref p2, .ref p3, .ref p4, .int 0, .int 0, .int 0])), (p1, .inl (d1, 48, .inl (fun _ => 0))), (p2, .inl (d2, 48, .inl (fun _ => 0))), (p3, .inl (d3, 48, .inl (fun _ => 0))), (p4, .inl (d4, 48, .inl (fun _ => 0))), (s5, .inr (7, [.ref t1, .ref t2, .ref t3, .ref t4])), (t1, .inl (e1, 3, .inl (fun _ => 0))), (t2, .inl (e2, 3, .inl (fun _ => 0))), (t3, .inl (e3, 3, .inl (fun _ => 0))), (hm, .inr (9, [.ref m1, .ref m2, .ref m3, .int (-1), .int 3, .int 255, .int 0, .int 0, .int 0, .int 0, .int 0, .int 65535, .ref m4, .ref m5, .ref m6, .ref m7, .ref m8, .ref m9, .int 0, .ref m10, .ref m11, .ref m12, .ref m13])), (m1, .inl (c1, 4, .inl (fun _ => 0))), (m2, .inl (c2, 4, .inl (fun _ => 0))), (m3, .inl (c3, 16384, .inl (fun _ => 0))), (m7, .inl (c7, 48, .inl (fun _ => 0))), (m8, .inl (c8, 48, .inl (fun _ => 0))), (m9, .inl (c9, 48, .inl (fun _ => 0))), (m10, .inl (c10, 3, .inl (fun _ => 0))), (m11, .inl (c11, 3, .inl (fun _ => 0))), (m12, .inl (c12, 3, .inl (fun _ => 0)))]) (hS : va_S (fun q : Nat => s.heap.size ≤ q) s.heap H locs) {ls : Array Slot} (hl : lv_has ls 4 [(3, .int 0), (2, .ref hm), (1, .ref h0), (0, .ref b)]) : W p l e room_1 s m #[Value.ref b] below meth c H locs 36 33710 (lw_Z below #[Value.ref b] s) (F0 m 1124 ls []) := by
  obtain ⟨hx, hb, hr, hml, hown, hts0, hX, hbl, hlocks, hgv⟩ := id C0
  have hts : ∀ w ∈ bigW, w.before #[Value.ref b] s = true := fun w h => hts0 w (bigW_in w h).1
  have hown : s.vm.findClass RL = some m.cls := hown
  have hA : ∀ q : Nat, s.heap.size ≤ q → (fun q : Nat => s.heap.size ≤ q) q := fun _ h => h
  have hbA : ¬ (fun q : Nat => s.heap.size ≤ q) b := Nat.not_le.mpr hbl
  refine lv_aload_n hx hb dL_law_1124 rfl (lv_at hl 2 rfl) ?_
  refine lv_aload_n hx hb dL_law_1125 rfl (lv_at hl 3 rfl) ?_
  refine lv_iload_n hx hb dL_law_1126 rfl (lv_at hl 0 rfl) ?_
  refine lv_iconst (v := 1) hx hb dL_law_1127 (by decide) ?_
  refine lv_iadd hx hb dL_law_1128 ?_
  refine my_fold (v := 1) (by decide) ?_
  refine va_sld hx hb hX hbl hbA hS (i := 1) (my_in (by decide) (by decide)) dL_law_1129 ?_
  refine my_topv (v := .int (xs 1)) rfl ?_
  refine lv_aload_n hx hb dL_law_1130 rfl (lv_at hl 3 rfl) ?_
  refine lv_iload_n hx hb dL_law_1131 rfl (lv_at hl 0 rfl) ?_
  refine lv_iconst (v := 2) hx hb dL_law_1132 (by decide) ?_
  refine lv_iadd hx hb dL_law_1133 ?_
  refine my_fold (v := 2) (by decide) ?_
  refine va_sld hx hb hX hbl hbA hS (i := 2) (my_in (by decide) (by decide)) dL_law_1134 ?_
  refine my_topv (v := .int (xs 2)) rfl ?_
  refine lv_aload_n hx hb dL_law_1135 rfl (lv_at hl 3 rfl) ?_
  refine lv_iload_n hx hb dL_law_1136 rfl (lv_at hl 0 rfl) ?_
  refine lv_iconst (v := 3) hx hb dL_law_1137 (by decide) ?_
  refine lv_iadd hx hb dL_law_1138 ?_
  refine my_fold (v := 3) (by decide) ?_
  refine va_sld hx hb hX hbl hbA hS (i := 3) (my_in (by decide) (by decide)) dL_law_1139 ?_
  refine my_topv (v := .int (xs 3)) rfl ?_
  have hPc := hP.sub (ws' := [(h0, .inr (8, [.ref s1, .ref s2, .ref s3, .ref s4, .ref s5, .ref s6, .int 65535, .null, .null])), (s4, .inr (3, [.ref p1, .ref p2, .ref p3, .ref p4, .int 0, .int 0, .int 0]))]) [0, 4] rfl
  have hDc := hD.sub (ws' := [(h0, .inr (8, [.ref s1, .ref s2, .ref s3, .ref s4, .ref s5, .ref s6, .int 65535, .null, .null])), (s4, .inr (3, [.ref p1, .ref p2, .ref p3, .ref p4, .int 0, .int 0, .int 0]))]) [0, 4] (by decide) rfl
  have hKc := hK.sub (tys' := []) [] rfl
  have hFc := va_free (wc := [(h0, .inr (8, [.ref s1, .ref s2, .ref s3, .ref s4, .ref s5, .ref s6, .int 65535, .null, .null])), (s4, .inr (3, [.ref p1, .ref p2, .ref p3, .ref p4, .int 0, .int 0, .int 0]))]) hD hS hA [0, 4] rfl
  refine va_calli (va_runV (As := [.int (xs 1), .int (xs 2), .int (xs 3)]) (rest := []) ⟨hx, hb, hml, hown, hts⟩ (k_X8_inside l D H.size h0 s1 s2 s3 s4 s5 s6 p1 p2 p3 p4 (xs 1) (xs 2) (xs 3)) (cwV 3 hts (gV bw_360 bw_361 bw_362 bw_1 bw_359) rfl rfl rfl (by decide +kernel) ⟨Nat.le_of_ble_eq_true rfl, Nat.le_of_ble_eq_true rfl⟩) ⟨cP_blind, va_recv hKc hPc (ci := 8) (q0 := 0) rfl rfl, cP_at hPc hKc hDc hN⟩ rfl rfl hl.1 rfl (lv_room (Nat.le_of_ble_eq_true rfl)) dL_law_1140 ⟨Nat.le_of_ble_eq_true rfl, Nat.le_of_ble_eq_true rfl⟩) hS (fun q _ h => hFc q h) hFc (fun r_1 u9 t9 H1 locs ht hvm hr_1 hB hz1 hk1 hS => ?_)
  try dsimp only at hr_1
  have hP1 : va_P D vwCl [] H1 := vP_nil
  have hD1 : va_D (va_A [(h0, .inr (8, [.ref s1, .ref s2, .ref s3, .ref s4, .ref s5, .ref s6, .int 65535, .null, .null])), (s4, .inr (3, [.ref p1, .ref p2, .ref p3, .ref p4, .int 0, .int 0, .int 0]))] H.size) [] := vD_nil
  obtain ⟨hP, hD⟩ := va_join (wr := [(s1, .inl (ca, 4, .inr (.inr (.inr (.inr (fun _ => none)))))), (s2, .inr (1, [.ref bx, .int (-1), .int 3, .int 255])), (bx, .inr (0, [.int 0, .int 0, .int 63, .int 63])), (p1, .inl (d1, 48, .inl (fun _ => 0))), (p2, .inl (d2, 48, .inl (fun _ => 0))), (p3, .inl (d3, 48, .inl (fun _ => 0))), (p4, .inl (d4, 48, .inl (fun _ => 0))), (s5, .inr (7, [.ref t1, .ref t2, .ref t3, .ref t4])), (t1, .inl (e1, 3, .inl (fun _ => 0))), (t2, .inl (e2, 3, .inl (fun _ => 0))), (t3, .inl (e3, 3, .inl (fun _ => 0))), (hm, .inr (9, [.ref m1, .ref m2, .ref m3, .int (-1), .int 3, .int 255, .int 0, .int 0, .int 0, .int 0, .int 0, .int 65535, .ref m4, .ref m5, .ref m6, .ref m7, .ref m8, .ref m9, .int 0, .ref m10, .ref m11, .ref m12, .ref m13])), (m1, .inl (c1, 4, .inl (fun _ => 0))), (m2, .inl (c2, 4, .inl (fun _ => 0))), (m3, .inl (c3, 16384, .inl (fun _ => 0))), (m7, .inl (c7, 48, .inl (fun _ => 0))), (m8, .inl (c8, 48, .inl (fun _ => 0))), (m9, .inl (c9, 48, .inl (fun _ => 0))), (m10, .inl (c10, 3, .inl (fun _ => 0))), (m11, .inl (c11, 3, .inl (fun _ => 0))), (m12, .inl (c12, 3, .inl (fun _ => 0)))]) (w1 := []) hP hD [0, 4] [1, 2, 3, 5, 6, 7, 8, 9, 10, 11, 12, 13, 14, 15, 16, 17, 18, 19, 20, 21, 22] rfl rfl (by decide) (by decide) hk1 hFc hP1 hD1
  clear hz1 hk1 hFc hKc hDc hPc
  generalize H1 = H at hP hS ⊢
  have hP : va_P D vwCl [(s1, .inl (ca, 4, .inr (.inr (.inr (.inr (fun _ => none)))))), (s2, .inr (1, [.ref bx, .int (-1), .int 3, .int 255])), (bx, .inr (0, [.int 0, .int 0, .int 63, .int 63])), (p1, .inl (d1, 48, .inl (fun _ => 0))), (p2, .inl (d2, 48, .inl (fun _ => 0))), (p3, .inl (d3, 48, .inl (fun _ => 0))), (p4, .inl (d4, 48, .inl (fun _ => 0))), (s5, .inr (7, [.ref t1, .ref t2, .ref t3, .ref t4])), (t1, .inl (e1, 3, .inl (fun _ => 0))), (t2, .inl (e2, 3, .inl (fun _ => 0))), (t3, .inl (e3, 3, .inl (fun _ => 0))), (hm, .inr (9, [.ref m1, .ref m2, .ref m3, .int (-1), .int 3, .int 255, .int 0, .int 0, .int 0, .int 0, .int 0, .int 65535, .ref m4, .ref m5, .ref m6, .ref m7, .ref m8, .ref m9, .int 0, .ref m10, .ref m11, .ref m12, .ref m13])), (m1, .inl (c1, 4, .inl (fun _ => 0))), (m2, .inl (c2, 4, .inl (fun _ => 0))), (m3, .inl (c3, 16384, .inl (fun _ => 0))), (m7, .inl (c7, 48, .inl (fun _ => 0))), (m8, .inl (c8, 48, .inl (fun _ => 0))), (m9, .inl (c9, 48, .inl (fun _ => 0))), (m10, .inl (c10, 3, .inl (fun _ => 0))), (m11, .inl (c11, 3, .inl (fun _ => 0))), (m12, .inl (c12, 3, .inl (fun _ => 0)))] H := hP
  have hD : va_D (fun q : Nat => s.heap.size ≤ q) [(s1, .inl (ca, 4, .inr (.inr (.inr (.inr (fun _ => none)))))), (s2, .inr (1, [.ref bx, .int (-1), .int 3, .int 255])), (bx, .inr (0, [.int 0, .int 0, .int 63, .int 63])), (p1, .inl (d1, 48, .inl (fun _ => 0))), (p2, .inl (d2, 48, .inl (fun _ => 0))), (p3, .inl (d3, 48, .inl (fun _ => 0))), (p4, .inl (d4, 48, .inl (fun _ => 0))), (s5, .inr (7, [.ref t1, .ref t2, .ref t3, .ref t4])), (t1, .inl (e1, 3, .inl (fun _ => 0))), (t2, .inl (e2, 3, .inl (fun _ => 0))), (t3, .inl (e3, 3, .inl (fun _ => 0))), (hm, .inr (9, [.ref m1, .ref m2, .ref m3, .int (-1), .int 3, .int 255, .int 0, .int 0, .int 0, .int 0, .int 0, .int 65535, .ref m4, .ref m5, .ref m6, .ref m7, .ref m8, .ref m9, .int 0, .ref m10, .ref m11, .ref m12, .ref m13])), (m1, .inl (c1, 4, .inl (fun _ => 0))), (m2, .inl (c2, 4, .inl (fun _ => 0))), (m3, .inl (c3, 16384, .inl (fun _ => 0))), (m7, .inl (c7, 48, .inl (fun _ => 0))), (m8, .inl (c8, 48, .inl (fun _ => 0))), (m9, .inl (c9, 48, .inl (fun _ => 0))), (m10, .inl (c10, 3, .inl (fun _ => 0))), (m11, .inl (c11, 3, .inl (fun _ => 0))), (m12, .inl (c12, 3, .inl (fun _ => 0)))] := hD
  refine lv_aload_n hx hb dL_law_1143 rfl (lv_at hl 1 rfl) ?_
  refine lv_aload_n hx hb dL_law_1144 rfl (lv_at hl 3 rfl) ?_
  refine lv_iload_n hx hb dL_law_1145 rfl (lv_at hl 0 rfl) ?_
  refine lv_iconst (v := 1) hx hb dL_law_1146 (by decide) ?_
  refine lv_iadd hx hb dL_law_1147 ?_
  refine my_fold (v := 1) (by decide) ?_
  refine va_sld hx hb hX hbl hbA hS (i := 1) (my_in (by decide) (by decide)) dL_law_1148 ?_
  refine my_topv (v := .int (xs 1)) rfl ?_
  refine lv_aload_n hx hb dL_law_1149 rfl (lv_at hl 3 rfl) ?_
  refine lv_iload_n hx hb dL_law_1150 rfl (lv_at hl 0 rfl) ?_
  refine lv_iconst (v := 2) hx hb dL_law_1151 (by decide) ?_
  refine lv_iadd hx hb dL_law_1152 ?_
  refine my_fold (v := 2) (by decide) ?_
  refine va_sld hx hb hX hbl hbA hS (i := 2) (my_in (by decide) (by decide)) dL_law_1153 ?_
  refine my_topv (v := .int (xs 2)) rfl ?_
  refine lv_aload_n hx hb dL_law_1154 rfl (lv_at hl 3 rfl) ?_
  refine lv_iload_n hx hb dL_law_1155 rfl (lv_at hl 0 rfl) ?_
  refine lv_iconst (v := 3) hx hb dL_law_1156 (by decide) ?_
  refine lv_iadd hx hb dL_law_1157 ?_
  refine my_fold (v := 3) (by decide) ?_
  refine va_sld hx hb hX hbl hbA hS (i := 3) (my_in (by decide) (by decide)) dL_law_1158 ?_
  refine my_topv (v := .int (xs 3)) rfl ?_
  have hPc := hP.sub (ws' := [(hm, .inr (9, [.ref m1, .ref m2, .ref m3, .int (-1), .int 3, .int 255, .int 0, .int 0, .int 0, .int 0, .int 0, .int 65535, .ref m4, .ref m5, .ref m6, .ref m7, .ref m8, .ref m9, .int 0, .ref m10, .ref m11, .ref m12, .ref m13]))]) [11] rfl
  have hDc := hD.sub (ws' := [(hm, .inr (9, [.ref m1, .ref m2, .ref m3, .int (-1), .int 3, .int 255, .int 0, .int 0, .int 0, .int 0, .int 0, .int 65535, .ref m4, .ref m5, .ref m6, .ref m7, .ref m8, .ref m9, .int 0, .ref m10, .ref m11, .ref m12, .ref m13]))]) [11] (by decide) rfl
  have hKc := hK.sub (tys' := []) [] rfl
  have hFc := va_free (wc := [(hm, .inr (9, [.ref m1, .ref m2, .ref m3, .int (-1), .int 3, .int 255, .int 0, .int 0, .int 0, .int 0, .int 0, .int 65535, .ref m4, .ref m5, .ref m6, .ref m7, .ref m8, .ref m9, .int 0, .ref m10, .ref m11, .ref m12, .ref m13]))]) hD hS hA [11] rfl
  refine va_calli (va_runV (As := [.int (xs 1), .int (xs 2), .int (xs 3)]) (rest := [.int r_1]) ⟨hx, hb, hml, hown, hts⟩ (k_X9_inside l D H.size hm m1 m2 m3 m4 m5 m6 m7 m8 m9 m10 m11 m12 m13 (xs 1) (xs 2) (xs 3)) (cwV 3 hts (gV bw_364 bw_365 bw_366 bw_11 bw_363) rfl rfl rfl (by decide +kernel) ⟨Nat.le_of_ble_eq_true rfl, Nat.le_of_ble_eq_true rfl⟩) ⟨cP_blind, va_recv hKc hPc (ci := 9) (q0 := 0) rfl rfl, cP_at hPc hKc hDc hN⟩ rfl rfl hl.1 rfl (lv_room (Nat.le_of_ble_eq_true rfl)) dL_law_1159 ⟨Nat.le_of_ble_eq_true rfl, Nat.le_of_ble_eq_true rfl⟩) hS (fun q _ h => hFc q h) hFc (fun r_2 u9 t9 H1 locs ht hvm hr_2 hB hz1 hk1 hS => ?_)
  try dsimp only at hr_2
  have hP1 : va_P D vwCl [] H1 := vP_nil
  have hD1 : va_D (va_A [(hm, .inr (9, [.ref m1, .ref m2, .ref m3, .int (-1), .int 3, .int 255, .int 0, .int 0, .int 0, .int 0, .int 0, .int 65535, .ref m4, .ref m5, .ref m6, .ref m7, .ref m8, .ref m9, .int 0, .ref m10, .ref m11, .ref m12, .ref m13]))] H.size) [] := vD_nil
  obtain ⟨hP, hD⟩ := va_join (wr := [(s1, .inl (ca, 4, .inr (.inr (.inr (.inr (fun _ => none)))))), (s2, .inr (1, [.ref bx, .int (-1), .int 3, .int 255])), (bx, .inr (0, [.int 0, .int 0, .int 63, .int 63])), (p1, .inl (d1, 48, .inl (fun _ => 0))), (p2, .inl (d2, 48, .inl (fun _ => 0))), (p3, .inl (d3, 48, .inl (fun _ => 0))), (p4, .inl (d4, 48, .inl (fun _ => 0))), (s5, .inr (7, [.ref t1, .ref t2, .ref t3, .ref t4])), (t1, .inl (e1, 3, .inl (fun _ => 0))), (t2, .inl (e2, 3, .inl (fun _ => 0))), (t3, .inl (e3, 3, .inl (fun _ => 0))), (m1, .inl (c1, 4, .inl (fun _ => 0))), (m2, .inl (c2, 4, .inl (fun _ => 0))), (m3, .inl (c3, 16384, .inl (fun _ => 0))), (m7, .inl (c7, 48, .inl (fun _ => 0))), (m8, .inl (c8, 48, .inl (fun _ => 0))), (m9, .inl (c9, 48, .inl (fun _ => 0))), (m10, .inl (c10, 3, .inl (fun _ => 0))), (m11, .inl (c11, 3, .inl (fun _ => 0))), (m12, .inl (c12, 3, .inl (fun _ => 0)))]) (w1 := []) hP hD [11] [0, 1, 2, 3, 4, 5, 6, 7, 8, 9, 10, 12, 13, 14, 15, 16, 17, 18, 19, 20] rfl rfl (by decide) (by decide) hk1 hFc hP1 hD1
  clear hz1 hk1 hFc hKc hDc hPc
  generalize H1 = H at hP hS ⊢
  have hP : va_P D vwCl [(s1, .inl (ca, 4, .inr (.inr (.inr (.inr (fun _ => none)))))), (s2, .inr (1, [.ref bx, .int (-1), .int 3, .int 255])), (bx, .inr (0, [.int 0, .int 0, .int 63, .int 63])), (p1, .inl (d1, 48, .inl (fun _ => 0))), (p2, .inl (d2, 48, .inl (fun _ => 0))), (p3, .inl (d3, 48, .inl (fun _ => 0))), (p4, .inl (d4, 48, .inl (fun _ => 0))), (s5, .inr (7, [.ref t1, .ref t2, .ref t3, .ref t4])), (t1, .inl (e1, 3, .inl (fun _ => 0))), (t2, .inl (e2, 3, .inl (fun _ => 0))), (t3, .inl (e3, 3, .inl (fun _ => 0))), (m1, .inl (c1, 4, .inl (fun _ => 0))), (m2, .inl (c2, 4, .inl (fun _ => 0))), (m3, .inl (c3, 16384, .inl (fun _ => 0))), (m7, .inl (c7, 48, .inl (fun _ => 0))), (m8, .inl (c8, 48, .inl (fun _ => 0))), (m9, .inl (c9, 48, .inl (fun _ => 0))), (m10, .inl (c10, 3, .inl (fun _ => 0))), (m11, .inl (c11, 3, .inl (fun _ => 0))), (m12, .inl (c12, 3, .inl (fun _ => 0)))] H := hP
  have hD : va_D (fun q : Nat => s.heap.size ≤ q) [(s1, .inl (ca, 4, .inr (.inr (.inr (.inr (fun _ => none)))))), (s2, .inr (1, [.ref bx, .int (-1), .int 3, .int 255])), (bx, .inr (0, [.int 0, .int 0, .int 63, .int 63])), (p1, .inl (d1, 48, .inl (fun _ => 0))), (p2, .inl (d2, 48, .inl (fun _ => 0))), (p3, .inl (d3, 48, .inl (fun _ => 0))), (p4, .inl (d4, 48, .inl (fun _ => 0))), (s5, .inr (7, [.ref t1, .ref t2, .ref t3, .ref t4])), (t1, .inl (e1, 3, .inl (fun _ => 0))), (t2, .inl (e2, 3, .inl (fun _ => 0))), (t3, .inl (e3, 3, .inl (fun _ => 0))), (m1, .inl (c1, 4, .inl (fun _ => 0))), (m2, .inl (c2, 4, .inl (fun _ => 0))), (m3, .inl (c3, 16384, .inl (fun _ => 0))), (m7, .inl (c7, 48, .inl (fun _ => 0))), (m8, .inl (c8, 48, .inl (fun _ => 0))), (m9, .inl (c9, 48, .inl (fun _ => 0))), (m10, .inl (c10, 3, .inl (fun _ => 0))), (m11, .inl (c11, 3, .inl (fun _ => 0))), (m12, .inl (c12, 3, .inl (fun _ => 0)))] := hD
  refine lv_icmp_eq (tgt := 1167) hx hb dL_law_1162 (by decide) (fun c_3 => ?_) (fun c_3 => ?_)
  · skip
    have f_4 : r_1.toInt = r_2.toInt := f_eq rfl rfl c_3
    exact law_tail C0 (by omega) (by omega) hS (lv_sub hl [0, 3] rfl)
  · skip
    exact absurd (hr_1.trans hr_2.symm) c_3
