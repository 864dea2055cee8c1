set_option maxHeartbeats 4000000 in
set_option maxRecDepth 100000 in
theorem law_c7 {p : Program} {l : Launch} {e : Env} {s : State} {m : MethodId} {below : List Frame} {meth : Method} {c : Code} {b : Nat} {xs : Nat → Int32} (C0 : lw_At p s m meth c b 11 xs) (hN : nW s) {D : va_G} {h0 s1 s2 s3 s4 s5 s6 bx p1 p2 p3 p4 t1 t2 t3 t4 hm m1 m2 m3 m4 m5 m6 m7 m8 m9 m10 m11 m12 m13 : Nat} {ca d1 d2 d3 d4 e1 e2 e3 c1 c2 c3 c7 c8 c9 c10 c11 c12 : ClassId} {H : Heap} {locs : List Loc} (hK : va_K D vwCl [(ca, .object "DotBench$Sheet"), (d1, .int), (d2, .int), (d3, .int), (d4, .int), (e1, .int), (e2, .int), (e3, .int), (c1, .int), (c2, .int), (c3, .int), (c7, .int), (c8, .int), (c9, .boolean), (c10, .int), (c11, .int), (c12, .int)] s) (hP : va_P D vwCl [(h0, .inr (8, [.ref s1, .ref s2, .ref s3, .ref s4, .ref s5, .ref s6, .int 65535, .null, .null])), (s1, .inl (ca, 4, .inr (.inr (.inr (.inr (fun _ => none)))))), (s2, .inr (1, [.ref bx, .int (-1), .int 3, .int 255])), (bx, .inr (0, [.int 0, .int 0, .int 63, .int 63])), (s4, .inr (3, [.ref p1, .ref p2, .ref p3, .ref p4, .int 0, .int 0, .int 0])), (p1, .inl (d1, 48, .inl (fun _ => 0))), (p2, .inl (d2, 48, .inl (fun _ => 0))), (p3, .inl (d3, 48, .inl (fun _ => 0))), (p4, .inl (d4, 48, .inl (fun _ => 0))), (s5, .inr (7, [.ref t1, .ref t2, .ref t3, .ref t4])), (t1, .inl (e1, 3, .inl (fun _ => 0))), (t2, .inl (e2, 3, .inl (fun _ => 0))), (t3, .inl (e3, 3, .inl (fun _ => 0))), (hm, .inr (9, [.ref m1, .ref m2, .ref m3, .int (-1), .int 3, .int 255, .int 0, .int 0, .int 0, .int 0, .int 0, .int 65535, .ref m4, .ref m5, .ref m6, .ref m7, .ref m8, .ref m9, .int 0, .ref m10, .ref m11, .ref m12, .ref m13])), (m1, .inl (c1, 4, .inl (fun _ => 0))), (m2, .inl (c2, 4, .inl (fun _ => 0))), (m3, .inl (c3, 16384, .inl (fun _ => 0))), (m7, .inl (c7, 48, .inl (fun _ => 0))), (m8, .inl (c8, 48, .inl (fun _ => 0))), (m9, .inl (c9, 48, .inl (fun _ => 0))), (m10, .inl (c10, 3, .inl (fun _ => 0))), (m11, .inl (c11, 3, .inl (fun _ => 0))), (m12, .inl (c12, 3, .inl (fun _ => 0)))] H) (hD : va_D (fun q : Nat => s.heap.size ≤ q) [(h0, .inr (8, [.ref s1, .ref s2, .ref s3, .ref s4, .ref s5, .ref s6, .int 65535, .null, .null])), (s1, .inl (ca, 4, .inr (.inr (.inr (.inr (fun _ => none)))))), (s2, .inr (1, [.ref bx, .int (-1), .int 3, .int 255])), (bx, .inr (0, [.int 0, .int 0, .int 63, .int 63])), (s4, .inr (3, [.ref p1, .ref p2, .ref p3, .ref p4, .int 0, .int 0, .int 0])), (p1, .inl (d1, 48, .inl (fun _ => 0))), (p2, .inl (d2, 48, .inl (fun _ => 0))), (p3, .inl (d3, 48, .inl (fun _ => 0))), (p4, .inl (d4, 48, .inl (fun _ => 0))), (s5, .inr (7, [.ref t1, .ref t2, .ref t3, .ref t4])), (t1, .inl (e1, 3, .inl (fun _ => 0))), (t2, .inl (e2, 3, .inl (fun _ => 0))), (t3, .inl (e3, 3, .inl (fun _ => 0))), (hm, .inr (9, [.ref m1, .ref m2, .ref m3, .int (-1), .int 3, .int 255, .int 0, .int 0, .int 0, .int 0, .int 0, .int 65535, .ref m4, .ref m5, .ref m6, .ref m7, .ref m8, .ref m9, .int 0, .ref m10, .ref m11, .ref m12, .ref m13])), (m1, .inl (c1, 4, .inl (fun _ => 0))), (m2, .inl (c2, 4, .inl (fun _ => 0))), (m3, .inl (c3, 16384, .inl (fun _ => 0))), (m7, .inl (c7, 48, .inl (fun _ => 0))), (m8, .inl (c8, 48, .inl (fun _ => 0))), (m9, .inl (c9, 48, .inl (fun _ => 0))), (m10, .inl (c10, 3, .inl (fun _ => 0))), (m11, .inl (c11, 3, .inl (fun _ => 0))), (m12, .inl (c12, 3, .inl (fun _ => 0)))]) (hS : va_S (fun q : Nat => s.heap.size ≤ q) s.heap H locs) {ls : Array Slot} (hl : lv_has ls 4 [(3, .int 0), (2, .ref hm), (1, .ref h0), (0, .ref b)]) : W p l e room_1 s m #[Value.ref b] below meth c H locs 36 33710 (lw_Z below #[Value.ref b] s) (F0 m 417 ls []) := by
  obtain ⟨hx, hb, hr, hml, hown, hts0, hX, hbl, hlocks, hgv⟩ := id C0
  have hts : ∀ w ∈ bigW, w.before #[Value.ref b] s = true := fun w h => hts0 w (bigW_in w h).1
  have hown : s.vm.findClass RL = some m.cls := hown
  have hA : ∀ q : Nat, s.heap.size ≤ q → (fun q : Nat => s.heap.size ≤ q) q := fun _ h => h
  have hbA : ¬ (fun q : Nat => s.heap.size ≤ q) b := Nat.not_le.mpr hbl
  refine lv_aload_n hx hb dL_law_417 rfl (lv_at hl 2 rfl) ?_
  refine lv_aload_n hx hb dL_law_418 rfl (lv_at hl 3 rfl) ?_
  refine lv_iload_n hx hb dL_law_419 rfl (lv_at hl 0 rfl) ?_
  refine lv_iconst (v := 1) hx hb dL_law_420 (by decide) ?_
  refine lv_iadd hx hb dL_law_421 ?_
  refine my_fold (v := 1) (by decide) ?_
  refine va_sld hx hb hX hbl hbA hS (i := 1) (my_in (by decide) (by decide)) dL_law_422 ?_
  refine my_topv (v := .int (xs 1)) rfl ?_
  refine lv_aload_n hx hb dL_law_423 rfl (lv_at hl 3 rfl) ?_
  refine lv_iload_n hx hb dL_law_424 rfl (lv_at hl 0 rfl) ?_
  refine lv_iconst (v := 2) hx hb dL_law_425 (by decide) ?_
  refine lv_iadd hx hb dL_law_426 ?_
  refine my_fold (v := 2) (by decide) ?_
  refine va_sld hx hb hX hbl hbA hS (i := 2) (my_in (by decide) (by decide)) dL_law_427 ?_
  refine my_topv (v := .int (xs 2)) rfl ?_
  refine lv_aload_n hx hb dL_law_428 rfl (lv_at hl 3 rfl) ?_
  refine lv_iload_n hx hb dL_law_429 rfl (lv_at hl 0 rfl) ?_
  refine lv_iconst (v := 3) hx hb dL_law_430 (by decide) ?_
  refine lv_iadd hx hb dL_law_431 ?_
  refine my_fold (v := 3) (by decide) ?_
  refine va_sld hx hb hX hbl hbA hS (i := 3) (my_in (by decide) (by decide)) dL_law_432 ?_
  refine my_topv (v := .int (xs 3)) rfl ?_
  refine lv_if_eq (tgt := 440) hx hb dL_law_433 (by decide) (fun c_1 => ?_) (fun c_1 => ?_)
  · skip
    have f_2 : (xs 3).toInt = 0 := f_eq rfl (by decide) c_1
    refine lv_iconst (v := 0) hx hb dL_law_440 (by decide) ?_
    have hPc := hP.sub (ws' := [(h0, .inr (8, [.ref s1, .ref s2, .ref s3, .ref s4, .ref s5, .ref s6, .int 65535, .null, .null])), (s4, .inr (3, [.ref p1, .ref p2, .ref p3, .ref p4, .int 0, .int 0, .int 0])), (p1, .inl (d1, 48, .inl (fun _ => 0))), (p2, .inl (d2, 48, .inl (fun _ => 0))), (p3, .inl (d3, 48, .inl (fun _ => 0))), (p4, .inl (d4, 48, .inl (fun _ => 0)))]) [0, 4, 5, 6, 7, 8] rfl
    have hDc := hD.sub (ws' := [(h0, .inr (8, [.ref s1, .ref s2, .ref s3, .ref s4, .ref s5, .ref s6, .int 65535, .null, .null])), (s4, .inr (3, [.ref p1, .ref p2, .ref p3, .ref p4, .int 0, .int 0, .int 0])), (p1, .inl (d1, 48, .inl (fun _ => 0))), (p2, .inl (d2, 48, .inl (fun _ => 0))), (p3, .inl (d3, 48, .inl (fun _ => 0))), (p4, .inl (d4, 48, .inl (fun _ => 0)))]) [0, 4, 5, 6, 7, 8] (by decide) rfl
    have hKc := hK.sub (tys' := [(d1, .int), (d2, .int), (d3, .int), (d4, .int)]) [1, 2, 3, 4] rfl
    have hFc := va_free (wc := [(h0, .inr (8, [.ref s1, .ref s2, .ref s3, .ref s4, .ref s5, .ref s6, .int 65535, .null, .null])), (s4, .inr (3, [.ref p1, .ref p2, .ref p3, .ref p4, .int 0, .int 0, .int 0])), (p1, .inl (d1, 48, .inl (fun _ => 0))), (p2, .inl (d2, 48, .inl (fun _ => 0))), (p3, .inl (d3, 48, .inl (fun _ => 0))), (p4, .inl (d4, 48, .inl (fun _ => 0)))]) hD hS hA [0, 4, 5, 6, 7, 8] rfl
    refine va_calli (va_runV (As := [.int (xs 1), .int (xs 2), .int 0]) (rest := []) ⟨hx, hb, hml, hown, hts⟩ (k_X8_point l D H.size h0 s1 s2 s3 s4 s5 s6 p1 p2 p3 p4 d1 d2 d3 d4 (xs 1) (xs 2) 0) (cwV 3 hts (gV bw_256 bw_257 bw_258 bw_1 bw_255) rfl rfl rfl (by decide +kernel) ⟨Nat.le_of_ble_eq_true rfl, Nat.le_of_ble_eq_true rfl⟩) ⟨cP_blind, va_recv hKc hPc (ci := 8) (q0 := 0) rfl rfl, cP_at hPc hKc hDc hN⟩ rfl rfl hl.1 rfl (lv_room (Nat.le_of_ble_eq_true rfl)) dL_law_441 ⟨Nat.le_of_ble_eq_true rfl, Nat.le_of_ble_eq_true rfl⟩) hS (fun q _ h => hFc q h) hFc (fun r_3 u9 t9 H1 locs ht hvm hr_3 hB hz1 hk1 hS => ?_)
    try dsimp only at hr_3
    have hP1 : va_P D vwCl [] H1 := vP_nil
    have hD1 : va_D (va_A [(h0, .inr (8, [.ref s1, .ref s2, .ref s3, .ref s4, .ref s5, .ref s6, .int 65535, .null, .null])), (s4, .inr (3, [.ref p1, .ref p2, .ref p3, .ref p4, .int 0, .int 0, .int 0])), (p1, .inl (d1, 48, .inl (fun _ => 0))), (p2, .inl (d2, 48, .inl (fun _ => 0))), (p3, .inl (d3, 48, .inl (fun _ => 0))), (p4, .inl (d4, 48, .inl (fun _ => 0)))] H.size) [] := vD_nil
    obtain ⟨hP, hD⟩ := va_join (wr := [(s1, .inl (ca, 4, .inr (.inr (.inr (.inr (fun _ => none)))))), (s2, .inr (1, [.ref bx, .int (-1), .int 3, .int 255])), (bx, .inr (0, [.int 0, .int 0, .int 63, .int 63])), (s5, .inr (7, [.ref t1, .ref t2, .ref t3, .ref t4])), (t1, .inl (e1, 3, .inl (fun _ => 0))), (t2, .inl (e2, 3, .inl (fun _ => 0))), (t3, .inl (e3, 3, .inl (fun _ => 0))), (hm, .inr (9, [.ref m1, .ref m2, .ref m3, .int (-1), .int 3, .int 255, .int 0, .int 0, .int 0, .int 0, .int 0, .int 65535, .ref m4, .ref m5, .ref m6, .ref m7, .ref m8, .ref m9, .int 0, .ref m10, .ref m11, .ref m12, .ref m13])), (m1, .inl (c1, 4, .inl (fun _ => 0))), (m2, .inl (c2, 4, .inl (fun _ => 0))), (m3, .inl (c3, 16384, .inl (fun _ => 0))), (m7, .inl (c7, 48, .inl (fun _ => 0))), (m8, .inl (c8, 48, .inl (fun _ => 0))), (m9, .inl (c9, 48, .inl (fun _ => 0))), (m10, .inl (c10, 3, .inl (fun _ => 0))), (m11, .inl (c11, 3, .inl (fun _ => 0))), (m12, .inl (c12, 3, .inl (fun _ => 0)))]) (w1 := []) hP hD [0, 4, 5, 6, 7, 8] [1, 2, 3, 9, 10, 11, 12, 13, 14, 15, 16, 17, 18, 19, 20, 21, 22] rfl rfl (by decide) (by decide) hk1 hFc hP1 hD1
    clear hz1 hk1 hFc hKc hDc hPc
    generalize H1 = H at hP hS ⊢
    have hP : va_P D vwCl [(s1, .inl (ca, 4, .inr (.inr (.inr (.inr (fun _ => none)))))), (s2, .inr (1, [.ref bx, .int (-1), .int 3, .int 255])), (bx, .inr (0, [.int 0, .int 0, .int 63, .int 63])), (s5, .inr (7, [.ref t1, .ref t2, .ref t3, .ref t4])), (t1, .inl (e1, 3, .inl (fun _ => 0))), (t2, .inl (e2, 3, .inl (fun _ => 0))), (t3, .inl (e3, 3, .inl (fun _ => 0))), (hm, .inr (9, [.ref m1, .ref m2, .ref m3, .int (-1), .int 3, .int 255, .int 0, .int 0, .int 0, .int 0, .int 0, .int 65535, .ref m4, .ref m5, .ref m6, .ref m7, .ref m8, .ref m9, .int 0, .ref m10, .ref m11, .ref m12, .ref m13])), (m1, .inl (c1, 4, .inl (fun _ => 0))), (m2, .inl (c2, 4, .inl (fun _ => 0))), (m3, .inl (c3, 16384, .inl (fun _ => 0))), (m7, .inl (c7, 48, .inl (fun _ => 0))), (m8, .inl (c8, 48, .inl (fun _ => 0))), (m9, .inl (c9, 48, .inl (fun _ => 0))), (m10, .inl (c10, 3, .inl (fun _ => 0))), (m11, .inl (c11, 3, .inl (fun _ => 0))), (m12, .inl (c12, 3, .inl (fun _ => 0)))] H := hP
    have hD : va_D (fun q : Nat => s.heap.size ≤ q) [(s1, .inl (ca, 4, .inr (.inr (.inr (.inr (fun _ => none)))))), (s2, .inr (1, [.ref bx, .int (-1), .int 3, .int 255])), (bx, .inr (0, [.int 0, .int 0, .int 63, .int 63])), (s5, .inr (7, [.ref t1, .ref t2, .ref t3, .ref t4])), (t1, .inl (e1, 3, .inl (fun _ => 0))), (t2, .inl (e2, 3, .inl (fun _ => 0))), (t3, .inl (e3, 3, .inl (fun _ => 0))), (hm, .inr (9, [.ref m1, .ref m2, .ref m3, .int (-1), .int 3, .int 255, .int 0, .int 0, .int 0, .int 0, .int 0, .int 65535, .ref m4, .ref m5, .ref m6, .ref m7, .ref m8, .ref m9, .int 0, .ref m10, .ref m11, .ref m12, .ref m13])), (m1, .inl (c1, 4, .inl (fun _ => 0))), (m2, .inl (c2, 4, .inl (fun _ => 0))), (m3, .inl (c3, 16384, .inl (fun _ => 0))), (m7, .inl (c7, 48, .inl (fun _ => 0))), (m8, .inl (c8, 48, .inl (fun _ => 0))), (m9, .inl (c9, 48, .inl (fun _ => 0))), (m10, .inl (c10, 3, .inl (fun _ => 0))), (m11, .inl (c11, 3, .inl (fun _ => 0))), (m12, .inl (c12, 3, .inl (fun _ => 0)))] := hD
    refine lv_aload_n hx hb dL_law_444 rfl (lv_at hl 1 rfl) ?_
    refine lv_aload_n hx hb dL_law_445 rfl (lv_at hl 3 rfl) ?_
    refine lv_iload_n hx hb dL_law_446 rfl (lv_at hl 0 rfl) ?_
    refine lv_iconst (v := 1) hx hb dL_law_447 (by decide) ?_
    refine lv_iadd hx hb dL_law_448 ?_
    refine my_fold (v := 1) (by decide) ?_
    refine va_sld hx hb hX hbl hbA hS (i := 1) (my_in (by decide) (by decide)) dL_law_449 ?_
    refine my_topv (v := .int (xs 1)) rfl ?_
    refine lv_aload_n hx hb dL_law_450 rfl (lv_at hl 3 rfl) ?_
    refine lv_iload_n hx hb dL_law_451 rfl (lv_at hl 0 rfl) ?_
    refine lv_iconst (v := 2) hx hb dL_law_452 (by decide) ?_
    refine lv_iadd hx hb dL_law_453 ?_
    refine my_fold (v := 2) (by decide) ?_
    refine va_sld hx hb hX hbl hbA hS (i := 2) (my_in (by decide) (by decide)) dL_law_454 ?_
    refine my_topv (v := .int (xs 2)) rfl ?_
    refine lv_aload_n hx hb dL_law_455 rfl (lv_at hl 3 rfl) ?_
    refine lv_iload_n hx hb dL_law_456 rfl (lv_at hl 0 rfl) ?_
    refine lv_iconst (v := 3) hx hb dL_law_457 (by decide) ?_
    refine lv_iadd hx hb dL_law_458 ?_
    refine my_fold (v := 3) (by decide) ?_
    refine va_sld hx hb hX hbl hbA hS (i := 3) (my_in (by decide) (by decide)) dL_law_459 ?_
    refine my_topv (v := .int (xs 3)) rfl ?_
    refine lv_if_eq (tgt := 467) hx hb dL_law_460 (by decide) (fun c_4 => ?_) (fun c_4 => ?_)
    · skip
      have f_5 : (xs 3).toInt = 0 := f_eq rfl (by decide) c_4
      refine lv_iconst (v := 0) hx hb dL_law_467 (by decide) ?_
      have hPc := hP.sub (ws' := [(hm, .inr (9, [.ref m1, .ref m2, .ref m3, .int (-1), .int 3, .int 255, .int 0, .int 0, .int 0, .int 0, .int 0, .int 65535, .ref m4, .ref m5, .ref m6, .ref m7, .ref m8, .ref m9, .int 0, .ref m10, .ref m11, .ref m12, .ref m13])), (m7, .inl (c7, 48, .inl (fun _ => 0))), (m8, .inl (c8, 48, .inl (fun _ => 0))), (m9, .inl (c9, 48, .inl (fun _ => 0)))]) [7, 11, 12, 13] rfl
      have hDc := hD.sub (ws' := [(hm, .inr (9, [.ref m1, .ref m2, .ref m3, .int (-1), .int 3, .int 255, .int 0, .int 0, .int 0, .int 0, .int 0, .int 65535, .ref m4, .ref m5, .ref m6, .ref m7, .ref m8, .ref m9, .int 0, .ref m10, .ref m11, .ref m12, .ref m13])), (m7, .inl (c7, 48, .inl (fun _ => 0))), (m8, .inl (c8, 48, .inl (fun _ => 0))), (m9, .inl (c9, 48, .inl (fun _ => 0)))]) [7, 11, 12, 13] (by decide) rfl
      have hKc := hK.sub (tys' := [(c7, .int), (c8, .int), (c9, .boolean)]) [11, 12, 13] rfl
      have hFc := va_free (wc := [(hm, .inr (9, [.ref m1, .ref m2, .ref m3, .int (-1), .int 3, .int 255, .int 0, .int 0, .int 0, .int 0, .int 0, .int 65535, .ref m4, .ref m5, .ref m6, .ref m7, .ref m8, .ref m9, .int 0, .ref m10, .ref m11, .ref m12, .ref m13])), (m7, .inl (c7, 48, .inl (fun _ => 0))), (m8, .inl (c8, 48, .inl (fun _ => 0))), (m9, .inl (c9, 48, .inl (fun _ => 0)))]) hD hS hA [7, 11, 12, 13] rfl
      refine va_calli (va_runV (As := [.int (xs 1), .int (xs 2), .int 0]) (rest := [.int r_3]) ⟨hx, hb, hml, hown, hts⟩ (k_X9_point l D H.size hm m1 m2 m3 m4 m5 m6 m7 m8 m9 m10 m11 m12 m13 c7 c8 c9 (xs 1) (xs 2) 0) (cwV 3 hts (gV bw_260 bw_261 bw_262 bw_11 bw_259) rfl rfl rfl (by decide +kernel) ⟨Nat.le_of_ble_eq_true rfl, Nat.le_of_ble_eq_true rfl⟩) ⟨cP_blind, va_recv hKc hPc (ci := 9) (q0 := 0) rfl rfl, cP_at hPc hKc hDc hN⟩ rfl rfl hl.1 rfl (lv_room (Nat.le_of_ble_eq_true rfl)) dL_law_468 ⟨Nat.le_of_ble_eq_true rfl, Nat.le_of_ble_eq_true rfl⟩) hS (fun q _ h => hFc q h) hFc (fun r_6 u9 t9 H1 locs ht hvm hr_6 hB hz1 hk1 hS => ?_)
      try dsimp only at hr_6
      have hP1 : va_P D vwCl [] H1 := vP_nil
      have hD1 : va_D (va_A [(hm, .inr (9, [.ref m1, .ref m2, .ref m3, .int (-1), .int 3, .int 255, .int 0, .int 0, .int 0, .int 0, .int 0, .int 65535, .ref m4, .ref m5, .ref m6, .ref m7, .ref m8, .ref m9, .int 0, .ref m10, .ref m11, .ref m12, .ref m13])), (m7, .inl (c7, 48, .inl (fun _ => 0))), (m8, .inl (c8, 48, .inl (fun _ => 0))), (m9, .inl (c9, 48, .inl (fun _ => 0)))] H.size) [] := vD_nil
      obtain ⟨hP, hD⟩ := va_join (wr := [(s1, .inl (ca, 4, .inr (.inr (.inr (.inr (fun _ => none)))))), (s2, .inr (1, [.ref bx, .int (-1), .int 3, .int 255])), (bx, .inr (0, [.int 0, .int 0, .int 63, .int 63])), (s5, .inr (7, [.ref t1, .ref t2, .ref t3, .ref t4])), (t1, .inl (e1, 3, .inl (fun _ => 0))), (t2, .inl (e2, 3, .inl (fun _ => 0))), (t3, .inl (e3, 3, .inl (fun _ => 0))), (m1, .inl (c1, 4, .inl (fun _ => 0))), (m2, .inl (c2, 4, .inl (fun _ => 0))), (m3, .inl (c3, 16384, .inl (fun _ => 0))), (m10, .inl (c10, 3, .inl (fun _ => 0))), (m11, .inl (c11, 3, .inl (fun _ => 0))), (m12, .inl (c12, 3, .inl (fun _ => 0)))]) (w1 := []) hP hD [7, 11, 12, 13] [0, 1, 2, 3, 4, 5, 6, 8, 9, 10, 14, 15, 16] rfl rfl (by decide) (by decide) hk1 hFc hP1 hD1
      clear hz1 hk1 hFc hKc hDc hPc
      generalize H1 = H at hP hS ⊢
      have hP : va_P D vwCl [(s1, .inl (ca, 4, .inr (.inr (.inr (.inr (fun _ => none)))))), (s2, .inr (1, [.ref bx, .int (-1), .int 3, .int 255])), (bx, .inr (0, [.int 0, .int 0, .int 63, .int 63])), (s5, .inr (7, [.ref t1, .ref t2, .ref t3, .ref t4])), (t1, .inl (e1, 3, .inl (fun _ => 0))), (t2, .inl (e2, 3, .inl (fun _ => 0))), (t3, .inl (e3, 3, .inl (fun _ => 0))), (m1, .inl (c1, 4, .inl (fun _ => 0))), (m2, .inl (c2, 4, .inl (fun _ => 0))), (m3, .inl (c3, 16384, .inl (fun _ => 0))), (m10, .inl (c10, 3, .inl (fun _ => 0))), (m11, .inl (c11, 3, .inl (fun _ => 0))), (m12, .inl (c12, 3, .inl (fun _ => 0)))] H := hP
      have hD : va_D (fun q : Nat => s.heap.size ≤ q) [(s1, .inl (ca, 4, .inr (.inr (.inr (.inr (fun _ => none)))))), (s2, .inr (1, [.ref bx, .int (-1), .int 3, .int 255])), (bx, .inr (0, [.int 0, .int 0, .int 63, .int 63])), (s5, .inr (7, [.ref t1, .ref t2, .ref t3, .ref t4])), (t1, .inl (e1, 3, .inl (fun _ => 0))), (t2, .inl (e2, 3, .inl (fun _ => 0))), (t3, .inl (e3, 3, .inl (fun _ => 0))), (m1, .inl (c1, 4, .inl (fun _ => 0))), (m2, .inl (c2, 4, .inl (fun _ => 0))), (m3, .inl (c3, 16384, .inl (fun _ => 0))), (m10, .inl (c10, 3, .inl (fun _ => 0))), (m11, .inl (c11, 3, .inl (fun _ => 0))), (m12, .inl (c12, 3, .inl (fun _ => 0)))] := hD
      refine lv_icmp_eq (tgt := 1167) hx hb dL_law_471 (by decide) (fun c_7 => ?_) (fun c_7 => ?_)
      · skip
        have f_8 : r_3.toInt = r_6.toInt := f_eq rfl rfl c_7
        exact law_tail C0 (by omega) (by omega) hS (lv_sub hl [0, 3] rfl)
      · skip
        exact absurd (hr_3.trans hr_6.symm) c_7
    · skip
      exact absurd c_1 c_4
  · skip
    have f_2 : ¬ ((xs 3).toInt = 0) := fn_eq rfl (by decide) c_1
    refine lv_iconst (v := 1) hx hb dL_law_436 (by decide) ?_
    refine lv_goto (tgt := 441) hx hb dL_law_437 (by decide) ?_
    have hPc := hP.sub (ws' := [(h0, .inr (8, [.ref s1, .ref s2, .ref s3, .ref s4, .ref s5, .ref s6, .int 65535, .null, .null])), (s4, .inr (3, [.ref p1, .ref p2, .ref p3, .ref p4, .int 0, .int 0, .int 0])), (p1, .inl (d1, 48, .inl (fun _ => 0))), (p2, .inl (d2, 48, .inl (fun _ => 0))), (p3, .inl (d3, 48, .inl (fun _ => 0))), (p4, .inl (d4, 48, .inl (fun _ => 0)))]) [0, 4, 5, 6, 7, 8] rfl
    have hDc := hD.sub (ws' := [(h0, .inr (8, [.ref s1, .ref s2, .ref s3, .ref s4, .ref s5, .ref s6, .int 65535, .null, .null])), (s4, .inr (3, [.ref p1, .ref p2, .ref p3, .ref p4, .int 0, .int 0, .int 0])), (p1, .inl (d1, 48, .inl (fun _ => 0))), (p2, .inl (d2, 48, .inl (fun _ => 0))), (p3, .inl (d3, 48, .inl (fun _ => 0))), (p4, .inl (d4, 48, .inl (fun _ => 0)))]) [0, 4, 5, 6, 7, 8] (by decide) rfl
    have hKc := hK.sub (tys' := [(d1, .int), (d2, .int), (d3, .int), (d4, .int)]) [1, 2, 3, 4] rfl
    have hFc := va_free (wc := [(h0, .inr (8, [.ref s1, .ref s2, .ref s3, .ref s4, .ref s5, .ref s6, .int 65535, .null, .null])), (s4, .inr (3, [.ref p1, .ref p2, .ref p3, .ref p4, .int 0, .int 0, .int 0])), (p1, .inl (d1, 48, .inl (fun _ => 0))), (p2, .inl (d2, 48, .inl (fun _ => 0))), (p3, .inl (d3, 48, .inl (fun _ => 0))), (p4, .inl (d4, 48, .inl (fun _ => 0)))]) hD hS hA [0, 4, 5, 6, 7, 8] rfl
    refine va_calli (va_runV (As := [.int (xs 1), .int (xs 2), .int 1]) (rest := []) ⟨hx, hb, hml, hown, hts⟩ (k_X8_point l D H.size h0 s1 s2 s3 s4 s5 s6 p1 p2 p3 p4 d1 d2 d3 d4 (xs 1) (xs 2) 1) (cwV 3 hts (gV bw_256 bw_257 bw_258 bw_1 bw_255) rfl rfl rfl (by decide +kernel) ⟨Nat.le_of_ble_eq_true rfl, Nat.le_of_ble_eq_true rfl⟩) ⟨cP_blind, va_recv hKc hPc (ci := 8) (q0 := 0) rfl rfl, cP_at hPc hKc hDc hN⟩ rfl rfl hl.1 rfl (lv_room (Nat.le_of_ble_eq_true rfl)) dL_law_441 ⟨Nat.le_of_ble_eq_true rfl, Nat.le_of_ble_eq_true rfl⟩) hS (fun q _ h => hFc q h) hFc (fun r_9 u9 t9 H1 locs ht hvm hr_9 hB hz1 hk1 hS => ?_)
    try dsimp only at hr_9
    have hP1 : va_P D vwCl [] H1 := vP_nil
    have hD1 : va_D (va_A [(h0, .inr (8, [.ref s1, .ref s2, .ref s3, .ref s4, .ref s5, .ref s6, .int 65535, .null, .null])), (s4, .inr (3, [.ref p1, .ref p2, .ref p3, .ref p4, .int 0, .int 0, .int 0])), (p1, .inl (d1, 48, .inl (fun _ => 0))), (p2, .inl (d2, 48, .inl (fun _ => 0))), (p3, .inl (d3, 48, .inl (fun _ => 0))), (p4, .inl (d4, 48, .inl (fun _ => 0)))] H.size) [] := vD_nil
    obtain ⟨hP, hD⟩ := va_join (wr := [(s1, .inl (ca, 4, .inr (.inr (.inr (.inr (fun _ => none)))))), (s2, .inr (1, [.ref bx, .int (-1), .int 3, .int 255])), (bx, .inr (0, [.int 0, .int 0, .int 63, .int 63])), (s5, .inr (7, [.ref t1, .ref t2, .ref t3, .ref t4])), (t1, .inl (e1, 3, .inl (fun _ => 0))), (t2, .inl (e2, 3, .inl (fun _ => 0))), (t3, .inl (e3, 3, .inl (fun _ => 0))), (hm, .inr (9, [.ref m1, .ref m2, .ref m3, .int (-1), .int 3, .int 255, .int 0, .int 0, .int 0, .int 0, .int 0, .int 65535, .ref m4, .ref m5, .ref m6, .ref m7, .ref m8, .ref m9, .int 0, .ref m10, .ref m11, .ref m12, .ref m13])), (m1, .inl (c1, 4, .inl (fun _ => 0))), (m2, .inl (c2, 4, .inl (fun _ => 0))), (m3, .inl (c3, 16384, .inl (fun _ => 0))), (m7, .inl (c7, 48, .inl (fun _ => 0))), (m8, .inl (c8, 48, .inl (fun _ => 0))), (m9, .inl (c9, 48, .inl (fun _ => 0))), (m10, .inl (c10, 3, .inl (fun _ => 0))), (m11, .inl (c11, 3, .inl (fun _ => 0))), (m12, .inl (c12, 3, .inl (fun _ => 0)))]) (w1 := []) hP hD [0, 4, 5, 6, 7, 8] [1, 2, 3, 9, 10, 11, 12, 13, 14, 15, 16, 17, 18, 19, 20, 21, 22] rfl rfl (by decide) (by decide) hk1 hFc hP1 hD1
    clear hz1 hk1 hFc hKc hDc hPc
    generalize H1 = H at hP hS ⊢
    have hP : va_P D vwCl [(s1, .inl (ca, 4, .inr (.inr (.inr (.inr (fun _ => none)))))), (s2, .inr (1, [.ref bx, .int (-1), .int 3, .int 255])), (bx, .inr (0, [.int 0, .int 0, .int 63, .int 63])), (s5, .inr (7, [.ref t1, .ref t2, .ref t3, .ref t4])), (t1, .inl (e1, 3, .inl (fun _ => 0))), (t2, .inl (e2, 3, .inl (fun _ => 0))), (t3, .inl (e3, 3, .inl (fun _ => 0))), (hm, .inr (9, [.ref m1, .ref m2, .ref m3, .int (-1), .int 3, .int 255, .int 0, .int 0, .int 0, .int 0, .int 0, .int 65535, .ref m4, .ref m5, .ref m6, .ref m7, .ref m8, .ref m9, .int 0, .ref m10, .ref m11, .ref m12, .ref m13])), (m1, .inl (c1, 4, .inl (fun _ => 0))), (m2, .inl (c2, 4, .inl (fun _ => 0))), (m3, .inl (c3, 16384, .inl (fun _ => 0))), (m7, .inl (c7, 48, .inl (fun _ => 0))), (m8, .inl (c8, 48, .inl (fun _ => 0))), (m9, .inl (c9, 48, .inl (fun _ => 0))), (m10, .inl (c10, 3, .inl (fun _ => 0))), (m11, .inl (c11, 3, .inl (fun _ => 0))), (m12, .inl (c12, 3, .inl (fun _ => 0)))] H := hP
    have hD : va_D (fun q : Nat => s.heap.size ≤ q) [(s1, .inl (ca, 4, .inr (.inr (.inr (.inr (fun _ => none)))))), (s2, .inr (1, [.ref bx, .int (-1), .int 3, .int 255])), (bx, .inr (0, [.int 0, .int 0, .int 63, .int 63])), (s5, .inr (7, [.ref t1, .ref t2, .ref t3, .ref t4])), (t1, .inl (e1, 3, .inl (fun _ => 0))), (t2, .inl (e2, 3, .inl (fun _ => 0))), (t3, .inl (e3, 3, .inl (fun _ => 0))), (hm, .inr (9, [.ref m1, .ref m2, .ref m3, .int (-1), .int 3, .int 255, .int 0, .int 0, .int 0, .int 0, .int 0, .int 65535, .ref m4, .ref m5, .ref m6, .ref m7, .ref m8, .ref m9, .int 0, .ref m10, .ref m11, .ref m12, .ref m13])), (m1, .inl (c1, 4, .inl (fun _ => 0))), (m2, .inl (c2, 4, .inl (fun _ => 0))), (m3, .inl (c3, 16384, .inl (fun _ => 0))), (m7, .inl (c7, 48, .inl (fun _ => 0))), (m8, .inl (c8, 48, .inl (fun _ => 0))), (m9, .inl (c9, 48, .inl (fun _ => 0))), (m10, .inl (c10, 3, .inl (fun _ => 0))), (m11, .inl (c11, 3, .inl (fun _ => 0))), (m12, .inl (c12, 3, .inl (fun _ => 0)))] := hD
    refine lv_aload_n hx hb dL_law_444 rfl (lv_at hl 1 rfl) ?_
    refine lv_aload_n hx hb dL_law_445 rfl (lv_at hl 3 rfl) ?_
    refine lv_iload_n hx hb dL_law_446 rfl (lv_at hl 0 rfl) ?_
    refine lv_iconst (v := 1) hx hb dL_law_447 (by decide) ?_
    refine lv_iadd hx hb dL_law_448 ?_
    refine my_fold (v := 1) (by decide) ?_
    refine va_sld hx hb hX hbl hbA hS (i := 1) (my_in (by decide) (by decide)) dL_law_449 ?_
    refine my_topv (v := .int (xs 1)) rfl ?_
    refine lv_aload_n hx hb dL_law_450 rfl (lv_at hl 3 rfl) ?_
    refine lv_iload_n hx hb dL_law_451 rfl (lv_at hl 0 rfl) ?_
    refine lv_iconst (v := 2) hx hb dL_law_452 (by decide) ?_
    refine lv_iadd hx hb dL_law_453 ?_
    refine my_fold (v := 2) (by decide) ?_
    refine va_sld hx hb hX hbl hbA hS (i := 2) (my_in (by decide) (by decide)) dL_law_454 ?_
    refine my_topv (v := .int (xs 2)) rfl ?_
    refine lv_aload_n hx hb dL_law_455 rfl (lv_at hl 3 rfl) ?_
    refine lv_iload_n hx hb dL_law_456 rfl (lv_at hl 0 rfl) ?_
    refine lv_iconst (v := 3) hx hb dL_law_457 (by decide) ?_
    refine lv_iadd hx hb dL_law_458 ?_
    refine my_fold (v := 3) (by decide) ?_
    refine va_sld hx hb hX hbl hbA hS (i := 3) (my_in (by decide) (by decide)) dL_law_459 ?_
    refine my_topv (v := .int (xs 3)) rfl ?_
    refine lv_if_eq (tgt := 467) hx hb dL_law_460 (by decide) (fun c_10 => ?_) (fun c_10 => ?_)
    · skip
      exact absurd c_10 c_1
    · skip
      have f_11 : ¬ ((xs 3).toInt = 0) := fn_eq rfl (by decide) c_10
      refine lv_iconst (v := 1) hx hb dL_law_463 (by decide) ?_
      refine lv_goto (tgt := 468) hx hb dL_law_464 (by decide) ?_
      have hPc := hP.sub (ws' := [(hm, .inr (9, [.ref m1, .ref m2, .ref m3, .int (-1), .int 3, .int 255, .int 0, .int 0, .int 0, .int 0, .int 0, .int 65535, .ref m4, .ref m5, .ref m6, .ref m7, .ref m8, .ref m9, .int 0, .ref m10, .ref m11, .ref m12, .ref m13])), (m7, .inl (c7, 48, .inl (fun _ => 0))), (m8, .inl (c8, 48, .inl (fun _ => 0))), (m9, .inl (c9, 48, .inl (fun _ => 0)))]) [7, 11, 12, 13] rfl
      have hDc := hD.sub (ws' := [(hm, .inr (9, [.ref m1, .ref m2, .ref m3, .int (-1), .int 3, .int 255, .int 0, .int 0, .int 0, .int 0, .int 0, .int 65535, .ref m4, .ref m5, .ref m6, .ref m7, .ref m8, .ref m9, .int 0, .ref m10, .ref m11, .ref m12, .ref m13])), (m7, .inl (c7, 48, .inl (fun _ => 0))), (m8, .inl (c8, 48, .inl (fun _ => 0))), (m9, .inl (c9, 48, .inl (fun _ => 0)))]) [7, 11, 12, 13] (by decide) rfl
      have hKc := hK.sub (tys' := [(c7, .int), (c8, .int), (c9, .boolean)]) [11, 12, 13] rfl
      have hFc := va_free (wc := [(hm, .inr (9, [.ref m1, .ref m2, .ref m3, .int (-1), .int 3, .int 255, .int 0, .int 0, .int 0, .int 0, .int 0, .int 65535, .ref m4, .ref m5, .ref m6, .ref m7, .ref m8, .ref m9, .int 0, .ref m10, .ref m11, .ref m12, .ref m13])), (m7, .inl (c7, 48, .inl (fun _ => 0))), (m8, .inl (c8, 48, .inl (fun _ => 0))), (m9, .inl (c9, 48, .inl (fun _ => 0)))]) hD hS hA [7, 11, 12, 13] rfl
      refine va_calli (va_runV (As := [.int (xs 1), .int (xs 2), .int 1]) (rest := [.int r_9]) ⟨hx, hb, hml, hown, hts⟩ (k_X9_point l D H.size hm m1 m2 m3 m4 m5 m6 m7 m8 m9 m10 m11 m12 m13 c7 c8 c9 (xs 1) (xs 2) 1) (cwV 3 hts (gV bw_260 bw_261 bw_262 bw_11 bw_259) rfl rfl rfl (by decide +kernel) ⟨Nat.le_of_ble_eq_true rfl, Nat.le_of_ble_eq_true rfl⟩) ⟨cP_blind, va_recv hKc hPc (ci := 9) (q0 := 0) rfl rfl, cP_at hPc hKc hDc hN⟩ rfl rfl hl.1 rfl (lv_room (Nat.le_of_ble_eq_true rfl)) dL_law_468 ⟨Nat.le_of_ble_eq_true rfl, Nat.le_of_ble_eq_true rfl⟩) hS (fun q _ h => hFc q h) hFc (fun r_12 u9 t9 H1 locs ht hvm hr_12 hB hz1 hk1 hS => ?_)
      try dsimp only at hr_12
      have hP1 : va_P D vwCl [] H1 := vP_nil
      have hD1 : va_D (va_A [(hm, .inr (9, [.ref m1, .ref m2, .ref m3, .int (-1), .int 3, .int 255, .int 0, .int 0, .int 0, .int 0, .int 0, .int 65535, .ref m4, .ref m5, .ref m6, .ref m7, .ref m8, .ref m9, .int 0, .ref m10, .ref m11, .ref m12, .ref m13])), (m7, .inl (c7, 48, .inl (fun _ => 0))), (m8, .inl (c8, 48, .inl (fun _ => 0))), (m9, .inl (c9, 48, .inl (fun _ => 0)))] H.size) [] := vD_nil
      obtain ⟨hP, hD⟩ := va_join (wr := [(s1, .inl (ca, 4, .inr (.inr (.inr (.inr (fun _ => none)))))), (s2, .inr (1, [.ref bx, .int (-1), .int 3, .int 255])), (bx, .inr (0, [.int 0, .int 0, .int 63, .int 63])), (s5, .inr (7, [.ref t1, .ref t2, .ref t3, .ref t4])), (t1, .inl (e1, 3, .inl (fun _ => 0))), (t2, .inl (e2, 3, .inl (fun _ => 0))), (t3, .inl (e3, 3, .inl (fun _ => 0))), (m1, .inl (c1, 4, .inl (fun _ => 0))), (m2, .inl (c2, 4, .inl (fun _ => 0))), (m3, .inl (c3, 16384, .inl (fun _ => 0))), (m10, .inl (c10, 3, .inl (fun _ => 0))), (m11, .inl (c11, 3, .inl (fun _ => 0))), (m12, .inl (c12, 3, .inl (fun _ => 0)))]) (w1 := []) hP hD [7, 11, 12, 13] [0, 1, 2, 3, 4, 5, 6, 8, 9, 10, 14, 15, 16] rfl rfl (by decide) (by decide) hk1 hFc hP1 hD1
      clear hz1 hk1 hFc hKc hDc hPc
      generalize H1 = H at hP hS ⊢
      have hP : va_P D vwCl [(s1, .inl (ca, 4, .inr (.inr (.inr (.inr (fun _ => none)))))), (s2, .inr (1, [.ref bx, .int (-1), .int 3, .int 255])), (bx, .inr (0, [.int 0, .int 0, .int 63, .int 63])), (s5, .inr (7, [.ref t1, .ref t2, .ref t3, .ref t4])), (t1, .inl (e1, 3, .inl (fun _ => 0))), (t2, .inl (e2, 3, .inl (fun _ => 0))), (t3, .inl (e3, 3, .inl (fun _ => 0))), (m1, .inl (c1, 4, .inl (fun _ => 0))), (m2, .inl (c2, 4, .inl (fun _ => 0))), (m3, .inl (c3, 16384, .inl (fun _ => 0))), (m10, .inl (c10, 3, .inl (fun _ => 0))), (m11, .inl (c11, 3, .inl (fun _ => 0))), (m12, .inl (c12, 3, .inl (fun _ => 0)))] H := hP
      have hD : va_D (fun q : Nat => s.heap.size ≤ q) [(s1, .inl (ca, 4, .inr (.inr (.inr (.inr (fun _ => none)))))), (s2, .inr (1, [.ref bx, .int (-1), .int 3, .int 255])), (bx, .inr (0, [.int 0, .int 0, .int 63, .int 63])), (s5, .inr (7, [.ref t1, .ref t2, .ref t3, .ref t4])), (t1, .inl (e1, 3, .inl (fun _ => 0))), (t2, .inl (e2, 3, .inl (fun _ => 0))), (t3, .inl (e3, 3, .inl (fun _ => 0))), (m1, .inl (c1, 4, .inl (fun _ => 0))), (m2, .inl (c2, 4, .inl (fun _ => 0))), (m3, .inl (c3, 16384, .inl (fun _ => 0))), (m10, .inl (c10, 3, .inl (fun _ => 0))), (m11, .inl (c11, 3, .inl (fun _ => 0))), (m12, .inl (c12, 3, .inl (fun _ => 0)))] := hD
      refine lv_icmp_eq (tgt := 1167) hx hb dL_law_471 (by decide) (fun c_13 => ?_) (fun c_13 => ?_)
      · skip
        have f_14 : r_9.toInt = r_12.toInt := f_eq rfl rfl c_13
        exact law_tail C0 (by omega) (by omega) hS (lv_sub hl [0, 3] rfl)
      · skip
        exact absurd (hr_9.trans hr_12.symm) c_13

set_option maxHeartbeats 4000000 in
set_option maxRecDepth 100000 in
theorem law_c8 {p : Program} {l : Launch} {e : Env} {s : State} {m : MethodId} {below : List Frame} {meth : Method} {c : Code} {b : Nat} {xs : Nat → Int32} (C0 : lw_At p s m meth c b 11 xs) (hN : nW s) {D : va_G} {h0 s1 s2 s3 s4 s5 s6 bx p1 p2 p3 p4 t1 t2 t3 t4 hm m1 m2 m3 m4 m5 m6 m7 m8 m9 m10 m11 m12 m13 : Nat} {ca d1 d2 d3 d4 e1 e2 e3 c1 c2 c3 c7 c8 c9 c10 c11 c12 : ClassId} {H : Heap} {locs : List Loc} (hK : va_K D vwCl [(ca, .object "DotBench$Sheet"), (d1, .int), (d2, .int), (d3, .int), (d4, .int), (e1, .int), (e2, .int), (e3, .int), (c1, .int), (c2, .int), (c3, .int), (c7, .int), (c8, .int), (c9, .boolean), (c10, .int), (c11, .int), (c12, .int)] s) (hP : va_P D vwCl [(h0, .inr (8, [.ref s1, .ref s2, .ref s3, .ref s4, .ref s5, .ref s6, .int 65535, .null, .null])), (s1, .inl (ca, 4, .inr (.inr (.inr (.inr (fun _ => none)))))), (s2, .inr (1, [.ref bx, .int (-1), .int 3, .int 255])), (bx, .inr (0, [.int 0, .int 0, .int 63, .int 63])), (s4, .inr (3, [.ref p1, .ref p2, .ref p3, .ref p4, .int 0, .int 0, .int 0])), (p1, .inl (d1, 48, .inl (fun _ => 0))), (p2, .inl (d2, 48, .inl (fun _ => 0))), (p3, .inl (d3, 48, .inl (fun _ => 0))), (p4, .inl (d4, 48, .inl (fun _ => 0))), (s5, .inr (7, [.ref t1, .ref t2, .ref t3, .ref t4])), (t1, .inl (e1, 3, .inl (fun _ => 0))), (t2, .inl (e2, 3, .inl (fun _ => 0))), (t3, .inl (e3, 3, .inl (fun _ => 0))), (hm, .inr (9, [.ref m1, .ref m2, .ref m3, .int (-1), .int 3, .int 255, .int 0, .int 0, .int 0, .int 0, .int 0, .int 65535, .ref m4, .ref m5, .ref m6, .ref m7, .ref m8, .ref m9, .int 0, .ref m10, .ref m11, .ref m12, .ref m13])), (m1, .inl (c1, 4, .inl (fun _ => 0))), (m2, .inl (c2, 4, .inl (fun _ => 0))), (m3, .inl (c3, 16384, .inl (fun _ => 0))), (m7, .inl (c7, 48, .inl (fun _ => 0))), (m8, .inl (c8, 48, .inl (fun _ => 0))), (m9, .inl (c9, 48, .inl (fun _ => 0))), (m10, .inl (c10, 3, .inl (fun _ => 0))), (m11, .inl (c11, 3, .inl (fun _ => 0))), (m12, .inl (c12, 3, .inl (fun _ => 0)))] H) (hD : va_D (fun q : Nat => s.heap.size ≤ q) [(h0, .inr (8, [.ref s1, .ref s2, .ref s3, .ref s4, .ref s5, .ref s6, .int 65535, .null, .null])), (s1, .inl (ca, 4, .inr (.inr (.inr (.inr (fun _ => none)))))), (s2, .inr (1, [.ref bx, .int (-1), .int 3, .int 255])), (bx, .inr (0, [.int 0, .int 0, .int 63, .int 63])), (s4, .inr (3, [.ref p1, .ref p2, .ref p3, .ref p4, .int 0, .int 0, .int 0])), (p1, .inl (d1, 48, .inl (fun _ => 0))), (p2, .inl (d2, 48, .inl (fun _ => 0))), (p3, .inl (d3, 48, .inl (fun _ => 0))), (p4, .inl (d4, 48, .inl (fun _ => 0))), (s5, .inr (7, [.ref t1, .ref t2, .ref t3, .ref t4])), (t1, .inl (e1, 3, .inl (fun _ => 0))), (t2, .inl (e2, 3, .inl (fun _ => 0))), (t3, .inl (e3, 3, .inl (fun _ => 0))), (hm, .inr (9, [.ref m1, .ref m2, .ref m3, .int (-1), .int 3, .int 255, .int 0, .int 0, .int 0, .int 0, .int 0, .int 65535, .ref m4, .ref m5, .ref m6, .ref m7, .ref m8, .ref m9, .int 0, .ref m10, .ref m11, .ref m12, .ref m13])), (m1, .inl (c1, 4, .inl (fun _ => 0))), (m2, .inl (c2, 4, .inl (fun _ => 0))), (m3, .inl (c3, 16384, .inl (fun _ => 0))), (m7, .inl (c7, 48, .inl (fun _ => 0))), (m8, .inl (c8, 48, .inl (fun _ => 0))), (m9, .inl (c9, 48, .inl (fun _ => 0))), (m10, .inl (c10, 3, .inl (fun _ => 0))), (m11, .inl (c11, 3, .inl (fun _ => 0))), (m12, .inl (c12, 3, .inl (fun _ => 0)))]) (hS : va_S (fun q : Nat => s.heap.size ≤ q) s.heap H locs) {ls : Array Slot} (hl : lv_has ls 4 [(3, .int 0), (2, .ref hm), (1, .ref h0), (0, .ref b)]) : W p l e room_1 s m #[Value.ref b] below meth c H locs 36 33710 (lw_Z below #[Value.ref b] s) (F0 m 476 ls []) := by
  obtain ⟨hx, hb, hr, hml, hown, hts0, hX, hbl, hlocks, hgv⟩ := id C0
  have hts : ∀ w ∈ bigW, w.before #[Value.ref b] s = true := fun w h => hts0 w (bigW_in w h).1
  have hown : s.vm.findClass RL = some m.cls := hown
  have hA : ∀ q : Nat, s.heap.size ≤ q → (fun q : Nat => s.heap.size ≤ q) q := fun _ h => h
  have hbA : ¬ (fun q : Nat => s.heap.size ≤ q) b := Nat.not_le.mpr hbl
  refine lv_aload_n hx hb dL_law_476 rfl (lv_at hl 2 rfl) ?_
  have hPc := hP.sub (ws' := [(h0, .inr (8, [.ref s1, .ref s2, .ref s3, .ref s4, .ref s5, .ref s6, .int 65535, .null, .null])), (s4, .inr (3, [.ref p1, .ref p2, .ref p3, .ref p4, .int 0, .int 0, .int 0]))]) [0, 4] rfl
  have hDc := hD.sub (ws' := [(h0, .inr (8, [.ref s1, .ref s2, .ref s3, .ref s4, .ref s5, .ref s6, .int 65535, .null, .null])), (s4, .inr (3, [.ref p1, .ref p2, .ref p3, .ref p4, .int 0, .int 0, .int 0]))]) [0, 4] (by decide) rfl
  have hKc := hK.sub (tys' := []) [] rfl
  have hFc := va_free (wc := [(h0, .inr (8, [.ref s1, .ref s2, .ref s3, .ref s4, .ref s5, .ref s6, .int 65535, .null, .null])), (s4, .inr (3, [.ref p1, .ref p2, .ref p3, .ref p4, .int 0, .int 0, .int 0]))]) hD hS hA [0, 4] rfl
  refine va_callv (va_runV (As := []) (rest := []) ⟨hx, hb, hml, hown, hts⟩ (k_X8_clear l D H.size h0 s1 s2 s3 s4 s5 s6 p1 p2 p3 p4) (cwV 0 hts (gV bw_264 bw_265 bw_266 bw_1 bw_263) rfl rfl rfl (by decide +kernel) ⟨Nat.le_of_ble_eq_true rfl, Nat.le_of_ble_eq_true rfl⟩) ⟨cP_blind, va_recv hKc hPc (ci := 8) (q0 := 0) rfl rfl, cP_at hPc hKc hDc hN⟩ rfl rfl hl.1 rfl (lv_room (Nat.le_of_ble_eq_true rfl)) dL_law_477 ⟨Nat.le_of_ble_eq_true rfl, Nat.le_of_ble_eq_true rfl⟩) hS (fun q _ h => hFc q h) hFc (fun u9 t9 H1 locs ht hvm hr_1 hB hz1 hk1 hS => ?_)
  try dsimp only at hr_1
  have hP1 : va_P D vwCl [] H1 := vP_nil
  have hD1 : va_D (va_A [(h0, .inr (8, [.ref s1, .ref s2, .ref s3, .ref s4, .ref s5, .ref s6, .int 65535, .null, .null])), (s4, .inr (3, [.ref p1, .ref p2, .ref p3, .ref p4, .int 0, .int 0, .int 0]))] H.size) [] := vD_nil
  obtain ⟨hP, hD⟩ := va_join (wr := [(s1, .inl (ca, 4, .inr (.inr (.inr (.inr (fun _ => none)))))), (s2, .inr (1, [.ref bx, .int (-1), .int 3, .int 255])), (bx, .inr (0, [.int 0, .int 0, .int 63, .int 63])), (p1, .inl (d1, 48, .inl (fun _ => 0))), (p2, .inl (d2, 48, .inl (fun _ => 0))), (p3, .inl (d3, 48, .inl (fun _ => 0))), (p4, .inl (d4, 48, .inl (fun _ => 0))), (s5, .inr (7, [.ref t1, .ref t2, .ref t3, .ref t4])), (t1, .inl (e1, 3, .inl (fun _ => 0))), (t2, .inl (e2, 3, .inl (fun _ => 0))), (t3, .inl (e3, 3, .inl (fun _ => 0))), (hm, .inr (9, [.ref m1, .ref m2, .ref m3, .int (-1), .int 3, .int 255, .int 0, .int 0, .int 0, .int 0, .int 0, .int 65535, .ref m4, .ref m5, .ref m6, .ref m7, .ref m8, .ref m9, .int 0, .ref m10, .ref m11, .ref m12, .ref m13])), (m1, .inl (c1, 4, .inl (fun _ => 0))), (m2, .inl (c2, 4, .inl (fun _ => 0))), (m3, .inl (c3, 16384, .inl (fun _ => 0))), (m7, .inl (c7, 48, .inl (fun _ => 0))), (m8, .inl (c8, 48, .inl (fun _ => 0))), (m9, .inl (c9, 48, .inl (fun _ => 0))), (m10, .inl (c10, 3, .inl (fun _ => 0))), (m11, .inl (c11, 3, .inl (fun _ => 0))), (m12, .inl (c12, 3, .inl (fun _ => 0)))]) (w1 := []) hP hD [0, 4] [1, 2, 3, 5, 6, 7, 8, 9, 10, 11, 12, 13, 14, 15, 16, 17, 18, 19, 20, 21, 22] rfl rfl (by decide) (by decide) hk1 hFc hP1 hD1
  clear hz1 hk1 hFc hKc hDc hPc
  generalize H1 = H at hP hS ⊢
  have hP : va_P D vwCl [(s1, .inl (ca, 4, .inr (.inr (.inr (.inr (fun _ => none)))))), (s2, .inr (1, [.ref bx, .int (-1), .int 3, .int 255])), (bx, .inr (0, [.int 0, .int 0, .int 63, .int 63])), (p1, .inl (d1, 48, .inl (fun _ => 0))), (p2, .inl (d2, 48, .inl (fun _ => 0))), (p3, .inl (d3, 48, .inl (fun _ => 0))), (p4, .inl (d4, 48, .inl (fun _ => 0))), (s5, .inr (7, [.ref t1, .ref t2, .ref t3, .ref t4])), (t1, .inl (e1, 3, .inl (fun _ => 0))), (t2, .inl (e2, 3, .inl (fun _ => 0))), (t3, .inl (e3, 3, .inl (fun _ => 0))), (hm, .inr (9, [.ref m1, .ref m2, .ref m3, .int (-1), .int 3, .int 255, .int 0, .int 0, .int 0, .int 0, .int 0, .int 65535, .ref m4, .ref m5, .ref m6, .ref m7, .ref m8, .ref m9, .int 0, .ref m10, .ref m11, .ref m12, .ref m13])), (m1, .inl (c1, 4, .inl (fun _ => 0))), (m2, .inl (c2, 4, .inl (fun _ => 0))), (m3, .inl (c3, 16384, .inl (fun _ => 0))), (m7, .inl (c7, 48, .inl (fun _ => 0))), (m8, .inl (c8, 48, .inl (fun _ => 0))), (m9, .inl (c9, 48, .inl (fun _ => 0))), (m10, .inl (c10, 3, .inl (fun _ => 0))), (m11, .inl (c11, 3, .inl (fun _ => 0))), (m12, .inl (c12, 3, .inl (fun _ => 0)))] H := hP
  have hD : va_D (fun q : Nat => s.heap.size ≤ q) [(s1, .inl (ca, 4, .inr (.inr (.inr (.inr (fun _ => none)))))), (s2, .inr (1, [.ref bx, .int (-1), .int 3, .int 255])), (bx, .inr (0, [.int 0, .int 0, .int 63, .int 63])), (p1, .inl (d1, 48, .inl (fun _ => 0))), (p2, .inl (d2, 48, .inl (fun _ => 0))), (p3, .inl (d3, 48, .inl (fun _ => 0))), (p4, .inl (d4, 48, .inl (fun _ => 0))), (s5, .inr (7, [.ref t1, .ref t2, .ref t3, .ref t4])), (t1, .inl (e1, 3, .inl (fun _ => 0))), (t2, .inl (e2, 3, .inl (fun _ => 0))), (t3, .inl (e3, 3, .inl (fun _ => 0))), (hm, .inr (9, [.ref m1, .ref m2, .ref m3, .int (-1), .int 3, .int 255, .int 0, .int 0, .int 0, .int 0, .int 0, .int 65535, .ref m4, .ref m5, .ref m6, .ref m7, .ref m8, .ref m9, .int 0, .ref m10, .ref m11, .ref m12, .ref m13])), (m1, .inl (c1, 4, .inl (fun _ => 0))), (m2, .inl (c2, 4, .inl (fun _ => 0))), (m3, .inl (c3, 16384, .inl (fun _ => 0))), (m7, .inl (c7, 48, .inl (fun _ => 0))), (m8, .inl (c8, 48, .inl (fun _ => 0))), (m9, .inl (c9, 48, .inl (fun _ => 0))), (m10, .inl (c10, 3, .inl (fun _ => 0))), (m11, .inl (c11, 3, .inl (fun _ => 0))), (m12, .inl (c12, 3, .inl (fun _ => 0)))] := hD
  refine lv_aload_n hx hb dL_law_480 rfl (lv_at hl 1 rfl) ?_
  have hPc := hP.sub (ws' := [(hm, .inr (9, [.ref m1, .ref m2, .ref m3, .int (-1), .int 3, .int 255, .int 0, .int 0, .int 0, .int 0, .int 0, .int 65535, .ref m4, .ref m5, .ref m6, .ref m7, .ref m8, .ref m9, .int 0, .ref m10, .ref m11, .ref m12, .ref m13]))]) [11] rfl
  have hDc := hD.sub (ws' := [(hm, .inr (9, [.ref m1, .ref m2, .ref m3, .int (-1), .int 3, .int 255, .int 0, .int 0, .int 0, .int 0, .int 0, .int 65535, .ref m4, .ref m5, .ref m6, .ref m7, .ref m8, .ref m9, .int 0, .ref m10, .ref m11, .ref m12, .ref m13]))]) [11] (by decide) rfl
  have hKc := hK.sub (tys' := []) [] rfl
  have hFc := va_free (wc := [(hm, .inr (9, [.ref m1, .ref m2, .ref m3, .int (-1), .int 3, .int 255, .int 0, .int 0, .int 0, .int 0, .int 0, .int 65535, .ref m4, .ref m5, .ref m6, .ref m7, .ref m8, .ref m9, .int 0, .ref m10, .ref m11, .ref m12, .ref m13]))]) hD hS hA [11] rfl
  refine va_callv (va_runV (As := []) (rest := []) ⟨hx, hb, hml, hown, hts⟩ (k_X9_clear l D H.size hm m1 m2 m3 m4 m5 m6 m7 m8 m9 m10 m11 m12 m13) (cwV 0 hts (gV bw_268 bw_269 bw_270 bw_11 bw_267) rfl rfl rfl (by decide +kernel) ⟨Nat.le_of_ble_eq_true rfl, Nat.le_of_ble_eq_true rfl⟩) ⟨cP_blind, va_recv hKc hPc (ci := 9) (q0 := 0) rfl rfl, cP_at hPc hKc hDc hN⟩ rfl rfl hl.1 rfl (lv_room (Nat.le_of_ble_eq_true rfl)) dL_law_481 ⟨Nat.le_of_ble_eq_true rfl, Nat.le_of_ble_eq_true rfl⟩) hS (fun q _ h => hFc q h) hFc (fun u9 t9 H1 locs ht hvm hr_2 hB hz1 hk1 hS => ?_)
  try dsimp only at hr_2
  have hP1 : va_P D vwCl [] H1 := vP_nil
  have hD1 : va_D (va_A [(hm, .inr (9, [.ref m1, .ref m2, .ref m3, .int (-1), .int 3, .int 255, .int 0, .int 0, .int 0, .int 0, .int 0, .int 65535, .ref m4, .ref m5, .ref m6, .ref m7, .ref m8, .ref m9, .int 0, .ref m10, .ref m11, .ref m12, .ref m13]))] H.size) [] := vD_nil
  obtain ⟨hP, hD⟩ := va_join (wr := [(s1, .inl (ca, 4, .inr (.inr (.inr (.inr (fun _ => none)))))), (s2, .inr (1, [.ref bx, .int (-1), .int 3, .int 255])), (bx, .inr (0, [.int 0, .int 0, .int 63, .int 63])), (p1, .inl (d1, 48, .inl (fun _ => 0))), (p2, .inl (d2, 48, .inl (fun _ => 0))), (p3, .inl (d3, 48, .inl (fun _ => 0))), (p4, .inl (d4, 48, .inl (fun _ => 0))), (s5, .inr (7, [.ref t1, .ref t2, .ref t3, .ref t4])), (t1, .inl (e1, 3, .inl (fun _ => 0))), (t2, .inl (e2, 3, .inl (fun _ => 0))), (t3, .inl (e3, 3, .inl (fun _ => 0))), (m1, .inl (c1, 4, .inl (fun _ => 0))), (m2, .inl (c2, 4, .inl (fun _ => 0))), (m3, .inl (c3, 16384, .inl (fun _ => 0))), (m7, .inl (c7, 48, .inl (fun _ => 0))), (m8, .inl (c8, 48, .inl (fun _ => 0))), (m9, .inl (c9, 48, .inl (fun _ => 0))), (m10, .inl (c10, 3, .inl (fun _ => 0))), (m11, .inl (c11, 3, .inl (fun _ => 0))), (m12, .inl (c12, 3, .inl (fun _ => 0)))]) (w1 := []) hP hD [11] [0, 1, 2, 3, 4, 5, 6, 7, 8, 9, 10, 12, 13, 14, 15, 16, 17, 18, 19, 20] rfl rfl (by decide) (by decide) hk1 hFc hP1 hD1
  clear hz1 hk1 hFc hKc hDc hPc
  generalize H1 = H at hP hS ⊢
  have hP : va_P D vwCl [(s1, .inl (ca, 4, .inr (.inr (.inr (.inr (fun _ => none)))))), (s2, .inr (1, [.ref bx, .int (-1), .int 3, .int 255])), (bx, .inr (0, [.int 0, .int 0, .int 63, .int 63])), (p1, .inl (d1, 48, .inl (fun _ => 0))), (p2, .inl (d2, 48, .inl (fun _ => 0))), (p3, .inl (d3, 48, .inl (fun _ => 0))), (p4, .inl (d4, 48, .inl (fun _ => 0))), (s5, .inr (7, [.ref t1, .ref t2, .ref t3, .ref t4])), (t1, .inl (e1, 3, .inl (fun _ => 0))), (t2, .inl (e2, 3, .inl (fun _ => 0))), (t3, .inl (e3, 3, .inl (fun _ => 0))), (m1, .inl (c1, 4, .inl (fun _ => 0))), (m2, .inl (c2, 4, .inl (fun _ => 0))), (m3, .inl (c3, 16384, .inl (fun _ => 0))), (m7, .inl (c7, 48, .inl (fun _ => 0))), (m8, .inl (c8, 48, .inl (fun _ => 0))), (m9, .inl (c9, 48, .inl (fun _ => 0))), (m10, .inl (c10, 3, .inl (fun _ => 0))), (m11, .inl (c11, 3, .inl (fun _ => 0))), (m12, .inl (c12, 3, .inl (fun _ => 0)))] H := hP
  have hD : va_D (fun q : Nat => s.heap.size ≤ q) [(s1, .inl (ca, 4, .inr (.inr (.inr (.inr (fun _ => none)))))), (s2, .inr (1, [.ref bx, .int (-1), .int 3, .int 255])), (bx, .inr (0, [.int 0, .int 0, .int 63, .int 63])), (p1, .inl (d1, 48, .inl (fun _ => 0))), (p2, .inl (d2, 48, .inl (fun _ => 0))), (p3, .inl (d3, 48, .inl (fun _ => 0))), (p4, .inl (d4, 48, .inl (fun _ => 0))), (s5, .inr (7, [.ref t1, .ref t2, .ref t3, .ref t4])), (t1, .inl (e1, 3, .inl (fun _ => 0))), (t2, .inl (e2, 3, .inl (fun _ => 0))), (t3, .inl (e3, 3, .inl (fun _ => 0))), (m1, .inl (c1, 4, .inl (fun _ => 0))), (m2, .inl (c2, 4, .inl (fun _ => 0))), (m3, .inl (c3, 16384, .inl (fun _ => 0))), (m7, .inl (c7, 48, .inl (fun _ => 0))), (m8, .inl (c8, 48, .inl (fun _ => 0))), (m9, .inl (c9, 48, .inl (fun _ => 0))), (m10, .inl (c10, 3, .inl (fun _ => 0))), (m11, .inl (c11, 3, .inl (fun _ => 0))), (m12, .inl (c12, 3, .inl (fun _ => 0)))] := hD
  refine lv_goto (tgt := 1167) hx hb dL_law_484 (by decide) ?_
  exact law_tail C0 (by omega) (by omega) hS (lv_sub hl [0, 3] rfl)

set_option maxHeartbeats 4000000 in
set_option maxRecDepth 100000 in
theorem law_c9 {p : Program} {l : Launch} {e : Env} {s : State} {m : MethodId} {below : List Frame} {meth : Method} {c : Code} {b : Nat} {xs : Nat → Int32} (C0 : lw_At p s m meth c b 11 xs) (hN : nW s) {D : va_G} {h0 s1 s2 s3 s4 s5 s6 bx p1 p2 p3 p4 t1 t2 t3 t4 hm m1 m2 m3 m4 m5 m6 m7 m8 m9 m10 m11 m12 m13 : Nat} {ca d1 d2 d3 d4 e1 e2 e3 c1 c2 c3 c7 c8 c9 c10 c11 c12 : ClassId} {H : Heap} {locs : List Loc} (hK : va_K D vwCl [(ca, .object "DotBench$Sheet"), (d1, .int), (d2, .int), (d3, .int), (d4, .int), (e1, .int), (e2, .int), (e3, .int), (c1, .int), (c2, .int), (c3, .int), (c7, .int), (c8, .int), (c9, .boolean), (c10, .int), (c11, .int), (c12, .int)] s) (hP : va_P D vwCl [(h0, .inr (8, [.ref s1, .ref s2, .ref s3, .ref s4, .ref s5, .ref s6, .int 65535, .null, .null])), (s1, .inl (ca, 4, .inr (.inr (.inr (.inr (fun _ => none)))))), (s2, .inr (1, [.ref bx, .int (-1), .int 3, .int 255])), (bx, .inr (0, [.int 0, .int 0, .int 63, .int 63])), (s4, .inr (3, [.ref p1, .ref p2, .ref p3, .ref p4, .int 0, .int 0, .int 0])), (p1, .inl (d1, 48, .inl (fun _ => 0))), (p2, .inl (d2, 48, .inl (fun _ => 0))), (p3, .inl (d3, 48, .inl (fun _ => 0))), (p4, .inl (d4, 48, .inl (fun _ => 0))), (s5, .inr (7, [.ref t1, .ref t2, .ref t3, .ref t4])), (t1, .inl (e1, 3, .inl (fun _ => 0))), (t2, .inl (e2, 3, .inl (fun _ => 0))), (t3, .inl (e3, 3, .inl (fun _ => 0))), (hm, .inr (9, [.ref m1, .ref m2, .ref m3, .int (-1), .int 3, .int 255, .int 0, .int 0, .int 0, .int 0, .int 0, .int 65535, .ref m4, .ref m5, .ref m6, .ref m7, .ref m8, .ref m9, .int 0, .ref m10, .ref m11, .ref m12, .ref m13])), (m1, .inl (c1, 4, .inl (fun _ => 0))), (m2, .inl (c2, 4, .inl (fun _ => 0))), (m3, .inl (c3, 16384, .inl (fun _ => 0))), (m7, .inl (c7, 48, .inl (fun _ => 0))), (m8, .inl (c8, 48, .inl (fun _ => 0))), (m9, .inl (c9, 48, .inl (fun _ => 0))), (m10, .inl (c10, 3, .inl (fun _ => 0))), (m11, .inl (c11, 3, .inl (fun _ => 0))), (m12, .inl (c12, 3, .inl (fun _ => 0)))] H) (hD : va_D (fun q : Nat => s.heap.size ≤ q) [(h0, .inr (8, [.ref s1, .ref s2, .ref s3, .ref s4, .ref s5, .ref s6, .int 65535, .null, .null])), (s1, .inl (ca, 4, .inr (.inr (.inr (.inr (fun _ => none)))))), (s2, .inr (1, [.ref bx, .int (-1), .int 3, .int 255])), (bx, .inr (0, [.int 0, .int 0, .int 63, .int 63])), (s4, .inr (3, [.ref p1, .ref p2, .ref p3, .ref p4, .int 0, .int 0, .int 0])), (p1, .inl (d1, 48, .inl (fun _ => 0))), (p2, .inl (d2, 48, .inl (fun _ => 0))), (p3, .inl (d3, 48, .inl (fun _ => 0))), (p4, .inl (d4, 48, .inl (fun _ => 0))), (s5, .inr (7, [.ref t1, .ref t2, .ref t3, .ref t4])), (t1, .inl (e1, 3, .inl (fun _ => 0))), (t2, .inl (e2, 3, .inl (fun _ => 0))), (t3, .inl (e3, 3, .inl (fun _ => 0))), (hm, .inr (9, [.ref m1, .ref m2, .ref m3, .int (-1), .int 3, .int 255, .int 0, .int 0, .int 0, .int 0, .int 0, .int 65535, .ref m4, .ref m5, .ref m6, .ref m7, .ref m8, .ref m9, .int 0, .ref m10, .ref m11, .ref m12, .ref m13])), (m1, .inl (c1, 4, .inl (fun _ => 0))), (m2, .inl (c2, 4, .inl (fun _ => 0))), (m3, .inl (c3, 16384, .inl (fun _ => 0))), (m7, .inl (c7, 48, .inl (fun _ => 0))), (m8, .inl (c8, 48, .inl (fun _ => 0))), (m9, .inl (c9, 48, .inl (fun _ => 0))), (m10, .inl (c10, 3, .inl (fun _ => 0))), (m11, .inl (c11, 3, .inl (fun _ => 0))), (m12, .inl (c12, 3, .inl (fun _ => 0)))]) (hS : va_S (fun q : Nat => s.heap.size ≤ q) s.heap H locs) {ls : Array Slot} (hl : lv_has ls 4 [(3, .int 0), (2, .ref hm), (1, .ref h0), (0, .ref b)]) : W p l e room_1 s m #[Value.ref b] below meth c H locs 36 33710 (lw_Z below #[Value.ref b] s) (F0 m 487 ls []) := by
  obtain ⟨hx, hb, hr, hml, hown, hts0, hX, hbl, hlocks, hgv⟩ := id C0
  have hts : ∀ w ∈ bigW, w.before #[Value.ref b] s = true := fun w h => hts0 w (bigW_in w h).1
  have hown : s.vm.findClass RL = some m.cls := hown
  have hA : ∀ q : Nat, s.heap.size ≤ q → (fun q : Nat => s.heap.size ≤ q) q := fun _ h => h
  have hbA : ¬ (fun q : Nat => s.heap.size ≤ q) b := Nat.not_le.mpr hbl
  refine lv_aload_n hx hb dL_law_487 rfl (lv_at hl 2 rfl) ?_
  refine lv_aload_n hx hb dL_law_488 rfl (lv_at hl 3 rfl) ?_
  refine lv_iload_n hx hb dL_law_489 rfl (lv_at hl 0 rfl) ?_
  refine lv_iconst (v := 1) hx hb dL_law_490 (by decide) ?_
  refine lv_iadd hx hb dL_law_491 ?_
  refine my_fold (v := 1) (by decide) ?_
  refine va_sld hx hb hX hbl hbA hS (i := 1) (my_in (by decide) (by decide)) dL_law_492 ?_
  refine my_topv (v := .int (xs 1)) rfl ?_
  refine lv_aload_n hx hb dL_law_493 rfl (lv_at hl 3 rfl) ?_
  refine lv_iload_n hx hb dL_law_494 rfl (lv_at hl 0 rfl) ?_
  refine lv_iconst (v := 2) hx hb dL_law_495 (by decide) ?_
  refine lv_iadd hx hb dL_law_496 ?_
  refine my_fold (v := 2) (by decide) ?_
  refine va_sld hx hb hX hbl hbA hS (i := 2) (my_in (by decide) (by decide)) dL_law_497 ?_
  refine my_topv (v := .int (xs 2)) rfl ?_
  refine lv_aload_n hx hb dL_law_498 rfl (lv_at hl 3 rfl) ?_
  refine lv_iload_n hx hb dL_law_499 rfl (lv_at hl 0 rfl) ?_
  refine lv_iconst (v := 3) hx hb dL_law_500 (by decide) ?_
  refine lv_iadd hx hb dL_law_501 ?_
  refine my_fold (v := 3) (by decide) ?_
  refine va_sld hx hb hX hbl hbA hS (i := 3) (my_in (by decide) (by decide)) dL_law_502 ?_
  refine my_topv (v := .int (xs 3)) rfl ?_
  refine lv_if_eq (tgt := 510) hx hb dL_law_503 (by decide) (fun c_1 => ?_) (fun c_1 => ?_)
  · skip
    have f_2 : (xs 3).toInt = 0 := f_eq rfl (by decide) c_1
    refine lv_iconst (v := 0) hx hb dL_law_510 (by decide) ?_
    have hPc := hP.sub (ws' := [(h0, .inr (8, [.ref s1, .ref s2, .ref s3, .ref s4, .ref s5, .ref s6, .int 65535, .null, .null])), (s1, .inl (ca, 4, .inr (.inr (.inr (.inr (fun _ => none))))))]) [0, 1] rfl
    have hDc := hD.sub (ws' := [(h0, .inr (8, [.ref s1, .ref s2, .ref s3, .ref s4, .ref s5, .ref s6, .int 65535, .null, .null])), (s1, .inl (ca, 4, .inr (.inr (.inr (.inr (fun _ => none))))))]) [0, 1] (by decide) rfl
    have hKc := hK.sub (tys' := [(ca, .object "DotBench$Sheet")]) [0] rfl
    have hFc := va_free (wc := [(h0, .inr (8, [.ref s1, .ref s2, .ref s3, .ref s4, .ref s5, .ref s6, .int 65535, .null, .null])), (s1, .inl (ca, 4, .inr (.inr (.inr (.inr (fun _ => none))))))]) hD hS hA [0, 1] rfl
    refine va_calli (va_runV (As := [.int (xs 1), .int (xs 2), .int 0]) (rest := []) ⟨hx, hb, hml, hown, hts⟩ (k_X8_fill l D H.size h0 s1 s2 s3 s4 s5 s6 ca (xs 1) (xs 2) 0) (cwV 3 hts (gV bw_272 bw_273 bw_274 bw_1 bw_271) rfl rfl rfl (by decide +kernel) ⟨Nat.le_of_ble_eq_true rfl, Nat.le_of_ble_eq_true rfl⟩) ⟨cP_blind, va_recv hKc hPc (ci := 8) (q0 := 0) rfl rfl, cP_at hPc hKc hDc hN⟩ rfl rfl hl.1 rfl (lv_room (Nat.le_of_ble_eq_true rfl)) dL_law_511 ⟨Nat.le_of_ble_eq_true rfl, Nat.le_of_ble_eq_true rfl⟩) hS (fun q _ h => hFc q h) hFc (fun r_3 u9 t9 H1 locs ht hvm hr_3 hB hz1 hk1 hS => ?_)
    try dsimp only at hr_3
    have hP1 : va_P D vwCl [] H1 := vP_nil
    have hD1 : va_D (va_A [(h0, .inr (8, [.ref s1, .ref s2, .ref s3, .ref s4, .ref s5, .ref s6, .int 65535, .null, .null])), (s1, .inl (ca, 4, .inr (.inr (.inr (.inr (fun _ => none))))))] H.size) [] := vD_nil
    obtain ⟨hP, hD⟩ := va_join (wr := [(s2, .inr (1, [.ref bx, .int (-1), .int 3, .int 255])), (bx, .inr (0, [.int 0, .int 0, .int 63, .int 63])), (s4, .inr (3, [.ref p1, .ref p2, .ref p3, .ref p4, .int 0, .int 0, .int 0])), (p1, .inl (d1, 48, .inl (fun _ => 0))), (p2, .inl (d2, 48, .inl (fun _ => 0))), (p3, .inl (d3, 48, .inl (fun _ => 0))), (p4, .inl (d4, 48, .inl (fun _ => 0))), (s5, .inr (7, [.ref t1, .ref t2, .ref t3, .ref t4])), (t1, .inl (e1, 3, .inl (fun _ => 0))), (t2, .inl (e2, 3, .inl (fun _ => 0))), (t3, .inl (e3, 3, .inl (fun _ => 0))), (hm, .inr (9, [.ref m1, .ref m2, .ref m3, .int (-1), .int 3, .int 255, .int 0, .int 0, .int 0, .int 0, .int 0, .int 65535, .ref m4, .ref m5, .ref m6, .ref m7, .ref m8, .ref m9, .int 0, .ref m10, .ref m11, .ref m12, .ref m13])), (m1, .inl (c1, 4, .inl (fun _ => 0))), (m2, .inl (c2, 4, .inl (fun _ => 0))), (m3, .inl (c3, 16384, .inl (fun _ => 0))), (m7, .inl (c7, 48, .inl (fun _ => 0))), (m8, .inl (c8, 48, .inl (fun _ => 0))), (m9, .inl (c9, 48, .inl (fun _ => 0))), (m10, .inl (c10, 3, .inl (fun _ => 0))), (m11, .inl (c11, 3, .inl (fun _ => 0))), (m12, .inl (c12, 3, .inl (fun _ => 0)))]) (w1 := []) hP hD [0, 1] [2, 3, 4, 5, 6, 7, 8, 9, 10, 11, 12, 13, 14, 15, 16, 17, 18, 19, 20, 21, 22] rfl rfl (by decide) (by decide) hk1 hFc hP1 hD1
    clear hz1 hk1 hFc hKc hDc hPc
    generalize H1 = H at hP hS ⊢
    have hP : va_P D vwCl [(s2, .inr (1, [.ref bx, .int (-1), .int 3, .int 255])), (bx, .inr (0, [.int 0, .int 0, .int 63, .int 63])), (s4, .inr (3, [.ref p1, .ref p2, .ref p3, .ref p4, .int 0, .int 0, .int 0])), (p1, .inl (d1, 48, .inl (fun _ => 0))), (p2, .inl (d2, 48, .inl (fun _ => 0))), (p3, .inl (d3, 48, .inl (fun _ => 0))), (p4, .inl (d4, 48, .inl (fun _ => 0))), (s5, .inr (7, [.ref t1, .ref t2, .ref t3, .ref t4])), (t1, .inl (e1, 3, .inl (fun _ => 0))), (t2, .inl (e2, 3, .inl (fun _ => 0))), (t3, .inl (e3, 3, .inl (fun _ => 0))), (hm, .inr (9, [.ref m1, .ref m2, .ref m3, .int (-1), .int 3, .int 255, .int 0, .int 0, .int 0, .int 0, .int 0, .int 65535, .ref m4, .ref m5, .ref m6, .ref m7, .ref m8, .ref m9, .int 0, .ref m10, .ref m11, .ref m12, .ref m13])), (m1, .inl (c1, 4, .inl (fun _ => 0))), (m2, .inl (c2, 4, .inl (fun _ => 0))), (m3, .inl (c3, 16384, .inl (fun _ => 0))), (m7, .inl (c7, 48, .inl (fun _ => 0))), (m8, .inl (c8, 48, .inl (fun _ => 0))), (m9, .inl (c9, 48, .inl (fun _ => 0))), (m10, .inl (c10, 3, .inl (fun _ => 0))), (m11, .inl (c11, 3, .inl (fun _ => 0))), (m12, .inl (c12, 3, .inl (fun _ => 0)))] H := hP
    have hD : va_D (fun q : Nat => s.heap.size ≤ q) [(s2, .inr (1, [.ref bx, .int (-1), .int 3, .int 255])), (bx, .inr (0, [.int 0, .int 0, .int 63, .int 63])), (s4, .inr (3, [.ref p1, .ref p2, .ref p3, .ref p4, .int 0, .int 0, .int 0])), (p1, .inl (d1, 48, .inl (fun _ => 0))), (p2, .inl (d2, 48, .inl (fun _ => 0))), (p3, .inl (d3, 48, .inl (fun _ => 0))), (p4, .inl (d4, 48, .inl (fun _ => 0))), (s5, .inr (7, [.ref t1, .ref t2, .ref t3, .ref t4])), (t1, .inl (e1, 3, .inl (fun _ => 0))), (t2, .inl (e2, 3, .inl (fun _ => 0))), (t3, .inl (e3, 3, .inl (fun _ => 0))), (hm, .inr (9, [.ref m1, .ref m2, .ref m3, .int (-1), .int 3, .int 255, .int 0, .int 0, .int 0, .int 0, .int 0, .int 65535, .ref m4, .ref m5, .ref m6, .ref m7, .ref m8, .ref m9, .int 0, .ref m10, .ref m11, .ref m12, .ref m13])), (m1, .inl (c1, 4, .inl (fun _ => 0))), (m2, .inl (c2, 4, .inl (fun _ => 0))), (m3, .inl (c3, 16384, .inl (fun _ => 0))), (m7, .inl (c7, 48, .inl (fun _ => 0))), (m8, .inl (c8, 48, .inl (fun _ => 0))), (m9, .inl (c9, 48, .inl (fun _ => 0))), (m10, .inl (c10, 3, .inl (fun _ => 0))), (m11, .inl (c11, 3, .inl (fun _ => 0))), (m12, .inl (c12, 3, .inl (fun _ => 0)))] := hD
    subst hr_3
    refine lv_aload_n hx hb dL_law_514 rfl (lv_at hl 1 rfl) ?_
    refine lv_aload_n hx hb dL_law_515 rfl (lv_at hl 3 rfl) ?_
    refine lv_iload_n hx hb dL_law_516 rfl (lv_at hl 0 rfl) ?_
    refine lv_iconst (v := 1) hx hb dL_law_517 (by decide) ?_
    refine lv_iadd hx hb dL_law_518 ?_
    refine my_fold (v := 1) (by decide) ?_
    refine va_sld hx hb hX hbl hbA hS (i := 1) (my_in (by decide) (by decide)) dL_law_519 ?_
    refine my_topv (v := .int (xs 1)) rfl ?_
    refine lv_aload_n hx hb dL_law_520 rfl (lv_at hl 3 rfl) ?_
    refine lv_iload_n hx hb dL_law_521 rfl (lv_at hl 0 rfl) ?_
    refine lv_iconst (v := 2) hx hb dL_law_522 (by decide) ?_
    refine lv_iadd hx hb dL_law_523 ?_
    refine my_fold (v := 2) (by decide) ?_
    refine va_sld hx hb hX hbl hbA hS (i := 2) (my_in (by decide) (by decide)) dL_law_524 ?_
    refine my_topv (v := .int (xs 2)) rfl ?_
    refine lv_aload_n hx hb dL_law_525 rfl (lv_at hl 3 rfl) ?_
    refine lv_iload_n hx hb dL_law_526 rfl (lv_at hl 0 rfl) ?_
    refine lv_iconst (v := 3) hx hb dL_law_527 (by decide) ?_
    refine lv_iadd hx hb dL_law_528 ?_
    refine my_fold (v := 3) (by decide) ?_
    refine va_sld hx hb hX hbl hbA hS (i := 3) (my_in (by decide) (by decide)) dL_law_529 ?_
    refine my_topv (v := .int (xs 3)) rfl ?_
    refine lv_if_eq (tgt := 537) hx hb dL_law_530 (by decide) (fun c_4 => ?_) (fun c_4 => ?_)
    · skip
      have f_5 : (xs 3).toInt = 0 := f_eq rfl (by decide) c_4
      refine lv_iconst (v := 0) hx hb dL_law_537 (by decide) ?_
      have hPc := hP.sub (ws' := [(hm, .inr (9, [.ref m1, .ref m2, .ref m3, .int (-1), .int 3, .int 255, .int 0, .int 0, .int 0, .int 0, .int 0, .int 65535, .ref m4, .ref m5, .ref m6, .ref m7, .ref m8, .ref m9, .int 0, .ref m10, .ref m11, .ref m12, .ref m13])), (m1, .inl (c1, 4, .inl (fun _ => 0)))]) [11, 12] rfl
      have hDc := hD.sub (ws' := [(hm, .inr (9, [.ref m1, .ref m2, .ref m3, .int (-1), .int 3, .int 255, .int 0, .int 0, .int 0, .int 0, .int 0, .int 65535, .ref m4, .ref m5, .ref m6, .ref m7, .ref m8, .ref m9, .int 0, .ref m10, .ref m11, .ref m12, .ref m13])), (m1, .inl (c1, 4, .inl (fun _ => 0)))]) [11, 12] (by decide) rfl
      have hKc := hK.sub (tys' := [(c1, .int)]) [8] rfl
      have hFc := va_free (wc := [(hm, .inr (9, [.ref m1, .ref m2, .ref m3, .int (-1), .int 3, .int 255, .int 0, .int 0, .int 0, .int 0, .int 0, .int 65535, .ref m4, .ref m5, .ref m6, .ref m7, .ref m8, .ref m9, .int 0, .ref m10, .ref m11, .ref m12, .ref m13])), (m1, .inl (c1, 4, .inl (fun _ => 0)))]) hD hS hA [11, 12] rfl
      refine va_calli (va_runV (As := [.int (xs 1), .int (xs 2), .int 0]) (rest := [.int (-1)]) ⟨hx, hb, hml, hown, hts⟩ (k_X9_fill l D H.size hm m1 m2 m3 m4 m5 m6 m7 m8 m9 m10 m11 m12 m13 c1 (xs 1) (xs 2) 0) (cwV 3 hts (gV bw_276 bw_277 bw_278 bw_11 bw_275) rfl rfl rfl (by decide +kernel) ⟨Nat.le_of_ble_eq_true rfl, Nat.le_of_ble_eq_true rfl⟩) ⟨cP_blind, va_recv hKc hPc (ci := 9) (q0 := 0) rfl rfl, cP_at hPc hKc hDc hN⟩ rfl rfl hl.1 rfl (lv_room (Nat.le_of_ble_eq_true rfl)) dL_law_538 ⟨Nat.le_of_ble_eq_true rfl, Nat.le_of_ble_eq_true rfl⟩) hS (fun q _ h => hFc q h) hFc (fun r_6 u9 t9 H1 locs ht hvm hr_6 hB hz1 hk1 hS => ?_)
      try dsimp only at hr_6
      have hP1 : va_P D vwCl [] H1 := vP_nil
      have hD1 : va_D (va_A [(hm, .inr (9, [.ref m1, .ref m2, .ref m3, .int (-1), .int 3, .int 255, .int 0, .int 0, .int 0, .int 0, .int 0, .int 65535, .ref m4, .ref m5, .ref m6, .ref m7, .ref m8, .ref m9, .int 0, .ref m10, .ref m11, .ref m12, .ref m13])), (m1, .inl (c1, 4, .inl (fun _ => 0)))] H.size) [] := vD_nil
      obtain ⟨hP, hD⟩ := va_join (wr := [(s2, .inr (1, [.ref bx, .int (-1), .int 3, .int 255])), (bx, .inr (0, [.int 0, .int 0, .int 63, .int 63])), (s4, .inr (3, [.ref p1, .ref p2, .ref p3, .ref p4, .int 0, .int 0, .int 0])), (p1, .inl (d1, 48, .inl (fun _ => 0))), (p2, .inl (d2, 48, .inl (fun _ => 0))), (p3, .inl (d3, 48, .inl (fun _ => 0))), (p4, .inl (d4, 48, .inl (fun _ => 0))), (s5, .inr (7, [.ref t1, .ref t2, .ref t3, .ref t4])), (t1, .inl (e1, 3, .inl (fun _ => 0))), (t2, .inl (e2, 3, .inl (fun _ => 0))), (t3, .inl (e3, 3, .inl (fun _ => 0))), (m2, .inl (c2, 4, .inl (fun _ => 0))), (m3, .inl (c3, 16384, .inl (fun _ => 0))), (m7, .inl (c7, 48, .inl (fun _ => 0))), (m8, .inl (c8, 48, .inl (fun _ => 0))), (m9, .inl (c9, 48, .inl (fun _ => 0))), (m10, .inl (c10, 3, .inl (fun _ => 0))), (m11, .inl (c11, 3, .inl (fun _ => 0))), (m12, .inl (c12, 3, .inl (fun _ => 0)))]) (w1 := []) hP hD [11, 12] [0, 1, 2, 3, 4, 5, 6, 7, 8, 9, 10, 13, 14, 15, 16, 17, 18, 19, 20] rfl rfl (by decide) (by decide) hk1 hFc hP1 hD1
      clear hz1 hk1 hFc hKc hDc hPc
      generalize H1 = H at hP hS ⊢
      have hP : va_P D vwCl [(s2, .inr (1, [.ref bx, .int (-1), .int 3, .int 255])), (bx, .inr (0, [.int 0, .int 0, .int 63, .int 63])), (s4, .inr (3, [.ref p1, .ref p2, .ref p3, .ref p4, .int 0, .int 0, .int 0])), (p1, .inl (d1, 48, .inl (fun _ => 0))), (p2, .inl (d2, 48, .inl (fun _ => 0))), (p3, .inl (d3, 48, .inl (fun _ => 0))), (p4, .inl (d4, 48, .inl (fun _ => 0))), (s5, .inr (7, [.ref t1, .ref t2, .ref t3, .ref t4])), (t1, .inl (e1, 3, .inl (fun _ => 0))), (t2, .inl (e2, 3, .inl (fun _ => 0))), (t3, .inl (e3, 3, .inl (fun _ => 0))), (m2, .inl (c2, 4, .inl (fun _ => 0))), (m3, .inl (c3, 16384, .inl (fun _ => 0))), (m7, .inl (c7, 48, .inl (fun _ => 0))), (m8, .inl (c8, 48, .inl (fun _ => 0))), (m9, .inl (c9, 48, .inl (fun _ => 0))), (m10, .inl (c10, 3, .inl (fun _ => 0))), (m11, .inl (c11, 3, .inl (fun _ => 0))), (m12, .inl (c12, 3, .inl (fun _ => 0)))] H := hP
      have hD : va_D (fun q : Nat => s.heap.size ≤ q) [(s2, .inr (1, [.ref bx, .int (-1), .int 3, .int 255])), (bx, .inr (0, [.int 0, .int 0, .int 63, .int 63])), (s4, .inr (3, [.ref p1, .ref p2, .ref p3, .ref p4, .int 0, .int 0, .int 0])), (p1, .inl (d1, 48, .inl (fun _ => 0))), (p2, .inl (d2, 48, .inl (fun _ => 0))), (p3, .inl (d3, 48, .inl (fun _ => 0))), (p4, .inl (d4, 48, .inl (fun _ => 0))), (s5, .inr (7, [.ref t1, .ref t2, .ref t3, .ref t4])), (t1, .inl (e1, 3, .inl (fun _ => 0))), (t2, .inl (e2, 3, .inl (fun _ => 0))), (t3, .inl (e3, 3, .inl (fun _ => 0))), (m2, .inl (c2, 4, .inl (fun _ => 0))), (m3, .inl (c3, 16384, .inl (fun _ => 0))), (m7, .inl (c7, 48, .inl (fun _ => 0))), (m8, .inl (c8, 48, .inl (fun _ => 0))), (m9, .inl (c9, 48, .inl (fun _ => 0))), (m10, .inl (c10, 3, .inl (fun _ => 0))), (m11, .inl (c11, 3, .inl (fun _ => 0))), (m12, .inl (c12, 3, .inl (fun _ => 0)))] := hD
      subst hr_6
      refine lv_icmp_eq (tgt := 1167) hx hb dL_law_541 (by decide) (fun c_7 => ?_) (fun c_7 => ?_)
      · skip
        exact law_tail C0 (by omega) (by omega) hS (lv_sub hl [0, 3] rfl)
      · skip
        exact absurd c_7 (by decide)
    · skip
      exact absurd c_1 c_4
  · skip
    have f_2 : ¬ ((xs 3).toInt = 0) := fn_eq rfl (by decide) c_1
    refine lv_iconst (v := 1) hx hb dL_law_506 (by decide) ?_
    refine lv_goto (tgt := 511) hx hb dL_law_507 (by decide) ?_
    have hPc := hP.sub (ws' := [(h0, .inr (8, [.ref s1, .ref s2, .ref s3, .ref s4, .ref s5, .ref s6, .int 65535, .null, .null])), (s1, .inl (ca, 4, .inr (.inr (.inr (.inr (fun _ => none))))))]) [0, 1] rfl
    have hDc := hD.sub (ws' := [(h0, .inr (8, [.ref s1, .ref s2, .ref s3, .ref s4, .ref s5, .ref s6, .int 65535, .null, .null])), (s1, .inl (ca, 4, .inr (.inr (.inr (.inr (fun _ => none))))))]) [0, 1] (by decide) rfl
    have hKc := hK.sub (tys' := [(ca, .object "DotBench$Sheet")]) [0] rfl
    have hFc := va_free (wc := [(h0, .inr (8, [.ref s1, .ref s2, .ref s3, .ref s4, .ref s5, .ref s6, .int 65535, .null, .null])), (s1, .inl (ca, 4, .inr (.inr (.inr (.inr (fun _ => none))))))]) hD hS hA [0, 1] rfl
    refine va_calli (va_runV (As := [.int (xs 1), .int (xs 2), .int 1]) (rest := []) ⟨hx, hb, hml, hown, hts⟩ (k_X8_fill l D H.size h0 s1 s2 s3 s4 s5 s6 ca (xs 1) (xs 2) 1) (cwV 3 hts (gV bw_272 bw_273 bw_274 bw_1 bw_271) rfl rfl rfl (by decide +kernel) ⟨Nat.le_of_ble_eq_true rfl, Nat.le_of_ble_eq_true rfl⟩) ⟨cP_blind, va_recv hKc hPc (ci := 8) (q0 := 0) rfl rfl, cP_at hPc hKc hDc hN⟩ rfl rfl hl.1 rfl (lv_room (Nat.le_of_ble_eq_true rfl)) dL_law_511 ⟨Nat.le_of_ble_eq_true rfl, Nat.le_of_ble_eq_true rfl⟩) hS (fun q _ h => hFc q h) hFc (fun r_9 u9 t9 H1 locs ht hvm hr_9 hB hz1 hk1 hS => ?_)
    try dsimp only at hr_9
    have hP1 : va_P D vwCl [] H1 := vP_nil
    have hD1 : va_D (va_A [(h0, .inr (8, [.ref s1, .ref s2, .ref s3, .ref s4, .ref s5, .ref s6, .int 65535, .null, .null])), (s1, .inl (ca, 4, .inr (.inr (.inr (.inr (fun _ => none))))))] H.size) [] := vD_nil
    obtain ⟨hP, hD⟩ := va_join (wr := [(s2, .inr (1, [.ref bx, .int (-1), .int 3, .int 255])), (bx, .inr (0, [.int 0, .int 0, .int 63, .int 63])), (s4, .inr (3, [.ref p1, .ref p2, .ref p3, .ref p4, .int 0, .int 0, .int 0])), (p1, .inl (d1, 48, .inl (fun _ => 0))), (p2, .inl (d2, 48, .inl (fun _ => 0))), (p3, .inl (d3, 48, .inl (fun _ => 0))), (p4, .inl (d4, 48, .inl (fun _ => 0))), (s5, .inr (7, [.ref t1, .ref t2, .ref t3, .ref t4])), (t1, .inl (e1, 3, .inl (fun _ => 0))), (t2, .inl (e2, 3, .inl (fun _ => 0))), (t3, .inl (e3, 3, .inl (fun _ => 0))), (hm, .inr (9, [.ref m1, .ref m2, .ref m3, .int (-1), .int 3, .int 255, .int 0, .int 0, .int 0, .int 0, .int 0, .int 65535, .ref m4, .ref m5, .ref m6, .ref m7, .ref m8, .ref m9, .int 0, .ref m10, .ref m11, .ref m12, .ref m13])), (m1, .inl (c1, 4, .inl (fun _ => 0))), (m2, .inl (c2, 4, .inl (fun _ => 0))), (m3, .inl (c3, 16384, .inl (fun _ => 0))), (m7, .inl (c7, 48, .inl (fun _ => 0))), (m8, .inl (c8, 48, .inl (fun _ => 0))), (m9, .inl (c9, 48, .inl (fun _ => 0))), (m10, .inl (c10, 3, .inl (fun _ => 0))), (m11, .inl (c11, 3, .inl (fun _ => 0))), (m12, .inl (c12, 3, .inl (fun _ => 0)))]) (w1 := []) hP hD [0, 1] [2, 3, 4, 5, 6, 7, 8, 9, 10, 11, 12, 13, 14, 15, 16, 17, 18, 19, 20, 21, 22] rfl rfl (by decide) (by decide) hk1 hFc hP1 hD1
    clear hz1 hk1 hFc hKc hDc hPc
    generalize H1 = H at hP hS ⊢
    have hP : va_P D vwCl [(s2, .inr (1, [.ref bx, .int (-1), .int 3, .int 255])), (bx, .inr (0, [.int 0, .int 0, .int 63, .int 63])), (s4, .inr (3, [.ref p1, .ref p2, .ref p3, .ref p4, .int 0, .int 0, .int 0])), (p1, .inl (d1, 48, .inl (fun _ => 0))), (p2, .inl (d2, 48, .inl (fun _ => 0))), (p3, .inl (d3, 48, .inl (fun _ => 0))), (p4, .inl (d4, 48, .inl (fun _ => 0))), (s5, .inr (7, [.ref t1, .ref t2, .ref t3, .ref t4])), (t1, .inl (e1, 3, .inl (fun _ => 0))), (t2, .inl (e2, 3, .inl (fun _ => 0))), (t3, .inl (e3, 3, .inl (fun _ => 0))), (hm, .inr (9, [.ref m1, .ref m2, .ref m3, .int (-1), .int 3, .int 255, .int 0, .int 0, .int 0, .int 0, .int 0, .int 65535, .ref m4, .ref m5, .ref m6, .ref m7, .ref m8, .ref m9, .int 0, .ref m10, .ref m11, .ref m12, .ref m13])), (m1, .inl (c1, 4, .inl (fun _ => 0))), (m2, .inl (c2, 4, .inl (fun _ => 0))), (m3, .inl (c3, 16384, .inl (fun _ => 0))), (m7, .inl (c7, 48, .inl (fun _ => 0))), (m8, .inl (c8, 48, .inl (fun _ => 0))), (m9, .inl (c9, 48, .inl (fun _ => 0))), (m10, .inl (c10, 3, .inl (fun _ => 0))), (m11, .inl (c11, 3, .inl (fun _ => 0))), (m12, .inl (c12, 3, .inl (fun _ => 0)))] H := hP
    have hD : va_D (fun q : Nat => s.heap.size ≤ q) [(s2, .inr (1, [.ref bx, .int (-1), .int 3, .int 255])), (bx, .inr (0, [.int 0, .int 0, .int 63, .int 63])), (s4, .inr (3, [.ref p1, .ref p2, .ref p3, .ref p4, .int 0, .int 0, .int 0])), (p1, .inl (d1, 48, .inl (fun _ => 0))), (p2, .inl (d2, 48, .inl (fun _ => 0))), (p3, .inl (d3, 48, .inl (fun _ => 0))), (p4, .inl (d4, 48, .inl (fun _ => 0))), (s5, .inr (7, [.ref t1, .ref t2, .ref t3, .ref t4])), (t1, .inl (e1, 3, .inl (fun _ => 0))), (t2, .inl (e2, 3, .inl (fun _ => 0))), (t3, .inl (e3, 3, .inl (fun _ => 0))), (hm, .inr (9, [.ref m1, .ref m2, .ref m3, .int (-1), .int 3, .int 255, .int 0, .int 0, .int 0, .int 0, .int 0, .int 65535, .ref m4, .ref m5, .ref m6, .ref m7, .ref m8, .ref m9, .int 0, .ref m10, .ref m11, .ref m12, .ref m13])), (m1, .inl (c1, 4, .inl (fun _ => 0))), (m2, .inl (c2, 4, .inl (fun _ => 0))), (m3, .inl (c3, 16384, .inl (fun _ => 0))), (m7, .inl (c7, 48, .inl (fun _ => 0))), (m8, .inl (c8, 48, .inl (fun _ => 0))), (m9, .inl (c9, 48, .inl (fun _ => 0))), (m10, .inl (c10, 3, .inl (fun _ => 0))), (m11, .inl (c11, 3, .inl (fun _ => 0))), (m12, .inl (c12, 3, .inl (fun _ => 0)))] := hD
    subst hr_9
    refine lv_aload_n hx hb dL_law_514 rfl (lv_at hl 1 rfl) ?_
    refine lv_aload_n hx hb dL_law_515 rfl (lv_at hl 3 rfl) ?_
    refine lv_iload_n hx hb dL_law_516 rfl (lv_at hl 0 rfl) ?_
    refine lv_iconst (v := 1) hx hb dL_law_517 (by decide) ?_
    refine lv_iadd hx hb dL_law_518 ?_
    refine my_fold (v := 1) (by decide) ?_
    refine va_sld hx hb hX hbl hbA hS (i := 1) (my_in (by decide) (by decide)) dL_law_519 ?_
    refine my_topv (v := .int (xs 1)) rfl ?_
    refine lv_aload_n hx hb dL_law_520 rfl (lv_at hl 3 rfl) ?_
    refine lv_iload_n hx hb dL_law_521 rfl (lv_at hl 0 rfl) ?_
    refine lv_iconst (v := 2) hx hb dL_law_522 (by decide) ?_
    refine lv_iadd hx hb dL_law_523 ?_
    refine my_fold (v := 2) (by decide) ?_
    refine va_sld hx hb hX hbl hbA hS (i := 2) (my_in (by decide) (by decide)) dL_law_524 ?_
    refine my_topv (v := .int (xs 2)) rfl ?_
    refine lv_aload_n hx hb dL_law_525 rfl (lv_at hl 3 rfl) ?_
    refine lv_iload_n hx hb dL_law_526 rfl (lv_at hl 0 rfl) ?_
    refine lv_iconst (v := 3) hx hb dL_law_527 (by decide) ?_
    refine lv_iadd hx hb dL_law_528 ?_
    refine my_fold (v := 3) (by decide) ?_
    refine va_sld hx hb hX hbl hbA hS (i := 3) (my_in (by decide) (by decide)) dL_law_529 ?_
    refine my_topv (v := .int (xs 3)) rfl ?_
    refine lv_if_eq (tgt := 537) hx hb dL_law_530 (by decide) (fun c_10 => ?_) (fun c_10 => ?_)
    · skip
      exact absurd c_10 c_1
    · skip
      have f_11 : ¬ ((xs 3).toInt = 0) := fn_eq rfl (by decide) c_10
      refine lv_iconst (v := 1) hx hb dL_law_533 (by decide) ?_
      refine lv_goto (tgt := 538) hx hb dL_law_534 (by decide) ?_
      have hPc := hP.sub (ws' := [(hm, .inr (9, [.ref m1, .ref m2, .ref m3, .int (-1), .int 3, .int 255, .int 0, .int 0, .int 0, .int 0, .int 0, .int 65535, .ref m4, .ref m5, .ref m6, .ref m7, .ref m8, .ref m9, .int 0, .ref m10, .ref m11, .ref m12, .ref m13])), (m1, .inl (c1, 4, .inl (fun _ => 0)))]) [11, 12] rfl
      have hDc := hD.sub (ws' := [(hm, .inr (9, [.ref m1, .ref m2, .ref m3, .int (-1), .int 3, .int 255, .int 0, .int 0, .int 0, .int 0, .int 0, .int 65535, .ref m4, .ref m5, .ref m6, .ref m7, .ref m8, .ref m9, .int 0, .ref m10, .ref m11, .ref m12, .ref m13])), (m1, .inl (c1, 4, .inl (fun _ => 0)))]) [11, 12] (by decide) rfl
      have hKc := hK.sub (tys' := [(c1, .int)]) [8] rfl
      have hFc := va_free (wc := [(hm, .inr (9, [.ref m1, .ref m2, .ref m3, .int (-1), .int 3, .int 255, .int 0, .int 0, .int 0, .int 0, .int 0, .int 65535, .ref m4, .ref m5, .ref m6, .ref m7, .ref m8, .ref m9, .int 0, .ref m10, .ref m11, .ref m12, .ref m13])), (m1, .inl (c1, 4, .inl (fun _ => 0)))]) hD hS hA [11, 12] rfl
      refine va_calli (va_runV (As := [.int (xs 1), .int (xs 2), .int 1]) (rest := [.int (-1)]) ⟨hx, hb, hml, hown, hts⟩ (k_X9_fill l D H.size hm m1 m2 m3 m4 m5 m6 m7 m8 m9 m10 m11 m12 m13 c1 (xs 1) (xs 2) 1) (cwV 3 hts (gV bw_276 bw_277 bw_278 bw_11 bw_275) rfl rfl rfl (by decide +kernel) ⟨Nat.le_of_ble_eq_true rfl, Nat.le_of_ble_eq_true rfl⟩) ⟨cP_blind, va_recv hKc hPc (ci := 9) (q0 := 0) rfl rfl, cP_at hPc hKc hDc hN⟩ rfl rfl hl.1 rfl (lv_room (Nat.le_of_ble_eq_true rfl)) dL_law_538 ⟨Nat.le_of_ble_eq_true rfl, Nat.le_of_ble_eq_true rfl⟩) hS (fun q _ h => hFc q h) hFc (fun r_12 u9 t9 H1 locs ht hvm hr_12 hB hz1 hk1 hS => ?_)
      try dsimp only at hr_12
      have hP1 : va_P D vwCl [] H1 := vP_nil
      have hD1 : va_D (va_A [(hm, .inr (9, [.ref m1, .ref m2, .ref m3, .int (-1), .int 3, .int 255, .int 0, .int 0, .int 0, .int 0, .int 0, .int 65535, .ref m4, .ref m5, .ref m6, .ref m7, .ref m8, .ref m9, .int 0, .ref m10, .ref m11, .ref m12, .ref m13])), (m1, .inl (c1, 4, .inl (fun _ => 0)))] H.size) [] := vD_nil
      obtain ⟨hP, hD⟩ := va_join (wr := [(s2, .inr (1, [.ref bx, .int (-1), .int 3, .int 255])), (bx, .inr (0, [.int 0, .int 0, .int 63, .int 63])), (s4, .inr (3, [.ref p1, .ref p2, .ref p3, .ref p4, .int 0, .int 0, .int 0])), (p1, .inl (d1, 48, .inl (fun _ => 0))), (p2, .inl (d2, 48, .inl (fun _ => 0))), (p3, .inl (d3, 48, .inl (fun _ => 0))), (p4, .inl (d4, 48, .inl (fun _ => 0))), (s5, .inr (7, [.ref t1, .ref t2, .ref t3, .ref t4])), (t1, .inl (e1, 3, .inl (fun _ => 0))), (t2, .inl (e2, 3, .inl (fun _ => 0))), (t3, .inl (e3, 3, .inl (fun _ => 0))), (m2, .inl (c2, 4, .inl (fun _ => 0))), (m3, .inl (c3, 16384, .inl (fun _ => 0))), (m7, .inl (c7, 48, .inl (fun _ => 0))), (m8, .inl (c8, 48, .inl (fun _ => 0))), (m9, .inl (c9, 48, .inl (fun _ => 0))), (m10, .inl (c10, 3, .inl (fun _ => 0))), (m11, .inl (c11, 3, .inl (fun _ => 0))), (m12, .inl (c12, 3, .inl (fun _ => 0)))]) (w1 := []) hP hD [11, 12] [0, 1, 2, 3, 4, 5, 6, 7, 8, 9, 10, 13, 14, 15, 16, 17, 18, 19, 20] rfl rfl (by decide) (by decide) hk1 hFc hP1 hD1
      clear hz1 hk1 hFc hKc hDc hPc
      generalize H1 = H at hP hS ⊢
      have hP : va_P D vwCl [(s2, .inr (1, [.ref bx, .int (-1), .int 3, .int 255])), (bx, .inr (0, [.int 0, .int 0, .int 63, .int 63])), (s4, .inr (3, [.ref p1, .ref p2, .ref p3, .ref p4, .int 0, .int 0, .int 0])), (p1, .inl (d1, 48, .inl (fun _ => 0))), (p2, .inl (d2, 48, .inl (fun _ => 0))), (p3, .inl (d3, 48, .inl (fun _ => 0))), (p4, .inl (d4, 48, .inl (fun _ => 0))), (s5, .inr (7, [.ref t1, .ref t2, .ref t3, .ref t4])), (t1, .inl (e1, 3, .inl (fun _ => 0))), (t2, .inl (e2, 3, .inl (fun _ => 0))), (t3, .inl (e3, 3, .inl (fun _ => 0))), (m2, .inl (c2, 4, .inl (fun _ => 0))), (m3, .inl (c3, 16384, .inl (fun _ => 0))), (m7, .inl (c7, 48, .inl (fun _ => 0))), (m8, .inl (c8, 48, .inl (fun _ => 0))), (m9, .inl (c9, 48, .inl (fun _ => 0))), (m10, .inl (c10, 3, .inl (fun _ => 0))), (m11, .inl (c11, 3, .inl (fun _ => 0))), (m12, .inl (c12, 3, .inl (fun _ => 0)))] H := hP
      have hD : va_D (fun q : Nat => s.heap.size ≤ q) [(s2, .inr (1, [.ref bx, .int (-1), .int 3, .int 255])), (bx, .inr (0, [.int 0, .int 0, .int 63, .int 63])), (s4, .inr (3, [.ref p1, .ref p2, .ref p3, .ref p4, .int 0, .int 0, .int 0])), (p1, .inl (d1, 48, .inl (fun _ => 0))), (p2, .inl (d2, 48, .inl (fun _ => 0))), (p3, .inl (d3, 48, .inl (fun _ => 0))), (p4, .inl (d4, 48, .inl (fun _ => 0))), (s5, .inr (7, [.ref t1, .ref t2, .ref t3, .ref t4])), (t1, .inl (e1, 3, .inl (fun _ => 0))), (t2, .inl (e2, 3, .inl (fun _ => 0))), (t3, .inl (e3, 3, .inl (fun _ => 0))), (m2, .inl (c2, 4, .inl (fun _ => 0))), (m3, .inl (c3, 16384, .inl (fun _ => 0))), (m7, .inl (c7, 48, .inl (fun _ => 0))), (m8, .inl (c8, 48, .inl (fun _ => 0))), (m9, .inl (c9, 48, .inl (fun _ => 0))), (m10, .inl (c10, 3, .inl (fun _ => 0))), (m11, .inl (c11, 3, .inl (fun _ => 0))), (m12, .inl (c12, 3, .inl (fun _ => 0)))] := hD
      subst hr_12
      refine lv_icmp_eq (tgt := 1167) hx hb dL_law_541 (by decide) (fun c_13 => ?_) (fun c_13 => ?_)
      · skip
        exact law_tail C0 (by omega) (by omega) hS (lv_sub hl [0, 3] rfl)
      · skip
        exact absurd c_13 (by decide)

set_option maxHeartbeats 4000000 in
set_option maxRecDepth 100000 in
theorem law_c10 {p : Program} {l : Launch} {e : Env} {s : State} {m : MethodId} {below : List Frame} {meth : Method} {c : Code} {b : Nat} {xs : Nat → Int32} (C0 : lw_At p s m meth c b 11 xs) (hN : nW s) {D : va_G} {h0 s1 s2 s3 s4 s5 s6 bx p1 p2 p3 p4 t1 t2 t3 t4 hm m1 m2 m3 m4 m5 m6 m7 m8 m9 m10 m11 m12 m13 : Nat} {ca d1 d2 d3 d4 e1 e2 e3 c1 c2 c3 c7 c8 c9 c10 c11 c12 : ClassId} {H : Heap} {locs : List Loc} (hK : va_K D vwCl [(ca, .object "DotBench$Sheet"), (d1, .int), (d2, .int), (d3, .int), (d4, .int), (e1, .int), (e2, .int), (e3, .int), (c1, .int), (c2, .int), (c3, .int), (c7, .int), (c8, .int), (c9, .boolean), (c10, .int), (c11, .int), (c12, .int)] s) (hP : va_P D vwCl [(h0, .inr (8, [.ref s1, .ref s2, .ref s3, .ref s4, .ref s5, .ref s6, .int 65535, .null, .null])), (s1, .inl (ca, 4, .inr (.inr (.inr (.inr (fun _ => none)))))), (s2, .inr (1, [.ref bx, .int (-1), .int 3, .int 255])), (bx, .inr (0, [.int 0, .int 0, .int 63, .int 63])), (s4, .inr (3, [.ref p1, .ref p2, .ref p3, .ref p4, .int 0, .int 0, .int 0])), (p1, .inl (d1, 48, .inl (fun _ => 0))), (p2, .inl (d2, 48, .inl (fun _ => 0))), (p3, .inl (d3, 48, .inl (fun _ => 0))), (p4, .inl (d4, 48, .inl (fun _ => 0))), (s5, .inr (7, [.ref t1, .ref t2, .ref t3, .ref t4])), (t1, .inl (e1, 3, .inl (fun _ => 0))), (t2, .inl (e2, 3, .inl (fun _ => 0))), (t3, .inl (e3, 3, .inl (fun _ => 0))), (hm, .inr (9, [.ref m1, .ref m2, .ref m3, .int (-1), .int 3, .int 255, .int 0, .int 0, .int 0, .int 0, .int 0, .int 65535, .ref m4, .ref m5, .ref m6, .ref m7, .ref m8, .ref m9, .int 0, .ref m10, .ref m11, .ref m12, .ref m13])), (m1, .inl (c1, 4, .inl (fun _ => 0))), (m2, .inl (c2, 4, .inl (fun _ => 0))), (m3, .inl (c3, 16384, .inl (fun _ => 0))), (m7, .inl (c7, 48, .inl (fun _ => 0))), (m8, .inl (c8, 48, .inl (fun _ => 0))), (m9, .inl (c9, 48, .inl (fun _ => 0))), (m10, .inl (c10, 3, .inl (fun _ => 0))), (m11, .inl (c11, 3, .inl (fun _ => 0))), (m12, .inl (c12, 3, .inl (fun _ => 0)))] H) (hD : va_D (fun q : Nat => s.heap.size ≤ q) [(h0, .inr (8, [.ref s1, .ref s2, .ref s3, .ref s4, .ref s5, .ref s6, .int 65535, .null, .null])), (s1, .inl (ca, 4, .inr (.inr (.inr (.inr (fun _ => none)))))), (s2, .inr (1, [.ref bx, .int (-1), .int 3, .int 255])), (bx, .inr (0, [.int 0, .int 0, .int 63, .int 63])), (s4, .inr (3, [.ref p1, .ref p2, .ref p3, .ref p4, .int 0, .int 0, .int 0])), (p1, .inl (d1, 48, .inl (fun _ => 0))), (p2, .inl (d2, 48, .inl (fun _ => 0))), (p3, .inl (d3, 48, .inl (fun _ => 0))), (p4, .inl (d4, 48, .inl (fun _ => 0))), (s5, .inr (7, [.ref t1, .ref t2, .ref t3, .ref t4])), (t1, .inl (e1, 3, .inl (fun _ => 0))), (t2, .inl (e2, 3, .inl (fun _ => 0))), (t3, .inl (e3, 3, .inl (fun _ => 0))), (hm, .inr (9, [.ref m1, .ref m2, .ref m3, .int (-1), .int 3, .int 255, .int 0, .int 0, .int 0, .int 0, .int 0, .int 65535, .ref m4, .ref m5, .ref m6, .ref m7, .ref m8, .ref m9, .int 0, .ref m10, .ref m11, .ref m12, .ref m13])), (m1, .inl (c1, 4, .inl (fun _ => 0))), (m2, .inl (c2, 4, .inl (fun _ => 0))), (m3, .inl (c3, 16384, .inl (fun _ => 0))), (m7, .inl (c7, 48, .inl (fun _ => 0))), (m8, .inl (c8, 48, .inl (fun _ => 0))), (m9, .inl (c9, 48, .inl (fun _ => 0))), (m10, .inl (c10, 3, .inl (fun _ => 0))), (m11, .inl (c11, 3, .inl (fun _ => 0))), (m12, .inl (c12, 3, .inl (fun _ => 0)))]) (hS : va_S (fun q : Nat => s.heap.size ≤ q) s.heap H locs) {ls : Array Slot} (hl : lv_has ls 4 [(3, .int 0), (2, .ref hm), (1, .ref h0), (0, .ref b)]) : W p l e room_1 s m #[Value.ref b] below meth c H locs 36 33710 (lw_Z below #[Value.ref b] s) (F0 m 546 ls []) := by
  obtain ⟨hx, hb, hr, hml, hown, hts0, hX, hbl, hlocks, hgv⟩ := id C0
  have hts : ∀ w ∈ bigW, w.before #[Value.ref b] s = true := fun w h => hts0 w (bigW_in w h).1
  have hown : s.vm.findClass RL = some m.cls := hown
  have hA : ∀ q : Nat, s.heap.size ≤ q → (fun q : Nat => s.heap.size ≤ q) q := fun _ h => h
  have hbA : ¬ (fun q : Nat => s.heap.size ≤ q) b := Nat.not_le.mpr hbl
  refine lv_aload_n hx hb dL_law_546 rfl (lv_at hl 2 rfl) ?_
  refine lv_aload_n hx hb dL_law_547 rfl (lv_at hl 3 rfl) ?_
  refine lv_iload_n hx hb dL_law_548 rfl (lv_at hl 0 rfl) ?_
  refine lv_iconst (v := 1) hx hb dL_law_549 (by decide) ?_
  refine lv_iadd hx hb dL_law_550 ?_
  refine my_fold (v := 1) (by decide) ?_
  refine va_sld hx hb hX hbl hbA hS (i := 1) (my_in (by decide) (by decide)) dL_law_551 ?_
  refine my_topv (v := .int (xs 1)) rfl ?_
  refine lv_aload_n hx hb dL_law_552 rfl (lv_at hl 3 rfl) ?_
  refine lv_iload_n hx hb dL_law_553 rfl (lv_at hl 0 rfl) ?_
  refine lv_iconst (v := 2) hx hb dL_law_554 (by decide) ?_
  refine lv_iadd hx hb dL_law_555 ?_
  refine my_fold (v := 2) (by decide) ?_
  refine va_sld hx hb hX hbl hbA hS (i := 2) (my_in (by decide) (by decide)) dL_law_556 ?_
  refine my_topv (v := .int (xs 2)) rfl ?_
  refine lv_aload_n hx hb dL_law_557 rfl (lv_at hl 3 rfl) ?_
  refine lv_iload_n hx hb dL_law_558 rfl (lv_at hl 0 rfl) ?_
  refine lv_iconst (v := 3) hx hb dL_law_559 (by decide) ?_
  refine lv_iadd hx hb dL_law_560 ?_
  refine my_fold (v := 3) (by decide) ?_
  refine va_sld hx hb hX hbl hbA hS (i := 3) (my_in (by decide) (by decide)) dL_law_561 ?_
  refine my_topv (v := .int (xs 3)) rfl ?_
  refine lv_aload_n hx hb dL_law_562 rfl (lv_at hl 3 rfl) ?_
  refine lv_iload_n hx hb dL_law_563 rfl (lv_at hl 0 rfl) ?_
  refine lv_iconst (v := 4) hx hb dL_law_564 (by decide) ?_
  refine lv_iadd hx hb dL_law_565 ?_
  refine my_fold (v := 4) (by decide) ?_
  refine va_sld hx hb hX hbl hbA hS (i := 4) (my_in (by decide) (by decide)) dL_law_566 ?_
  refine my_topv (v := .int (xs 4)) rfl ?_
  have hPc := hP.sub (ws' := [(h0, .inr (8, [.ref s1, .ref s2, .ref s3, .ref s4, .ref s5, .ref s6, .int 65535, .null, .null])), (s5, .inr (7, [.ref t1, .ref t2, .ref t3, .ref t4])), (t1, .inl (e1, 3, .inl (fun _ => 0))), (t2, .inl (e2, 3, .inl (fun _ => 0))), (t3, .inl (e3, 3, .inl (fun _ => 0)))]) [0, 9, 10, 11, 12] rfl
  have hDc := hD.sub (ws' := [(h0, .inr (8, [.ref s1, .ref s2, .ref s3, .ref s4, .ref s5, .ref s6, .int 65535, .null, .null])), (s5, .inr (7, [.ref t1, .ref t2, .ref t3, .ref t4])), (t1, .inl (e1, 3, .inl (fun _ => 0))), (t2, .inl (e2, 3, .inl (fun _ => 0))), (t3, .inl (e3, 3, .inl (fun _ => 0)))]) [0, 9, 10, 11, 12] (by decide) rfl
  have hKc := hK.sub (tys' := [(e1, .int), (e2, .int), (e3, .int)]) [5, 6, 7] rfl
  have hFc := va_free (wc := [(h0, .inr (8, [.ref s1, .ref s2, .ref s3, .ref s4, .ref s5, .ref s6, .int 65535, .null, .null])), (s5, .inr (7, [.ref t1, .ref t2, .ref t3, .ref t4])), (t1, .inl (e1, 3, .inl (fun _ => 0))), (t2, .inl (e2, 3, .inl (fun _ => 0))), (t3, .inl (e3, 3, .inl (fun _ => 0)))]) hD hS hA [0, 9, 10, 11, 12] rfl
  refine va_calli (va_runV (As := [.int (xs 1), .int (xs 2), .int (xs 3), .int (xs 4)]) (rest := []) ⟨hx, hb, hml, hown, hts⟩ (k_X8_corner l D H.size h0 s1 s2 s3 s4 s5 s6 t1 t2 t3 t4 e1 e2 e3 (xs 1) (xs 2) (xs 3) (xs 4)) (cwV 4 hts (gV bw_280 bw_281 bw_282 bw_1 bw_279) rfl rfl rfl (by decide +kernel) ⟨Nat.le_of_ble_eq_true rfl, Nat.le_of_ble_eq_true rfl⟩) ⟨cP_blind, va_recv hKc hPc (ci := 8) (q0 := 0) rfl rfl, cP_at hPc hKc hDc hN⟩ rfl rfl hl.1 rfl (lv_room (Nat.le_of_ble_eq_true rfl)) dL_law_567 ⟨Nat.le_of_ble_eq_true rfl, Nat.le_of_ble_eq_true rfl⟩) hS (fun q _ h => hFc q h) hFc (fun r_1 u9 t9 H1 locs ht hvm hr_1 hB hz1 hk1 hS => ?_)
  try dsimp only at hr_1
  have hP1 : va_P D vwCl [] H1 := vP_nil
  have hD1 : va_D (va_A [(h0, .inr (8, [.ref s1, .ref s2, .ref s3, .ref s4, .ref s5, .ref s6, .int 65535, .null, .null])), (s5, .inr (7, [.ref t1, .ref t2, .ref t3, .ref t4])), (t1, .inl (e1, 3, .inl (fun _ => 0))), (t2, .inl (e2, 3, .inl (fun _ => 0))), (t3, .inl (e3, 3, .inl (fun _ => 0)))] H.size) [] := vD_nil
  obtain ⟨hP, hD⟩ := va_join (wr := [(s1, .inl (ca, 4, .inr (.inr (.inr (.inr (fun _ => none)))))), (s2, .inr (1, [.ref bx, .int (-1), .int 3, .int 255])), (bx, .inr (0, [.int 0, .int 0, .int 63, .int 63])), (s4, .inr (3, [.ref p1, .ref p2, .ref p3, .ref p4, .int 0, .int 0, .int 0])), (p1, .inl (d1, 48, .inl (fun _ => 0))), (p2, .inl (d2, 48, .inl (fun _ => 0))), (p3, .inl (d3, 48, .inl (fun _ => 0))), (p4, .inl (d4, 48, .inl (fun _ => 0))), (hm, .inr (9, [.ref m1, .ref m2, .ref m3, .int (-1), .int 3, .int 255, .int 0, .int 0, .int 0, .int 0, .int 0, .int 65535, .ref m4, .ref m5, .ref m6, .ref m7, .ref m8, .ref m9, .int 0, .ref m10, .ref m11, .ref m12, .ref m13])), (m1, .inl (c1, 4, .inl (fun _ => 0))), (m2, .inl (c2, 4, .inl (fun _ => 0))), (m3, .inl (c3, 16384, .inl (fun _ => 0))), (m7, .inl (c7, 48, .inl (fun _ => 0))), (m8, .inl (c8, 48, .inl (fun _ => 0))), (m9, .inl (c9, 48, .inl (fun _ => 0))), (m10, .inl (c10, 3, .inl (fun _ => 0))), (m11, .inl (c11, 3, .inl (fun _ => 0))), (m12, .inl (c12, 3, .inl (fun _ => 0)))]) (w1 := []) hP hD [0, 9, 10, 11, 12] [1, 2, 3, 4, 5, 6, 7, 8, 13, 14, 15, 16, 17, 18, 19, 20, 21, 22] rfl rfl (by decide) (by decide) hk1 hFc hP1 hD1
  clear hz1 hk1 hFc hKc hDc hPc
  generalize H1 = H at hP hS ⊢
  have hP : va_P D vwCl [(s1, .inl (ca, 4, .inr (.inr (.inr (.inr (fun _ => none)))))), (s2, .inr (1, [.ref bx, .int (-1), .int 3, .int 255])), (bx, .inr (0, [.int 0, .int 0, .int 63, .int 63])), (s4, .inr (3, [.ref p1, .ref p2, .ref p3, .ref p4, .int 0, .int 0, .int 0])), (p1, .inl (d1, 48, .inl (fun _ => 0))), (p2, .inl (d2, 48, .inl (fun _ => 0))), (p3, .inl (d3, 48, .inl (fun _ => 0))), (p4, .inl (d4, 48, .inl (fun _ => 0))), (hm, .inr (9, [.ref m1, .ref m2, .ref m3, .int (-1), .int 3, .int 255, .int 0, .int 0, .int 0, .int 0, .int 0, .int 65535, .ref m4, .ref m5, .ref m6, .ref m7, .ref m8, .ref m9, .int 0, .ref m10, .ref m11, .ref m12, .ref m13])), (m1, .inl (c1, 4, .inl (fun _ => 0))), (m2, .inl (c2, 4, .inl (fun _ => 0))), (m3, .inl (c3, 16384, .inl (fun _ => 0))), (m7, .inl (c7, 48, .inl (fun _ => 0))), (m8, .inl (c8, 48, .inl (fun _ => 0))), (m9, .inl (c9, 48, .inl (fun _ => 0))), (m10, .inl (c10, 3, .inl (fun _ => 0))), (m11, .inl (c11, 3, .inl (fun _ => 0))), (m12, .inl (c12, 3, .inl (fun _ => 0)))] H := hP
  have hD : va_D (fun q : Nat => s.heap.size ≤ q) [(s1, .inl (ca, 4, .inr (.inr (.inr (.inr (fun _ => none)))))), (s2, .inr (1, [.ref bx, .int (-1), .int 3, .int 255])), (bx, .inr (0, [.int 0, .int 0, .int 63, .int 63])), (s4, .inr (3, [.ref p1, .ref p2, .ref p3, .ref p4, .int 0, .int 0, .int 0])), (p1, .inl (d1, 48, .inl (fun _ => 0))), (p2, .inl (d2, 48, .inl (fun _ => 0))), (p3, .inl (d3, 48, .inl (fun _ => 0))), (p4, .inl (d4, 48, .inl (fun _ => 0))), (hm, .inr (9, [.ref m1, .ref m2, .ref m3, .int (-1), .int 3, .int 255, .int 0, .int 0, .int 0, .int 0, .int 0, .int 65535, .ref m4, .ref m5, .ref m6, .ref m7, .ref m8, .ref m9, .int 0, .ref m10, .ref m11, .ref m12, .ref m13])), (m1, .inl (c1, 4, .inl (fun _ => 0))), (m2, .inl (c2, 4, .inl (fun _ => 0))), (m3, .inl (c3, 16384, .inl (fun _ => 0))), (m7, .inl (c7, 48, .inl (fun _ => 0))), (m8, .inl (c8, 48, .inl (fun _ => 0))), (m9, .inl (c9, 48, .inl (fun _ => 0))), (m10, .inl (c10, 3, .inl (fun _ => 0))), (m11, .inl (c11, 3, .inl (fun _ => 0))), (m12, .inl (c12, 3, .inl (fun _ => 0)))] := hD
  refine lv_aload_n hx hb dL_law_570 rfl (lv_at hl 1 rfl) ?_
  refine lv_aload_n hx hb dL_law_571 rfl (lv_at hl 3 rfl) ?_
  refine lv_iload_n hx hb dL_law_572 rfl (lv_at hl 0 rfl) ?_
  refine lv_iconst (v := 1) hx hb dL_law_573 (by decide) ?_
  refine lv_iadd hx hb dL_law_574 ?_
  refine my_fold (v := 1) (by decide) ?_
  refine va_sld hx hb hX hbl hbA hS (i := 1) (my_in (by decide) (by decide)) dL_law_575 ?_
  refine my_topv (v := .int (xs 1)) rfl ?_
  refine lv_aload_n hx hb dL_law_576 rfl (lv_at hl 3 rfl) ?_
  refine lv_iload_n hx hb dL_law_577 rfl (lv_at hl 0 rfl) ?_
  refine lv_iconst (v := 2) hx hb dL_law_578 (by decide) ?_
  refine lv_iadd hx hb dL_law_579 ?_
  refine my_fold (v := 2) (by decide) ?_
  refine va_sld hx hb hX hbl hbA hS (i := 2) (my_in (by decide) (by decide)) dL_law_580 ?_
  refine my_topv (v := .int (xs 2)) rfl ?_
  refine lv_aload_n hx hb dL_law_581 rfl (lv_at hl 3 rfl) ?_
  refine lv_iload_n hx hb dL_law_582 rfl (lv_at hl 0 rfl) ?_
  refine lv_iconst (v := 3) hx hb dL_law_583 (by decide) ?_
  refine lv_iadd hx hb dL_law_584 ?_
  refine my_fold (v := 3) (by decide) ?_
  refine va_sld hx hb hX hbl hbA hS (i := 3) (my_in (by decide) (by decide)) dL_law_585 ?_
  refine my_topv (v := .int (xs 3)) rfl ?_
  refine lv_aload_n hx hb dL_law_586 rfl (lv_at hl 3 rfl) ?_
  refine lv_iload_n hx hb dL_law_587 rfl (lv_at hl 0 rfl) ?_
  refine lv_iconst (v := 4) hx hb dL_law_588 (by decide) ?_
  refine lv_iadd hx hb dL_law_589 ?_
  refine my_fold (v := 4) (by decide) ?_
  refine va_sld hx hb hX hbl hbA hS (i := 4) (my_in (by decide) (by decide)) dL_law_590 ?_
  refine my_topv (v := .int (xs 4)) rfl ?_
  have hPc := hP.sub (ws' := [(hm, .inr (9, [.ref m1, .ref m2, .ref m3, .int (-1), .int 3, .int 255, .int 0, .int 0, .int 0, .int 0, .int 0, .int 65535, .ref m4, .ref m5, .ref m6, .ref m7, .ref m8, .ref m9, .int 0, .ref m10, .ref m11, .ref m12, .ref m13])), (m10, .inl (c10, 3, .inl (fun _ => 0))), (m11, .inl (c11, 3, .inl (fun _ => 0))), (m12, .inl (c12, 3, .inl (fun _ => 0)))]) [8, 15, 16, 17] rfl
  have hDc := hD.sub (ws' := [(hm, .inr (9, [.ref m1, .ref m2, .ref m3, .int (-1), .int 3, .int 255, .int 0, .int 0, .int 0, .int 0, .int 0, .int 65535, .ref m4, .ref m5, .ref m6, .ref m7, .ref m8, .ref m9, .int 0, .ref m10, .ref m11, .ref m12, .ref m13])), (m10, .inl (c10, 3, .inl (fun _ => 0))), (m11, .inl (c11, 3, .inl (fun _ => 0))), (m12, .inl (c12, 3, .inl (fun _ => 0)))]) [8, 15, 16, 17] (by decide) rfl
  have hKc := hK.sub (tys' := [(c10, .int), (c11, .int), (c12, .int)]) [14, 15, 16] rfl
  have hFc := va_free (wc := [(hm, .inr (9, [.ref m1, .ref m2, .ref m3, .int (-1), .int 3, .int 255, .int 0, .int 0, .int 0, .int 0, .int 0, .int 65535, .ref m4, .ref m5, .ref m6, .ref m7, .ref m8, .ref m9, .int 0, .ref m10, .ref m11, .ref m12, .ref m13])), (m10, .inl (c10, 3, .inl (fun _ => 0))), (m11, .inl (c11, 3, .inl (fun _ => 0))), (m12, .inl (c12, 3, .inl (fun _ => 0)))]) hD hS hA [8, 15, 16, 17] rfl
  refine va_calli (va_runV (As := [.int (xs 1), .int (xs 2), .int (xs 3), .int (xs 4)]) (rest := [.int r_1]) ⟨hx, hb, hml, hown, hts⟩ (k_X9_corner l D H.size hm m1 m2 m3 m4 m5 m6 m7 m8 m9 m10 m11 m12 m13 c10 c11 c12 (xs 1) (xs 2) (xs 3) (xs 4)) (cwV 4 hts (gV bw_284 bw_285 bw_286 bw_11 bw_283) rfl rfl rfl (by decide +kernel) ⟨Nat.le_of_ble_eq_true rfl, Nat.le_of_ble_eq_true rfl⟩) ⟨cP_blind, va_recv hKc hPc (ci := 9) (q0 := 0) rfl rfl, cP_at hPc hKc hDc hN⟩ rfl rfl hl.1 rfl (lv_room (Nat.le_of_ble_eq_true rfl)) dL_law_591 ⟨Nat.le_of_ble_eq_true rfl, Nat.le_of_ble_eq_true rfl⟩) hS (fun q _ h => hFc q h) hFc (fun r_2 u9 t9 H1 locs ht hvm hr_2 hB hz1 hk1 hS => ?_)
  try dsimp only at hr_2
  have hP1 : va_P D vwCl [] H1 := vP_nil
  have hD1 : va_D (va_A [(hm, .inr (9, [.ref m1, .ref m2, .ref m3, .int (-1), .int 3, .int 255, .int 0, .int 0, .int 0, .int 0, .int 0, .int 65535, .ref m4, .ref m5, .ref m6, .ref m7, .ref m8, .ref m9, .int 0, .ref m10, .ref m11, .ref m12, .ref m13])), (m10, .inl (c10, 3, .inl (fun _ => 0))), (m11, .inl (c11, 3, .inl (fun _ => 0))), (m12, .inl (c12, 3, .inl (fun _ => 0)))] H.size) [] := vD_nil
  obtain ⟨hP, hD⟩ := va_join (wr := [(s1, .inl (ca, 4, .inr (.inr (.inr (.inr (fun _ => none)))))), (s2, .inr (1, [.ref bx, .int (-1), .int 3, .int 255])), (bx, .inr (0, [.int 0, .int 0, .int 63, .int 63])), (s4, .inr (3, [.ref p1, .ref p2, .ref p3, .ref p4, .int 0, .int 0, .int 0])), (p1, .inl (d1, 48, .inl (fun _ => 0))), (p2, .inl (d2, 48, .inl (fun _ => 0))), (p3, .inl (d3, 48, .inl (fun _ => 0))), (p4, .inl (d4, 48, .inl (fun _ => 0))), (m1, .inl (c1, 4, .inl (fun _ => 0))), (m2, .inl (c2, 4, .inl (fun _ => 0))), (m3, .inl (c3, 16384, .inl (fun _ => 0))), (m7, .inl (c7, 48, .inl (fun _ => 0))), (m8, .inl (c8, 48, .inl (fun _ => 0))), (m9, .inl (c9, 48, .inl (fun _ => 0)))]) (w1 := []) hP hD [8, 15, 16, 17] [0, 1, 2, 3, 4, 5, 6, 7, 9, 10, 11, 12, 13, 14] rfl rfl (by decide) (by decide) hk1 hFc hP1 hD1
  clear hz1 hk1 hFc hKc hDc hPc
  generalize H1 = H at hP hS ⊢
  have hP : va_P D vwCl [(s1, .inl (ca, 4, .inr (.inr (.inr (.inr (fun _ => none)))))), (s2, .inr (1, [.ref bx, .int (-1), .int 3, .int 255])), (bx, .inr (0, [.int 0, .int 0, .int 63, .int 63])), (s4, .inr (3, [.ref p1, .ref p2, .ref p3, .ref p4, .int 0, .int 0, .int 0])), (p1, .inl (d1, 48, .inl (fun _ => 0))), (p2, .inl (d2, 48, .inl (fun _ => 0))), (p3, .inl (d3, 48, .inl (fun _ => 0))), (p4, .inl (d4, 48, .inl (fun _ => 0))), (m1, .inl (c1, 4, .inl (fun _ => 0))), (m2, .inl (c2, 4, .inl (fun _ => 0))), (m3, .inl (c3, 16384, .inl (fun _ => 0))), (m7, .inl (c7, 48, .inl (fun _ => 0))), (m8, .inl (c8, 48, .inl (fun _ => 0))), (m9, .inl (c9, 48, .inl (fun _ => 0)))] H := hP
  have hD : va_D (fun q : Nat => s.heap.size ≤ q) [(s1, .inl (ca, 4, .inr (.inr (.inr (.inr (fun _ => none)))))), (s2, .inr (1, [.ref bx, .int (-1), .int 3, .int 255])), (bx, .inr (0, [.int 0, .int 0, .int 63, .int 63])), (s4, .inr (3, [.ref p1, .ref p2, .ref p3, .ref p4, .int 0, .int 0, .int 0])), (p1, .inl (d1, 48, .inl (fun _ => 0))), (p2, .inl (d2, 48, .inl (fun _ => 0))), (p3, .inl (d3, 48, .inl (fun _ => 0))), (p4, .inl (d4, 48, .inl (fun _ => 0))), (m1, .inl (c1, 4, .inl (fun _ => 0))), (m2, .inl (c2, 4, .inl (fun _ => 0))), (m3, .inl (c3, 16384, .inl (fun _ => 0))), (m7, .inl (c7, 48, .inl (fun _ => 0))), (m8, .inl (c8, 48, .inl (fun _ => 0))), (m9, .inl (c9, 48, .inl (fun _ => 0)))] := hD
  refine lv_icmp_eq (tgt := 1167) hx hb dL_law_594 (by decide) (fun c_3 => ?_) (fun c_3 => ?_)
  · skip
    have f_4 : r_1.toInt = r_2.toInt := f_eq rfl rfl c_3
    exact law_tail C0 (by omega) (by omega) hS (lv_sub hl [0, 3] rfl)
  · skip
    exact absurd (hr_1.trans hr_2.symm) c_3

set_option maxHeartbeats 4000000 in
set_option maxRecDepth 100000 in
theorem law_c11 {p : Program} {l : Launch} {e : Env} {s : State} {m : MethodId} {below : List Frame} {meth : Method} {c : Code} {b : Nat} {xs : Nat → Int32} (C0 : lw_At p s m meth c b 11 xs) (hN : nW s) {D : va_G} {h0 s1 s2 s3 s4 s5 s6 bx p1 p2 p3 p4 t1 t2 t3 t4 hm m1 m2 m3 m4 m5 m6 m7 m8 m9 m10 m11 m12 m13 : Nat} {ca d1 d2 d3 d4 e1 e2 e3 c1 c2 c3 c7 c8 c9 c10 c11 c12 : ClassId} {H : Heap} {locs : List Loc} (hK : va_K D vwCl [(ca, .object "DotBench$Sheet"), (d1, .int), (d2, .int), (d3, .int), (d4, .int), (e1, .int), (e2, .int), (e3, .int), (c1, .int), (c2, .int), (c3, .int), (c7, .int), (c8, .int), (c9, .boolean), (c10, .int), (c11, .int), (c12, .int)] s) (hP : va_P D vwCl [(h0, .inr (8, [.ref s1, .ref s2, .ref s3, .ref s4, .ref s5, .ref s6, .int 65535, .null, .null])), (s1, .inl (ca, 4, .inr (.inr (.inr (.inr (fun _ => none)))))), (s2, .inr (1, [.ref bx, .int (-1), .int 3, .int 255])), (bx, .inr (0, [.int 0, .int 0, .int 63, .int 63])), (s4, .inr (3, [.ref p1, .ref p2, .ref p3, .ref p4, .int 0, .int 0, .int 0])), (p1, .inl (d1, 48, .inl (fun _ => 0))), (p2, .inl (d2, 48, .inl (fun _ => 0))), (p3, .inl (d3, 48, .inl (fun _ => 0))), (p4, .inl (d4, 48, .inl (fun _ => 0))), (s5, .inr (7, [.ref t1, .ref t2, .ref t3, .ref t4])), (t1, .inl (e1, 3, .inl (fun _ => 0))), (t2, .inl (e2, 3, .inl (fun _ => 0))), (t3, .inl (e3, 3, .inl (fun _ => 0))), (hm, .inr (9, [.ref m1, .ref m2, .ref m3, .int (-1), .int 3, .int 255, .int 0, .int 0, .int 0, .int 0, .int 0, .int 65535, .ref m4, .ref m5, .ref m6, .ref m7, .ref m8, .ref m9, .int 0, .ref m10, .ref m11, .ref m12, .ref m13])), (m1, .inl (c1, 4, .inl (fun _ => 0))), (m2, .inl (c2, 4, .inl (fun _ => 0))), (m3, .inl (c3, 16384, .inl (fun _ => 0))), (m7, .inl (c7, 48, .inl (fun _ => 0))), (m8, .inl (c8, 48, .inl (fun _ => 0))), (m9, .inl (c9, 48, .inl (fun _ => 0))), (m10, .inl (c10, 3, .inl (fun _ => 0))), (m11, .inl (c11, 3, .inl (fun _ => 0))), (m12, .inl (c12, 3, .inl (fun _ => 0)))] H) (hD : va_D (fun q : Nat => s.heap.size ≤ q) [(h0, .inr (8, [.ref s1, .ref s2, .ref s3, .ref s4, .ref s5, .ref s6, .int 65535, .null, .null])), (s1, .inl (ca, 4, .inr (.inr (.inr (.inr (fun _ => none)))))), (s2, .inr (1, [.ref bx, .int (-1), .int 3, .int 255])), (bx, .inr (0, [.int 0, .int 0, .int 63, .int 63])), (s4, .inr (3, [.ref p1, .ref p2, .ref p3, .ref p4, .int 0, .int 0, .int 0])), (p1, .inl (d1, 48, .inl (fun _ => 0))), (p2, .inl (d2, 48, .inl (fun _ => 0))), (p3, .inl (d3, 48, .inl (fun _ => 0))), (p4, .inl (d4, 48, .inl (fun _ => 0))), (s5, .inr (7, [.ref t1, .ref t2, .ref t3, .ref t4])), (t1, .inl (e1, 3, .inl (fun _ => 0))), (t2, .inl (e2, 3, .inl (fun _ => 0))), (t3, .inl (e3, 3, .inl (fun _ => 0))), (hm, .inr (9, [.ref m1, .ref m2, .ref m3, .int (-1), .int 3, .int 255, .int 0, .int 0, .int 0, .int 0, .int 0, .int 65535, .ref m4, .ref m5, .ref m6, .ref m7, .ref m8, .ref m9, .int 0, .ref m10, .ref m11, .ref m12, .ref m13])), (m1, .inl (c1, 4, .inl (fun _ => 0))), (m2, .inl (c2, 4, .inl (fun _ => 0))), (m3, .inl (c3, 16384, .inl (fun _ => 0))), (m7, .inl (c7, 48, .inl (fun _ => 0))), (m8, .inl (c8, 48, .inl (fun _ => 0))), (m9, .inl (c9, 48, .inl (fun _ => 0))), (m10, .inl (c10, 3, .inl (fun _ => 0))), (m11, .inl (c11, 3, .inl (fun _ => 0))), (m12, .inl (c12, 3, .inl (fun _ => 0)))]) (hS : va_S (fun q : Nat => s.heap.size ≤ q) s.heap H locs) {ls : Array Slot} (hl : lv_has ls 4 [(3, .int 0), (2, .ref hm), (1, .ref h0), (0, .ref b)]) : W p l e room_1 s m #[Value.ref b] below meth c H locs 36 33710 (lw_Z below #[Value.ref b] s) (F0 m 599 ls []) := by
  obtain ⟨hx, hb, hr, hml, hown, hts0, hX, hbl, hlocks, hgv⟩ := id C0
  have hts : ∀ w ∈ bigW, w.before #[Value.ref b] s = true := fun w h => hts0 w (bigW_in w h).1
  have hown : s.vm.findClass RL = some m.cls := hown
  have hA : ∀ q : Nat, s.heap.size ≤ q → (fun q : Nat => s.heap.size ≤ q) q := fun _ h => h
  have hbA : ¬ (fun q : Nat => s.heap.size ≤ q) b := Nat.not_le.mpr hbl
  refine lv_aload_n hx hb dL_law_599 rfl (lv_at hl 2 rfl) ?_
  refine lv_aload_n hx hb dL_law_600 rfl (lv_at hl 3 rfl) ?_
  refine lv_iload_n hx hb dL_law_601 rfl (lv_at hl 0 rfl) ?_
  refine lv_iconst (v := 1) hx hb dL_law_602 (by decide) ?_
  refine lv_iadd hx hb dL_law_603 ?_
  refine my_fold (v := 1) (by decide) ?_
  refine va_sld hx hb hX hbl hbA hS (i := 1) (my_in (by decide) (by decide)) dL_law_604 ?_
  refine my_topv (v := .int (xs 1)) rfl ?_
  have hPc := hP.sub (ws' := [(h0, .inr (8, [.ref s1, .ref s2, .ref s3, .ref s4, .ref s5, .ref s6, .int 65535, .null, .null])), (s1, .inl (ca, 4, .inr (.inr (.inr (.inr (fun _ => none))))))]) [0, 1] rfl
  have hDc := hD.sub (ws' := [(h0, .inr (8, [.ref s1, .ref s2, .ref s3, .ref s4, .ref s5, .ref s6, .int 65535, .null, .null])), (s1, .inl (ca, 4, .inr (.inr (.inr (.inr (fun _ => none))))))]) [0, 1] (by decide) rfl
  have hKc := hK.sub (tys' := [(ca, .object "DotBench$Sheet")]) [0] rfl
  have hFc := va_free (wc := [(h0, .inr (8, [.ref s1, .ref s2, .ref s3, .ref s4, .ref s5, .ref s6, .int 65535, .null, .null])), (s1, .inl (ca, 4, .inr (.inr (.inr (.inr (fun _ => none))))))]) hD hS hA [0, 1] rfl
  refine va_calli (va_runV (As := [.int (xs 1)]) (rest := []) ⟨hx, hb, hml, hown, hts⟩ (k_X8_shade l D H.size h0 s1 s2 s3 s4 s5 s6 ca (xs 1)) (cwV 1 hts (gV bw_288 bw_289 bw_290 bw_1 bw_287) rfl rfl rfl (by decide +kernel) ⟨Nat.le_of_ble_eq_true rfl, Nat.le_of_ble_eq_true rfl⟩) ⟨cP_blind, va_recv hKc hPc (ci := 8) (q0 := 0) rfl rfl, cP_at hPc hKc hDc hN⟩ rfl rfl hl.1 rfl (lv_room (Nat.le_of_ble_eq_true rfl)) dL_law_605 ⟨Nat.le_of_ble_eq_true rfl, Nat.le_of_ble_eq_true rfl⟩) hS (fun q _ h => hFc q h) hFc (fun r_1 u9 t9 H1 locs ht hvm hr_1 hB hz1 hk1 hS => ?_)
  try dsimp only at hr_1
  have hP1 : va_P D vwCl [] H1 := vP_nil
  have hD1 : va_D (va_A [(h0, .inr (8, [.ref s1, .ref s2, .ref s3, .ref s4, .ref s5, .ref s6, .int 65535, .null, .null])), (s1, .inl (ca, 4, .inr (.inr (.inr (.inr (fun _ => none))))))] H.size) [] := vD_nil
  obtain ⟨hP, hD⟩ := va_join (wr := [(s2, .inr (1, [.ref bx, .int (-1), .int 3, .int 255])), (bx, .inr (0, [.int 0, .int 0, .int 63, .int 63])), (s4, .inr (3, [.ref p1, .ref p2, .ref p3, .ref p4, .int 0, .int 0, .int 0])), (p1, .inl (d1, 48, .inl (fun _ => 0))), (p2, .inl (d2, 48, .inl (fun _ => 0))), (p3, .inl (d3, 48, .inl (fun _ => 0))), (p4, .inl (d4, 48, .inl (fun _ => 0))), (s5, .inr (7, [.ref t1, .ref t2, .ref t3, .ref t4])), (t1, .inl (e1, 3, .inl (fun _ => 0))), (t2, .inl (e2, 3, .inl (fun _ => 0))), (t3, .inl (e3, 3, .inl (fun _ => 0))), (hm, .inr (9, [.ref m1, .ref m2, .ref m3, .int (-1), .int 3, .int 255, .int 0, .int 0, .int 0, .int 0, .int 0, .int 65535, .ref m4, .ref m5, .ref m6, .ref m7, .ref m8, .ref m9, .int 0, .ref m10, .ref m11, .ref m12, .ref m13])), (m1, .inl (c1, 4, .inl (fun _ => 0))), (m2, .inl (c2, 4, .inl (fun _ => 0))), (m3, .inl (c3, 16384, .inl (fun _ => 0))), (m7, .inl (c7, 48, .inl (fun _ => 0))), (m8, .inl (c8, 48, .inl (fun _ => 0))), (m9, .inl (c9, 48, .inl (fun _ => 0))), (m10, .inl (c10, 3, .inl (fun _ => 0))), (m11, .inl (c11, 3, .inl (fun _ => 0))), (m12, .inl (c12, 3, .inl (fun _ => 0)))]) (w1 := []) hP hD [0, 1] [2, 3, 4, 5, 6, 7, 8, 9, 10, 11, 12, 13, 14, 15, 16, 17, 18, 19, 20, 21, 22] rfl rfl (by decide) (by decide) hk1 hFc hP1 hD1
  clear hz1 hk1 hFc hKc hDc hPc
  generalize H1 = H at hP hS ⊢
  have hP : va_P D vwCl [(s2, .inr (1, [.ref bx, .int (-1), .int 3, .int 255])), (bx, .inr (0, [.int 0, .int 0, .int 63, .int 63])), (s4, .inr (3, [.ref p1, .ref p2, .ref p3, .ref p4, .int 0, .int 0, .int 0])), (p1, .inl (d1, 48, .inl (fun _ => 0))), (p2, .inl (d2, 48, .inl (fun _ => 0))), (p3, .inl (d3, 48, .inl (fun _ => 0))), (p4, .inl (d4, 48, .inl (fun _ => 0))), (s5, .inr (7, [.ref t1, .ref t2, .ref t3, .ref t4])), (t1, .inl (e1, 3, .inl (fun _ => 0))), (t2, .inl (e2, 3, .inl (fun _ => 0))), (t3, .inl (e3, 3, .inl (fun _ => 0))), (hm, .inr (9, [.ref m1, .ref m2, .ref m3, .int (-1), .int 3, .int 255, .int 0, .int 0, .int 0, .int 0, .int 0, .int 65535, .ref m4, .ref m5, .ref m6, .ref m7, .ref m8, .ref m9, .int 0, .ref m10, .ref m11, .ref m12, .ref m13])), (m1, .inl (c1, 4, .inl (fun _ => 0))), (m2, .inl (c2, 4, .inl (fun _ => 0))), (m3, .inl (c3, 16384, .inl (fun _ => 0))), (m7, .inl (c7, 48, .inl (fun _ => 0))), (m8, .inl (c8, 48, .inl (fun _ => 0))), (m9, .inl (c9, 48, .inl (fun _ => 0))), (m10, .inl (c10, 3, .inl (fun _ => 0))), (m11, .inl (c11, 3, .inl (fun _ => 0))), (m12, .inl (c12, 3, .inl (fun _ => 0)))] H := hP
  have hD : va_D (fun q : Nat => s.heap.size ≤ q) [(s2, .inr (1, [.ref bx, .int (-1), .int 3, .int 255])), (bx, .inr (0, [.int 0, .int 0, .int 63, .int 63])), (s4, .inr (3, [.ref p1, .ref p2, .ref p3, .ref p4, .int 0, .int 0, .int 0])), (p1, .inl (d1, 48, .inl (fun _ => 0))), (p2, .inl (d2, 48, .inl (fun _ => 0))), (p3, .inl (d3, 48, .inl (fun _ => 0))), (p4, .inl (d4, 48, .inl (fun _ => 0))), (s5, .inr (7, [.ref t1, .ref t2, .ref t3, .ref t4])), (t1, .inl (e1, 3, .inl (fun _ => 0))), (t2, .inl (e2, 3, .inl (fun _ => 0))), (t3, .inl (e3, 3, .inl (fun _ => 0))), (hm, .inr (9, [.ref m1, .ref m2, .ref m3, .int (-1), .int 3, .int 255, .int 0, .int 0, .int 0, .int 0, .int 0, .int 65535, .ref m4, .ref m5, .ref m6, .ref m7, .ref m8, .ref m9, .int 0, .ref m10, .ref m11, .ref m12, .ref m13])), (m1, .inl (c1, 4, .inl (fun _ => 0))), (m2, .inl (c2, 4, .inl (fun _ => 0))), (m3, .inl (c3, 16384, .inl (fun _ => 0))), (m7, .inl (c7, 48, .inl (fun _ => 0))), (m8, .inl (c8, 48, .inl (fun _ => 0))), (m9, .inl (c9, 48, .inl (fun _ => 0))), (m10, .inl (c10, 3, .inl (fun _ => 0))), (m11, .inl (c11, 3, .inl (fun _ => 0))), (m12, .inl (c12, 3, .inl (fun _ => 0)))] := hD
  subst hr_1
  refine lv_aload_n hx hb dL_law_608 rfl (lv_at hl 1 rfl) ?_
  refine lv_aload_n hx hb dL_law_609 rfl (lv_at hl 3 rfl) ?_
  refine lv_iload_n hx hb dL_law_610 rfl (lv_at hl 0 rfl) ?_
  refine lv_iconst (v := 1) hx hb dL_law_611 (by decide) ?_
  refine lv_iadd hx hb dL_law_612 ?_
  refine my_fold (v := 1) (by decide) ?_
  refine va_sld hx hb hX hbl hbA hS (i := 1) (my_in (by decide) (by decide)) dL_law_613 ?_
  refine my_topv (v := .int (xs 1)) rfl ?_
  have hPc := hP.sub (ws' := [(hm, .inr (9, [.ref m1, .ref m2, .ref m3, .int (-1), .int 3, .int 255, .int 0, .int 0, .int 0, .int 0, .int 0, .int 65535, .ref m4, .ref m5, .ref m6, .ref m7, .ref m8, .ref m9, .int 0, .ref m10, .ref m11, .ref m12, .ref m13])), (m1, .inl (c1, 4, .inl (fun _ => 0)))]) [11, 12] rfl
  have hDc := hD.sub (ws' := [(hm, .inr (9, [.ref m1, .ref m2, .ref m3, .int (-1), .int 3, .int 255, .int 0, .int 0, .int 0, .int 0, .int 0, .int 65535, .ref m4, .ref m5, .ref m6, .ref m7, .ref m8, .ref m9, .int 0, .ref m10, .ref m11, .ref m12, .ref m13])), (m1, .inl (c1, 4, .inl (fun _ => 0)))]) [11, 12] (by decide) rfl
  have hKc := hK.sub (tys' := [(c1, .int)]) [8] rfl
  have hFc := va_free (wc := [(hm, .inr (9, [.ref m1, .ref m2, .ref m3, .int (-1), .int 3, .int 255, .int 0, .int 0, .int 0, .int 0, .int 0, .int 65535, .ref m4, .ref m5, .ref m6, .ref m7, .ref m8, .ref m9, .int 0, .ref m10, .ref m11, .ref m12, .ref m13])), (m1, .inl (c1, 4, .inl (fun _ => 0)))]) hD hS hA [11, 12] rfl
  refine va_calli (va_runV (As := [.int (xs 1)]) (rest := [.int (-1)]) ⟨hx, hb, hml, hown, hts⟩ (k_X9_shade l D H.size hm m1 m2 m3 m4 m5 m6 m7 m8 m9 m10 m11 m12 m13 c1 (xs 1)) (cwV 1 hts (gV bw_292 bw_293 bw_294 bw_11 bw_291) rfl rfl rfl (by decide +kernel) ⟨Nat.le_of_ble_eq_true rfl, Nat.le_of_ble_eq_true rfl⟩) ⟨cP_blind, va_recv hKc hPc (ci := 9) (q0 := 0) rfl rfl, cP_at hPc hKc hDc hN⟩ rfl rfl hl.1 rfl (lv_room (Nat.le_of_ble_eq_true rfl)) dL_law_614 ⟨Nat.le_of_ble_eq_true rfl, Nat.le_of_ble_eq_true rfl⟩) hS (fun q _ h => hFc q h) hFc (fun r_2 u9 t9 H1 locs ht hvm hr_2 hB hz1 hk1 hS => ?_)
  try dsimp only at hr_2
  have hP1 : va_P D vwCl [] H1 := vP_nil
  have hD1 : va_D (va_A [(hm, .inr (9, [.ref m1, .ref m2, .ref m3, .int (-1), .int 3, .int 255, .int 0, .int 0, .int 0, .int 0, .int 0, .int 65535, .ref m4, .ref m5, .ref m6, .ref m7, .ref m8, .ref m9, .int 0, .ref m10, .ref m11, .ref m12, .ref m13])), (m1, .inl (c1, 4, .inl (fun _ => 0)))] H.size) [] := vD_nil
  obtain ⟨hP, hD⟩ := va_join (wr := [(s2, .inr (1, [.ref bx, .int (-1), .int 3, .int 255])), (bx, .inr (0, [.int 0, .int 0, .int 63, .int 63])), (s4, .inr (3, [.ref p1, .ref p2, .ref p3, .ref p4, .int 0, .int 0, .int 0])), (p1, .inl (d1, 48, .inl (fun _ => 0))), (p2, .inl (d2, 48, .inl (fun _ => 0))), (p3, .inl (d3, 48, .inl (fun _ => 0))), (p4, .inl (d4, 48, .inl (fun _ => 0))), (s5, .inr (7, [.ref t1, .ref t2, .ref t3, .ref t4])), (t1, .inl (e1, 3, .inl (fun _ => 0))), (t2, .inl (e2, 3, .inl (fun _ => 0))), (t3, .inl (e3, 3, .inl (fun _ => 0))), (m2, .inl (c2, 4, .inl (fun _ => 0))), (m3, .inl (c3, 16384, .inl (fun _ => 0))), (m7, .inl (c7, 48, .inl (fun _ => 0))), (m8, .inl (c8, 48, .inl (fun _ => 0))), (m9, .inl (c9, 48, .inl (fun _ => 0))), (m10, .inl (c10, 3, .inl (fun _ => 0))), (m11, .inl (c11, 3, .inl (fun _ => 0))), (m12, .inl (c12, 3, .inl (fun _ => 0)))]) (w1 := []) hP hD [11, 12] [0, 1, 2, 3, 4, 5, 6, 7, 8, 9, 10, 13, 14, 15, 16, 17, 18, 19, 20] rfl rfl (by decide) (by decide) hk1 hFc hP1 hD1
  clear hz1 hk1 hFc hKc hDc hPc
  generalize H1 = H at hP hS ⊢
  have hP : va_P D vwCl [(s2, .inr (1, [.ref bx, .int (-1), .int 3, .int 255])), (bx, .inr (0, [.int 0, .int 0, .int 63, .int 63])), (s4, .inr (3, [.ref p1, .ref p2, .ref p3, .ref p4, .int 0, .int 0, .int 0])), (p1, .inl (d1, 48, .inl (fun _ => 0))), (p2, .inl (d2, 48, .inl (fun _ => 0))), (p3, .inl (d3, 48, .inl (fun _ => 0))), (p4, .inl (d4, 48, .inl (fun _ => 0))), (s5, .inr (7, [.ref t1, .ref t2, .ref t3, .ref t4])), (t1, .inl (e1, 3, .inl (fun _ => 0))), (t2, .inl (e2, 3, .inl (fun _ => 0))), (t3, .inl (e3, 3, .inl (fun _ => 0))), (m2, .inl (c2, 4, .inl (fun _ => 0))), (m3, .inl (c3, 16384, .inl (fun _ => 0))), (m7, .inl (c7, 48, .inl (fun _ => 0))), (m8, .inl (c8, 48, .inl (fun _ => 0))), (m9, .inl (c9, 48, .inl (fun _ => 0))), (m10, .inl (c10, 3, .inl (fun _ => 0))), (m11, .inl (c11, 3, .inl (fun _ => 0))), (m12, .inl (c12, 3, .inl (fun _ => 0)))] H := hP
  have hD : va_D (fun q : Nat => s.heap.size ≤ q) [(s2, .inr (1, [.ref bx, .int (-1), .int 3, .int 255])), (bx, .inr (0, [.int 0, .int 0, .int 63, .int 63])), (s4, .inr (3, [.ref p1, .ref p2, .ref p3, .ref p4, .int 0, .int 0, .int 0])), (p1, .inl (d1, 48, .inl (fun _ => 0))), (p2, .inl (d2, 48, .inl (fun _ => 0))), (p3, .inl (d3, 48, .inl (fun _ => 0))), (p4, .inl (d4, 48, .inl (fun _ => 0))), (s5, .inr (7, [.ref t1, .ref t2, .ref t3, .ref t4])), (t1, .inl (e1, 3, .inl (fun _ => 0))), (t2, .inl (e2, 3, .inl (fun _ => 0))), (t3, .inl (e3, 3, .inl (fun _ => 0))), (m2, .inl (c2, 4, .inl (fun _ => 0))), (m3, .inl (c3, 16384, .inl (fun _ => 0))), (m7, .inl (c7, 48, .inl (fun _ => 0))), (m8, .inl (c8, 48, .inl (fun _ => 0))), (m9, .inl (c9, 48, .inl (fun _ => 0))), (m10, .inl (c10, 3, .inl (fun _ => 0))), (m11, .inl (c11, 3, .inl (fun _ => 0))), (m12, .inl (c12, 3, .inl (fun _ => 0)))] := hD
  subst hr_2
  refine lv_icmp_eq (tgt := 1167) hx hb dL_law_617 (by decide) (fun c_3 => ?_) (fun c_3 => ?_)
  · skip
    exact law_tail C0 (by omega) (by omega) hS (lv_sub hl [0, 3] rfl)
  · skip
    exact absurd c_3 (by decide)

set_option maxHeartbeats 4000000 in
set_option maxRecDepth 100000 in
theorem law_c12 {p : Program} {l : Launch} {e : Env} {s : State} {m : MethodId} {below : List Frame} {meth : Method} {c : Code} {b : Nat} {xs : Nat → Int32} (C0 : lw_At p s m meth c b 11 xs) (hN : nW s) {D : va_G} {h0 s1 s2 s3 s4 s5 s6 bx p1 p2 p3 p4 t1 t2 t3 t4 hm m1 m2 m3 m4 m5 m6 m7 m8 m9 m10 m11 m12 m13 : Nat} {ca d1 d2 d3 d4 e1 e2 e3 c1 c2 c3 c7 c8 c9 c10 c11 c12 : ClassId} {H : Heap} {locs : List Loc} (hK : va_K D vwCl [(ca, .object "DotBench$Sheet"), (d1, .int), (d2, .int), (d3, .int), (d4, .int), (e1, .int), (e2, .int), (e3, .int), (c1, .int), (c2, .int), (c3, .int), (c7, .int), (c8, .int), (c9, .boolean), (c10, .int), (c11, .int), (c12, .int)] s) (hP : va_P D vwCl [(h0, .inr (8, [.ref s1, .ref s2, .ref s3, .ref s4, .ref s5, .ref s6, .int 65535, .null, .null])), (s1, .inl (ca, 4, .inr (.inr (.inr (.inr (fun _ => none)))))), (s2, .inr (1, [.ref bx, .int (-1), .int 3, .int 255])), (bx, .inr (0, [.int 0, .int 0, .int 63, .int 63])), (s4, .inr (3, [.ref p1, .ref p2, .ref p3, .ref p4, .int 0, .int 0, .int 0])), (p1, .inl (d1, 48, .inl (fun _ => 0))), (p2, .inl (d2, 48, .inl (fun _ => 0))), (p3, .inl (d3, 48, .inl (fun _ => 0))), (p4, .inl (d4, 48, .inl (fun _ => 0))), (s5, .inr (7, [.ref t1, .ref t2, .ref t3, .ref t4])), (t1, .inl (e1, 3, .inl (fun _ => 0))), (t2, .inl (e2, 3, .inl (fun _ => 0))), (t3, .inl (e3, 3, .inl (fun _ => 0))), (hm, .inr (9, [.ref m1, .ref m2, .ref m3, .int (-1), .int 3, .int 255, .int 0, .int 0, .int 0, .int 0, .int 0, .int 65535, .ref m4, .ref m5, .ref m6, .ref m7, .ref m8, .ref m9, .int 0, .ref m10, .ref m11, .ref m12, .ref m13])), (m1, .inl (c1, 4, .inl (fun _ => 0))), (m2, .inl (c2, 4, .inl (fun _ => 0))), (m3, .inl (c3, 16384, .inl (fun _ => 0))), (m7, .inl (c7, 48, .inl (fun _ => 0))), (m8, .inl (c8, 48, .inl (fun _ => 0))), (m9, .inl (c9, 48, .inl (fun _ => 0))), (m10, .inl (c10, 3, .inl (fun _ => 0))), (m11, .inl (c11, 3, .inl (fun _ => 0))), (m12, .inl (c12, 3, .inl (fun _ => 0)))] H) (hD : va_D (fun q : Nat => s.heap.size ≤ q) [(h0, .inr (8, [.ref s1, .ref s2, .ref s3, .ref s4, .ref s5, .ref s6, .int 65535, .null, .null])), (s1, .inl (ca, 4, .inr (.inr (.inr (.inr (fun _ => none)))))), (s2, .inr (1, [.ref bx, .int (-1), .int 3, .int 255])), (bx, .inr (0, [.int 0, .int 0, .int 63, .int 63])), (s4, .inr (3, [.ref p1, .ref p2, .ref p3, .ref p4, .int 0, .int 0, .int 0])), (p1, .inl (d1, 48, .inl (fun _ => 0))), (p2, .inl (d2, 48, .inl (fun _ => 0))), (p3, .inl (d3, 48, .inl (fun _ => 0))), (p4, .inl (d4, 48, .inl (fun _ => 0))), (s5, .inr (7, [.ref t1, .ref t2, .ref t3, .ref t4])), (t1, .inl (e1, 3, .inl (fun _ => 0))), (t2, .inl (e2, 3, .inl (fun _ => 0))), (t3, .inl (e3, 3, .inl (fun _ => 0))), (hm, .inr (9, [.ref m1, .ref m2, .ref m3, .int (-1), .int 3, .int 255, .int 0, .int 0, .int 0, .int 0, .int 0, .int 65535, .ref m4, .ref m5, .ref m6, .ref m7, .ref m8, .ref m9, .int 0, .ref m10, .ref m11, .ref m12, .ref m13])), (m1, .inl (c1, 4, .inl (fun _ => 0))), (m2, .inl (c2, 4, .inl (fun _ => 0))), (m3, .inl (c3, 16384, .inl (fun _ => 0))), (m7, .inl (c7, 48, .inl (fun _ => 0))), (m8, .inl (c8, 48, .inl (fun _ => 0))), (m9, .inl (c9, 48, .inl (fun _ => 0))), (m10, .inl (c10, 3, .inl (fun _ => 0))), (m11, .inl (c11, 3, .inl (fun _ => 0))), (m12, .inl (c12, 3, .inl (fun _ => 0)))]) (hS : va_S (fun q : Nat => s.heap.size ≤ q) s.heap H locs) {ls : Array Slot} (hl : lv_has ls 4 [(3, .int 0), (2, .ref hm), (1, .ref h0), (0, .ref b)]) : W p l e room_1 s m #[Value.ref b] below meth c H locs 36 33710 (lw_Z below #[Value.ref b] s) (F0 m 622 ls []) := by
  obtain ⟨hx, hb, hr, hml, hown, hts0, hX, hbl, hlocks, hgv⟩ := id C0
  have hts : ∀ w ∈ bigW, w.before #[Value.ref b] s = true := fun w h => hts0 w (bigW_in w h).1
  have hown : s.vm.findClass RL = some m.cls := hown
  have hA : ∀ q : Nat, s.heap.size ≤ q → (fun q : Nat => s.heap.size ≤ q) q := fun _ h => h
  have hbA : ¬ (fun q : Nat => s.heap.size ≤ q) b := Nat.not_le.mpr hbl
  refine lv_aload_n hx hb dL_law_622 rfl (lv_at hl 2 rfl) ?_
  refine lv_aload_n hx hb dL_law_623 rfl (lv_at hl 3 rfl) ?_
  refine lv_iload_n hx hb dL_law_624 rfl (lv_at hl 0 rfl) ?_
  refine lv_iconst (v := 1) hx hb dL_law_625 (by decide) ?_
  refine lv_iadd hx hb dL_law_626 ?_
  refine my_fold (v := 1) (by decide) ?_
  refine va_sld hx hb hX hbl hbA hS (i := 1) (my_in (by decide) (by decide)) dL_law_627 ?_
  refine my_topv (v := .int (xs 1)) rfl ?_
  refine lv_aload_n hx hb dL_law_628 rfl (lv_at hl 3 rfl) ?_
  refine lv_iload_n hx hb dL_law_629 rfl (lv_at hl 0 rfl) ?_
  refine lv_iconst (v := 2) hx hb dL_law_630 (by decide) ?_
  refine lv_iadd hx hb dL_law_631 ?_
  refine my_fold (v := 2) (by decide) ?_
  refine va_sld hx hb hX hbl hbA hS (i := 2) (my_in (by decide) (by decide)) dL_law_632 ?_
  refine my_topv (v := .int (xs 2)) rfl ?_
  refine lv_aload_n hx hb dL_law_633 rfl (lv_at hl 3 rfl) ?_
  refine lv_iload_n hx hb dL_law_634 rfl (lv_at hl 0 rfl) ?_
  refine lv_iconst (v := 3) hx hb dL_law_635 (by decide) ?_
  refine lv_iadd hx hb dL_law_636 ?_
  refine my_fold (v := 3) (by decide) ?_
  refine va_sld hx hb hX hbl hbA hS (i := 3) (my_in (by decide) (by decide)) dL_law_637 ?_
  refine my_topv (v := .int (xs 3)) rfl ?_
  refine lv_aload_n hx hb dL_law_638 rfl (lv_at hl 3 rfl) ?_
  refine lv_iload_n hx hb dL_law_639 rfl (lv_at hl 0 rfl) ?_
  refine lv_iconst (v := 4) hx hb dL_law_640 (by decide) ?_
  refine lv_iadd hx hb dL_law_641 ?_
  refine my_fold (v := 4) (by decide) ?_
  refine va_sld hx hb hX hbl hbA hS (i := 4) (my_in (by decide) (by decide)) dL_law_642 ?_
  refine my_topv (v := .int (xs 4)) rfl ?_
  refine lv_if_eq (tgt := 650) hx hb dL_law_643 (by decide) (fun c_1 => ?_) (fun c_1 => ?_)
  · skip
    have f_2 : (xs 4).toInt = 0 := f_eq rfl (by decide) c_1
    refine lv_iconst (v := 0) hx hb dL_law_650 (by decide) ?_
    have hPc := hP.sub (ws' := [(h0, .inr (8, [.ref s1, .ref s2, .ref s3, .ref s4, .ref s5, .ref s6, .int 65535, .null, .null])), (s1, .inl (ca, 4, .inr (.inr (.inr (.inr (fun _ => none))))))]) [0, 1] rfl
    have hDc := hD.sub (ws' := [(h0, .inr (8, [.ref s1, .ref s2, .ref s3, .ref s4, .ref s5, .ref s6, .int 65535, .null, .null])), (s1, .inl (ca, 4, .inr (.inr (.inr (.inr (fun _ => none))))))]) [0, 1] (by decide) rfl
    have hKc := hK.sub (tys' := [(ca, .object "DotBench$Sheet")]) [0] rfl
    have hFc := va_free (wc := [(h0, .inr (8, [.ref s1, .ref s2, .ref s3, .ref s4, .ref s5, .ref s6, .int 65535, .null, .null])), (s1, .inl (ca, 4, .inr (.inr (.inr (.inr (fun _ => none))))))]) hD hS hA [0, 1] rfl
    refine va_calli (va_runV (As := [.int (xs 1), .int (xs 2), .int (xs 3), .int 0]) (rest := []) ⟨hx, hb, hml, hown, hts⟩ (k_X8_flood l D H.size h0 s1 s2 s3 s4 s5 s6 ca (xs 1) (xs 2) (xs 3) 0) (cwV 4 hts (gV bw_296 bw_297 bw_298 bw_1 bw_295) rfl rfl rfl (by decide +kernel) ⟨Nat.le_of_ble_eq_true rfl, Nat.le_of_ble_eq_true rfl⟩) ⟨cP_blind, va_recv hKc hPc (ci := 8) (q0 := 0) rfl rfl, cP_at hPc hKc hDc hN⟩ rfl rfl hl.1 rfl (lv_room (Nat.le_of_ble_eq_true rfl)) dL_law_651 ⟨Nat.le_of_ble_eq_true rfl, Nat.le_of_ble_eq_true rfl⟩) hS (fun q _ h => hFc q h) hFc (fun r_3 u9 t9 H1 locs ht hvm hr_3 hB hz1 hk1 hS => ?_)
    try dsimp only at hr_3
    have hP1 : va_P D vwCl [] H1 := vP_nil
    have hD1 : va_D (va_A [(h0, .inr (8, [.ref s1, .ref s2, .ref s3, .ref s4, .ref s5, .ref s6, .int 65535, .null, .null])), (s1, .inl (ca, 4, .inr (.inr (.inr (.inr (fun _ => none))))))] H.size) [] := vD_nil
    obtain ⟨hP, hD⟩ := va_join (wr := [(s2, .inr (1, [.ref bx, .int (-1), .int 3, .int 255])), (bx, .inr (0, [.int 0, .int 0, .int 63, .int 63])), (s4, .inr (3, [.ref p1, .ref p2, .ref p3, .ref p4, .int 0, .int 0, .int 0])), (p1, .inl (d1, 48, .inl (fun _ => 0))), (p2, .inl (d2, 48, .inl (fun _ => 0))), (p3, .inl (d3, 48, .inl (fun _ => 0))), (p4, .inl (d4, 48, .inl (fun _ => 0))), (s5, .inr (7, [.ref t1, .ref t2, .ref t3, .ref t4])), (t1, .inl (e1, 3, .inl (fun _ => 0))), (t2, .inl (e2, 3, .inl (fun _ => 0))), (t3, .inl (e3, 3, .inl (fun _ => 0))), (hm, .inr (9, [.ref m1, .ref m2, .ref m3, .int (-1), .int 3, .int 255, .int 0, .int 0, .int 0, .int 0, .int 0, .int 65535, .ref m4, .ref m5, .ref m6, .ref m7, .ref m8, .ref m9, .int 0, .ref m10, .ref m11, .ref m12, .ref m13])), (m1, .inl (c1, 4, .inl (fun _ => 0))), (m2, .inl (c2, 4, .inl (fun _ => 0))), (m3, .inl (c3, 16384, .inl (fun _ => 0))), (m7, .inl (c7, 48, .inl (fun _ => 0))), (m8, .inl (c8, 48, .inl (fun _ => 0))), (m9, .inl (c9, 48, .inl (fun _ => 0))), (m10, .inl (c10, 3, .inl (fun _ => 0))), (m11, .inl (c11, 3, .inl (fun _ => 0))), (m12, .inl (c12, 3, .inl (fun _ => 0)))]) (w1 := []) hP hD [0, 1] [2, 3, 4, 5, 6, 7, 8, 9, 10, 11, 12, 13, 14, 15, 16, 17, 18, 19, 20, 21, 22] rfl rfl (by decide) (by decide) hk1 hFc hP1 hD1
    clear hz1 hk1 hFc hKc hDc hPc
    generalize H1 = H at hP hS ⊢
    have hP : va_P D vwCl [(s2, .inr (1, [.ref bx, .int (-1), .int 3, .int 255])), (bx, .inr (0, [.int 0, .int 0, .int 63, .int 63])), (s4, .inr (3, [.ref p1, .ref p2, .ref p3, .ref p4, .int 0, .int 0, .int 0])), (p1, .inl (d1, 48, .inl (fun _ => 0))), (p2, .inl (d2, 48, .inl (fun _ => 0))), (p3, .inl (d3, 48, .inl (fun _ => 0))), (p4, .inl (d4, 48, .inl (fun _ => 0))), (s5, .inr (7, [.ref t1, .ref t2, .ref t3, .ref t4])), (t1, .inl (e1, 3, .inl (fun _ => 0))), (t2, .inl (e2, 3, .inl (fun _ => 0))), (t3, .inl (e3, 3, .inl (fun _ => 0))), (hm, .inr (9, [.ref m1, .ref m2, .ref m3, .int (-1), .int 3, .int 255, .int 0, .int 0, .int 0, .int 0, .int 0, .int 65535, .ref m4, .ref m5, .ref m6, .ref m7, .ref m8, .ref m9, .int 0, .ref m10, .ref m11, .ref m12, .ref m13])), (m1, .inl (c1, 4, .inl (fun _ => 0))), (m2, .inl (c2, 4, .inl (fun _ => 0))), (m3, .inl (c3, 16384, .inl (fun _ => 0))), (m7, .inl (c7, 48, .inl (fun _ => 0))), (m8, .inl (c8, 48, .inl (fun _ => 0))), (m9, .inl (c9, 48, .inl (fun _ => 0))), (m10, .inl (c10, 3, .inl (fun _ => 0))), (m11, .inl (c11, 3, .inl (fun _ => 0))), (m12, .inl (c12, 3, .inl (fun _ => 0)))] H := hP
    have hD : va_D (fun q : Nat => s.heap.size ≤ q) [(s2, .inr (1, [.ref bx, .int (-1), .int 3, .int 255])), (bx, .inr (0, [.int 0, .int 0, .int 63, .int 63])), (s4, .inr (3, [.ref p1, .ref p2, .ref p3, .ref p4, .int 0, .int 0, .int 0])), (p1, .inl (d1, 48, .inl (fun _ => 0))), (p2, .inl (d2, 48, .inl (fun _ => 0))), (p3, .inl (d3, 48, .inl (fun _ => 0))), (p4, .inl (d4, 48, .inl (fun _ => 0))), (s5, .inr (7, [.ref t1, .ref t2, .ref t3, .ref t4])), (t1, .inl (e1, 3, .inl (fun _ => 0))), (t2, .inl (e2, 3, .inl (fun _ => 0))), (t3, .inl (e3, 3, .inl (fun _ => 0))), (hm, .inr (9, [.ref m1, .ref m2, .ref m3, .int (-1), .int 3, .int 255, .int 0, .int 0, .int 0, .int 0, .int 0, .int 65535, .ref m4, .ref m5, .ref m6, .ref m7, .ref m8, .ref m9, .int 0, .ref m10, .ref m11, .ref m12, .ref m13])), (m1, .inl (c1, 4, .inl (fun _ => 0))), (m2, .inl (c2, 4, .inl (fun _ => 0))), (m3, .inl (c3, 16384, .inl (fun _ => 0))), (m7, .inl (c7, 48, .inl (fun _ => 0))), (m8, .inl (c8, 48, .inl (fun _ => 0))), (m9, .inl (c9, 48, .inl (fun _ => 0))), (m10, .inl (c10, 3, .inl (fun _ => 0))), (m11, .inl (c11, 3, .inl (fun _ => 0))), (m12, .inl (c12, 3, .inl (fun _ => 0)))] := hD
    subst hr_3
    refine lv_aload_n hx hb dL_law_654 rfl (lv_at hl 1 rfl) ?_
    refine lv_aload_n hx hb dL_law_655 rfl (lv_at hl 3 rfl) ?_
    refine lv_iload_n hx hb dL_law_656 rfl (lv_at hl 0 rfl) ?_
    refine lv_iconst (v := 1) hx hb dL_law_657 (by decide) ?_
    refine lv_iadd hx hb dL_law_658 ?_
    refine my_fold (v := 1) (by decide) ?_
    refine va_sld hx hb hX hbl hbA hS (i := 1) (my_in (by decide) (by decide)) dL_law_659 ?_
    refine my_topv (v := .int (xs 1)) rfl ?_
    refine lv_aload_n hx hb dL_law_660 rfl (lv_at hl 3 rfl) ?_
    refine lv_iload_n hx hb dL_law_661 rfl (lv_at hl 0 rfl) ?_
    refine lv_iconst (v := 2) hx hb dL_law_662 (by decide) ?_
    refine lv_iadd hx hb dL_law_663 ?_
    refine my_fold (v := 2) (by decide) ?_
    refine va_sld hx hb hX hbl hbA hS (i := 2) (my_in (by decide) (by decide)) dL_law_664 ?_
    refine my_topv (v := .int (xs 2)) rfl ?_
    refine lv_aload_n hx hb dL_law_665 rfl (lv_at hl 3 rfl) ?_
    refine lv_iload_n hx hb dL_law_666 rfl (lv_at hl 0 rfl) ?_
    refine lv_iconst (v := 3) hx hb dL_law_667 (by decide) ?_
    refine lv_iadd hx hb dL_law_668 ?_
    refine my_fold (v := 3) (by decide) ?_
    refine va_sld hx hb hX hbl hbA hS (i := 3) (my_in (by decide) (by decide)) dL_law_669 ?_
    refine my_topv (v := .int (xs 3)) rfl ?_
    refine lv_aload_n hx hb dL_law_670 rfl (lv_at hl 3 rfl) ?_
    refine lv_iload_n hx hb dL_law_671 rfl (lv_at hl 0 rfl) ?_
    refine lv_iconst (v := 4) hx hb dL_law_672 (by decide) ?_
    refine lv_iadd hx hb dL_law_673 ?_
    refine my_fold (v := 4) (by decide) ?_
    refine va_sld hx hb hX hbl hbA hS (i := 4) (my_in (by decide) (by decide)) dL_law_674 ?_
    refine my_topv (v := .int (xs 4)) rfl ?_
    refine lv_if_eq (tgt := 682) hx hb dL_law_675 (by decide) (fun c_4 => ?_) (fun c_4 => ?_)
    · skip
      have f_5 : (xs 4).toInt = 0 := f_eq rfl (by decide) c_4
      refine lv_iconst (v := 0) hx hb dL_law_682 (by decide) ?_
      have hPc := hP.sub (ws' := [(hm, .inr (9, [.ref m1, .ref m2, .ref m3, .int (-1), .int 3, .int 255, .int 0, .int 0, .int 0, .int 0, .int 0, .int 65535, .ref m4, .ref m5, .ref m6, .ref m7, .ref m8, .ref m9, .int 0, .ref m10, .ref m11, .ref m12, .ref m13])), (m1, .inl (c1, 4, .inl (fun _ => 0)))]) [11, 12] rfl
      have hDc := hD.sub (ws' := [(hm, .inr (9, [.ref m1, .ref m2, .ref m3, .int (-1), .int 3, .int 255, .int 0, .int 0, .int 0, .int 0, .int 0, .int 65535, .ref m4, .ref m5, .ref m6, .ref m7, .ref m8, .ref m9, .int 0, .ref m10, .ref m11, .ref m12, .ref m13])), (m1, .inl (c1, 4, .inl (fun _ => 0)))]) [11, 12] (by decide) rfl
      have hKc := hK.sub (tys' := [(c1, .int)]) [8] rfl
      have hFc := va_free (wc := [(hm, .inr (9, [.ref m1, .ref m2, .ref m3, .int (-1), .int 3, .int 255, .int 0, .int 0, .int 0, .int 0, .int 0, .int 65535, .ref m4, .ref m5, .ref m6, .ref m7, .ref m8, .ref m9, .int 0, .ref m10, .ref m11, .ref m12, .ref m13])), (m1, .inl (c1, 4, .inl (fun _ => 0)))]) hD hS hA [11, 12] rfl
      refine va_calli (va_runV (As := [.int (xs 1), .int (xs 2), .int (xs 3), .int 0]) (rest := [.int (-1)]) ⟨hx, hb, hml, hown, hts⟩ (k_X9_flood l D H.size hm m1 m2 m3 m4 m5 m6 m7 m8 m9 m10 m11 m12 m13 c1 (xs 1) (xs 2) (xs 3) 0) (cwV 4 hts (gV bw_300 bw_301 bw_302 bw_11 bw_299) rfl rfl rfl (by decide +kernel) ⟨Nat.le_of_ble_eq_true rfl, Nat.le_of_ble_eq_true rfl⟩) ⟨cP_blind, va_recv hKc hPc (ci := 9) (q0 := 0) rfl rfl, cP_at hPc hKc hDc hN⟩ rfl rfl hl.1 rfl (lv_room (Nat.le_of_ble_eq_true rfl)) dL_law_683 ⟨Nat.le_of_ble_eq_true rfl, Nat.le_of_ble_eq_true rfl⟩) hS (fun q _ h => hFc q h) hFc (fun r_6 u9 t9 H1 locs ht hvm hr_6 hB hz1 hk1 hS => ?_)
      try dsimp only at hr_6
      have hP1 : va_P D vwCl [] H1 := vP_nil
      have hD1 : va_D (va_A [(hm, .inr (9, [.ref m1, .ref m2, .ref m3, .int (-1), .int 3, .int 255, .int 0, .int 0, .int 0, .int 0, .int 0, .int 65535, .ref m4, .ref m5, .ref m6, .ref m7, .ref m8, .ref m9, .int 0, .ref m10, .ref m11, .ref m12, .ref m13])), (m1, .inl (c1, 4, .inl (fun _ => 0)))] H.size) [] := vD_nil
      obtain ⟨hP, hD⟩ := va_join (wr := [(s2, .inr (1, [.ref bx, .int (-1), .int 3, .int 255])), (bx, .inr (0, [.int 0, .int 0, .int 63, .int 63])), (s4, .inr (3, [.ref p1, .ref p2, .ref p3, .ref p4, .int 0, .int 0, .int 0])), (p1, .inl (d1, 48, .inl (fun _ => 0))), (p2, .inl (d2, 48, .inl (fun _ => 0))), (p3, .inl (d3, 48, .inl (fun _ => 0))), (p4, .inl (d4, 48, .inl (fun _ => 0))), (s5, .inr (7, [.ref t1, .ref t2, .ref t3, .ref t4])), (t1, .inl (e1, 3, .inl (fun _ => 0))), (t2, .inl (e2, 3, .inl (fun _ => 0))), (t3, .inl (e3, 3, .inl (fun _ => 0))), (m2, .inl (c2, 4, .inl (fun _ => 0))), (m3, .inl (c3, 16384, .inl (fun _ => 0))), (m7, .inl (c7, 48, .inl (fun _ => 0))), (m8, .inl (c8, 48, .inl (fun _ => 0))), (m9, .inl (c9, 48, .inl (fun _ => 0))), (m10, .inl (c10, 3, .inl (fun _ => 0))), (m11, .inl (c11, 3, .inl (fun _ => 0))), (m12, .inl (c12, 3, .inl (fun _ => 0)))]) (w1 := []) hP hD [11, 12] [0, 1, 2, 3, 4, 5, 6, 7, 8, 9, 10, 13, 14, 15, 16, 17, 18, 19, 20] rfl rfl (by decide) (by decide) hk1 hFc hP1 hD1
      clear hz1 hk1 hFc hKc hDc hPc
      generalize H1 = H at hP hS ⊢
      have hP : va_P D vwCl [(s2, .inr (1, [.ref bx, .int (-1), .int 3, .int 255])), (bx, .inr (0, [.int 0, .int 0, .int 63, .int 63])), (s4, .inr (3, [.ref p1, .ref p2, .ref p3, .ref p4, .int 0, .int 0, .int 0])), (p1, .inl (d1, 48, .inl (fun _ => 0))), (p2, .inl (d2, 48, .inl (fun _ => 0))), (p3, .inl (d3, 48, .inl (fun _ => 0))), (p4, .inl (d4, 48, .inl (fun _ => 0))), (s5, .inr (7, [.ref t1, .ref t2, .ref t3, .ref t4])), (t1, .inl (e1, 3, .inl (fun _ => 0))), (t2, .inl (e2, 3, .inl (fun _ => 0))), (t3, .inl (e3, 3, .inl (fun _ => 0))), (m2, .inl (c2, 4, .inl (fun _ => 0))), (m3, .inl (c3, 16384, .inl (fun _ => 0))), (m7, .inl (c7, 48, .inl (fun _ => 0))), (m8, .inl (c8, 48, .inl (fun _ => 0))), (m9, .inl (c9, 48, .inl (fun _ => 0))), (m10, .inl (c10, 3, .inl (fun _ => 0))), (m11, .inl (c11, 3, .inl (fun _ => 0))), (m12, .inl (c12, 3, .inl (fun _ => 0)))] H := hP
      have hD : va_D (fun q : Nat => s.heap.size ≤ q) [(s2, .inr (1, [.ref bx, .int (-1), .int 3, .int 255])), (bx, .inr (0, [.int 0, .int 0, .int 63, .int 63])), (s4, .inr (3, [.ref p1, .ref p2, .ref p3, .ref p4, .int 0, .int 0, .int 0])), (p1, .inl (d1, 48, .inl (fun _ => 0))), (p2, .inl (d2, 48, .inl (fun _ => 0))), (p3, .inl (d3, 48, .inl (fun _ => 0))), (p4, .inl (d4, 48, .inl (fun _ => 0))), (s5, .inr (7, [.ref t1, .ref t2, .ref t3, .ref t4])), (t1, .inl (e1, 3, .inl (fun _ => 0))), (t2, .inl (e2, 3, .inl (fun _ => 0))), (t3, .inl (e3, 3, .inl (fun _ => 0))), (m2, .inl (c2, 4, .inl (fun _ => 0))), (m3, .inl (c3, 16384, .inl (fun _ => 0))), (m7, .inl (c7, 48, .inl (fun _ => 0))), (m8, .inl (c8, 48, .inl (fun _ => 0))), (m9, .inl (c9, 48, .inl (fun _ => 0))), (m10, .inl (c10, 3, .inl (fun _ => 0))), (m11, .inl (c11, 3, .inl (fun _ => 0))), (m12, .inl (c12, 3, .inl (fun _ => 0)))] := hD
      subst hr_6
      refine lv_icmp_eq (tgt := 1167) hx hb dL_law_686 (by decide) (fun c_7 => ?_) (fun c_7 => ?_)
      · skip
        exact law_tail C0 (by omega) (by omega) hS (lv_sub hl [0, 3] rfl)
      · skip
        exact absurd c_7 (by decide)
    · skip
      exact absurd c_1 c_4
  · skip
    have f_2 : ¬ ((xs 4).toInt = 0) := fn_eq rfl (by decide) c_1
    refine lv_iconst (v := 1) hx hb dL_law_646 (by decide) ?_
    refine lv_goto (tgt := 651) hx hb dL_law_647 (by decide) ?_
    have hPc := hP.sub (ws' := [(h0, .inr (8, [.ref s1, .ref s2, .ref s3, .ref s4, .ref s5, .ref s6, .int 65535, .null, .null])), (s1, .inl (ca, 4, .inr (.inr (.inr (.inr (fun _ => none))))))]) [0, 1] rfl
    have hDc := hD.sub (ws' := [(h0, .inr (8, [.ref s1, .ref s2, .ref s3, .ref s4, .ref s5, .ref s6, .int 65535, .null, .null])), (s1, .inl (ca, 4, .inr (.inr (.inr (.inr (fun _ => none))))))]) [0, 1] (by decide) rfl
    have hKc := hK.sub (tys' := [(ca, .object "DotBench$Sheet")]) [0] rfl
    have hFc := va_free (wc := [(h0, .inr (8, [.ref s1, .ref s2, .ref s3, .ref s4, .ref s5, .ref s6, .int 65535, .null, .null])), (s1, .inl (ca, 4, .inr (.inr (.inr (.inr (fun _ => none))))))]) hD hS hA [0, 1] rfl
    refine va_calli (va_runV (As := [.int (xs 1), .int (xs 2), .int (xs 3), .int 1]) (rest := []) ⟨hx, hb, hml, hown, hts⟩ (k_X8_flood l D H.size h0 s1 s2 s3 s4 s5 s6 ca (xs 1) (xs 2) (xs 3) 1) (cwV 4 hts (gV bw_296 bw_297 bw_298 bw_1 bw_295) rfl rfl rfl (by decide +kernel) ⟨Nat.le_of_ble_eq_true rfl, Nat.le_of_ble_eq_true rfl⟩) ⟨cP_blind, va_recv hKc hPc (ci := 8) (q0 := 0) rfl rfl, cP_at hPc hKc hDc hN⟩ rfl rfl hl.1 rfl (lv_room (Nat.le_of_ble_eq_true rfl)) dL_law_651 ⟨Nat.le_of_ble_eq_true rfl, Nat.le_of_ble_eq_true rfl⟩) hS (fun q _ h => hFc q h) hFc (fun r_9 u9 t9 H1 locs ht hvm hr_9 hB hz1 hk1 hS => ?_)
    try dsimp only at hr_9
    have hP1 : va_P D vwCl [] H1 := vP_nil
    have hD1 : va_D (va_A [(h0, .inr (8, [.ref s1, .ref s2, .ref s3, .ref s4, .ref s5, .ref s6, .int 65535, .null, .null])), (s1, .inl (ca, 4, .inr (.inr (.inr (.inr (fun _ => none))))))] H.size) [] := vD_nil
    obtain ⟨hP, hD⟩ := va_join (wr := [(s2, .inr (1, [.ref bx, .int (-1), .int 3, .int 255])), (bx, .inr (0, [.int 0, .int 0, .int 63, .int 63])), (s4, .inr (3, [.ref p1, .ref p2, .ref p3, .ref p4, .int 0, .int 0, .int 0])), (p1, .inl (d1, 48, .inl (fun _ => 0))), (p2, .inl (d2, 48, .inl (fun _ => 0))), (p3, .inl (d3, 48, .inl (fun _ => 0))), (p4, .inl (d4, 48, .inl (fun _ => 0))), (s5, .inr (7, [.ref t1, .ref t2, .ref t3, .ref t4])), (t1, .inl (e1, 3, .inl (fun _ => 0))), (t2, .inl (e2, 3, .inl (fun _ => 0))), (t3, .inl (e3, 3, .inl (fun _ => 0))), (hm, .inr (9, [.ref m1, .ref m2, .ref m3, .int (-1), .int 3, .int 255, .int 0, .int 0, .int 0, .int 0, .int 0, .int 65535, .ref m4, .ref m5, .ref m6, .ref m7, .ref m8, .ref m9, .int 0, .ref m10, .ref m11, .ref m12, .ref m13])), (m1, .inl (c1, 4, .inl (fun _ => 0))), (m2, .inl (c2, 4, .inl (fun _ => 0))), (m3, .inl (c3, 16384, .inl (fun _ => 0))), (m7, .inl (c7, 48, .inl (fun _ => 0))), (m8, .inl (c8, 48, .inl (fun _ => 0))), (m9, .inl (c9, 48, .inl (fun _ => 0))), (m10, .inl (c10, 3, .inl (fun _ => 0))), (m11, .inl (c11, 3, .inl (fun _ => 0))), (m12, .inl (c12, 3, .inl (fun _ => 0)))]) (w1 := []) hP hD [0, 1] [2, 3, 4, 5, 6, 7, 8, 9, 10, 11, 12, 13, 14, 15, 16, 17, 18, 19, 20, 21, 22] rfl rfl (by decide) (by decide) hk1 hFc hP1 hD1
    clear hz1 hk1 hFc hKc hDc hPc
    generalize H1 = H at hP hS ⊢
    have hP : va_P D vwCl [(s2, .inr (1, [.ref bx, .int (-1), .int 3, .int 255])), (bx, .inr (0, [.int 0, .int 0, .int 63, .int 63])), (s4, .inr (3, [.ref p1, .ref p2, .ref p3, .ref p4, .int 0, .int 0, .int 0])), (p1, .inl (d1, 48, .inl (fun _ => 0))), (p2, .inl (d2, 48, .inl (fun _ => 0))), (p3, .inl (d3, 48, .inl (fun _ => 0))), (p4, .inl (d4, 48, .inl (fun _ => 0))), (s5, .inr (7, [.ref t1, .ref t2, .ref t3, .ref t4])), (t1, .inl (e1, 3, .inl (fun _ => 0))), (t2, .inl (e2, 3, .inl (fun _ => 0))), (t3, .inl (e3, 3, .inl (fun _ => 0))), (hm, .inr (9, [.ref m1, .ref m2, .ref m3, .int (-1), .int 3, .int 255, .int 0, .int 0, .int 0, .int 0, .int 0, .int 65535, .ref m4, .ref m5, .ref m6, .ref m7, .ref m8, .ref m9, .int 0, .ref m10, .ref m11, .ref m12, .ref m13])), (m1, .inl (c1, 4, .inl (fun _ => 0))), (m2, .inl (c2, 4, .inl (fun _ => 0))), (m3, .inl (c3, 16384, .inl (fun _ => 0))), (m7, .inl (c7, 48, .inl (fun _ => 0))), (m8, .inl (c8, 48, .inl (fun _ => 0))), (m9, .inl (c9, 48, .inl (fun _ => 0))), (m10, .inl (c10, 3, .inl (fun _ => 0))), (m11, .inl (c11, 3, .inl (fun _ => 0))), (m12, .inl (c12, 3, .inl (fun _ => 0)))] H := hP
    have hD : va_D (fun q : Nat => s.heap.size ≤ q) [(s2, .inr (1, [.ref bx, .int (-1), .int 3, .int 255])), (bx, .inr (0, [.int 0, .int 0, .int 63, .int 63])), (s4, .inr (3, [.ref p1, .ref p2, .ref p3, .ref p4, .int 0, .int 0, .int 0])), (p1, .inl (d1, 48, .inl (fun _ => 0))), (p2, .inl (d2, 48, .inl (fun _ => 0))), (p3, .inl (d3, 48, .inl (fun _ => 0))), (p4, .inl (d4, 48, .inl (fun _ => 0))), (s5, .inr (7, [.ref t1, .ref t2, .ref t3, .ref t4])), (t1, .inl (e1, 3, .inl (fun _ => 0))), (t2, .inl (e2, 3, .inl (fun _ => 0))), (t3, .inl (e3, 3, .inl (fun _ => 0))), (hm, .inr (9, [.ref m1, .ref m2, .ref m3, .int (-1), .int 3, .int 255, .int 0, .int 0, .int 0, .int 0, .int 0, .int 65535, .ref m4, .ref m5, .ref m6, .ref m7, .ref m8, .ref m9, .int 0, .ref m10, .ref m11, .ref m12, .ref m13])), (m1, .inl (c1, 4, .inl (fun _ => 0))), (m2, .inl (c2, 4, .inl (fun _ => 0))), (m3, .inl (c3, 16384, .inl (fun _ => 0))), (m7, .inl (c7, 48, .inl (fun _ => 0))), (m8, .inl (c8, 48, .inl (fun _ => 0))), (m9, .inl (c9, 48, .inl (fun _ => 0))), (m10, .inl (c10, 3, .inl (fun _ => 0))), (m11, .inl (c11, 3, .inl (fun _ => 0))), (m12, .inl (c12, 3, .inl (fun _ => 0)))] := hD
    subst hr_9
    refine lv_aload_n hx hb dL_law_654 rfl (lv_at hl 1 rfl) ?_
    refine lv_aload_n hx hb dL_law_655 rfl (lv_at hl 3 rfl) ?_
    refine lv_iload_n hx hb dL_law_656 rfl (lv_at hl 0 rfl) ?_
    refine lv_iconst (v := 1) hx hb dL_law_657 (by decide) ?_
    refine lv_iadd hx hb dL_law_658 ?_
    refine my_fold (v := 1) (by decide) ?_
    refine va_sld hx hb hX hbl hbA hS (i := 1) (my_in (by decide) (by decide)) dL_law_659 ?_
    refine my_topv (v := .int (xs 1)) rfl ?_
    refine lv_aload_n hx hb dL_law_660 rfl (lv_at hl 3 rfl) ?_
    refine lv_iload_n hx hb dL_law_661 rfl (lv_at hl 0 rfl) ?_
    refine lv_iconst (v := 2) hx hb dL_law_662 (by decide) ?_
    refine lv_iadd hx hb dL_law_663 ?_
    refine my_fold (v := 2) (by decide) ?_
    refine va_sld hx hb hX hbl hbA hS (i := 2) (my_in (by decide) (by decide)) dL_law_664 ?_
    refine my_topv (v := .int (xs 2)) rfl ?_
    refine lv_aload_n hx hb dL_law_665 rfl (lv_at hl 3 rfl) ?_
    refine lv_iload_n hx hb dL_law_666 rfl (lv_at hl 0 rfl) ?_
    refine lv_iconst (v := 3) hx hb dL_law_667 (by decide) ?_
    refine lv_iadd hx hb dL_law_668 ?_
    refine my_fold (v := 3) (by decide) ?_
    refine va_sld hx hb hX hbl hbA hS (i := 3) (my_in (by decide) (by decide)) dL_law_669 ?_
    refine my_topv (v := .int (xs 3)) rfl ?_
    refine lv_aload_n hx hb dL_law_670 rfl (lv_at hl 3 rfl) ?_
    refine lv_iload_n hx hb dL_law_671 rfl (lv_at hl 0 rfl) ?_
    refine lv_iconst (v := 4) hx hb dL_law_672 (by decide) ?_
    refine lv_iadd hx hb dL_law_673 ?_
    refine my_fold (v := 4) (by decide) ?_
    refine va_sld hx hb hX hbl hbA hS (i := 4) (my_in (by decide) (by decide)) dL_law_674 ?_
    refine my_topv (v := .int (xs 4)) rfl ?_
    refine lv_if_eq (tgt := 682) hx hb dL_law_675 (by decide) (fun c_10 => ?_) (fun c_10 => ?_)
    · skip
      exact absurd c_10 c_1
    · skip
      have f_11 : ¬ ((xs 4).toInt = 0) := fn_eq rfl (by decide) c_10
      refine lv_iconst (v := 1) hx hb dL_law_678 (by decide) ?_
      refine lv_goto (tgt := 683) hx hb dL_law_679 (by decide) ?_
      have hPc := hP.sub (ws' := [(hm, .inr (9, [.ref m1, .ref m2, .ref m3, .int (-1), .int 3, .int 255, .int 0, .int 0, .int 0, .int 0, .int 0, .int 65535, .ref m4, .ref m5, .ref m6, .ref m7, .ref m8, .ref m9, .int 0, .ref m10, .ref m11, .ref m12, .ref m13])), (m1, .inl (c1, 4, .inl (fun _ => 0)))]) [11, 12] rfl
      have hDc := hD.sub (ws' := [(hm, .inr (9, [.ref m1, .ref m2, .ref m3, .int (-1), .int 3, .int 255, .int 0, .int 0, .int 0, .int 0, .int 0, .int 65535, .ref m4, .ref m5, .ref m6, .ref m7, .ref m8, .ref m9, .int 0, .ref m10, .ref m11, .ref m12, .ref m13])), (m1, .inl (c1, 4, .inl (fun _ => 0)))]) [11, 12] (by decide) rfl
      have hKc := hK.sub (tys' := [(c1, .int)]) [8] rfl
      have hFc := va_free (wc := [(hm, .inr (9, [.ref m1, .ref m2, .ref m3, .int (-1), .int 3, .int 255, .int 0, .int 0, .int 0, .int 0, .int 0, .int 65535, .ref m4, .ref m5, .ref m6, .ref m7, .ref m8, .ref m9, .int 0, .ref m10, .ref m11, .ref m12, .ref m13])), (m1, .inl (c1, 4, .inl (fun _ => 0)))]) hD hS hA [11, 12] rfl
      refine va_calli (va_runV (As := [.int (xs 1), .int (xs 2), .int (xs 3), .int 1]) (rest := [.int (-1)]) ⟨hx, hb, hml, hown, hts⟩ (k_X9_flood l D H.size hm m1 m2 m3 m4 m5 m6 m7 m8 m9 m10 m11 m12 m13 c1 (xs 1) (xs 2) (xs 3) 1) (cwV 4 hts (gV bw_300 bw_301 bw_302 bw_11 bw_299) rfl rfl rfl (by decide +kernel) ⟨Nat.le_of_ble_eq_true rfl, Nat.le_of_ble_eq_true rfl⟩) ⟨cP_blind, va_recv hKc hPc (ci := 9) (q0 := 0) rfl rfl, cP_at hPc hKc hDc hN⟩ rfl rfl hl.1 rfl (lv_room (Nat.le_of_ble_eq_true rfl)) dL_law_683 ⟨Nat.le_of_ble_eq_true rfl, Nat.le_of_ble_eq_true rfl⟩) hS (fun q _ h => hFc q h) hFc (fun r_12 u9 t9 H1 locs ht hvm hr_12 hB hz1 hk1 hS => ?_)
      try dsimp only at hr_12
      have hP1 : va_P D vwCl [] H1 := vP_nil
      have hD1 : va_D (va_A [(hm, .inr (9, [.ref m1, .ref m2, .ref m3, .int (-1), .int 3, .int 255, .int 0, .int 0, .int 0, .int 0, .int 0, .int 65535, .ref m4, .ref m5, .ref m6, .ref m7, .ref m8, .ref m9, .int 0, .ref m10, .ref m11, .ref m12, .ref m13])), (m1, .inl (c1, 4, .inl (fun _ => 0)))] H.size) [] := vD_nil
      obtain ⟨hP, hD⟩ := va_join (wr := [(s2, .inr (1, [.ref bx, .int (-1), .int 3, .int 255])), (bx, .inr (0, [.int 0, .int 0, .int 63, .int 63])), (s4, .inr (3, [.ref p1, .ref p2, .ref p3, .ref p4, .int 0, .int 0, .int 0])), (p1, .inl (d1, 48, .inl (fun _ => 0))), (p2, .inl (d2, 48, .inl (fun _ => 0))), (p3, .inl (d3, 48, .inl (fun _ => 0))), (p4, .inl (d4, 48, .inl (fun _ => 0))), (s5, .inr (7, [.ref t1, .ref t2, .ref t3, .ref t4])), (t1, .inl (e1, 3, .inl (fun _ => 0))), (t2, .inl (e2, 3, .inl (fun _ => 0))), (t3, .inl (e3, 3, .inl (fun _ => 0))), (m2, .inl (c2, 4, .inl (fun _ => 0))), (m3, .inl (c3, 16384, .inl (fun _ => 0))), (m7, .inl (c7, 48, .inl (fun _ => 0))), (m8, .inl (c8, 48, .inl (fun _ => 0))), (m9, .inl (c9, 48, .inl (fun _ => 0))), (m10, .inl (c10, 3, .inl (fun _ => 0))), (m11, .inl (c11, 3, .inl (fun _ => 0))), (m12, .inl (c12, 3, .inl (fun _ => 0)))]) (w1 := []) hP hD [11, 12] [0, 1, 2, 3, 4, 5, 6, 7, 8, 9, 10, 13, 14, 15, 16, 17, 18, 19, 20] rfl rfl (by decide) (by decide) hk1 hFc hP1 hD1
      clear hz1 hk1 hFc hKc hDc hPc
      generalize H1 = H at hP hS ⊢
      have hP : va_P D vwCl [(s2, .inr (1, [.ref bx, .int (-1), .int 3, .int 255])), (bx, .inr (0, [.int 0, .int 0, .int 63, .int 63])), (s4, .inr (3, [.ref p1, .ref p2, .ref p3, .ref p4, .int 0, .int 0, .int 0])), (p1, .inl (d1, 48, .inl (fun _ => 0))), (p2, .inl (d2, 48, .inl (fun _ => 0))), (p3, .inl (d3, 48, .inl (fun _ => 0))), (p4, .inl (d4, 48, .inl (fun _ => 0))), (s5, .inr (7, [.ref t1, .ref t2, .ref t3, .ref t4])), (t1, .inl (e1, 3, .inl (fun _ => 0))), (t2, .inl (e2, 3, .inl (fun _ => 0))), (t3, .inl (e3, 3, .inl (fun _ => 0))), (m2, .inl (c2, 4, .inl (fun _ => 0))), (m3, .inl (c3, 16384, .inl (fun _ => 0))), (m7, .inl (c7, 48, .inl (fun _ => 0))), (m8, .inl (c8, 48, .inl (fun _ => 0))), (m9, .inl (c9, 48, .inl (fun _ => 0))), (m10, .inl (c10, 3, .inl (fun _ => 0))), (m11, .inl (c11, 3, .inl (fun _ => 0))), (m12, .inl (c12, 3, .inl (fun _ => 0)))] H := hP
      have hD : va_D (fun q : Nat => s.heap.size ≤ q) [(s2, .inr (1, [.ref bx, .int (-1), .int 3, .int 255])), (bx, .inr (0, [.int 0, .int 0, .int 63, .int 63])), (s4, .inr (3, [.ref p1, .ref p2, .ref p3, .ref p4, .int 0, .int 0, .int 0])), (p1, .inl (d1, 48, .inl (fun _ => 0))), (p2, .inl (d2, 48, .inl (fun _ => 0))), (p3, .inl (d3, 48, .inl (fun _ => 0))), (p4, .inl (d4, 48, .inl (fun _ => 0))), (s5, .inr (7, [.ref t1, .ref t2, .ref t3, .ref t4])), (t1, .inl (e1, 3, .inl (fun _ => 0))), (t2, .inl (e2, 3, .inl (fun _ => 0))), (t3, .inl (e3, 3, .inl (fun _ => 0))), (m2, .inl (c2, 4, .inl (fun _ => 0))), (m3, .inl (c3, 16384, .inl (fun _ => 0))), (m7, .inl (c7, 48, .inl (fun _ => 0))), (m8, .inl (c8, 48, .inl (fun _ => 0))), (m9, .inl (c9, 48, .inl (fun _ => 0))), (m10, .inl (c10, 3, .inl (fun _ => 0))), (m11, .inl (c11, 3, .inl (fun _ => 0))), (m12, .inl (c12, 3, .inl (fun _ => 0)))] := hD
      subst hr_12
      refine lv_icmp_eq (tgt := 1167) hx hb dL_law_686 (by decide) (fun c_13 => ?_) (fun c_13 => ?_)
      · skip
        exact law_tail C0 (by omega) (by omega) hS (lv_sub hl [0, 3] rfl)
      · skip
        exact absurd c_13 (by decide)

set_option maxHeartbeats 4000000 in
set_option maxRecDepth 100000 in
theorem law_c13 {p : Program} {l : Launch} {e : Env} {s : State} {m : MethodId} {below : List Frame} {meth : Method} {c : Code} {b : Nat} {xs : Nat → Int32} (C0 : lw_At p s m meth c b 11 xs) (hN : nW s) {D : va_G} {h0 s1 s2 s3 s4 s5 s6 bx p1 p2 p3 p4 t1 t2 t3 t4 hm m1 m2 m3 m4 m5 m6 m7 m8 m9 m10 m11 m12 m13 : Nat} {ca d1 d2 d3 d4 e1 e2 e3 c1 c2 c3 c7 c8 c9 c10 c11 c12 : ClassId} {H : Heap} {locs : List Loc} (hK : va_K D vwCl [(ca, .object "DotBench$Sheet"), (d1, .int), (d2, .int), (d3, .int), (d4, .int), (e1, .int), (e2, .int), (e3, .int), (c1, .int), (c2, .int), (c3, .int), (c7, .int), (c8, .int), (c9, .boolean), (c10, .int), (c11, .int), (c12, .int)] s) (hP : va_P D vwCl [(h0, .inr (8, [.ref s1, .ref s2, .ref s3, .ref s4, .ref s5, .ref s6, .int 65535, .null, .null])), (s1, .inl (ca, 4, .inr (.inr (.inr (.inr (fun _ => none)))))), (s2, .inr (1, [.ref bx, .int (-1), .int 3, .int 255])), (bx, .inr (0, [.int 0, .int 0, .int 63, .int 63])), (s4, .inr (3, [.ref p1, .ref p2, .ref p3, .ref p4, .int 0, .int 0, .int 0])), (p1, .inl (d1, 48, .inl (fun _ => 0))), (p2, .inl (d2, 48, .inl (fun _ => 0))), (p3, .inl (d3, 48, .inl (fun _ => 0))), (p4, .inl (d4, 48, .inl (fun _ => 0))), (s5, .inr (7, [.ref t1, .ref t2, .ref t3, .ref t4])), (t1, .inl (e1, 3, .inl (fun _ => 0))), (t2, .inl (e2, 3, .inl (fun _ => 0))), (t3, .inl (e3, 3, .inl (fun _ => 0))), (hm, .inr (9, [.ref m1, .ref m2, .ref m3, .int (-1), .int 3, .int 255, .int 0, .int 0, .int 0, .int 0, .int 0, .int 65535, .ref m4, .ref m5, .ref m6, .ref m7, .ref m8, .ref m9, .int 0, .ref m10, .ref m11, .ref m12, .ref m13])), (m1, .inl (c1, 4, .inl (fun _ => 0))), (m2, .inl (c2, 4, .inl (fun _ => 0))), (m3, .inl (c3, 16384, .inl (fun _ => 0))), (m7, .inl (c7, 48, .inl (fun _ => 0))), (m8, .inl (c8, 48, .inl (fun _ => 0))), (m9, .inl (c9, 48, .inl (fun _ => 0))), (m10, .inl (c10, 3, .inl (fun _ => 0))), (m11, .inl (c11, 3, .inl (fun _ => 0))), (m12, .inl (c12, 3, .inl (fun _ => 0)))] H) (hD : va_D (fun q : Nat => s.heap.size ≤ q) [(h0, .inr (8, [.ref s1, .ref s2, .ref s3, .ref s4, .ref s5, .ref s6, .int 65535, .null, .null])), (s1, .inl (ca, 4, .inr (.inr (.inr (.inr (fun _ => none)))))), (s2, .inr (1, [.ref bx, .int (-1), .int 3, .int 255])), (bx, .inr (0, [.int 0, .int 0, .int 63, .int 63])), (s4, .inr (3, [.ref p1, .ref p2, .ref p3, .ref p4, .int 0, .int 0, .int 0])), (p1, .inl (d1, 48, .inl (fun _ => 0))), (p2, .inl (d2, 48, .inl (fun _ => 0))), (p3, .inl (d3, 48, .inl (fun _ => 0))), (p4, .inl (d4, 48, .inl (fun _ => 0))), (s5, .inr (7, [.ref t1, .ref t2, .ref t3, .ref t4])), (t1, .inl (e1, 3, .inl (fun _ => 0))), (t2, .inl (e2, 3, .inl (fun _ => 0))), (t3, .inl (e3, 3, .inl (fun _ => 0))), (hm, .inr (9, [.ref m1, .ref m2, .ref m3, .int (-1), .int 3, .int 255, .int 0, .int 0, .int 0, .int 0, .int 0, .int 65535, .ref m4, .ref m5, .ref m6, .ref m7, .ref m8, .ref m9, .int 0, .ref m10, .ref m11, .ref m12, .ref m13])), (m1, .inl (c1, 4, .inl (fun _ => 0))), (m2, .inl (c2, 4, .inl (fun _ => 0))), (m3, .inl (c3, 16384, .inl (fun _ => 0))), (m7, .inl (c7, 48, .inl (fun _ => 0))), (m8, .inl (c8, 48, .inl (fun _ => 0))), (m9, .inl (c9, 48, .inl (fun _ => 0))), (m10, .inl (c10, 3, .inl (fun _ => 0))), (m11, .inl (c11, 3, .inl (fun _ => 0))), (m12, .inl (c12, 3, .inl (fun _ => 0)))]) (hS : va_S (fun q : Nat => s.heap.size ≤ q) s.heap H locs) {ls : Array Slot} (hl : lv_has ls 4 [(3, .int 0), (2, .ref hm), (1, .ref h0), (0, .ref b)]) : W p l e room_1 s m #[Value.ref b] below meth c H locs 36 33710 (lw_Z below #[Value.ref b] s) (F0 m 691 ls []) := by
  obtain ⟨hx, hb, hr, hml, hown, hts0, hX, hbl, hlocks, hgv⟩ := id C0
  have hts : ∀ w ∈ bigW, w.before #[Value.ref b] s = true := fun w h => hts0 w (bigW_in w h).1
  have hown : s.vm.findClass RL = some m.cls := hown
  have hA : ∀ q : Nat, s.heap.size ≤ q → (fun q : Nat => s.heap.size ≤ q) q := fun _ h => h
  have hbA : ¬ (fun q : Nat => s.heap.size ≤ q) b := Nat.not_le.mpr hbl
  refine lv_aload_n hx hb dL_law_691 rfl (lv_at hl 2 rfl) ?_
  refine lv_aload_n hx hb dL_law_692 rfl (lv_at hl 3 rfl) ?_
  refine lv_iload_n hx hb dL_law_693 rfl (lv_at hl 0 rfl) ?_
  refine lv_iconst (v := 1) hx hb dL_law_694 (by decide) ?_
  refine lv_iadd hx hb dL_law_695 ?_
  refine my_fold (v := 1) (by decide) ?_
  refine va_sld hx hb hX hbl hbA hS (i := 1) (my_in (by decide) (by decide)) dL_law_696 ?_
  refine my_topv (v := .int (xs 1)) rfl ?_
  refine lv_aload_n hx hb dL_law_697 rfl (lv_at hl 3 rfl) ?_
  refine lv_iload_n hx hb dL_law_698 rfl (lv_at hl 0 rfl) ?_
  refine lv_iconst (v := 2) hx hb dL_law_699 (by decide) ?_
  refine lv_iadd hx hb dL_law_700 ?_
  refine my_fold (v := 2) (by decide) ?_
  refine va_sld hx hb hX hbl hbA hS (i := 2) (my_in (by decide) (by decide)) dL_law_701 ?_
  refine my_topv (v := .int (xs 2)) rfl ?_
  refine lv_aload_n hx hb dL_law_702 rfl (lv_at hl 3 rfl) ?_
  refine lv_iload_n hx hb dL_law_703 rfl (lv_at hl 0 rfl) ?_
  refine lv_iconst (v := 3) hx hb dL_law_704 (by decide) ?_
  refine lv_iadd hx hb dL_law_705 ?_
  refine my_fold (v := 3) (by decide) ?_
  refine va_sld hx hb hX hbl hbA hS (i := 3) (my_in (by decide) (by decide)) dL_law_706 ?_
  refine my_topv (v := .int (xs 3)) rfl ?_
  refine lv_aload_n hx hb dL_law_707 rfl (lv_at hl 3 rfl) ?_
  refine lv_iload_n hx hb dL_law_708 rfl (lv_at hl 0 rfl) ?_
  refine lv_iconst (v := 4) hx hb dL_law_709 (by decide) ?_
  refine lv_iadd hx hb dL_law_710 ?_
  refine my_fold (v := 4) (by decide) ?_
  refine va_sld hx hb hX hbl hbA hS (i := 4) (my_in (by decide) (by decide)) dL_law_711 ?_
  refine my_topv (v := .int (xs 4)) rfl ?_
  refine lv_aload_n hx hb dL_law_712 rfl (lv_at hl 3 rfl) ?_
  refine lv_iload_n hx hb dL_law_713 rfl (lv_at hl 0 rfl) ?_
  refine lv_iconst (v := 5) hx hb dL_law_714 (by decide) ?_
  refine lv_iadd hx hb dL_law_715 ?_
  refine my_fold (v := 5) (by decide) ?_
  refine va_sld hx hb hX hbl hbA hS (i := 5) (my_in (by decide) (by decide)) dL_law_716 ?_
  refine my_topv (v := .int (xs 5)) rfl ?_
  refine lv_aload_n hx hb dL_law_717 rfl (lv_at hl 3 rfl) ?_
  refine lv_iload_n hx hb dL_law_718 rfl (lv_at hl 0 rfl) ?_
  refine lv_bipush (v := 6) hx hb dL_law_719 (by decide) ?_
  refine lv_iadd hx hb dL_law_721 ?_
  refine my_fold (v := 6) (by decide) ?_
  refine va_sld hx hb hX hbl hbA hS (i := 6) (my_in (by decide) (by decide)) dL_law_722 ?_
  refine my_topv (v := .int (xs 6)) rfl ?_
  refine lv_aload_n hx hb dL_law_723 rfl (lv_at hl 3 rfl) ?_
  refine lv_iload_n hx hb dL_law_724 rfl (lv_at hl 0 rfl) ?_
  refine lv_bipush (v := 7) hx hb dL_law_725 (by decide) ?_
  refine lv_iadd hx hb dL_law_727 ?_
  refine my_fold (v := 7) (by decide) ?_
  refine va_sld hx hb hX hbl hbA hS (i := 7) (my_in (by decide) (by decide)) dL_law_728 ?_
  refine my_topv (v := .int (xs 7)) rfl ?_
  refine lv_aload_n hx hb dL_law_729 rfl (lv_at hl 3 rfl) ?_
  refine lv_iload_n hx hb dL_law_730 rfl (lv_at hl 0 rfl) ?_
  refine lv_bipush (v := 8) hx hb dL_law_731 (by decide) ?_
  refine lv_iadd hx hb dL_law_733 ?_
  refine my_fold (v := 8) (by decide) ?_
  refine va_sld hx hb hX hbl hbA hS (i := 8) (my_in (by decide) (by decide)) dL_law_734 ?_
  refine my_topv (v := .int (xs 8)) rfl ?_
  have hPc := hP.sub (ws' := [(h0, .inr (8, [.ref s1, .ref s2, .ref s3, .ref s4, .ref s5, .ref s6, .int 65535, .null, .null])), (s1, .inl (ca, 4, .inr (.inr (.inr (.inr (fun _ => none))))))]) [0, 1] rfl
  have hDc := hD.sub (ws' := [(h0, .inr (8, [.ref s1, .ref s2, .ref s3, .ref s4, .ref s5, .ref s6, .int 65535, .null, .null])), (s1, .inl (ca, 4, .inr (.inr (.inr (.inr (fun _ => none))))))]) [0, 1] (by decide) rfl
  have hKc := hK.sub (tys' := [(ca, .object "DotBench$Sheet")]) [0] rfl
  have hFc := va_free (wc := [(h0, .inr (8, [.ref s1, .ref s2, .ref s3, .ref s4, .ref s5, .ref s6, .int 65535, .null, .null])), (s1, .inl (ca, 4, .inr (.inr (.inr (.inr (fun _ => none))))))]) hD hS hA [0, 1] rfl
  refine va_calli (va_runV (As := [.int (xs 1), .int (xs 2), .int (xs 3), .int (xs 4), .int (xs 5), .int (xs 6), .int (xs 7), .int (xs 8)]) (rest := []) ⟨hx, hb, hml, hown, hts⟩ (k_X8_copy l D H.size h0 s1 s2 s3 s4 s5 s6 ca (xs 1) (xs 2) (xs 3) (xs 4) (xs 5) (xs 6) (xs 7) (xs 8)) (cwV 8 hts (gV bw_304 bw_305 bw_306 bw_1 bw_303) rfl rfl rfl (by decide +kernel) ⟨Nat.le_of_ble_eq_true rfl, Nat.le_of_ble_eq_true rfl⟩) ⟨cP_blind, va_recv hKc hPc (ci := 8) (q0 := 0) rfl rfl, cP_at hPc hKc hDc hN⟩ rfl rfl hl.1 rfl (lv_room (Nat.le_of_ble_eq_true rfl)) dL_law_735 ⟨Nat.le_of_ble_eq_true rfl, Nat.le_of_ble_eq_true rfl⟩) hS (fun q _ h => hFc q h) hFc (fun r_1 u9 t9 H1 locs ht hvm hr_1 hB hz1 hk1 hS => ?_)
  try dsimp only at hr_1
  have hP1 : va_P D vwCl [] H1 := vP_nil
  have hD1 : va_D (va_A [(h0, .inr (8, [.ref s1, .ref s2, .ref s3, .ref s4, .ref s5, .ref s6, .int 65535, .null, .null])), (s1, .inl (ca, 4, .inr (.inr (.inr (.inr (fun _ => none))))))] H.size) [] := vD_nil
  obtain ⟨hP, hD⟩ := va_join (wr := [(s2, .inr (1, [.ref bx, .int (-1), .int 3, .int 255])), (bx, .inr (0, [.int 0, .int 0, .int 63, .int 63])), (s4, .inr (3, [.ref p1, .ref p2, .ref p3, .ref p4, .int 0, .int 0, .int 0])), (p1, .inl (d1, 48, .inl (fun _ => 0))), (p2, .inl (d2, 48, .inl (fun _ => 0))), (p3, .inl (d3, 48, .inl (fun _ => 0))), (p4, .inl (d4, 48, .inl (fun _ => 0))), (s5, .inr (7, [.ref t1, .ref t2, .ref t3, .ref t4])), (t1, .inl (e1, 3, .inl (fun _ => 0))), (t2, .inl (e2, 3, .inl (fun _ => 0))), (t3, .inl (e3, 3, .inl (fun _ => 0))), (hm, .inr (9, [.ref m1, .ref m2, .ref m3, .int (-1), .int 3, .int 255, .int 0, .int 0, .int 0, .int 0, .int 0, .int 65535, .ref m4, .ref m5, .ref m6, .ref m7, .ref m8, .ref m9, .int 0, .ref m10, .ref m11, .ref m12, .ref m13])), (m1, .inl (c1, 4, .inl (fun _ => 0))), (m2, .inl (c2, 4, .inl (fun _ => 0))), (m3, .inl (c3, 16384, .inl (fun _ => 0))), (m7, .inl (c7, 48, .inl (fun _ => 0))), (m8, .inl (c8, 48, .inl (fun _ => 0))), (m9, .inl (c9, 48, .inl (fun _ => 0))), (m10, .inl (c10, 3, .inl (fun _ => 0))), (m11, .inl (c11, 3, .inl (fun _ => 0))), (m12, .inl (c12, 3, .inl (fun _ => 0)))]) (w1 := []) hP hD [0, 1] [2, 3, 4, 5, 6, 7, 8, 9, 10, 11, 12, 13, 14, 15, 16, 17, 18, 19, 20, 21, 22] rfl rfl (by decide) (by decide) hk1 hFc hP1 hD1
  clear hz1 hk1 hFc hKc hDc hPc
  generalize H1 = H at hP hS ⊢
  have hP : va_P D vwCl [(s2, .inr (1, [.ref bx, .int (-1), .int 3, .int 255])), (bx, .inr (0, [.int 0, .int 0, .int 63, .int 63])), (s4, .inr (3, [.ref p1, .ref p2, .ref p3, .ref p4, .int 0, .int 0, .int 0])), (p1, .inl (d1, 48, .inl (fun _ => 0))), (p2, .inl (d2, 48, .inl (fun _ => 0))), (p3, .inl (d3, 48, .inl (fun _ => 0))), (p4, .inl (d4, 48, .inl (fun _ => 0))), (s5, .inr (7, [.ref t1, .ref t2, .ref t3, .ref t4])), (t1, .inl (e1, 3, .inl (fun _ => 0))), (t2, .inl (e2, 3, .inl (fun _ => 0))), (t3, .inl (e3, 3, .inl (fun _ => 0))), (hm, .inr (9, [.ref m1, .ref m2, .ref m3, .int (-1), .int 3, .int 255, .int 0, .int 0, .int 0, .int 0, .int 0, .int 65535, .ref m4, .ref m5, .ref m6, .ref m7, .ref m8, .ref m9, .int 0, .ref m10, .ref m11, .ref m12, .ref m13])), (m1, .inl (c1, 4, .inl (fun _ => 0))), (m2, .inl (c2, 4, .inl (fun _ => 0))), (m3, .inl (c3, 16384, .inl (fun _ => 0))), (m7, .inl (c7, 48, .inl (fun _ => 0))), (m8, .inl (c8, 48, .inl (fun _ => 0))), (m9, .inl (c9, 48, .inl (fun _ => 0))), (m10, .inl (c10, 3, .inl (fun _ => 0))), (m11, .inl (c11, 3, .inl (fun _ => 0))), (m12, .inl (c12, 3, .inl (fun _ => 0)))] H := hP
  have hD : va_D (fun q : Nat => s.heap.size ≤ q) [(s2, .inr (1, [.ref bx, .int (-1), .int 3, .int 255])), (bx, .inr (0, [.int 0, .int 0, .int 63, .int 63])), (s4, .inr (3, [.ref p1, .ref p2, .ref p3, .ref p4, .int 0, .int 0, .int 0])), (p1, .inl (d1, 48, .inl (fun _ => 0))), (p2, .inl (d2, 48, .inl (fun _ => 0))), (p3, .inl (d3, 48, .inl (fun _ => 0))), (p4, .inl (d4, 48, .inl (fun _ => 0))), (s5, .inr (7, [.ref t1, .ref t2, .ref t3, .ref t4])), (t1, .inl (e1, 3, .inl (fun _ => 0))), (t2, .inl (e2, 3, .inl (fun _ => 0))), (t3, .inl (e3, 3, .inl (fun _ => 0))), (hm, .inr (9, [.ref m1, .ref m2, .ref m3, .int (-1), .int 3, .int 255, .int 0, .int 0, .int 0, .int 0, .int 0, .int 65535, .ref m4, .ref m5, .ref m6, .ref m7, .ref m8, .ref m9, .int 0, .ref m10, .ref m11, .ref m12, .ref m13])), (m1, .inl (c1, 4, .inl (fun _ => 0))), (m2, .inl (c2, 4, .inl (fun _ => 0))), (m3, .inl (c3, 16384, .inl (fun _ => 0))), (m7, .inl (c7, 48, .inl (fun _ => 0))), (m8, .inl (c8, 48, .inl (fun _ => 0))), (m9, .inl (c9, 48, .inl (fun _ => 0))), (m10, .inl (c10, 3, .inl (fun _ => 0))), (m11, .inl (c11, 3, .inl (fun _ => 0))), (m12, .inl (c12, 3, .inl (fun _ => 0)))] := hD
  refine W.widen (k := 38) (n := 33718) (by omega) (by omega) ?_
  subst hr_1
  refine lv_aload_n hx hb dL_law_738 rfl (lv_at hl 1 rfl) ?_
  refine lv_aload_n hx hb dL_law_739 rfl (lv_at hl 3 rfl) ?_
  refine lv_iload_n hx hb dL_law_740 rfl (lv_at hl 0 rfl) ?_
  refine lv_iconst (v := 1) hx hb dL_law_741 (by decide) ?_
  refine lv_iadd hx hb dL_law_742 ?_
  refine my_fold (v := 1) (by decide) ?_
  refine va_sld hx hb hX hbl hbA hS (i := 1) (my_in (by decide) (by decide)) dL_law_743 ?_
  refine my_topv (v := .int (xs 1)) rfl ?_
  refine lv_aload_n hx hb dL_law_744 rfl (lv_at hl 3 rfl) ?_
  refine lv_iload_n hx hb dL_law_745 rfl (lv_at hl 0 rfl) ?_
  refine lv_iconst (v := 2) hx hb dL_law_746 (by decide) ?_
  refine lv_iadd hx hb dL_law_747 ?_
  refine my_fold (v := 2) (by decide) ?_
  refine va_sld hx hb hX hbl hbA hS (i := 2) (my_in (by decide) (by decide)) dL_law_748 ?_
  refine my_topv (v := .int (xs 2)) rfl ?_
  refine lv_aload_n hx hb dL_law_749 rfl (lv_at hl 3 rfl) ?_
  refine lv_iload_n hx hb dL_law_750 rfl (lv_at hl 0 rfl) ?_
  refine lv_iconst (v := 3) hx hb dL_law_751 (by decide) ?_
  refine lv_iadd hx hb dL_law_752 ?_
  refine my_fold (v := 3) (by decide) ?_
  refine va_sld hx hb hX hbl hbA hS (i := 3) (my_in (by decide) (by decide)) dL_law_753 ?_
  refine my_topv (v := .int (xs 3)) rfl ?_
  refine lv_aload_n hx hb dL_law_754 rfl (lv_at hl 3 rfl) ?_
  refine lv_iload_n hx hb dL_law_755 rfl (lv_at hl 0 rfl) ?_
  refine lv_iconst (v := 4) hx hb dL_law_756 (by decide) ?_
  refine lv_iadd hx hb dL_law_757 ?_
  refine my_fold (v := 4) (by decide) ?_
  refine va_sld hx hb hX hbl hbA hS (i := 4) (my_in (by decide) (by decide)) dL_law_758 ?_
  refine my_topv (v := .int (xs 4)) rfl ?_
  refine lv_aload_n hx hb dL_law_759 rfl (lv_at hl 3 rfl) ?_
  refine lv_iload_n hx hb dL_law_760 rfl (lv_at hl 0 rfl) ?_
  refine lv_iconst (v := 5) hx hb dL_law_761 (by decide) ?_
  refine lv_iadd hx hb dL_law_762 ?_
  refine my_fold (v := 5) (by decide) ?_
  refine va_sld hx hb hX hbl hbA hS (i := 5) (my_in (by decide) (by decide)) dL_law_763 ?_
  refine my_topv (v := .int (xs 5)) rfl ?_
  refine lv_aload_n hx hb dL_law_764 rfl (lv_at hl 3 rfl) ?_
  refine lv_iload_n hx hb dL_law_765 rfl (lv_at hl 0 rfl) ?_
  refine lv_bipush (v := 6) hx hb dL_law_766 (by decide) ?_
  refine lv_iadd hx hb dL_law_768 ?_
  refine my_fold (v := 6) (by decide) ?_
  refine va_sld hx hb hX hbl hbA hS (i := 6) (my_in (by decide) (by decide)) dL_law_769 ?_
  refine my_topv (v := .int (xs 6)) rfl ?_
  refine lv_aload_n hx hb dL_law_770 rfl (lv_at hl 3 rfl) ?_
  refine lv_iload_n hx hb dL_law_771 rfl (lv_at hl 0 rfl) ?_
  refine lv_bipush (v := 7) hx hb dL_law_772 (by decide) ?_
  refine lv_iadd hx hb dL_law_774 ?_
  refine my_fold (v := 7) (by decide) ?_
  refine va_sld hx hb hX hbl hbA hS (i := 7) (my_in (by decide) (by decide)) dL_law_775 ?_
  refine my_topv (v := .int (xs 7)) rfl ?_
  refine lv_aload_n hx hb dL_law_776 rfl (lv_at hl 3 rfl) ?_
  refine lv_iload_n hx hb dL_law_777 rfl (lv_at hl 0 rfl) ?_
  refine lv_bipush (v := 8) hx hb dL_law_778 (by decide) ?_
  refine lv_iadd hx hb dL_law_780 ?_
  refine my_fold (v := 8) (by decide) ?_
  refine va_sld hx hb hX hbl hbA hS (i := 8) (my_in (by decide) (by decide)) dL_law_781 ?_
  refine my_topv (v := .int (xs 8)) rfl ?_
  have hPc := hP.sub (ws' := [(hm, .inr (9, [.ref m1, .ref m2, .ref m3, .int (-1), .int 3, .int 255, .int 0, .int 0, .int 0, .int 0, .int 0, .int 65535, .ref m4, .ref m5, .ref m6, .ref m7, .ref m8, .ref m9, .int 0, .ref m10, .ref m11, .ref m12, .ref m13])), (m1, .inl (c1, 4, .inl (fun _ => 0)))]) [11, 12] rfl
  have hDc := hD.sub (ws' := [(hm, .inr (9, [.ref m1, .ref m2, .ref m3, .int (-1), .int 3, .int 255, .int 0, .int 0, .int 0, .int 0, .int 0, .int 65535, .ref m4, .ref m5, .ref m6, .ref m7, .ref m8, .ref m9, .int 0, .ref m10, .ref m11, .ref m12, .ref m13])), (m1, .inl (c1, 4, .inl (fun _ => 0)))]) [11, 12] (by decide) rfl
  have hKc := hK.sub (tys' := [(c1, .int)]) [8] rfl
  have hFc := va_free (wc := [(hm, .inr (9, [.ref m1, .ref m2, .ref m3, .int (-1), .int 3, .int 255, .int 0, .int 0, .int 0, .int 0, .int 0, .int 65535, .ref m4, .ref m5, .ref m6, .ref m7, .ref m8, .ref m9, .int 0, .ref m10, .ref m11, .ref m12, .ref m13])), (m1, .inl (c1, 4, .inl (fun _ => 0)))]) hD hS hA [11, 12] rfl
  refine va_calli (va_runV (As := [.int (xs 1), .int (xs 2), .int (xs 3), .int (xs 4), .int (xs 5), .int (xs 6), .int (xs 7), .int (xs 8)]) (rest := [.int (-1)]) ⟨hx, hb, hml, hown, hts⟩ (k_X9_copy l D H.size hm m1 m2 m3 m4 m5 m6 m7 m8 m9 m10 m11 m12 m13 c1 (xs 1) (xs 2) (xs 3) (xs 4) (xs 5) (xs 6) (xs 7) (xs 8)) (cwV 8 hts (gV bw_308 bw_309 bw_310 bw_11 bw_307) rfl rfl rfl (by decide +kernel) ⟨Nat.le_of_ble_eq_true rfl, Nat.le_of_ble_eq_true rfl⟩) ⟨cP_blind, va_recv hKc hPc (ci := 9) (q0 := 0) rfl rfl, cP_at hPc hKc hDc hN⟩ rfl rfl hl.1 rfl (lv_room (Nat.le_of_ble_eq_true rfl)) dL_law_782 ⟨Nat.le_of_ble_eq_true rfl, Nat.le_of_ble_eq_true rfl⟩) hS (fun q _ h => hFc q h) hFc (fun r_2 u9 t9 H1 locs ht hvm hr_2 hB hz1 hk1 hS => ?_)
  try dsimp only at hr_2
  have hP1 : va_P D vwCl [] H1 := vP_nil
  have hD1 : va_D (va_A [(hm, .inr (9, [.ref m1, .ref m2, .ref m3, .int (-1), .int 3, .int 255, .int 0, .int 0, .int 0, .int 0, .int 0, .int 65535, .ref m4, .ref m5, .ref m6, .ref m7, .ref m8, .ref m9, .int 0, .ref m10, .ref m11, .ref m12, .ref m13])), (m1, .inl (c1, 4, .inl (fun _ => 0)))] H.size) [] := vD_nil
  obtain ⟨hP, hD⟩ := va_join (wr := [(s2, .inr (1, [.ref bx, .int (-1), .int 3, .int 255])), (bx, .inr (0, [.int 0, .int 0, .int 63, .int 63])), (s4, .inr (3, [.ref p1, .ref p2, .ref p3, .ref p4, .int 0, .int 0, .int 0])), (p1, .inl (d1, 48, .inl (fun _ => 0))), (p2, .inl (d2, 48, .inl (fun _ => 0))), (p3, .inl (d3, 48, .inl (fun _ => 0))), (p4, .inl (d4, 48, .inl (fun _ => 0))), (s5, .inr (7, [.ref t1, .ref t2, .ref t3, .ref t4])), (t1, .inl (e1, 3, .inl (fun _ => 0))), (t2, .inl (e2, 3, .inl (fun _ => 0))), (t3, .inl (e3, 3, .inl (fun _ => 0))), (m2, .inl (c2, 4, .inl (fun _ => 0))), (m3, .inl (c3, 16384, .inl (fun _ => 0))), (m7, .inl (c7, 48, .inl (fun _ => 0))), (m8, .inl (c8, 48, .inl (fun _ => 0))), (m9, .inl (c9, 48, .inl (fun _ => 0))), (m10, .inl (c10, 3, .inl (fun _ => 0))), (m11, .inl (c11, 3, .inl (fun _ => 0))), (m12, .inl (c12, 3, .inl (fun _ => 0)))]) (w1 := []) hP hD [11, 12] [0, 1, 2, 3, 4, 5, 6, 7, 8, 9, 10, 13, 14, 15, 16, 17, 18, 19, 20] rfl rfl (by decide) (by decide) hk1 hFc hP1 hD1
  clear hz1 hk1 hFc hKc hDc hPc
  generalize H1 = H at hP hS ⊢
  have hP : va_P D vwCl [(s2, .inr (1, [.ref bx, .int (-1), .int 3, .int 255])), (bx, .inr (0, [.int 0, .int 0, .int 63, .int 63])), (s4, .inr (3, [.ref p1, .ref p2, .ref p3, .ref p4, .int 0, .int 0, .int 0])), (p1, .inl (d1, 48, .inl (fun _ => 0))), (p2, .inl (d2, 48, .inl (fun _ => 0))), (p3, .inl (d3, 48, .inl (fun _ => 0))), (p4, .inl (d4, 48, .inl (fun _ => 0))), (s5, .inr (7, [.ref t1, .ref t2, .ref t3, .ref t4])), (t1, .inl (e1, 3, .inl (fun _ => 0))), (t2, .inl (e2, 3, .inl (fun _ => 0))), (t3, .inl (e3, 3, .inl (fun _ => 0))), (m2, .inl (c2, 4, .inl (fun _ => 0))), (m3, .inl (c3, 16384, .inl (fun _ => 0))), (m7, .inl (c7, 48, .inl (fun _ => 0))), (m8, .inl (c8, 48, .inl (fun _ => 0))), (m9, .inl (c9, 48, .inl (fun _ => 0))), (m10, .inl (c10, 3, .inl (fun _ => 0))), (m11, .inl (c11, 3, .inl (fun _ => 0))), (m12, .inl (c12, 3, .inl (fun _ => 0)))] H := hP
  have hD : va_D (fun q : Nat => s.heap.size ≤ q) [(s2, .inr (1, [.ref bx, .int (-1), .int 3, .int 255])), (bx, .inr (0, [.int 0, .int 0, .int 63, .int 63])), (s4, .inr (3, [.ref p1, .ref p2, .ref p3, .ref p4, .int 0, .int 0, .int 0])), (p1, .inl (d1, 48, .inl (fun _ => 0))), (p2, .inl (d2, 48, .inl (fun _ => 0))), (p3, .inl (d3, 48, .inl (fun _ => 0))), (p4, .inl (d4, 48, .inl (fun _ => 0))), (s5, .inr (7, [.ref t1, .ref t2, .ref t3, .ref t4])), (t1, .inl (e1, 3, .inl (fun _ => 0))), (t2, .inl (e2, 3, .inl (fun _ => 0))), (t3, .inl (e3, 3, .inl (fun _ => 0))), (m2, .inl (c2, 4, .inl (fun _ => 0))), (m3, .inl (c3, 16384, .inl (fun _ => 0))), (m7, .inl (c7, 48, .inl (fun _ => 0))), (m8, .inl (c8, 48, .inl (fun _ => 0))), (m9, .inl (c9, 48, .inl (fun _ => 0))), (m10, .inl (c10, 3, .inl (fun _ => 0))), (m11, .inl (c11, 3, .inl (fun _ => 0))), (m12, .inl (c12, 3, .inl (fun _ => 0)))] := hD
  subst hr_2
  refine lv_icmp_eq (tgt := 1167) hx hb dL_law_785 (by decide) (fun c_3 => ?_) (fun c_3 => ?_)
  · skip
    exact law_tail C0 (by omega) (by omega) hS (lv_sub hl [0, 3] rfl)
  · skip
    exact absurd c_3 (by decide)
