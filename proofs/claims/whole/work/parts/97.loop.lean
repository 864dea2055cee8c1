set_option maxHeartbeats 1000000 in
set_option maxRecDepth 100000 in
theorem law_loop {p : Program} {e : Env} {s : State} {m : MethodId} {below : List Frame} {meth : Method} {c : Code} (l : Launch) {b L : Nat} {xs : Nat → Int32} (C0 : lw_At p s m meth c b L xs) (hN : nW s) {D : va_G} {cI cO cZ : ClassId} (hK : va_K D vwCl [(cI, .int), (cO, .object "DotBench$Sheet"), (cZ, .boolean)] s) {ad am : Nat → Nat} (hL : L ≤ 5632) : ∀ (N i : Nat) (n : Nat → Int32) (g : Nat → Nat → Int32) (f : Nat → Option Nat) (sh : Nat → Option Sh) (sv : Option Sp) (bv : Option Sh) (nm : Nat → Int32) (gm : Nat → Nat → Int32) (H : Heap) (locs : List Loc) (ls : Array Slot), i ≤ 512 → 513 ≤ i + N → okC n f sh → okM nm gm → RW n g (fun k => vO (sh k)) nm gm → va_P D vwCl (cWld cI cO ad n g f sh sv bv ++ mWld cI cZ am nm gm) H → va_D (fun q : Nat => s.heap.size ≤ q) (cWld cI cO ad n g f sh sv bv ++ mWld cI cZ am nm gm) → va_S (fun q : Nat => s.heap.size ≤ q) s.heap H locs → lv_has ls 4 [(3, .int (nI (11 * i))), (2, .ref (am 0)), (1, .ref (ad 0)), (0, .ref b)] → W p l e room_1 s m #[Value.ref b] below meth c H locs (36 + 4 * i) (33710 + 8195 * i) (lw_Z below #[Value.ref b] s) (F0 m 18 ls []) := by
  obtain ⟨hx, hb, hr, hml, hown, hts0, hX, hbl, hlocks, hgv⟩ := id C0
  have hts : ∀ w ∈ bigW, w.before #[Value.ref b] s = true := fun w h => hts0 w (bigW_in w h).1
  have hown : s.vm.findClass RL = some m.cls := hown
  have hA : ∀ q : Nat, s.heap.size ≤ q → (fun q : Nat => s.heap.size ≤ q) q := fun _ h => h
  have hbA : ¬ (fun q : Nat => s.heap.size ≤ q) b := Nat.not_le.mpr hbl
  intro N
  induction N with
  | zero =>
    intro i n g f sh sv bv nm gm H locs ls hi hm
    omega
  | succ N ih =>
    intro i n g f sh sv bv nm gm H locs ls hi hm hok hom hpr hP hD hS hl
    have hnext : 11 * i + 11 ≤ L → ∀ (n : Nat → Int32) (g : Nat → Nat → Int32) (f : Nat → Option Nat) (sh : Nat → Option Sh) (sv : Option Sp) (bv : Option Sh) (nm : Nat → Int32) (gm : Nat → Nat → Int32) (H : Heap) (locs : List Loc) (ls : Array Slot), okC n f sh → okM nm gm → RW n g (fun k => vO (sh k)) nm gm → va_P D vwCl (cWld cI cO ad n g f sh sv bv ++ mWld cI cZ am nm gm) H → va_D (fun q : Nat => s.heap.size ≤ q) (cWld cI cO ad n g f sh sv bv ++ mWld cI cZ am nm gm) → va_S (fun q : Nat => s.heap.size ≤ q) s.heap H locs → lv_has ls 4 [(3, .int (nI (11 * i))), (2, .ref (am 0)), (1, .ref (ad 0)), (0, .ref b)] → W p l e room_1 s m #[Value.ref b] below meth c H locs (36 + 4 * i + 4) (33710 + 8195 * i + 8195) (lw_Z below #[Value.ref b] s) (F0 m 1167 ls []) := by
      intro hi11 n g f sh sv bv nm gm H locs ls hok hom hpr hP hD hS hl
      refine lv_iinc (v := nI (11 * (i + 1))) (lv' := [(3, .int (nI (11 * (i + 1)))), (2, .ref (am 0)), (1, .ref (ad 0)), (0, .ref b)]) hx hb dL_law_1167 hl (k := 0) rfl (show nI (11 * i) + nI 11 = _ from nI_add _ _) (by decide) rfl (fun ls hl => ?_)
      refine lv_goto (tgt := 18) hx hb dL_law_1170 (by decide) ?_
      refine W.widen (k := 36 + 4 * (i + 1)) (n := 33710 + 8195 * (i + 1)) (by omega) (by omega) ?_
      exact ih (i + 1) n g f sh sv bv nm gm H locs ls (by omega) (by omega) hok hom hpr hP hD hS hl
    refine lv_iload_n hx hb dL_law_18 rfl (lv_at hl 0 rfl) ?_
    refine lv_aload_n hx hb dL_law_19 rfl (lv_at hl 3 rfl) ?_
    refine va_slen hx hb hX hbl hbA hS dL_law_20 ?_
    refine lv_bipush (v := 11) hx hb dL_law_21 (by decide) ?_
    refine lv_isub hx hb dL_law_23 ?_
    refine lv_topi (fun y ey => ?_)
    have hy : y.toInt = (L : Int) - 11 := by rw [ey]; exact len_ti (by omega)
    have hx3 : (nI (11 * i)).toInt = ((11 * i : Nat) : Int) := nI_toInt (by omega)
    refine lv_icmp_gt (tgt := 1173) hx hb dL_law_24 (by decide) (fun c9 => ?_) (fun c9 => ?_)
    · skip
      refine lv_iconst (v := 1) hx hb dL_law_1173 (by decide) ?_
      refine va_forget (fun q hq => hS.2.2 q hq) ?_
      refine W.widen (k := 135154) (n := 8696788) (by omega) (by omega) ?_
      exact lw_ret hx hb hr hlocks dL_law_1174
    · skip
      have h11 : 11 * i + 11 ≤ L := by have := fn_lt hy hx3 c9; omega
      refine lv_aload_n hx hb dL_law_27 rfl (lv_at hl 3 rfl) ?_
      refine lv_iload_n hx hb dL_law_28 rfl (lv_at hl 0 rfl) ?_
      refine va_sld hx hb hX hbl hbA hS (i := nI (11 * i)) (vp_in_nI (by omega) (by omega)) dL_law_29 ?_
      refine lv_bipush (v := 31) hx hb dL_law_30 (by decide) ?_
      refine lv_iand hx hb dL_law_32 ?_
      refine lv_topi (fun y2 ey2 => ?_)
      by_cases hsw : 0 ≤ y2.toInt ∧ y2.toInt ≤ 20
      · skip
        obtain ⟨j9, hj9, ej9⟩ := i_of (x := y2) (N := 21) (by omega) (by omega) (by decide)
        clear ey2
        subst ej9
        rcases (show j9 = 0 ∨ j9 = 1 ∨ j9 = 2 ∨ j9 = 3 ∨ j9 = 4 ∨ j9 = 5 ∨ j9 = 6 ∨ j9 = 7 ∨ j9 = 8 ∨ j9 = 9 ∨ j9 = 10 ∨ j9 = 11 ∨ j9 = 12 ∨ j9 = 13 ∨ j9 = 14 ∨ j9 = 15 ∨ j9 = 16 ∨ j9 = 17 ∨ j9 = 18 ∨ j9 = 19 ∨ j9 = 20 by omega) with rfl | rfl | rfl | rfl | rfl | rfl | rfl | rfl | rfl | rfl | rfl | rfl | rfl | rfl | rfl | rfl | rfl | rfl | rfl | rfl | rfl
        · refine lv_tableIn (off := 99) (tgt := 132) hx hb dL_law_33 (by decide) (by decide) rfl (by decide) ?_
          exact law_op_0 l C0 hN hK hL h11 hok hom hpr hP hD hS hl (hnext h11)
        · refine lv_tableIn (off := 142) (tgt := 175) hx hb dL_law_33 (by decide) (by decide) rfl (by decide) ?_
          exact law_op_1 l C0 hN hK hL h11 hok hom hpr hP hD hS hl (hnext h11)
        · refine lv_tableIn (off := 163) (tgt := 196) hx hb dL_law_33 (by decide) (by decide) rfl (by decide) ?_
          exact law_op_2 l C0 hN hK hL h11 hok hom hpr hP hD hS hl (hnext h11)
        · refine lv_tableIn (off := 196) (tgt := 229) hx hb dL_law_33 (by decide) (by decide) rfl (by decide) ?_
          exact law_op_3 l C0 hN hK hL h11 hok hom hpr hP hD hS hl (hnext h11)
        · refine lv_tableIn (off := 247) (tgt := 280) hx hb dL_law_33 (by decide) (by decide) rfl (by decide) ?_
          exact law_op_4 l C0 hN hK hL h11 hok hom hpr hP hD hS hl (hnext h11)
        · refine lv_tableIn (off := 268) (tgt := 301) hx hb dL_law_33 (by decide) (by decide) rfl (by decide) ?_
          exact law_op_5 l C0 hN hK hL h11 hok hom hpr hP hD hS hl (hnext h11)
        · refine lv_tableIn (off := 331) (tgt := 364) hx hb dL_law_33 (by decide) (by decide) rfl (by decide) ?_
          exact law_op_6 l C0 hN hK hL h11 hok hom hpr hP hD hS hl (hnext h11)
        · refine lv_tableIn (off := 384) (tgt := 417) hx hb dL_law_33 (by decide) (by decide) rfl (by decide) ?_
          exact law_op_7 l C0 hN hK hL h11 hok hom hpr hP hD hS hl (hnext h11)
        · refine lv_tableIn (off := 443) (tgt := 476) hx hb dL_law_33 (by decide) (by decide) rfl (by decide) ?_
          exact law_op_8 l C0 hN hK hL h11 hok hom hpr hP hD hS hl (hnext h11)
        · refine lv_tableIn (off := 454) (tgt := 487) hx hb dL_law_33 (by decide) (by decide) rfl (by decide) ?_
          exact law_op_9 l C0 hN hK hL h11 hok hom hpr hP hD hS hl (hnext h11)
        · refine lv_tableIn (off := 513) (tgt := 546) hx hb dL_law_33 (by decide) (by decide) rfl (by decide) ?_
          exact law_op_10 l C0 hN hK hL h11 hok hom hpr hP hD hS hl (hnext h11)
        · refine lv_tableIn (off := 566) (tgt := 599) hx hb dL_law_33 (by decide) (by decide) rfl (by decide) ?_
          exact law_op_11 l C0 hN hK hL h11 hok hom hpr hP hD hS hl (hnext h11)
        · refine lv_tableIn (off := 589) (tgt := 622) hx hb dL_law_33 (by decide) (by decide) rfl (by decide) ?_
          exact law_op_12 l C0 hN hK hL h11 hok hom hpr hP hD hS hl (hnext h11)
        · refine lv_tableIn (off := 658) (tgt := 691) hx hb dL_law_33 (by decide) (by decide) rfl (by decide) ?_
          exact law_op_13 l C0 hN hK hL h11 hok hom hpr hP hD hS hl (hnext h11)
        · refine lv_tableIn (off := 757) (tgt := 790) hx hb dL_law_33 (by decide) (by decide) rfl (by decide) ?_
          exact law_op_14 l C0 hN hK hL h11 hok hom hpr hP hD hS hl (hnext h11)
        · refine lv_tableIn (off := 880) (tgt := 913) hx hb dL_law_33 (by decide) (by decide) rfl (by decide) ?_
          exact law_op_15 l C0 hN hK hL h11 hok hom hpr hP hD hS hl (hnext h11)
        · refine lv_tableIn (off := 923) (tgt := 956) hx hb dL_law_33 (by decide) (by decide) rfl (by decide) ?_
          exact law_op_16 l C0 hN hK hL h11 hok hom hpr hP hD hS hl (hnext h11)
        · refine lv_tableIn (off := 956) (tgt := 989) hx hb dL_law_33 (by decide) (by decide) rfl (by decide) ?_
          exact law_op_17 l C0 hN hK hL h11 hok hom hpr hP hD hS hl (hnext h11)
        · refine lv_tableIn (off := 1025) (tgt := 1058) hx hb dL_law_33 (by decide) (by decide) rfl (by decide) ?_
          exact law_op_18 l C0 hN hK hL h11 hok hom hpr hP hD hS hl (hnext h11)
        · refine lv_tableIn (off := 1058) (tgt := 1091) hx hb dL_law_33 (by decide) (by decide) rfl (by decide) ?_
          exact law_op_19 l C0 hN hK hL h11 hok hom hpr hP hD hS hl (hnext h11)
        · refine lv_tableIn (off := 1091) (tgt := 1124) hx hb dL_law_33 (by decide) (by decide) rfl (by decide) ?_
          exact law_op_20 l C0 hN hK hL h11 hok hom hpr hP hD hS hl (hnext h11)
      · skip
        refine lv_tableOut (tgt := 1167) hx hb dL_law_33 (by omega) (by decide) ?_
        refine W.widen (k := 36 + 4 * i + 4) (n := 33710 + 8195 * i + 8195) (by omega) (by omega) ?_
        exact hnext h11 n g f sh sv bv nm gm H locs ls hok hom hpr hP hD hS hl
