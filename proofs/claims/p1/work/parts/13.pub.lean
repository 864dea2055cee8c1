set_option maxHeartbeats 4000000 in
set_option maxRecDepth 100000 in
theorem k_X8_sheet (l : Launch) (D : va_G) (sz : Nat) (h0 s1 s2 s3 s4 s5 s6 : Nat) (ca : ClassId) (k w h : Int32) : Met l yX8_sheet (wB yX8_sheet cX8_sheet 4 (some .boolean)) ({ frames := 2, cells := 2, slots := 4099, locals := 45 }) (cP D [(h0, .inr (8, [.ref s1, .ref s2, .ref s3, .ref s4, .ref s5, .ref s6, .int 65535, .null, .null])), (s1, .inl (ca, 4, .inr (.inr (.inr (.inr (fun _ => none))))))] [(ca, .object "DotBench$Sheet")] sz [.ref h0, .int k, .int w, .int h]) (va_Qi (fun (r : Int32) (_ : Unit) => r = if 0 ≤ k.toInt ∧ k.toInt ≤ 3 ∧ 1 ≤ w.toInt ∧ w.toInt ≤ 64 ∧ 1 ≤ h.toInt ∧ h.toInt ≤ 64 then 1 else 0) (fun (_ : Unit) (_ : State) => True) (va_A [(h0, .inr (8, [.ref s1, .ref s2, .ref s3, .ref s4, .ref s5, .ref s6, .int 65535, .null, .null])), (s1, .inl (ca, 4, .inr (.inr (.inr (.inr (fun _ => none))))))] sz)) 2 4099 (va_A [(h0, .inr (8, [.ref s1, .ref s2, .ref s3, .ref s4, .ref s5, .ref s6, .int 65535, .null, .null])), (s1, .inl (ca, 4, .inr (.inr (.inr (.inr (fun _ => none))))))] sz) := by
  refine Met.ofW (cc := cX8_sheet) (maxL := 4) (ret := (some .boolean)) (by decide) rfl ?_
  intro p e s m args below meth c s₁ B hml hv
  obtain ⟨rfl, hsz, hP, hK, hD0, hN⟩ := hv
  have hx := B.exec
  have hb := B.bytes
  have hr := B.returns
  have hts0 := atoms_spec (ws := (wB yX8_sheet cX8_sheet 4 (some .boolean))) B.pre
  have hts : ∀ w ∈ bigW, w.before _ s = true := fun w h => hts0 w (List.mem_cons_of_mem _ h)
  have hown : s.vm.findClass RX8 = some m.cls := findClass_of_methodNamed B.named
  have hlocks := B.notSynchronized
  subst hsz
  have hD := hD0.self (sz := s.heap.size)
  generalize hAe : va_A [(h0, .inr (8, [.ref s1, .ref s2, .ref s3, .ref s4, .ref s5, .ref s6, .int 65535, .null, .null])), (s1, .inl (ca, 4, .inr (.inr (.inr (.inr (fun _ => none))))))] s.heap.size = A at hD ⊢
  have hA : ∀ q : Nat, s.heap.size ≤ q → A q := fun q h => by rw [← hAe]; exact Or.inr h
  have hS : va_S A s.heap s.heap [] := va_S.rf
  have hP : va_P D vwCl [(h0, .inr (8, [.ref s1, .ref s2, .ref s3, .ref s4, .ref s5, .ref s6, .int 65535, .null, .null])), (s1, .inl (ca, 4, .inr (.inr (.inr (.inr (fun _ => none))))))] s.heap := hP
  have hl := lv_entry ([.ref h0, .int k, .int w, .int h]) (n := 4) (Nat.le_of_ble_eq_true rfl)
  rw [lg_entry_eq]
  generalize (lg_sl ([.ref h0, .int k, .int w, .int h]) ++ List.replicate (4 - (lg_sl ([.ref h0, .int k, .int w, .int h])).length) Slot.unset).toArray = ls at hl ⊢
  have hl : lv_has ls 4 [(0, .ref h0), (1, .int k), (2, .int w), (3, .int h)] := hl
  refine lv_iload_n hx hb dX8_sheet_0 rfl (lv_at hl 1 rfl) ?_
  refine lv_if_lt (tgt := 23) hx hb dX8_sheet_1 (by decide) (fun c_1 => ?_) (fun c_1 => ?_)
  · skip
    have f_2 : k.toInt < 0 := f_lt rfl (by decide) c_1
    refine lv_iconst (v := 0) hx hb dX8_sheet_23 (by decide) ?_
    refine W.widen (k := 2) (n := 4099) (by omega) (by omega) ?_
    exact W.zret (v := 0) hx hb hr rfl (fun t ht hW => ⟨⟨0, (), rfl, (if_neg (by omega)).symm, trivial⟩, hS.F ht⟩) hS.2.2 dX8_sheet_24
  · skip
    have f_2 : ¬ (k.toInt < 0) := fn_lt rfl (by decide) c_1
    refine lv_iload_n hx hb dX8_sheet_4 rfl (lv_at hl 1 rfl) ?_
    refine lv_iconst (v := 4) hx hb dX8_sheet_5 (by decide) ?_
    refine lv_icmp_ge (tgt := 23) hx hb dX8_sheet_6 (by decide) (fun c_3 => ?_) (fun c_3 => ?_)
    · skip
      have f_4 : 4 ≤ k.toInt := f_le (by decide) rfl c_3
      refine lv_iconst (v := 0) hx hb dX8_sheet_23 (by decide) ?_
      refine W.widen (k := 2) (n := 4099) (by omega) (by omega) ?_
      exact W.zret (v := 0) hx hb hr rfl (fun t ht hW => ⟨⟨0, (), rfl, (if_neg (by omega)).symm, trivial⟩, hS.F ht⟩) hS.2.2 dX8_sheet_24
    · skip
      have f_4 : ¬ (4 ≤ k.toInt) := fn_le (by decide) rfl c_3
      refine lv_iload_n hx hb dX8_sheet_9 rfl (lv_at hl 2 rfl) ?_
      have hPc := hP.sub (ws' := []) [] rfl
      have hDc := hD.sub (ws' := []) [] (by decide) rfl
      have hKc := hK.sub (tys' := []) [] rfl
      have hFc := va_free (wc := []) hD hS hA [] rfl
      refine va_calli (va_runS (As := [.int w]) (rest := []) ⟨hx, hb, hml, hown, hts⟩ (k_X8_isSide l D s.heap.size w) (va_cwS 1 hts (gS bw_123 bw_124 bw_1 bw_122) rfl rfl rfl (by decide +kernel) ⟨Nat.le_of_ble_eq_true rfl, Nat.le_of_ble_eq_true rfl⟩) ⟨cP_blind, cP_at hPc hKc hDc hN⟩ rfl rfl hl.1 rfl (lv_room (Nat.le_of_ble_eq_true rfl)) dX8_sheet_10 ⟨Nat.le_of_ble_eq_true rfl, Nat.le_of_ble_eq_true rfl⟩) hS (fun q _ h => hFc q h) hFc (fun r_5 u9 t9 H1 locs ht hvm hr_5 hB hz1 hk1 hS => ?_)
      try dsimp only at hr_5
      have hP1 : va_P D vwCl [] H1 := vP_nil
      have hD1 : va_D (va_A [] s.heap.size) [] := vD_nil
      obtain ⟨hP, hD⟩ := va_join (wr := [(h0, .inr (8, [.ref s1, .ref s2, .ref s3, .ref s4, .ref s5, .ref s6, .int 65535, .null, .null])), (s1, .inl (ca, 4, .inr (.inr (.inr (.inr (fun _ => none))))))]) (w1 := []) hP hD [] [0, 1] rfl rfl (by decide) (by decide) hk1 hFc hP1 hD1
      clear hz1 hk1 hFc hKc hDc hPc
      generalize H1 = H at hP hS ⊢
      have hP : va_P D vwCl [(h0, .inr (8, [.ref s1, .ref s2, .ref s3, .ref s4, .ref s5, .ref s6, .int 65535, .null, .null])), (s1, .inl (ca, 4, .inr (.inr (.inr (.inr (fun _ => none))))))] H := hP
      have hD : va_D A [(h0, .inr (8, [.ref s1, .ref s2, .ref s3, .ref s4, .ref s5, .ref s6, .int 65535, .null, .null])), (s1, .inl (ca, 4, .inr (.inr (.inr (.inr (fun _ => none))))))] := hD
      refine lv_if_eq (tgt := 23) hx hb dX8_sheet_13 (by decide) (fun c_6 => ?_) (fun c_6 => ?_)
      · skip
        have f_7 := bz0 hr_5 c_6
        refine lv_iconst (v := 0) hx hb dX8_sheet_23 (by decide) ?_
        refine W.widen (k := 2) (n := 4099) (by omega) (by omega) ?_
        exact W.zret (v := 0) hx hb hr rfl (fun t ht hW => ⟨⟨0, (), rfl, (if_neg (by omega)).symm, trivial⟩, hS.F ht⟩) hS.2.2 dX8_sheet_24
      · skip
        have f_7 := bz1 hr_5 c_6
        refine lv_iload_n hx hb dX8_sheet_16 rfl (lv_at hl 3 rfl) ?_
        have hPc := hP.sub (ws' := []) [] rfl
        have hDc := hD.sub (ws' := []) [] (by decide) rfl
        have hKc := hK.sub (tys' := []) [] rfl
        have hFc := va_free (wc := []) hD hS hA [] rfl
        refine va_calli (va_runS (As := [.int h]) (rest := []) ⟨hx, hb, hml, hown, hts⟩ (k_X8_isSide l D H.size h) (va_cwS 1 hts (gS bw_123 bw_124 bw_1 bw_122) rfl rfl rfl (by decide +kernel) ⟨Nat.le_of_ble_eq_true rfl, Nat.le_of_ble_eq_true rfl⟩) ⟨cP_blind, cP_at hPc hKc hDc hN⟩ rfl rfl hl.1 rfl (lv_room (Nat.le_of_ble_eq_true rfl)) dX8_sheet_17 ⟨Nat.le_of_ble_eq_true rfl, Nat.le_of_ble_eq_true rfl⟩) hS (fun q _ h => hFc q h) hFc (fun r_8 u9 t9 H1 locs ht hvm hr_8 hB hz1 hk1 hS => ?_)
        try dsimp only at hr_8
        have hP1 : va_P D vwCl [] H1 := vP_nil
        have hD1 : va_D (va_A [] H.size) [] := vD_nil
        obtain ⟨hP, hD⟩ := va_join (wr := [(h0, .inr (8, [.ref s1, .ref s2, .ref s3, .ref s4, .ref s5, .ref s6, .int 65535, .null, .null])), (s1, .inl (ca, 4, .inr (.inr (.inr (.inr (fun _ => none))))))]) (w1 := []) hP hD [] [0, 1] rfl rfl (by decide) (by decide) hk1 hFc hP1 hD1
        clear hz1 hk1 hFc hKc hDc hPc
        generalize H1 = H at hP hS ⊢
        have hP : va_P D vwCl [(h0, .inr (8, [.ref s1, .ref s2, .ref s3, .ref s4, .ref s5, .ref s6, .int 65535, .null, .null])), (s1, .inl (ca, 4, .inr (.inr (.inr (.inr (fun _ => none))))))] H := hP
        have hD : va_D A [(h0, .inr (8, [.ref s1, .ref s2, .ref s3, .ref s4, .ref s5, .ref s6, .int 65535, .null, .null])), (s1, .inl (ca, 4, .inr (.inr (.inr (.inr (fun _ => none))))))] := hD
        refine lv_if_ne (tgt := 25) hx hb dX8_sheet_20 (by decide) (fun c_9 => ?_) (fun c_9 => ?_)
        · skip
          have f_10 := bz1 hr_8 c_9
          refine lv_aload_n hx hb dX8_sheet_25 rfl (lv_at hl 0 rfl) ?_
          refine va_get (D := D) (ci := 8) (v := .ref s1) (C := RX8) (T := TX8) (N := 9) hx hb hts hi_X8 hown hK hP 0 rfl rfl 0 (by decide) (hts _ bw_67) (fun _ h9 => h9) rfl dX8_sheet_26 ?_
          refine lv_iload_n hx hb dX8_sheet_29 rfl (lv_at hl 1 rfl) ?_
          refine va_aldq hx hb hK hP 1 0 rfl rfl (vp_in_iff.mpr ⟨by omega, by omega⟩) dX8_sheet_30 ?_
          refine my_topv (v := .null) rfl ?_
          refine lv_ifnonnullN hx hb dX8_sheet_31 ?_
          refine lv_aload_n hx hb dX8_sheet_34 rfl (lv_at hl 0 rfl) ?_
          refine va_get (D := D) (ci := 8) (v := .ref s1) (C := RX8) (T := TX8) (N := 9) hx hb hts hi_X8 hown hK hP 0 rfl rfl 0 (by decide) (hts _ bw_67) (fun _ h9 => h9) rfl dX8_sheet_35 ?_
          refine lv_iload_n hx hb dX8_sheet_38 rfl (lv_at hl 1 rfl) ?_
          refine va_new (ci := 5) (fs := [.null, .int 0, .int 0]) (C := RX5) (T := TX5) (N := 3) hx hb hts hi_X5 tyX5 tyX5_ok hown (hts _ bw_66) (hts _ bw_125) (hts _ bw_126) hK hP hD hS hA rfl z_X5 (Nat.le_of_ble_eq_true rfl) (Nat.le_of_ble_eq_true rfl) dX8_sheet_39 (fun q_11 H hP hD hS => ?_)
          have hP : va_P D vwCl [(h0, .inr (8, [.ref s1, .ref s2, .ref s3, .ref s4, .ref s5, .ref s6, .int 65535, .null, .null])), (s1, .inl (ca, 4, .inr (.inr (.inr (.inr (fun _ => none)))))), (q_11, .inr (5, [.null, .int 0, .int 0]))] H := hP
          have hD : va_D A [(h0, .inr (8, [.ref s1, .ref s2, .ref s3, .ref s4, .ref s5, .ref s6, .int 65535, .null, .null])), (s1, .inl (ca, 4, .inr (.inr (.inr (.inr (fun _ => none)))))), (q_11, .inr (5, [.null, .int 0, .int 0]))] := hD
          refine W.widen (k := 1) (n := 3) (by omega) (by omega) ?_
          refine lv_dup hx hb dX8_sheet_42 rfl ?_
          have hPc := hP.sub (ws' := [(q_11, .inr (5, [.null, .int 0, .int 0]))]) [2] rfl
          have hDc := hD.sub (ws' := [(q_11, .inr (5, [.null, .int 0, .int 0]))]) [2] (by decide) rfl
          have hKc := hK.sub (tys' := []) [] rfl
          have hFc := va_free (wc := [(q_11, .inr (5, [.null, .int 0, .int 0]))]) hD hS hA [2] rfl
          refine va_callv (va_runIN (host := RX8) (As := []) (rest := [.ref q_11, .int k, .ref s1]) ⟨hx, hb, hml, hown, hts⟩ (k_X5_init l D H.size q_11) ⟨va_cnB 0 hts (gI bw_127) rfl rfl rfl (hN.2.1 (RX8, 67, yX5_init, RX8) (by decide +kernel)) (hts _ bw_126) (by decide +kernel) ⟨Nat.le_of_ble_eq_true rfl, Nat.le_of_ble_eq_true rfl⟩, rfl, (hts _ bw_128)⟩ ⟨cP_blind, cP_at hPc hKc hDc hN⟩ rfl rfl hl.1 rfl (lv_room (Nat.le_of_ble_eq_true rfl)) dX8_sheet_43 ⟨Nat.le_of_ble_eq_true rfl, Nat.le_of_ble_eq_true rfl⟩) hS (fun q _ h => hFc q h) hFc (fun u9 t9 H1 locs ht hvm hr_12 hB hz1 hk1 hS => ?_)
          try dsimp only at hr_12
          obtain ⟨q_13, a_14, hP1, hK1, hD1⟩ := hB
          rw [ht] at hP1
          obtain ⟨hP, hD⟩ := va_join (wr := [(h0, .inr (8, [.ref s1, .ref s2, .ref s3, .ref s4, .ref s5, .ref s6, .int 65535, .null, .null])), (s1, .inl (ca, 4, .inr (.inr (.inr (.inr (fun _ => none))))))]) (w1 := [(q_11, .inr (5, [.ref q_13, .int 0, .int 0])), (q_13, .inl (a_14, 4096, .inl (fun _ => 0)))]) hP hD [2] [0, 1] rfl rfl (by decide) (by decide) hk1 hFc hP1 hD1
          have hK : va_K D vwCl [(ca, .object "DotBench$Sheet"), (a_14, .int)] s := hK.app (va_K.moved hvm.symm hK1)
          clear hz1 hk1 hFc hKc hDc hPc
          generalize H1 = H at hP hS ⊢
          have hP : va_P D vwCl [(h0, .inr (8, [.ref s1, .ref s2, .ref s3, .ref s4, .ref s5, .ref s6, .int 65535, .null, .null])), (s1, .inl (ca, 4, .inr (.inr (.inr (.inr (fun _ => none)))))), (q_11, .inr (5, [.ref q_13, .int 0, .int 0])), (q_13, .inl (a_14, 4096, .inl (fun _ => 0)))] H := hP
          have hD : va_D A [(h0, .inr (8, [.ref s1, .ref s2, .ref s3, .ref s4, .ref s5, .ref s6, .int 65535, .null, .null])), (s1, .inl (ca, 4, .inr (.inr (.inr (.inr (fun _ => none)))))), (q_11, .inr (5, [.ref q_13, .int 0, .int 0])), (q_13, .inl (a_14, 4096, .inl (fun _ => 0)))] := hD
          refine W.widen (k := 2) (n := 4099) (by omega) (by omega) ?_
          refine va_astq hx hb hK hP hD hS 1 0 2 5 rfl rfl rfl rfl (vp_in_iff.mpr ⟨by omega, by omega⟩) dX8_sheet_46 (fun H locs hP hD hS => ?_)
          have hP : va_P D vwCl [(h0, .inr (8, [.ref s1, .ref s2, .ref s3, .ref s4, .ref s5, .ref s6, .int 65535, .null, .null])), (s1, .inl (ca, 4, .inr (.inr (.inr (.inr (va_up (fun _ => none) k.toNatClampNeg (some q_11))))))), (q_11, .inr (5, [.ref q_13, .int 0, .int 0])), (q_13, .inl (a_14, 4096, .inl (fun _ => 0)))] H := hP
          have hD : va_D A [(h0, .inr (8, [.ref s1, .ref s2, .ref s3, .ref s4, .ref s5, .ref s6, .int 65535, .null, .null])), (s1, .inl (ca, 4, .inr (.inr (.inr (.inr (va_up (fun _ => none) k.toNatClampNeg (some q_11))))))), (q_11, .inr (5, [.ref q_13, .int 0, .int 0])), (q_13, .inl (a_14, 4096, .inl (fun _ => 0)))] := hD
          refine lv_aload_n hx hb dX8_sheet_47 rfl (lv_at hl 0 rfl) ?_
          refine va_get (D := D) (ci := 8) (v := .ref s1) (C := RX8) (T := TX8) (N := 9) hx hb hts hi_X8 hown hK hP 0 rfl rfl 0 (by decide) (hts _ bw_67) (fun _ h9 => h9) rfl dX8_sheet_48 ?_
          refine lv_iload_n hx hb dX8_sheet_51 rfl (lv_at hl 1 rfl) ?_
          refine va_aldq hx hb hK hP 1 0 rfl rfl (vp_in_iff.mpr ⟨by omega, by omega⟩) dX8_sheet_52 ?_
          refine my_topv (v := .ref q_11) (by rw [va_up_self]; rfl) ?_
          refine lv_iload_n hx hb dX8_sheet_53 rfl (lv_at hl 2 rfl) ?_
          refine lv_iload_n hx hb dX8_sheet_54 rfl (lv_at hl 3 rfl) ?_
          have hPc := hP.sub (ws' := [(q_11, .inr (5, [.ref q_13, .int 0, .int 0])), (q_13, .inl (a_14, 4096, .inl (fun _ => 0)))]) [2, 3] rfl
          have hDc := hD.sub (ws' := [(q_11, .inr (5, [.ref q_13, .int 0, .int 0])), (q_13, .inl (a_14, 4096, .inl (fun _ => 0)))]) [2, 3] (by decide) rfl
          have hKc := hK.sub (tys' := [(a_14, .int)]) [1] rfl
          have hFc := va_free (wc := [(q_11, .inr (5, [.ref q_13, .int 0, .int 0])), (q_13, .inl (a_14, 4096, .inl (fun _ => 0)))]) hD hS hA [2, 3] rfl
          refine va_callv (va_runV (As := [.int w, .int h]) (rest := []) ⟨hx, hb, hml, hown, hts⟩ (k_X5_begin l D H.size q_11 q_13 a_14 w h) (cwV 2 hts (gV bw_130 bw_131 bw_132 bw_126 bw_129) rfl rfl rfl (by decide +kernel) ⟨Nat.le_of_ble_eq_true rfl, Nat.le_of_ble_eq_true rfl⟩) ⟨cP_blind, va_recv hKc hPc (ci := 5) (q0 := 0) rfl rfl, cP_at hPc hKc hDc hN⟩ rfl rfl hl.1 rfl (lv_room (Nat.le_of_ble_eq_true rfl)) dX8_sheet_55 ⟨Nat.le_of_ble_eq_true rfl, Nat.le_of_ble_eq_true rfl⟩) hS (fun q _ h => hFc q h) hFc (fun u9 t9 H1 locs ht hvm hr_15 hB hz1 hk1 hS => ?_)
          try dsimp only at hr_15
          have hP1 : va_P D vwCl [] H1 := vP_nil
          have hD1 : va_D (va_A [(q_11, .inr (5, [.ref q_13, .int 0, .int 0])), (q_13, .inl (a_14, 4096, .inl (fun _ => 0)))] H.size) [] := vD_nil
          obtain ⟨hP, hD⟩ := va_join (wr := [(h0, .inr (8, [.ref s1, .ref s2, .ref s3, .ref s4, .ref s5, .ref s6, .int 65535, .null, .null])), (s1, .inl (ca, 4, .inr (.inr (.inr (.inr (va_up (fun _ => none) k.toNatClampNeg (some q_11)))))))]) (w1 := []) hP hD [2, 3] [0, 1] rfl rfl (by decide) (by decide) hk1 hFc hP1 hD1
          clear hz1 hk1 hFc hKc hDc hPc
          generalize H1 = H at hP hS ⊢
          have hP : va_P D vwCl [(h0, .inr (8, [.ref s1, .ref s2, .ref s3, .ref s4, .ref s5, .ref s6, .int 65535, .null, .null])), (s1, .inl (ca, 4, .inr (.inr (.inr (.inr (va_up (fun _ => none) k.toNatClampNeg (some q_11)))))))] H := hP
          have hD : va_D A [(h0, .inr (8, [.ref s1, .ref s2, .ref s3, .ref s4, .ref s5, .ref s6, .int 65535, .null, .null])), (s1, .inl (ca, 4, .inr (.inr (.inr (.inr (va_up (fun _ => none) k.toNatClampNeg (some q_11)))))))] := hD
          refine lv_iconst (v := 1) hx hb dX8_sheet_58 (by decide) ?_
          exact W.zret (v := 1) hx hb hr rfl (fun t ht hW => ⟨⟨1, (), rfl, (if_pos (by omega)).symm, trivial⟩, hS.F ht⟩) hS.2.2 dX8_sheet_59
        · skip
          have f_10 := bz0 hr_8 c_9
          refine lv_iconst (v := 0) hx hb dX8_sheet_23 (by decide) ?_
          refine W.widen (k := 2) (n := 4099) (by omega) (by omega) ?_
          exact W.zret (v := 0) hx hb hr rfl (fun t ht hW => ⟨⟨0, (), rfl, (if_neg (by omega)).symm, trivial⟩, hS.F ht⟩) hS.2.2 dX8_sheet_24

set_option maxHeartbeats 4000000 in
set_option maxRecDepth 100000 in
theorem k_X8_ink (l : Launch) (D : va_G) (sz : Nat) (h0 s1 s2 s3 s4 s5 s6 bx : Nat) (n : Int32) : Met l yX8_ink (wB yX8_ink cX8_ink 2 none) ({ frames := 2, cells := 0, slots := 0, locals := 44 }) (cP D [(h0, .inr (8, [.ref s1, .ref s2, .ref s3, .ref s4, .ref s5, .ref s6, .int 65535, .null, .null])), (s2, .inr (1, [.ref bx, .int (-1), .int 3, .int 255]))] [] sz [.ref h0, .int n]) (va_Qv (fun (_ : Unit) => True) (fun (_ : Unit) (_ : State) => True) (va_A [(h0, .inr (8, [.ref s1, .ref s2, .ref s3, .ref s4, .ref s5, .ref s6, .int 65535, .null, .null])), (s2, .inr (1, [.ref bx, .int (-1), .int 3, .int 255]))] sz)) 0 0 (va_A [(h0, .inr (8, [.ref s1, .ref s2, .ref s3, .ref s4, .ref s5, .ref s6, .int 65535, .null, .null])), (s2, .inr (1, [.ref bx, .int (-1), .int 3, .int 255]))] sz) := by
  refine Met.ofW (cc := cX8_ink) (maxL := 2) (ret := none) (by decide) rfl ?_
  intro p e s m args below meth c s₁ B hml hv
  obtain ⟨rfl, hsz, hP, hK, hD0, hN⟩ := hv
  have hx := B.exec
  have hb := B.bytes
  have hr := B.returns
  have hts0 := atoms_spec (ws := (wB yX8_ink cX8_ink 2 none)) B.pre
  have hts : ∀ w ∈ bigW, w.before _ s = true := fun w h => hts0 w (List.mem_cons_of_mem _ h)
  have hown : s.vm.findClass RX8 = some m.cls := findClass_of_methodNamed B.named
  have hlocks := B.notSynchronized
  subst hsz
  have hD := hD0.self (sz := s.heap.size)
  generalize hAe : va_A [(h0, .inr (8, [.ref s1, .ref s2, .ref s3, .ref s4, .ref s5, .ref s6, .int 65535, .null, .null])), (s2, .inr (1, [.ref bx, .int (-1), .int 3, .int 255]))] s.heap.size = A at hD ⊢
  have hA : ∀ q : Nat, s.heap.size ≤ q → A q := fun q h => by rw [← hAe]; exact Or.inr h
  have hS : va_S A s.heap s.heap [] := va_S.rf
  have hP : va_P D vwCl [(h0, .inr (8, [.ref s1, .ref s2, .ref s3, .ref s4, .ref s5, .ref s6, .int 65535, .null, .null])), (s2, .inr (1, [.ref bx, .int (-1), .int 3, .int 255]))] s.heap := hP
  have hl := lv_entry ([.ref h0, .int n]) (n := 2) (Nat.le_of_ble_eq_true rfl)
  rw [lg_entry_eq]
  generalize (lg_sl ([.ref h0, .int n]) ++ List.replicate (2 - (lg_sl ([.ref h0, .int n])).length) Slot.unset).toArray = ls at hl ⊢
  have hl : lv_has ls 2 [(0, .ref h0), (1, .int n)] := hl
  refine lv_aload_n hx hb dX8_ink_0 rfl (lv_at hl 0 rfl) ?_
  refine va_get (D := D) (ci := 8) (v := .ref s2) (C := RX8) (T := TX8) (N := 9) hx hb hts hi_X8 hown hK hP 0 rfl rfl 1 (by decide) (hts _ bw_73) (fun _ h9 => h9) rfl dX8_ink_1 ?_
  refine lv_iload_n hx hb dX8_ink_4 rfl (lv_at hl 1 rfl) ?_
  have hPc := hP.sub (ws' := []) [] rfl
  have hDc := hD.sub (ws' := []) [] (by decide) rfl
  have hKc := hK.sub (tys' := []) [] rfl
  have hFc := va_free (wc := []) hD hS hA [] rfl
  refine va_calli (va_runS (As := [.int n]) (rest := [.ref s2]) ⟨hx, hb, hml, hown, hts⟩ (k_X8_inkOf l D s.heap.size n) (va_cwS 1 hts (gS bw_134 bw_135 bw_1 bw_133) rfl rfl rfl (by decide +kernel) ⟨Nat.le_of_ble_eq_true rfl, Nat.le_of_ble_eq_true rfl⟩) ⟨cP_blind, cP_at hPc hKc hDc hN⟩ rfl rfl hl.1 rfl (lv_room (Nat.le_of_ble_eq_true rfl)) dX8_ink_5 ⟨Nat.le_of_ble_eq_true rfl, Nat.le_of_ble_eq_true rfl⟩) hS (fun q _ h => hFc q h) hFc (fun r_1 u9 t9 H1 locs ht hvm hr_1 hB hz1 hk1 hS => ?_)
  try dsimp only at hr_1
  have hP1 : va_P D vwCl [] H1 := vP_nil
  have hD1 : va_D (va_A [] s.heap.size) [] := vD_nil
  obtain ⟨hP, hD⟩ := va_join (wr := [(h0, .inr (8, [.ref s1, .ref s2, .ref s3, .ref s4, .ref s5, .ref s6, .int 65535, .null, .null])), (s2, .inr (1, [.ref bx, .int (-1), .int 3, .int 255]))]) (w1 := []) hP hD [] [0, 1] rfl rfl (by decide) (by decide) hk1 hFc hP1 hD1
  clear hz1 hk1 hFc hKc hDc hPc
  generalize H1 = H at hP hS ⊢
  have hP : va_P D vwCl [(h0, .inr (8, [.ref s1, .ref s2, .ref s3, .ref s4, .ref s5, .ref s6, .int 65535, .null, .null])), (s2, .inr (1, [.ref bx, .int (-1), .int 3, .int 255]))] H := hP
  have hD : va_D A [(h0, .inr (8, [.ref s1, .ref s2, .ref s3, .ref s4, .ref s5, .ref s6, .int 65535, .null, .null])), (s2, .inr (1, [.ref bx, .int (-1), .int 3, .int 255]))] := hD
  refine va_putN (host := RX8) (D := D) (ci := 1) (v := .int r_1) (ty := .int) (C := RX1) (T := TX1) (N := 4) hx hb hts hi_X1 tyX1 tyX1_ok nmX1 hown hK hP hD hS 1 rfl rfl 1 (by decide) ((hN.1 (RX8, 76, "DotBench$Brush", "ink", "I", RX8) (by decide +kernel)).use rfl) (fun _ h9 => h9) rfl (by decide +kernel) rfl rfl (Nat.le_of_ble_eq_true rfl) dX8_ink_8 (fun H locs hP hD hS => ?_)
  have hP : va_P D vwCl [(h0, .inr (8, [.ref s1, .ref s2, .ref s3, .ref s4, .ref s5, .ref s6, .int 65535, .null, .null])), (s2, .inr (1, [.ref bx, .int r_1, .int 3, .int 255]))] H := hP
  have hD : va_D A [(h0, .inr (8, [.ref s1, .ref s2, .ref s3, .ref s4, .ref s5, .ref s6, .int 65535, .null, .null])), (s2, .inr (1, [.ref bx, .int r_1, .int 3, .int 255]))] := hD
  exact W.vret hx hb hr (fun t ht hW => ⟨⟨(), rfl, trivial, trivial⟩, hS.F ht⟩) hS.2.2 dX8_ink_11

set_option maxHeartbeats 4000000 in
set_option maxRecDepth 100000 in
theorem k_X8_way (l : Launch) (D : va_G) (sz : Nat) (h0 s1 s2 s3 s4 s5 s6 bx : Nat) (w o : Int32) : Met l yX8_way (wB yX8_way cX8_way 3 (some .boolean)) ({ frames := 1, cells := 0, slots := 0, locals := 22 }) (cP D [(h0, .inr (8, [.ref s1, .ref s2, .ref s3, .ref s4, .ref s5, .ref s6, .int 65535, .null, .null])), (s2, .inr (1, [.ref bx, .int (-1), .int 3, .int 255]))] [] sz [.ref h0, .int w, .int o]) (va_Qi (fun (r : Int32) (_ : Unit) => r = if 0 ≤ w.toInt ∧ w.toInt ≤ 12 ∧ 0 ≤ o.toInt ∧ o.toInt ≤ 255 then 1 else 0) (fun (_ : Unit) (_ : State) => True) (va_A [(h0, .inr (8, [.ref s1, .ref s2, .ref s3, .ref s4, .ref s5, .ref s6, .int 65535, .null, .null])), (s2, .inr (1, [.ref bx, .int (-1), .int 3, .int 255]))] sz)) 0 0 (va_A [(h0, .inr (8, [.ref s1, .ref s2, .ref s3, .ref s4, .ref s5, .ref s6, .int 65535, .null, .null])), (s2, .inr (1, [.ref bx, .int (-1), .int 3, .int 255]))] sz) := by
  refine Met.ofW (cc := cX8_way) (maxL := 3) (ret := (some .boolean)) (by decide) rfl ?_
  intro p e s m args below meth c s₁ B hml hv
  obtain ⟨rfl, hsz, hP, hK, hD0, hN⟩ := hv
  have hx := B.exec
  have hb := B.bytes
  have hr := B.returns
  have hts0 := atoms_spec (ws := (wB yX8_way cX8_way 3 (some .boolean))) B.pre
  have hts : ∀ w ∈ bigW, w.before _ s = true := fun w h => hts0 w (List.mem_cons_of_mem _ h)
  have hown : s.vm.findClass RX8 = some m.cls := findClass_of_methodNamed B.named
  have hlocks := B.notSynchronized
  subst hsz
  have hD := hD0.self (sz := s.heap.size)
  generalize hAe : va_A [(h0, .inr (8, [.ref s1, .ref s2, .ref s3, .ref s4, .ref s5, .ref s6, .int 65535, .null, .null])), (s2, .inr (1, [.ref bx, .int (-1), .int 3, .int 255]))] s.heap.size = A at hD ⊢
  have hA : ∀ q : Nat, s.heap.size ≤ q → A q := fun q h => by rw [← hAe]; exact Or.inr h
  have hS : va_S A s.heap s.heap [] := va_S.rf
  have hP : va_P D vwCl [(h0, .inr (8, [.ref s1, .ref s2, .ref s3, .ref s4, .ref s5, .ref s6, .int 65535, .null, .null])), (s2, .inr (1, [.ref bx, .int (-1), .int 3, .int 255]))] s.heap := hP
  have hl := lv_entry ([.ref h0, .int w, .int o]) (n := 3) (Nat.le_of_ble_eq_true rfl)
  rw [lg_entry_eq]
  generalize (lg_sl ([.ref h0, .int w, .int o]) ++ List.replicate (3 - (lg_sl ([.ref h0, .int w, .int o])).length) Slot.unset).toArray = ls at hl ⊢
  have hl : lv_has ls 3 [(0, .ref h0), (1, .int w), (2, .int o)] := hl
  refine lv_iload_n hx hb dX8_way_0 rfl (lv_at hl 1 rfl) ?_
  refine lv_iconst (v := 0) hx hb dX8_way_1 (by decide) ?_
  refine lv_bipush (v := 12) hx hb dX8_way_2 (by decide) ?_
  have hPc := hP.sub (ws' := []) [] rfl
  have hDc := hD.sub (ws' := []) [] (by decide) rfl
  have hKc := hK.sub (tys' := []) [] rfl
  have hFc := va_free (wc := []) hD hS hA [] rfl
  refine va_calli (va_runS (As := [.int w, .int 0, .int 12]) (rest := []) ⟨hx, hb, hml, hown, hts⟩ (k_X8_isWithin l D s.heap.size w 0 12 0 12 (by decide) (by decide)) (va_cwS 3 hts (gS bw_2 bw_3 bw_1 bw_0) rfl rfl rfl (by decide +kernel) ⟨Nat.le_of_ble_eq_true rfl, Nat.le_of_ble_eq_true rfl⟩) ⟨cP_blind, cP_at hPc hKc hDc hN⟩ rfl rfl hl.1 rfl (lv_room (Nat.le_of_ble_eq_true rfl)) dX8_way_4 ⟨Nat.le_of_ble_eq_true rfl, Nat.le_of_ble_eq_true rfl⟩) hS (fun q _ h => hFc q h) hFc (fun r_1 u9 t9 H1 locs ht hvm hr_1 hB hz1 hk1 hS => ?_)
  try dsimp only at hr_1
  have hP1 : va_P D vwCl [] H1 := vP_nil
  have hD1 : va_D (va_A [] s.heap.size) [] := vD_nil
  obtain ⟨hP, hD⟩ := va_join (wr := [(h0, .inr (8, [.ref s1, .ref s2, .ref s3, .ref s4, .ref s5, .ref s6, .int 65535, .null, .null])), (s2, .inr (1, [.ref bx, .int (-1), .int 3, .int 255]))]) (w1 := []) hP hD [] [0, 1] rfl rfl (by decide) (by decide) hk1 hFc hP1 hD1
  clear hz1 hk1 hFc hKc hDc hPc
  generalize H1 = H at hP hS ⊢
  have hP : va_P D vwCl [(h0, .inr (8, [.ref s1, .ref s2, .ref s3, .ref s4, .ref s5, .ref s6, .int 65535, .null, .null])), (s2, .inr (1, [.ref bx, .int (-1), .int 3, .int 255]))] H := hP
  have hD : va_D A [(h0, .inr (8, [.ref s1, .ref s2, .ref s3, .ref s4, .ref s5, .ref s6, .int 65535, .null, .null])), (s2, .inr (1, [.ref bx, .int (-1), .int 3, .int 255]))] := hD
  refine lv_if_eq (tgt := 21) hx hb dX8_way_7 (by decide) (fun c_2 => ?_) (fun c_2 => ?_)
  · skip
    have f_3 := bz0 hr_1 c_2
    refine lv_iconst (v := 0) hx hb dX8_way_21 (by decide) ?_
    exact W.zret (v := 0) hx hb hr rfl (fun t ht hW => ⟨⟨0, (), rfl, (if_neg (by omega)).symm, trivial⟩, hS.F ht⟩) hS.2.2 dX8_way_22
  · skip
    have f_3 := bz1 hr_1 c_2
    refine lv_iload_n hx hb dX8_way_10 rfl (lv_at hl 2 rfl) ?_
    refine lv_iconst (v := 0) hx hb dX8_way_11 (by decide) ?_
    refine lv_sipush (v := 255) hx hb dX8_way_12 (by decide) ?_
    have hPc := hP.sub (ws' := []) [] rfl
    have hDc := hD.sub (ws' := []) [] (by decide) rfl
    have hKc := hK.sub (tys' := []) [] rfl
    have hFc := va_free (wc := []) hD hS hA [] rfl
    refine va_calli (va_runS (As := [.int o, .int 0, .int 255]) (rest := []) ⟨hx, hb, hml, hown, hts⟩ (k_X8_isWithin l D H.size o 0 255 0 255 (by decide) (by decide)) (va_cwS 3 hts (gS bw_2 bw_3 bw_1 bw_0) rfl rfl rfl (by decide +kernel) ⟨Nat.le_of_ble_eq_true rfl, Nat.le_of_ble_eq_true rfl⟩) ⟨cP_blind, cP_at hPc hKc hDc hN⟩ rfl rfl hl.1 rfl (lv_room (Nat.le_of_ble_eq_true rfl)) dX8_way_15 ⟨Nat.le_of_ble_eq_true rfl, Nat.le_of_ble_eq_true rfl⟩) hS (fun q _ h => hFc q h) hFc (fun r_4 u9 t9 H1 locs ht hvm hr_4 hB hz1 hk1 hS => ?_)
    try dsimp only at hr_4
    have hP1 : va_P D vwCl [] H1 := vP_nil
    have hD1 : va_D (va_A [] H.size) [] := vD_nil
    obtain ⟨hP, hD⟩ := va_join (wr := [(h0, .inr (8, [.ref s1, .ref s2, .ref s3, .ref s4, .ref s5, .ref s6, .int 65535, .null, .null])), (s2, .inr (1, [.ref bx, .int (-1), .int 3, .int 255]))]) (w1 := []) hP hD [] [0, 1] rfl rfl (by decide) (by decide) hk1 hFc hP1 hD1
    clear hz1 hk1 hFc hKc hDc hPc
    generalize H1 = H at hP hS ⊢
    have hP : va_P D vwCl [(h0, .inr (8, [.ref s1, .ref s2, .ref s3, .ref s4, .ref s5, .ref s6, .int 65535, .null, .null])), (s2, .inr (1, [.ref bx, .int (-1), .int 3, .int 255]))] H := hP
    have hD : va_D A [(h0, .inr (8, [.ref s1, .ref s2, .ref s3, .ref s4, .ref s5, .ref s6, .int 65535, .null, .null])), (s2, .inr (1, [.ref bx, .int (-1), .int 3, .int 255]))] := hD
    refine lv_if_ne (tgt := 23) hx hb dX8_way_18 (by decide) (fun c_5 => ?_) (fun c_5 => ?_)
    · skip
      have f_6 := bz1 hr_4 c_5
      refine lv_aload_n hx hb dX8_way_23 rfl (lv_at hl 0 rfl) ?_
      refine va_get (D := D) (ci := 8) (v := .ref s2) (C := RX8) (T := TX8) (N := 9) hx hb hts hi_X8 hown hK hP 0 rfl rfl 1 (by decide) (hts _ bw_73) (fun _ h9 => h9) rfl dX8_way_24 ?_
      refine lv_iload_n hx hb dX8_way_27 rfl (lv_at hl 1 rfl) ?_
      refine va_putN (host := RX8) (D := D) (ci := 1) (v := .int w) (ty := .int) (C := RX1) (T := TX1) (N := 4) hx hb hts hi_X1 tyX1 tyX1_ok nmX1 hown hK hP hD hS 1 rfl rfl 2 (by decide) ((hN.1 (RX8, 83, "DotBench$Brush", "way", "I", RX8) (by decide +kernel)).use rfl) (fun _ h9 => h9) rfl (by decide +kernel) rfl rfl (Nat.le_of_ble_eq_true rfl) dX8_way_28 (fun H locs hP hD hS => ?_)
      have hP : va_P D vwCl [(h0, .inr (8, [.ref s1, .ref s2, .ref s3, .ref s4, .ref s5, .ref s6, .int 65535, .null, .null])), (s2, .inr (1, [.ref bx, .int (-1), .int w, .int 255]))] H := hP
      have hD : va_D A [(h0, .inr (8, [.ref s1, .ref s2, .ref s3, .ref s4, .ref s5, .ref s6, .int 65535, .null, .null])), (s2, .inr (1, [.ref bx, .int (-1), .int w, .int 255]))] := hD
      refine lv_aload_n hx hb dX8_way_31 rfl (lv_at hl 0 rfl) ?_
      refine va_get (D := D) (ci := 8) (v := .ref s2) (C := RX8) (T := TX8) (N := 9) hx hb hts hi_X8 hown hK hP 0 rfl rfl 1 (by decide) (hts _ bw_73) (fun _ h9 => h9) rfl dX8_way_32 ?_
      refine lv_iload_n hx hb dX8_way_35 rfl (lv_at hl 2 rfl) ?_
      refine va_putN (host := RX8) (D := D) (ci := 1) (v := .int o) (ty := .int) (C := RX1) (T := TX1) (N := 4) hx hb hts hi_X1 tyX1 tyX1_ok nmX1 hown hK hP hD hS 1 rfl rfl 3 (by decide) ((hN.1 (RX8, 86, "DotBench$Brush", "opacity", "I", RX8) (by decide +kernel)).use rfl) (fun _ h9 => h9) rfl (by decide +kernel) rfl rfl (Nat.le_of_ble_eq_true rfl) dX8_way_36 (fun H locs hP hD hS => ?_)
      have hP : va_P D vwCl [(h0, .inr (8, [.ref s1, .ref s2, .ref s3, .ref s4, .ref s5, .ref s6, .int 65535, .null, .null])), (s2, .inr (1, [.ref bx, .int (-1), .int w, .int o]))] H := hP
      have hD : va_D A [(h0, .inr (8, [.ref s1, .ref s2, .ref s3, .ref s4, .ref s5, .ref s6, .int 65535, .null, .null])), (s2, .inr (1, [.ref bx, .int (-1), .int w, .int o]))] := hD
      refine lv_iconst (v := 1) hx hb dX8_way_39 (by decide) ?_
      exact W.zret (v := 1) hx hb hr rfl (fun t ht hW => ⟨⟨1, (), rfl, (if_pos (by omega)).symm, trivial⟩, hS.F ht⟩) hS.2.2 dX8_way_40
    · skip
      have f_6 := bz0 hr_4 c_5
      refine lv_iconst (v := 0) hx hb dX8_way_21 (by decide) ?_
      exact W.zret (v := 0) hx hb hr rfl (fun t ht hW => ⟨⟨0, (), rfl, (if_neg (by omega)).symm, trivial⟩, hS.F ht⟩) hS.2.2 dX8_way_22

set_option maxHeartbeats 4000000 in
set_option maxRecDepth 100000 in
theorem k_X8_clip (l : Launch) (D : va_G) (sz : Nat) (h0 s1 s2 s3 s4 s5 s6 bx : Nat) (x y z w : Int32) : Met l yX8_clip (wB yX8_clip cX8_clip 5 none) ({ frames := 1, cells := 0, slots := 0, locals := 24 }) (cP D [(h0, .inr (8, [.ref s1, .ref s2, .ref s3, .ref s4, .ref s5, .ref s6, .int 65535, .null, .null])), (s2, .inr (1, [.ref bx, .int (-1), .int 3, .int 255])), (bx, .inr (0, [.int 0, .int 0, .int 63, .int 63]))] [] sz [.ref h0, .int x, .int y, .int z, .int w]) (va_Qv (fun (_ : Unit) => True) (fun (_ : Unit) (_ : State) => True) (va_A [(h0, .inr (8, [.ref s1, .ref s2, .ref s3, .ref s4, .ref s5, .ref s6, .int 65535, .null, .null])), (s2, .inr (1, [.ref bx, .int (-1), .int 3, .int 255])), (bx, .inr (0, [.int 0, .int 0, .int 63, .int 63]))] sz)) 0 0 (va_A [(h0, .inr (8, [.ref s1, .ref s2, .ref s3, .ref s4, .ref s5, .ref s6, .int 65535, .null, .null])), (s2, .inr (1, [.ref bx, .int (-1), .int 3, .int 255])), (bx, .inr (0, [.int 0, .int 0, .int 63, .int 63]))] sz) := by
  refine Met.ofW (cc := cX8_clip) (maxL := 5) (ret := none) (by decide) rfl ?_
  intro p e s m args below meth c s₁ B hml hv
  obtain ⟨rfl, hsz, hP, hK, hD0, hN⟩ := hv
  have hx := B.exec
  have hb := B.bytes
  have hr := B.returns
  have hts0 := atoms_spec (ws := (wB yX8_clip cX8_clip 5 none)) B.pre
  have hts : ∀ w ∈ bigW, w.before _ s = true := fun w h => hts0 w (List.mem_cons_of_mem _ h)
  have hown : s.vm.findClass RX8 = some m.cls := findClass_of_methodNamed B.named
  have hlocks := B.notSynchronized
  subst hsz
  have hD := hD0.self (sz := s.heap.size)
  generalize hAe : va_A [(h0, .inr (8, [.ref s1, .ref s2, .ref s3, .ref s4, .ref s5, .ref s6, .int 65535, .null, .null])), (s2, .inr (1, [.ref bx, .int (-1), .int 3, .int 255])), (bx, .inr (0, [.int 0, .int 0, .int 63, .int 63]))] s.heap.size = A at hD ⊢
  have hA : ∀ q : Nat, s.heap.size ≤ q → A q := fun q h => by rw [← hAe]; exact Or.inr h
  have hS : va_S A s.heap s.heap [] := va_S.rf
  have hP : va_P D vwCl [(h0, .inr (8, [.ref s1, .ref s2, .ref s3, .ref s4, .ref s5, .ref s6, .int 65535, .null, .null])), (s2, .inr (1, [.ref bx, .int (-1), .int 3, .int 255])), (bx, .inr (0, [.int 0, .int 0, .int 63, .int 63]))] s.heap := hP
  have hl := lv_entry ([.ref h0, .int x, .int y, .int z, .int w]) (n := 5) (Nat.le_of_ble_eq_true rfl)
  rw [lg_entry_eq]
  generalize (lg_sl ([.ref h0, .int x, .int y, .int z, .int w]) ++ List.replicate (5 - (lg_sl ([.ref h0, .int x, .int y, .int z, .int w])).length) Slot.unset).toArray = ls at hl ⊢
  have hl : lv_has ls 5 [(0, .ref h0), (1, .int x), (2, .int y), (3, .int z), (4, .int w)] := hl
  refine lv_aload_n hx hb dX8_clip_0 rfl (lv_at hl 0 rfl) ?_
  refine va_get (D := D) (ci := 8) (v := .ref s2) (C := RX8) (T := TX8) (N := 9) hx hb hts hi_X8 hown hK hP 0 rfl rfl 1 (by decide) (hts _ bw_73) (fun _ h9 => h9) rfl dX8_clip_1 ?_
  refine va_getN (host := RX8) (D := D) (ci := 1) (v := .ref bx) (C := RX1) (T := TX1) (N := 4) hx hb hts hi_X1 hown hK hP 1 rfl rfl 0 (by decide) ((hN.1 (RX8, 89, "DotBench$Brush", "clip", "LDotBench$Box;", RX8) (by decide +kernel)).use rfl) (fun _ h9 => h9) rfl dX8_clip_4 ?_
  refine lv_iload_n hx hb dX8_clip_7 rfl (lv_at hl 1 rfl) ?_
  refine lv_iload_n hx hb dX8_clip_8 rfl (lv_at hl 2 rfl) ?_
  refine lv_iload_n hx hb dX8_clip_9 rfl (lv_at hl 3 rfl) ?_
  refine lv_iload hx hb dX8_clip_10 (lv_at hl 4 rfl) ?_
  have hPc := hP.sub (ws' := [(bx, .inr (0, [.int 0, .int 0, .int 63, .int 63]))]) [2] rfl
  have hDc := hD.sub (ws' := [(bx, .inr (0, [.int 0, .int 0, .int 63, .int 63]))]) [2] (by decide) rfl
  have hKc := hK.sub (tys' := []) [] rfl
  have hFc := va_free (wc := [(bx, .inr (0, [.int 0, .int 0, .int 63, .int 63]))]) hD hS hA [2] rfl
  refine va_callv (va_runV (As := [.int x, .int y, .int z, .int w]) (rest := []) ⟨hx, hb, hml, hown, hts⟩ (k_X0_bound l D s.heap.size bx x y z w) (cwV 4 hts (gV bw_137 bw_138 bw_139 bw_27 bw_136) rfl rfl rfl (by decide +kernel) ⟨Nat.le_of_ble_eq_true rfl, Nat.le_of_ble_eq_true rfl⟩) ⟨cP_blind, va_recv hKc hPc (ci := 0) (q0 := 0) rfl rfl, cP_at hPc hKc hDc hN⟩ rfl rfl hl.1 rfl (lv_room (Nat.le_of_ble_eq_true rfl)) dX8_clip_12 ⟨Nat.le_of_ble_eq_true rfl, Nat.le_of_ble_eq_true rfl⟩) hS (fun q _ h => hFc q h) hFc (fun u9 t9 H1 locs ht hvm hr_1 hB hz1 hk1 hS => ?_)
  try dsimp only at hr_1
  have hP1 : va_P D vwCl [] H1 := vP_nil
  have hD1 : va_D (va_A [(bx, .inr (0, [.int 0, .int 0, .int 63, .int 63]))] s.heap.size) [] := vD_nil
  obtain ⟨hP, hD⟩ := va_join (wr := [(h0, .inr (8, [.ref s1, .ref s2, .ref s3, .ref s4, .ref s5, .ref s6, .int 65535, .null, .null])), (s2, .inr (1, [.ref bx, .int (-1), .int 3, .int 255]))]) (w1 := []) hP hD [2] [0, 1] rfl rfl (by decide) (by decide) hk1 hFc hP1 hD1
  clear hz1 hk1 hFc hKc hDc hPc
  generalize H1 = H at hP hS ⊢
  have hP : va_P D vwCl [(h0, .inr (8, [.ref s1, .ref s2, .ref s3, .ref s4, .ref s5, .ref s6, .int 65535, .null, .null])), (s2, .inr (1, [.ref bx, .int (-1), .int 3, .int 255]))] H := hP
  have hD : va_D A [(h0, .inr (8, [.ref s1, .ref s2, .ref s3, .ref s4, .ref s5, .ref s6, .int 65535, .null, .null])), (s2, .inr (1, [.ref bx, .int (-1), .int 3, .int 255]))] := hD
  exact W.vret hx hb hr (fun t ht hW => ⟨⟨(), rfl, trivial, trivial⟩, hS.F ht⟩) hS.2.2 dX8_clip_15

set_option maxHeartbeats 4000000 in
set_option maxRecDepth 100000 in
theorem k_X8_dashes (l : Launch) (D : va_G) (sz : Nat) (h0 s1 s2 s3 s4 s5 s6 : Nat) (n : Int32) : Met l yX8_dashes (wB yX8_dashes cX8_dashes 2 none) ({ frames := 0, cells := 0, slots := 0, locals := 0 }) (cP D [(h0, .inr (8, [.ref s1, .ref s2, .ref s3, .ref s4, .ref s5, .ref s6, .int 65535, .null, .null]))] [] sz [.ref h0, .int n]) (va_Qv (fun (_ : Unit) => True) (fun (_ : Unit) (_ : State) => True) (va_A [(h0, .inr (8, [.ref s1, .ref s2, .ref s3, .ref s4, .ref s5, .ref s6, .int 65535, .null, .null]))] sz)) 0 0 (va_A [(h0, .inr (8, [.ref s1, .ref s2, .ref s3, .ref s4, .ref s5, .ref s6, .int 65535, .null, .null]))] sz) := by
  refine Met.ofW (cc := cX8_dashes) (maxL := 2) (ret := none) (by decide) rfl ?_
  intro p e s m args below meth c s₁ B hml hv
  obtain ⟨rfl, hsz, hP, hK, hD0, hN⟩ := hv
  have hx := B.exec
  have hb := B.bytes
  have hr := B.returns
  have hts0 := atoms_spec (ws := (wB yX8_dashes cX8_dashes 2 none)) B.pre
  have hts : ∀ w ∈ bigW, w.before _ s = true := fun w h => hts0 w (List.mem_cons_of_mem _ h)
  have hown : s.vm.findClass RX8 = some m.cls := findClass_of_methodNamed B.named
  have hlocks := B.notSynchronized
  subst hsz
  have hD := hD0.self (sz := s.heap.size)
  generalize hAe : va_A [(h0, .inr (8, [.ref s1, .ref s2, .ref s3, .ref s4, .ref s5, .ref s6, .int 65535, .null, .null]))] s.heap.size = A at hD ⊢
  have hA : ∀ q : Nat, s.heap.size ≤ q → A q := fun q h => by rw [← hAe]; exact Or.inr h
  have hS : va_S A s.heap s.heap [] := va_S.rf
  have hP : va_P D vwCl [(h0, .inr (8, [.ref s1, .ref s2, .ref s3, .ref s4, .ref s5, .ref s6, .int 65535, .null, .null]))] s.heap := hP
  have hl := lv_entry ([.ref h0, .int n]) (n := 2) (Nat.le_of_ble_eq_true rfl)
  rw [lg_entry_eq]
  generalize (lg_sl ([.ref h0, .int n]) ++ List.replicate (2 - (lg_sl ([.ref h0, .int n])).length) Slot.unset).toArray = ls at hl ⊢
  have hl : lv_has ls 2 [(0, .ref h0), (1, .int n)] := hl
  refine lv_aload_n hx hb dX8_dashes_0 rfl (lv_at hl 0 rfl) ?_
  refine lv_iload_n hx hb dX8_dashes_1 rfl (lv_at hl 1 rfl) ?_
  refine lv_ldc hx hb hown (hts _ bw_90) dX8_dashes_2 ?_
  refine lv_iand hx hb dX8_dashes_4 ?_
  refine lv_topi (fun y_1 ey_1 => ?_)
  refine va_put (D := D) (ci := 8) (v := .int y_1) (ty := .int) (C := RX8) (T := TX8) (N := 9) hx hb hts hi_X8 tyX8 tyX8_ok nmX8 hown hK hP hD hS 0 rfl rfl 6 (by decide) (hts _ bw_91) (fun _ h9 => h9) rfl (by decide +kernel) rfl rfl (Nat.le_of_ble_eq_true rfl) dX8_dashes_5 (fun H locs hP hD hS => ?_)
  have hP : va_P D vwCl [(h0, .inr (8, [.ref s1, .ref s2, .ref s3, .ref s4, .ref s5, .ref s6, .int y_1, .null, .null]))] H := hP
  have hD : va_D A [(h0, .inr (8, [.ref s1, .ref s2, .ref s3, .ref s4, .ref s5, .ref s6, .int y_1, .null, .null]))] := hD
  exact W.vret hx hb hr (fun t ht hW => ⟨⟨(), rfl, trivial, trivial⟩, hS.F ht⟩) hS.2.2 dX8_dashes_8

set_option maxHeartbeats 4000000 in
set_option maxRecDepth 100000 in
theorem k_X8_line (l : Launch) (D : va_G) (sz : Nat) (h0 s1 s2 s3 s4 s5 s6 : Nat) (ca : ClassId) (a1 a2 a3 a4 a5 : Int32) : Met l yX8_line (wB yX8_line cX8_line 16 (some .int)) ({ frames := 1, cells := 0, slots := 0, locals := 21 }) (cP D [(h0, .inr (8, [.ref s1, .ref s2, .ref s3, .ref s4, .ref s5, .ref s6, .int 65535, .null, .null])), (s1, .inl (ca, 4, .inr (.inr (.inr (.inr (fun _ => none))))))] [(ca, .object "DotBench$Sheet")] sz [.ref h0, .int a1, .int a2, .int a3, .int a4, .int a5]) (va_Qi (fun (r : Int32) (_ : Unit) => r = -1) (fun (_ : Unit) (_ : State) => True) (va_A [(h0, .inr (8, [.ref s1, .ref s2, .ref s3, .ref s4, .ref s5, .ref s6, .int 65535, .null, .null])), (s1, .inl (ca, 4, .inr (.inr (.inr (.inr (fun _ => none))))))] sz)) 0 0 (va_A [(h0, .inr (8, [.ref s1, .ref s2, .ref s3, .ref s4, .ref s5, .ref s6, .int 65535, .null, .null])), (s1, .inl (ca, 4, .inr (.inr (.inr (.inr (fun _ => none))))))] sz) := by
  refine Met.ofW (cc := cX8_line) (maxL := 16) (ret := (some .int)) (by decide) rfl ?_
  intro p e s m args below meth c s₁ B hml hv
  obtain ⟨rfl, hsz, hP, hK, hD0, hN⟩ := hv
  have hx := B.exec
  have hb := B.bytes
  have hr := B.returns
  have hts0 := atoms_spec (ws := (wB yX8_line cX8_line 16 (some .int))) B.pre
  have hts : ∀ w ∈ bigW, w.before _ s = true := fun w h => hts0 w (List.mem_cons_of_mem _ h)
  have hown : s.vm.findClass RX8 = some m.cls := findClass_of_methodNamed B.named
  have hlocks := B.notSynchronized
  subst hsz
  have hD := hD0.self (sz := s.heap.size)
  generalize hAe : va_A [(h0, .inr (8, [.ref s1, .ref s2, .ref s3, .ref s4, .ref s5, .ref s6, .int 65535, .null, .null])), (s1, .inl (ca, 4, .inr (.inr (.inr (.inr (fun _ => none))))))] s.heap.size = A at hD ⊢
  have hA : ∀ q : Nat, s.heap.size ≤ q → A q := fun q h => by rw [← hAe]; exact Or.inr h
  have hS : va_S A s.heap s.heap [] := va_S.rf
  have hP : va_P D vwCl [(h0, .inr (8, [.ref s1, .ref s2, .ref s3, .ref s4, .ref s5, .ref s6, .int 65535, .null, .null])), (s1, .inl (ca, 4, .inr (.inr (.inr (.inr (fun _ => none))))))] s.heap := hP
  have hl := lv_entry ([.ref h0, .int a1, .int a2, .int a3, .int a4, .int a5]) (n := 16) (Nat.le_of_ble_eq_true rfl)
  rw [lg_entry_eq]
  generalize (lg_sl ([.ref h0, .int a1, .int a2, .int a3, .int a4, .int a5]) ++ List.replicate (16 - (lg_sl ([.ref h0, .int a1, .int a2, .int a3, .int a4, .int a5])).length) Slot.unset).toArray = ls at hl ⊢
  have hl : lv_has ls 16 [(0, .ref h0), (1, .int a1), (2, .int a2), (3, .int a3), (4, .int a4), (5, .int a5)] := hl
  refine lv_aload_n hx hb dX8_line_0 rfl (lv_at hl 0 rfl) ?_
  refine lv_iload_n hx hb dX8_line_1 rfl (lv_at hl 1 rfl) ?_
  have hPc := hP.sub (ws' := [(h0, .inr (8, [.ref s1, .ref s2, .ref s3, .ref s4, .ref s5, .ref s6, .int 65535, .null, .null])), (s1, .inl (ca, 4, .inr (.inr (.inr (.inr (fun _ => none))))))]) [0, 1] rfl
  have hDc := hD.sub (ws' := [(h0, .inr (8, [.ref s1, .ref s2, .ref s3, .ref s4, .ref s5, .ref s6, .int 65535, .null, .null])), (s1, .inl (ca, 4, .inr (.inr (.inr (.inr (fun _ => none))))))]) [0, 1] (by decide) rfl
  have hKc := hK.sub (tys' := [(ca, .object "DotBench$Sheet")]) [0] rfl
  have hFc := va_free (wc := [(h0, .inr (8, [.ref s1, .ref s2, .ref s3, .ref s4, .ref s5, .ref s6, .int 65535, .null, .null])), (s1, .inl (ca, 4, .inr (.inr (.inr (.inr (fun _ => none))))))]) hD hS hA [0, 1] rfl
  refine va_callq (va_runV (As := [.int a1]) (rest := []) ⟨hx, hb, hml, hown, hts⟩ (k_X8_sheetAt l D s.heap.size h0 s1 s2 s3 s4 s5 s6 ca a1) (cwV 1 hts (gV bw_115 bw_116 bw_117 bw_1 bw_114) rfl rfl rfl (by decide +kernel) ⟨Nat.le_of_ble_eq_true rfl, Nat.le_of_ble_eq_true rfl⟩) ⟨cP_blind, va_recv hKc hPc (ci := 8) (q0 := 0) rfl rfl, cP_at hPc hKc hDc hN⟩ rfl rfl hl.1 rfl (lv_room (Nat.le_of_ble_eq_true rfl)) dX8_line_2 ⟨Nat.le_of_ble_eq_true rfl, Nat.le_of_ble_eq_true rfl⟩) hS (fun q _ h => hFc q h) hFc (fun r_1 u9 t9 H1 locs ht hvm hr_1 hB hz1 hk1 hS => ?_)
  try dsimp only at hr_1
  obtain ⟨hP1, hK1, hD1⟩ := hB
  rw [ht] at hP1
  obtain ⟨hP, hD⟩ := va_join (wr := []) (w1 := [(h0, .inr (8, [.ref s1, .ref s2, .ref s3, .ref s4, .ref s5, .ref s6, .int 65535, .null, .null])), (s1, .inl (ca, 4, .inr (.inr (.inr (.inr (fun _ => none))))))]) hP hD [0, 1] [] rfl rfl (by decide) (by decide) hk1 hFc hP1 hD1
  clear hz1 hk1 hFc hKc hDc hPc
  generalize H1 = H at hP hS ⊢
  have hP : va_P D vwCl [(h0, .inr (8, [.ref s1, .ref s2, .ref s3, .ref s4, .ref s5, .ref s6, .int 65535, .null, .null])), (s1, .inl (ca, 4, .inr (.inr (.inr (.inr (fun _ => none))))))] H := hP
  have hD : va_D A [(h0, .inr (8, [.ref s1, .ref s2, .ref s3, .ref s4, .ref s5, .ref s6, .int 65535, .null, .null])), (s1, .inl (ca, 4, .inr (.inr (.inr (.inr (fun _ => none))))))] := hD
  subst hr_1
  refine my_topv (v := .null) rfl ?_
  refine lv_astoreN (lv' := [(6, .null), (0, .ref h0), (1, .int a1), (2, .int a2), (3, .int a3), (4, .int a4), (5, .int a5)]) hx hb dX8_line_5 hl (by decide) rfl (fun ls hl => ?_)
  refine lv_aloadN hx hb dX8_line_7 (lv_at hl 0 rfl) ?_
  refine lv_ifnullN (tgt := 54) hx hb dX8_line_9 (by decide) ?_
  refine lv_iconst (v := (-1)) hx hb dX8_line_54 (by decide) ?_
  exact W.iret (v := (-1)) hx hb hr (fun t ht hW => ⟨⟨(-1), (), rfl, rfl, trivial⟩, hS.F ht⟩) hS.2.2 dX8_line_55

set_option maxHeartbeats 4000000 in
set_option maxRecDepth 100000 in
theorem k_X8_circle (l : Launch) (D : va_G) (sz : Nat) (h0 s1 s2 s3 s4 s5 s6 : Nat) (ca : ClassId) (a1 a2 a3 a4 : Int32) : Met l yX8_circle (wB yX8_circle cX8_circle 9 (some .int)) ({ frames := 1, cells := 0, slots := 0, locals := 21 }) (cP D [(h0, .inr (8, [.ref s1, .ref s2, .ref s3, .ref s4, .ref s5, .ref s6, .int 65535, .null, .null])), (s1, .inl (ca, 4, .inr (.inr (.inr (.inr (fun _ => none))))))] [(ca, .object "DotBench$Sheet")] sz [.ref h0, .int a1, .int a2, .int a3, .int a4]) (va_Qi (fun (r : Int32) (_ : Unit) => r = -1) (fun (_ : Unit) (_ : State) => True) (va_A [(h0, .inr (8, [.ref s1, .ref s2, .ref s3, .ref s4, .ref s5, .ref s6, .int 65535, .null, .null])), (s1, .inl (ca, 4, .inr (.inr (.inr (.inr (fun _ => none))))))] sz)) 0 0 (va_A [(h0, .inr (8, [.ref s1, .ref s2, .ref s3, .ref s4, .ref s5, .ref s6, .int 65535, .null, .null])), (s1, .inl (ca, 4, .inr (.inr (.inr (.inr (fun _ => none))))))] sz) := by
  refine Met.ofW (cc := cX8_circle) (maxL := 9) (ret := (some .int)) (by decide) rfl ?_
  intro p e s m args below meth c s₁ B hml hv
  obtain ⟨rfl, hsz, hP, hK, hD0, hN⟩ := hv
  have hx := B.exec
  have hb := B.bytes
  have hr := B.returns
  have hts0 := atoms_spec (ws := (wB yX8_circle cX8_circle 9 (some .int))) B.pre
  have hts : ∀ w ∈ bigW, w.before _ s = true := fun w h => hts0 w (List.mem_cons_of_mem _ h)
  have hown : s.vm.findClass RX8 = some m.cls := findClass_of_methodNamed B.named
  have hlocks := B.notSynchronized
  subst hsz
  have hD := hD0.self (sz := s.heap.size)
  generalize hAe : va_A [(h0, .inr (8, [.ref s1, .ref s2, .ref s3, .ref s4, .ref s5, .ref s6, .int 65535, .null, .null])), (s1, .inl (ca, 4, .inr (.inr (.inr (.inr (fun _ => none))))))] s.heap.size = A at hD ⊢
  have hA : ∀ q : Nat, s.heap.size ≤ q → A q := fun q h => by rw [← hAe]; exact Or.inr h
  have hS : va_S A s.heap s.heap [] := va_S.rf
  have hP : va_P D vwCl [(h0, .inr (8, [.ref s1, .ref s2, .ref s3, .ref s4, .ref s5, .ref s6, .int 65535, .null, .null])), (s1, .inl (ca, 4, .inr (.inr (.inr (.inr (fun _ => none))))))] s.heap := hP
  have hl := lv_entry ([.ref h0, .int a1, .int a2, .int a3, .int a4]) (n := 9) (Nat.le_of_ble_eq_true rfl)
  rw [lg_entry_eq]
  generalize (lg_sl ([.ref h0, .int a1, .int a2, .int a3, .int a4]) ++ List.replicate (9 - (lg_sl ([.ref h0, .int a1, .int a2, .int a3, .int a4])).length) Slot.unset).toArray = ls at hl ⊢
  have hl : lv_has ls 9 [(0, .ref h0), (1, .int a1), (2, .int a2), (3, .int a3), (4, .int a4)] := hl
  refine lv_aload_n hx hb dX8_circle_0 rfl (lv_at hl 0 rfl) ?_
  refine lv_iload_n hx hb dX8_circle_1 rfl (lv_at hl 1 rfl) ?_
  have hPc := hP.sub (ws' := [(h0, .inr (8, [.ref s1, .ref s2, .ref s3, .ref s4, .ref s5, .ref s6, .int 65535, .null, .null])), (s1, .inl (ca, 4, .inr (.inr (.inr (.inr (fun _ => none))))))]) [0, 1] rfl
  have hDc := hD.sub (ws' := [(h0, .inr (8, [.ref s1, .ref s2, .ref s3, .ref s4, .ref s5, .ref s6, .int 65535, .null, .null])), (s1, .inl (ca, 4, .inr (.inr (.inr (.inr (fun _ => none))))))]) [0, 1] (by decide) rfl
  have hKc := hK.sub (tys' := [(ca, .object "DotBench$Sheet")]) [0] rfl
  have hFc := va_free (wc := [(h0, .inr (8, [.ref s1, .ref s2, .ref s3, .ref s4, .ref s5, .ref s6, .int 65535, .null, .null])), (s1, .inl (ca, 4, .inr (.inr (.inr (.inr (fun _ => none))))))]) hD hS hA [0, 1] rfl
  refine va_callq (va_runV (As := [.int a1]) (rest := []) ⟨hx, hb, hml, hown, hts⟩ (k_X8_sheetAt l D s.heap.size h0 s1 s2 s3 s4 s5 s6 ca a1) (cwV 1 hts (gV bw_115 bw_116 bw_117 bw_1 bw_114) rfl rfl rfl (by decide +kernel) ⟨Nat.le_of_ble_eq_true rfl, Nat.le_of_ble_eq_true rfl⟩) ⟨cP_blind, va_recv hKc hPc (ci := 8) (q0 := 0) rfl rfl, cP_at hPc hKc hDc hN⟩ rfl rfl hl.1 rfl (lv_room (Nat.le_of_ble_eq_true rfl)) dX8_circle_2 ⟨Nat.le_of_ble_eq_true rfl, Nat.le_of_ble_eq_true rfl⟩) hS (fun q _ h => hFc q h) hFc (fun r_1 u9 t9 H1 locs ht hvm hr_1 hB hz1 hk1 hS => ?_)
  try dsimp only at hr_1
  obtain ⟨hP1, hK1, hD1⟩ := hB
  rw [ht] at hP1
  obtain ⟨hP, hD⟩ := va_join (wr := []) (w1 := [(h0, .inr (8, [.ref s1, .ref s2, .ref s3, .ref s4, .ref s5, .ref s6, .int 65535, .null, .null])), (s1, .inl (ca, 4, .inr (.inr (.inr (.inr (fun _ => none))))))]) hP hD [0, 1] [] rfl rfl (by decide) (by decide) hk1 hFc hP1 hD1
  clear hz1 hk1 hFc hKc hDc hPc
  generalize H1 = H at hP hS ⊢
  have hP : va_P D vwCl [(h0, .inr (8, [.ref s1, .ref s2, .ref s3, .ref s4, .ref s5, .ref s6, .int 65535, .null, .null])), (s1, .inl (ca, 4, .inr (.inr (.inr (.inr (fun _ => none))))))] H := hP
  have hD : va_D A [(h0, .inr (8, [.ref s1, .ref s2, .ref s3, .ref s4, .ref s5, .ref s6, .int 65535, .null, .null])), (s1, .inl (ca, 4, .inr (.inr (.inr (.inr (fun _ => none))))))] := hD
  subst hr_1
  refine my_topv (v := .null) rfl ?_
  refine lv_astoreN (lv' := [(5, .null), (0, .ref h0), (1, .int a1), (2, .int a2), (3, .int a3), (4, .int a4)]) hx hb dX8_circle_5 hl (by decide) rfl (fun ls hl => ?_)
  refine lv_aloadN hx hb dX8_circle_7 (lv_at hl 0 rfl) ?_
  refine lv_ifnullN (tgt := 44) hx hb dX8_circle_9 (by decide) ?_
  refine lv_iconst (v := (-1)) hx hb dX8_circle_44 (by decide) ?_
  exact W.iret (v := (-1)) hx hb hr (fun t ht hW => ⟨⟨(-1), (), rfl, rfl, trivial⟩, hS.F ht⟩) hS.2.2 dX8_circle_45

set_option maxHeartbeats 4000000 in
set_option maxRecDepth 100000 in
theorem k_X8_fill (l : Launch) (D : va_G) (sz : Nat) (h0 s1 s2 s3 s4 s5 s6 : Nat) (ca : ClassId) (a1 a2 a3 : Int32) : Met l yX8_fill (wB yX8_fill cX8_fill 10 (some .int)) ({ frames := 1, cells := 0, slots := 0, locals := 21 }) (cP D [(h0, .inr (8, [.ref s1, .ref s2, .ref s3, .ref s4, .ref s5, .ref s6, .int 65535, .null, .null])), (s1, .inl (ca, 4, .inr (.inr (.inr (.inr (fun _ => none))))))] [(ca, .object "DotBench$Sheet")] sz [.ref h0, .int a1, .int a2, .int a3]) (va_Qi (fun (r : Int32) (_ : Unit) => r = -1) (fun (_ : Unit) (_ : State) => True) (va_A [(h0, .inr (8, [.ref s1, .ref s2, .ref s3, .ref s4, .ref s5, .ref s6, .int 65535, .null, .null])), (s1, .inl (ca, 4, .inr (.inr (.inr (.inr (fun _ => none))))))] sz)) 0 0 (va_A [(h0, .inr (8, [.ref s1, .ref s2, .ref s3, .ref s4, .ref s5, .ref s6, .int 65535, .null, .null])), (s1, .inl (ca, 4, .inr (.inr (.inr (.inr (fun _ => none))))))] sz) := by
  refine Met.ofW (cc := cX8_fill) (maxL := 10) (ret := (some .int)) (by decide) rfl ?_
  intro p e s m args below meth c s₁ B hml hv
  obtain ⟨rfl, hsz, hP, hK, hD0, hN⟩ := hv
  have hx := B.exec
  have hb := B.bytes
  have hr := B.returns
  have hts0 := atoms_spec (ws := (wB yX8_fill cX8_fill 10 (some .int))) B.pre
  have hts : ∀ w ∈ bigW, w.before _ s = true := fun w h => hts0 w (List.mem_cons_of_mem _ h)
  have hown : s.vm.findClass RX8 = some m.cls := findClass_of_methodNamed B.named
  have hlocks := B.notSynchronized
  subst hsz
  have hD := hD0.self (sz := s.heap.size)
  generalize hAe : va_A [(h0, .inr (8, [.ref s1, .ref s2, .ref s3, .ref s4, .ref s5, .ref s6, .int 65535, .null, .null])), (s1, .inl (ca, 4, .inr (.inr (.inr (.inr (fun _ => none))))))] s.heap.size = A at hD ⊢
  have hA : ∀ q : Nat, s.heap.size ≤ q → A q := fun q h => by rw [← hAe]; exact Or.inr h
  have hS : va_S A s.heap s.heap [] := va_S.rf
  have hP : va_P D vwCl [(h0, .inr (8, [.ref s1, .ref s2, .ref s3, .ref s4, .ref s5, .ref s6, .int 65535, .null, .null])), (s1, .inl (ca, 4, .inr (.inr (.inr (.inr (fun _ => none))))))] s.heap := hP
  have hl := lv_entry ([.ref h0, .int a1, .int a2, .int a3]) (n := 10) (Nat.le_of_ble_eq_true rfl)
  rw [lg_entry_eq]
  generalize (lg_sl ([.ref h0, .int a1, .int a2, .int a3]) ++ List.replicate (10 - (lg_sl ([.ref h0, .int a1, .int a2, .int a3])).length) Slot.unset).toArray = ls at hl ⊢
  have hl : lv_has ls 10 [(0, .ref h0), (1, .int a1), (2, .int a2), (3, .int a3)] := hl
  refine lv_aload_n hx hb dX8_fill_0 rfl (lv_at hl 0 rfl) ?_
  refine lv_iload_n hx hb dX8_fill_1 rfl (lv_at hl 1 rfl) ?_
  have hPc := hP.sub (ws' := [(h0, .inr (8, [.ref s1, .ref s2, .ref s3, .ref s4, .ref s5, .ref s6, .int 65535, .null, .null])), (s1, .inl (ca, 4, .inr (.inr (.inr (.inr (fun _ => none))))))]) [0, 1] rfl
  have hDc := hD.sub (ws' := [(h0, .inr (8, [.ref s1, .ref s2, .ref s3, .ref s4, .ref s5, .ref s6, .int 65535, .null, .null])), (s1, .inl (ca, 4, .inr (.inr (.inr (.inr (fun _ => none))))))]) [0, 1] (by decide) rfl
  have hKc := hK.sub (tys' := [(ca, .object "DotBench$Sheet")]) [0] rfl
  have hFc := va_free (wc := [(h0, .inr (8, [.ref s1, .ref s2, .ref s3, .ref s4, .ref s5, .ref s6, .int 65535, .null, .null])), (s1, .inl (ca, 4, .inr (.inr (.inr (.inr (fun _ => none))))))]) hD hS hA [0, 1] rfl
  refine va_callq (va_runV (As := [.int a1]) (rest := []) ⟨hx, hb, hml, hown, hts⟩ (k_X8_sheetAt l D s.heap.size h0 s1 s2 s3 s4 s5 s6 ca a1) (cwV 1 hts (gV bw_115 bw_116 bw_117 bw_1 bw_114) rfl rfl rfl (by decide +kernel) ⟨Nat.le_of_ble_eq_true rfl, Nat.le_of_ble_eq_true rfl⟩) ⟨cP_blind, va_recv hKc hPc (ci := 8) (q0 := 0) rfl rfl, cP_at hPc hKc hDc hN⟩ rfl rfl hl.1 rfl (lv_room (Nat.le_of_ble_eq_true rfl)) dX8_fill_2 ⟨Nat.le_of_ble_eq_true rfl, Nat.le_of_ble_eq_true rfl⟩) hS (fun q _ h => hFc q h) hFc (fun r_1 u9 t9 H1 locs ht hvm hr_1 hB hz1 hk1 hS => ?_)
  try dsimp only at hr_1
  obtain ⟨hP1, hK1, hD1⟩ := hB
  rw [ht] at hP1
  obtain ⟨hP, hD⟩ := va_join (wr := []) (w1 := [(h0, .inr (8, [.ref s1, .ref s2, .ref s3, .ref s4, .ref s5, .ref s6, .int 65535, .null, .null])), (s1, .inl (ca, 4, .inr (.inr (.inr (.inr (fun _ => none))))))]) hP hD [0, 1] [] rfl rfl (by decide) (by decide) hk1 hFc hP1 hD1
  clear hz1 hk1 hFc hKc hDc hPc
  generalize H1 = H at hP hS ⊢
  have hP : va_P D vwCl [(h0, .inr (8, [.ref s1, .ref s2, .ref s3, .ref s4, .ref s5, .ref s6, .int 65535, .null, .null])), (s1, .inl (ca, 4, .inr (.inr (.inr (.inr (fun _ => none))))))] H := hP
  have hD : va_D A [(h0, .inr (8, [.ref s1, .ref s2, .ref s3, .ref s4, .ref s5, .ref s6, .int 65535, .null, .null])), (s1, .inl (ca, 4, .inr (.inr (.inr (.inr (fun _ => none))))))] := hD
  subst hr_1
  refine my_topv (v := .null) rfl ?_
  refine lv_astoreN (lv' := [(4, .null), (0, .ref h0), (1, .int a1), (2, .int a2), (3, .int a3)]) hx hb dX8_fill_5 hl (by decide) rfl (fun ls hl => ?_)
  refine lv_aloadN hx hb dX8_fill_7 (lv_at hl 0 rfl) ?_
  refine lv_ifnullN (tgt := 19) hx hb dX8_fill_9 (by decide) ?_
  refine lv_iconst (v := (-1)) hx hb dX8_fill_19 (by decide) ?_
  exact W.iret (v := (-1)) hx hb hr (fun t ht hW => ⟨⟨(-1), (), rfl, rfl, trivial⟩, hS.F ht⟩) hS.2.2 dX8_fill_20

set_option maxHeartbeats 4000000 in
set_option maxRecDepth 100000 in
theorem k_X8_shade (l : Launch) (D : va_G) (sz : Nat) (h0 s1 s2 s3 s4 s5 s6 : Nat) (ca : ClassId) (a1 : Int32) : Met l yX8_shade (wB yX8_shade cX8_shade 6 (some .int)) ({ frames := 1, cells := 0, slots := 0, locals := 21 }) (cP D [(h0, .inr (8, [.ref s1, .ref s2, .ref s3, .ref s4, .ref s5, .ref s6, .int 65535, .null, .null])), (s1, .inl (ca, 4, .inr (.inr (.inr (.inr (fun _ => none))))))] [(ca, .object "DotBench$Sheet")] sz [.ref h0, .int a1]) (va_Qi (fun (r : Int32) (_ : Unit) => r = -1) (fun (_ : Unit) (_ : State) => True) (va_A [(h0, .inr (8, [.ref s1, .ref s2, .ref s3, .ref s4, .ref s5, .ref s6, .int 65535, .null, .null])), (s1, .inl (ca, 4, .inr (.inr (.inr (.inr (fun _ => none))))))] sz)) 0 0 (va_A [(h0, .inr (8, [.ref s1, .ref s2, .ref s3, .ref s4, .ref s5, .ref s6, .int 65535, .null, .null])), (s1, .inl (ca, 4, .inr (.inr (.inr (.inr (fun _ => none))))))] sz) := by
  refine Met.ofW (cc := cX8_shade) (maxL := 6) (ret := (some .int)) (by decide) rfl ?_
  intro p e s m args below meth c s₁ B hml hv
  obtain ⟨rfl, hsz, hP, hK, hD0, hN⟩ := hv
  have hx := B.exec
  have hb := B.bytes
  have hr := B.returns
  have hts0 := atoms_spec (ws := (wB yX8_shade cX8_shade 6 (some .int))) B.pre
  have hts : ∀ w ∈ bigW, w.before _ s = true := fun w h => hts0 w (List.mem_cons_of_mem _ h)
  have hown : s.vm.findClass RX8 = some m.cls := findClass_of_methodNamed B.named
  have hlocks := B.notSynchronized
  subst hsz
  have hD := hD0.self (sz := s.heap.size)
  generalize hAe : va_A [(h0, .inr (8, [.ref s1, .ref s2, .ref s3, .ref s4, .ref s5, .ref s6, .int 65535, .null, .null])), (s1, .inl (ca, 4, .inr (.inr (.inr (.inr (fun _ => none))))))] s.heap.size = A at hD ⊢
  have hA : ∀ q : Nat, s.heap.size ≤ q → A q := fun q h => by rw [← hAe]; exact Or.inr h
  have hS : va_S A s.heap s.heap [] := va_S.rf
  have hP : va_P D vwCl [(h0, .inr (8, [.ref s1, .ref s2, .ref s3, .ref s4, .ref s5, .ref s6, .int 65535, .null, .null])), (s1, .inl (ca, 4, .inr (.inr (.inr (.inr (fun _ => none))))))] s.heap := hP
  have hl := lv_entry ([.ref h0, .int a1]) (n := 6) (Nat.le_of_ble_eq_true rfl)
  rw [lg_entry_eq]
  generalize (lg_sl ([.ref h0, .int a1]) ++ List.replicate (6 - (lg_sl ([.ref h0, .int a1])).length) Slot.unset).toArray = ls at hl ⊢
  have hl : lv_has ls 6 [(0, .ref h0), (1, .int a1)] := hl
  refine lv_aload_n hx hb dX8_shade_0 rfl (lv_at hl 0 rfl) ?_
  refine lv_iload_n hx hb dX8_shade_1 rfl (lv_at hl 1 rfl) ?_
  have hPc := hP.sub (ws' := [(h0, .inr (8, [.ref s1, .ref s2, .ref s3, .ref s4, .ref s5, .ref s6, .int 65535, .null, .null])), (s1, .inl (ca, 4, .inr (.inr (.inr (.inr (fun _ => none))))))]) [0, 1] rfl
  have hDc := hD.sub (ws' := [(h0, .inr (8, [.ref s1, .ref s2, .ref s3, .ref s4, .ref s5, .ref s6, .int 65535, .null, .null])), (s1, .inl (ca, 4, .inr (.inr (.inr (.inr (fun _ => none))))))]) [0, 1] (by decide) rfl
  have hKc := hK.sub (tys' := [(ca, .object "DotBench$Sheet")]) [0] rfl
  have hFc := va_free (wc := [(h0, .inr (8, [.ref s1, .ref s2, .ref s3, .ref s4, .ref s5, .ref s6, .int 65535, .null, .null])), (s1, .inl (ca, 4, .inr (.inr (.inr (.inr (fun _ => none))))))]) hD hS hA [0, 1] rfl
  refine va_callq (va_runV (As := [.int a1]) (rest := []) ⟨hx, hb, hml, hown, hts⟩ (k_X8_sheetAt l D s.heap.size h0 s1 s2 s3 s4 s5 s6 ca a1) (cwV 1 hts (gV bw_115 bw_116 bw_117 bw_1 bw_114) rfl rfl rfl (by decide +kernel) ⟨Nat.le_of_ble_eq_true rfl, Nat.le_of_ble_eq_true rfl⟩) ⟨cP_blind, va_recv hKc hPc (ci := 8) (q0 := 0) rfl rfl, cP_at hPc hKc hDc hN⟩ rfl rfl hl.1 rfl (lv_room (Nat.le_of_ble_eq_true rfl)) dX8_shade_2 ⟨Nat.le_of_ble_eq_true rfl, Nat.le_of_ble_eq_true rfl⟩) hS (fun q _ h => hFc q h) hFc (fun r_1 u9 t9 H1 locs ht hvm hr_1 hB hz1 hk1 hS => ?_)
  try dsimp only at hr_1
  obtain ⟨hP1, hK1, hD1⟩ := hB
  rw [ht] at hP1
  obtain ⟨hP, hD⟩ := va_join (wr := []) (w1 := [(h0, .inr (8, [.ref s1, .ref s2, .ref s3, .ref s4, .ref s5, .ref s6, .int 65535, .null, .null])), (s1, .inl (ca, 4, .inr (.inr (.inr (.inr (fun _ => none))))))]) hP hD [0, 1] [] rfl rfl (by decide) (by decide) hk1 hFc hP1 hD1
  clear hz1 hk1 hFc hKc hDc hPc
  generalize H1 = H at hP hS ⊢
  have hP : va_P D vwCl [(h0, .inr (8, [.ref s1, .ref s2, .ref s3, .ref s4, .ref s5, .ref s6, .int 65535, .null, .null])), (s1, .inl (ca, 4, .inr (.inr (.inr (.inr (fun _ => none))))))] H := hP
  have hD : va_D A [(h0, .inr (8, [.ref s1, .ref s2, .ref s3, .ref s4, .ref s5, .ref s6, .int 65535, .null, .null])), (s1, .inl (ca, 4, .inr (.inr (.inr (.inr (fun _ => none))))))] := hD
  subst hr_1
  refine my_topv (v := .null) rfl ?_
  refine lv_astore_nN (lv' := [(2, .null), (0, .ref h0), (1, .int a1)]) hx hb dX8_shade_5 rfl hl (by decide) rfl (fun ls hl => ?_)
  refine lv_aload_nN hx hb dX8_shade_6 rfl (lv_at hl 0 rfl) ?_
  refine lv_ifnonnullN hx hb dX8_shade_7 ?_
  refine lv_iconst (v := (-1)) hx hb dX8_shade_10 (by decide) ?_
  exact W.iret (v := (-1)) hx hb hr (fun t ht hW => ⟨⟨(-1), (), rfl, rfl, trivial⟩, hS.F ht⟩) hS.2.2 dX8_shade_11

set_option maxHeartbeats 4000000 in
set_option maxRecDepth 100000 in
theorem k_X8_flood (l : Launch) (D : va_G) (sz : Nat) (h0 s1 s2 s3 s4 s5 s6 : Nat) (ca : ClassId) (a1 a2 a3 a4 : Int32) : Met l yX8_flood (wB yX8_flood cX8_flood 9 (some .int)) ({ frames := 1, cells := 0, slots := 0, locals := 21 }) (cP D [(h0, .inr (8, [.ref s1, .ref s2, .ref s3, .ref s4, .ref s5, .ref s6, .int 65535, .null, .null])), (s1, .inl (ca, 4, .inr (.inr (.inr (.inr (fun _ => none))))))] [(ca, .object "DotBench$Sheet")] sz [.ref h0, .int a1, .int a2, .int a3, .int a4]) (va_Qi (fun (r : Int32) (_ : Unit) => r = -1) (fun (_ : Unit) (_ : State) => True) (va_A [(h0, .inr (8, [.ref s1, .ref s2, .ref s3, .ref s4, .ref s5, .ref s6, .int 65535, .null, .null])), (s1, .inl (ca, 4, .inr (.inr (.inr (.inr (fun _ => none))))))] sz)) 0 0 (va_A [(h0, .inr (8, [.ref s1, .ref s2, .ref s3, .ref s4, .ref s5, .ref s6, .int 65535, .null, .null])), (s1, .inl (ca, 4, .inr (.inr (.inr (.inr (fun _ => none))))))] sz) := by
  refine Met.ofW (cc := cX8_flood) (maxL := 9) (ret := (some .int)) (by decide) rfl ?_
  intro p e s m args below meth c s₁ B hml hv
  obtain ⟨rfl, hsz, hP, hK, hD0, hN⟩ := hv
  have hx := B.exec
  have hb := B.bytes
  have hr := B.returns
  have hts0 := atoms_spec (ws := (wB yX8_flood cX8_flood 9 (some .int))) B.pre
  have hts : ∀ w ∈ bigW, w.before _ s = true := fun w h => hts0 w (List.mem_cons_of_mem _ h)
  have hown : s.vm.findClass RX8 = some m.cls := findClass_of_methodNamed B.named
  have hlocks := B.notSynchronized
  subst hsz
  have hD := hD0.self (sz := s.heap.size)
  generalize hAe : va_A [(h0, .inr (8, [.ref s1, .ref s2, .ref s3, .ref s4, .ref s5, .ref s6, .int 65535, .null, .null])), (s1, .inl (ca, 4, .inr (.inr (.inr (.inr (fun _ => none))))))] s.heap.size = A at hD ⊢
  have hA : ∀ q : Nat, s.heap.size ≤ q → A q := fun q h => by rw [← hAe]; exact Or.inr h
  have hS : va_S A s.heap s.heap [] := va_S.rf
  have hP : va_P D vwCl [(h0, .inr (8, [.ref s1, .ref s2, .ref s3, .ref s4, .ref s5, .ref s6, .int 65535, .null, .null])), (s1, .inl (ca, 4, .inr (.inr (.inr (.inr (fun _ => none))))))] s.heap := hP
  have hl := lv_entry ([.ref h0, .int a1, .int a2, .int a3, .int a4]) (n := 9) (Nat.le_of_ble_eq_true rfl)
  rw [lg_entry_eq]
  generalize (lg_sl ([.ref h0, .int a1, .int a2, .int a3, .int a4]) ++ List.replicate (9 - (lg_sl ([.ref h0, .int a1, .int a2, .int a3, .int a4])).length) Slot.unset).toArray = ls at hl ⊢
  have hl : lv_has ls 9 [(0, .ref h0), (1, .int a1), (2, .int a2), (3, .int a3), (4, .int a4)] := hl
  refine lv_aload_n hx hb dX8_flood_0 rfl (lv_at hl 0 rfl) ?_
  refine lv_iload_n hx hb dX8_flood_1 rfl (lv_at hl 1 rfl) ?_
  have hPc := hP.sub (ws' := [(h0, .inr (8, [.ref s1, .ref s2, .ref s3, .ref s4, .ref s5, .ref s6, .int 65535, .null, .null])), (s1, .inl (ca, 4, .inr (.inr (.inr (.inr (fun _ => none))))))]) [0, 1] rfl
  have hDc := hD.sub (ws' := [(h0, .inr (8, [.ref s1, .ref s2, .ref s3, .ref s4, .ref s5, .ref s6, .int 65535, .null, .null])), (s1, .inl (ca, 4, .inr (.inr (.inr (.inr (fun _ => none))))))]) [0, 1] (by decide) rfl
  have hKc := hK.sub (tys' := [(ca, .object "DotBench$Sheet")]) [0] rfl
  have hFc := va_free (wc := [(h0, .inr (8, [.ref s1, .ref s2, .ref s3, .ref s4, .ref s5, .ref s6, .int 65535, .null, .null])), (s1, .inl (ca, 4, .inr (.inr (.inr (.inr (fun _ => none))))))]) hD hS hA [0, 1] rfl
  refine va_callq (va_runV (As := [.int a1]) (rest := []) ⟨hx, hb, hml, hown, hts⟩ (k_X8_sheetAt l D s.heap.size h0 s1 s2 s3 s4 s5 s6 ca a1) (cwV 1 hts (gV bw_115 bw_116 bw_117 bw_1 bw_114) rfl rfl rfl (by decide +kernel) ⟨Nat.le_of_ble_eq_true rfl, Nat.le_of_ble_eq_true rfl⟩) ⟨cP_blind, va_recv hKc hPc (ci := 8) (q0 := 0) rfl rfl, cP_at hPc hKc hDc hN⟩ rfl rfl hl.1 rfl (lv_room (Nat.le_of_ble_eq_true rfl)) dX8_flood_2 ⟨Nat.le_of_ble_eq_true rfl, Nat.le_of_ble_eq_true rfl⟩) hS (fun q _ h => hFc q h) hFc (fun r_1 u9 t9 H1 locs ht hvm hr_1 hB hz1 hk1 hS => ?_)
  try dsimp only at hr_1
  obtain ⟨hP1, hK1, hD1⟩ := hB
  rw [ht] at hP1
  obtain ⟨hP, hD⟩ := va_join (wr := []) (w1 := [(h0, .inr (8, [.ref s1, .ref s2, .ref s3, .ref s4, .ref s5, .ref s6, .int 65535, .null, .null])), (s1, .inl (ca, 4, .inr (.inr (.inr (.inr (fun _ => none))))))]) hP hD [0, 1] [] rfl rfl (by decide) (by decide) hk1 hFc hP1 hD1
  clear hz1 hk1 hFc hKc hDc hPc
  generalize H1 = H at hP hS ⊢
  have hP : va_P D vwCl [(h0, .inr (8, [.ref s1, .ref s2, .ref s3, .ref s4, .ref s5, .ref s6, .int 65535, .null, .null])), (s1, .inl (ca, 4, .inr (.inr (.inr (.inr (fun _ => none))))))] H := hP
  have hD : va_D A [(h0, .inr (8, [.ref s1, .ref s2, .ref s3, .ref s4, .ref s5, .ref s6, .int 65535, .null, .null])), (s1, .inl (ca, 4, .inr (.inr (.inr (.inr (fun _ => none))))))] := hD
  subst hr_1
  refine my_topv (v := .null) rfl ?_
  refine lv_astoreN (lv' := [(5, .null), (0, .ref h0), (1, .int a1), (2, .int a2), (3, .int a3), (4, .int a4)]) hx hb dX8_flood_5 hl (by decide) rfl (fun ls hl => ?_)
  refine lv_aloadN hx hb dX8_flood_7 (lv_at hl 0 rfl) ?_
  refine lv_ifnullN (tgt := 22) hx hb dX8_flood_9 (by decide) ?_
  refine lv_iconst (v := (-1)) hx hb dX8_flood_22 (by decide) ?_
  exact W.iret (v := (-1)) hx hb hr (fun t ht hW => ⟨⟨(-1), (), rfl, rfl, trivial⟩, hS.F ht⟩) hS.2.2 dX8_flood_23

set_option maxHeartbeats 4000000 in
set_option maxRecDepth 100000 in
theorem k_X8_copy (l : Launch) (D : va_G) (sz : Nat) (h0 s1 s2 s3 s4 s5 s6 : Nat) (ca : ClassId) (a1 a2 a3 a4 a5 a6 a7 a8 : Int32) : Met l yX8_copy (wB yX8_copy cX8_copy 9 (some .int)) ({ frames := 2, cells := 2, slots := 8, locals := 52 }) (cP D [(h0, .inr (8, [.ref s1, .ref s2, .ref s3, .ref s4, .ref s5, .ref s6, .int 65535, .null, .null])), (s1, .inl (ca, 4, .inr (.inr (.inr (.inr (fun _ => none))))))] [(ca, .object "DotBench$Sheet")] sz [.ref h0, .int a1, .int a2, .int a3, .int a4, .int a5, .int a6, .int a7, .int a8]) (va_Qi (fun (r : Int32) (_ : Unit) => r = -1) (fun (_ : Unit) (_ : State) => True) (va_A [(h0, .inr (8, [.ref s1, .ref s2, .ref s3, .ref s4, .ref s5, .ref s6, .int 65535, .null, .null])), (s1, .inl (ca, 4, .inr (.inr (.inr (.inr (fun _ => none))))))] sz)) 2 8 (va_A [(h0, .inr (8, [.ref s1, .ref s2, .ref s3, .ref s4, .ref s5, .ref s6, .int 65535, .null, .null])), (s1, .inl (ca, 4, .inr (.inr (.inr (.inr (fun _ => none))))))] sz) := by
  refine Met.ofW (cc := cX8_copy) (maxL := 9) (ret := (some .int)) (by decide) rfl ?_
  intro p e s m args below meth c s₁ B hml hv
  obtain ⟨rfl, hsz, hP, hK, hD0, hN⟩ := hv
  have hx := B.exec
  have hb := B.bytes
  have hr := B.returns
  have hts0 := atoms_spec (ws := (wB yX8_copy cX8_copy 9 (some .int))) B.pre
  have hts : ∀ w ∈ bigW, w.before _ s = true := fun w h => hts0 w (List.mem_cons_of_mem _ h)
  have hown : s.vm.findClass RX8 = some m.cls := findClass_of_methodNamed B.named
  have hlocks := B.notSynchronized
  subst hsz
  have hD := hD0.self (sz := s.heap.size)
  generalize hAe : va_A [(h0, .inr (8, [.ref s1, .ref s2, .ref s3, .ref s4, .ref s5, .ref s6, .int 65535, .null, .null])), (s1, .inl (ca, 4, .inr (.inr (.inr (.inr (fun _ => none))))))] s.heap.size = A at hD ⊢
  have hA : ∀ q : Nat, s.heap.size ≤ q → A q := fun q h => by rw [← hAe]; exact Or.inr h
  have hS : va_S A s.heap s.heap [] := va_S.rf
  have hP : va_P D vwCl [(h0, .inr (8, [.ref s1, .ref s2, .ref s3, .ref s4, .ref s5, .ref s6, .int 65535, .null, .null])), (s1, .inl (ca, 4, .inr (.inr (.inr (.inr (fun _ => none))))))] s.heap := hP
  have hl := lv_entry ([.ref h0, .int a1, .int a2, .int a3, .int a4, .int a5, .int a6, .int a7, .int a8]) (n := 9) (Nat.le_of_ble_eq_true rfl)
  rw [lg_entry_eq]
  generalize (lg_sl ([.ref h0, .int a1, .int a2, .int a3, .int a4, .int a5, .int a6, .int a7, .int a8]) ++ List.replicate (9 - (lg_sl ([.ref h0, .int a1, .int a2, .int a3, .int a4, .int a5, .int a6, .int a7, .int a8])).length) Slot.unset).toArray = ls at hl ⊢
  have hl : lv_has ls 9 [(0, .ref h0), (1, .int a1), (2, .int a2), (3, .int a3), (4, .int a4), (5, .int a5), (6, .int a6), (7, .int a7), (8, .int a8)] := hl
  refine lv_iload hx hb dX8_copy_0 (lv_at hl 4 rfl) ?_
  refine lv_iconst (v := 0) hx hb dX8_copy_2 (by decide) ?_
  refine lv_bipush (v := 64) hx hb dX8_copy_3 (by decide) ?_
  have hPc := hP.sub (ws' := []) [] rfl
  have hDc := hD.sub (ws' := []) [] (by decide) rfl
  have hKc := hK.sub (tys' := []) [] rfl
  have hFc := va_free (wc := []) hD hS hA [] rfl
  refine va_calli (va_runS (As := [.int a4, .int 0, .int 64]) (rest := []) ⟨hx, hb, hml, hown, hts⟩ (k_X8_isWithin l D s.heap.size a4 0 64 0 64 (by decide) (by decide)) (va_cwS 3 hts (gS bw_2 bw_3 bw_1 bw_0) rfl rfl rfl (by decide +kernel) ⟨Nat.le_of_ble_eq_true rfl, Nat.le_of_ble_eq_true rfl⟩) ⟨cP_blind, cP_at hPc hKc hDc hN⟩ rfl rfl hl.1 rfl (lv_room (Nat.le_of_ble_eq_true rfl)) dX8_copy_5 ⟨Nat.le_of_ble_eq_true rfl, Nat.le_of_ble_eq_true rfl⟩) hS (fun q _ h => hFc q h) hFc (fun r_1 u9 t9 H1 locs ht hvm hr_1 hB hz1 hk1 hS => ?_)
  try dsimp only at hr_1
  have hP1 : va_P D vwCl [] H1 := vP_nil
  have hD1 : va_D (va_A [] s.heap.size) [] := vD_nil
  obtain ⟨hP, hD⟩ := va_join (wr := [(h0, .inr (8, [.ref s1, .ref s2, .ref s3, .ref s4, .ref s5, .ref s6, .int 65535, .null, .null])), (s1, .inl (ca, 4, .inr (.inr (.inr (.inr (fun _ => none))))))]) (w1 := []) hP hD [] [0, 1] rfl rfl (by decide) (by decide) hk1 hFc hP1 hD1
  clear hz1 hk1 hFc hKc hDc hPc
  generalize H1 = H at hP hS ⊢
  have hP : va_P D vwCl [(h0, .inr (8, [.ref s1, .ref s2, .ref s3, .ref s4, .ref s5, .ref s6, .int 65535, .null, .null])), (s1, .inl (ca, 4, .inr (.inr (.inr (.inr (fun _ => none))))))] H := hP
  have hD : va_D A [(h0, .inr (8, [.ref s1, .ref s2, .ref s3, .ref s4, .ref s5, .ref s6, .int 65535, .null, .null])), (s1, .inl (ca, 4, .inr (.inr (.inr (.inr (fun _ => none))))))] := hD
  refine lv_if_eq (tgt := 22) hx hb dX8_copy_8 (by decide) (fun c_2 => ?_) (fun c_2 => ?_)
  · skip
    have f_3 := bz0 hr_1 c_2
    refine lv_iconst (v := (-1)) hx hb dX8_copy_22 (by decide) ?_
    refine W.widen (k := 2) (n := 8) (by omega) (by omega) ?_
    exact W.iret (v := (-1)) hx hb hr (fun t ht hW => ⟨⟨(-1), (), rfl, rfl, trivial⟩, hS.F ht⟩) hS.2.2 dX8_copy_23
  · skip
    have f_3 := bz1 hr_1 c_2
    refine lv_iload hx hb dX8_copy_11 (lv_at hl 5 rfl) ?_
    refine lv_iconst (v := 0) hx hb dX8_copy_13 (by decide) ?_
    refine lv_bipush (v := 64) hx hb dX8_copy_14 (by decide) ?_
    have hPc := hP.sub (ws' := []) [] rfl
    have hDc := hD.sub (ws' := []) [] (by decide) rfl
    have hKc := hK.sub (tys' := []) [] rfl
    have hFc := va_free (wc := []) hD hS hA [] rfl
    refine va_calli (va_runS (As := [.int a5, .int 0, .int 64]) (rest := []) ⟨hx, hb, hml, hown, hts⟩ (k_X8_isWithin l D H.size a5 0 64 0 64 (by decide) (by decide)) (va_cwS 3 hts (gS bw_2 bw_3 bw_1 bw_0) rfl rfl rfl (by decide +kernel) ⟨Nat.le_of_ble_eq_true rfl, Nat.le_of_ble_eq_true rfl⟩) ⟨cP_blind, cP_at hPc hKc hDc hN⟩ rfl rfl hl.1 rfl (lv_room (Nat.le_of_ble_eq_true rfl)) dX8_copy_16 ⟨Nat.le_of_ble_eq_true rfl, Nat.le_of_ble_eq_true rfl⟩) hS (fun q _ h => hFc q h) hFc (fun r_4 u9 t9 H1 locs ht hvm hr_4 hB hz1 hk1 hS => ?_)
    try dsimp only at hr_4
    have hP1 : va_P D vwCl [] H1 := vP_nil
    have hD1 : va_D (va_A [] H.size) [] := vD_nil
    obtain ⟨hP, hD⟩ := va_join (wr := [(h0, .inr (8, [.ref s1, .ref s2, .ref s3, .ref s4, .ref s5, .ref s6, .int 65535, .null, .null])), (s1, .inl (ca, 4, .inr (.inr (.inr (.inr (fun _ => none))))))]) (w1 := []) hP hD [] [0, 1] rfl rfl (by decide) (by decide) hk1 hFc hP1 hD1
    clear hz1 hk1 hFc hKc hDc hPc
    generalize H1 = H at hP hS ⊢
    have hP : va_P D vwCl [(h0, .inr (8, [.ref s1, .ref s2, .ref s3, .ref s4, .ref s5, .ref s6, .int 65535, .null, .null])), (s1, .inl (ca, 4, .inr (.inr (.inr (.inr (fun _ => none))))))] H := hP
    have hD : va_D A [(h0, .inr (8, [.ref s1, .ref s2, .ref s3, .ref s4, .ref s5, .ref s6, .int 65535, .null, .null])), (s1, .inl (ca, 4, .inr (.inr (.inr (.inr (fun _ => none))))))] := hD
    refine lv_if_ne (tgt := 24) hx hb dX8_copy_19 (by decide) (fun c_5 => ?_) (fun c_5 => ?_)
    · skip
      have f_6 := bz1 hr_4 c_5
      refine lv_aload_n hx hb dX8_copy_24 rfl (lv_at hl 0 rfl) ?_
      refine lv_iload_n hx hb dX8_copy_25 rfl (lv_at hl 1 rfl) ?_
      refine va_new (ci := 2) (fs := [.int 0, .int 0, .int 0, .int 0]) (C := RX2) (T := TX2) (N := 4) hx hb hts hi_X2 tyX2 tyX2_ok hown (hts _ bw_140) (hts _ bw_141) (hts _ bw_142) hK hP hD hS hA rfl z_X2 (Nat.le_of_ble_eq_true rfl) (Nat.le_of_ble_eq_true rfl) dX8_copy_26 (fun q_7 H hP hD hS => ?_)
      have hP : va_P D vwCl [(h0, .inr (8, [.ref s1, .ref s2, .ref s3, .ref s4, .ref s5, .ref s6, .int 65535, .null, .null])), (s1, .inl (ca, 4, .inr (.inr (.inr (.inr (fun _ => none)))))), (q_7, .inr (2, [.int 0, .int 0, .int 0, .int 0]))] H := hP
      have hD : va_D A [(h0, .inr (8, [.ref s1, .ref s2, .ref s3, .ref s4, .ref s5, .ref s6, .int 65535, .null, .null])), (s1, .inl (ca, 4, .inr (.inr (.inr (.inr (fun _ => none)))))), (q_7, .inr (2, [.int 0, .int 0, .int 0, .int 0]))] := hD
      refine W.widen (k := 1) (n := 4) (by omega) (by omega) ?_
      refine lv_dup hx hb dX8_copy_29 rfl ?_
      refine lv_iload_n hx hb dX8_copy_30 rfl (lv_at hl 2 rfl) ?_
      refine lv_iload_n hx hb dX8_copy_31 rfl (lv_at hl 3 rfl) ?_
      refine lv_iload hx hb dX8_copy_32 (lv_at hl 4 rfl) ?_
      refine lv_iload hx hb dX8_copy_34 (lv_at hl 5 rfl) ?_
      have hPc := hP.sub (ws' := [(q_7, .inr (2, [.int 0, .int 0, .int 0, .int 0]))]) [2] rfl
      have hDc := hD.sub (ws' := [(q_7, .inr (2, [.int 0, .int 0, .int 0, .int 0]))]) [2] (by decide) rfl
      have hKc := hK.sub (tys' := []) [] rfl
      have hFc := va_free (wc := [(q_7, .inr (2, [.int 0, .int 0, .int 0, .int 0]))]) hD hS hA [2] rfl
      refine va_callv (va_runI (As := [.int a2, .int a3, .int a4, .int a5]) (rest := [.ref q_7, .int a1, .ref h0]) ⟨hx, hb, hml, hown, hts⟩ (k_X2_init l D H.size q_7 a2 a3 a4 a5) (cwI 4 hts (gI bw_143) rfl rfl rfl (hts _ bw_142) (hts _ bw_144) (hts _ bw_145) rfl (by decide +kernel) ⟨Nat.le_of_ble_eq_true rfl, Nat.le_of_ble_eq_true rfl⟩) ⟨cP_blind, cP_at hPc hKc hDc hN⟩ rfl rfl hl.1 rfl (lv_room (Nat.le_of_ble_eq_true rfl)) dX8_copy_36 ⟨Nat.le_of_ble_eq_true rfl, Nat.le_of_ble_eq_true rfl⟩) hS (fun q _ h => hFc q h) hFc (fun u9 t9 H1 locs ht hvm hr_8 hB hz1 hk1 hS => ?_)
      try dsimp only at hr_8
      have hP1 : va_P D vwCl [] H1 := vP_nil
      have hD1 : va_D (va_A [(q_7, .inr (2, [.int 0, .int 0, .int 0, .int 0]))] H.size) [] := vD_nil
      obtain ⟨hP, hD⟩ := va_join (wr := [(h0, .inr (8, [.ref s1, .ref s2, .ref s3, .ref s4, .ref s5, .ref s6, .int 65535, .null, .null])), (s1, .inl (ca, 4, .inr (.inr (.inr (.inr (fun _ => none))))))]) (w1 := []) hP hD [2] [0, 1] rfl rfl (by decide) (by decide) hk1 hFc hP1 hD1
      clear hz1 hk1 hFc hKc hDc hPc
      generalize H1 = H at hP hS ⊢
      have hP : va_P D vwCl [(h0, .inr (8, [.ref s1, .ref s2, .ref s3, .ref s4, .ref s5, .ref s6, .int 65535, .null, .null])), (s1, .inl (ca, 4, .inr (.inr (.inr (.inr (fun _ => none))))))] H := hP
      have hD : va_D A [(h0, .inr (8, [.ref s1, .ref s2, .ref s3, .ref s4, .ref s5, .ref s6, .int 65535, .null, .null])), (s1, .inl (ca, 4, .inr (.inr (.inr (.inr (fun _ => none))))))] := hD
      refine lv_iload hx hb dX8_copy_39 (lv_at hl 6 rfl) ?_
      refine va_new (ci := 2) (fs := [.int 0, .int 0, .int 0, .int 0]) (C := RX2) (T := TX2) (N := 4) hx hb hts hi_X2 tyX2 tyX2_ok hown (hts _ bw_140) (hts _ bw_141) (hts _ bw_142) hK hP hD hS hA rfl z_X2 (Nat.le_of_ble_eq_true rfl) (Nat.le_of_ble_eq_true rfl) dX8_copy_41 (fun q_9 H hP hD hS => ?_)
      have hP : va_P D vwCl [(h0, .inr (8, [.ref s1, .ref s2, .ref s3, .ref s4, .ref s5, .ref s6, .int 65535, .null, .null])), (s1, .inl (ca, 4, .inr (.inr (.inr (.inr (fun _ => none)))))), (q_9, .inr (2, [.int 0, .int 0, .int 0, .int 0]))] H := hP
      have hD : va_D A [(h0, .inr (8, [.ref s1, .ref s2, .ref s3, .ref s4, .ref s5, .ref s6, .int 65535, .null, .null])), (s1, .inl (ca, 4, .inr (.inr (.inr (.inr (fun _ => none)))))), (q_9, .inr (2, [.int 0, .int 0, .int 0, .int 0]))] := hD
      refine W.widen (k := 2) (n := 8) (by omega) (by omega) ?_
      refine lv_dup hx hb dX8_copy_44 rfl ?_
      refine lv_iload hx hb dX8_copy_45 (lv_at hl 7 rfl) ?_
      refine lv_iload hx hb dX8_copy_47 (lv_at hl 8 rfl) ?_
      refine lv_iload hx hb dX8_copy_49 (lv_at hl 4 rfl) ?_
      refine lv_iload hx hb dX8_copy_51 (lv_at hl 5 rfl) ?_
      have hPc := hP.sub (ws' := [(q_9, .inr (2, [.int 0, .int 0, .int 0, .int 0]))]) [2] rfl
      have hDc := hD.sub (ws' := [(q_9, .inr (2, [.int 0, .int 0, .int 0, .int 0]))]) [2] (by decide) rfl
      have hKc := hK.sub (tys' := []) [] rfl
      have hFc := va_free (wc := [(q_9, .inr (2, [.int 0, .int 0, .int 0, .int 0]))]) hD hS hA [2] rfl
      refine va_callv (va_runI (As := [.int a7, .int a8, .int a4, .int a5]) (rest := [.ref q_9, .int a6, .ref q_7, .int a1, .ref h0]) ⟨hx, hb, hml, hown, hts⟩ (k_X2_init l D H.size q_9 a7 a8 a4 a5) (cwI 4 hts (gI bw_143) rfl rfl rfl (hts _ bw_142) (hts _ bw_144) (hts _ bw_145) rfl (by decide +kernel) ⟨Nat.le_of_ble_eq_true rfl, Nat.le_of_ble_eq_true rfl⟩) ⟨cP_blind, cP_at hPc hKc hDc hN⟩ rfl rfl hl.1 rfl (lv_room (Nat.le_of_ble_eq_true rfl)) dX8_copy_53 ⟨Nat.le_of_ble_eq_true rfl, Nat.le_of_ble_eq_true rfl⟩) hS (fun q _ h => hFc q h) hFc (fun u9 t9 H1 locs ht hvm hr_10 hB hz1 hk1 hS => ?_)
      try dsimp only at hr_10
      have hP1 : va_P D vwCl [] H1 := vP_nil
      have hD1 : va_D (va_A [(q_9, .inr (2, [.int 0, .int 0, .int 0, .int 0]))] H.size) [] := vD_nil
      obtain ⟨hP, hD⟩ := va_join (wr := [(h0, .inr (8, [.ref s1, .ref s2, .ref s3, .ref s4, .ref s5, .ref s6, .int 65535, .null, .null])), (s1, .inl (ca, 4, .inr (.inr (.inr (.inr (fun _ => none))))))]) (w1 := []) hP hD [2] [0, 1] rfl rfl (by decide) (by decide) hk1 hFc hP1 hD1
      clear hz1 hk1 hFc hKc hDc hPc
      generalize H1 = H at hP hS ⊢
      have hP : va_P D vwCl [(h0, .inr (8, [.ref s1, .ref s2, .ref s3, .ref s4, .ref s5, .ref s6, .int 65535, .null, .null])), (s1, .inl (ca, 4, .inr (.inr (.inr (.inr (fun _ => none))))))] H := hP
      have hD : va_D A [(h0, .inr (8, [.ref s1, .ref s2, .ref s3, .ref s4, .ref s5, .ref s6, .int 65535, .null, .null])), (s1, .inl (ca, 4, .inr (.inr (.inr (.inr (fun _ => none))))))] := hD
      have hPc := hP.sub (ws' := [(h0, .inr (8, [.ref s1, .ref s2, .ref s3, .ref s4, .ref s5, .ref s6, .int 65535, .null, .null])), (s1, .inl (ca, 4, .inr (.inr (.inr (.inr (fun _ => none))))))]) [0, 1] rfl
      have hDc := hD.sub (ws' := [(h0, .inr (8, [.ref s1, .ref s2, .ref s3, .ref s4, .ref s5, .ref s6, .int 65535, .null, .null])), (s1, .inl (ca, 4, .inr (.inr (.inr (.inr (fun _ => none))))))]) [0, 1] (by decide) rfl
      have hKc := hK.sub (tys' := [(ca, .object "DotBench$Sheet")]) [0] rfl
      have hFc := va_free (wc := [(h0, .inr (8, [.ref s1, .ref s2, .ref s3, .ref s4, .ref s5, .ref s6, .int 65535, .null, .null])), (s1, .inl (ca, 4, .inr (.inr (.inr (.inr (fun _ => none))))))]) hD hS hA [0, 1] rfl
      refine va_calli (va_runV (As := [.int a1, .ref q_7, .int a6, .ref q_9]) (rest := []) ⟨hx, hb, hml, hown, hts⟩ (k_X8_carry l D H.size h0 s1 s2 s3 s4 s5 s6 ca q_7 q_9 a1 a6) (cwV 4 hts (gV bw_147 bw_148 bw_149 bw_1 bw_146) rfl rfl rfl (by decide +kernel) ⟨Nat.le_of_ble_eq_true rfl, Nat.le_of_ble_eq_true rfl⟩) ⟨cP_blind, va_recv hKc hPc (ci := 8) (q0 := 0) rfl rfl, cP_at hPc hKc hDc hN⟩ rfl rfl hl.1 rfl (lv_room (Nat.le_of_ble_eq_true rfl)) dX8_copy_56 ⟨Nat.le_of_ble_eq_true rfl, Nat.le_of_ble_eq_true rfl⟩) hS (fun q _ h => hFc q h) hFc (fun r_11 u9 t9 H1 locs ht hvm hr_11 hB hz1 hk1 hS => ?_)
      try dsimp only at hr_11
      have hP1 : va_P D vwCl [] H1 := vP_nil
      have hD1 : va_D (va_A [(h0, .inr (8, [.ref s1, .ref s2, .ref s3, .ref s4, .ref s5, .ref s6, .int 65535, .null, .null])), (s1, .inl (ca, 4, .inr (.inr (.inr (.inr (fun _ => none))))))] H.size) [] := vD_nil
      obtain ⟨hP, hD⟩ := va_join (wr := []) (w1 := []) hP hD [0, 1] [] rfl rfl (by decide) (by decide) hk1 hFc hP1 hD1
      clear hz1 hk1 hFc hKc hDc hPc
      generalize H1 = H at hP hS ⊢
      have hP : va_P D vwCl [] H := hP
      have hD : va_D A [] := hD
      subst hr_11
      exact W.iret (v := (-1)) hx hb hr (fun t ht hW => ⟨⟨(-1), (), rfl, rfl, trivial⟩, hS.F ht⟩) hS.2.2 dX8_copy_59
    · skip
      have f_6 := bz0 hr_4 c_5
      refine lv_iconst (v := (-1)) hx hb dX8_copy_22 (by decide) ?_
      refine W.widen (k := 2) (n := 8) (by omega) (by omega) ?_
      exact W.iret (v := (-1)) hx hb hr (fun t ht hW => ⟨⟨(-1), (), rfl, rfl, trivial⟩, hS.F ht⟩) hS.2.2 dX8_copy_23

set_option maxHeartbeats 4000000 in
set_option maxRecDepth 100000 in
theorem k_X8_stretch (l : Launch) (D : va_G) (sz : Nat) (h0 s1 s2 s3 s4 s5 s6 : Nat) (ca : ClassId) (a1 a2 a3 a4 a5 a6 a7 a8 a9 a10 : Int32) : Met l yX8_stretch (wB yX8_stretch cX8_stretch 11 (some .int)) ({ frames := 2, cells := 2, slots := 8, locals := 52 }) (cP D [(h0, .inr (8, [.ref s1, .ref s2, .ref s3, .ref s4, .ref s5, .ref s6, .int 65535, .null, .null])), (s1, .inl (ca, 4, .inr (.inr (.inr (.inr (fun _ => none))))))] [(ca, .object "DotBench$Sheet")] sz [.ref h0, .int a1, .int a2, .int a3, .int a4, .int a5, .int a6, .int a7, .int a8, .int a9, .int a10]) (va_Qi (fun (r : Int32) (_ : Unit) => r = -1) (fun (_ : Unit) (_ : State) => True) (va_A [(h0, .inr (8, [.ref s1, .ref s2, .ref s3, .ref s4, .ref s5, .ref s6, .int 65535, .null, .null])), (s1, .inl (ca, 4, .inr (.inr (.inr (.inr (fun _ => none))))))] sz)) 2 8 (va_A [(h0, .inr (8, [.ref s1, .ref s2, .ref s3, .ref s4, .ref s5, .ref s6, .int 65535, .null, .null])), (s1, .inl (ca, 4, .inr (.inr (.inr (.inr (fun _ => none))))))] sz) := by
  refine Met.ofW (cc := cX8_stretch) (maxL := 11) (ret := (some .int)) (by decide) rfl ?_
  intro p e s m args below meth c s₁ B hml hv
  obtain ⟨rfl, hsz, hP, hK, hD0, hN⟩ := hv
  have hx := B.exec
  have hb := B.bytes
  have hr := B.returns
  have hts0 := atoms_spec (ws := (wB yX8_stretch cX8_stretch 11 (some .int))) B.pre
  have hts : ∀ w ∈ bigW, w.before _ s = true := fun w h => hts0 w (List.mem_cons_of_mem _ h)
  have hown : s.vm.findClass RX8 = some m.cls := findClass_of_methodNamed B.named
  have hlocks := B.notSynchronized
  subst hsz
  have hD := hD0.self (sz := s.heap.size)
  generalize hAe : va_A [(h0, .inr (8, [.ref s1, .ref s2, .ref s3, .ref s4, .ref s5, .ref s6, .int 65535, .null, .null])), (s1, .inl (ca, 4, .inr (.inr (.inr (.inr (fun _ => none))))))] s.heap.size = A at hD ⊢
  have hA : ∀ q : Nat, s.heap.size ≤ q → A q := fun q h => by rw [← hAe]; exact Or.inr h
  have hS : va_S A s.heap s.heap [] := va_S.rf
  have hP : va_P D vwCl [(h0, .inr (8, [.ref s1, .ref s2, .ref s3, .ref s4, .ref s5, .ref s6, .int 65535, .null, .null])), (s1, .inl (ca, 4, .inr (.inr (.inr (.inr (fun _ => none))))))] s.heap := hP
  have hl := lv_entry ([.ref h0, .int a1, .int a2, .int a3, .int a4, .int a5, .int a6, .int a7, .int a8, .int a9, .int a10]) (n := 11) (Nat.le_of_ble_eq_true rfl)
  rw [lg_entry_eq]
  generalize (lg_sl ([.ref h0, .int a1, .int a2, .int a3, .int a4, .int a5, .int a6, .int a7, .int a8, .int a9, .int a10]) ++ List.replicate (11 - (lg_sl ([.ref h0, .int a1, .int a2, .int a3, .int a4, .int a5, .int a6, .int a7, .int a8, .int a9, .int a10])).length) Slot.unset).toArray = ls at hl ⊢
  have hl : lv_has ls 11 [(0, .ref h0), (1, .int a1), (2, .int a2), (3, .int a3), (4, .int a4), (5, .int a5), (6, .int a6), (7, .int a7), (8, .int a8), (9, .int a9), (10, .int a10)] := hl
  refine lv_iload hx hb dX8_stretch_0 (lv_at hl 4 rfl) ?_
  have hPc := hP.sub (ws' := []) [] rfl
  have hDc := hD.sub (ws' := []) [] (by decide) rfl
  have hKc := hK.sub (tys' := []) [] rfl
  have hFc := va_free (wc := []) hD hS hA [] rfl
  refine va_calli (va_runS (As := [.int a4]) (rest := []) ⟨hx, hb, hml, hown, hts⟩ (k_X8_isSide l D s.heap.size a4) (va_cwS 1 hts (gS bw_123 bw_124 bw_1 bw_122) rfl rfl rfl (by decide +kernel) ⟨Nat.le_of_ble_eq_true rfl, Nat.le_of_ble_eq_true rfl⟩) ⟨cP_blind, cP_at hPc hKc hDc hN⟩ rfl rfl hl.1 rfl (lv_room (Nat.le_of_ble_eq_true rfl)) dX8_stretch_2 ⟨Nat.le_of_ble_eq_true rfl, Nat.le_of_ble_eq_true rfl⟩) hS (fun q _ h => hFc q h) hFc (fun r_1 u9 t9 H1 locs ht hvm hr_1 hB hz1 hk1 hS => ?_)
  try dsimp only at hr_1
  have hP1 : va_P D vwCl [] H1 := vP_nil
  have hD1 : va_D (va_A [] s.heap.size) [] := vD_nil
  obtain ⟨hP, hD⟩ := va_join (wr := [(h0, .inr (8, [.ref s1, .ref s2, .ref s3, .ref s4, .ref s5, .ref s6, .int 65535, .null, .null])), (s1, .inl (ca, 4, .inr (.inr (.inr (.inr (fun _ => none))))))]) (w1 := []) hP hD [] [0, 1] rfl rfl (by decide) (by decide) hk1 hFc hP1 hD1
  clear hz1 hk1 hFc hKc hDc hPc
  generalize H1 = H at hP hS ⊢
  have hP : va_P D vwCl [(h0, .inr (8, [.ref s1, .ref s2, .ref s3, .ref s4, .ref s5, .ref s6, .int 65535, .null, .null])), (s1, .inl (ca, 4, .inr (.inr (.inr (.inr (fun _ => none))))))] H := hP
  have hD : va_D A [(h0, .inr (8, [.ref s1, .ref s2, .ref s3, .ref s4, .ref s5, .ref s6, .int 65535, .null, .null])), (s1, .inl (ca, 4, .inr (.inr (.inr (.inr (fun _ => none))))))] := hD
  refine lv_if_eq (tgt := 32) hx hb dX8_stretch_5 (by decide) (fun c_2 => ?_) (fun c_2 => ?_)
  · skip
    have f_3 := bz0 hr_1 c_2
    refine lv_iconst (v := (-1)) hx hb dX8_stretch_32 (by decide) ?_
    refine W.widen (k := 2) (n := 8) (by omega) (by omega) ?_
    exact W.iret (v := (-1)) hx hb hr (fun t ht hW => ⟨⟨(-1), (), rfl, rfl, trivial⟩, hS.F ht⟩) hS.2.2 dX8_stretch_33
  · skip
    have f_3 := bz1 hr_1 c_2
    refine lv_iload hx hb dX8_stretch_8 (lv_at hl 5 rfl) ?_
    have hPc := hP.sub (ws' := []) [] rfl
    have hDc := hD.sub (ws' := []) [] (by decide) rfl
    have hKc := hK.sub (tys' := []) [] rfl
    have hFc := va_free (wc := []) hD hS hA [] rfl
    refine va_calli (va_runS (As := [.int a5]) (rest := []) ⟨hx, hb, hml, hown, hts⟩ (k_X8_isSide l D H.size a5) (va_cwS 1 hts (gS bw_123 bw_124 bw_1 bw_122) rfl rfl rfl (by decide +kernel) ⟨Nat.le_of_ble_eq_true rfl, Nat.le_of_ble_eq_true rfl⟩) ⟨cP_blind, cP_at hPc hKc hDc hN⟩ rfl rfl hl.1 rfl (lv_room (Nat.le_of_ble_eq_true rfl)) dX8_stretch_10 ⟨Nat.le_of_ble_eq_true rfl, Nat.le_of_ble_eq_true rfl⟩) hS (fun q _ h => hFc q h) hFc (fun r_4 u9 t9 H1 locs ht hvm hr_4 hB hz1 hk1 hS => ?_)
    try dsimp only at hr_4
    have hP1 : va_P D vwCl [] H1 := vP_nil
    have hD1 : va_D (va_A [] H.size) [] := vD_nil
    obtain ⟨hP, hD⟩ := va_join (wr := [(h0, .inr (8, [.ref s1, .ref s2, .ref s3, .ref s4, .ref s5, .ref s6, .int 65535, .null, .null])), (s1, .inl (ca, 4, .inr (.inr (.inr (.inr (fun _ => none))))))]) (w1 := []) hP hD [] [0, 1] rfl rfl (by decide) (by decide) hk1 hFc hP1 hD1
    clear hz1 hk1 hFc hKc hDc hPc
    generalize H1 = H at hP hS ⊢
    have hP : va_P D vwCl [(h0, .inr (8, [.ref s1, .ref s2, .ref s3, .ref s4, .ref s5, .ref s6, .int 65535, .null, .null])), (s1, .inl (ca, 4, .inr (.inr (.inr (.inr (fun _ => none))))))] H := hP
    have hD : va_D A [(h0, .inr (8, [.ref s1, .ref s2, .ref s3, .ref s4, .ref s5, .ref s6, .int 65535, .null, .null])), (s1, .inl (ca, 4, .inr (.inr (.inr (.inr (fun _ => none))))))] := hD
    refine lv_if_eq (tgt := 32) hx hb dX8_stretch_13 (by decide) (fun c_5 => ?_) (fun c_5 => ?_)
    · skip
      have f_6 := bz0 hr_4 c_5
      refine lv_iconst (v := (-1)) hx hb dX8_stretch_32 (by decide) ?_
      refine W.widen (k := 2) (n := 8) (by omega) (by omega) ?_
      exact W.iret (v := (-1)) hx hb hr (fun t ht hW => ⟨⟨(-1), (), rfl, rfl, trivial⟩, hS.F ht⟩) hS.2.2 dX8_stretch_33
    · skip
      have f_6 := bz1 hr_4 c_5
      refine lv_iload hx hb dX8_stretch_16 (lv_at hl 9 rfl) ?_
      have hPc := hP.sub (ws' := []) [] rfl
      have hDc := hD.sub (ws' := []) [] (by decide) rfl
      have hKc := hK.sub (tys' := []) [] rfl
      have hFc := va_free (wc := []) hD hS hA [] rfl
      refine va_calli (va_runS (As := [.int a9]) (rest := []) ⟨hx, hb, hml, hown, hts⟩ (k_X8_isSide l D H.size a9) (va_cwS 1 hts (gS bw_123 bw_124 bw_1 bw_122) rfl rfl rfl (by decide +kernel) ⟨Nat.le_of_ble_eq_true rfl, Nat.le_of_ble_eq_true rfl⟩) ⟨cP_blind, cP_at hPc hKc hDc hN⟩ rfl rfl hl.1 rfl (lv_room (Nat.le_of_ble_eq_true rfl)) dX8_stretch_18 ⟨Nat.le_of_ble_eq_true rfl, Nat.le_of_ble_eq_true rfl⟩) hS (fun q _ h => hFc q h) hFc (fun r_7 u9 t9 H1 locs ht hvm hr_7 hB hz1 hk1 hS => ?_)
      try dsimp only at hr_7
      have hP1 : va_P D vwCl [] H1 := vP_nil
      have hD1 : va_D (va_A [] H.size) [] := vD_nil
      obtain ⟨hP, hD⟩ := va_join (wr := [(h0, .inr (8, [.ref s1, .ref s2, .ref s3, .ref s4, .ref s5, .ref s6, .int 65535, .null, .null])), (s1, .inl (ca, 4, .inr (.inr (.inr (.inr (fun _ => none))))))]) (w1 := []) hP hD [] [0, 1] rfl rfl (by decide) (by decide) hk1 hFc hP1 hD1
      clear hz1 hk1 hFc hKc hDc hPc
      generalize H1 = H at hP hS ⊢
      have hP : va_P D vwCl [(h0, .inr (8, [.ref s1, .ref s2, .ref s3, .ref s4, .ref s5, .ref s6, .int 65535, .null, .null])), (s1, .inl (ca, 4, .inr (.inr (.inr (.inr (fun _ => none))))))] H := hP
      have hD : va_D A [(h0, .inr (8, [.ref s1, .ref s2, .ref s3, .ref s4, .ref s5, .ref s6, .int 65535, .null, .null])), (s1, .inl (ca, 4, .inr (.inr (.inr (.inr (fun _ => none))))))] := hD
      refine lv_if_eq (tgt := 32) hx hb dX8_stretch_21 (by decide) (fun c_8 => ?_) (fun c_8 => ?_)
      · skip
        have f_9 := bz0 hr_7 c_8
        refine lv_iconst (v := (-1)) hx hb dX8_stretch_32 (by decide) ?_
        refine W.widen (k := 2) (n := 8) (by omega) (by omega) ?_
        exact W.iret (v := (-1)) hx hb hr (fun t ht hW => ⟨⟨(-1), (), rfl, rfl, trivial⟩, hS.F ht⟩) hS.2.2 dX8_stretch_33
      · skip
        have f_9 := bz1 hr_7 c_8
        refine lv_iload hx hb dX8_stretch_24 (lv_at hl 10 rfl) ?_
        have hPc := hP.sub (ws' := []) [] rfl
        have hDc := hD.sub (ws' := []) [] (by decide) rfl
        have hKc := hK.sub (tys' := []) [] rfl
        have hFc := va_free (wc := []) hD hS hA [] rfl
        refine va_calli (va_runS (As := [.int a10]) (rest := []) ⟨hx, hb, hml, hown, hts⟩ (k_X8_isSide l D H.size a10) (va_cwS 1 hts (gS bw_123 bw_124 bw_1 bw_122) rfl rfl rfl (by decide +kernel) ⟨Nat.le_of_ble_eq_true rfl, Nat.le_of_ble_eq_true rfl⟩) ⟨cP_blind, cP_at hPc hKc hDc hN⟩ rfl rfl hl.1 rfl (lv_room (Nat.le_of_ble_eq_true rfl)) dX8_stretch_26 ⟨Nat.le_of_ble_eq_true rfl, Nat.le_of_ble_eq_true rfl⟩) hS (fun q _ h => hFc q h) hFc (fun r_10 u9 t9 H1 locs ht hvm hr_10 hB hz1 hk1 hS => ?_)
        try dsimp only at hr_10
        have hP1 : va_P D vwCl [] H1 := vP_nil
        have hD1 : va_D (va_A [] H.size) [] := vD_nil
        obtain ⟨hP, hD⟩ := va_join (wr := [(h0, .inr (8, [.ref s1, .ref s2, .ref s3, .ref s4, .ref s5, .ref s6, .int 65535, .null, .null])), (s1, .inl (ca, 4, .inr (.inr (.inr (.inr (fun _ => none))))))]) (w1 := []) hP hD [] [0, 1] rfl rfl (by decide) (by decide) hk1 hFc hP1 hD1
        clear hz1 hk1 hFc hKc hDc hPc
        generalize H1 = H at hP hS ⊢
        have hP : va_P D vwCl [(h0, .inr (8, [.ref s1, .ref s2, .ref s3, .ref s4, .ref s5, .ref s6, .int 65535, .null, .null])), (s1, .inl (ca, 4, .inr (.inr (.inr (.inr (fun _ => none))))))] H := hP
        have hD : va_D A [(h0, .inr (8, [.ref s1, .ref s2, .ref s3, .ref s4, .ref s5, .ref s6, .int 65535, .null, .null])), (s1, .inl (ca, 4, .inr (.inr (.inr (.inr (fun _ => none))))))] := hD
        refine lv_if_ne (tgt := 34) hx hb dX8_stretch_29 (by decide) (fun c_11 => ?_) (fun c_11 => ?_)
        · skip
          have f_12 := bz1 hr_10 c_11
          refine lv_aload_n hx hb dX8_stretch_34 rfl (lv_at hl 0 rfl) ?_
          refine lv_iload_n hx hb dX8_stretch_35 rfl (lv_at hl 1 rfl) ?_
          refine va_new (ci := 2) (fs := [.int 0, .int 0, .int 0, .int 0]) (C := RX2) (T := TX2) (N := 4) hx hb hts hi_X2 tyX2 tyX2_ok hown (hts _ bw_140) (hts _ bw_141) (hts _ bw_142) hK hP hD hS hA rfl z_X2 (Nat.le_of_ble_eq_true rfl) (Nat.le_of_ble_eq_true rfl) dX8_stretch_36 (fun q_13 H hP hD hS => ?_)
          have hP : va_P D vwCl [(h0, .inr (8, [.ref s1, .ref s2, .ref s3, .ref s4, .ref s5, .ref s6, .int 65535, .null, .null])), (s1, .inl (ca, 4, .inr (.inr (.inr (.inr (fun _ => none)))))), (q_13, .inr (2, [.int 0, .int 0, .int 0, .int 0]))] H := hP
          have hD : va_D A [(h0, .inr (8, [.ref s1, .ref s2, .ref s3, .ref s4, .ref s5, .ref s6, .int 65535, .null, .null])), (s1, .inl (ca, 4, .inr (.inr (.inr (.inr (fun _ => none)))))), (q_13, .inr (2, [.int 0, .int 0, .int 0, .int 0]))] := hD
          refine W.widen (k := 1) (n := 4) (by omega) (by omega) ?_
          refine lv_dup hx hb dX8_stretch_39 rfl ?_
          refine lv_iload_n hx hb dX8_stretch_40 rfl (lv_at hl 2 rfl) ?_
          refine lv_iload_n hx hb dX8_stretch_41 rfl (lv_at hl 3 rfl) ?_
          refine lv_iload hx hb dX8_stretch_42 (lv_at hl 4 rfl) ?_
          refine lv_iload hx hb dX8_stretch_44 (lv_at hl 5 rfl) ?_
          have hPc := hP.sub (ws' := [(q_13, .inr (2, [.int 0, .int 0, .int 0, .int 0]))]) [2] rfl
          have hDc := hD.sub (ws' := [(q_13, .inr (2, [.int 0, .int 0, .int 0, .int 0]))]) [2] (by decide) rfl
          have hKc := hK.sub (tys' := []) [] rfl
          have hFc := va_free (wc := [(q_13, .inr (2, [.int 0, .int 0, .int 0, .int 0]))]) hD hS hA [2] rfl
          refine va_callv (va_runI (As := [.int a2, .int a3, .int a4, .int a5]) (rest := [.ref q_13, .int a1, .ref h0]) ⟨hx, hb, hml, hown, hts⟩ (k_X2_init l D H.size q_13 a2 a3 a4 a5) (cwI 4 hts (gI bw_143) rfl rfl rfl (hts _ bw_142) (hts _ bw_144) (hts _ bw_145) rfl (by decide +kernel) ⟨Nat.le_of_ble_eq_true rfl, Nat.le_of_ble_eq_true rfl⟩) ⟨cP_blind, cP_at hPc hKc hDc hN⟩ rfl rfl hl.1 rfl (lv_room (Nat.le_of_ble_eq_true rfl)) dX8_stretch_46 ⟨Nat.le_of_ble_eq_true rfl, Nat.le_of_ble_eq_true rfl⟩) hS (fun q _ h => hFc q h) hFc (fun u9 t9 H1 locs ht hvm hr_14 hB hz1 hk1 hS => ?_)
          try dsimp only at hr_14
          have hP1 : va_P D vwCl [] H1 := vP_nil
          have hD1 : va_D (va_A [(q_13, .inr (2, [.int 0, .int 0, .int 0, .int 0]))] H.size) [] := vD_nil
          obtain ⟨hP, hD⟩ := va_join (wr := [(h0, .inr (8, [.ref s1, .ref s2, .ref s3, .ref s4, .ref s5, .ref s6, .int 65535, .null, .null])), (s1, .inl (ca, 4, .inr (.inr (.inr (.inr (fun _ => none))))))]) (w1 := []) hP hD [2] [0, 1] rfl rfl (by decide) (by decide) hk1 hFc hP1 hD1
          clear hz1 hk1 hFc hKc hDc hPc
          generalize H1 = H at hP hS ⊢
          have hP : va_P D vwCl [(h0, .inr (8, [.ref s1, .ref s2, .ref s3, .ref s4, .ref s5, .ref s6, .int 65535, .null, .null])), (s1, .inl (ca, 4, .inr (.inr (.inr (.inr (fun _ => none))))))] H := hP
          have hD : va_D A [(h0, .inr (8, [.ref s1, .ref s2, .ref s3, .ref s4, .ref s5, .ref s6, .int 65535, .null, .null])), (s1, .inl (ca, 4, .inr (.inr (.inr (.inr (fun _ => none))))))] := hD
          refine lv_iload hx hb dX8_stretch_49 (lv_at hl 6 rfl) ?_
          refine va_new (ci := 2) (fs := [.int 0, .int 0, .int 0, .int 0]) (C := RX2) (T := TX2) (N := 4) hx hb hts hi_X2 tyX2 tyX2_ok hown (hts _ bw_140) (hts _ bw_141) (hts _ bw_142) hK hP hD hS hA rfl z_X2 (Nat.le_of_ble_eq_true rfl) (Nat.le_of_ble_eq_true rfl) dX8_stretch_51 (fun q_15 H hP hD hS => ?_)
          have hP : va_P D vwCl [(h0, .inr (8, [.ref s1, .ref s2, .ref s3, .ref s4, .ref s5, .ref s6, .int 65535, .null, .null])), (s1, .inl (ca, 4, .inr (.inr (.inr (.inr (fun _ => none)))))), (q_15, .inr (2, [.int 0, .int 0, .int 0, .int 0]))] H := hP
          have hD : va_D A [(h0, .inr (8, [.ref s1, .ref s2, .ref s3, .ref s4, .ref s5, .ref s6, .int 65535, .null, .null])), (s1, .inl (ca, 4, .inr (.inr (.inr (.inr (fun _ => none)))))), (q_15, .inr (2, [.int 0, .int 0, .int 0, .int 0]))] := hD
          refine W.widen (k := 2) (n := 8) (by omega) (by omega) ?_
          refine lv_dup hx hb dX8_stretch_54 rfl ?_
          refine lv_iload hx hb dX8_stretch_55 (lv_at hl 7 rfl) ?_
          refine lv_iload hx hb dX8_stretch_57 (lv_at hl 8 rfl) ?_
          refine lv_iload hx hb dX8_stretch_59 (lv_at hl 9 rfl) ?_
          refine lv_iload hx hb dX8_stretch_61 (lv_at hl 10 rfl) ?_
          have hPc := hP.sub (ws' := [(q_15, .inr (2, [.int 0, .int 0, .int 0, .int 0]))]) [2] rfl
          have hDc := hD.sub (ws' := [(q_15, .inr (2, [.int 0, .int 0, .int 0, .int 0]))]) [2] (by decide) rfl
          have hKc := hK.sub (tys' := []) [] rfl
          have hFc := va_free (wc := [(q_15, .inr (2, [.int 0, .int 0, .int 0, .int 0]))]) hD hS hA [2] rfl
          refine va_callv (va_runI (As := [.int a7, .int a8, .int a9, .int a10]) (rest := [.ref q_15, .int a6, .ref q_13, .int a1, .ref h0]) ⟨hx, hb, hml, hown, hts⟩ (k_X2_init l D H.size q_15 a7 a8 a9 a10) (cwI 4 hts (gI bw_143) rfl rfl rfl (hts _ bw_142) (hts _ bw_144) (hts _ bw_145) rfl (by decide +kernel) ⟨Nat.le_of_ble_eq_true rfl, Nat.le_of_ble_eq_true rfl⟩) ⟨cP_blind, cP_at hPc hKc hDc hN⟩ rfl rfl hl.1 rfl (lv_room (Nat.le_of_ble_eq_true rfl)) dX8_stretch_63 ⟨Nat.le_of_ble_eq_true rfl, Nat.le_of_ble_eq_true rfl⟩) hS (fun q _ h => hFc q h) hFc (fun u9 t9 H1 locs ht hvm hr_16 hB hz1 hk1 hS => ?_)
          try dsimp only at hr_16
          have hP1 : va_P D vwCl [] H1 := vP_nil
          have hD1 : va_D (va_A [(q_15, .inr (2, [.int 0, .int 0, .int 0, .int 0]))] H.size) [] := vD_nil
          obtain ⟨hP, hD⟩ := va_join (wr := [(h0, .inr (8, [.ref s1, .ref s2, .ref s3, .ref s4, .ref s5, .ref s6, .int 65535, .null, .null])), (s1, .inl (ca, 4, .inr (.inr (.inr (.inr (fun _ => none))))))]) (w1 := []) hP hD [2] [0, 1] rfl rfl (by decide) (by decide) hk1 hFc hP1 hD1
          clear hz1 hk1 hFc hKc hDc hPc
          generalize H1 = H at hP hS ⊢
          have hP : va_P D vwCl [(h0, .inr (8, [.ref s1, .ref s2, .ref s3, .ref s4, .ref s5, .ref s6, .int 65535, .null, .null])), (s1, .inl (ca, 4, .inr (.inr (.inr (.inr (fun _ => none))))))] H := hP
          have hD : va_D A [(h0, .inr (8, [.ref s1, .ref s2, .ref s3, .ref s4, .ref s5, .ref s6, .int 65535, .null, .null])), (s1, .inl (ca, 4, .inr (.inr (.inr (.inr (fun _ => none))))))] := hD
          have hPc := hP.sub (ws' := [(h0, .inr (8, [.ref s1, .ref s2, .ref s3, .ref s4, .ref s5, .ref s6, .int 65535, .null, .null])), (s1, .inl (ca, 4, .inr (.inr (.inr (.inr (fun _ => none))))))]) [0, 1] rfl
          have hDc := hD.sub (ws' := [(h0, .inr (8, [.ref s1, .ref s2, .ref s3, .ref s4, .ref s5, .ref s6, .int 65535, .null, .null])), (s1, .inl (ca, 4, .inr (.inr (.inr (.inr (fun _ => none))))))]) [0, 1] (by decide) rfl
          have hKc := hK.sub (tys' := [(ca, .object "DotBench$Sheet")]) [0] rfl
          have hFc := va_free (wc := [(h0, .inr (8, [.ref s1, .ref s2, .ref s3, .ref s4, .ref s5, .ref s6, .int 65535, .null, .null])), (s1, .inl (ca, 4, .inr (.inr (.inr (.inr (fun _ => none))))))]) hD hS hA [0, 1] rfl
          refine va_calli (va_runV (As := [.int a1, .ref q_13, .int a6, .ref q_15]) (rest := []) ⟨hx, hb, hml, hown, hts⟩ (k_X8_carry l D H.size h0 s1 s2 s3 s4 s5 s6 ca q_13 q_15 a1 a6) (cwV 4 hts (gV bw_147 bw_148 bw_149 bw_1 bw_146) rfl rfl rfl (by decide +kernel) ⟨Nat.le_of_ble_eq_true rfl, Nat.le_of_ble_eq_true rfl⟩) ⟨cP_blind, va_recv hKc hPc (ci := 8) (q0 := 0) rfl rfl, cP_at hPc hKc hDc hN⟩ rfl rfl hl.1 rfl (lv_room (Nat.le_of_ble_eq_true rfl)) dX8_stretch_66 ⟨Nat.le_of_ble_eq_true rfl, Nat.le_of_ble_eq_true rfl⟩) hS (fun q _ h => hFc q h) hFc (fun r_17 u9 t9 H1 locs ht hvm hr_17 hB hz1 hk1 hS => ?_)
          try dsimp only at hr_17
          have hP1 : va_P D vwCl [] H1 := vP_nil
          have hD1 : va_D (va_A [(h0, .inr (8, [.ref s1, .ref s2, .ref s3, .ref s4, .ref s5, .ref s6, .int 65535, .null, .null])), (s1, .inl (ca, 4, .inr (.inr (.inr (.inr (fun _ => none))))))] H.size) [] := vD_nil
          obtain ⟨hP, hD⟩ := va_join (wr := []) (w1 := []) hP hD [0, 1] [] rfl rfl (by decide) (by decide) hk1 hFc hP1 hD1
          clear hz1 hk1 hFc hKc hDc hPc
          generalize H1 = H at hP hS ⊢
          have hP : va_P D vwCl [] H := hP
          have hD : va_D A [] := hD
          subst hr_17
          exact W.iret (v := (-1)) hx hb hr (fun t ht hW => ⟨⟨(-1), (), rfl, rfl, trivial⟩, hS.F ht⟩) hS.2.2 dX8_stretch_69
        · skip
          have f_12 := bz0 hr_10 c_11
          refine lv_iconst (v := (-1)) hx hb dX8_stretch_32 (by decide) ?_
          refine W.widen (k := 2) (n := 8) (by omega) (by omega) ?_
          exact W.iret (v := (-1)) hx hb hr (fun t ht hW => ⟨⟨(-1), (), rfl, rfl, trivial⟩, hS.F ht⟩) hS.2.2 dX8_stretch_33

set_option maxHeartbeats 4000000 in
set_option maxRecDepth 100000 in
theorem k_X8_dot (l : Launch) (D : va_G) (sz : Nat) (h0 s1 s2 s3 s4 s5 s6 : Nat) (ca : ClassId) (a1 a2 a3 : Int32) : Met l yX8_dot (wB yX8_dot cX8_dot 5 (some .int)) ({ frames := 1, cells := 0, slots := 0, locals := 21 }) (cP D [(h0, .inr (8, [.ref s1, .ref s2, .ref s3, .ref s4, .ref s5, .ref s6, .int 65535, .null, .null])), (s1, .inl (ca, 4, .inr (.inr (.inr (.inr (fun _ => none))))))] [(ca, .object "DotBench$Sheet")] sz [.ref h0, .int a1, .int a2, .int a3]) (va_Qi (fun (r : Int32) (_ : Unit) => r = 0) (fun (_ : Unit) (_ : State) => True) (va_A [(h0, .inr (8, [.ref s1, .ref s2, .ref s3, .ref s4, .ref s5, .ref s6, .int 65535, .null, .null])), (s1, .inl (ca, 4, .inr (.inr (.inr (.inr (fun _ => none))))))] sz)) 0 0 (va_A [(h0, .inr (8, [.ref s1, .ref s2, .ref s3, .ref s4, .ref s5, .ref s6, .int 65535, .null, .null])), (s1, .inl (ca, 4, .inr (.inr (.inr (.inr (fun _ => none))))))] sz) := by
  refine Met.ofW (cc := cX8_dot) (maxL := 5) (ret := (some .int)) (by decide) rfl ?_
  intro p e s m args below meth c s₁ B hml hv
  obtain ⟨rfl, hsz, hP, hK, hD0, hN⟩ := hv
  have hx := B.exec
  have hb := B.bytes
  have hr := B.returns
  have hts0 := atoms_spec (ws := (wB yX8_dot cX8_dot 5 (some .int))) B.pre
  have hts : ∀ w ∈ bigW, w.before _ s = true := fun w h => hts0 w (List.mem_cons_of_mem _ h)
  have hown : s.vm.findClass RX8 = some m.cls := findClass_of_methodNamed B.named
  have hlocks := B.notSynchronized
  subst hsz
  have hD := hD0.self (sz := s.heap.size)
  generalize hAe : va_A [(h0, .inr (8, [.ref s1, .ref s2, .ref s3, .ref s4, .ref s5, .ref s6, .int 65535, .null, .null])), (s1, .inl (ca, 4, .inr (.inr (.inr (.inr (fun _ => none))))))] s.heap.size = A at hD ⊢
  have hA : ∀ q : Nat, s.heap.size ≤ q → A q := fun q h => by rw [← hAe]; exact Or.inr h
  have hS : va_S A s.heap s.heap [] := va_S.rf
  have hP : va_P D vwCl [(h0, .inr (8, [.ref s1, .ref s2, .ref s3, .ref s4, .ref s5, .ref s6, .int 65535, .null, .null])), (s1, .inl (ca, 4, .inr (.inr (.inr (.inr (fun _ => none))))))] s.heap := hP
  have hl := lv_entry ([.ref h0, .int a1, .int a2, .int a3]) (n := 5) (Nat.le_of_ble_eq_true rfl)
  rw [lg_entry_eq]
  generalize (lg_sl ([.ref h0, .int a1, .int a2, .int a3]) ++ List.replicate (5 - (lg_sl ([.ref h0, .int a1, .int a2, .int a3])).length) Slot.unset).toArray = ls at hl ⊢
  have hl : lv_has ls 5 [(0, .ref h0), (1, .int a1), (2, .int a2), (3, .int a3)] := hl
  refine lv_aload_n hx hb dX8_dot_0 rfl (lv_at hl 0 rfl) ?_
  refine lv_iload_n hx hb dX8_dot_1 rfl (lv_at hl 1 rfl) ?_
  have hPc := hP.sub (ws' := [(h0, .inr (8, [.ref s1, .ref s2, .ref s3, .ref s4, .ref s5, .ref s6, .int 65535, .null, .null])), (s1, .inl (ca, 4, .inr (.inr (.inr (.inr (fun _ => none))))))]) [0, 1] rfl
  have hDc := hD.sub (ws' := [(h0, .inr (8, [.ref s1, .ref s2, .ref s3, .ref s4, .ref s5, .ref s6, .int 65535, .null, .null])), (s1, .inl (ca, 4, .inr (.inr (.inr (.inr (fun _ => none))))))]) [0, 1] (by decide) rfl
  have hKc := hK.sub (tys' := [(ca, .object "DotBench$Sheet")]) [0] rfl
  have hFc := va_free (wc := [(h0, .inr (8, [.ref s1, .ref s2, .ref s3, .ref s4, .ref s5, .ref s6, .int 65535, .null, .null])), (s1, .inl (ca, 4, .inr (.inr (.inr (.inr (fun _ => none))))))]) hD hS hA [0, 1] rfl
  refine va_callq (va_runV (As := [.int a1]) (rest := []) ⟨hx, hb, hml, hown, hts⟩ (k_X8_sheetAt l D s.heap.size h0 s1 s2 s3 s4 s5 s6 ca a1) (cwV 1 hts (gV bw_115 bw_116 bw_117 bw_1 bw_114) rfl rfl rfl (by decide +kernel) ⟨Nat.le_of_ble_eq_true rfl, Nat.le_of_ble_eq_true rfl⟩) ⟨cP_blind, va_recv hKc hPc (ci := 8) (q0 := 0) rfl rfl, cP_at hPc hKc hDc hN⟩ rfl rfl hl.1 rfl (lv_room (Nat.le_of_ble_eq_true rfl)) dX8_dot_2 ⟨Nat.le_of_ble_eq_true rfl, Nat.le_of_ble_eq_true rfl⟩) hS (fun q _ h => hFc q h) hFc (fun r_1 u9 t9 H1 locs ht hvm hr_1 hB hz1 hk1 hS => ?_)
  try dsimp only at hr_1
  obtain ⟨hP1, hK1, hD1⟩ := hB
  rw [ht] at hP1
  obtain ⟨hP, hD⟩ := va_join (wr := []) (w1 := [(h0, .inr (8, [.ref s1, .ref s2, .ref s3, .ref s4, .ref s5, .ref s6, .int 65535, .null, .null])), (s1, .inl (ca, 4, .inr (.inr (.inr (.inr (fun _ => none))))))]) hP hD [0, 1] [] rfl rfl (by decide) (by decide) hk1 hFc hP1 hD1
  clear hz1 hk1 hFc hKc hDc hPc
  generalize H1 = H at hP hS ⊢
  have hP : va_P D vwCl [(h0, .inr (8, [.ref s1, .ref s2, .ref s3, .ref s4, .ref s5, .ref s6, .int 65535, .null, .null])), (s1, .inl (ca, 4, .inr (.inr (.inr (.inr (fun _ => none))))))] H := hP
  have hD : va_D A [(h0, .inr (8, [.ref s1, .ref s2, .ref s3, .ref s4, .ref s5, .ref s6, .int 65535, .null, .null])), (s1, .inl (ca, 4, .inr (.inr (.inr (.inr (fun _ => none))))))] := hD
  subst hr_1
  refine my_topv (v := .null) rfl ?_
  refine lv_astoreN (lv' := [(4, .null), (0, .ref h0), (1, .int a1), (2, .int a2), (3, .int a3)]) hx hb dX8_dot_5 hl (by decide) rfl (fun ls hl => ?_)
  refine lv_aloadN hx hb dX8_dot_7 (lv_at hl 0 rfl) ?_
  refine lv_ifnonnullN hx hb dX8_dot_9 ?_
  refine lv_iconst (v := 0) hx hb dX8_dot_12 (by decide) ?_
  refine lv_goto (tgt := 23) hx hb dX8_dot_13 (by decide) ?_
  exact W.iret (v := 0) hx hb hr (fun t ht hW => ⟨⟨0, (), rfl, rfl, trivial⟩, hS.F ht⟩) hS.2.2 dX8_dot_23

set_option maxHeartbeats 4000000 in
set_option maxRecDepth 100000 in
theorem k_X8_count (l : Launch) (D : va_G) (sz : Nat) (h0 s1 s2 s3 s4 s5 s6 : Nat) (ca : ClassId) (a1 a2 : Int32) : Met l yX8_count (wB yX8_count cX8_count 7 (some .int)) ({ frames := 1, cells := 0, slots := 0, locals := 21 }) (cP D [(h0, .inr (8, [.ref s1, .ref s2, .ref s3, .ref s4, .ref s5, .ref s6, .int 65535, .null, .null])), (s1, .inl (ca, 4, .inr (.inr (.inr (.inr (fun _ => none))))))] [(ca, .object "DotBench$Sheet")] sz [.ref h0, .int a1, .int a2]) (va_Qi (fun (r : Int32) (_ : Unit) => r = -1) (fun (_ : Unit) (_ : State) => True) (va_A [(h0, .inr (8, [.ref s1, .ref s2, .ref s3, .ref s4, .ref s5, .ref s6, .int 65535, .null, .null])), (s1, .inl (ca, 4, .inr (.inr (.inr (.inr (fun _ => none))))))] sz)) 0 0 (va_A [(h0, .inr (8, [.ref s1, .ref s2, .ref s3, .ref s4, .ref s5, .ref s6, .int 65535, .null, .null])), (s1, .inl (ca, 4, .inr (.inr (.inr (.inr (fun _ => none))))))] sz) := by
  refine Met.ofW (cc := cX8_count) (maxL := 7) (ret := (some .int)) (by decide) rfl ?_
  intro p e s m args below meth c s₁ B hml hv
  obtain ⟨rfl, hsz, hP, hK, hD0, hN⟩ := hv
  have hx := B.exec
  have hb := B.bytes
  have hr := B.returns
  have hts0 := atoms_spec (ws := (wB yX8_count cX8_count 7 (some .int))) B.pre
  have hts : ∀ w ∈ bigW, w.before _ s = true := fun w h => hts0 w (List.mem_cons_of_mem _ h)
  have hown : s.vm.findClass RX8 = some m.cls := findClass_of_methodNamed B.named
  have hlocks := B.notSynchronized
  subst hsz
  have hD := hD0.self (sz := s.heap.size)
  generalize hAe : va_A [(h0, .inr (8, [.ref s1, .ref s2, .ref s3, .ref s4, .ref s5, .ref s6, .int 65535, .null, .null])), (s1, .inl (ca, 4, .inr (.inr (.inr (.inr (fun _ => none))))))] s.heap.size = A at hD ⊢
  have hA : ∀ q : Nat, s.heap.size ≤ q → A q := fun q h => by rw [← hAe]; exact Or.inr h
  have hS : va_S A s.heap s.heap [] := va_S.rf
  have hP : va_P D vwCl [(h0, .inr (8, [.ref s1, .ref s2, .ref s3, .ref s4, .ref s5, .ref s6, .int 65535, .null, .null])), (s1, .inl (ca, 4, .inr (.inr (.inr (.inr (fun _ => none))))))] s.heap := hP
  have hl := lv_entry ([.ref h0, .int a1, .int a2]) (n := 7) (Nat.le_of_ble_eq_true rfl)
  rw [lg_entry_eq]
  generalize (lg_sl ([.ref h0, .int a1, .int a2]) ++ List.replicate (7 - (lg_sl ([.ref h0, .int a1, .int a2])).length) Slot.unset).toArray = ls at hl ⊢
  have hl : lv_has ls 7 [(0, .ref h0), (1, .int a1), (2, .int a2)] := hl
  refine lv_aload_n hx hb dX8_count_0 rfl (lv_at hl 0 rfl) ?_
  refine lv_iload_n hx hb dX8_count_1 rfl (lv_at hl 1 rfl) ?_
  have hPc := hP.sub (ws' := [(h0, .inr (8, [.ref s1, .ref s2, .ref s3, .ref s4, .ref s5, .ref s6, .int 65535, .null, .null])), (s1, .inl (ca, 4, .inr (.inr (.inr (.inr (fun _ => none))))))]) [0, 1] rfl
  have hDc := hD.sub (ws' := [(h0, .inr (8, [.ref s1, .ref s2, .ref s3, .ref s4, .ref s5, .ref s6, .int 65535, .null, .null])), (s1, .inl (ca, 4, .inr (.inr (.inr (.inr (fun _ => none))))))]) [0, 1] (by decide) rfl
  have hKc := hK.sub (tys' := [(ca, .object "DotBench$Sheet")]) [0] rfl
  have hFc := va_free (wc := [(h0, .inr (8, [.ref s1, .ref s2, .ref s3, .ref s4, .ref s5, .ref s6, .int 65535, .null, .null])), (s1, .inl (ca, 4, .inr (.inr (.inr (.inr (fun _ => none))))))]) hD hS hA [0, 1] rfl
  refine va_callq (va_runV (As := [.int a1]) (rest := []) ⟨hx, hb, hml, hown, hts⟩ (k_X8_sheetAt l D s.heap.size h0 s1 s2 s3 s4 s5 s6 ca a1) (cwV 1 hts (gV bw_115 bw_116 bw_117 bw_1 bw_114) rfl rfl rfl (by decide +kernel) ⟨Nat.le_of_ble_eq_true rfl, Nat.le_of_ble_eq_true rfl⟩) ⟨cP_blind, va_recv hKc hPc (ci := 8) (q0 := 0) rfl rfl, cP_at hPc hKc hDc hN⟩ rfl rfl hl.1 rfl (lv_room (Nat.le_of_ble_eq_true rfl)) dX8_count_2 ⟨Nat.le_of_ble_eq_true rfl, Nat.le_of_ble_eq_true rfl⟩) hS (fun q _ h => hFc q h) hFc (fun r_1 u9 t9 H1 locs ht hvm hr_1 hB hz1 hk1 hS => ?_)
  try dsimp only at hr_1
  obtain ⟨hP1, hK1, hD1⟩ := hB
  rw [ht] at hP1
  obtain ⟨hP, hD⟩ := va_join (wr := []) (w1 := [(h0, .inr (8, [.ref s1, .ref s2, .ref s3, .ref s4, .ref s5, .ref s6, .int 65535, .null, .null])), (s1, .inl (ca, 4, .inr (.inr (.inr (.inr (fun _ => none))))))]) hP hD [0, 1] [] rfl rfl (by decide) (by decide) hk1 hFc hP1 hD1
  clear hz1 hk1 hFc hKc hDc hPc
  generalize H1 = H at hP hS ⊢
  have hP : va_P D vwCl [(h0, .inr (8, [.ref s1, .ref s2, .ref s3, .ref s4, .ref s5, .ref s6, .int 65535, .null, .null])), (s1, .inl (ca, 4, .inr (.inr (.inr (.inr (fun _ => none))))))] H := hP
  have hD : va_D A [(h0, .inr (8, [.ref s1, .ref s2, .ref s3, .ref s4, .ref s5, .ref s6, .int 65535, .null, .null])), (s1, .inl (ca, 4, .inr (.inr (.inr (.inr (fun _ => none))))))] := hD
  subst hr_1
  refine my_topv (v := .null) rfl ?_
  refine lv_astore_nN (lv' := [(3, .null), (0, .ref h0), (1, .int a1), (2, .int a2)]) hx hb dX8_count_5 rfl hl (by decide) rfl (fun ls hl => ?_)
  refine lv_aload_nN hx hb dX8_count_6 rfl (lv_at hl 0 rfl) ?_
  refine lv_ifnonnullN hx hb dX8_count_7 ?_
  refine lv_iconst (v := (-1)) hx hb dX8_count_10 (by decide) ?_
  exact W.iret (v := (-1)) hx hb hr (fun t ht hW => ⟨⟨(-1), (), rfl, rfl, trivial⟩, hS.F ht⟩) hS.2.2 dX8_count_11

set_option maxHeartbeats 4000000 in
set_option maxRecDepth 100000 in
theorem k_X8_region (l : Launch) (D : va_G) (sz : Nat) (h0 s1 s2 s3 s4 s5 s6 : Nat) (ca : ClassId) (a1 a2 a3 a4 : Int32) : Met l yX8_region (wB yX8_region cX8_region 6 (some .int)) ({ frames := 1, cells := 0, slots := 0, locals := 21 }) (cP D [(h0, .inr (8, [.ref s1, .ref s2, .ref s3, .ref s4, .ref s5, .ref s6, .int 65535, .null, .null])), (s1, .inl (ca, 4, .inr (.inr (.inr (.inr (fun _ => none))))))] [(ca, .object "DotBench$Sheet")] sz [.ref h0, .int a1, .int a2, .int a3, .int a4]) (va_Qi (fun (r : Int32) (_ : Unit) => r = -1) (fun (_ : Unit) (_ : State) => True) (va_A [(h0, .inr (8, [.ref s1, .ref s2, .ref s3, .ref s4, .ref s5, .ref s6, .int 65535, .null, .null])), (s1, .inl (ca, 4, .inr (.inr (.inr (.inr (fun _ => none))))))] sz)) 0 0 (va_A [(h0, .inr (8, [.ref s1, .ref s2, .ref s3, .ref s4, .ref s5, .ref s6, .int 65535, .null, .null])), (s1, .inl (ca, 4, .inr (.inr (.inr (.inr (fun _ => none))))))] sz) := by
  refine Met.ofW (cc := cX8_region) (maxL := 6) (ret := (some .int)) (by decide) rfl ?_
  intro p e s m args below meth c s₁ B hml hv
  obtain ⟨rfl, hsz, hP, hK, hD0, hN⟩ := hv
  have hx := B.exec
  have hb := B.bytes
  have hr := B.returns
  have hts0 := atoms_spec (ws := (wB yX8_region cX8_region 6 (some .int))) B.pre
  have hts : ∀ w ∈ bigW, w.before _ s = true := fun w h => hts0 w (List.mem_cons_of_mem _ h)
  have hown : s.vm.findClass RX8 = some m.cls := findClass_of_methodNamed B.named
  have hlocks := B.notSynchronized
  subst hsz
  have hD := hD0.self (sz := s.heap.size)
  generalize hAe : va_A [(h0, .inr (8, [.ref s1, .ref s2, .ref s3, .ref s4, .ref s5, .ref s6, .int 65535, .null, .null])), (s1, .inl (ca, 4, .inr (.inr (.inr (.inr (fun _ => none))))))] s.heap.size = A at hD ⊢
  have hA : ∀ q : Nat, s.heap.size ≤ q → A q := fun q h => by rw [← hAe]; exact Or.inr h
  have hS : va_S A s.heap s.heap [] := va_S.rf
  have hP : va_P D vwCl [(h0, .inr (8, [.ref s1, .ref s2, .ref s3, .ref s4, .ref s5, .ref s6, .int 65535, .null, .null])), (s1, .inl (ca, 4, .inr (.inr (.inr (.inr (fun _ => none))))))] s.heap := hP
  have hl := lv_entry ([.ref h0, .int a1, .int a2, .int a3, .int a4]) (n := 6) (Nat.le_of_ble_eq_true rfl)
  rw [lg_entry_eq]
  generalize (lg_sl ([.ref h0, .int a1, .int a2, .int a3, .int a4]) ++ List.replicate (6 - (lg_sl ([.ref h0, .int a1, .int a2, .int a3, .int a4])).length) Slot.unset).toArray = ls at hl ⊢
  have hl : lv_has ls 6 [(0, .ref h0), (1, .int a1), (2, .int a2), (3, .int a3), (4, .int a4)] := hl
  refine lv_aload_n hx hb dX8_region_0 rfl (lv_at hl 0 rfl) ?_
  refine lv_iload_n hx hb dX8_region_1 rfl (lv_at hl 1 rfl) ?_
  have hPc := hP.sub (ws' := [(h0, .inr (8, [.ref s1, .ref s2, .ref s3, .ref s4, .ref s5, .ref s6, .int 65535, .null, .null])), (s1, .inl (ca, 4, .inr (.inr (.inr (.inr (fun _ => none))))))]) [0, 1] rfl
  have hDc := hD.sub (ws' := [(h0, .inr (8, [.ref s1, .ref s2, .ref s3, .ref s4, .ref s5, .ref s6, .int 65535, .null, .null])), (s1, .inl (ca, 4, .inr (.inr (.inr (.inr (fun _ => none))))))]) [0, 1] (by decide) rfl
  have hKc := hK.sub (tys' := [(ca, .object "DotBench$Sheet")]) [0] rfl
  have hFc := va_free (wc := [(h0, .inr (8, [.ref s1, .ref s2, .ref s3, .ref s4, .ref s5, .ref s6, .int 65535, .null, .null])), (s1, .inl (ca, 4, .inr (.inr (.inr (.inr (fun _ => none))))))]) hD hS hA [0, 1] rfl
  refine va_callq (va_runV (As := [.int a1]) (rest := []) ⟨hx, hb, hml, hown, hts⟩ (k_X8_sheetAt l D s.heap.size h0 s1 s2 s3 s4 s5 s6 ca a1) (cwV 1 hts (gV bw_115 bw_116 bw_117 bw_1 bw_114) rfl rfl rfl (by decide +kernel) ⟨Nat.le_of_ble_eq_true rfl, Nat.le_of_ble_eq_true rfl⟩) ⟨cP_blind, va_recv hKc hPc (ci := 8) (q0 := 0) rfl rfl, cP_at hPc hKc hDc hN⟩ rfl rfl hl.1 rfl (lv_room (Nat.le_of_ble_eq_true rfl)) dX8_region_2 ⟨Nat.le_of_ble_eq_true rfl, Nat.le_of_ble_eq_true rfl⟩) hS (fun q _ h => hFc q h) hFc (fun r_1 u9 t9 H1 locs ht hvm hr_1 hB hz1 hk1 hS => ?_)
  try dsimp only at hr_1
  obtain ⟨hP1, hK1, hD1⟩ := hB
  rw [ht] at hP1
  obtain ⟨hP, hD⟩ := va_join (wr := []) (w1 := [(h0, .inr (8, [.ref s1, .ref s2, .ref s3, .ref s4, .ref s5, .ref s6, .int 65535, .null, .null])), (s1, .inl (ca, 4, .inr (.inr (.inr (.inr (fun _ => none))))))]) hP hD [0, 1] [] rfl rfl (by decide) (by decide) hk1 hFc hP1 hD1
  clear hz1 hk1 hFc hKc hDc hPc
  generalize H1 = H at hP hS ⊢
  have hP : va_P D vwCl [(h0, .inr (8, [.ref s1, .ref s2, .ref s3, .ref s4, .ref s5, .ref s6, .int 65535, .null, .null])), (s1, .inl (ca, 4, .inr (.inr (.inr (.inr (fun _ => none))))))] H := hP
  have hD : va_D A [(h0, .inr (8, [.ref s1, .ref s2, .ref s3, .ref s4, .ref s5, .ref s6, .int 65535, .null, .null])), (s1, .inl (ca, 4, .inr (.inr (.inr (.inr (fun _ => none))))))] := hD
  subst hr_1
  refine my_topv (v := .null) rfl ?_
  refine lv_astoreN (lv' := [(5, .null), (0, .ref h0), (1, .int a1), (2, .int a2), (3, .int a3), (4, .int a4)]) hx hb dX8_region_5 hl (by decide) rfl (fun ls hl => ?_)
  refine lv_aloadN hx hb dX8_region_7 (lv_at hl 0 rfl) ?_
  refine lv_ifnullN (tgt := 22) hx hb dX8_region_9 (by decide) ?_
  refine lv_iconst (v := (-1)) hx hb dX8_region_22 (by decide) ?_
  exact W.iret (v := (-1)) hx hb hr (fun t ht hW => ⟨⟨(-1), (), rfl, rfl, trivial⟩, hS.F ht⟩) hS.2.2 dX8_region_23

set_option maxHeartbeats 4000000 in
set_option maxRecDepth 100000 in
theorem k_X8_differ (l : Launch) (D : va_G) (sz : Nat) (h0 s1 s2 s3 s4 s5 s6 : Nat) (ca : ClassId) (a1 a2 : Int32) : Met l yX8_differ (wB yX8_differ cX8_differ 8 (some .int)) ({ frames := 1, cells := 0, slots := 0, locals := 21 }) (cP D [(h0, .inr (8, [.ref s1, .ref s2, .ref s3, .ref s4, .ref s5, .ref s6, .int 65535, .null, .null])), (s1, .inl (ca, 4, .inr (.inr (.inr (.inr (fun _ => none))))))] [(ca, .object "DotBench$Sheet")] sz [.ref h0, .int a1, .int a2]) (va_Qi (fun (r : Int32) (_ : Unit) => r = -1) (fun (_ : Unit) (_ : State) => True) (va_A [(h0, .inr (8, [.ref s1, .ref s2, .ref s3, .ref s4, .ref s5, .ref s6, .int 65535, .null, .null])), (s1, .inl (ca, 4, .inr (.inr (.inr (.inr (fun _ => none))))))] sz)) 0 0 (va_A [(h0, .inr (8, [.ref s1, .ref s2, .ref s3, .ref s4, .ref s5, .ref s6, .int 65535, .null, .null])), (s1, .inl (ca, 4, .inr (.inr (.inr (.inr (fun _ => none))))))] sz) := by
  refine Met.ofW (cc := cX8_differ) (maxL := 8) (ret := (some .int)) (by decide) rfl ?_
  intro p e s m args below meth c s₁ B hml hv
  obtain ⟨rfl, hsz, hP, hK, hD0, hN⟩ := hv
  have hx := B.exec
  have hb := B.bytes
  have hr := B.returns
  have hts0 := atoms_spec (ws := (wB yX8_differ cX8_differ 8 (some .int))) B.pre
  have hts : ∀ w ∈ bigW, w.before _ s = true := fun w h => hts0 w (List.mem_cons_of_mem _ h)
  have hown : s.vm.findClass RX8 = some m.cls := findClass_of_methodNamed B.named
  have hlocks := B.notSynchronized
  subst hsz
  have hD := hD0.self (sz := s.heap.size)
  generalize hAe : va_A [(h0, .inr (8, [.ref s1, .ref s2, .ref s3, .ref s4, .ref s5, .ref s6, .int 65535, .null, .null])), (s1, .inl (ca, 4, .inr (.inr (.inr (.inr (fun _ => none))))))] s.heap.size = A at hD ⊢
  have hA : ∀ q : Nat, s.heap.size ≤ q → A q := fun q h => by rw [← hAe]; exact Or.inr h
  have hS : va_S A s.heap s.heap [] := va_S.rf
  have hP : va_P D vwCl [(h0, .inr (8, [.ref s1, .ref s2, .ref s3, .ref s4, .ref s5, .ref s6, .int 65535, .null, .null])), (s1, .inl (ca, 4, .inr (.inr (.inr (.inr (fun _ => none))))))] s.heap := hP
  have hl := lv_entry ([.ref h0, .int a1, .int a2]) (n := 8) (Nat.le_of_ble_eq_true rfl)
  rw [lg_entry_eq]
  generalize (lg_sl ([.ref h0, .int a1, .int a2]) ++ List.replicate (8 - (lg_sl ([.ref h0, .int a1, .int a2])).length) Slot.unset).toArray = ls at hl ⊢
  have hl : lv_has ls 8 [(0, .ref h0), (1, .int a1), (2, .int a2)] := hl
  refine lv_aload_n hx hb dX8_differ_0 rfl (lv_at hl 0 rfl) ?_
  refine lv_iload_n hx hb dX8_differ_1 rfl (lv_at hl 1 rfl) ?_
  have hPc := hP.sub (ws' := [(h0, .inr (8, [.ref s1, .ref s2, .ref s3, .ref s4, .ref s5, .ref s6, .int 65535, .null, .null])), (s1, .inl (ca, 4, .inr (.inr (.inr (.inr (fun _ => none))))))]) [0, 1] rfl
  have hDc := hD.sub (ws' := [(h0, .inr (8, [.ref s1, .ref s2, .ref s3, .ref s4, .ref s5, .ref s6, .int 65535, .null, .null])), (s1, .inl (ca, 4, .inr (.inr (.inr (.inr (fun _ => none))))))]) [0, 1] (by decide) rfl
  have hKc := hK.sub (tys' := [(ca, .object "DotBench$Sheet")]) [0] rfl
  have hFc := va_free (wc := [(h0, .inr (8, [.ref s1, .ref s2, .ref s3, .ref s4, .ref s5, .ref s6, .int 65535, .null, .null])), (s1, .inl (ca, 4, .inr (.inr (.inr (.inr (fun _ => none))))))]) hD hS hA [0, 1] rfl
  refine va_callq (va_runV (As := [.int a1]) (rest := []) ⟨hx, hb, hml, hown, hts⟩ (k_X8_sheetAt l D s.heap.size h0 s1 s2 s3 s4 s5 s6 ca a1) (cwV 1 hts (gV bw_115 bw_116 bw_117 bw_1 bw_114) rfl rfl rfl (by decide +kernel) ⟨Nat.le_of_ble_eq_true rfl, Nat.le_of_ble_eq_true rfl⟩) ⟨cP_blind, va_recv hKc hPc (ci := 8) (q0 := 0) rfl rfl, cP_at hPc hKc hDc hN⟩ rfl rfl hl.1 rfl (lv_room (Nat.le_of_ble_eq_true rfl)) dX8_differ_2 ⟨Nat.le_of_ble_eq_true rfl, Nat.le_of_ble_eq_true rfl⟩) hS (fun q _ h => hFc q h) hFc (fun r_1 u9 t9 H1 locs ht hvm hr_1 hB hz1 hk1 hS => ?_)
  try dsimp only at hr_1
  obtain ⟨hP1, hK1, hD1⟩ := hB
  rw [ht] at hP1
  obtain ⟨hP, hD⟩ := va_join (wr := []) (w1 := [(h0, .inr (8, [.ref s1, .ref s2, .ref s3, .ref s4, .ref s5, .ref s6, .int 65535, .null, .null])), (s1, .inl (ca, 4, .inr (.inr (.inr (.inr (fun _ => none))))))]) hP hD [0, 1] [] rfl rfl (by decide) (by decide) hk1 hFc hP1 hD1
  clear hz1 hk1 hFc hKc hDc hPc
  generalize H1 = H at hP hS ⊢
  have hP : va_P D vwCl [(h0, .inr (8, [.ref s1, .ref s2, .ref s3, .ref s4, .ref s5, .ref s6, .int 65535, .null, .null])), (s1, .inl (ca, 4, .inr (.inr (.inr (.inr (fun _ => none))))))] H := hP
  have hD : va_D A [(h0, .inr (8, [.ref s1, .ref s2, .ref s3, .ref s4, .ref s5, .ref s6, .int 65535, .null, .null])), (s1, .inl (ca, 4, .inr (.inr (.inr (.inr (fun _ => none))))))] := hD
  subst hr_1
  refine my_topv (v := .null) rfl ?_
  refine lv_astore_nN (lv' := [(3, .null), (0, .ref h0), (1, .int a1), (2, .int a2)]) hx hb dX8_differ_5 rfl hl (by decide) rfl (fun ls hl => ?_)
  refine lv_aload_n hx hb dX8_differ_6 rfl (lv_at hl 1 rfl) ?_
  refine lv_iload_n hx hb dX8_differ_7 rfl (lv_at hl 3 rfl) ?_
  have hPc := hP.sub (ws' := [(h0, .inr (8, [.ref s1, .ref s2, .ref s3, .ref s4, .ref s5, .ref s6, .int 65535, .null, .null])), (s1, .inl (ca, 4, .inr (.inr (.inr (.inr (fun _ => none))))))]) [0, 1] rfl
  have hDc := hD.sub (ws' := [(h0, .inr (8, [.ref s1, .ref s2, .ref s3, .ref s4, .ref s5, .ref s6, .int 65535, .null, .null])), (s1, .inl (ca, 4, .inr (.inr (.inr (.inr (fun _ => none))))))]) [0, 1] (by decide) rfl
  have hKc := hK.sub (tys' := [(ca, .object "DotBench$Sheet")]) [0] rfl
  have hFc := va_free (wc := [(h0, .inr (8, [.ref s1, .ref s2, .ref s3, .ref s4, .ref s5, .ref s6, .int 65535, .null, .null])), (s1, .inl (ca, 4, .inr (.inr (.inr (.inr (fun _ => none))))))]) hD hS hA [0, 1] rfl
  refine va_callq (va_runV (As := [.int a2]) (rest := []) ⟨hx, hb, hml, hown, hts⟩ (k_X8_sheetAt l D H.size h0 s1 s2 s3 s4 s5 s6 ca a2) (cwV 1 hts (gV bw_115 bw_116 bw_117 bw_1 bw_114) rfl rfl rfl (by decide +kernel) ⟨Nat.le_of_ble_eq_true rfl, Nat.le_of_ble_eq_true rfl⟩) ⟨cP_blind, va_recv hKc hPc (ci := 8) (q0 := 0) rfl rfl, cP_at hPc hKc hDc hN⟩ rfl rfl hl.1 rfl (lv_room (Nat.le_of_ble_eq_true rfl)) dX8_differ_8 ⟨Nat.le_of_ble_eq_true rfl, Nat.le_of_ble_eq_true rfl⟩) hS (fun q _ h => hFc q h) hFc (fun r_2 u9 t9 H1 locs ht hvm hr_2 hB hz1 hk1 hS => ?_)
  try dsimp only at hr_2
  obtain ⟨hP1, hK1, hD1⟩ := hB
  rw [ht] at hP1
  obtain ⟨hP, hD⟩ := va_join (wr := []) (w1 := [(h0, .inr (8, [.ref s1, .ref s2, .ref s3, .ref s4, .ref s5, .ref s6, .int 65535, .null, .null])), (s1, .inl (ca, 4, .inr (.inr (.inr (.inr (fun _ => none))))))]) hP hD [0, 1] [] rfl rfl (by decide) (by decide) hk1 hFc hP1 hD1
  clear hz1 hk1 hFc hKc hDc hPc
  generalize H1 = H at hP hS ⊢
  have hP : va_P D vwCl [(h0, .inr (8, [.ref s1, .ref s2, .ref s3, .ref s4, .ref s5, .ref s6, .int 65535, .null, .null])), (s1, .inl (ca, 4, .inr (.inr (.inr (.inr (fun _ => none))))))] H := hP
  have hD : va_D A [(h0, .inr (8, [.ref s1, .ref s2, .ref s3, .ref s4, .ref s5, .ref s6, .int 65535, .null, .null])), (s1, .inl (ca, 4, .inr (.inr (.inr (.inr (fun _ => none))))))] := hD
  subst hr_2
  refine my_topv (v := .null) rfl ?_
  refine lv_astoreN (lv' := [(4, .null), (3, .null), (0, .ref h0), (1, .int a1), (2, .int a2)]) hx hb dX8_differ_11 hl (by decide) rfl (fun ls hl => ?_)
  refine lv_aload_nN hx hb dX8_differ_13 rfl (lv_at hl 1 rfl) ?_
  refine lv_ifnullN (tgt := 46) hx hb dX8_differ_14 (by decide) ?_
  refine lv_iconst (v := (-1)) hx hb dX8_differ_46 (by decide) ?_
  exact W.iret (v := (-1)) hx hb hr (fun t ht hW => ⟨⟨(-1), (), rfl, rfl, trivial⟩, hS.F ht⟩) hS.2.2 dX8_differ_47

set_option maxHeartbeats 4000000 in
set_option maxRecDepth 100000 in
theorem k_X8_look (l : Launch) (D : va_G) (sz : Nat) (h0 s1 s2 s3 s4 s5 s6 : Nat) (ca : ClassId) (a1 a2 : Int32) : Met l yX8_look (wB yX8_look cX8_look 4 (some .int)) ({ frames := 1, cells := 0, slots := 0, locals := 21 }) (cP D [(h0, .inr (8, [.ref s1, .ref s2, .ref s3, .ref s4, .ref s5, .ref s6, .int 65535, .null, .null])), (s1, .inl (ca, 4, .inr (.inr (.inr (.inr (fun _ => none))))))] [(ca, .object "DotBench$Sheet")] sz [.ref h0, .int a1, .int a2]) (va_Qi (fun (r : Int32) (_ : Unit) => r = -1) (fun (_ : Unit) (_ : State) => True) (va_A [(h0, .inr (8, [.ref s1, .ref s2, .ref s3, .ref s4, .ref s5, .ref s6, .int 65535, .null, .null])), (s1, .inl (ca, 4, .inr (.inr (.inr (.inr (fun _ => none))))))] sz)) 0 0 (va_A [(h0, .inr (8, [.ref s1, .ref s2, .ref s3, .ref s4, .ref s5, .ref s6, .int 65535, .null, .null])), (s1, .inl (ca, 4, .inr (.inr (.inr (.inr (fun _ => none))))))] sz) := by
  refine Met.ofW (cc := cX8_look) (maxL := 4) (ret := (some .int)) (by decide) rfl ?_
  intro p e s m args below meth c s₁ B hml hv
  obtain ⟨rfl, hsz, hP, hK, hD0, hN⟩ := hv
  have hx := B.exec
  have hb := B.bytes
  have hr := B.returns
  have hts0 := atoms_spec (ws := (wB yX8_look cX8_look 4 (some .int))) B.pre
  have hts : ∀ w ∈ bigW, w.before _ s = true := fun w h => hts0 w (List.mem_cons_of_mem _ h)
  have hown : s.vm.findClass RX8 = some m.cls := findClass_of_methodNamed B.named
  have hlocks := B.notSynchronized
  subst hsz
  have hD := hD0.self (sz := s.heap.size)
  generalize hAe : va_A [(h0, .inr (8, [.ref s1, .ref s2, .ref s3, .ref s4, .ref s5, .ref s6, .int 65535, .null, .null])), (s1, .inl (ca, 4, .inr (.inr (.inr (.inr (fun _ => none))))))] s.heap.size = A at hD ⊢
  have hA : ∀ q : Nat, s.heap.size ≤ q → A q := fun q h => by rw [← hAe]; exact Or.inr h
  have hS : va_S A s.heap s.heap [] := va_S.rf
  have hP : va_P D vwCl [(h0, .inr (8, [.ref s1, .ref s2, .ref s3, .ref s4, .ref s5, .ref s6, .int 65535, .null, .null])), (s1, .inl (ca, 4, .inr (.inr (.inr (.inr (fun _ => none))))))] s.heap := hP
  have hl := lv_entry ([.ref h0, .int a1, .int a2]) (n := 4) (Nat.le_of_ble_eq_true rfl)
  rw [lg_entry_eq]
  generalize (lg_sl ([.ref h0, .int a1, .int a2]) ++ List.replicate (4 - (lg_sl ([.ref h0, .int a1, .int a2])).length) Slot.unset).toArray = ls at hl ⊢
  have hl : lv_has ls 4 [(0, .ref h0), (1, .int a1), (2, .int a2)] := hl
  refine lv_aload_n hx hb dX8_look_0 rfl (lv_at hl 0 rfl) ?_
  refine lv_iload_n hx hb dX8_look_1 rfl (lv_at hl 1 rfl) ?_
  have hPc := hP.sub (ws' := [(h0, .inr (8, [.ref s1, .ref s2, .ref s3, .ref s4, .ref s5, .ref s6, .int 65535, .null, .null])), (s1, .inl (ca, 4, .inr (.inr (.inr (.inr (fun _ => none))))))]) [0, 1] rfl
  have hDc := hD.sub (ws' := [(h0, .inr (8, [.ref s1, .ref s2, .ref s3, .ref s4, .ref s5, .ref s6, .int 65535, .null, .null])), (s1, .inl (ca, 4, .inr (.inr (.inr (.inr (fun _ => none))))))]) [0, 1] (by decide) rfl
  have hKc := hK.sub (tys' := [(ca, .object "DotBench$Sheet")]) [0] rfl
  have hFc := va_free (wc := [(h0, .inr (8, [.ref s1, .ref s2, .ref s3, .ref s4, .ref s5, .ref s6, .int 65535, .null, .null])), (s1, .inl (ca, 4, .inr (.inr (.inr (.inr (fun _ => none))))))]) hD hS hA [0, 1] rfl
  refine va_callq (va_runV (As := [.int a1]) (rest := []) ⟨hx, hb, hml, hown, hts⟩ (k_X8_sheetAt l D s.heap.size h0 s1 s2 s3 s4 s5 s6 ca a1) (cwV 1 hts (gV bw_115 bw_116 bw_117 bw_1 bw_114) rfl rfl rfl (by decide +kernel) ⟨Nat.le_of_ble_eq_true rfl, Nat.le_of_ble_eq_true rfl⟩) ⟨cP_blind, va_recv hKc hPc (ci := 8) (q0 := 0) rfl rfl, cP_at hPc hKc hDc hN⟩ rfl rfl hl.1 rfl (lv_room (Nat.le_of_ble_eq_true rfl)) dX8_look_2 ⟨Nat.le_of_ble_eq_true rfl, Nat.le_of_ble_eq_true rfl⟩) hS (fun q _ h => hFc q h) hFc (fun r_1 u9 t9 H1 locs ht hvm hr_1 hB hz1 hk1 hS => ?_)
  try dsimp only at hr_1
  obtain ⟨hP1, hK1, hD1⟩ := hB
  rw [ht] at hP1
  obtain ⟨hP, hD⟩ := va_join (wr := []) (w1 := [(h0, .inr (8, [.ref s1, .ref s2, .ref s3, .ref s4, .ref s5, .ref s6, .int 65535, .null, .null])), (s1, .inl (ca, 4, .inr (.inr (.inr (.inr (fun _ => none))))))]) hP hD [0, 1] [] rfl rfl (by decide) (by decide) hk1 hFc hP1 hD1
  clear hz1 hk1 hFc hKc hDc hPc
  generalize H1 = H at hP hS ⊢
  have hP : va_P D vwCl [(h0, .inr (8, [.ref s1, .ref s2, .ref s3, .ref s4, .ref s5, .ref s6, .int 65535, .null, .null])), (s1, .inl (ca, 4, .inr (.inr (.inr (.inr (fun _ => none))))))] H := hP
  have hD : va_D A [(h0, .inr (8, [.ref s1, .ref s2, .ref s3, .ref s4, .ref s5, .ref s6, .int 65535, .null, .null])), (s1, .inl (ca, 4, .inr (.inr (.inr (.inr (fun _ => none))))))] := hD
  subst hr_1
  refine my_topv (v := .null) rfl ?_
  refine lv_astore_nN (lv' := [(3, .null), (0, .ref h0), (1, .int a1), (2, .int a2)]) hx hb dX8_look_5 rfl hl (by decide) rfl (fun ls hl => ?_)
  refine lv_aload_nN hx hb dX8_look_6 rfl (lv_at hl 0 rfl) ?_
  refine lv_ifnonnullN hx hb dX8_look_7 ?_
  refine lv_iconst (v := (-1)) hx hb dX8_look_10 (by decide) ?_
  exact W.iret (v := (-1)) hx hb hr (fun t ht hW => ⟨⟨(-1), (), rfl, rfl, trivial⟩, hS.F ht⟩) hS.2.2 dX8_look_11

set_option maxHeartbeats 4000000 in
set_option maxRecDepth 100000 in
theorem k_X8_point (l : Launch) (D : va_G) (sz : Nat) (h0 s1 s2 s3 s4 s5 s6 b1 b2 b3 b4 : Nat) (d1 d2 d3 d4 : ClassId) (x y n : Int32) : Met l yX8_point (wB yX8_point cX8_point 4 (some .int)) ({ frames := 2, cells := 0, slots := 0, locals := 43 }) (cP D [(h0, .inr (8, [.ref s1, .ref s2, .ref s3, .ref s4, .ref s5, .ref s6, .int 65535, .null, .null])), (s4, .inr (3, [.ref b1, .ref b2, .ref b3, .ref b4, .int 0, .int 0, .int 0])), (b1, .inl (d1, 48, .inl (fun _ => 0))), (b2, .inl (d2, 48, .inl (fun _ => 0))), (b3, .inl (d3, 48, .inl (fun _ => 0))), (b4, .inl (d4, 48, .inl (fun _ => 0)))] [(d1, .int), (d2, .int), (d3, .int), (d4, .int)] sz [.ref h0, .int x, .int y, .int n]) (va_Qi (fun (r : Int32) (_ : Unit) => r = if -4096 ≤ x.toInt ∧ x.toInt ≤ 4096 ∧ -4096 ≤ y.toInt ∧ y.toInt ≤ 4096 then 1 else -1) (fun (_ : Unit) (_ : State) => True) (va_A [(h0, .inr (8, [.ref s1, .ref s2, .ref s3, .ref s4, .ref s5, .ref s6, .int 65535, .null, .null])), (s4, .inr (3, [.ref b1, .ref b2, .ref b3, .ref b4, .int 0, .int 0, .int 0])), (b1, .inl (d1, 48, .inl (fun _ => 0))), (b2, .inl (d2, 48, .inl (fun _ => 0))), (b3, .inl (d3, 48, .inl (fun _ => 0))), (b4, .inl (d4, 48, .inl (fun _ => 0)))] sz)) 0 0 (va_A [(h0, .inr (8, [.ref s1, .ref s2, .ref s3, .ref s4, .ref s5, .ref s6, .int 65535, .null, .null])), (s4, .inr (3, [.ref b1, .ref b2, .ref b3, .ref b4, .int 0, .int 0, .int 0])), (b1, .inl (d1, 48, .inl (fun _ => 0))), (b2, .inl (d2, 48, .inl (fun _ => 0))), (b3, .inl (d3, 48, .inl (fun _ => 0))), (b4, .inl (d4, 48, .inl (fun _ => 0)))] sz) := by
  refine Met.ofW (cc := cX8_point) (maxL := 4) (ret := (some .int)) (by decide) rfl ?_
  intro p e s m args below meth c s₁ B hml hv
  obtain ⟨rfl, hsz, hP, hK, hD0, hN⟩ := hv
  have hx := B.exec
  have hb := B.bytes
  have hr := B.returns
  have hts0 := atoms_spec (ws := (wB yX8_point cX8_point 4 (some .int))) B.pre
  have hts : ∀ w ∈ bigW, w.before _ s = true := fun w h => hts0 w (List.mem_cons_of_mem _ h)
  have hown : s.vm.findClass RX8 = some m.cls := findClass_of_methodNamed B.named
  have hlocks := B.notSynchronized
  subst hsz
  have hD := hD0.self (sz := s.heap.size)
  generalize hAe : va_A [(h0, .inr (8, [.ref s1, .ref s2, .ref s3, .ref s4, .ref s5, .ref s6, .int 65535, .null, .null])), (s4, .inr (3, [.ref b1, .ref b2, .ref b3, .ref b4, .int 0, .int 0, .int 0])), (b1, .inl (d1, 48, .inl (fun _ => 0))), (b2, .inl (d2, 48, .inl (fun _ => 0))), (b3, .inl (d3, 48, .inl (fun _ => 0))), (b4, .inl (d4, 48, .inl (fun _ => 0)))] s.heap.size = A at hD ⊢
  have hA : ∀ q : Nat, s.heap.size ≤ q → A q := fun q h => by rw [← hAe]; exact Or.inr h
  have hS : va_S A s.heap s.heap [] := va_S.rf
  have hP : va_P D vwCl [(h0, .inr (8, [.ref s1, .ref s2, .ref s3, .ref s4, .ref s5, .ref s6, .int 65535, .null, .null])), (s4, .inr (3, [.ref b1, .ref b2, .ref b3, .ref b4, .int 0, .int 0, .int 0])), (b1, .inl (d1, 48, .inl (fun _ => 0))), (b2, .inl (d2, 48, .inl (fun _ => 0))), (b3, .inl (d3, 48, .inl (fun _ => 0))), (b4, .inl (d4, 48, .inl (fun _ => 0)))] s.heap := hP
  have hl := lv_entry ([.ref h0, .int x, .int y, .int n]) (n := 4) (Nat.le_of_ble_eq_true rfl)
  rw [lg_entry_eq]
  generalize (lg_sl ([.ref h0, .int x, .int y, .int n]) ++ List.replicate (4 - (lg_sl ([.ref h0, .int x, .int y, .int n])).length) Slot.unset).toArray = ls at hl ⊢
  have hl : lv_has ls 4 [(0, .ref h0), (1, .int x), (2, .int y), (3, .int n)] := hl
  refine lv_iload_n hx hb dX8_point_0 rfl (lv_at hl 1 rfl) ?_
  refine lv_sipush (v := 4096) hx hb dX8_point_1 (by decide) ?_
  have hPc := hP.sub (ws' := []) [] rfl
  have hDc := hD.sub (ws' := []) [] (by decide) rfl
  have hKc := hK.sub (tys' := []) [] rfl
  have hFc := va_free (wc := []) hD hS hA [] rfl
  refine va_calli (va_runS (As := [.int x, .int 4096]) (rest := []) ⟨hx, hb, hml, hown, hts⟩ (k_X8_isNear l D s.heap.size x 4096 (-4096) 4096 (by decide) (by decide)) (va_cwS 2 hts (gS bw_151 bw_152 bw_1 bw_150) rfl rfl rfl (by decide +kernel) ⟨Nat.le_of_ble_eq_true rfl, Nat.le_of_ble_eq_true rfl⟩) ⟨cP_blind, cP_at hPc hKc hDc hN⟩ rfl rfl hl.1 rfl (lv_room (Nat.le_of_ble_eq_true rfl)) dX8_point_4 ⟨Nat.le_of_ble_eq_true rfl, Nat.le_of_ble_eq_true rfl⟩) hS (fun q _ h => hFc q h) hFc (fun r_1 u9 t9 H1 locs ht hvm hr_1 hB hz1 hk1 hS => ?_)
  try dsimp only at hr_1
  have hP1 : va_P D vwCl [] H1 := vP_nil
  have hD1 : va_D (va_A [] s.heap.size) [] := vD_nil
  obtain ⟨hP, hD⟩ := va_join (wr := [(h0, .inr (8, [.ref s1, .ref s2, .ref s3, .ref s4, .ref s5, .ref s6, .int 65535, .null, .null])), (s4, .inr (3, [.ref b1, .ref b2, .ref b3, .ref b4, .int 0, .int 0, .int 0])), (b1, .inl (d1, 48, .inl (fun _ => 0))), (b2, .inl (d2, 48, .inl (fun _ => 0))), (b3, .inl (d3, 48, .inl (fun _ => 0))), (b4, .inl (d4, 48, .inl (fun _ => 0)))]) (w1 := []) hP hD [] [0, 1, 2, 3, 4, 5] rfl rfl (by decide) (by decide) hk1 hFc hP1 hD1
  clear hz1 hk1 hFc hKc hDc hPc
  generalize H1 = H at hP hS ⊢
  have hP : va_P D vwCl [(h0, .inr (8, [.ref s1, .ref s2, .ref s3, .ref s4, .ref s5, .ref s6, .int 65535, .null, .null])), (s4, .inr (3, [.ref b1, .ref b2, .ref b3, .ref b4, .int 0, .int 0, .int 0])), (b1, .inl (d1, 48, .inl (fun _ => 0))), (b2, .inl (d2, 48, .inl (fun _ => 0))), (b3, .inl (d3, 48, .inl (fun _ => 0))), (b4, .inl (d4, 48, .inl (fun _ => 0)))] H := hP
  have hD : va_D A [(h0, .inr (8, [.ref s1, .ref s2, .ref s3, .ref s4, .ref s5, .ref s6, .int 65535, .null, .null])), (s4, .inr (3, [.ref b1, .ref b2, .ref b3, .ref b4, .int 0, .int 0, .int 0])), (b1, .inl (d1, 48, .inl (fun _ => 0))), (b2, .inl (d2, 48, .inl (fun _ => 0))), (b3, .inl (d3, 48, .inl (fun _ => 0))), (b4, .inl (d4, 48, .inl (fun _ => 0)))] := hD
  refine lv_if_eq (tgt := 20) hx hb dX8_point_7 (by decide) (fun c_2 => ?_) (fun c_2 => ?_)
  · skip
    have f_3 := bz0 hr_1 c_2
    refine lv_iconst (v := (-1)) hx hb dX8_point_20 (by decide) ?_
    exact W.iret (v := (-1)) hx hb hr (fun t ht hW => ⟨⟨(-1), (), rfl, (if_neg (by omega)).symm, trivial⟩, hS.F ht⟩) hS.2.2 dX8_point_21
  · skip
    have f_3 := bz1 hr_1 c_2
    refine lv_iload_n hx hb dX8_point_10 rfl (lv_at hl 2 rfl) ?_
    refine lv_sipush (v := 4096) hx hb dX8_point_11 (by decide) ?_
    have hPc := hP.sub (ws' := []) [] rfl
    have hDc := hD.sub (ws' := []) [] (by decide) rfl
    have hKc := hK.sub (tys' := []) [] rfl
    have hFc := va_free (wc := []) hD hS hA [] rfl
    refine va_calli (va_runS (As := [.int y, .int 4096]) (rest := []) ⟨hx, hb, hml, hown, hts⟩ (k_X8_isNear l D H.size y 4096 (-4096) 4096 (by decide) (by decide)) (va_cwS 2 hts (gS bw_151 bw_152 bw_1 bw_150) rfl rfl rfl (by decide +kernel) ⟨Nat.le_of_ble_eq_true rfl, Nat.le_of_ble_eq_true rfl⟩) ⟨cP_blind, cP_at hPc hKc hDc hN⟩ rfl rfl hl.1 rfl (lv_room (Nat.le_of_ble_eq_true rfl)) dX8_point_14 ⟨Nat.le_of_ble_eq_true rfl, Nat.le_of_ble_eq_true rfl⟩) hS (fun q _ h => hFc q h) hFc (fun r_4 u9 t9 H1 locs ht hvm hr_4 hB hz1 hk1 hS => ?_)
    try dsimp only at hr_4
    have hP1 : va_P D vwCl [] H1 := vP_nil
    have hD1 : va_D (va_A [] H.size) [] := vD_nil
    obtain ⟨hP, hD⟩ := va_join (wr := [(h0, .inr (8, [.ref s1, .ref s2, .ref s3, .ref s4, .ref s5, .ref s6, .int 65535, .null, .null])), (s4, .inr (3, [.ref b1, .ref b2, .ref b3, .ref b4, .int 0, .int 0, .int 0])), (b1, .inl (d1, 48, .inl (fun _ => 0))), (b2, .inl (d2, 48, .inl (fun _ => 0))), (b3, .inl (d3, 48, .inl (fun _ => 0))), (b4, .inl (d4, 48, .inl (fun _ => 0)))]) (w1 := []) hP hD [] [0, 1, 2, 3, 4, 5] rfl rfl (by decide) (by decide) hk1 hFc hP1 hD1
    clear hz1 hk1 hFc hKc hDc hPc
    generalize H1 = H at hP hS ⊢
    have hP : va_P D vwCl [(h0, .inr (8, [.ref s1, .ref s2, .ref s3, .ref s4, .ref s5, .ref s6, .int 65535, .null, .null])), (s4, .inr (3, [.ref b1, .ref b2, .ref b3, .ref b4, .int 0, .int 0, .int 0])), (b1, .inl (d1, 48, .inl (fun _ => 0))), (b2, .inl (d2, 48, .inl (fun _ => 0))), (b3, .inl (d3, 48, .inl (fun _ => 0))), (b4, .inl (d4, 48, .inl (fun _ => 0)))] H := hP
    have hD : va_D A [(h0, .inr (8, [.ref s1, .ref s2, .ref s3, .ref s4, .ref s5, .ref s6, .int 65535, .null, .null])), (s4, .inr (3, [.ref b1, .ref b2, .ref b3, .ref b4, .int 0, .int 0, .int 0])), (b1, .inl (d1, 48, .inl (fun _ => 0))), (b2, .inl (d2, 48, .inl (fun _ => 0))), (b3, .inl (d3, 48, .inl (fun _ => 0))), (b4, .inl (d4, 48, .inl (fun _ => 0)))] := hD
    refine lv_if_ne (tgt := 22) hx hb dX8_point_17 (by decide) (fun c_5 => ?_) (fun c_5 => ?_)
    · skip
      have f_6 := bz1 hr_4 c_5
      refine lv_aload_n hx hb dX8_point_22 rfl (lv_at hl 0 rfl) ?_
      refine va_get (D := D) (ci := 8) (v := .ref s4) (C := RX8) (T := TX8) (N := 9) hx hb hts hi_X8 hown hK hP 0 rfl rfl 3 (by decide) (hts _ bw_77) (fun _ h9 => h9) rfl dX8_point_23 ?_
      refine lv_iconst (v := 2) hx hb dX8_point_26 (by decide) ?_
      refine lv_iload_n hx hb dX8_point_27 rfl (lv_at hl 1 rfl) ?_
      refine lv_imul hx hb dX8_point_28 ?_
      refine lv_topi (fun y_7 ey_7 => ?_)
      refine lv_iconst (v := 2) hx hb dX8_point_29 (by decide) ?_
      refine lv_iload_n hx hb dX8_point_30 rfl (lv_at hl 2 rfl) ?_
      refine lv_imul hx hb dX8_point_31 ?_
      refine lv_topi (fun y_8 ey_8 => ?_)
      refine lv_iload_n hx hb dX8_point_32 rfl (lv_at hl 3 rfl) ?_
      have hPc := hP.sub (ws' := [(s4, .inr (3, [.ref b1, .ref b2, .ref b3, .ref b4, .int 0, .int 0, .int 0])), (b1, .inl (d1, 48, .inl (fun _ => 0))), (b2, .inl (d2, 48, .inl (fun _ => 0))), (b3, .inl (d3, 48, .inl (fun _ => 0))), (b4, .inl (d4, 48, .inl (fun _ => 0)))]) [1, 2, 3, 4, 5] rfl
      have hDc := hD.sub (ws' := [(s4, .inr (3, [.ref b1, .ref b2, .ref b3, .ref b4, .int 0, .int 0, .int 0])), (b1, .inl (d1, 48, .inl (fun _ => 0))), (b2, .inl (d2, 48, .inl (fun _ => 0))), (b3, .inl (d3, 48, .inl (fun _ => 0))), (b4, .inl (d4, 48, .inl (fun _ => 0)))]) [1, 2, 3, 4, 5] (by decide) rfl
      have hKc := hK.sub (tys' := [(d1, .int), (d2, .int), (d3, .int), (d4, .int)]) [0, 1, 2, 3] rfl
      have hFc := va_free (wc := [(s4, .inr (3, [.ref b1, .ref b2, .ref b3, .ref b4, .int 0, .int 0, .int 0])), (b1, .inl (d1, 48, .inl (fun _ => 0))), (b2, .inl (d2, 48, .inl (fun _ => 0))), (b3, .inl (d3, 48, .inl (fun _ => 0))), (b4, .inl (d4, 48, .inl (fun _ => 0)))]) hD hS hA [1, 2, 3, 4, 5] rfl
      refine va_calli (va_runV (As := [.int y_7, .int y_8, .int n]) (rest := []) ⟨hx, hb, hml, hown, hts⟩ (k_X3_add l D H.size s4 b1 b2 b3 b4 d1 d2 d3 d4 y_7 y_8 n) (cwV 3 hts (gV bw_154 bw_155 bw_156 bw_49 bw_153) rfl rfl rfl (by decide +kernel) ⟨Nat.le_of_ble_eq_true rfl, Nat.le_of_ble_eq_true rfl⟩) ⟨cP_blind, va_recv hKc hPc (ci := 3) (q0 := 0) rfl rfl, cP_at hPc hKc hDc hN⟩ rfl rfl hl.1 rfl (lv_room (Nat.le_of_ble_eq_true rfl)) dX8_point_33 ⟨Nat.le_of_ble_eq_true rfl, Nat.le_of_ble_eq_true rfl⟩) hS (fun q _ h => hFc q h) hFc (fun r_9 u9 t9 H1 locs ht hvm hr_9 hB hz1 hk1 hS => ?_)
      try dsimp only at hr_9
      obtain ⟨g_10, g_11, g_12, g_13, hP1, hK1, hD1⟩ := hB
      rw [ht] at hP1
      obtain ⟨hP, hD⟩ := va_join (wr := [(h0, .inr (8, [.ref s1, .ref s2, .ref s3, .ref s4, .ref s5, .ref s6, .int 65535, .null, .null]))]) (w1 := [(s4, .inr (3, [.ref b1, .ref b2, .ref b3, .ref b4, .int 1, .int y_7, .int y_8])), (b1, .inl (d1, 48, .inl g_10)), (b2, .inl (d2, 48, .inl g_11)), (b3, .inl (d3, 48, .inl g_12)), (b4, .inl (d4, 48, .inl g_13))]) hP hD [1, 2, 3, 4, 5] [0] rfl rfl (by decide) (by decide) hk1 hFc hP1 hD1
      clear hz1 hk1 hFc hKc hDc hPc
      generalize H1 = H at hP hS ⊢
      have hP : va_P D vwCl [(h0, .inr (8, [.ref s1, .ref s2, .ref s3, .ref s4, .ref s5, .ref s6, .int 65535, .null, .null])), (s4, .inr (3, [.ref b1, .ref b2, .ref b3, .ref b4, .int 1, .int y_7, .int y_8])), (b1, .inl (d1, 48, .inl g_10)), (b2, .inl (d2, 48, .inl g_11)), (b3, .inl (d3, 48, .inl g_12)), (b4, .inl (d4, 48, .inl g_13))] H := hP
      have hD : va_D A [(h0, .inr (8, [.ref s1, .ref s2, .ref s3, .ref s4, .ref s5, .ref s6, .int 65535, .null, .null])), (s4, .inr (3, [.ref b1, .ref b2, .ref b3, .ref b4, .int 1, .int y_7, .int y_8])), (b1, .inl (d1, 48, .inl g_10)), (b2, .inl (d2, 48, .inl g_11)), (b3, .inl (d3, 48, .inl g_12)), (b4, .inl (d4, 48, .inl g_13))] := hD
      subst hr_9
      refine lv_if_eq (tgt := 49) hx hb dX8_point_36 (by decide) (fun c_14 => ?_) (fun c_14 => ?_)
      · skip
        exact absurd c_14 (by decide)
      · skip
        refine lv_aload_n hx hb dX8_point_39 rfl (lv_at hl 0 rfl) ?_
        refine va_get (D := D) (ci := 8) (v := .ref s4) (C := RX8) (T := TX8) (N := 9) hx hb hts hi_X8 hown hK hP 0 rfl rfl 3 (by decide) (hts _ bw_77) (fun _ h9 => h9) rfl dX8_point_40 ?_
        refine va_getN (host := RX8) (D := D) (ci := 3) (v := .int 1) (C := RX3) (T := TX3) (N := 7) hx hb hts hi_X3 hown hK hP 1 rfl rfl 4 (by decide) ((hN.1 (RX8, 136, "DotBench$Path", "points", "I", RX8) (by decide +kernel)).use rfl) (fun _ h9 => h9) rfl dX8_point_43 ?_
        refine lv_goto (tgt := 50) hx hb dX8_point_46 (by decide) ?_
        exact W.iret (v := 1) hx hb hr (fun t ht hW => ⟨⟨1, (), rfl, (if_pos (by omega)).symm, trivial⟩, hS.F ht⟩) hS.2.2 dX8_point_50
    · skip
      have f_6 := bz0 hr_4 c_5
      refine lv_iconst (v := (-1)) hx hb dX8_point_20 (by decide) ?_
      exact W.iret (v := (-1)) hx hb hr (fun t ht hW => ⟨⟨(-1), (), rfl, (if_neg (by omega)).symm, trivial⟩, hS.F ht⟩) hS.2.2 dX8_point_21

set_option maxHeartbeats 4000000 in
set_option maxRecDepth 100000 in
theorem k_X8_clear (l : Launch) (D : va_G) (sz : Nat) (h0 s1 s2 s3 s4 s5 s6 b1 b2 b3 b4 : Nat) : Met l yX8_clear (wB yX8_clear cX8_clear 1 none) ({ frames := 1, cells := 0, slots := 0, locals := 20 }) (cP D [(h0, .inr (8, [.ref s1, .ref s2, .ref s3, .ref s4, .ref s5, .ref s6, .int 65535, .null, .null])), (s4, .inr (3, [.ref b1, .ref b2, .ref b3, .ref b4, .int 0, .int 0, .int 0]))] [] sz [.ref h0]) (va_Qv (fun (_ : Unit) => True) (fun (_ : Unit) (_ : State) => True) (va_A [(h0, .inr (8, [.ref s1, .ref s2, .ref s3, .ref s4, .ref s5, .ref s6, .int 65535, .null, .null])), (s4, .inr (3, [.ref b1, .ref b2, .ref b3, .ref b4, .int 0, .int 0, .int 0]))] sz)) 0 0 (va_A [(h0, .inr (8, [.ref s1, .ref s2, .ref s3, .ref s4, .ref s5, .ref s6, .int 65535, .null, .null])), (s4, .inr (3, [.ref b1, .ref b2, .ref b3, .ref b4, .int 0, .int 0, .int 0]))] sz) := by
  refine Met.ofW (cc := cX8_clear) (maxL := 1) (ret := none) (by decide) rfl ?_
  intro p e s m args below meth c s₁ B hml hv
  obtain ⟨rfl, hsz, hP, hK, hD0, hN⟩ := hv
  have hx := B.exec
  have hb := B.bytes
  have hr := B.returns
  have hts0 := atoms_spec (ws := (wB yX8_clear cX8_clear 1 none)) B.pre
  have hts : ∀ w ∈ bigW, w.before _ s = true := fun w h => hts0 w (List.mem_cons_of_mem _ h)
  have hown : s.vm.findClass RX8 = some m.cls := findClass_of_methodNamed B.named
  have hlocks := B.notSynchronized
  subst hsz
  have hD := hD0.self (sz := s.heap.size)
  generalize hAe : va_A [(h0, .inr (8, [.ref s1, .ref s2, .ref s3, .ref s4, .ref s5, .ref s6, .int 65535, .null, .null])), (s4, .inr (3, [.ref b1, .ref b2, .ref b3, .ref b4, .int 0, .int 0, .int 0]))] s.heap.size = A at hD ⊢
  have hA : ∀ q : Nat, s.heap.size ≤ q → A q := fun q h => by rw [← hAe]; exact Or.inr h
  have hS : va_S A s.heap s.heap [] := va_S.rf
  have hP : va_P D vwCl [(h0, .inr (8, [.ref s1, .ref s2, .ref s3, .ref s4, .ref s5, .ref s6, .int 65535, .null, .null])), (s4, .inr (3, [.ref b1, .ref b2, .ref b3, .ref b4, .int 0, .int 0, .int 0]))] s.heap := hP
  have hl := lv_entry ([.ref h0]) (n := 1) (Nat.le_of_ble_eq_true rfl)
  rw [lg_entry_eq]
  generalize (lg_sl ([.ref h0]) ++ List.replicate (1 - (lg_sl ([.ref h0])).length) Slot.unset).toArray = ls at hl ⊢
  have hl : lv_has ls 1 [(0, .ref h0)] := hl
  refine lv_aload_n hx hb dX8_clear_0 rfl (lv_at hl 0 rfl) ?_
  refine va_get (D := D) (ci := 8) (v := .ref s4) (C := RX8) (T := TX8) (N := 9) hx hb hts hi_X8 hown hK hP 0 rfl rfl 3 (by decide) (hts _ bw_77) (fun _ h9 => h9) rfl dX8_clear_1 ?_
  have hPc := hP.sub (ws' := [(s4, .inr (3, [.ref b1, .ref b2, .ref b3, .ref b4, .int 0, .int 0, .int 0]))]) [1] rfl
  have hDc := hD.sub (ws' := [(s4, .inr (3, [.ref b1, .ref b2, .ref b3, .ref b4, .int 0, .int 0, .int 0]))]) [1] (by decide) rfl
  have hKc := hK.sub (tys' := []) [] rfl
  have hFc := va_free (wc := [(s4, .inr (3, [.ref b1, .ref b2, .ref b3, .ref b4, .int 0, .int 0, .int 0]))]) hD hS hA [1] rfl
  refine va_callv (va_runV (As := []) (rest := []) ⟨hx, hb, hml, hown, hts⟩ (k_X3_empty l D s.heap.size s4 b1 b2 b3 b4) (cwV 0 hts (gV bw_158 bw_159 bw_160 bw_49 bw_157) rfl rfl rfl (by decide +kernel) ⟨Nat.le_of_ble_eq_true rfl, Nat.le_of_ble_eq_true rfl⟩) ⟨cP_blind, va_recv hKc hPc (ci := 3) (q0 := 0) rfl rfl, cP_at hPc hKc hDc hN⟩ rfl rfl hl.1 rfl (lv_room (Nat.le_of_ble_eq_true rfl)) dX8_clear_4 ⟨Nat.le_of_ble_eq_true rfl, Nat.le_of_ble_eq_true rfl⟩) hS (fun q _ h => hFc q h) hFc (fun u9 t9 H1 locs ht hvm hr_1 hB hz1 hk1 hS => ?_)
  try dsimp only at hr_1
  have hP1 : va_P D vwCl [] H1 := vP_nil
  have hD1 : va_D (va_A [(s4, .inr (3, [.ref b1, .ref b2, .ref b3, .ref b4, .int 0, .int 0, .int 0]))] s.heap.size) [] := vD_nil
  obtain ⟨hP, hD⟩ := va_join (wr := [(h0, .inr (8, [.ref s1, .ref s2, .ref s3, .ref s4, .ref s5, .ref s6, .int 65535, .null, .null]))]) (w1 := []) hP hD [1] [0] rfl rfl (by decide) (by decide) hk1 hFc hP1 hD1
  clear hz1 hk1 hFc hKc hDc hPc
  generalize H1 = H at hP hS ⊢
  have hP : va_P D vwCl [(h0, .inr (8, [.ref s1, .ref s2, .ref s3, .ref s4, .ref s5, .ref s6, .int 65535, .null, .null]))] H := hP
  have hD : va_D A [(h0, .inr (8, [.ref s1, .ref s2, .ref s3, .ref s4, .ref s5, .ref s6, .int 65535, .null, .null]))] := hD
  exact W.vret hx hb hr (fun t ht hW => ⟨⟨(), rfl, trivial, trivial⟩, hS.F ht⟩) hS.2.2 dX8_clear_7

set_option maxHeartbeats 4000000 in
set_option maxRecDepth 100000 in
theorem k_X8_inside (l : Launch) (D : va_G) (sz : Nat) (h0 s1 s2 s3 s4 s5 s6 b1 b2 b3 b4 : Nat) (u v n : Int32) : Met l yX8_inside (wB yX8_inside cX8_inside 4 (some .int)) ({ frames := 1, cells := 0, slots := 0, locals := 25 }) (cP D [(h0, .inr (8, [.ref s1, .ref s2, .ref s3, .ref s4, .ref s5, .ref s6, .int 65535, .null, .null])), (s4, .inr (3, [.ref b1, .ref b2, .ref b3, .ref b4, .int 0, .int 0, .int 0]))] [] sz [.ref h0, .int u, .int v, .int n]) (va_Qi (fun (r : Int32) (_ : Unit) => r = if n.toInt = 0 ∨ n.toInt = 1 then 0 else -1) (fun (_ : Unit) (_ : State) => True) (va_A [(h0, .inr (8, [.ref s1, .ref s2, .ref s3, .ref s4, .ref s5, .ref s6, .int 65535, .null, .null])), (s4, .inr (3, [.ref b1, .ref b2, .ref b3, .ref b4, .int 0, .int 0, .int 0]))] sz)) 0 0 (va_A [(h0, .inr (8, [.ref s1, .ref s2, .ref s3, .ref s4, .ref s5, .ref s6, .int 65535, .null, .null])), (s4, .inr (3, [.ref b1, .ref b2, .ref b3, .ref b4, .int 0, .int 0, .int 0]))] sz) := by
  refine Met.ofW (cc := cX8_inside) (maxL := 4) (ret := (some .int)) (by decide) rfl ?_
  intro p e s m args below meth c s₁ B hml hv
  obtain ⟨rfl, hsz, hP, hK, hD0, hN⟩ := hv
  have hx := B.exec
  have hb := B.bytes
  have hr := B.returns
  have hts0 := atoms_spec (ws := (wB yX8_inside cX8_inside 4 (some .int))) B.pre
  have hts : ∀ w ∈ bigW, w.before _ s = true := fun w h => hts0 w (List.mem_cons_of_mem _ h)
  have hown : s.vm.findClass RX8 = some m.cls := findClass_of_methodNamed B.named
  have hlocks := B.notSynchronized
  subst hsz
  have hD := hD0.self (sz := s.heap.size)
  generalize hAe : va_A [(h0, .inr (8, [.ref s1, .ref s2, .ref s3, .ref s4, .ref s5, .ref s6, .int 65535, .null, .null])), (s4, .inr (3, [.ref b1, .ref b2, .ref b3, .ref b4, .int 0, .int 0, .int 0]))] s.heap.size = A at hD ⊢
  have hA : ∀ q : Nat, s.heap.size ≤ q → A q := fun q h => by rw [← hAe]; exact Or.inr h
  have hS : va_S A s.heap s.heap [] := va_S.rf
  have hP : va_P D vwCl [(h0, .inr (8, [.ref s1, .ref s2, .ref s3, .ref s4, .ref s5, .ref s6, .int 65535, .null, .null])), (s4, .inr (3, [.ref b1, .ref b2, .ref b3, .ref b4, .int 0, .int 0, .int 0]))] s.heap := hP
  have hl := lv_entry ([.ref h0, .int u, .int v, .int n]) (n := 4) (Nat.le_of_ble_eq_true rfl)
  rw [lg_entry_eq]
  generalize (lg_sl ([.ref h0, .int u, .int v, .int n]) ++ List.replicate (4 - (lg_sl ([.ref h0, .int u, .int v, .int n])).length) Slot.unset).toArray = ls at hl ⊢
  have hl : lv_has ls 4 [(0, .ref h0), (1, .int u), (2, .int v), (3, .int n)] := hl
  refine lv_iload_n hx hb dX8_inside_0 rfl (lv_at hl 3 rfl) ?_
  have hPc := hP.sub (ws' := []) [] rfl
  have hDc := hD.sub (ws' := []) [] (by decide) rfl
  have hKc := hK.sub (tys' := []) [] rfl
  have hFc := va_free (wc := []) hD hS hA [] rfl
  refine va_calli (va_runS (As := [.int n]) (rest := []) ⟨hx, hb, hml, hown, hts⟩ (k_X8_isRule l D s.heap.size n) (va_cwS 1 hts (gS bw_162 bw_163 bw_1 bw_161) rfl rfl rfl (by decide +kernel) ⟨Nat.le_of_ble_eq_true rfl, Nat.le_of_ble_eq_true rfl⟩) ⟨cP_blind, cP_at hPc hKc hDc hN⟩ rfl rfl hl.1 rfl (lv_room (Nat.le_of_ble_eq_true rfl)) dX8_inside_1 ⟨Nat.le_of_ble_eq_true rfl, Nat.le_of_ble_eq_true rfl⟩) hS (fun q _ h => hFc q h) hFc (fun r_1 u9 t9 H1 locs ht hvm hr_1 hB hz1 hk1 hS => ?_)
  try dsimp only at hr_1
  have hP1 : va_P D vwCl [] H1 := vP_nil
  have hD1 : va_D (va_A [] s.heap.size) [] := vD_nil
  obtain ⟨hP, hD⟩ := va_join (wr := [(h0, .inr (8, [.ref s1, .ref s2, .ref s3, .ref s4, .ref s5, .ref s6, .int 65535, .null, .null])), (s4, .inr (3, [.ref b1, .ref b2, .ref b3, .ref b4, .int 0, .int 0, .int 0]))]) (w1 := []) hP hD [] [0, 1] rfl rfl (by decide) (by decide) hk1 hFc hP1 hD1
  clear hz1 hk1 hFc hKc hDc hPc
  generalize H1 = H at hP hS ⊢
  have hP : va_P D vwCl [(h0, .inr (8, [.ref s1, .ref s2, .ref s3, .ref s4, .ref s5, .ref s6, .int 65535, .null, .null])), (s4, .inr (3, [.ref b1, .ref b2, .ref b3, .ref b4, .int 0, .int 0, .int 0]))] H := hP
  have hD : va_D A [(h0, .inr (8, [.ref s1, .ref s2, .ref s3, .ref s4, .ref s5, .ref s6, .int 65535, .null, .null])), (s4, .inr (3, [.ref b1, .ref b2, .ref b3, .ref b4, .int 0, .int 0, .int 0]))] := hD
  refine lv_if_ne (tgt := 9) hx hb dX8_inside_4 (by decide) (fun c_2 => ?_) (fun c_2 => ?_)
  · skip
    have f_3 := bz1 hr_1 c_2
    refine lv_aload_n hx hb dX8_inside_9 rfl (lv_at hl 0 rfl) ?_
    refine va_get (D := D) (ci := 8) (v := .ref s4) (C := RX8) (T := TX8) (N := 9) hx hb hts hi_X8 hown hK hP 0 rfl rfl 3 (by decide) (hts _ bw_77) (fun _ h9 => h9) rfl dX8_inside_10 ?_
    refine lv_iload_n hx hb dX8_inside_13 rfl (lv_at hl 1 rfl) ?_
    refine lv_iload_n hx hb dX8_inside_14 rfl (lv_at hl 2 rfl) ?_
    have hPc := hP.sub (ws' := [(s4, .inr (3, [.ref b1, .ref b2, .ref b3, .ref b4, .int 0, .int 0, .int 0]))]) [1] rfl
    have hDc := hD.sub (ws' := [(s4, .inr (3, [.ref b1, .ref b2, .ref b3, .ref b4, .int 0, .int 0, .int 0]))]) [1] (by decide) rfl
    have hKc := hK.sub (tys' := []) [] rfl
    have hFc := va_free (wc := [(s4, .inr (3, [.ref b1, .ref b2, .ref b3, .ref b4, .int 0, .int 0, .int 0]))]) hD hS hA [1] rfl
    refine va_calli (va_runV (As := [.int u, .int v]) (rest := []) ⟨hx, hb, hml, hown, hts⟩ (k_X3_windingAt l D H.size s4 b1 b2 b3 b4 u v) (cwV 2 hts (gV bw_165 bw_166 bw_167 bw_49 bw_164) rfl rfl rfl (by decide +kernel) ⟨Nat.le_of_ble_eq_true rfl, Nat.le_of_ble_eq_true rfl⟩) ⟨cP_blind, va_recv hKc hPc (ci := 3) (q0 := 0) rfl rfl, cP_at hPc hKc hDc hN⟩ rfl rfl hl.1 rfl (lv_room (Nat.le_of_ble_eq_true rfl)) dX8_inside_15 ⟨Nat.le_of_ble_eq_true rfl, Nat.le_of_ble_eq_true rfl⟩) hS (fun q _ h => hFc q h) hFc (fun r_4 u9 t9 H1 locs ht hvm hr_4 hB hz1 hk1 hS => ?_)
    try dsimp only at hr_4
    have hP1 : va_P D vwCl [] H1 := vP_nil
    have hD1 : va_D (va_A [(s4, .inr (3, [.ref b1, .ref b2, .ref b3, .ref b4, .int 0, .int 0, .int 0]))] H.size) [] := vD_nil
    obtain ⟨hP, hD⟩ := va_join (wr := [(h0, .inr (8, [.ref s1, .ref s2, .ref s3, .ref s4, .ref s5, .ref s6, .int 65535, .null, .null]))]) (w1 := []) hP hD [1] [0] rfl rfl (by decide) (by decide) hk1 hFc hP1 hD1
    clear hz1 hk1 hFc hKc hDc hPc
    generalize H1 = H at hP hS ⊢
    have hP : va_P D vwCl [(h0, .inr (8, [.ref s1, .ref s2, .ref s3, .ref s4, .ref s5, .ref s6, .int 65535, .null, .null]))] H := hP
    have hD : va_D A [(h0, .inr (8, [.ref s1, .ref s2, .ref s3, .ref s4, .ref s5, .ref s6, .int 65535, .null, .null]))] := hD
    subst hr_4
    refine lv_iload_n hx hb dX8_inside_18 rfl (lv_at hl 3 rfl) ?_
    have hPc := hP.sub (ws' := []) [] rfl
    have hDc := hD.sub (ws' := []) [] (by decide) rfl
    have hKc := hK.sub (tys' := []) [] rfl
    have hFc := va_free (wc := []) hD hS hA [] rfl
    refine va_calli (va_runS (As := [.int 0, .int n]) (rest := []) ⟨hx, hb, hml, hown, hts⟩ (k_X8_isIn l D H.size n) (va_cwS 2 hts (gS bw_169 bw_170 bw_1 bw_168) rfl rfl rfl (by decide +kernel) ⟨Nat.le_of_ble_eq_true rfl, Nat.le_of_ble_eq_true rfl⟩) ⟨cP_blind, cP_at hPc hKc hDc hN⟩ rfl rfl hl.1 rfl (lv_room (Nat.le_of_ble_eq_true rfl)) dX8_inside_19 ⟨Nat.le_of_ble_eq_true rfl, Nat.le_of_ble_eq_true rfl⟩) hS (fun q _ h => hFc q h) hFc (fun r_5 u9 t9 H1 locs ht hvm hr_5 hB hz1 hk1 hS => ?_)
    try dsimp only at hr_5
    have hP1 : va_P D vwCl [] H1 := vP_nil
    have hD1 : va_D (va_A [] H.size) [] := vD_nil
    obtain ⟨hP, hD⟩ := va_join (wr := [(h0, .inr (8, [.ref s1, .ref s2, .ref s3, .ref s4, .ref s5, .ref s6, .int 65535, .null, .null]))]) (w1 := []) hP hD [] [0] rfl rfl (by decide) (by decide) hk1 hFc hP1 hD1
    clear hz1 hk1 hFc hKc hDc hPc
    generalize H1 = H at hP hS ⊢
    have hP : va_P D vwCl [(h0, .inr (8, [.ref s1, .ref s2, .ref s3, .ref s4, .ref s5, .ref s6, .int 65535, .null, .null]))] H := hP
    have hD : va_D A [(h0, .inr (8, [.ref s1, .ref s2, .ref s3, .ref s4, .ref s5, .ref s6, .int 65535, .null, .null]))] := hD
    subst hr_5
    refine lv_if_eq (tgt := 29) hx hb dX8_inside_22 (by decide) (fun c_6 => ?_) (fun c_6 => ?_)
    · skip
      refine lv_iconst (v := 0) hx hb dX8_inside_29 (by decide) ?_
      exact W.iret (v := 0) hx hb hr (fun t ht hW => ⟨⟨0, (), rfl, (if_pos (by omega)).symm, trivial⟩, hS.F ht⟩) hS.2.2 dX8_inside_30
    · skip
      exact absurd c_6 (by decide)
  · skip
    have f_3 := bz0 hr_1 c_2
    refine lv_iconst (v := (-1)) hx hb dX8_inside_7 (by decide) ?_
    exact W.iret (v := (-1)) hx hb hr (fun t ht hW => ⟨⟨(-1), (), rfl, (if_neg (by omega)).symm, trivial⟩, hS.F ht⟩) hS.2.2 dX8_inside_8

set_option maxHeartbeats 4000000 in
set_option maxRecDepth 100000 in
theorem k_X8_corner (l : Launch) (D : va_G) (sz : Nat) (h0 s1 s2 s3 s4 s5 s6 t1 t2 t3 t4 : Nat) (e1 e2 e3 : ClassId) (i x y n : Int32) : Met l yX8_corner (wB yX8_corner cX8_corner 5 (some .boolean)) ({ frames := 2, cells := 0, slots := 0, locals := 44 }) (cP D [(h0, .inr (8, [.ref s1, .ref s2, .ref s3, .ref s4, .ref s5, .ref s6, .int 65535, .null, .null])), (s5, .inr (7, [.ref t1, .ref t2, .ref t3, .ref t4])), (t1, .inl (e1, 3, .inl (fun _ => 0))), (t2, .inl (e2, 3, .inl (fun _ => 0))), (t3, .inl (e3, 3, .inl (fun _ => 0)))] [(e1, .int), (e2, .int), (e3, .int)] sz [.ref h0, .int i, .int x, .int y, .int n]) (va_Qi (fun (r : Int32) (_ : Unit) => r = if 0 ≤ i.toInt ∧ i.toInt ≤ 2 ∧ -200 ≤ x.toInt ∧ x.toInt ≤ 200 ∧ -200 ≤ y.toInt ∧ y.toInt ≤ 200 then 1 else 0) (fun (_ : Unit) (_ : State) => True) (va_A [(h0, .inr (8, [.ref s1, .ref s2, .ref s3, .ref s4, .ref s5, .ref s6, .int 65535, .null, .null])), (s5, .inr (7, [.ref t1, .ref t2, .ref t3, .ref t4])), (t1, .inl (e1, 3, .inl (fun _ => 0))), (t2, .inl (e2, 3, .inl (fun _ => 0))), (t3, .inl (e3, 3, .inl (fun _ => 0)))] sz)) 0 0 (va_A [(h0, .inr (8, [.ref s1, .ref s2, .ref s3, .ref s4, .ref s5, .ref s6, .int 65535, .null, .null])), (s5, .inr (7, [.ref t1, .ref t2, .ref t3, .ref t4])), (t1, .inl (e1, 3, .inl (fun _ => 0))), (t2, .inl (e2, 3, .inl (fun _ => 0))), (t3, .inl (e3, 3, .inl (fun _ => 0)))] sz) := by
  refine Met.ofW (cc := cX8_corner) (maxL := 5) (ret := (some .boolean)) (by decide) rfl ?_
  intro p e s m args below meth c s₁ B hml hv
  obtain ⟨rfl, hsz, hP, hK, hD0, hN⟩ := hv
  have hx := B.exec
  have hb := B.bytes
  have hr := B.returns
  have hts0 := atoms_spec (ws := (wB yX8_corner cX8_corner 5 (some .boolean))) B.pre
  have hts : ∀ w ∈ bigW, w.before _ s = true := fun w h => hts0 w (List.mem_cons_of_mem _ h)
  have hown : s.vm.findClass RX8 = some m.cls := findClass_of_methodNamed B.named
  have hlocks := B.notSynchronized
  subst hsz
  have hD := hD0.self (sz := s.heap.size)
  generalize hAe : va_A [(h0, .inr (8, [.ref s1, .ref s2, .ref s3, .ref s4, .ref s5, .ref s6, .int 65535, .null, .null])), (s5, .inr (7, [.ref t1, .ref t2, .ref t3, .ref t4])), (t1, .inl (e1, 3, .inl (fun _ => 0))), (t2, .inl (e2, 3, .inl (fun _ => 0))), (t3, .inl (e3, 3, .inl (fun _ => 0)))] s.heap.size = A at hD ⊢
  have hA : ∀ q : Nat, s.heap.size ≤ q → A q := fun q h => by rw [← hAe]; exact Or.inr h
  have hS : va_S A s.heap s.heap [] := va_S.rf
  have hP : va_P D vwCl [(h0, .inr (8, [.ref s1, .ref s2, .ref s3, .ref s4, .ref s5, .ref s6, .int 65535, .null, .null])), (s5, .inr (7, [.ref t1, .ref t2, .ref t3, .ref t4])), (t1, .inl (e1, 3, .inl (fun _ => 0))), (t2, .inl (e2, 3, .inl (fun _ => 0))), (t3, .inl (e3, 3, .inl (fun _ => 0)))] s.heap := hP
  have hl := lv_entry ([.ref h0, .int i, .int x, .int y, .int n]) (n := 5) (Nat.le_of_ble_eq_true rfl)
  rw [lg_entry_eq]
  generalize (lg_sl ([.ref h0, .int i, .int x, .int y, .int n]) ++ List.replicate (5 - (lg_sl ([.ref h0, .int i, .int x, .int y, .int n])).length) Slot.unset).toArray = ls at hl ⊢
  have hl : lv_has ls 5 [(0, .ref h0), (1, .int i), (2, .int x), (3, .int y), (4, .int n)] := hl
  refine lv_iload_n hx hb dX8_corner_0 rfl (lv_at hl 1 rfl) ?_
  refine lv_if_lt (tgt := 29) hx hb dX8_corner_1 (by decide) (fun c_1 => ?_) (fun c_1 => ?_)
  · skip
    have f_2 : i.toInt < 0 := f_lt rfl (by decide) c_1
    refine lv_iconst (v := 0) hx hb dX8_corner_29 (by decide) ?_
    exact W.zret (v := 0) hx hb hr rfl (fun t ht hW => ⟨⟨0, (), rfl, (if_neg (by omega)).symm, trivial⟩, hS.F ht⟩) hS.2.2 dX8_corner_30
  · skip
    have f_2 : ¬ (i.toInt < 0) := fn_lt rfl (by decide) c_1
    refine lv_iload_n hx hb dX8_corner_4 rfl (lv_at hl 1 rfl) ?_
    refine lv_iconst (v := 3) hx hb dX8_corner_5 (by decide) ?_
    refine lv_icmp_ge (tgt := 29) hx hb dX8_corner_6 (by decide) (fun c_3 => ?_) (fun c_3 => ?_)
    · skip
      have f_4 : 3 ≤ i.toInt := f_le (by decide) rfl c_3
      refine lv_iconst (v := 0) hx hb dX8_corner_29 (by decide) ?_
      exact W.zret (v := 0) hx hb hr rfl (fun t ht hW => ⟨⟨0, (), rfl, (if_neg (by omega)).symm, trivial⟩, hS.F ht⟩) hS.2.2 dX8_corner_30
    · skip
      have f_4 : ¬ (3 ≤ i.toInt) := fn_le (by decide) rfl c_3
      refine lv_iload_n hx hb dX8_corner_9 rfl (lv_at hl 2 rfl) ?_
      refine lv_sipush (v := 200) hx hb dX8_corner_10 (by decide) ?_
      have hPc := hP.sub (ws' := []) [] rfl
      have hDc := hD.sub (ws' := []) [] (by decide) rfl
      have hKc := hK.sub (tys' := []) [] rfl
      have hFc := va_free (wc := []) hD hS hA [] rfl
      refine va_calli (va_runS (As := [.int x, .int 200]) (rest := []) ⟨hx, hb, hml, hown, hts⟩ (k_X8_isNear l D s.heap.size x 200 (-200) 200 (by decide) (by decide)) (va_cwS 2 hts (gS bw_151 bw_152 bw_1 bw_150) rfl rfl rfl (by decide +kernel) ⟨Nat.le_of_ble_eq_true rfl, Nat.le_of_ble_eq_true rfl⟩) ⟨cP_blind, cP_at hPc hKc hDc hN⟩ rfl rfl hl.1 rfl (lv_room (Nat.le_of_ble_eq_true rfl)) dX8_corner_13 ⟨Nat.le_of_ble_eq_true rfl, Nat.le_of_ble_eq_true rfl⟩) hS (fun q _ h => hFc q h) hFc (fun r_5 u9 t9 H1 locs ht hvm hr_5 hB hz1 hk1 hS => ?_)
      try dsimp only at hr_5
      have hP1 : va_P D vwCl [] H1 := vP_nil
      have hD1 : va_D (va_A [] s.heap.size) [] := vD_nil
      obtain ⟨hP, hD⟩ := va_join (wr := [(h0, .inr (8, [.ref s1, .ref s2, .ref s3, .ref s4, .ref s5, .ref s6, .int 65535, .null, .null])), (s5, .inr (7, [.ref t1, .ref t2, .ref t3, .ref t4])), (t1, .inl (e1, 3, .inl (fun _ => 0))), (t2, .inl (e2, 3, .inl (fun _ => 0))), (t3, .inl (e3, 3, .inl (fun _ => 0)))]) (w1 := []) hP hD [] [0, 1, 2, 3, 4] rfl rfl (by decide) (by decide) hk1 hFc hP1 hD1
      clear hz1 hk1 hFc hKc hDc hPc
      generalize H1 = H at hP hS ⊢
      have hP : va_P D vwCl [(h0, .inr (8, [.ref s1, .ref s2, .ref s3, .ref s4, .ref s5, .ref s6, .int 65535, .null, .null])), (s5, .inr (7, [.ref t1, .ref t2, .ref t3, .ref t4])), (t1, .inl (e1, 3, .inl (fun _ => 0))), (t2, .inl (e2, 3, .inl (fun _ => 0))), (t3, .inl (e3, 3, .inl (fun _ => 0)))] H := hP
      have hD : va_D A [(h0, .inr (8, [.ref s1, .ref s2, .ref s3, .ref s4, .ref s5, .ref s6, .int 65535, .null, .null])), (s5, .inr (7, [.ref t1, .ref t2, .ref t3, .ref t4])), (t1, .inl (e1, 3, .inl (fun _ => 0))), (t2, .inl (e2, 3, .inl (fun _ => 0))), (t3, .inl (e3, 3, .inl (fun _ => 0)))] := hD
      refine lv_if_eq (tgt := 29) hx hb dX8_corner_16 (by decide) (fun c_6 => ?_) (fun c_6 => ?_)
      · skip
        have f_7 := bz0 hr_5 c_6
        refine lv_iconst (v := 0) hx hb dX8_corner_29 (by decide) ?_
        exact W.zret (v := 0) hx hb hr rfl (fun t ht hW => ⟨⟨0, (), rfl, (if_neg (by omega)).symm, trivial⟩, hS.F ht⟩) hS.2.2 dX8_corner_30
      · skip
        have f_7 := bz1 hr_5 c_6
        refine lv_iload_n hx hb dX8_corner_19 rfl (lv_at hl 3 rfl) ?_
        refine lv_sipush (v := 200) hx hb dX8_corner_20 (by decide) ?_
        have hPc := hP.sub (ws' := []) [] rfl
        have hDc := hD.sub (ws' := []) [] (by decide) rfl
        have hKc := hK.sub (tys' := []) [] rfl
        have hFc := va_free (wc := []) hD hS hA [] rfl
        refine va_calli (va_runS (As := [.int y, .int 200]) (rest := []) ⟨hx, hb, hml, hown, hts⟩ (k_X8_isNear l D H.size y 200 (-200) 200 (by decide) (by decide)) (va_cwS 2 hts (gS bw_151 bw_152 bw_1 bw_150) rfl rfl rfl (by decide +kernel) ⟨Nat.le_of_ble_eq_true rfl, Nat.le_of_ble_eq_true rfl⟩) ⟨cP_blind, cP_at hPc hKc hDc hN⟩ rfl rfl hl.1 rfl (lv_room (Nat.le_of_ble_eq_true rfl)) dX8_corner_23 ⟨Nat.le_of_ble_eq_true rfl, Nat.le_of_ble_eq_true rfl⟩) hS (fun q _ h => hFc q h) hFc (fun r_8 u9 t9 H1 locs ht hvm hr_8 hB hz1 hk1 hS => ?_)
        try dsimp only at hr_8
        have hP1 : va_P D vwCl [] H1 := vP_nil
        have hD1 : va_D (va_A [] H.size) [] := vD_nil
        obtain ⟨hP, hD⟩ := va_join (wr := [(h0, .inr (8, [.ref s1, .ref s2, .ref s3, .ref s4, .ref s5, .ref s6, .int 65535, .null, .null])), (s5, .inr (7, [.ref t1, .ref t2, .ref t3, .ref t4])), (t1, .inl (e1, 3, .inl (fun _ => 0))), (t2, .inl (e2, 3, .inl (fun _ => 0))), (t3, .inl (e3, 3, .inl (fun _ => 0)))]) (w1 := []) hP hD [] [0, 1, 2, 3, 4] rfl rfl (by decide) (by decide) hk1 hFc hP1 hD1
        clear hz1 hk1 hFc hKc hDc hPc
        generalize H1 = H at hP hS ⊢
        have hP : va_P D vwCl [(h0, .inr (8, [.ref s1, .ref s2, .ref s3, .ref s4, .ref s5, .ref s6, .int 65535, .null, .null])), (s5, .inr (7, [.ref t1, .ref t2, .ref t3, .ref t4])), (t1, .inl (e1, 3, .inl (fun _ => 0))), (t2, .inl (e2, 3, .inl (fun _ => 0))), (t3, .inl (e3, 3, .inl (fun _ => 0)))] H := hP
        have hD : va_D A [(h0, .inr (8, [.ref s1, .ref s2, .ref s3, .ref s4, .ref s5, .ref s6, .int 65535, .null, .null])), (s5, .inr (7, [.ref t1, .ref t2, .ref t3, .ref t4])), (t1, .inl (e1, 3, .inl (fun _ => 0))), (t2, .inl (e2, 3, .inl (fun _ => 0))), (t3, .inl (e3, 3, .inl (fun _ => 0)))] := hD
        refine lv_if_ne (tgt := 31) hx hb dX8_corner_26 (by decide) (fun c_9 => ?_) (fun c_9 => ?_)
        · skip
          have f_10 := bz1 hr_8 c_9
          refine lv_aload_n hx hb dX8_corner_31 rfl (lv_at hl 0 rfl) ?_
          refine va_get (D := D) (ci := 8) (v := .ref s5) (C := RX8) (T := TX8) (N := 9) hx hb hts hi_X8 hown hK hP 0 rfl rfl 4 (by decide) (hts _ bw_83) (fun _ h9 => h9) rfl dX8_corner_32 ?_
          refine lv_iload_n hx hb dX8_corner_35 rfl (lv_at hl 1 rfl) ?_
          refine lv_iload_n hx hb dX8_corner_36 rfl (lv_at hl 2 rfl) ?_
          refine lv_iload_n hx hb dX8_corner_37 rfl (lv_at hl 3 rfl) ?_
          refine lv_iload hx hb dX8_corner_38 (lv_at hl 4 rfl) ?_
          have hPc := hP.sub (ws' := []) [] rfl
          have hDc := hD.sub (ws' := []) [] (by decide) rfl
          have hKc := hK.sub (tys' := []) [] rfl
          have hFc := va_free (wc := []) hD hS hA [] rfl
          refine va_calli (va_runS (As := [.int n]) (rest := [.int y, .int x, .int i, .ref s5]) ⟨hx, hb, hml, hown, hts⟩ (k_X8_inkOf l D H.size n) (va_cwS 1 hts (gS bw_134 bw_135 bw_1 bw_133) rfl rfl rfl (by decide +kernel) ⟨Nat.le_of_ble_eq_true rfl, Nat.le_of_ble_eq_true rfl⟩) ⟨cP_blind, cP_at hPc hKc hDc hN⟩ rfl rfl hl.1 rfl (lv_room (Nat.le_of_ble_eq_true rfl)) dX8_corner_40 ⟨Nat.le_of_ble_eq_true rfl, Nat.le_of_ble_eq_true rfl⟩) hS (fun q _ h => hFc q h) hFc (fun r_11 u9 t9 H1 locs ht hvm hr_11 hB hz1 hk1 hS => ?_)
          try dsimp only at hr_11
          have hP1 : va_P D vwCl [] H1 := vP_nil
          have hD1 : va_D (va_A [] H.size) [] := vD_nil
          obtain ⟨hP, hD⟩ := va_join (wr := [(h0, .inr (8, [.ref s1, .ref s2, .ref s3, .ref s4, .ref s5, .ref s6, .int 65535, .null, .null])), (s5, .inr (7, [.ref t1, .ref t2, .ref t3, .ref t4])), (t1, .inl (e1, 3, .inl (fun _ => 0))), (t2, .inl (e2, 3, .inl (fun _ => 0))), (t3, .inl (e3, 3, .inl (fun _ => 0)))]) (w1 := []) hP hD [] [0, 1, 2, 3, 4] rfl rfl (by decide) (by decide) hk1 hFc hP1 hD1
          clear hz1 hk1 hFc hKc hDc hPc
          generalize H1 = H at hP hS ⊢
          have hP : va_P D vwCl [(h0, .inr (8, [.ref s1, .ref s2, .ref s3, .ref s4, .ref s5, .ref s6, .int 65535, .null, .null])), (s5, .inr (7, [.ref t1, .ref t2, .ref t3, .ref t4])), (t1, .inl (e1, 3, .inl (fun _ => 0))), (t2, .inl (e2, 3, .inl (fun _ => 0))), (t3, .inl (e3, 3, .inl (fun _ => 0)))] H := hP
          have hD : va_D A [(h0, .inr (8, [.ref s1, .ref s2, .ref s3, .ref s4, .ref s5, .ref s6, .int 65535, .null, .null])), (s5, .inr (7, [.ref t1, .ref t2, .ref t3, .ref t4])), (t1, .inl (e1, 3, .inl (fun _ => 0))), (t2, .inl (e2, 3, .inl (fun _ => 0))), (t3, .inl (e3, 3, .inl (fun _ => 0)))] := hD
          have hPc := hP.sub (ws' := [(s5, .inr (7, [.ref t1, .ref t2, .ref t3, .ref t4])), (t1, .inl (e1, 3, .inl (fun _ => 0))), (t2, .inl (e2, 3, .inl (fun _ => 0))), (t3, .inl (e3, 3, .inl (fun _ => 0)))]) [1, 2, 3, 4] rfl
          have hDc := hD.sub (ws' := [(s5, .inr (7, [.ref t1, .ref t2, .ref t3, .ref t4])), (t1, .inl (e1, 3, .inl (fun _ => 0))), (t2, .inl (e2, 3, .inl (fun _ => 0))), (t3, .inl (e3, 3, .inl (fun _ => 0)))]) [1, 2, 3, 4] (by decide) rfl
          have hKc := hK.sub (tys' := [(e1, .int), (e2, .int), (e3, .int)]) [0, 1, 2] rfl
          have hFc := va_free (wc := [(s5, .inr (7, [.ref t1, .ref t2, .ref t3, .ref t4])), (t1, .inl (e1, 3, .inl (fun _ => 0))), (t2, .inl (e2, 3, .inl (fun _ => 0))), (t3, .inl (e3, 3, .inl (fun _ => 0)))]) hD hS hA [1, 2, 3, 4] rfl
          refine va_callv (va_runV (As := [.int i, .int x, .int y, .int r_11]) (rest := []) ⟨hx, hb, hml, hown, hts⟩ (k_X7_place l D H.size s5 t1 t2 t3 t4 e1 e2 e3 i x y r_11) (cwV 4 hts (gV bw_172 bw_173 bw_174 bw_80 bw_171) rfl rfl rfl (by decide +kernel) ⟨Nat.le_of_ble_eq_true rfl, Nat.le_of_ble_eq_true rfl⟩) ⟨cP_blind, va_recv hKc hPc (ci := 7) (q0 := 0) rfl rfl, cP_at hPc hKc hDc hN⟩ rfl rfl hl.1 rfl (lv_room (Nat.le_of_ble_eq_true rfl)) dX8_corner_43 ⟨Nat.le_of_ble_eq_true rfl, Nat.le_of_ble_eq_true rfl⟩) hS (fun q _ h => hFc q h) hFc (fun u9 t9 H1 locs ht hvm hr_12 hB hz1 hk1 hS => ?_)
          try dsimp only at hr_12
          have hP1 : va_P D vwCl [] H1 := vP_nil
          have hD1 : va_D (va_A [(s5, .inr (7, [.ref t1, .ref t2, .ref t3, .ref t4])), (t1, .inl (e1, 3, .inl (fun _ => 0))), (t2, .inl (e2, 3, .inl (fun _ => 0))), (t3, .inl (e3, 3, .inl (fun _ => 0)))] H.size) [] := vD_nil
          obtain ⟨hP, hD⟩ := va_join (wr := [(h0, .inr (8, [.ref s1, .ref s2, .ref s3, .ref s4, .ref s5, .ref s6, .int 65535, .null, .null]))]) (w1 := []) hP hD [1, 2, 3, 4] [0] rfl rfl (by decide) (by decide) hk1 hFc hP1 hD1
          clear hz1 hk1 hFc hKc hDc hPc
          generalize H1 = H at hP hS ⊢
          have hP : va_P D vwCl [(h0, .inr (8, [.ref s1, .ref s2, .ref s3, .ref s4, .ref s5, .ref s6, .int 65535, .null, .null]))] H := hP
          have hD : va_D A [(h0, .inr (8, [.ref s1, .ref s2, .ref s3, .ref s4, .ref s5, .ref s6, .int 65535, .null, .null]))] := hD
          refine lv_iconst (v := 1) hx hb dX8_corner_46 (by decide) ?_
          exact W.zret (v := 1) hx hb hr rfl (fun t ht hW => ⟨⟨1, (), rfl, (if_pos (by omega)).symm, trivial⟩, hS.F ht⟩) hS.2.2 dX8_corner_47
        · skip
          have f_10 := bz0 hr_8 c_9
          refine lv_iconst (v := 0) hx hb dX8_corner_29 (by decide) ?_
          exact W.zret (v := 0) hx hb hr rfl (fun t ht hW => ⟨⟨0, (), rfl, (if_neg (by omega)).symm, trivial⟩, hS.F ht⟩) hS.2.2 dX8_corner_30
