set_option maxHeartbeats 4000000 in
set_option maxRecDepth 100000 in
theorem k_X8_isIn (l : Launch) (D : va_G) (sz : Nat) (n ru : Int32) : Met l yX8_isIn (wB yX8_isIn cX8_isIn 2 (some .boolean)) ({ frames := 0, cells := 0, slots := 0, locals := 0 }) (cP D [] [] sz [.int n, .int ru]) (va_Qi (fun (r : Int32) (_ : Unit) => r = if (if ru = 0 then n &&& 1 = 1 else ¬ n = 0) then 1 else 0) (fun (_ : Unit) (_ : State) => True) (va_A [] sz)) 0 0 (va_A [] sz) := by
  refine Met.ofW (cc := cX8_isIn) (maxL := 2) (ret := (some .boolean)) (by decide) rfl ?_
  intro p e s m args below meth c s₁ B hml hv
  obtain ⟨rfl, hsz, hP, hK, hD0, hN⟩ := hv
  have hx := B.exec
  have hb := B.bytes
  have hr := B.returns
  have hts0 := atoms_spec (ws := (wB yX8_isIn cX8_isIn 2 (some .boolean))) B.pre
  have hts : ∀ w ∈ bigW, w.before _ s = true := fun w h => hts0 w (List.mem_cons_of_mem _ h)
  have hown : s.vm.findClass RX8 = some m.cls := findClass_of_methodNamed B.named
  have hlocks := B.notSynchronized
  subst hsz
  have hD := hD0.self (sz := s.heap.size)
  generalize hAe : va_A [] s.heap.size = A at hD ⊢
  have hA : ∀ q : Nat, s.heap.size ≤ q → A q := fun q h => by rw [← hAe]; exact Or.inr h
  have hS : va_S A s.heap s.heap [] := va_S.rf
  have hP : va_P D vwCl [] s.heap := hP
  have hl := lv_entry ([.int n, .int ru]) (n := 2) (Nat.le_of_ble_eq_true rfl)
  rw [lg_entry_eq]
  generalize (lg_sl ([.int n, .int ru]) ++ List.replicate (2 - (lg_sl ([.int n, .int ru])).length) Slot.unset).toArray = ls at hl ⊢
  have hl : lv_has ls 2 [(0, .int n), (1, .int ru)] := hl
  clear hts0 hD0 hAe
  refine my_abs (fun R Q hR hQ => ?_)
  refine lv_iload_n hx hb dX8_isIn_0 rfl (lv_at hl 1 rfl) ?_
  refine lv_if_ne (tgt := 19) hx hb dX8_isIn_1 (by decide) (fun c_1 => ?_) (fun c_1 => ?_)
  · skip
    have f_2 : ¬ (ru.toInt = 0) := fn_eq rfl (by decide) c_1
    refine lv_iload_n hx hb dX8_isIn_19 rfl (lv_at hl 0 rfl) ?_
    refine lv_if_eq (tgt := 27) hx hb dX8_isIn_20 (by decide) (fun c_3 => ?_) (fun c_3 => ?_)
    · skip
      have f_4 : n.toInt = 0 := f_eq rfl (by decide) c_3
      refine lv_iconst (v := 0) hx hb dX8_isIn_27 (by decide) ?_
      refine hQ _ _ _ _ _ ?_
      exact W.zret (v := 0) hx hb hr rfl (fun t ht hW => ⟨⟨0, (), rfl, (by simp only [if_neg c_1]; exact (if_neg (fun q => q c_3)).symm), trivial⟩, hS.F ht⟩) hS.2.2 dX8_isIn_28
    · skip
      have f_4 : ¬ (n.toInt = 0) := fn_eq rfl (by decide) c_3
      refine lv_iconst (v := 1) hx hb dX8_isIn_23 (by decide) ?_
      refine lv_goto (tgt := 28) hx hb dX8_isIn_24 (by decide) ?_
      refine hQ _ _ _ _ _ ?_
      exact W.zret (v := 1) hx hb hr rfl (fun t ht hW => ⟨⟨1, (), rfl, (by simp only [if_neg c_1]; exact (if_pos c_3).symm), trivial⟩, hS.F ht⟩) hS.2.2 dX8_isIn_28
  · skip
    have f_2 : ru.toInt = 0 := f_eq rfl (by decide) c_1
    refine lv_iload_n hx hb dX8_isIn_4 rfl (lv_at hl 0 rfl) ?_
    refine lv_iconst (v := 1) hx hb dX8_isIn_5 (by decide) ?_
    refine lv_iand hx hb dX8_isIn_6 ?_
    refine lv_topi (fun y_5 ey_5 => ?_)
    refine lv_iconst (v := 1) hx hb dX8_isIn_7 (by decide) ?_
    refine lv_icmp_ne (tgt := 15) hx hb dX8_isIn_8 (by decide) (fun c_6 => ?_) (fun c_6 => ?_)
    · skip
      have f_7 : ¬ (y_5.toInt = 1) := fn_eq rfl (by decide) c_6
      have hq : ¬ n &&& 1 = 1 := by rw [← ey_5]; exact c_6
      refine lv_iconst (v := 0) hx hb dX8_isIn_15 (by decide) ?_
      refine lv_goto (tgt := 28) hx hb dX8_isIn_16 (by decide) ?_
      refine hQ _ _ _ _ _ ?_
      exact W.zret (v := 0) hx hb hr rfl (fun t ht hW => ⟨⟨0, (), rfl, (by simp only [if_pos c_1]; exact (if_neg hq).symm), trivial⟩, hS.F ht⟩) hS.2.2 dX8_isIn_28
    · skip
      have f_7 : y_5.toInt = 1 := f_eq rfl (by decide) c_6
      have hq : n &&& 1 = 1 := by rw [← ey_5]; exact c_6
      refine lv_iconst (v := 1) hx hb dX8_isIn_11 (by decide) ?_
      refine lv_goto (tgt := 28) hx hb dX8_isIn_12 (by decide) ?_
      refine hQ _ _ _ _ _ ?_
      exact W.zret (v := 1) hx hb hr rfl (fun t ht hW => ⟨⟨1, (), rfl, (by simp only [if_pos c_1]; exact (if_pos hq).symm), trivial⟩, hS.F ht⟩) hS.2.2 dX8_isIn_28

set_option maxHeartbeats 4000000 in
set_option maxRecDepth 100000 in
theorem k_X3_windRow_3 (l : Launch) (D : va_G) (sz : Nat) (h0 rw : Nat) (p1 p2 p3 p4 : Nat) (pn fx fy : Int32) (qa : Nat → Int32) (qb : Nat → Int32) (qc : Nat → Int32) (qd : Nat → Int32) (gr : Nat → Int32) (v pl : Int32) (cI : ClassId) (hpn : 0 ≤ pn.toInt ∧ pn.toInt ≤ 48) : Met l yX3_windRow (wB yX3_windRow cX3_windRow 10 none) ({ frames := 2, cells := 0, slots := 0, locals := 45 }) (cP D [(h0, .inr (3, [.ref p1, .ref p2, .ref p3, .ref p4, .int pn, .int fx, .int fy])), (p1, .inl (cI, 48, .inl qa)), (p2, .inl (cI, 48, .inl qb)), (p3, .inl (cI, 48, .inl qc)), (p4, .inl (cI, 48, .inl qd)), (rw, .inl (cI, 256, .inl gr))] [(cI, .int)] sz [.ref h0, .int v, .int 3, .ref rw, .int pl]) (va_Qv (fun (_ : Unit) => True) (fun (_ : Unit) (t : State) => ∃ (g2 : Nat → Int32), cB D (va_A [(h0, .inr (3, [.ref p1, .ref p2, .ref p3, .ref p4, .int pn, .int fx, .int fy])), (p1, .inl (cI, 48, .inl qa)), (p2, .inl (cI, 48, .inl qb)), (p3, .inl (cI, 48, .inl qc)), (p4, .inl (cI, 48, .inl qd)), (rw, .inl (cI, 256, .inl gr))] sz) [(h0, .inr (3, [.ref p1, .ref p2, .ref p3, .ref p4, .int pn, .int fx, .int fy])), (p1, .inl (cI, 48, .inl qa)), (p2, .inl (cI, 48, .inl qb)), (p3, .inl (cI, 48, .inl qc)), (p4, .inl (cI, 48, .inl qd)), (rw, .inl (cI, 256, .inl g2))] [(cI, .int)] t) (va_A [(h0, .inr (3, [.ref p1, .ref p2, .ref p3, .ref p4, .int pn, .int fx, .int fy])), (p1, .inl (cI, 48, .inl qa)), (p2, .inl (cI, 48, .inl qb)), (p3, .inl (cI, 48, .inl qc)), (p4, .inl (cI, 48, .inl qd)), (rw, .inl (cI, 256, .inl gr))] sz)) 0 0 (va_A [(h0, .inr (3, [.ref p1, .ref p2, .ref p3, .ref p4, .int pn, .int fx, .int fy])), (p1, .inl (cI, 48, .inl qa)), (p2, .inl (cI, 48, .inl qb)), (p3, .inl (cI, 48, .inl qc)), (p4, .inl (cI, 48, .inl qd)), (rw, .inl (cI, 256, .inl gr))] sz) := by
  refine Met.ofW (cc := cX3_windRow) (maxL := 10) (ret := none) (by decide) rfl ?_
  intro p e s m args below meth c s₁ B hml hv
  obtain ⟨rfl, hsz, hP, hK, hD0, hN⟩ := hv
  have hx := B.exec
  have hb := B.bytes
  have hr := B.returns
  have hts0 := atoms_spec (ws := (wB yX3_windRow cX3_windRow 10 none)) B.pre
  have hts : ∀ w ∈ bigW, w.before _ s = true := fun w h => hts0 w (List.mem_cons_of_mem _ h)
  have hown : s.vm.findClass RX3 = some m.cls := findClass_of_methodNamed B.named
  have hlocks := B.notSynchronized
  subst hsz
  have hD := hD0.self (sz := s.heap.size)
  generalize hAe : va_A [(h0, .inr (3, [.ref p1, .ref p2, .ref p3, .ref p4, .int pn, .int fx, .int fy])), (p1, .inl (cI, 48, .inl qa)), (p2, .inl (cI, 48, .inl qb)), (p3, .inl (cI, 48, .inl qc)), (p4, .inl (cI, 48, .inl qd)), (rw, .inl (cI, 256, .inl gr))] s.heap.size = A at hD ⊢
  have hA : ∀ q : Nat, s.heap.size ≤ q → A q := fun q h => by rw [← hAe]; exact Or.inr h
  have hS : va_S A s.heap s.heap [] := va_S.rf
  have hP : va_P D vwCl [(h0, .inr (3, [.ref p1, .ref p2, .ref p3, .ref p4, .int pn, .int fx, .int fy])), (p1, .inl (cI, 48, .inl qa)), (p2, .inl (cI, 48, .inl qb)), (p3, .inl (cI, 48, .inl qc)), (p4, .inl (cI, 48, .inl qd)), (rw, .inl (cI, 256, .inl gr))] s.heap := hP
  have hl := lv_entry ([.ref h0, .int v, .int 3, .ref rw, .int pl]) (n := 10) (Nat.le_of_ble_eq_true rfl)
  rw [lg_entry_eq]
  generalize (lg_sl ([.ref h0, .int v, .int 3, .ref rw, .int pl]) ++ List.replicate (10 - (lg_sl ([.ref h0, .int v, .int 3, .ref rw, .int pl])).length) Slot.unset).toArray = ls at hl ⊢
  have hl : lv_has ls 10 [(0, .ref h0), (1, .int v), (2, .int 3), (3, .ref rw), (4, .int pl)] := hl
  clear hts0 hD0 hAe
  refine my_abs (fun R Q hR hQ => ?_)
  refine lv_iload hx hb dX3_windRow_0 (lv_at hl 4 rfl) ?_
  refine lv_aload_n hx hb dX3_windRow_2 rfl (lv_at hl 3 rfl) ?_
  refine va_alen (v := 256) hx hb hK hP 5 0 rfl rfl rfl dX3_windRow_3 ?_
  refine va_mmin hx hb (by rw [hml]; exact hl.1.symm) hown (hts _ bw_93) (hts _ bw_46) (hts _ bw_47) (hts _ bw_48) (by rw [hR]; exact Nat.le_of_ble_eq_true rfl) (by rw [hR]; exact Nat.le_of_ble_eq_true rfl) (by rw [hR]; exact Nat.le_of_ble_eq_true rfl) (by rw [hR]; exact Nat.le_of_ble_eq_true rfl) dX3_windRow_4 ?_
  refine lv_topi (fun y_1 ey_1 => ?_)
  have hmy_1 : y_1.toInt ≤ 256 := by rw [ey_1]; exact mn_le (by decide)
  refine lv_istore (lv' := [(5, .int y_1), (0, .ref h0), (1, .int v), (2, .int 3), (3, .ref rw), (4, .int pl)]) hx hb dX3_windRow_7 hl (by decide) rfl (fun ls hl => ?_)
  refine lv_aload_n hx hb dX3_windRow_9 rfl (lv_at hl 4 rfl) ?_
  refine lv_iconst (v := 0) hx hb dX3_windRow_10 (by decide) ?_
  have hPc := hP.sub (ws' := [(rw, .inl (cI, 256, .inl gr))]) [5] rfl
  have hDc := hD.sub (ws' := [(rw, .inl (cI, 256, .inl gr))]) [5] (by decide) rfl
  have hKc := hK.sub (tys' := [(cI, .int)]) [0] rfl
  have hFc := va_free (wc := [(rw, .inl (cI, 256, .inl gr))]) hD hS hA [5] rfl
  refine va_callv (va_runS (As := [.ref rw, .int 0]) (rest := []) ⟨hx, hb, hml, hown, hts⟩ (k_J7_fill_53178_256 l D s.heap.size rw gr 0 cI) (va_cwS 2 hts (gS bw_94 bw_95 bw_96 bw_97) rfl rfl rfl (by decide +kernel) ⟨(by rw [hR]; exact Nat.le_of_ble_eq_true rfl), (by rw [hR]; exact Nat.le_of_ble_eq_true rfl)⟩) ⟨cP_blind, cP_at hPc hKc hDc hN⟩ rfl rfl hl.1 rfl (lv_room (Nat.le_of_ble_eq_true rfl)) dX3_windRow_11 ⟨(by rw [hR]; exact Nat.le_of_ble_eq_true rfl), (by rw [hR]; exact Nat.le_of_ble_eq_true rfl)⟩) hS (fun q _ h => hFc q h) hFc (fun u9 t9 H1 locs ht hvm hr_2 hB hz1 hk1 hS => ?_)
  try dsimp only at hr_2
  obtain ⟨g_3, b_4, hP1, hK1, hD1⟩ := hB
  rw [ht] at hP1
  obtain ⟨hP, hD⟩ := va_join (wr := [(h0, .inr (3, [.ref p1, .ref p2, .ref p3, .ref p4, .int pn, .int fx, .int fy])), (p1, .inl (cI, 48, .inl qa)), (p2, .inl (cI, 48, .inl qb)), (p3, .inl (cI, 48, .inl qc)), (p4, .inl (cI, 48, .inl qd))]) (w1 := [(rw, .inl (cI, 256, .inl g_3))]) hP hD [5] [0, 1, 2, 3, 4] rfl rfl (by decide) (by decide) hk1 hFc hP1 hD1
  clear hz1 hk1 hFc hKc hDc hPc
  generalize H1 = H at hP hS ⊢
  have hP : va_P D vwCl [(h0, .inr (3, [.ref p1, .ref p2, .ref p3, .ref p4, .int pn, .int fx, .int fy])), (p1, .inl (cI, 48, .inl qa)), (p2, .inl (cI, 48, .inl qb)), (p3, .inl (cI, 48, .inl qc)), (p4, .inl (cI, 48, .inl qd)), (rw, .inl (cI, 256, .inl g_3))] H := hP
  have hD : va_D A [(h0, .inr (3, [.ref p1, .ref p2, .ref p3, .ref p4, .int pn, .int fx, .int fy])), (p1, .inl (cI, 48, .inl qa)), (p2, .inl (cI, 48, .inl qb)), (p3, .inl (cI, 48, .inl qc)), (p4, .inl (cI, 48, .inl qd)), (rw, .inl (cI, 256, .inl g_3))] := hD
  refine lv_iconst (v := 1) hx hb dX3_windRow_14 (by decide) ?_
  refine lv_iload_n hx hb dX3_windRow_15 rfl (lv_at hl 3 rfl) ?_
  refine lv_ishl hx hb dX3_windRow_16 ?_
  refine my_fold (v := 8) (by decide) ?_
  refine lv_iconst (v := 2) hx hb dX3_windRow_17 (by decide) ?_
  refine lv_idiv hx hb dX3_windRow_18 (by decide) ?_
  refine my_fold (v := 4) (by decide) ?_
  refine lv_istore (lv' := [(6, .int 4), (5, .int y_1), (0, .ref h0), (1, .int v), (2, .int 3), (3, .ref rw), (4, .int pl)]) hx hb dX3_windRow_19 hl (by decide) rfl (fun ls hl => ?_)
  refine lv_iconst (v := 0) hx hb dX3_windRow_21 (by decide) ?_
  refine lv_istore (lv' := [(7, .int 0), (6, .int 4), (5, .int y_1), (0, .ref h0), (1, .int v), (2, .int 3), (3, .ref rw), (4, .int pl)]) hx hb dX3_windRow_22 hl (by decide) rfl (fun ls hl => ?_)
  have loop_5 : ∀ (n : Nat) (i : Nat) (x7 : Int32) (gg : Nat → Int32) (H : Heap) (locs : List Loc) (ls : Array Slot), (i ≤ 48) → (48 + 1 ≤ i + n) → (x7 = nI i) → va_P D vwCl [(h0, .inr (3, [.ref p1, .ref p2, .ref p3, .ref p4, .int pn, .int fx, .int fy])), (p1, .inl (cI, 48, .inl qa)), (p2, .inl (cI, 48, .inl qb)), (p3, .inl (cI, 48, .inl qc)), (p4, .inl (cI, 48, .inl qd)), (rw, .inl (cI, 256, .inl gg))] H → va_D A [(h0, .inr (3, [.ref p1, .ref p2, .ref p3, .ref p4, .int pn, .int fx, .int fy])), (p1, .inl (cI, 48, .inl qa)), (p2, .inl (cI, 48, .inl qb)), (p3, .inl (cI, 48, .inl qc)), (p4, .inl (cI, 48, .inl qd)), (rw, .inl (cI, 256, .inl gg))] → va_S A s.heap H locs → lv_has ls 10 [(7, .int x7), (6, .int 4), (5, .int y_1), (0, .ref h0), (1, .int v), (2, .int 3), (3, .ref rw), (4, .int pl)] → W p l e R s m ([.ref h0, .int v, .int 3, .ref rw, .int pl] : List Value).toArray below meth c H locs 0 0 Q (F0 m 24 ls []) := by
    intro n
    induction n with
    | zero =>
      intro i x7 gg H locs ls hi_i hm_i ex_i hP hD hS hl
      exact absurd (show False by omega) not_false
    | succ n ih_6 =>
      intro i x7 gg H locs ls hi_i hm_i ex_i hP hD hS hl
      have hx_i : x7.toInt = (i : Int) := by rw [ex_i]; exact nI_toInt (by omega)
      have hc_i : x7.toNatClampNeg = i := by rw [ex_i]; exact nI_clamp (by omega)
      refine lv_iload hx hb dX3_windRow_24 (lv_at hl 0 rfl) ?_
      refine lv_aload_n hx hb dX3_windRow_26 rfl (lv_at hl 3 rfl) ?_
      refine va_get (D := D) (ci := 3) (v := .int pn) (C := RX3) (T := TX3) (N := 7) hx hb hts hi_X3 hown hK hP 0 rfl rfl 4 (by decide) (hts _ bw_76) (fun _ h9 => h9) rfl dX3_windRow_27 ?_
      refine lv_icmp_ge (tgt := 89) hx hb dX3_windRow_30 (by decide) (fun c_7 => ?_) (fun c_7 => ?_)
      · skip
        have f_8 : pn.toInt ≤ (i : Int) := f_le rfl hx_i c_7
        refine lv_iconst (v := 1) hx hb dX3_windRow_89 (by decide) ?_
        refine lv_istore (lv' := [(7, .int 1), (6, .int 4), (5, .int y_1), (0, .ref h0), (1, .int v), (2, .int 3), (3, .ref rw), (4, .int pl)]) hx hb dX3_windRow_90 hl (by decide) rfl (fun ls hl => ?_)
        have loop_9 : ∀ (n : Nat) (k9 : Nat) (x7 : Int32) (gh : Nat → Int32) (H : Heap) (locs : List Loc) (ls : Array Slot), (k9 ≤ 256) → (256 + 1 ≤ k9 + n) → (x7 = nI k9) → (1 ≤ k9) → va_P D vwCl [(h0, .inr (3, [.ref p1, .ref p2, .ref p3, .ref p4, .int pn, .int fx, .int fy])), (p1, .inl (cI, 48, .inl qa)), (p2, .inl (cI, 48, .inl qb)), (p3, .inl (cI, 48, .inl qc)), (p4, .inl (cI, 48, .inl qd)), (rw, .inl (cI, 256, .inl gh))] H → va_D A [(h0, .inr (3, [.ref p1, .ref p2, .ref p3, .ref p4, .int pn, .int fx, .int fy])), (p1, .inl (cI, 48, .inl qa)), (p2, .inl (cI, 48, .inl qb)), (p3, .inl (cI, 48, .inl qc)), (p4, .inl (cI, 48, .inl qd)), (rw, .inl (cI, 256, .inl gh))] → va_S A s.heap H locs → lv_has ls 10 [(7, .int x7), (6, .int 4), (5, .int y_1), (0, .ref h0), (1, .int v), (2, .int 3), (3, .ref rw), (4, .int pl)] → W p l e R s m ([.ref h0, .int v, .int 3, .ref rw, .int pl] : List Value).toArray below meth c H locs 0 0 Q (F0 m 92 ls []) := by
          intro n
          induction n with
          | zero =>
            intro k9 x7 gh H locs ls hi_k9 hm_k9 ex_k9 hk1 hP hD hS hl
            exact absurd (show False by omega) not_false
          | succ n ih_10 =>
            intro k9 x7 gh H locs ls hi_k9 hm_k9 ex_k9 hk1 hP hD hS hl
            have hx_k9 : x7.toInt = (k9 : Int) := by rw [ex_k9]; exact nI_toInt (by omega)
            have hc_k9 : x7.toNatClampNeg = k9 := by rw [ex_k9]; exact nI_clamp (by omega)
            refine lv_iload hx hb dX3_windRow_92 (lv_at hl 0 rfl) ?_
            refine lv_iload hx hb dX3_windRow_94 (lv_at hl 2 rfl) ?_
            refine lv_icmp_ge (tgt := 118) hx hb dX3_windRow_96 (by decide) (fun c_11 => ?_) (fun c_11 => ?_)
            · skip
              have f_12 : y_1.toInt ≤ (k9 : Int) := f_le rfl hx_k9 c_11
              have hP9 := hP.sub (ws' := [(h0, .inr (3, [.ref p1, .ref p2, .ref p3, .ref p4, .int pn, .int fx, .int fy])), (p1, .inl (cI, 48, .inl qa)), (p2, .inl (cI, 48, .inl qb)), (p3, .inl (cI, 48, .inl qc)), (p4, .inl (cI, 48, .inl qd)), (rw, .inl (cI, 256, .inl gh))]) [0, 1, 2, 3, 4, 5] rfl
              have hD9 := hD.sub (ws' := [(h0, .inr (3, [.ref p1, .ref p2, .ref p3, .ref p4, .int pn, .int fx, .int fy])), (p1, .inl (cI, 48, .inl qa)), (p2, .inl (cI, 48, .inl qb)), (p3, .inl (cI, 48, .inl qc)), (p4, .inl (cI, 48, .inl qd)), (rw, .inl (cI, 256, .inl gh))]) [0, 1, 2, 3, 4, 5] (by decide) rfl
              have hK9 := hK.sub (tys' := [(cI, .int)]) [0] rfl
              refine hQ _ _ _ _ _ ?_
              exact W.vret hx hb hr (fun t ht hW => ⟨⟨(), rfl, trivial, ⟨gh, by rw [ht]; exact hP9, va_K.moved hW.alike hK9, hD9⟩⟩, hS.F ht⟩) hS.2.2 dX3_windRow_118
            · skip
              have f_12 : ¬ (y_1.toInt ≤ (k9 : Int)) := fn_le rfl hx_k9 c_11
              refine lv_aload_n hx hb dX3_windRow_99 rfl (lv_at hl 6 rfl) ?_
              refine lv_iload hx hb dX3_windRow_100 (lv_at hl 0 rfl) ?_
              refine lv_dup2_11 hx hb dX3_windRow_102 rfl rfl ?_
              refine va_iald hx hb hK hP 5 0 rfl rfl (vp_in_iff.mpr ⟨by omega, by omega⟩) dX3_windRow_103 ?_
              refine lv_topi (fun y_13 ey_13 => ?_)
              refine lv_aload_n hx hb dX3_windRow_104 rfl (lv_at hl 6 rfl) ?_
              refine lv_iload hx hb dX3_windRow_105 (lv_at hl 0 rfl) ?_
              refine lv_iconst (v := 1) hx hb dX3_windRow_107 (by decide) ?_
              refine lv_isub hx hb dX3_windRow_108 ?_
              refine lv_topi (fun y_14 ey_14 => ?_)
              have hty_14 : y_14.toInt = (k9 : Int) - 1 := by rw [ey_14, ← hx_k9]; exact m1_ti (by omega)
              refine va_iald hx hb hK hP 5 0 rfl rfl (vp_in_iff.mpr ⟨by rw [hty_14]; omega, by rw [hty_14]; omega⟩) dX3_windRow_109 ?_
              refine lv_topi (fun y_15 ey_15 => ?_)
              refine lv_iadd hx hb dX3_windRow_110 ?_
              refine lv_topi (fun y_16 ey_16 => ?_)
              refine va_iast hx hb hK hP hD hS 5 0 rfl rfl (vp_in_iff.mpr ⟨by omega, by omega⟩) dX3_windRow_111 (fun H locs hP hD hS => ?_)
              have hP : va_P D vwCl [(h0, .inr (3, [.ref p1, .ref p2, .ref p3, .ref p4, .int pn, .int fx, .int fy])), (p1, .inl (cI, 48, .inl qa)), (p2, .inl (cI, 48, .inl qb)), (p3, .inl (cI, 48, .inl qc)), (p4, .inl (cI, 48, .inl qd)), (rw, .inl (cI, 256, .inl (upd gh x7.toNatClampNeg y_16)))] H := hP
              have hD : va_D A [(h0, .inr (3, [.ref p1, .ref p2, .ref p3, .ref p4, .int pn, .int fx, .int fy])), (p1, .inl (cI, 48, .inl qa)), (p2, .inl (cI, 48, .inl qb)), (p3, .inl (cI, 48, .inl qc)), (p4, .inl (cI, 48, .inl qd)), (rw, .inl (cI, 256, .inl (upd gh x7.toNatClampNeg y_16)))] := hD
              generalize eg_17 : upd gh x7.toNatClampNeg y_16 = g_17 at hP hD
              have hP : va_P D vwCl [(h0, .inr (3, [.ref p1, .ref p2, .ref p3, .ref p4, .int pn, .int fx, .int fy])), (p1, .inl (cI, 48, .inl qa)), (p2, .inl (cI, 48, .inl qb)), (p3, .inl (cI, 48, .inl qc)), (p4, .inl (cI, 48, .inl qd)), (rw, .inl (cI, 256, .inl g_17))] H := hP
              have hD : va_D A [(h0, .inr (3, [.ref p1, .ref p2, .ref p3, .ref p4, .int pn, .int fx, .int fy])), (p1, .inl (cI, 48, .inl qa)), (p2, .inl (cI, 48, .inl qb)), (p3, .inl (cI, 48, .inl qc)), (p4, .inl (cI, 48, .inl qd)), (rw, .inl (cI, 256, .inl g_17))] := hD
              obtain ⟨y_18, ey_18⟩ : ∃ y : Int32, y = x7 + 1 := ⟨_, rfl⟩
              refine lv_iinc (v := y_18) (lv' := [(7, .int y_18), (6, .int 4), (5, .int y_1), (0, .ref h0), (1, .int v), (2, .int 3), (3, .ref rw), (4, .int pl)]) hx hb dX3_windRow_112 hl (k := 0) rfl (by rw [ey_18]; rfl) (by decide) rfl (fun ls hl => ?_)
              refine lv_goto (tgt := 92) hx hb dX3_windRow_115 (by decide) ?_
              exact ih_10 (k9 + 1) y_18 g_17 _ _ _ (by omega) (by omega) (by rw [ey_18, ex_k9]; exact nI_1 k9) (by omega) (hP.sub (ws' := [(h0, .inr (3, [.ref p1, .ref p2, .ref p3, .ref p4, .int pn, .int fx, .int fy])), (p1, .inl (cI, 48, .inl qa)), (p2, .inl (cI, 48, .inl qb)), (p3, .inl (cI, 48, .inl qc)), (p4, .inl (cI, 48, .inl qd)), (rw, .inl (cI, 256, .inl g_17))]) [0, 1, 2, 3, 4, 5] rfl) (hD.sub (ws' := [(h0, .inr (3, [.ref p1, .ref p2, .ref p3, .ref p4, .int pn, .int fx, .int fy])), (p1, .inl (cI, 48, .inl qa)), (p2, .inl (cI, 48, .inl qb)), (p3, .inl (cI, 48, .inl qc)), (p4, .inl (cI, 48, .inl qd)), (rw, .inl (cI, 256, .inl g_17))]) [0, 1, 2, 3, 4, 5] (by decide) rfl) hS (lv_sub hl [0, 1, 2, 3, 4, 5, 6, 7] rfl)
        exact loop_9 (256 + 1) 1 1 gg _ _ _ (by omega) (by omega) rfl (by omega) hP hD hS (lv_sub hl [0, 1, 2, 3, 4, 5, 6, 7] rfl)
      · skip
        have f_8 : ¬ (pn.toInt ≤ (i : Int)) := fn_le rfl hx_i c_7
        refine lv_aload_n hx hb dX3_windRow_33 rfl (lv_at hl 3 rfl) ?_
        refine lv_iload hx hb dX3_windRow_34 (lv_at hl 0 rfl) ?_
        refine lv_iload_n hx hb dX3_windRow_36 rfl (lv_at hl 4 rfl) ?_
        have hPc := hP.sub (ws' := [(h0, .inr (3, [.ref p1, .ref p2, .ref p3, .ref p4, .int pn, .int fx, .int fy])), (p2, .inl (cI, 48, .inl qb)), (p4, .inl (cI, 48, .inl qd))]) [0, 2, 4] rfl
        have hDc := hD.sub (ws' := [(h0, .inr (3, [.ref p1, .ref p2, .ref p3, .ref p4, .int pn, .int fx, .int fy])), (p2, .inl (cI, 48, .inl qb)), (p4, .inl (cI, 48, .inl qd))]) [0, 2, 4] (by decide) rfl
        have hKc := hK.sub (tys' := [(cI, .int)]) [0] rfl
        have hFc := va_free (wc := [(h0, .inr (3, [.ref p1, .ref p2, .ref p3, .ref p4, .int pn, .int fx, .int fy])), (p2, .inl (cI, 48, .inl qb)), (p4, .inl (cI, 48, .inl qd))]) hD hS hA [0, 2, 4] rfl
        refine va_calli (va_runV (As := [.int x7, .int v]) (rest := []) ⟨hx, hb, hml, hown, hts⟩ (k_X3_turnOf l D H.size h0 p1 p2 p3 p4 pn fx fy qb qd x7 v cI (by first | assumption | omega | decide)) (cwV 2 hts (gV bw_88 bw_102 bw_103 bw_67 bw_101) rfl rfl rfl (by decide +kernel) ⟨(by rw [hR]; exact Nat.le_of_ble_eq_true rfl), (by rw [hR]; exact Nat.le_of_ble_eq_true rfl)⟩) ⟨cP_blind, va_recv hKc hPc (ci := 3) (q0 := 0) rfl rfl, cP_at hPc hKc hDc hN⟩ rfl rfl hl.1 rfl (lv_room (Nat.le_of_ble_eq_true rfl)) dX3_windRow_37 ⟨(by rw [hR]; exact Nat.le_of_ble_eq_true rfl), (by rw [hR]; exact Nat.le_of_ble_eq_true rfl)⟩) hS (fun q _ h => hFc q h) hFc (fun r_19 u9 t9 H1 locs ht hvm hr_19 hB hz1 hk1 hS => ?_)
        try dsimp only at hr_19
        obtain ⟨hP1, hK1, hD1⟩ := hB
        rw [ht] at hP1
        obtain ⟨hP, hD⟩ := va_join (wr := [(p1, .inl (cI, 48, .inl qa)), (p3, .inl (cI, 48, .inl qc)), (rw, .inl (cI, 256, .inl gg))]) (w1 := [(h0, .inr (3, [.ref p1, .ref p2, .ref p3, .ref p4, .int pn, .int fx, .int fy])), (p2, .inl (cI, 48, .inl qb)), (p4, .inl (cI, 48, .inl qd))]) hP hD [0, 2, 4] [1, 3, 5] rfl rfl (by decide) (by decide) hk1 hFc hP1 hD1
        clear hz1 hk1 hFc hKc hDc hPc
        generalize H1 = H at hP hS ⊢
        have hP : va_P D vwCl [(p1, .inl (cI, 48, .inl qa)), (p3, .inl (cI, 48, .inl qc)), (rw, .inl (cI, 256, .inl gg)), (h0, .inr (3, [.ref p1, .ref p2, .ref p3, .ref p4, .int pn, .int fx, .int fy])), (p2, .inl (cI, 48, .inl qb)), (p4, .inl (cI, 48, .inl qd))] H := hP
        have hD : va_D A [(p1, .inl (cI, 48, .inl qa)), (p3, .inl (cI, 48, .inl qc)), (rw, .inl (cI, 256, .inl gg)), (h0, .inr (3, [.ref p1, .ref p2, .ref p3, .ref p4, .int pn, .int fx, .int fy])), (p2, .inl (cI, 48, .inl qb)), (p4, .inl (cI, 48, .inl qd))] := hD
        refine lv_istore (lv' := [(8, .int r_19), (7, .int x7), (6, .int 4), (5, .int y_1), (0, .ref h0), (1, .int v), (2, .int 3), (3, .ref rw), (4, .int pl)]) hx hb dX3_windRow_40 hl (by decide) rfl (fun ls hl => ?_)
        refine lv_iload hx hb dX3_windRow_42 (lv_at hl 0 rfl) ?_
        refine lv_if_eq (tgt := 83) hx hb dX3_windRow_44 (by decide) (fun c_20 => ?_) (fun c_20 => ?_)
        · skip
          have f_21 : r_19.toInt = 0 := f_eq rfl (by decide) c_20
          obtain ⟨y_22, ey_22⟩ : ∃ y : Int32, y = x7 + 1 := ⟨_, rfl⟩
          refine lv_iinc (v := y_22) (lv' := [(7, .int y_22), (8, .int r_19), (6, .int 4), (5, .int y_1), (0, .ref h0), (1, .int v), (2, .int 3), (3, .ref rw), (4, .int pl)]) hx hb dX3_windRow_83 hl (k := 1) rfl (by rw [ey_22]; rfl) (by decide) rfl (fun ls hl => ?_)
          refine lv_goto (tgt := 24) hx hb dX3_windRow_86 (by decide) ?_
          exact ih_6 (i + 1) y_22 gg _ _ _ (by omega) (by omega) (by rw [ey_22, ex_i]; exact nI_1 i) (hP.sub (ws' := [(h0, .inr (3, [.ref p1, .ref p2, .ref p3, .ref p4, .int pn, .int fx, .int fy])), (p1, .inl (cI, 48, .inl qa)), (p2, .inl (cI, 48, .inl qb)), (p3, .inl (cI, 48, .inl qc)), (p4, .inl (cI, 48, .inl qd)), (rw, .inl (cI, 256, .inl gg))]) [3, 0, 4, 1, 5, 2] rfl) (hD.sub (ws' := [(h0, .inr (3, [.ref p1, .ref p2, .ref p3, .ref p4, .int pn, .int fx, .int fy])), (p1, .inl (cI, 48, .inl qa)), (p2, .inl (cI, 48, .inl qb)), (p3, .inl (cI, 48, .inl qc)), (p4, .inl (cI, 48, .inl qd)), (rw, .inl (cI, 256, .inl gg))]) [3, 0, 4, 1, 5, 2] (by decide) rfl) hS (lv_sub hl [0, 2, 3, 4, 5, 6, 7, 8] rfl)
        · skip
          have f_21 : ¬ (r_19.toInt = 0) := fn_eq rfl (by decide) c_20
          refine lv_iconst (v := 0) hx hb dX3_windRow_47 (by decide) ?_
          refine lv_aload_n hx hb dX3_windRow_48 rfl (lv_at hl 4 rfl) ?_
          refine lv_iload hx hb dX3_windRow_49 (lv_at hl 1 rfl) ?_
          refine lv_iload_n hx hb dX3_windRow_51 rfl (lv_at hl 5 rfl) ?_
          have hPc := hP.sub (ws' := [(h0, .inr (3, [.ref p1, .ref p2, .ref p3, .ref p4, .int pn, .int fx, .int fy])), (p1, .inl (cI, 48, .inl qa)), (p2, .inl (cI, 48, .inl qb)), (p3, .inl (cI, 48, .inl qc)), (p4, .inl (cI, 48, .inl qd))]) [3, 0, 4, 1, 5] rfl
          have hDc := hD.sub (ws' := [(h0, .inr (3, [.ref p1, .ref p2, .ref p3, .ref p4, .int pn, .int fx, .int fy])), (p1, .inl (cI, 48, .inl qa)), (p2, .inl (cI, 48, .inl qb)), (p3, .inl (cI, 48, .inl qc)), (p4, .inl (cI, 48, .inl qd))]) [3, 0, 4, 1, 5] (by decide) rfl
          have hKc := hK.sub (tys' := [(cI, .int)]) [0] rfl
          have hFc := va_free (wc := [(h0, .inr (3, [.ref p1, .ref p2, .ref p3, .ref p4, .int pn, .int fx, .int fy])), (p1, .inl (cI, 48, .inl qa)), (p2, .inl (cI, 48, .inl qb)), (p3, .inl (cI, 48, .inl qc)), (p4, .inl (cI, 48, .inl qd))]) hD hS hA [3, 0, 4, 1, 5] rfl
          refine va_calli (va_runV (As := [.int x7, .int v]) (rest := [.int 0]) ⟨hx, hb, hml, hown, hts⟩ (k_X3_firstRightOf l D H.size h0 p1 p2 p3 p4 pn fx fy qa qb qc qd x7 v cI (by first | assumption | omega | decide)) (cwV 2 hts (gV bw_89 bw_105 bw_106 bw_67 bw_104) rfl rfl rfl (by decide +kernel) ⟨(by rw [hR]; exact Nat.le_of_ble_eq_true rfl), (by rw [hR]; exact Nat.le_of_ble_eq_true rfl)⟩) ⟨cP_blind, va_recv hKc hPc (ci := 3) (q0 := 0) rfl rfl, cP_at hPc hKc hDc hN⟩ rfl rfl hl.1 rfl (lv_room (Nat.le_of_ble_eq_true rfl)) dX3_windRow_52 ⟨(by rw [hR]; exact Nat.le_of_ble_eq_true rfl), (by rw [hR]; exact Nat.le_of_ble_eq_true rfl)⟩) hS (fun q _ h => hFc q h) hFc (fun r_23 u9 t9 H1 locs ht hvm hr_23 hB hz1 hk1 hS => ?_)
          try dsimp only at hr_23
          obtain ⟨hP1, hK1, hD1⟩ := hB
          rw [ht] at hP1
          obtain ⟨hP, hD⟩ := va_join (wr := [(rw, .inl (cI, 256, .inl gg))]) (w1 := [(h0, .inr (3, [.ref p1, .ref p2, .ref p3, .ref p4, .int pn, .int fx, .int fy])), (p1, .inl (cI, 48, .inl qa)), (p2, .inl (cI, 48, .inl qb)), (p3, .inl (cI, 48, .inl qc)), (p4, .inl (cI, 48, .inl qd))]) hP hD [3, 0, 4, 1, 5] [2] rfl rfl (by decide) (by decide) hk1 hFc hP1 hD1
          clear hz1 hk1 hFc hKc hDc hPc
          generalize H1 = H at hP hS ⊢
          have hP : va_P D vwCl [(rw, .inl (cI, 256, .inl gg)), (h0, .inr (3, [.ref p1, .ref p2, .ref p3, .ref p4, .int pn, .int fx, .int fy])), (p1, .inl (cI, 48, .inl qa)), (p2, .inl (cI, 48, .inl qb)), (p3, .inl (cI, 48, .inl qc)), (p4, .inl (cI, 48, .inl qd))] H := hP
          have hD : va_D A [(rw, .inl (cI, 256, .inl gg)), (h0, .inr (3, [.ref p1, .ref p2, .ref p3, .ref p4, .int pn, .int fx, .int fy])), (p1, .inl (cI, 48, .inl qa)), (p2, .inl (cI, 48, .inl qb)), (p3, .inl (cI, 48, .inl qc)), (p4, .inl (cI, 48, .inl qd))] := hD
          refine lv_iload hx hb dX3_windRow_55 (lv_at hl 2 rfl) ?_
          refine lv_iadd hx hb dX3_windRow_57 ?_
          refine lv_topi (fun y_24 ey_24 => ?_)
          refine lv_iconst (v := 1) hx hb dX3_windRow_58 (by decide) ?_
          refine lv_isub hx hb dX3_windRow_59 ?_
          refine lv_topi (fun y_25 ey_25 => ?_)
          refine lv_iload_n hx hb dX3_windRow_60 rfl (lv_at hl 6 rfl) ?_
          refine lv_ishr hx hb dX3_windRow_61 ?_
          refine lv_topi (fun y_26 ey_26 => ?_)
          refine va_mmax hx hb (by rw [hml]; exact hl.1.symm) hown (hts _ bw_98) (hts _ bw_99) (hts _ bw_47) (hts _ bw_100) (by rw [hR]; exact Nat.le_of_ble_eq_true rfl) (by rw [hR]; exact Nat.le_of_ble_eq_true rfl) (by rw [hR]; exact Nat.le_of_ble_eq_true rfl) (by rw [hR]; exact Nat.le_of_ble_eq_true rfl) dX3_windRow_62 ?_
          refine lv_topi (fun y_27 ey_27 => ?_)
          have hmy_27 : 0 ≤ y_27.toInt := by rw [ey_27]; exact mx_ge (by decide)
          refine lv_istore (lv' := [(9, .int y_27), (8, .int r_19), (7, .int x7), (6, .int 4), (5, .int y_1), (0, .ref h0), (1, .int v), (2, .int 3), (3, .ref rw), (4, .int pl)]) hx hb dX3_windRow_65 hl (by decide) rfl (fun ls hl => ?_)
          refine lv_iload hx hb dX3_windRow_67 (lv_at hl 0 rfl) ?_
          refine lv_iload hx hb dX3_windRow_69 (lv_at hl 4 rfl) ?_
          refine lv_icmp_ge (tgt := 83) hx hb dX3_windRow_71 (by decide) (fun c_28 => ?_) (fun c_28 => ?_)
          · skip
            have f_29 : y_1.toInt ≤ y_27.toInt := f_le rfl rfl c_28
            obtain ⟨y_30, ey_30⟩ : ∃ y : Int32, y = x7 + 1 := ⟨_, rfl⟩
            refine lv_iinc (v := y_30) (lv' := [(7, .int y_30), (9, .int y_27), (8, .int r_19), (6, .int 4), (5, .int y_1), (0, .ref h0), (1, .int v), (2, .int 3), (3, .ref rw), (4, .int pl)]) hx hb dX3_windRow_83 hl (k := 2) rfl (by rw [ey_30]; rfl) (by decide) rfl (fun ls hl => ?_)
            refine lv_goto (tgt := 24) hx hb dX3_windRow_86 (by decide) ?_
            exact ih_6 (i + 1) y_30 gg _ _ _ (by omega) (by omega) (by rw [ey_30, ex_i]; exact nI_1 i) (hP.sub (ws' := [(h0, .inr (3, [.ref p1, .ref p2, .ref p3, .ref p4, .int pn, .int fx, .int fy])), (p1, .inl (cI, 48, .inl qa)), (p2, .inl (cI, 48, .inl qb)), (p3, .inl (cI, 48, .inl qc)), (p4, .inl (cI, 48, .inl qd)), (rw, .inl (cI, 256, .inl gg))]) [1, 2, 3, 4, 5, 0] rfl) (hD.sub (ws' := [(h0, .inr (3, [.ref p1, .ref p2, .ref p3, .ref p4, .int pn, .int fx, .int fy])), (p1, .inl (cI, 48, .inl qa)), (p2, .inl (cI, 48, .inl qb)), (p3, .inl (cI, 48, .inl qc)), (p4, .inl (cI, 48, .inl qd)), (rw, .inl (cI, 256, .inl gg))]) [1, 2, 3, 4, 5, 0] (by decide) rfl) hS (lv_sub hl [0, 3, 4, 5, 6, 7, 8, 9] rfl)
          · skip
            have f_29 : ¬ (y_1.toInt ≤ y_27.toInt) := fn_le rfl rfl c_28
            refine lv_aload_n hx hb dX3_windRow_74 rfl (lv_at hl 8 rfl) ?_
            refine lv_iload hx hb dX3_windRow_75 (lv_at hl 0 rfl) ?_
            refine lv_dup2_11 hx hb dX3_windRow_77 rfl rfl ?_
            refine va_iald hx hb hK hP 0 0 rfl rfl (vp_in_iff.mpr ⟨by omega, by omega⟩) dX3_windRow_78 ?_
            refine lv_topi (fun y_31 ey_31 => ?_)
            refine lv_iload hx hb dX3_windRow_79 (lv_at hl 1 rfl) ?_
            refine lv_iadd hx hb dX3_windRow_81 ?_
            refine lv_topi (fun y_32 ey_32 => ?_)
            refine va_iast hx hb hK hP hD hS 0 0 rfl rfl (vp_in_iff.mpr ⟨by omega, by omega⟩) dX3_windRow_82 (fun H locs hP hD hS => ?_)
            have hP : va_P D vwCl [(rw, .inl (cI, 256, .inl (upd gg y_27.toNatClampNeg y_32))), (h0, .inr (3, [.ref p1, .ref p2, .ref p3, .ref p4, .int pn, .int fx, .int fy])), (p1, .inl (cI, 48, .inl qa)), (p2, .inl (cI, 48, .inl qb)), (p3, .inl (cI, 48, .inl qc)), (p4, .inl (cI, 48, .inl qd))] H := hP
            have hD : va_D A [(rw, .inl (cI, 256, .inl (upd gg y_27.toNatClampNeg y_32))), (h0, .inr (3, [.ref p1, .ref p2, .ref p3, .ref p4, .int pn, .int fx, .int fy])), (p1, .inl (cI, 48, .inl qa)), (p2, .inl (cI, 48, .inl qb)), (p3, .inl (cI, 48, .inl qc)), (p4, .inl (cI, 48, .inl qd))] := hD
            generalize eg_33 : upd gg y_27.toNatClampNeg y_32 = g_33 at hP hD
            have hP : va_P D vwCl [(rw, .inl (cI, 256, .inl g_33)), (h0, .inr (3, [.ref p1, .ref p2, .ref p3, .ref p4, .int pn, .int fx, .int fy])), (p1, .inl (cI, 48, .inl qa)), (p2, .inl (cI, 48, .inl qb)), (p3, .inl (cI, 48, .inl qc)), (p4, .inl (cI, 48, .inl qd))] H := hP
            have hD : va_D A [(rw, .inl (cI, 256, .inl g_33)), (h0, .inr (3, [.ref p1, .ref p2, .ref p3, .ref p4, .int pn, .int fx, .int fy])), (p1, .inl (cI, 48, .inl qa)), (p2, .inl (cI, 48, .inl qb)), (p3, .inl (cI, 48, .inl qc)), (p4, .inl (cI, 48, .inl qd))] := hD
            obtain ⟨y_34, ey_34⟩ : ∃ y : Int32, y = x7 + 1 := ⟨_, rfl⟩
            refine lv_iinc (v := y_34) (lv' := [(7, .int y_34), (9, .int y_27), (8, .int r_19), (6, .int 4), (5, .int y_1), (0, .ref h0), (1, .int v), (2, .int 3), (3, .ref rw), (4, .int pl)]) hx hb dX3_windRow_83 hl (k := 2) rfl (by rw [ey_34]; rfl) (by decide) rfl (fun ls hl => ?_)
            refine lv_goto (tgt := 24) hx hb dX3_windRow_86 (by decide) ?_
            exact ih_6 (i + 1) y_34 g_33 _ _ _ (by omega) (by omega) (by rw [ey_34, ex_i]; exact nI_1 i) (hP.sub (ws' := [(h0, .inr (3, [.ref p1, .ref p2, .ref p3, .ref p4, .int pn, .int fx, .int fy])), (p1, .inl (cI, 48, .inl qa)), (p2, .inl (cI, 48, .inl qb)), (p3, .inl (cI, 48, .inl qc)), (p4, .inl (cI, 48, .inl qd)), (rw, .inl (cI, 256, .inl g_33))]) [1, 2, 3, 4, 5, 0] rfl) (hD.sub (ws' := [(h0, .inr (3, [.ref p1, .ref p2, .ref p3, .ref p4, .int pn, .int fx, .int fy])), (p1, .inl (cI, 48, .inl qa)), (p2, .inl (cI, 48, .inl qb)), (p3, .inl (cI, 48, .inl qc)), (p4, .inl (cI, 48, .inl qd)), (rw, .inl (cI, 256, .inl g_33))]) [1, 2, 3, 4, 5, 0] (by decide) rfl) hS (lv_sub hl [0, 3, 4, 5, 6, 7, 8, 9] rfl)
  exact loop_5 (48 + 1) 0 0 g_3 _ _ _ (by omega) (by omega) nI_0.symm hP hD hS (lv_sub hl [0, 1, 2, 3, 4, 5, 6, 7] rfl)

set_option maxHeartbeats 4000000 in
set_option maxRecDepth 100000 in
theorem k_X3_windRow_5 (l : Launch) (D : va_G) (sz : Nat) (h0 rw : Nat) (p1 p2 p3 p4 : Nat) (pn fx fy : Int32) (qa : Nat → Int32) (qb : Nat → Int32) (qc : Nat → Int32) (qd : Nat → Int32) (gr : Nat → Int32) (v pl : Int32) (cI : ClassId) (hpn : 0 ≤ pn.toInt ∧ pn.toInt ≤ 48) : Met l yX3_windRow (wB yX3_windRow cX3_windRow 10 none) ({ frames := 2, cells := 0, slots := 0, locals := 45 }) (cP D [(h0, .inr (3, [.ref p1, .ref p2, .ref p3, .ref p4, .int pn, .int fx, .int fy])), (p1, .inl (cI, 48, .inl qa)), (p2, .inl (cI, 48, .inl qb)), (p3, .inl (cI, 48, .inl qc)), (p4, .inl (cI, 48, .inl qd)), (rw, .inl (cI, 256, .inl gr))] [(cI, .int)] sz [.ref h0, .int v, .int 5, .ref rw, .int pl]) (va_Qv (fun (_ : Unit) => True) (fun (_ : Unit) (t : State) => ∃ (g2 : Nat → Int32), cB D (va_A [(h0, .inr (3, [.ref p1, .ref p2, .ref p3, .ref p4, .int pn, .int fx, .int fy])), (p1, .inl (cI, 48, .inl qa)), (p2, .inl (cI, 48, .inl qb)), (p3, .inl (cI, 48, .inl qc)), (p4, .inl (cI, 48, .inl qd)), (rw, .inl (cI, 256, .inl gr))] sz) [(h0, .inr (3, [.ref p1, .ref p2, .ref p3, .ref p4, .int pn, .int fx, .int fy])), (p1, .inl (cI, 48, .inl qa)), (p2, .inl (cI, 48, .inl qb)), (p3, .inl (cI, 48, .inl qc)), (p4, .inl (cI, 48, .inl qd)), (rw, .inl (cI, 256, .inl g2))] [(cI, .int)] t) (va_A [(h0, .inr (3, [.ref p1, .ref p2, .ref p3, .ref p4, .int pn, .int fx, .int fy])), (p1, .inl (cI, 48, .inl qa)), (p2, .inl (cI, 48, .inl qb)), (p3, .inl (cI, 48, .inl qc)), (p4, .inl (cI, 48, .inl qd)), (rw, .inl (cI, 256, .inl gr))] sz)) 0 0 (va_A [(h0, .inr (3, [.ref p1, .ref p2, .ref p3, .ref p4, .int pn, .int fx, .int fy])), (p1, .inl (cI, 48, .inl qa)), (p2, .inl (cI, 48, .inl qb)), (p3, .inl (cI, 48, .inl qc)), (p4, .inl (cI, 48, .inl qd)), (rw, .inl (cI, 256, .inl gr))] sz) := by
  refine Met.ofW (cc := cX3_windRow) (maxL := 10) (ret := none) (by decide) rfl ?_
  intro p e s m args below meth c s₁ B hml hv
  obtain ⟨rfl, hsz, hP, hK, hD0, hN⟩ := hv
  have hx := B.exec
  have hb := B.bytes
  have hr := B.returns
  have hts0 := atoms_spec (ws := (wB yX3_windRow cX3_windRow 10 none)) B.pre
  have hts : ∀ w ∈ bigW, w.before _ s = true := fun w h => hts0 w (List.mem_cons_of_mem _ h)
  have hown : s.vm.findClass RX3 = some m.cls := findClass_of_methodNamed B.named
  have hlocks := B.notSynchronized
  subst hsz
  have hD := hD0.self (sz := s.heap.size)
  generalize hAe : va_A [(h0, .inr (3, [.ref p1, .ref p2, .ref p3, .ref p4, .int pn, .int fx, .int fy])), (p1, .inl (cI, 48, .inl qa)), (p2, .inl (cI, 48, .inl qb)), (p3, .inl (cI, 48, .inl qc)), (p4, .inl (cI, 48, .inl qd)), (rw, .inl (cI, 256, .inl gr))] s.heap.size = A at hD ⊢
  have hA : ∀ q : Nat, s.heap.size ≤ q → A q := fun q h => by rw [← hAe]; exact Or.inr h
  have hS : va_S A s.heap s.heap [] := va_S.rf
  have hP : va_P D vwCl [(h0, .inr (3, [.ref p1, .ref p2, .ref p3, .ref p4, .int pn, .int fx, .int fy])), (p1, .inl (cI, 48, .inl qa)), (p2, .inl (cI, 48, .inl qb)), (p3, .inl (cI, 48, .inl qc)), (p4, .inl (cI, 48, .inl qd)), (rw, .inl (cI, 256, .inl gr))] s.heap := hP
  have hl := lv_entry ([.ref h0, .int v, .int 5, .ref rw, .int pl]) (n := 10) (Nat.le_of_ble_eq_true rfl)
  rw [lg_entry_eq]
  generalize (lg_sl ([.ref h0, .int v, .int 5, .ref rw, .int pl]) ++ List.replicate (10 - (lg_sl ([.ref h0, .int v, .int 5, .ref rw, .int pl])).length) Slot.unset).toArray = ls at hl ⊢
  have hl : lv_has ls 10 [(0, .ref h0), (1, .int v), (2, .int 5), (3, .ref rw), (4, .int pl)] := hl
  clear hts0 hD0 hAe
  refine my_abs (fun R Q hR hQ => ?_)
  refine lv_iload hx hb dX3_windRow_0 (lv_at hl 4 rfl) ?_
  refine lv_aload_n hx hb dX3_windRow_2 rfl (lv_at hl 3 rfl) ?_
  refine va_alen (v := 256) hx hb hK hP 5 0 rfl rfl rfl dX3_windRow_3 ?_
  refine va_mmin hx hb (by rw [hml]; exact hl.1.symm) hown (hts _ bw_93) (hts _ bw_46) (hts _ bw_47) (hts _ bw_48) (by rw [hR]; exact Nat.le_of_ble_eq_true rfl) (by rw [hR]; exact Nat.le_of_ble_eq_true rfl) (by rw [hR]; exact Nat.le_of_ble_eq_true rfl) (by rw [hR]; exact Nat.le_of_ble_eq_true rfl) dX3_windRow_4 ?_
  refine lv_topi (fun y_1 ey_1 => ?_)
  have hmy_1 : y_1.toInt ≤ 256 := by rw [ey_1]; exact mn_le (by decide)
  refine lv_istore (lv' := [(5, .int y_1), (0, .ref h0), (1, .int v), (2, .int 5), (3, .ref rw), (4, .int pl)]) hx hb dX3_windRow_7 hl (by decide) rfl (fun ls hl => ?_)
  refine lv_aload_n hx hb dX3_windRow_9 rfl (lv_at hl 4 rfl) ?_
  refine lv_iconst (v := 0) hx hb dX3_windRow_10 (by decide) ?_
  have hPc := hP.sub (ws' := [(rw, .inl (cI, 256, .inl gr))]) [5] rfl
  have hDc := hD.sub (ws' := [(rw, .inl (cI, 256, .inl gr))]) [5] (by decide) rfl
  have hKc := hK.sub (tys' := [(cI, .int)]) [0] rfl
  have hFc := va_free (wc := [(rw, .inl (cI, 256, .inl gr))]) hD hS hA [5] rfl
  refine va_callv (va_runS (As := [.ref rw, .int 0]) (rest := []) ⟨hx, hb, hml, hown, hts⟩ (k_J7_fill_53178_256 l D s.heap.size rw gr 0 cI) (va_cwS 2 hts (gS bw_94 bw_95 bw_96 bw_97) rfl rfl rfl (by decide +kernel) ⟨(by rw [hR]; exact Nat.le_of_ble_eq_true rfl), (by rw [hR]; exact Nat.le_of_ble_eq_true rfl)⟩) ⟨cP_blind, cP_at hPc hKc hDc hN⟩ rfl rfl hl.1 rfl (lv_room (Nat.le_of_ble_eq_true rfl)) dX3_windRow_11 ⟨(by rw [hR]; exact Nat.le_of_ble_eq_true rfl), (by rw [hR]; exact Nat.le_of_ble_eq_true rfl)⟩) hS (fun q _ h => hFc q h) hFc (fun u9 t9 H1 locs ht hvm hr_2 hB hz1 hk1 hS => ?_)
  try dsimp only at hr_2
  obtain ⟨g_3, b_4, hP1, hK1, hD1⟩ := hB
  rw [ht] at hP1
  obtain ⟨hP, hD⟩ := va_join (wr := [(h0, .inr (3, [.ref p1, .ref p2, .ref p3, .ref p4, .int pn, .int fx, .int fy])), (p1, .inl (cI, 48, .inl qa)), (p2, .inl (cI, 48, .inl qb)), (p3, .inl (cI, 48, .inl qc)), (p4, .inl (cI, 48, .inl qd))]) (w1 := [(rw, .inl (cI, 256, .inl g_3))]) hP hD [5] [0, 1, 2, 3, 4] rfl rfl (by decide) (by decide) hk1 hFc hP1 hD1
  clear hz1 hk1 hFc hKc hDc hPc
  generalize H1 = H at hP hS ⊢
  have hP : va_P D vwCl [(h0, .inr (3, [.ref p1, .ref p2, .ref p3, .ref p4, .int pn, .int fx, .int fy])), (p1, .inl (cI, 48, .inl qa)), (p2, .inl (cI, 48, .inl qb)), (p3, .inl (cI, 48, .inl qc)), (p4, .inl (cI, 48, .inl qd)), (rw, .inl (cI, 256, .inl g_3))] H := hP
  have hD : va_D A [(h0, .inr (3, [.ref p1, .ref p2, .ref p3, .ref p4, .int pn, .int fx, .int fy])), (p1, .inl (cI, 48, .inl qa)), (p2, .inl (cI, 48, .inl qb)), (p3, .inl (cI, 48, .inl qc)), (p4, .inl (cI, 48, .inl qd)), (rw, .inl (cI, 256, .inl g_3))] := hD
  refine lv_iconst (v := 1) hx hb dX3_windRow_14 (by decide) ?_
  refine lv_iload_n hx hb dX3_windRow_15 rfl (lv_at hl 3 rfl) ?_
  refine lv_ishl hx hb dX3_windRow_16 ?_
  refine my_fold (v := 32) (by decide) ?_
  refine lv_iconst (v := 2) hx hb dX3_windRow_17 (by decide) ?_
  refine lv_idiv hx hb dX3_windRow_18 (by decide) ?_
  refine my_fold (v := 16) (by decide) ?_
  refine lv_istore (lv' := [(6, .int 16), (5, .int y_1), (0, .ref h0), (1, .int v), (2, .int 5), (3, .ref rw), (4, .int pl)]) hx hb dX3_windRow_19 hl (by decide) rfl (fun ls hl => ?_)
  refine lv_iconst (v := 0) hx hb dX3_windRow_21 (by decide) ?_
  refine lv_istore (lv' := [(7, .int 0), (6, .int 16), (5, .int y_1), (0, .ref h0), (1, .int v), (2, .int 5), (3, .ref rw), (4, .int pl)]) hx hb dX3_windRow_22 hl (by decide) rfl (fun ls hl => ?_)
  have loop_5 : ∀ (n : Nat) (i : Nat) (x7 : Int32) (gg : Nat → Int32) (H : Heap) (locs : List Loc) (ls : Array Slot), (i ≤ 48) → (48 + 1 ≤ i + n) → (x7 = nI i) → va_P D vwCl [(h0, .inr (3, [.ref p1, .ref p2, .ref p3, .ref p4, .int pn, .int fx, .int fy])), (p1, .inl (cI, 48, .inl qa)), (p2, .inl (cI, 48, .inl qb)), (p3, .inl (cI, 48, .inl qc)), (p4, .inl (cI, 48, .inl qd)), (rw, .inl (cI, 256, .inl gg))] H → va_D A [(h0, .inr (3, [.ref p1, .ref p2, .ref p3, .ref p4, .int pn, .int fx, .int fy])), (p1, .inl (cI, 48, .inl qa)), (p2, .inl (cI, 48, .inl qb)), (p3, .inl (cI, 48, .inl qc)), (p4, .inl (cI, 48, .inl qd)), (rw, .inl (cI, 256, .inl gg))] → va_S A s.heap H locs → lv_has ls 10 [(7, .int x7), (6, .int 16), (5, .int y_1), (0, .ref h0), (1, .int v), (2, .int 5), (3, .ref rw), (4, .int pl)] → W p l e R s m ([.ref h0, .int v, .int 5, .ref rw, .int pl] : List Value).toArray below meth c H locs 0 0 Q (F0 m 24 ls []) := by
    intro n
    induction n with
    | zero =>
      intro i x7 gg H locs ls hi_i hm_i ex_i hP hD hS hl
      exact absurd (show False by omega) not_false
    | succ n ih_6 =>
      intro i x7 gg H locs ls hi_i hm_i ex_i hP hD hS hl
      have hx_i : x7.toInt = (i : Int) := by rw [ex_i]; exact nI_toInt (by omega)
      have hc_i : x7.toNatClampNeg = i := by rw [ex_i]; exact nI_clamp (by omega)
      refine lv_iload hx hb dX3_windRow_24 (lv_at hl 0 rfl) ?_
      refine lv_aload_n hx hb dX3_windRow_26 rfl (lv_at hl 3 rfl) ?_
      refine va_get (D := D) (ci := 3) (v := .int pn) (C := RX3) (T := TX3) (N := 7) hx hb hts hi_X3 hown hK hP 0 rfl rfl 4 (by decide) (hts _ bw_76) (fun _ h9 => h9) rfl dX3_windRow_27 ?_
      refine lv_icmp_ge (tgt := 89) hx hb dX3_windRow_30 (by decide) (fun c_7 => ?_) (fun c_7 => ?_)
      · skip
        have f_8 : pn.toInt ≤ (i : Int) := f_le rfl hx_i c_7
        refine lv_iconst (v := 1) hx hb dX3_windRow_89 (by decide) ?_
        refine lv_istore (lv' := [(7, .int 1), (6, .int 16), (5, .int y_1), (0, .ref h0), (1, .int v), (2, .int 5), (3, .ref rw), (4, .int pl)]) hx hb dX3_windRow_90 hl (by decide) rfl (fun ls hl => ?_)
        have loop_9 : ∀ (n : Nat) (k9 : Nat) (x7 : Int32) (gh : Nat → Int32) (H : Heap) (locs : List Loc) (ls : Array Slot), (k9 ≤ 256) → (256 + 1 ≤ k9 + n) → (x7 = nI k9) → (1 ≤ k9) → va_P D vwCl [(h0, .inr (3, [.ref p1, .ref p2, .ref p3, .ref p4, .int pn, .int fx, .int fy])), (p1, .inl (cI, 48, .inl qa)), (p2, .inl (cI, 48, .inl qb)), (p3, .inl (cI, 48, .inl qc)), (p4, .inl (cI, 48, .inl qd)), (rw, .inl (cI, 256, .inl gh))] H → va_D A [(h0, .inr (3, [.ref p1, .ref p2, .ref p3, .ref p4, .int pn, .int fx, .int fy])), (p1, .inl (cI, 48, .inl qa)), (p2, .inl (cI, 48, .inl qb)), (p3, .inl (cI, 48, .inl qc)), (p4, .inl (cI, 48, .inl qd)), (rw, .inl (cI, 256, .inl gh))] → va_S A s.heap H locs → lv_has ls 10 [(7, .int x7), (6, .int 16), (5, .int y_1), (0, .ref h0), (1, .int v), (2, .int 5), (3, .ref rw), (4, .int pl)] → W p l e R s m ([.ref h0, .int v, .int 5, .ref rw, .int pl] : List Value).toArray below meth c H locs 0 0 Q (F0 m 92 ls []) := by
          intro n
          induction n with
          | zero =>
            intro k9 x7 gh H locs ls hi_k9 hm_k9 ex_k9 hk1 hP hD hS hl
            exact absurd (show False by omega) not_false
          | succ n ih_10 =>
            intro k9 x7 gh H locs ls hi_k9 hm_k9 ex_k9 hk1 hP hD hS hl
            have hx_k9 : x7.toInt = (k9 : Int) := by rw [ex_k9]; exact nI_toInt (by omega)
            have hc_k9 : x7.toNatClampNeg = k9 := by rw [ex_k9]; exact nI_clamp (by omega)
            refine lv_iload hx hb dX3_windRow_92 (lv_at hl 0 rfl) ?_
            refine lv_iload hx hb dX3_windRow_94 (lv_at hl 2 rfl) ?_
            refine lv_icmp_ge (tgt := 118) hx hb dX3_windRow_96 (by decide) (fun c_11 => ?_) (fun c_11 => ?_)
            · skip
              have f_12 : y_1.toInt ≤ (k9 : Int) := f_le rfl hx_k9 c_11
              have hP9 := hP.sub (ws' := [(h0, .inr (3, [.ref p1, .ref p2, .ref p3, .ref p4, .int pn, .int fx, .int fy])), (p1, .inl (cI, 48, .inl qa)), (p2, .inl (cI, 48, .inl qb)), (p3, .inl (cI, 48, .inl qc)), (p4, .inl (cI, 48, .inl qd)), (rw, .inl (cI, 256, .inl gh))]) [0, 1, 2, 3, 4, 5] rfl
              have hD9 := hD.sub (ws' := [(h0, .inr (3, [.ref p1, .ref p2, .ref p3, .ref p4, .int pn, .int fx, .int fy])), (p1, .inl (cI, 48, .inl qa)), (p2, .inl (cI, 48, .inl qb)), (p3, .inl (cI, 48, .inl qc)), (p4, .inl (cI, 48, .inl qd)), (rw, .inl (cI, 256, .inl gh))]) [0, 1, 2, 3, 4, 5] (by decide) rfl
              have hK9 := hK.sub (tys' := [(cI, .int)]) [0] rfl
              refine hQ _ _ _ _ _ ?_
              exact W.vret hx hb hr (fun t ht hW => ⟨⟨(), rfl, trivial, ⟨gh, by rw [ht]; exact hP9, va_K.moved hW.alike hK9, hD9⟩⟩, hS.F ht⟩) hS.2.2 dX3_windRow_118
            · skip
              have f_12 : ¬ (y_1.toInt ≤ (k9 : Int)) := fn_le rfl hx_k9 c_11
              refine lv_aload_n hx hb dX3_windRow_99 rfl (lv_at hl 6 rfl) ?_
              refine lv_iload hx hb dX3_windRow_100 (lv_at hl 0 rfl) ?_
              refine lv_dup2_11 hx hb dX3_windRow_102 rfl rfl ?_
              refine va_iald hx hb hK hP 5 0 rfl rfl (vp_in_iff.mpr ⟨by omega, by omega⟩) dX3_windRow_103 ?_
              refine lv_topi (fun y_13 ey_13 => ?_)
              refine lv_aload_n hx hb dX3_windRow_104 rfl (lv_at hl 6 rfl) ?_
              refine lv_iload hx hb dX3_windRow_105 (lv_at hl 0 rfl) ?_
              refine lv_iconst (v := 1) hx hb dX3_windRow_107 (by decide) ?_
              refine lv_isub hx hb dX3_windRow_108 ?_
              refine lv_topi (fun y_14 ey_14 => ?_)
              have hty_14 : y_14.toInt = (k9 : Int) - 1 := by rw [ey_14, ← hx_k9]; exact m1_ti (by omega)
              refine va_iald hx hb hK hP 5 0 rfl rfl (vp_in_iff.mpr ⟨by rw [hty_14]; omega, by rw [hty_14]; omega⟩) dX3_windRow_109 ?_
              refine lv_topi (fun y_15 ey_15 => ?_)
              refine lv_iadd hx hb dX3_windRow_110 ?_
              refine lv_topi (fun y_16 ey_16 => ?_)
              refine va_iast hx hb hK hP hD hS 5 0 rfl rfl (vp_in_iff.mpr ⟨by omega, by omega⟩) dX3_windRow_111 (fun H locs hP hD hS => ?_)
              have hP : va_P D vwCl [(h0, .inr (3, [.ref p1, .ref p2, .ref p3, .ref p4, .int pn, .int fx, .int fy])), (p1, .inl (cI, 48, .inl qa)), (p2, .inl (cI, 48, .inl qb)), (p3, .inl (cI, 48, .inl qc)), (p4, .inl (cI, 48, .inl qd)), (rw, .inl (cI, 256, .inl (upd gh x7.toNatClampNeg y_16)))] H := hP
              have hD : va_D A [(h0, .inr (3, [.ref p1, .ref p2, .ref p3, .ref p4, .int pn, .int fx, .int fy])), (p1, .inl (cI, 48, .inl qa)), (p2, .inl (cI, 48, .inl qb)), (p3, .inl (cI, 48, .inl qc)), (p4, .inl (cI, 48, .inl qd)), (rw, .inl (cI, 256, .inl (upd gh x7.toNatClampNeg y_16)))] := hD
              generalize eg_17 : upd gh x7.toNatClampNeg y_16 = g_17 at hP hD
              have hP : va_P D vwCl [(h0, .inr (3, [.ref p1, .ref p2, .ref p3, .ref p4, .int pn, .int fx, .int fy])), (p1, .inl (cI, 48, .inl qa)), (p2, .inl (cI, 48, .inl qb)), (p3, .inl (cI, 48, .inl qc)), (p4, .inl (cI, 48, .inl qd)), (rw, .inl (cI, 256, .inl g_17))] H := hP
              have hD : va_D A [(h0, .inr (3, [.ref p1, .ref p2, .ref p3, .ref p4, .int pn, .int fx, .int fy])), (p1, .inl (cI, 48, .inl qa)), (p2, .inl (cI, 48, .inl qb)), (p3, .inl (cI, 48, .inl qc)), (p4, .inl (cI, 48, .inl qd)), (rw, .inl (cI, 256, .inl g_17))] := hD
              obtain ⟨y_18, ey_18⟩ : ∃ y : Int32, y = x7 + 1 := ⟨_, rfl⟩
              refine lv_iinc (v := y_18) (lv' := [(7, .int y_18), (6, .int 16), (5, .int y_1), (0, .ref h0), (1, .int v), (2, .int 5), (3, .ref rw), (4, .int pl)]) hx hb dX3_windRow_112 hl (k := 0) rfl (by rw [ey_18]; rfl) (by decide) rfl (fun ls hl => ?_)
              refine lv_goto (tgt := 92) hx hb dX3_windRow_115 (by decide) ?_
              exact ih_10 (k9 + 1) y_18 g_17 _ _ _ (by omega) (by omega) (by rw [ey_18, ex_k9]; exact nI_1 k9) (by omega) (hP.sub (ws' := [(h0, .inr (3, [.ref p1, .ref p2, .ref p3, .ref p4, .int pn, .int fx, .int fy])), (p1, .inl (cI, 48, .inl qa)), (p2, .inl (cI, 48, .inl qb)), (p3, .inl (cI, 48, .inl qc)), (p4, .inl (cI, 48, .inl qd)), (rw, .inl (cI, 256, .inl g_17))]) [0, 1, 2, 3, 4, 5] rfl) (hD.sub (ws' := [(h0, .inr (3, [.ref p1, .ref p2, .ref p3, .ref p4, .int pn, .int fx, .int fy])), (p1, .inl (cI, 48, .inl qa)), (p2, .inl (cI, 48, .inl qb)), (p3, .inl (cI, 48, .inl qc)), (p4, .inl (cI, 48, .inl qd)), (rw, .inl (cI, 256, .inl g_17))]) [0, 1, 2, 3, 4, 5] (by decide) rfl) hS (lv_sub hl [0, 1, 2, 3, 4, 5, 6, 7] rfl)
        exact loop_9 (256 + 1) 1 1 gg _ _ _ (by omega) (by omega) rfl (by omega) hP hD hS (lv_sub hl [0, 1, 2, 3, 4, 5, 6, 7] rfl)
      · skip
        have f_8 : ¬ (pn.toInt ≤ (i : Int)) := fn_le rfl hx_i c_7
        refine lv_aload_n hx hb dX3_windRow_33 rfl (lv_at hl 3 rfl) ?_
        refine lv_iload hx hb dX3_windRow_34 (lv_at hl 0 rfl) ?_
        refine lv_iload_n hx hb dX3_windRow_36 rfl (lv_at hl 4 rfl) ?_
        have hPc := hP.sub (ws' := [(h0, .inr (3, [.ref p1, .ref p2, .ref p3, .ref p4, .int pn, .int fx, .int fy])), (p2, .inl (cI, 48, .inl qb)), (p4, .inl (cI, 48, .inl qd))]) [0, 2, 4] rfl
        have hDc := hD.sub (ws' := [(h0, .inr (3, [.ref p1, .ref p2, .ref p3, .ref p4, .int pn, .int fx, .int fy])), (p2, .inl (cI, 48, .inl qb)), (p4, .inl (cI, 48, .inl qd))]) [0, 2, 4] (by decide) rfl
        have hKc := hK.sub (tys' := [(cI, .int)]) [0] rfl
        have hFc := va_free (wc := [(h0, .inr (3, [.ref p1, .ref p2, .ref p3, .ref p4, .int pn, .int fx, .int fy])), (p2, .inl (cI, 48, .inl qb)), (p4, .inl (cI, 48, .inl qd))]) hD hS hA [0, 2, 4] rfl
        refine va_calli (va_runV (As := [.int x7, .int v]) (rest := []) ⟨hx, hb, hml, hown, hts⟩ (k_X3_turnOf l D H.size h0 p1 p2 p3 p4 pn fx fy qb qd x7 v cI (by first | assumption | omega | decide)) (cwV 2 hts (gV bw_88 bw_102 bw_103 bw_67 bw_101) rfl rfl rfl (by decide +kernel) ⟨(by rw [hR]; exact Nat.le_of_ble_eq_true rfl), (by rw [hR]; exact Nat.le_of_ble_eq_true rfl)⟩) ⟨cP_blind, va_recv hKc hPc (ci := 3) (q0 := 0) rfl rfl, cP_at hPc hKc hDc hN⟩ rfl rfl hl.1 rfl (lv_room (Nat.le_of_ble_eq_true rfl)) dX3_windRow_37 ⟨(by rw [hR]; exact Nat.le_of_ble_eq_true rfl), (by rw [hR]; exact Nat.le_of_ble_eq_true rfl)⟩) hS (fun q _ h => hFc q h) hFc (fun r_19 u9 t9 H1 locs ht hvm hr_19 hB hz1 hk1 hS => ?_)
        try dsimp only at hr_19
        obtain ⟨hP1, hK1, hD1⟩ := hB
        rw [ht] at hP1
        obtain ⟨hP, hD⟩ := va_join (wr := [(p1, .inl (cI, 48, .inl qa)), (p3, .inl (cI, 48, .inl qc)), (rw, .inl (cI, 256, .inl gg))]) (w1 := [(h0, .inr (3, [.ref p1, .ref p2, .ref p3, .ref p4, .int pn, .int fx, .int fy])), (p2, .inl (cI, 48, .inl qb)), (p4, .inl (cI, 48, .inl qd))]) hP hD [0, 2, 4] [1, 3, 5] rfl rfl (by decide) (by decide) hk1 hFc hP1 hD1
        clear hz1 hk1 hFc hKc hDc hPc
        generalize H1 = H at hP hS ⊢
        have hP : va_P D vwCl [(p1, .inl (cI, 48, .inl qa)), (p3, .inl (cI, 48, .inl qc)), (rw, .inl (cI, 256, .inl gg)), (h0, .inr (3, [.ref p1, .ref p2, .ref p3, .ref p4, .int pn, .int fx, .int fy])), (p2, .inl (cI, 48, .inl qb)), (p4, .inl (cI, 48, .inl qd))] H := hP
        have hD : va_D A [(p1, .inl (cI, 48, .inl qa)), (p3, .inl (cI, 48, .inl qc)), (rw, .inl (cI, 256, .inl gg)), (h0, .inr (3, [.ref p1, .ref p2, .ref p3, .ref p4, .int pn, .int fx, .int fy])), (p2, .inl (cI, 48, .inl qb)), (p4, .inl (cI, 48, .inl qd))] := hD
        refine lv_istore (lv' := [(8, .int r_19), (7, .int x7), (6, .int 16), (5, .int y_1), (0, .ref h0), (1, .int v), (2, .int 5), (3, .ref rw), (4, .int pl)]) hx hb dX3_windRow_40 hl (by decide) rfl (fun ls hl => ?_)
        refine lv_iload hx hb dX3_windRow_42 (lv_at hl 0 rfl) ?_
        refine lv_if_eq (tgt := 83) hx hb dX3_windRow_44 (by decide) (fun c_20 => ?_) (fun c_20 => ?_)
        · skip
          have f_21 : r_19.toInt = 0 := f_eq rfl (by decide) c_20
          obtain ⟨y_22, ey_22⟩ : ∃ y : Int32, y = x7 + 1 := ⟨_, rfl⟩
          refine lv_iinc (v := y_22) (lv' := [(7, .int y_22), (8, .int r_19), (6, .int 16), (5, .int y_1), (0, .ref h0), (1, .int v), (2, .int 5), (3, .ref rw), (4, .int pl)]) hx hb dX3_windRow_83 hl (k := 1) rfl (by rw [ey_22]; rfl) (by decide) rfl (fun ls hl => ?_)
          refine lv_goto (tgt := 24) hx hb dX3_windRow_86 (by decide) ?_
          exact ih_6 (i + 1) y_22 gg _ _ _ (by omega) (by omega) (by rw [ey_22, ex_i]; exact nI_1 i) (hP.sub (ws' := [(h0, .inr (3, [.ref p1, .ref p2, .ref p3, .ref p4, .int pn, .int fx, .int fy])), (p1, .inl (cI, 48, .inl qa)), (p2, .inl (cI, 48, .inl qb)), (p3, .inl (cI, 48, .inl qc)), (p4, .inl (cI, 48, .inl qd)), (rw, .inl (cI, 256, .inl gg))]) [3, 0, 4, 1, 5, 2] rfl) (hD.sub (ws' := [(h0, .inr (3, [.ref p1, .ref p2, .ref p3, .ref p4, .int pn, .int fx, .int fy])), (p1, .inl (cI, 48, .inl qa)), (p2, .inl (cI, 48, .inl qb)), (p3, .inl (cI, 48, .inl qc)), (p4, .inl (cI, 48, .inl qd)), (rw, .inl (cI, 256, .inl gg))]) [3, 0, 4, 1, 5, 2] (by decide) rfl) hS (lv_sub hl [0, 2, 3, 4, 5, 6, 7, 8] rfl)
        · skip
          have f_21 : ¬ (r_19.toInt = 0) := fn_eq rfl (by decide) c_20
          refine lv_iconst (v := 0) hx hb dX3_windRow_47 (by decide) ?_
          refine lv_aload_n hx hb dX3_windRow_48 rfl (lv_at hl 4 rfl) ?_
          refine lv_iload hx hb dX3_windRow_49 (lv_at hl 1 rfl) ?_
          refine lv_iload_n hx hb dX3_windRow_51 rfl (lv_at hl 5 rfl) ?_
          have hPc := hP.sub (ws' := [(h0, .inr (3, [.ref p1, .ref p2, .ref p3, .ref p4, .int pn, .int fx, .int fy])), (p1, .inl (cI, 48, .inl qa)), (p2, .inl (cI, 48, .inl qb)), (p3, .inl (cI, 48, .inl qc)), (p4, .inl (cI, 48, .inl qd))]) [3, 0, 4, 1, 5] rfl
          have hDc := hD.sub (ws' := [(h0, .inr (3, [.ref p1, .ref p2, .ref p3, .ref p4, .int pn, .int fx, .int fy])), (p1, .inl (cI, 48, .inl qa)), (p2, .inl (cI, 48, .inl qb)), (p3, .inl (cI, 48, .inl qc)), (p4, .inl (cI, 48, .inl qd))]) [3, 0, 4, 1, 5] (by decide) rfl
          have hKc := hK.sub (tys' := [(cI, .int)]) [0] rfl
          have hFc := va_free (wc := [(h0, .inr (3, [.ref p1, .ref p2, .ref p3, .ref p4, .int pn, .int fx, .int fy])), (p1, .inl (cI, 48, .inl qa)), (p2, .inl (cI, 48, .inl qb)), (p3, .inl (cI, 48, .inl qc)), (p4, .inl (cI, 48, .inl qd))]) hD hS hA [3, 0, 4, 1, 5] rfl
          refine va_calli (va_runV (As := [.int x7, .int v]) (rest := [.int 0]) ⟨hx, hb, hml, hown, hts⟩ (k_X3_firstRightOf l D H.size h0 p1 p2 p3 p4 pn fx fy qa qb qc qd x7 v cI (by first | assumption | omega | decide)) (cwV 2 hts (gV bw_89 bw_105 bw_106 bw_67 bw_104) rfl rfl rfl (by decide +kernel) ⟨(by rw [hR]; exact Nat.le_of_ble_eq_true rfl), (by rw [hR]; exact Nat.le_of_ble_eq_true rfl)⟩) ⟨cP_blind, va_recv hKc hPc (ci := 3) (q0 := 0) rfl rfl, cP_at hPc hKc hDc hN⟩ rfl rfl hl.1 rfl (lv_room (Nat.le_of_ble_eq_true rfl)) dX3_windRow_52 ⟨(by rw [hR]; exact Nat.le_of_ble_eq_true rfl), (by rw [hR]; exact Nat.le_of_ble_eq_true rfl)⟩) hS (fun q _ h => hFc q h) hFc (fun r_23 u9 t9 H1 locs ht hvm hr_23 hB hz1 hk1 hS => ?_)
          try dsimp only at hr_23
          obtain ⟨hP1, hK1, hD1⟩ := hB
          rw [ht] at hP1
          obtain ⟨hP, hD⟩ := va_join (wr := [(rw, .inl (cI, 256, .inl gg))]) (w1 := [(h0, .inr (3, [.ref p1, .ref p2, .ref p3, .ref p4, .int pn, .int fx, .int fy])), (p1, .inl (cI, 48, .inl qa)), (p2, .inl (cI, 48, .inl qb)), (p3, .inl (cI, 48, .inl qc)), (p4, .inl (cI, 48, .inl qd))]) hP hD [3, 0, 4, 1, 5] [2] rfl rfl (by decide) (by decide) hk1 hFc hP1 hD1
          clear hz1 hk1 hFc hKc hDc hPc
          generalize H1 = H at hP hS ⊢
          have hP : va_P D vwCl [(rw, .inl (cI, 256, .inl gg)), (h0, .inr (3, [.ref p1, .ref p2, .ref p3, .ref p4, .int pn, .int fx, .int fy])), (p1, .inl (cI, 48, .inl qa)), (p2, .inl (cI, 48, .inl qb)), (p3, .inl (cI, 48, .inl qc)), (p4, .inl (cI, 48, .inl qd))] H := hP
          have hD : va_D A [(rw, .inl (cI, 256, .inl gg)), (h0, .inr (3, [.ref p1, .ref p2, .ref p3, .ref p4, .int pn, .int fx, .int fy])), (p1, .inl (cI, 48, .inl qa)), (p2, .inl (cI, 48, .inl qb)), (p3, .inl (cI, 48, .inl qc)), (p4, .inl (cI, 48, .inl qd))] := hD
          refine lv_iload hx hb dX3_windRow_55 (lv_at hl 2 rfl) ?_
          refine lv_iadd hx hb dX3_windRow_57 ?_
          refine lv_topi (fun y_24 ey_24 => ?_)
          refine lv_iconst (v := 1) hx hb dX3_windRow_58 (by decide) ?_
          refine lv_isub hx hb dX3_windRow_59 ?_
          refine lv_topi (fun y_25 ey_25 => ?_)
          refine lv_iload_n hx hb dX3_windRow_60 rfl (lv_at hl 6 rfl) ?_
          refine lv_ishr hx hb dX3_windRow_61 ?_
          refine lv_topi (fun y_26 ey_26 => ?_)
          refine va_mmax hx hb (by rw [hml]; exact hl.1.symm) hown (hts _ bw_98) (hts _ bw_99) (hts _ bw_47) (hts _ bw_100) (by rw [hR]; exact Nat.le_of_ble_eq_true rfl) (by rw [hR]; exact Nat.le_of_ble_eq_true rfl) (by rw [hR]; exact Nat.le_of_ble_eq_true rfl) (by rw [hR]; exact Nat.le_of_ble_eq_true rfl) dX3_windRow_62 ?_
          refine lv_topi (fun y_27 ey_27 => ?_)
          have hmy_27 : 0 ≤ y_27.toInt := by rw [ey_27]; exact mx_ge (by decide)
          refine lv_istore (lv' := [(9, .int y_27), (8, .int r_19), (7, .int x7), (6, .int 16), (5, .int y_1), (0, .ref h0), (1, .int v), (2, .int 5), (3, .ref rw), (4, .int pl)]) hx hb dX3_windRow_65 hl (by decide) rfl (fun ls hl => ?_)
          refine lv_iload hx hb dX3_windRow_67 (lv_at hl 0 rfl) ?_
          refine lv_iload hx hb dX3_windRow_69 (lv_at hl 4 rfl) ?_
          refine lv_icmp_ge (tgt := 83) hx hb dX3_windRow_71 (by decide) (fun c_28 => ?_) (fun c_28 => ?_)
          · skip
            have f_29 : y_1.toInt ≤ y_27.toInt := f_le rfl rfl c_28
            obtain ⟨y_30, ey_30⟩ : ∃ y : Int32, y = x7 + 1 := ⟨_, rfl⟩
            refine lv_iinc (v := y_30) (lv' := [(7, .int y_30), (9, .int y_27), (8, .int r_19), (6, .int 16), (5, .int y_1), (0, .ref h0), (1, .int v), (2, .int 5), (3, .ref rw), (4, .int pl)]) hx hb dX3_windRow_83 hl (k := 2) rfl (by rw [ey_30]; rfl) (by decide) rfl (fun ls hl => ?_)
            refine lv_goto (tgt := 24) hx hb dX3_windRow_86 (by decide) ?_
            exact ih_6 (i + 1) y_30 gg _ _ _ (by omega) (by omega) (by rw [ey_30, ex_i]; exact nI_1 i) (hP.sub (ws' := [(h0, .inr (3, [.ref p1, .ref p2, .ref p3, .ref p4, .int pn, .int fx, .int fy])), (p1, .inl (cI, 48, .inl qa)), (p2, .inl (cI, 48, .inl qb)), (p3, .inl (cI, 48, .inl qc)), (p4, .inl (cI, 48, .inl qd)), (rw, .inl (cI, 256, .inl gg))]) [1, 2, 3, 4, 5, 0] rfl) (hD.sub (ws' := [(h0, .inr (3, [.ref p1, .ref p2, .ref p3, .ref p4, .int pn, .int fx, .int fy])), (p1, .inl (cI, 48, .inl qa)), (p2, .inl (cI, 48, .inl qb)), (p3, .inl (cI, 48, .inl qc)), (p4, .inl (cI, 48, .inl qd)), (rw, .inl (cI, 256, .inl gg))]) [1, 2, 3, 4, 5, 0] (by decide) rfl) hS (lv_sub hl [0, 3, 4, 5, 6, 7, 8, 9] rfl)
          · skip
            have f_29 : ¬ (y_1.toInt ≤ y_27.toInt) := fn_le rfl rfl c_28
            refine lv_aload_n hx hb dX3_windRow_74 rfl (lv_at hl 8 rfl) ?_
            refine lv_iload hx hb dX3_windRow_75 (lv_at hl 0 rfl) ?_
            refine lv_dup2_11 hx hb dX3_windRow_77 rfl rfl ?_
            refine va_iald hx hb hK hP 0 0 rfl rfl (vp_in_iff.mpr ⟨by omega, by omega⟩) dX3_windRow_78 ?_
            refine lv_topi (fun y_31 ey_31 => ?_)
            refine lv_iload hx hb dX3_windRow_79 (lv_at hl 1 rfl) ?_
            refine lv_iadd hx hb dX3_windRow_81 ?_
            refine lv_topi (fun y_32 ey_32 => ?_)
            refine va_iast hx hb hK hP hD hS 0 0 rfl rfl (vp_in_iff.mpr ⟨by omega, by omega⟩) dX3_windRow_82 (fun H locs hP hD hS => ?_)
            have hP : va_P D vwCl [(rw, .inl (cI, 256, .inl (upd gg y_27.toNatClampNeg y_32))), (h0, .inr (3, [.ref p1, .ref p2, .ref p3, .ref p4, .int pn, .int fx, .int fy])), (p1, .inl (cI, 48, .inl qa)), (p2, .inl (cI, 48, .inl qb)), (p3, .inl (cI, 48, .inl qc)), (p4, .inl (cI, 48, .inl qd))] H := hP
            have hD : va_D A [(rw, .inl (cI, 256, .inl (upd gg y_27.toNatClampNeg y_32))), (h0, .inr (3, [.ref p1, .ref p2, .ref p3, .ref p4, .int pn, .int fx, .int fy])), (p1, .inl (cI, 48, .inl qa)), (p2, .inl (cI, 48, .inl qb)), (p3, .inl (cI, 48, .inl qc)), (p4, .inl (cI, 48, .inl qd))] := hD
            generalize eg_33 : upd gg y_27.toNatClampNeg y_32 = g_33 at hP hD
            have hP : va_P D vwCl [(rw, .inl (cI, 256, .inl g_33)), (h0, .inr (3, [.ref p1, .ref p2, .ref p3, .ref p4, .int pn, .int fx, .int fy])), (p1, .inl (cI, 48, .inl qa)), (p2, .inl (cI, 48, .inl qb)), (p3, .inl (cI, 48, .inl qc)), (p4, .inl (cI, 48, .inl qd))] H := hP
            have hD : va_D A [(rw, .inl (cI, 256, .inl g_33)), (h0, .inr (3, [.ref p1, .ref p2, .ref p3, .ref p4, .int pn, .int fx, .int fy])), (p1, .inl (cI, 48, .inl qa)), (p2, .inl (cI, 48, .inl qb)), (p3, .inl (cI, 48, .inl qc)), (p4, .inl (cI, 48, .inl qd))] := hD
            obtain ⟨y_34, ey_34⟩ : ∃ y : Int32, y = x7 + 1 := ⟨_, rfl⟩
            refine lv_iinc (v := y_34) (lv' := [(7, .int y_34), (9, .int y_27), (8, .int r_19), (6, .int 16), (5, .int y_1), (0, .ref h0), (1, .int v), (2, .int 5), (3, .ref rw), (4, .int pl)]) hx hb dX3_windRow_83 hl (k := 2) rfl (by rw [ey_34]; rfl) (by decide) rfl (fun ls hl => ?_)
            refine lv_goto (tgt := 24) hx hb dX3_windRow_86 (by decide) ?_
            exact ih_6 (i + 1) y_34 g_33 _ _ _ (by omega) (by omega) (by rw [ey_34, ex_i]; exact nI_1 i) (hP.sub (ws' := [(h0, .inr (3, [.ref p1, .ref p2, .ref p3, .ref p4, .int pn, .int fx, .int fy])), (p1, .inl (cI, 48, .inl qa)), (p2, .inl (cI, 48, .inl qb)), (p3, .inl (cI, 48, .inl qc)), (p4, .inl (cI, 48, .inl qd)), (rw, .inl (cI, 256, .inl g_33))]) [1, 2, 3, 4, 5, 0] rfl) (hD.sub (ws' := [(h0, .inr (3, [.ref p1, .ref p2, .ref p3, .ref p4, .int pn, .int fx, .int fy])), (p1, .inl (cI, 48, .inl qa)), (p2, .inl (cI, 48, .inl qb)), (p3, .inl (cI, 48, .inl qc)), (p4, .inl (cI, 48, .inl qd)), (rw, .inl (cI, 256, .inl g_33))]) [1, 2, 3, 4, 5, 0] (by decide) rfl) hS (lv_sub hl [0, 3, 4, 5, 6, 7, 8, 9] rfl)
  exact loop_5 (48 + 1) 0 0 g_3 _ _ _ (by omega) (by omega) nI_0.symm hP hD hS (lv_sub hl [0, 1, 2, 3, 4, 5, 6, 7] rfl)

set_option maxHeartbeats 4000000 in
set_option maxRecDepth 100000 in
theorem k_X4_coveredAt (l : Launch) (D : va_G) (sz : Nat) (h0 : Nat) (w1 w2 : Nat) (gc : Nat → Int32) (x : Int32) (cI : ClassId) : Met l yX4_coveredAt (wB yX4_coveredAt cX4_coveredAt 2 (some .int)) ({ frames := 0, cells := 0, slots := 0, locals := 0 }) (cP D [(h0, .inr (4, [.ref w1, .ref w2])), (w2, .inl (cI, 64, .inl gc))] [(cI, .int)] sz [.ref h0, .int x]) (va_Qi (fun (r : Int32) (_ : Unit) => r = if 0 ≤ x.toInt ∧ x.toInt < 64 then gc x.toNatClampNeg else 0) (fun (_ : Unit) (t : State) => cB D (va_A [(h0, .inr (4, [.ref w1, .ref w2])), (w2, .inl (cI, 64, .inl gc))] sz) [(h0, .inr (4, [.ref w1, .ref w2])), (w2, .inl (cI, 64, .inl gc))] [(cI, .int)] t) (va_A [(h0, .inr (4, [.ref w1, .ref w2])), (w2, .inl (cI, 64, .inl gc))] sz)) 0 0 (va_A [(h0, .inr (4, [.ref w1, .ref w2])), (w2, .inl (cI, 64, .inl gc))] sz) := by
  refine Met.ofW (cc := cX4_coveredAt) (maxL := 2) (ret := (some .int)) (by decide) rfl ?_
  intro p e s m args below meth c s₁ B hml hv
  obtain ⟨rfl, hsz, hP, hK, hD0, hN⟩ := hv
  have hx := B.exec
  have hb := B.bytes
  have hr := B.returns
  have hts0 := atoms_spec (ws := (wB yX4_coveredAt cX4_coveredAt 2 (some .int))) B.pre
  have hts : ∀ w ∈ bigW, w.before _ s = true := fun w h => hts0 w (List.mem_cons_of_mem _ h)
  have hown : s.vm.findClass RX4 = some m.cls := findClass_of_methodNamed B.named
  have hlocks := B.notSynchronized
  subst hsz
  have hD := hD0.self (sz := s.heap.size)
  generalize hAe : va_A [(h0, .inr (4, [.ref w1, .ref w2])), (w2, .inl (cI, 64, .inl gc))] s.heap.size = A at hD ⊢
  have hA : ∀ q : Nat, s.heap.size ≤ q → A q := fun q h => by rw [← hAe]; exact Or.inr h
  have hS : va_S A s.heap s.heap [] := va_S.rf
  have hP : va_P D vwCl [(h0, .inr (4, [.ref w1, .ref w2])), (w2, .inl (cI, 64, .inl gc))] s.heap := hP
  have hl := lv_entry ([.ref h0, .int x]) (n := 2) (Nat.le_of_ble_eq_true rfl)
  rw [lg_entry_eq]
  generalize (lg_sl ([.ref h0, .int x]) ++ List.replicate (2 - (lg_sl ([.ref h0, .int x])).length) Slot.unset).toArray = ls at hl ⊢
  have hl : lv_has ls 2 [(0, .ref h0), (1, .int x)] := hl
  clear hts0 hD0 hAe
  refine my_abs (fun R Q hR hQ => ?_)
  refine lv_iload_n hx hb dX4_coveredAt_0 rfl (lv_at hl 1 rfl) ?_
  refine lv_if_lt (tgt := 19) hx hb dX4_coveredAt_1 (by decide) (fun c_1 => ?_) (fun c_1 => ?_)
  · skip
    have f_2 : x.toInt < 0 := f_lt rfl (by decide) c_1
    refine lv_iconst (v := 0) hx hb dX4_coveredAt_19 (by decide) ?_
    have hP9 := hP.sub (ws' := [(h0, .inr (4, [.ref w1, .ref w2])), (w2, .inl (cI, 64, .inl gc))]) [0, 1] rfl
    have hD9 := hD.sub (ws' := [(h0, .inr (4, [.ref w1, .ref w2])), (w2, .inl (cI, 64, .inl gc))]) [0, 1] (by decide) rfl
    have hK9 := hK.sub (tys' := [(cI, .int)]) [0] rfl
    refine hQ _ _ _ _ _ ?_
    exact W.iret (v := 0) hx hb hr (fun t ht hW => ⟨⟨0, (), rfl, (if_neg (by omega)).symm, ⟨by rw [ht]; exact hP9, va_K.moved hW.alike hK9, hD9⟩⟩, hS.F ht⟩) hS.2.2 dX4_coveredAt_20
  · skip
    have f_2 : ¬ (x.toInt < 0) := fn_lt rfl (by decide) c_1
    refine lv_iload_n hx hb dX4_coveredAt_4 rfl (lv_at hl 1 rfl) ?_
    refine lv_bipush (v := 64) hx hb dX4_coveredAt_5 (by decide) ?_
    refine lv_icmp_ge (tgt := 19) hx hb dX4_coveredAt_7 (by decide) (fun c_3 => ?_) (fun c_3 => ?_)
    · skip
      have f_4 : 64 ≤ x.toInt := f_le (by decide) rfl c_3
      refine lv_iconst (v := 0) hx hb dX4_coveredAt_19 (by decide) ?_
      have hP9 := hP.sub (ws' := [(h0, .inr (4, [.ref w1, .ref w2])), (w2, .inl (cI, 64, .inl gc))]) [0, 1] rfl
      have hD9 := hD.sub (ws' := [(h0, .inr (4, [.ref w1, .ref w2])), (w2, .inl (cI, 64, .inl gc))]) [0, 1] (by decide) rfl
      have hK9 := hK.sub (tys' := [(cI, .int)]) [0] rfl
      refine hQ _ _ _ _ _ ?_
      exact W.iret (v := 0) hx hb hr (fun t ht hW => ⟨⟨0, (), rfl, (if_neg (by omega)).symm, ⟨by rw [ht]; exact hP9, va_K.moved hW.alike hK9, hD9⟩⟩, hS.F ht⟩) hS.2.2 dX4_coveredAt_20
    · skip
      have f_4 : ¬ (64 ≤ x.toInt) := fn_le (by decide) rfl c_3
      refine lv_aload_n hx hb dX4_coveredAt_10 rfl (lv_at hl 0 rfl) ?_
      refine va_get (D := D) (ci := 4) (v := .ref w2) (C := RX4) (T := TX4) (N := 2) hx hb hts hi_X4 hown hK hP 0 rfl rfl 1 (by decide) (hts _ bw_117) (fun _ h9 => h9) rfl dX4_coveredAt_11 ?_
      refine lv_iload_n hx hb dX4_coveredAt_14 rfl (lv_at hl 1 rfl) ?_
      refine va_iald hx hb hK hP 1 0 rfl rfl (vp_in_iff.mpr ⟨by omega, by omega⟩) dX4_coveredAt_15 ?_
      refine lv_goto (tgt := 20) hx hb dX4_coveredAt_16 (by decide) ?_
      have hP9 := hP.sub (ws' := [(h0, .inr (4, [.ref w1, .ref w2])), (w2, .inl (cI, 64, .inl gc))]) [0, 1] rfl
      have hD9 := hD.sub (ws' := [(h0, .inr (4, [.ref w1, .ref w2])), (w2, .inl (cI, 64, .inl gc))]) [0, 1] (by decide) rfl
      have hK9 := hK.sub (tys' := [(cI, .int)]) [0] rfl
      refine hQ _ _ _ _ _ ?_
      exact W.iret (v := gc x.toNatClampNeg) hx hb hr (fun t ht hW => ⟨⟨gc x.toNatClampNeg, (), rfl, (if_pos (by omega)).symm, ⟨by rw [ht]; exact hP9, va_K.moved hW.alike hK9, hD9⟩⟩, hS.F ht⟩) hS.2.2 dX4_coveredAt_20

set_option maxHeartbeats 4000000 in
set_option maxRecDepth 100000 in
theorem k_X4_addRow_4 (l : Launch) (D : va_G) (sz : Nat) (h0 : Nat) (w1 w2 : Nat) (gw : Nat → Int32) (gc : Nat → Int32) (wd ru : Int32) (cI : ClassId) : Met l yX4_addRow (wB yX4_addRow cX4_addRow 6 none) ({ frames := 1, cells := 0, slots := 0, locals := 21 }) (cP D [(h0, .inr (4, [.ref w1, .ref w2])), (w1, .inl (cI, 256, .inl gw)), (w2, .inl (cI, 64, .inl gc))] [(cI, .int)] sz [.ref h0, .int wd, .int 4, .int ru]) (va_Qv (fun (_ : Unit) => True) (fun (_ : Unit) (t : State) => ∃ (g2 : Nat → Int32), cB D (va_A [(h0, .inr (4, [.ref w1, .ref w2])), (w1, .inl (cI, 256, .inl gw)), (w2, .inl (cI, 64, .inl gc))] sz) [(h0, .inr (4, [.ref w1, .ref w2])), (w1, .inl (cI, 256, .inl gw)), (w2, .inl (cI, 64, .inl g2))] [(cI, .int)] t) (va_A [(h0, .inr (4, [.ref w1, .ref w2])), (w1, .inl (cI, 256, .inl gw)), (w2, .inl (cI, 64, .inl gc))] sz)) 0 0 (va_A [(h0, .inr (4, [.ref w1, .ref w2])), (w1, .inl (cI, 256, .inl gw)), (w2, .inl (cI, 64, .inl gc))] sz) := by
  refine Met.ofW (cc := cX4_addRow) (maxL := 6) (ret := none) (by decide) rfl ?_
  intro p e s m args below meth c s₁ B hml hv
  obtain ⟨rfl, hsz, hP, hK, hD0, hN⟩ := hv
  have hx := B.exec
  have hb := B.bytes
  have hr := B.returns
  have hts0 := atoms_spec (ws := (wB yX4_addRow cX4_addRow 6 none)) B.pre
  have hts : ∀ w ∈ bigW, w.before _ s = true := fun w h => hts0 w (List.mem_cons_of_mem _ h)
  have hown : s.vm.findClass RX4 = some m.cls := findClass_of_methodNamed B.named
  have hlocks := B.notSynchronized
  subst hsz
  have hD := hD0.self (sz := s.heap.size)
  generalize hAe : va_A [(h0, .inr (4, [.ref w1, .ref w2])), (w1, .inl (cI, 256, .inl gw)), (w2, .inl (cI, 64, .inl gc))] s.heap.size = A at hD ⊢
  have hA : ∀ q : Nat, s.heap.size ≤ q → A q := fun q h => by rw [← hAe]; exact Or.inr h
  have hS : va_S A s.heap s.heap [] := va_S.rf
  have hP : va_P D vwCl [(h0, .inr (4, [.ref w1, .ref w2])), (w1, .inl (cI, 256, .inl gw)), (w2, .inl (cI, 64, .inl gc))] s.heap := hP
  have hl := lv_entry ([.ref h0, .int wd, .int 4, .int ru]) (n := 6) (Nat.le_of_ble_eq_true rfl)
  rw [lg_entry_eq]
  generalize (lg_sl ([.ref h0, .int wd, .int 4, .int ru]) ++ List.replicate (6 - (lg_sl ([.ref h0, .int wd, .int 4, .int ru])).length) Slot.unset).toArray = ls at hl ⊢
  have hl : lv_has ls 6 [(0, .ref h0), (1, .int wd), (2, .int 4), (3, .int ru)] := hl
  clear hts0 hD0 hAe
  refine my_abs (fun R Q hR hQ => ?_)
  refine lv_iconst (v := 0) hx hb dX4_addRow_0 (by decide) ?_
  refine lv_istore (lv' := [(4, .int 0), (0, .ref h0), (1, .int wd), (2, .int 4), (3, .int ru)]) hx hb dX4_addRow_1 hl (by decide) rfl (fun ls hl => ?_)
  have loop_1 : ∀ (n : Nat) (j : Nat) (x4 : Int32) (ga : Nat → Int32) (H : Heap) (locs : List Loc) (ls : Array Slot), (j ≤ 64) → (64 + 1 ≤ j + n) → (x4 = nI j) → va_P D vwCl [(h0, .inr (4, [.ref w1, .ref w2])), (w1, .inl (cI, 256, .inl gw)), (w2, .inl (cI, 64, .inl ga))] H → va_D A [(h0, .inr (4, [.ref w1, .ref w2])), (w1, .inl (cI, 256, .inl gw)), (w2, .inl (cI, 64, .inl ga))] → va_S A s.heap H locs → lv_has ls 6 [(4, .int x4), (0, .ref h0), (1, .int wd), (2, .int 4), (3, .int ru)] → W p l e R s m ([.ref h0, .int wd, .int 4, .int ru] : List Value).toArray below meth c H locs 0 0 Q (F0 m 3 ls []) := by
    intro n
    induction n with
    | zero =>
      intro j x4 ga H locs ls hi_j hm_j ex_j hP hD hS hl
      exact absurd (show False by omega) not_false
    | succ n ih_2 =>
      intro j x4 ga H locs ls hi_j hm_j ex_j hP hD hS hl
      have hx_j : x4.toInt = (j : Int) := by rw [ex_j]; exact nI_toInt (by omega)
      have hc_j : x4.toNatClampNeg = j := by rw [ex_j]; exact nI_clamp (by omega)
      refine lv_iload hx hb dX4_addRow_3 (lv_at hl 0 rfl) ?_
      refine lv_iload_n hx hb dX4_addRow_5 rfl (lv_at hl 2 rfl) ?_
      refine lv_icmp_ge (tgt := 73) hx hb dX4_addRow_6 (by decide) (fun c_3 => ?_) (fun c_3 => ?_)
      · skip
        have f_4 : wd.toInt ≤ (j : Int) := f_le rfl hx_j c_3
        have hP9 := hP.sub (ws' := [(h0, .inr (4, [.ref w1, .ref w2])), (w1, .inl (cI, 256, .inl gw)), (w2, .inl (cI, 64, .inl ga))]) [0, 1, 2] rfl
        have hD9 := hD.sub (ws' := [(h0, .inr (4, [.ref w1, .ref w2])), (w1, .inl (cI, 256, .inl gw)), (w2, .inl (cI, 64, .inl ga))]) [0, 1, 2] (by decide) rfl
        have hK9 := hK.sub (tys' := [(cI, .int)]) [0] rfl
        refine hQ _ _ _ _ _ ?_
        exact W.vret hx hb hr (fun t ht hW => ⟨⟨(), rfl, trivial, ⟨ga, by rw [ht]; exact hP9, va_K.moved hW.alike hK9, hD9⟩⟩, hS.F ht⟩) hS.2.2 dX4_addRow_73
      · skip
        have f_4 : ¬ (wd.toInt ≤ (j : Int)) := fn_le rfl hx_j c_3
        refine lv_iload hx hb dX4_addRow_9 (lv_at hl 0 rfl) ?_
        refine lv_bipush (v := 64) hx hb dX4_addRow_11 (by decide) ?_
        refine lv_icmp_ge (tgt := 73) hx hb dX4_addRow_13 (by decide) (fun c_5 => ?_) (fun c_5 => ?_)
        · skip
          have f_6 : 64 ≤ (j : Int) := f_le (by decide) hx_j c_5
          have hP9 := hP.sub (ws' := [(h0, .inr (4, [.ref w1, .ref w2])), (w1, .inl (cI, 256, .inl gw)), (w2, .inl (cI, 64, .inl ga))]) [0, 1, 2] rfl
          have hD9 := hD.sub (ws' := [(h0, .inr (4, [.ref w1, .ref w2])), (w1, .inl (cI, 256, .inl gw)), (w2, .inl (cI, 64, .inl ga))]) [0, 1, 2] (by decide) rfl
          have hK9 := hK.sub (tys' := [(cI, .int)]) [0] rfl
          refine hQ _ _ _ _ _ ?_
          exact W.vret hx hb hr (fun t ht hW => ⟨⟨(), rfl, trivial, ⟨ga, by rw [ht]; exact hP9, va_K.moved hW.alike hK9, hD9⟩⟩, hS.F ht⟩) hS.2.2 dX4_addRow_73
        · skip
          have f_6 : ¬ (64 ≤ (j : Int)) := fn_le (by decide) hx_j c_5
          refine lv_iconst (v := 0) hx hb dX4_addRow_16 (by decide) ?_
          refine lv_istore (lv' := [(5, .int 0), (4, .int x4), (0, .ref h0), (1, .int wd), (2, .int 4), (3, .int ru)]) hx hb dX4_addRow_17 hl (by decide) rfl (fun ls hl => ?_)
          have loop_7 : ∀ (n : Nat) (i : Nat) (x5 : Int32) (gb : Nat → Int32) (H : Heap) (locs : List Loc) (ls : Array Slot), (i ≤ 4) → (4 + 1 ≤ i + n) → (x5 = nI i) → va_P D vwCl [(h0, .inr (4, [.ref w1, .ref w2])), (w1, .inl (cI, 256, .inl gw)), (w2, .inl (cI, 64, .inl gb))] H → va_D A [(h0, .inr (4, [.ref w1, .ref w2])), (w1, .inl (cI, 256, .inl gw)), (w2, .inl (cI, 64, .inl gb))] → va_S A s.heap H locs → lv_has ls 6 [(5, .int x5), (4, .int x4), (0, .ref h0), (1, .int wd), (2, .int 4), (3, .int ru)] → W p l e R s m ([.ref h0, .int wd, .int 4, .int ru] : List Value).toArray below meth c H locs 0 0 Q (F0 m 19 ls []) := by
            intro n
            induction n with
            | zero =>
              intro i x5 gb H locs ls hi_i hm_i ex_i hP hD hS hl
              exact absurd (show False by omega) not_false
            | succ n ih_8 =>
              intro i x5 gb H locs ls hi_i hm_i ex_i hP hD hS hl
              have hx_i : x5.toInt = (i : Int) := by rw [ex_i]; exact nI_toInt (by omega)
              have hc_i : x5.toNatClampNeg = i := by rw [ex_i]; exact nI_clamp (by omega)
              refine lv_iload hx hb dX4_addRow_19 (lv_at hl 0 rfl) ?_
              refine lv_iload_n hx hb dX4_addRow_21 rfl (lv_at hl 4 rfl) ?_
              refine lv_icmp_ge (tgt := 67) hx hb dX4_addRow_22 (by decide) (fun c_9 => ?_) (fun c_9 => ?_)
              · skip
                have f_10 : 4 ≤ (i : Int) := f_le (by decide) hx_i c_9
                obtain ⟨y_11, ey_11⟩ : ∃ y : Int32, y = x4 + 1 := ⟨_, rfl⟩
                refine lv_iinc (v := y_11) (lv' := [(4, .int y_11), (5, .int x5), (0, .ref h0), (1, .int wd), (2, .int 4), (3, .int ru)]) hx hb dX4_addRow_67 hl (k := 1) rfl (by rw [ey_11]; rfl) (by decide) rfl (fun ls hl => ?_)
                refine lv_goto (tgt := 3) hx hb dX4_addRow_70 (by decide) ?_
                exact ih_2 (j + 1) y_11 gb _ _ _ (by omega) (by omega) (by rw [ey_11, ex_j]; exact nI_1 j) (hP.sub (ws' := [(h0, .inr (4, [.ref w1, .ref w2])), (w1, .inl (cI, 256, .inl gw)), (w2, .inl (cI, 64, .inl gb))]) [0, 1, 2] rfl) (hD.sub (ws' := [(h0, .inr (4, [.ref w1, .ref w2])), (w1, .inl (cI, 256, .inl gw)), (w2, .inl (cI, 64, .inl gb))]) [0, 1, 2] (by decide) rfl) hS (lv_sub hl [0, 2, 3, 4, 5] rfl)
              · skip
                have f_10 : ¬ (4 ≤ (i : Int)) := fn_le (by decide) hx_i c_9
                refine lv_iload hx hb dX4_addRow_25 (lv_at hl 0 rfl) ?_
                refine lv_iconst (v := 4) hx hb dX4_addRow_27 (by decide) ?_
                refine lv_icmp_ge (tgt := 67) hx hb dX4_addRow_28 (by decide) (fun c_12 => ?_) (fun c_12 => ?_)
                · skip
                  exact absurd c_12 c_9
                · skip
                  have f_13 : ¬ (4 ≤ (i : Int)) := fn_le (by decide) hx_i c_12
                  refine lv_aload_n hx hb dX4_addRow_31 rfl (lv_at hl 2 rfl) ?_
                  refine va_get (D := D) (ci := 4) (v := .ref w1) (C := RX4) (T := TX4) (N := 2) hx hb hts hi_X4 hown hK hP 0 rfl rfl 0 (by decide) (hts _ bw_116) (fun _ h9 => h9) rfl dX4_addRow_32 ?_
                  refine lv_iload hx hb dX4_addRow_35 (lv_at hl 1 rfl) ?_
                  refine lv_iload_n hx hb dX4_addRow_37 rfl (lv_at hl 4 rfl) ?_
                  refine lv_imul hx hb dX4_addRow_38 ?_
                  refine lv_topi (fun y_14 ey_14 => ?_)
                  have hty_14 : y_14 = nI (j * 4) := by rw [ey_14, ex_j]; exact pk_mul j 4
                  refine lv_iload hx hb dX4_addRow_39 (lv_at hl 0 rfl) ?_
                  refine lv_iadd hx hb dX4_addRow_41 ?_
                  refine lv_topi (fun y_15 ey_15 => ?_)
                  have hty_15 : y_15 = nI (j * 4 + i) := by rw [ey_15, hty_14, ex_i]; exact nI_add _ _
                  refine va_iald hx hb hK hP 1 0 rfl rfl (by rw [hty_15]; exact vp_in_nI (by omega) (by omega)) dX4_addRow_42 ?_
                  refine lv_topi (fun y_16 ey_16 => ?_)
                  refine lv_iload_n hx hb dX4_addRow_43 rfl (lv_at hl 5 rfl) ?_
                  have hPc := hP.sub (ws' := []) [] rfl
                  have hDc := hD.sub (ws' := []) [] (by decide) rfl
                  have hKc := hK.sub (tys' := []) [] rfl
                  have hFc := va_free (wc := []) hD hS hA [] rfl
                  refine va_calli (va_runSN (host := RX8) (As := [.int y_16, .int ru]) (rest := []) ⟨hx, hb, hml, hown, hts⟩ (k_X8_isIn l D H.size y_16 ru) ⟨va_cnB 2 hts (gI bw_356) rfl rfl rfl (hN.2.1 (RX4, 34, yX8_isIn, RX8) (by decide +kernel)) (hts _ bw_223) (by decide +kernel) ⟨(by rw [hR]; exact Nat.le_of_ble_eq_true rfl), (by rw [hR]; exact Nat.le_of_ble_eq_true rfl)⟩, (hts _ bw_357), trivial⟩ ⟨cP_blind, cP_at hPc hKc hDc hN⟩ rfl rfl hl.1 rfl (lv_room (Nat.le_of_ble_eq_true rfl)) dX4_addRow_44 ⟨(by rw [hR]; exact Nat.le_of_ble_eq_true rfl), (by rw [hR]; exact Nat.le_of_ble_eq_true rfl)⟩) hS (fun q _ h => hFc q h) hFc (fun r_17 u9 t9 H1 locs ht hvm hr_17 hB hz1 hk1 hS => ?_)
                  try dsimp only at hr_17
                  have hP1 : va_P D vwCl [] H1 := vP_nil
                  have hD1 : va_D (va_A [] H.size) [] := vD_nil
                  obtain ⟨hP, hD⟩ := va_join (wr := [(h0, .inr (4, [.ref w1, .ref w2])), (w1, .inl (cI, 256, .inl gw)), (w2, .inl (cI, 64, .inl gb))]) (w1 := []) hP hD [] [0, 1, 2] rfl rfl (by decide) (by decide) hk1 hFc hP1 hD1
                  clear hz1 hk1 hFc hKc hDc hPc
                  generalize H1 = H at hP hS ⊢
                  have hP : va_P D vwCl [(h0, .inr (4, [.ref w1, .ref w2])), (w1, .inl (cI, 256, .inl gw)), (w2, .inl (cI, 64, .inl gb))] H := hP
                  have hD : va_D A [(h0, .inr (4, [.ref w1, .ref w2])), (w1, .inl (cI, 256, .inl gw)), (w2, .inl (cI, 64, .inl gb))] := hD
                  refine lv_if_eq (tgt := 61) hx hb dX4_addRow_47 (by decide) (fun c_18 => ?_) (fun c_18 => ?_)
                  · skip
                    have f_19 := bz0 hr_17 c_18
                    obtain ⟨y_20, ey_20⟩ : ∃ y : Int32, y = x5 + 1 := ⟨_, rfl⟩
                    refine lv_iinc (v := y_20) (lv' := [(5, .int y_20), (4, .int x4), (0, .ref h0), (1, .int wd), (2, .int 4), (3, .int ru)]) hx hb dX4_addRow_61 hl (k := 0) rfl (by rw [ey_20]; rfl) (by decide) rfl (fun ls hl => ?_)
                    refine lv_goto (tgt := 19) hx hb dX4_addRow_64 (by decide) ?_
                    exact ih_8 (i + 1) y_20 gb _ _ _ (by omega) (by omega) (by rw [ey_20, ex_i]; exact nI_1 i) (hP.sub (ws' := [(h0, .inr (4, [.ref w1, .ref w2])), (w1, .inl (cI, 256, .inl gw)), (w2, .inl (cI, 64, .inl gb))]) [0, 1, 2] rfl) (hD.sub (ws' := [(h0, .inr (4, [.ref w1, .ref w2])), (w1, .inl (cI, 256, .inl gw)), (w2, .inl (cI, 64, .inl gb))]) [0, 1, 2] (by decide) rfl) hS (lv_sub hl [0, 1, 2, 3, 4, 5] rfl)
                  · skip
                    have f_19 := bz1 hr_17 c_18
                    refine lv_aload_n hx hb dX4_addRow_50 rfl (lv_at hl 2 rfl) ?_
                    refine va_get (D := D) (ci := 4) (v := .ref w2) (C := RX4) (T := TX4) (N := 2) hx hb hts hi_X4 hown hK hP 0 rfl rfl 1 (by decide) (hts _ bw_117) (fun _ h9 => h9) rfl dX4_addRow_51 ?_
                    refine lv_iload hx hb dX4_addRow_54 (lv_at hl 1 rfl) ?_
                    refine lv_dup2_11 hx hb dX4_addRow_56 rfl rfl ?_
                    refine va_iald hx hb hK hP 2 0 rfl rfl (vp_in_iff.mpr ⟨by omega, by omega⟩) dX4_addRow_57 ?_
                    refine lv_topi (fun y_21 ey_21 => ?_)
                    refine lv_iconst (v := 1) hx hb dX4_addRow_58 (by decide) ?_
                    refine lv_iadd hx hb dX4_addRow_59 ?_
                    refine lv_topi (fun y_22 ey_22 => ?_)
                    refine va_iast hx hb hK hP hD hS 2 0 rfl rfl (vp_in_iff.mpr ⟨by omega, by omega⟩) dX4_addRow_60 (fun H locs hP hD hS => ?_)
                    have hP : va_P D vwCl [(h0, .inr (4, [.ref w1, .ref w2])), (w1, .inl (cI, 256, .inl gw)), (w2, .inl (cI, 64, .inl (upd gb x4.toNatClampNeg y_22)))] H := hP
                    have hD : va_D A [(h0, .inr (4, [.ref w1, .ref w2])), (w1, .inl (cI, 256, .inl gw)), (w2, .inl (cI, 64, .inl (upd gb x4.toNatClampNeg y_22)))] := hD
                    generalize eg_23 : upd gb x4.toNatClampNeg y_22 = g_23 at hP hD
                    have hP : va_P D vwCl [(h0, .inr (4, [.ref w1, .ref w2])), (w1, .inl (cI, 256, .inl gw)), (w2, .inl (cI, 64, .inl g_23))] H := hP
                    have hD : va_D A [(h0, .inr (4, [.ref w1, .ref w2])), (w1, .inl (cI, 256, .inl gw)), (w2, .inl (cI, 64, .inl g_23))] := hD
                    obtain ⟨y_24, ey_24⟩ : ∃ y : Int32, y = x5 + 1 := ⟨_, rfl⟩
                    refine lv_iinc (v := y_24) (lv' := [(5, .int y_24), (4, .int x4), (0, .ref h0), (1, .int wd), (2, .int 4), (3, .int ru)]) hx hb dX4_addRow_61 hl (k := 0) rfl (by rw [ey_24]; rfl) (by decide) rfl (fun ls hl => ?_)
                    refine lv_goto (tgt := 19) hx hb dX4_addRow_64 (by decide) ?_
                    exact ih_8 (i + 1) y_24 g_23 _ _ _ (by omega) (by omega) (by rw [ey_24, ex_i]; exact nI_1 i) (hP.sub (ws' := [(h0, .inr (4, [.ref w1, .ref w2])), (w1, .inl (cI, 256, .inl gw)), (w2, .inl (cI, 64, .inl g_23))]) [0, 1, 2] rfl) (hD.sub (ws' := [(h0, .inr (4, [.ref w1, .ref w2])), (w1, .inl (cI, 256, .inl gw)), (w2, .inl (cI, 64, .inl g_23))]) [0, 1, 2] (by decide) rfl) hS (lv_sub hl [0, 1, 2, 3, 4, 5] rfl)
          exact loop_7 (4 + 1) 0 0 ga _ _ _ (by omega) (by omega) nI_0.symm hP hD hS (lv_sub hl [0, 1, 2, 3, 4, 5] rfl)
  exact loop_1 (64 + 1) 0 0 gc _ _ _ (by omega) (by omega) nI_0.symm hP hD hS (lv_sub hl [0, 1, 2, 3, 4] rfl)

set_option maxHeartbeats 4000000 in
set_option maxRecDepth 100000 in
theorem k_X4_addRow_1 (l : Launch) (D : va_G) (sz : Nat) (h0 : Nat) (w1 w2 : Nat) (gw : Nat → Int32) (gc : Nat → Int32) (wd ru : Int32) (cI : ClassId) : Met l yX4_addRow (wB yX4_addRow cX4_addRow 6 none) ({ frames := 1, cells := 0, slots := 0, locals := 21 }) (cP D [(h0, .inr (4, [.ref w1, .ref w2])), (w1, .inl (cI, 256, .inl gw)), (w2, .inl (cI, 64, .inl gc))] [(cI, .int)] sz [.ref h0, .int wd, .int 1, .int ru]) (va_Qv (fun (_ : Unit) => True) (fun (_ : Unit) (t : State) => ∃ (g2 : Nat → Int32), cB D (va_A [(h0, .inr (4, [.ref w1, .ref w2])), (w1, .inl (cI, 256, .inl gw)), (w2, .inl (cI, 64, .inl gc))] sz) [(h0, .inr (4, [.ref w1, .ref w2])), (w1, .inl (cI, 256, .inl gw)), (w2, .inl (cI, 64, .inl g2))] [(cI, .int)] t) (va_A [(h0, .inr (4, [.ref w1, .ref w2])), (w1, .inl (cI, 256, .inl gw)), (w2, .inl (cI, 64, .inl gc))] sz)) 0 0 (va_A [(h0, .inr (4, [.ref w1, .ref w2])), (w1, .inl (cI, 256, .inl gw)), (w2, .inl (cI, 64, .inl gc))] sz) := by
  refine Met.ofW (cc := cX4_addRow) (maxL := 6) (ret := none) (by decide) rfl ?_
  intro p e s m args below meth c s₁ B hml hv
  obtain ⟨rfl, hsz, hP, hK, hD0, hN⟩ := hv
  have hx := B.exec
  have hb := B.bytes
  have hr := B.returns
  have hts0 := atoms_spec (ws := (wB yX4_addRow cX4_addRow 6 none)) B.pre
  have hts : ∀ w ∈ bigW, w.before _ s = true := fun w h => hts0 w (List.mem_cons_of_mem _ h)
  have hown : s.vm.findClass RX4 = some m.cls := findClass_of_methodNamed B.named
  have hlocks := B.notSynchronized
  subst hsz
  have hD := hD0.self (sz := s.heap.size)
  generalize hAe : va_A [(h0, .inr (4, [.ref w1, .ref w2])), (w1, .inl (cI, 256, .inl gw)), (w2, .inl (cI, 64, .inl gc))] s.heap.size = A at hD ⊢
  have hA : ∀ q : Nat, s.heap.size ≤ q → A q := fun q h => by rw [← hAe]; exact Or.inr h
  have hS : va_S A s.heap s.heap [] := va_S.rf
  have hP : va_P D vwCl [(h0, .inr (4, [.ref w1, .ref w2])), (w1, .inl (cI, 256, .inl gw)), (w2, .inl (cI, 64, .inl gc))] s.heap := hP
  have hl := lv_entry ([.ref h0, .int wd, .int 1, .int ru]) (n := 6) (Nat.le_of_ble_eq_true rfl)
  rw [lg_entry_eq]
  generalize (lg_sl ([.ref h0, .int wd, .int 1, .int ru]) ++ List.replicate (6 - (lg_sl ([.ref h0, .int wd, .int 1, .int ru])).length) Slot.unset).toArray = ls at hl ⊢
  have hl : lv_has ls 6 [(0, .ref h0), (1, .int wd), (2, .int 1), (3, .int ru)] := hl
  clear hts0 hD0 hAe
  refine my_abs (fun R Q hR hQ => ?_)
  refine lv_iconst (v := 0) hx hb dX4_addRow_0 (by decide) ?_
  refine lv_istore (lv' := [(4, .int 0), (0, .ref h0), (1, .int wd), (2, .int 1), (3, .int ru)]) hx hb dX4_addRow_1 hl (by decide) rfl (fun ls hl => ?_)
  have loop_1 : ∀ (n : Nat) (j : Nat) (x4 : Int32) (ga : Nat → Int32) (H : Heap) (locs : List Loc) (ls : Array Slot), (j ≤ 64) → (64 + 1 ≤ j + n) → (x4 = nI j) → va_P D vwCl [(h0, .inr (4, [.ref w1, .ref w2])), (w1, .inl (cI, 256, .inl gw)), (w2, .inl (cI, 64, .inl ga))] H → va_D A [(h0, .inr (4, [.ref w1, .ref w2])), (w1, .inl (cI, 256, .inl gw)), (w2, .inl (cI, 64, .inl ga))] → va_S A s.heap H locs → lv_has ls 6 [(4, .int x4), (0, .ref h0), (1, .int wd), (2, .int 1), (3, .int ru)] → W p l e R s m ([.ref h0, .int wd, .int 1, .int ru] : List Value).toArray below meth c H locs 0 0 Q (F0 m 3 ls []) := by
    intro n
    induction n with
    | zero =>
      intro j x4 ga H locs ls hi_j hm_j ex_j hP hD hS hl
      exact absurd (show False by omega) not_false
    | succ n ih_2 =>
      intro j x4 ga H locs ls hi_j hm_j ex_j hP hD hS hl
      have hx_j : x4.toInt = (j : Int) := by rw [ex_j]; exact nI_toInt (by omega)
      have hc_j : x4.toNatClampNeg = j := by rw [ex_j]; exact nI_clamp (by omega)
      refine lv_iload hx hb dX4_addRow_3 (lv_at hl 0 rfl) ?_
      refine lv_iload_n hx hb dX4_addRow_5 rfl (lv_at hl 2 rfl) ?_
      refine lv_icmp_ge (tgt := 73) hx hb dX4_addRow_6 (by decide) (fun c_3 => ?_) (fun c_3 => ?_)
      · skip
        have f_4 : wd.toInt ≤ (j : Int) := f_le rfl hx_j c_3
        have hP9 := hP.sub (ws' := [(h0, .inr (4, [.ref w1, .ref w2])), (w1, .inl (cI, 256, .inl gw)), (w2, .inl (cI, 64, .inl ga))]) [0, 1, 2] rfl
        have hD9 := hD.sub (ws' := [(h0, .inr (4, [.ref w1, .ref w2])), (w1, .inl (cI, 256, .inl gw)), (w2, .inl (cI, 64, .inl ga))]) [0, 1, 2] (by decide) rfl
        have hK9 := hK.sub (tys' := [(cI, .int)]) [0] rfl
        refine hQ _ _ _ _ _ ?_
        exact W.vret hx hb hr (fun t ht hW => ⟨⟨(), rfl, trivial, ⟨ga, by rw [ht]; exact hP9, va_K.moved hW.alike hK9, hD9⟩⟩, hS.F ht⟩) hS.2.2 dX4_addRow_73
      · skip
        have f_4 : ¬ (wd.toInt ≤ (j : Int)) := fn_le rfl hx_j c_3
        refine lv_iload hx hb dX4_addRow_9 (lv_at hl 0 rfl) ?_
        refine lv_bipush (v := 64) hx hb dX4_addRow_11 (by decide) ?_
        refine lv_icmp_ge (tgt := 73) hx hb dX4_addRow_13 (by decide) (fun c_5 => ?_) (fun c_5 => ?_)
        · skip
          have f_6 : 64 ≤ (j : Int) := f_le (by decide) hx_j c_5
          have hP9 := hP.sub (ws' := [(h0, .inr (4, [.ref w1, .ref w2])), (w1, .inl (cI, 256, .inl gw)), (w2, .inl (cI, 64, .inl ga))]) [0, 1, 2] rfl
          have hD9 := hD.sub (ws' := [(h0, .inr (4, [.ref w1, .ref w2])), (w1, .inl (cI, 256, .inl gw)), (w2, .inl (cI, 64, .inl ga))]) [0, 1, 2] (by decide) rfl
          have hK9 := hK.sub (tys' := [(cI, .int)]) [0] rfl
          refine hQ _ _ _ _ _ ?_
          exact W.vret hx hb hr (fun t ht hW => ⟨⟨(), rfl, trivial, ⟨ga, by rw [ht]; exact hP9, va_K.moved hW.alike hK9, hD9⟩⟩, hS.F ht⟩) hS.2.2 dX4_addRow_73
        · skip
          have f_6 : ¬ (64 ≤ (j : Int)) := fn_le (by decide) hx_j c_5
          refine lv_iconst (v := 0) hx hb dX4_addRow_16 (by decide) ?_
          refine lv_istore (lv' := [(5, .int 0), (4, .int x4), (0, .ref h0), (1, .int wd), (2, .int 1), (3, .int ru)]) hx hb dX4_addRow_17 hl (by decide) rfl (fun ls hl => ?_)
          have loop_7 : ∀ (n : Nat) (i : Nat) (x5 : Int32) (gb : Nat → Int32) (H : Heap) (locs : List Loc) (ls : Array Slot), (i ≤ 4) → (4 + 1 ≤ i + n) → (x5 = nI i) → va_P D vwCl [(h0, .inr (4, [.ref w1, .ref w2])), (w1, .inl (cI, 256, .inl gw)), (w2, .inl (cI, 64, .inl gb))] H → va_D A [(h0, .inr (4, [.ref w1, .ref w2])), (w1, .inl (cI, 256, .inl gw)), (w2, .inl (cI, 64, .inl gb))] → va_S A s.heap H locs → lv_has ls 6 [(5, .int x5), (4, .int x4), (0, .ref h0), (1, .int wd), (2, .int 1), (3, .int ru)] → W p l e R s m ([.ref h0, .int wd, .int 1, .int ru] : List Value).toArray below meth c H locs 0 0 Q (F0 m 19 ls []) := by
            intro n
            induction n with
            | zero =>
              intro i x5 gb H locs ls hi_i hm_i ex_i hP hD hS hl
              exact absurd (show False by omega) not_false
            | succ n ih_8 =>
              intro i x5 gb H locs ls hi_i hm_i ex_i hP hD hS hl
              have hx_i : x5.toInt = (i : Int) := by rw [ex_i]; exact nI_toInt (by omega)
              have hc_i : x5.toNatClampNeg = i := by rw [ex_i]; exact nI_clamp (by omega)
              refine lv_iload hx hb dX4_addRow_19 (lv_at hl 0 rfl) ?_
              refine lv_iload_n hx hb dX4_addRow_21 rfl (lv_at hl 4 rfl) ?_
              refine lv_icmp_ge (tgt := 67) hx hb dX4_addRow_22 (by decide) (fun c_9 => ?_) (fun c_9 => ?_)
              · skip
                have f_10 : 1 ≤ (i : Int) := f_le (by decide) hx_i c_9
                obtain ⟨y_11, ey_11⟩ : ∃ y : Int32, y = x4 + 1 := ⟨_, rfl⟩
                refine lv_iinc (v := y_11) (lv' := [(4, .int y_11), (5, .int x5), (0, .ref h0), (1, .int wd), (2, .int 1), (3, .int ru)]) hx hb dX4_addRow_67 hl (k := 1) rfl (by rw [ey_11]; rfl) (by decide) rfl (fun ls hl => ?_)
                refine lv_goto (tgt := 3) hx hb dX4_addRow_70 (by decide) ?_
                exact ih_2 (j + 1) y_11 gb _ _ _ (by omega) (by omega) (by rw [ey_11, ex_j]; exact nI_1 j) (hP.sub (ws' := [(h0, .inr (4, [.ref w1, .ref w2])), (w1, .inl (cI, 256, .inl gw)), (w2, .inl (cI, 64, .inl gb))]) [0, 1, 2] rfl) (hD.sub (ws' := [(h0, .inr (4, [.ref w1, .ref w2])), (w1, .inl (cI, 256, .inl gw)), (w2, .inl (cI, 64, .inl gb))]) [0, 1, 2] (by decide) rfl) hS (lv_sub hl [0, 2, 3, 4, 5] rfl)
              · skip
                have f_10 : ¬ (1 ≤ (i : Int)) := fn_le (by decide) hx_i c_9
                refine lv_iload hx hb dX4_addRow_25 (lv_at hl 0 rfl) ?_
                refine lv_iconst (v := 4) hx hb dX4_addRow_27 (by decide) ?_
                refine lv_icmp_ge (tgt := 67) hx hb dX4_addRow_28 (by decide) (fun c_12 => ?_) (fun c_12 => ?_)
                · skip
                  have f_13 : 4 ≤ (i : Int) := f_le (by decide) hx_i c_12
                  obtain ⟨y_14, ey_14⟩ : ∃ y : Int32, y = x4 + 1 := ⟨_, rfl⟩
                  refine lv_iinc (v := y_14) (lv' := [(4, .int y_14), (5, .int x5), (0, .ref h0), (1, .int wd), (2, .int 1), (3, .int ru)]) hx hb dX4_addRow_67 hl (k := 1) rfl (by rw [ey_14]; rfl) (by decide) rfl (fun ls hl => ?_)
                  refine lv_goto (tgt := 3) hx hb dX4_addRow_70 (by decide) ?_
                  exact ih_2 (j + 1) y_14 gb _ _ _ (by omega) (by omega) (by rw [ey_14, ex_j]; exact nI_1 j) (hP.sub (ws' := [(h0, .inr (4, [.ref w1, .ref w2])), (w1, .inl (cI, 256, .inl gw)), (w2, .inl (cI, 64, .inl gb))]) [0, 1, 2] rfl) (hD.sub (ws' := [(h0, .inr (4, [.ref w1, .ref w2])), (w1, .inl (cI, 256, .inl gw)), (w2, .inl (cI, 64, .inl gb))]) [0, 1, 2] (by decide) rfl) hS (lv_sub hl [0, 2, 3, 4, 5] rfl)
                · skip
                  have f_13 : ¬ (4 ≤ (i : Int)) := fn_le (by decide) hx_i c_12
                  refine lv_aload_n hx hb dX4_addRow_31 rfl (lv_at hl 2 rfl) ?_
                  refine va_get (D := D) (ci := 4) (v := .ref w1) (C := RX4) (T := TX4) (N := 2) hx hb hts hi_X4 hown hK hP 0 rfl rfl 0 (by decide) (hts _ bw_116) (fun _ h9 => h9) rfl dX4_addRow_32 ?_
                  refine lv_iload hx hb dX4_addRow_35 (lv_at hl 1 rfl) ?_
                  refine lv_iload_n hx hb dX4_addRow_37 rfl (lv_at hl 4 rfl) ?_
                  refine lv_imul hx hb dX4_addRow_38 ?_
                  refine lv_topi (fun y_15 ey_15 => ?_)
                  have hty_15 : y_15 = nI (j * 1) := by rw [ey_15, ex_j]; exact pk_mul j 1
                  refine lv_iload hx hb dX4_addRow_39 (lv_at hl 0 rfl) ?_
                  refine lv_iadd hx hb dX4_addRow_41 ?_
                  refine lv_topi (fun y_16 ey_16 => ?_)
                  have hty_16 : y_16 = nI (j * 1 + i) := by rw [ey_16, hty_15, ex_i]; exact nI_add _ _
                  refine va_iald hx hb hK hP 1 0 rfl rfl (by rw [hty_16]; exact vp_in_nI (by omega) (by omega)) dX4_addRow_42 ?_
                  refine lv_topi (fun y_17 ey_17 => ?_)
                  refine lv_iload_n hx hb dX4_addRow_43 rfl (lv_at hl 5 rfl) ?_
                  have hPc := hP.sub (ws' := []) [] rfl
                  have hDc := hD.sub (ws' := []) [] (by decide) rfl
                  have hKc := hK.sub (tys' := []) [] rfl
                  have hFc := va_free (wc := []) hD hS hA [] rfl
                  refine va_calli (va_runSN (host := RX8) (As := [.int y_17, .int ru]) (rest := []) ⟨hx, hb, hml, hown, hts⟩ (k_X8_isIn l D H.size y_17 ru) ⟨va_cnB 2 hts (gI bw_356) rfl rfl rfl (hN.2.1 (RX4, 34, yX8_isIn, RX8) (by decide +kernel)) (hts _ bw_223) (by decide +kernel) ⟨(by rw [hR]; exact Nat.le_of_ble_eq_true rfl), (by rw [hR]; exact Nat.le_of_ble_eq_true rfl)⟩, (hts _ bw_357), trivial⟩ ⟨cP_blind, cP_at hPc hKc hDc hN⟩ rfl rfl hl.1 rfl (lv_room (Nat.le_of_ble_eq_true rfl)) dX4_addRow_44 ⟨(by rw [hR]; exact Nat.le_of_ble_eq_true rfl), (by rw [hR]; exact Nat.le_of_ble_eq_true rfl)⟩) hS (fun q _ h => hFc q h) hFc (fun r_18 u9 t9 H1 locs ht hvm hr_18 hB hz1 hk1 hS => ?_)
                  try dsimp only at hr_18
                  have hP1 : va_P D vwCl [] H1 := vP_nil
                  have hD1 : va_D (va_A [] H.size) [] := vD_nil
                  obtain ⟨hP, hD⟩ := va_join (wr := [(h0, .inr (4, [.ref w1, .ref w2])), (w1, .inl (cI, 256, .inl gw)), (w2, .inl (cI, 64, .inl gb))]) (w1 := []) hP hD [] [0, 1, 2] rfl rfl (by decide) (by decide) hk1 hFc hP1 hD1
                  clear hz1 hk1 hFc hKc hDc hPc
                  generalize H1 = H at hP hS ⊢
                  have hP : va_P D vwCl [(h0, .inr (4, [.ref w1, .ref w2])), (w1, .inl (cI, 256, .inl gw)), (w2, .inl (cI, 64, .inl gb))] H := hP
                  have hD : va_D A [(h0, .inr (4, [.ref w1, .ref w2])), (w1, .inl (cI, 256, .inl gw)), (w2, .inl (cI, 64, .inl gb))] := hD
                  refine lv_if_eq (tgt := 61) hx hb dX4_addRow_47 (by decide) (fun c_19 => ?_) (fun c_19 => ?_)
                  · skip
                    have f_20 := bz0 hr_18 c_19
                    obtain ⟨y_21, ey_21⟩ : ∃ y : Int32, y = x5 + 1 := ⟨_, rfl⟩
                    refine lv_iinc (v := y_21) (lv' := [(5, .int y_21), (4, .int x4), (0, .ref h0), (1, .int wd), (2, .int 1), (3, .int ru)]) hx hb dX4_addRow_61 hl (k := 0) rfl (by rw [ey_21]; rfl) (by decide) rfl (fun ls hl => ?_)
                    refine lv_goto (tgt := 19) hx hb dX4_addRow_64 (by decide) ?_
                    exact ih_8 (i + 1) y_21 gb _ _ _ (by omega) (by omega) (by rw [ey_21, ex_i]; exact nI_1 i) (hP.sub (ws' := [(h0, .inr (4, [.ref w1, .ref w2])), (w1, .inl (cI, 256, .inl gw)), (w2, .inl (cI, 64, .inl gb))]) [0, 1, 2] rfl) (hD.sub (ws' := [(h0, .inr (4, [.ref w1, .ref w2])), (w1, .inl (cI, 256, .inl gw)), (w2, .inl (cI, 64, .inl gb))]) [0, 1, 2] (by decide) rfl) hS (lv_sub hl [0, 1, 2, 3, 4, 5] rfl)
                  · skip
                    have f_20 := bz1 hr_18 c_19
                    refine lv_aload_n hx hb dX4_addRow_50 rfl (lv_at hl 2 rfl) ?_
                    refine va_get (D := D) (ci := 4) (v := .ref w2) (C := RX4) (T := TX4) (N := 2) hx hb hts hi_X4 hown hK hP 0 rfl rfl 1 (by decide) (hts _ bw_117) (fun _ h9 => h9) rfl dX4_addRow_51 ?_
                    refine lv_iload hx hb dX4_addRow_54 (lv_at hl 1 rfl) ?_
                    refine lv_dup2_11 hx hb dX4_addRow_56 rfl rfl ?_
                    refine va_iald hx hb hK hP 2 0 rfl rfl (vp_in_iff.mpr ⟨by omega, by omega⟩) dX4_addRow_57 ?_
                    refine lv_topi (fun y_22 ey_22 => ?_)
                    refine lv_iconst (v := 1) hx hb dX4_addRow_58 (by decide) ?_
                    refine lv_iadd hx hb dX4_addRow_59 ?_
                    refine lv_topi (fun y_23 ey_23 => ?_)
                    refine va_iast hx hb hK hP hD hS 2 0 rfl rfl (vp_in_iff.mpr ⟨by omega, by omega⟩) dX4_addRow_60 (fun H locs hP hD hS => ?_)
                    have hP : va_P D vwCl [(h0, .inr (4, [.ref w1, .ref w2])), (w1, .inl (cI, 256, .inl gw)), (w2, .inl (cI, 64, .inl (upd gb x4.toNatClampNeg y_23)))] H := hP
                    have hD : va_D A [(h0, .inr (4, [.ref w1, .ref w2])), (w1, .inl (cI, 256, .inl gw)), (w2, .inl (cI, 64, .inl (upd gb x4.toNatClampNeg y_23)))] := hD
                    generalize eg_24 : upd gb x4.toNatClampNeg y_23 = g_24 at hP hD
                    have hP : va_P D vwCl [(h0, .inr (4, [.ref w1, .ref w2])), (w1, .inl (cI, 256, .inl gw)), (w2, .inl (cI, 64, .inl g_24))] H := hP
                    have hD : va_D A [(h0, .inr (4, [.ref w1, .ref w2])), (w1, .inl (cI, 256, .inl gw)), (w2, .inl (cI, 64, .inl g_24))] := hD
                    obtain ⟨y_25, ey_25⟩ : ∃ y : Int32, y = x5 + 1 := ⟨_, rfl⟩
                    refine lv_iinc (v := y_25) (lv' := [(5, .int y_25), (4, .int x4), (0, .ref h0), (1, .int wd), (2, .int 1), (3, .int ru)]) hx hb dX4_addRow_61 hl (k := 0) rfl (by rw [ey_25]; rfl) (by decide) rfl (fun ls hl => ?_)
                    refine lv_goto (tgt := 19) hx hb dX4_addRow_64 (by decide) ?_
                    exact ih_8 (i + 1) y_25 g_24 _ _ _ (by omega) (by omega) (by rw [ey_25, ex_i]; exact nI_1 i) (hP.sub (ws' := [(h0, .inr (4, [.ref w1, .ref w2])), (w1, .inl (cI, 256, .inl gw)), (w2, .inl (cI, 64, .inl g_24))]) [0, 1, 2] rfl) (hD.sub (ws' := [(h0, .inr (4, [.ref w1, .ref w2])), (w1, .inl (cI, 256, .inl gw)), (w2, .inl (cI, 64, .inl g_24))]) [0, 1, 2] (by decide) rfl) hS (lv_sub hl [0, 1, 2, 3, 4, 5] rfl)
          exact loop_7 (4 + 1) 0 0 ga _ _ _ (by omega) (by omega) nI_0.symm hP hD hS (lv_sub hl [0, 1, 2, 3, 4, 5] rfl)
  exact loop_1 (64 + 1) 0 0 gc _ _ _ (by omega) (by omega) nI_0.symm hP hD hS (lv_sub hl [0, 1, 2, 3, 4] rfl)

set_option maxHeartbeats 4000000 in
set_option maxRecDepth 100000 in
theorem k_X4_read_3 (l : Launch) (D : va_G) (sz : Nat) (h0 ph : Nat) (w1 w2 : Nat) (p1 p2 p3 p4 : Nat) (pn fx fy : Int32) (qa : Nat → Int32) (qb : Nat → Int32) (qc : Nat → Int32) (qd : Nat → Int32) (gw : Nat → Int32) (gc : Nat → Int32) (y wd ru : Int32) (cI : ClassId) (hpn : 0 ≤ pn.toInt ∧ pn.toInt ≤ 48) : Met l yX4_read (wB yX4_read cX4_read 10 none) ({ frames := 3, cells := 0, slots := 0, locals := 74 }) (cP D [(h0, .inr (4, [.ref w1, .ref w2])), (w1, .inl (cI, 256, .inl gw)), (w2, .inl (cI, 64, .inl gc)), (ph, .inr (3, [.ref p1, .ref p2, .ref p3, .ref p4, .int pn, .int fx, .int fy])), (p1, .inl (cI, 48, .inl qa)), (p2, .inl (cI, 48, .inl qb)), (p3, .inl (cI, 48, .inl qc)), (p4, .inl (cI, 48, .inl qd))] [(cI, .int)] sz [.ref h0, .ref ph, .int y, .int wd, .int 3, .int ru]) (va_Qv (fun (_ : Unit) => True) (fun (_ : Unit) (t : State) => ∃ (g2 g3 : Nat → Int32), cB D (va_A [(h0, .inr (4, [.ref w1, .ref w2])), (w1, .inl (cI, 256, .inl gw)), (w2, .inl (cI, 64, .inl gc)), (ph, .inr (3, [.ref p1, .ref p2, .ref p3, .ref p4, .int pn, .int fx, .int fy])), (p1, .inl (cI, 48, .inl qa)), (p2, .inl (cI, 48, .inl qb)), (p3, .inl (cI, 48, .inl qc)), (p4, .inl (cI, 48, .inl qd))] sz) [(h0, .inr (4, [.ref w1, .ref w2])), (w1, .inl (cI, 256, .inl g2)), (w2, .inl (cI, 64, .inl g3)), (ph, .inr (3, [.ref p1, .ref p2, .ref p3, .ref p4, .int pn, .int fx, .int fy])), (p1, .inl (cI, 48, .inl qa)), (p2, .inl (cI, 48, .inl qb)), (p3, .inl (cI, 48, .inl qc)), (p4, .inl (cI, 48, .inl qd))] [(cI, .int)] t) (va_A [(h0, .inr (4, [.ref w1, .ref w2])), (w1, .inl (cI, 256, .inl gw)), (w2, .inl (cI, 64, .inl gc)), (ph, .inr (3, [.ref p1, .ref p2, .ref p3, .ref p4, .int pn, .int fx, .int fy])), (p1, .inl (cI, 48, .inl qa)), (p2, .inl (cI, 48, .inl qb)), (p3, .inl (cI, 48, .inl qc)), (p4, .inl (cI, 48, .inl qd))] sz)) 0 0 (va_A [(h0, .inr (4, [.ref w1, .ref w2])), (w1, .inl (cI, 256, .inl gw)), (w2, .inl (cI, 64, .inl gc)), (ph, .inr (3, [.ref p1, .ref p2, .ref p3, .ref p4, .int pn, .int fx, .int fy])), (p1, .inl (cI, 48, .inl qa)), (p2, .inl (cI, 48, .inl qb)), (p3, .inl (cI, 48, .inl qc)), (p4, .inl (cI, 48, .inl qd))] sz) := by
  refine Met.ofW (cc := cX4_read) (maxL := 10) (ret := none) (by decide) rfl ?_
  intro p e s m args below meth c s₁ B hml hv
  obtain ⟨rfl, hsz, hP, hK, hD0, hN⟩ := hv
  have hx := B.exec
  have hb := B.bytes
  have hr := B.returns
  have hts0 := atoms_spec (ws := (wB yX4_read cX4_read 10 none)) B.pre
  have hts : ∀ w ∈ bigW, w.before _ s = true := fun w h => hts0 w (List.mem_cons_of_mem _ h)
  have hown : s.vm.findClass RX4 = some m.cls := findClass_of_methodNamed B.named
  have hlocks := B.notSynchronized
  subst hsz
  have hD := hD0.self (sz := s.heap.size)
  generalize hAe : va_A [(h0, .inr (4, [.ref w1, .ref w2])), (w1, .inl (cI, 256, .inl gw)), (w2, .inl (cI, 64, .inl gc)), (ph, .inr (3, [.ref p1, .ref p2, .ref p3, .ref p4, .int pn, .int fx, .int fy])), (p1, .inl (cI, 48, .inl qa)), (p2, .inl (cI, 48, .inl qb)), (p3, .inl (cI, 48, .inl qc)), (p4, .inl (cI, 48, .inl qd))] s.heap.size = A at hD ⊢
  have hA : ∀ q : Nat, s.heap.size ≤ q → A q := fun q h => by rw [← hAe]; exact Or.inr h
  have hS : va_S A s.heap s.heap [] := va_S.rf
  have hP : va_P D vwCl [(h0, .inr (4, [.ref w1, .ref w2])), (w1, .inl (cI, 256, .inl gw)), (w2, .inl (cI, 64, .inl gc)), (ph, .inr (3, [.ref p1, .ref p2, .ref p3, .ref p4, .int pn, .int fx, .int fy])), (p1, .inl (cI, 48, .inl qa)), (p2, .inl (cI, 48, .inl qb)), (p3, .inl (cI, 48, .inl qc)), (p4, .inl (cI, 48, .inl qd))] s.heap := hP
  have hl := lv_entry ([.ref h0, .ref ph, .int y, .int wd, .int 3, .int ru]) (n := 10) (Nat.le_of_ble_eq_true rfl)
  rw [lg_entry_eq]
  generalize (lg_sl ([.ref h0, .ref ph, .int y, .int wd, .int 3, .int ru]) ++ List.replicate (10 - (lg_sl ([.ref h0, .ref ph, .int y, .int wd, .int 3, .int ru])).length) Slot.unset).toArray = ls at hl ⊢
  have hl : lv_has ls 10 [(0, .ref h0), (1, .ref ph), (2, .int y), (3, .int wd), (4, .int 3), (5, .int ru)] := hl
  clear hts0 hD0 hAe
  refine my_abs (fun R Q hR hQ => ?_)
  refine lv_bipush (v := 32) hx hb dX4_read_0 (by decide) ?_
  refine lv_iload hx hb dX4_read_2 (lv_at hl 4 rfl) ?_
  refine lv_ishr hx hb dX4_read_4 ?_
  refine my_fold (v := 4) (by decide) ?_
  refine lv_istore (lv' := [(6, .int 4), (0, .ref h0), (1, .ref ph), (2, .int y), (3, .int wd), (4, .int 3), (5, .int ru)]) hx hb dX4_read_5 hl (by decide) rfl (fun ls hl => ?_)
  refine lv_iconst (v := 1) hx hb dX4_read_7 (by decide) ?_
  refine lv_iload hx hb dX4_read_8 (lv_at hl 5 rfl) ?_
  refine lv_ishl hx hb dX4_read_10 ?_
  refine my_fold (v := 8) (by decide) ?_
  refine lv_iconst (v := 2) hx hb dX4_read_11 (by decide) ?_
  refine lv_idiv hx hb dX4_read_12 (by decide) ?_
  refine my_fold (v := 4) (by decide) ?_
  refine lv_istore (lv' := [(7, .int 4), (6, .int 4), (0, .ref h0), (1, .ref ph), (2, .int y), (3, .int wd), (4, .int 3), (5, .int ru)]) hx hb dX4_read_13 hl (by decide) rfl (fun ls hl => ?_)
  refine lv_aload_n hx hb dX4_read_15 rfl (lv_at hl 2 rfl) ?_
  refine va_get (D := D) (ci := 4) (v := .ref w2) (C := RX4) (T := TX4) (N := 2) hx hb hts hi_X4 hown hK hP 0 rfl rfl 1 (by decide) (hts _ bw_117) (fun _ h9 => h9) rfl dX4_read_16 ?_
  refine lv_iconst (v := 0) hx hb dX4_read_19 (by decide) ?_
  have hPc := hP.sub (ws' := [(w2, .inl (cI, 64, .inl gc))]) [2] rfl
  have hDc := hD.sub (ws' := [(w2, .inl (cI, 64, .inl gc))]) [2] (by decide) rfl
  have hKc := hK.sub (tys' := [(cI, .int)]) [0] rfl
  have hFc := va_free (wc := [(w2, .inl (cI, 64, .inl gc))]) hD hS hA [2] rfl
  refine va_callv (va_runS (As := [.ref w2, .int 0]) (rest := []) ⟨hx, hb, hml, hown, hts⟩ (k_J7_fill_53178_64 l D s.heap.size w2 gc 0 cI) (va_cwS 2 hts (gS bw_121 bw_95 bw_96 bw_97) rfl rfl rfl (by decide +kernel) ⟨(by rw [hR]; exact Nat.le_of_ble_eq_true rfl), (by rw [hR]; exact Nat.le_of_ble_eq_true rfl)⟩) ⟨cP_blind, cP_at hPc hKc hDc hN⟩ rfl rfl hl.1 rfl (lv_room (Nat.le_of_ble_eq_true rfl)) dX4_read_20 ⟨(by rw [hR]; exact Nat.le_of_ble_eq_true rfl), (by rw [hR]; exact Nat.le_of_ble_eq_true rfl)⟩) hS (fun q _ h => hFc q h) hFc (fun u9 t9 H1 locs ht hvm hr_1 hB hz1 hk1 hS => ?_)
  try dsimp only at hr_1
  obtain ⟨g_2, b_3, hP1, hK1, hD1⟩ := hB
  rw [ht] at hP1
  obtain ⟨hP, hD⟩ := va_join (wr := [(h0, .inr (4, [.ref w1, .ref w2])), (w1, .inl (cI, 256, .inl gw)), (ph, .inr (3, [.ref p1, .ref p2, .ref p3, .ref p4, .int pn, .int fx, .int fy])), (p1, .inl (cI, 48, .inl qa)), (p2, .inl (cI, 48, .inl qb)), (p3, .inl (cI, 48, .inl qc)), (p4, .inl (cI, 48, .inl qd))]) (w1 := [(w2, .inl (cI, 64, .inl g_2))]) hP hD [2] [0, 1, 3, 4, 5, 6, 7] rfl rfl (by decide) (by decide) hk1 hFc hP1 hD1
  clear hz1 hk1 hFc hKc hDc hPc
  generalize H1 = H at hP hS ⊢
  have hP : va_P D vwCl [(h0, .inr (4, [.ref w1, .ref w2])), (w1, .inl (cI, 256, .inl gw)), (ph, .inr (3, [.ref p1, .ref p2, .ref p3, .ref p4, .int pn, .int fx, .int fy])), (p1, .inl (cI, 48, .inl qa)), (p2, .inl (cI, 48, .inl qb)), (p3, .inl (cI, 48, .inl qc)), (p4, .inl (cI, 48, .inl qd)), (w2, .inl (cI, 64, .inl g_2))] H := hP
  have hD : va_D A [(h0, .inr (4, [.ref w1, .ref w2])), (w1, .inl (cI, 256, .inl gw)), (ph, .inr (3, [.ref p1, .ref p2, .ref p3, .ref p4, .int pn, .int fx, .int fy])), (p1, .inl (cI, 48, .inl qa)), (p2, .inl (cI, 48, .inl qb)), (p3, .inl (cI, 48, .inl qc)), (p4, .inl (cI, 48, .inl qd)), (w2, .inl (cI, 64, .inl g_2))] := hD
  refine lv_iconst (v := 0) hx hb dX4_read_23 (by decide) ?_
  refine lv_istore (lv' := [(8, .int 0), (7, .int 4), (6, .int 4), (0, .ref h0), (1, .ref ph), (2, .int y), (3, .int wd), (4, .int 3), (5, .int ru)]) hx hb dX4_read_24 hl (by decide) rfl (fun ls hl => ?_)
  have loop_4 : ∀ (n : Nat) (j : Nat) (x8 : Int32) (ga : Nat → Int32) (gb : Nat → Int32) (H : Heap) (locs : List Loc) (ls : Array Slot), (j ≤ 4) → (4 + 1 ≤ j + n) → (x8 = nI j) → va_P D vwCl [(h0, .inr (4, [.ref w1, .ref w2])), (w1, .inl (cI, 256, .inl ga)), (ph, .inr (3, [.ref p1, .ref p2, .ref p3, .ref p4, .int pn, .int fx, .int fy])), (p1, .inl (cI, 48, .inl qa)), (p2, .inl (cI, 48, .inl qb)), (p3, .inl (cI, 48, .inl qc)), (p4, .inl (cI, 48, .inl qd)), (w2, .inl (cI, 64, .inl gb))] H → va_D A [(h0, .inr (4, [.ref w1, .ref w2])), (w1, .inl (cI, 256, .inl ga)), (ph, .inr (3, [.ref p1, .ref p2, .ref p3, .ref p4, .int pn, .int fx, .int fy])), (p1, .inl (cI, 48, .inl qa)), (p2, .inl (cI, 48, .inl qb)), (p3, .inl (cI, 48, .inl qc)), (p4, .inl (cI, 48, .inl qd)), (w2, .inl (cI, 64, .inl gb))] → va_S A s.heap H locs → lv_has ls 10 [(8, .int x8), (7, .int 4), (6, .int 4), (0, .ref h0), (1, .ref ph), (2, .int y), (3, .int wd), (4, .int 3), (5, .int ru)] → W p l e R s m ([.ref h0, .ref ph, .int y, .int wd, .int 3, .int ru] : List Value).toArray below meth c H locs 0 0 Q (F0 m 26 ls []) := by
    intro n
    induction n with
    | zero =>
      intro j x8 ga gb H locs ls hi_j hm_j ex_j hP hD hS hl
      exact absurd (show False by omega) not_false
    | succ n ih_5 =>
      intro j x8 ga gb H locs ls hi_j hm_j ex_j hP hD hS hl
      have hx_j : x8.toInt = (j : Int) := by rw [ex_j]; exact nI_toInt (by omega)
      have hc_j : x8.toNatClampNeg = j := by rw [ex_j]; exact nI_clamp (by omega)
      refine lv_iload hx hb dX4_read_26 (lv_at hl 0 rfl) ?_
      refine lv_iload hx hb dX4_read_28 (lv_at hl 2 rfl) ?_
      refine lv_icmp_ge (tgt := 79) hx hb dX4_read_30 (by decide) (fun c_6 => ?_) (fun c_6 => ?_)
      · skip
        have f_7 : 4 ≤ (j : Int) := f_le (by decide) hx_j c_6
        have hP9 := hP.sub (ws' := [(h0, .inr (4, [.ref w1, .ref w2])), (w1, .inl (cI, 256, .inl ga)), (w2, .inl (cI, 64, .inl gb)), (ph, .inr (3, [.ref p1, .ref p2, .ref p3, .ref p4, .int pn, .int fx, .int fy])), (p1, .inl (cI, 48, .inl qa)), (p2, .inl (cI, 48, .inl qb)), (p3, .inl (cI, 48, .inl qc)), (p4, .inl (cI, 48, .inl qd))]) [0, 1, 7, 2, 3, 4, 5, 6] rfl
        have hD9 := hD.sub (ws' := [(h0, .inr (4, [.ref w1, .ref w2])), (w1, .inl (cI, 256, .inl ga)), (w2, .inl (cI, 64, .inl gb)), (ph, .inr (3, [.ref p1, .ref p2, .ref p3, .ref p4, .int pn, .int fx, .int fy])), (p1, .inl (cI, 48, .inl qa)), (p2, .inl (cI, 48, .inl qb)), (p3, .inl (cI, 48, .inl qc)), (p4, .inl (cI, 48, .inl qd))]) [0, 1, 7, 2, 3, 4, 5, 6] (by decide) rfl
        have hK9 := hK.sub (tys' := [(cI, .int)]) [0] rfl
        refine hQ _ _ _ _ _ ?_
        exact W.vret hx hb hr (fun t ht hW => ⟨⟨(), rfl, trivial, ⟨ga, gb, by rw [ht]; exact hP9, va_K.moved hW.alike hK9, hD9⟩⟩, hS.F ht⟩) hS.2.2 dX4_read_79
      · skip
        have f_7 : ¬ (4 ≤ (j : Int)) := fn_le (by decide) hx_j c_6
        refine lv_iload_n hx hb dX4_read_33 rfl (lv_at hl 5 rfl) ?_
        refine lv_bipush (v := 32) hx hb dX4_read_34 (by decide) ?_
        refine lv_imul hx hb dX4_read_36 ?_
        refine lv_topi (fun y_8 ey_8 => ?_)
        refine lv_iload hx hb dX4_read_37 (lv_at hl 0 rfl) ?_
        refine lv_iload hx hb dX4_read_39 (lv_at hl 7 rfl) ?_
        refine lv_ishl hx hb dX4_read_41 ?_
        refine lv_topi (fun y_9 ey_9 => ?_)
        refine lv_iadd hx hb dX4_read_42 ?_
        refine lv_topi (fun y_10 ey_10 => ?_)
        refine lv_iload hx hb dX4_read_43 (lv_at hl 1 rfl) ?_
        refine lv_iadd hx hb dX4_read_45 ?_
        refine lv_topi (fun y_11 ey_11 => ?_)
        refine lv_istore (lv' := [(9, .int y_11), (8, .int x8), (7, .int 4), (6, .int 4), (0, .ref h0), (1, .ref ph), (2, .int y), (3, .int wd), (4, .int 3), (5, .int ru)]) hx hb dX4_read_46 hl (by decide) rfl (fun ls hl => ?_)
        refine lv_aload_n hx hb dX4_read_48 rfl (lv_at hl 5 rfl) ?_
        refine lv_iload hx hb dX4_read_49 (lv_at hl 0 rfl) ?_
        refine lv_iload hx hb dX4_read_51 (lv_at hl 8 rfl) ?_
        refine lv_aload_n hx hb dX4_read_53 rfl (lv_at hl 4 rfl) ?_
        refine va_get (D := D) (ci := 4) (v := .ref w1) (C := RX4) (T := TX4) (N := 2) hx hb hts hi_X4 hown hK hP 0 rfl rfl 0 (by decide) (hts _ bw_116) (fun _ h9 => h9) rfl dX4_read_54 ?_
        refine lv_iload_n hx hb dX4_read_57 rfl (lv_at hl 7 rfl) ?_
        refine lv_iload hx hb dX4_read_58 (lv_at hl 3 rfl) ?_
        refine lv_imul hx hb dX4_read_60 ?_
        refine lv_topi (fun y_12 ey_12 => ?_)
        have hPc := hP.sub (ws' := [(ph, .inr (3, [.ref p1, .ref p2, .ref p3, .ref p4, .int pn, .int fx, .int fy])), (p1, .inl (cI, 48, .inl qa)), (p2, .inl (cI, 48, .inl qb)), (p3, .inl (cI, 48, .inl qc)), (p4, .inl (cI, 48, .inl qd)), (w1, .inl (cI, 256, .inl ga))]) [2, 3, 4, 5, 6, 1] rfl
        have hDc := hD.sub (ws' := [(ph, .inr (3, [.ref p1, .ref p2, .ref p3, .ref p4, .int pn, .int fx, .int fy])), (p1, .inl (cI, 48, .inl qa)), (p2, .inl (cI, 48, .inl qb)), (p3, .inl (cI, 48, .inl qc)), (p4, .inl (cI, 48, .inl qd)), (w1, .inl (cI, 256, .inl ga))]) [2, 3, 4, 5, 6, 1] (by decide) rfl
        have hKc := hK.sub (tys' := [(cI, .int)]) [0] rfl
        have hFc := va_free (wc := [(ph, .inr (3, [.ref p1, .ref p2, .ref p3, .ref p4, .int pn, .int fx, .int fy])), (p1, .inl (cI, 48, .inl qa)), (p2, .inl (cI, 48, .inl qb)), (p3, .inl (cI, 48, .inl qc)), (p4, .inl (cI, 48, .inl qd)), (w1, .inl (cI, 256, .inl ga))]) hD hS hA [2, 3, 4, 5, 6, 1] rfl
        refine va_callv (va_runV (As := [.int y_11, .int 3, .ref w1, .int y_12]) (rest := []) ⟨hx, hb, hml, hown, hts⟩ (k_X3_windRow_3 l D H.size ph w1 p1 p2 p3 p4 pn fx fy qa qb qc qd ga y_11 y_12 cI (by first | assumption | omega | decide)) (cwV 4 hts (gV bw_122 bw_91 bw_92 bw_67 bw_90) rfl rfl rfl (by decide +kernel) ⟨(by rw [hR]; exact Nat.le_of_ble_eq_true rfl), (by rw [hR]; exact Nat.le_of_ble_eq_true rfl)⟩) ⟨cP_blind, va_recv hKc hPc (ci := 3) (q0 := 0) rfl rfl, cP_at hPc hKc hDc hN⟩ rfl rfl hl.1 rfl (lv_room (Nat.le_of_ble_eq_true rfl)) dX4_read_61 ⟨(by rw [hR]; exact Nat.le_of_ble_eq_true rfl), (by rw [hR]; exact Nat.le_of_ble_eq_true rfl)⟩) hS (fun q _ h => hFc q h) hFc (fun u9 t9 H1 locs ht hvm hr_13 hB hz1 hk1 hS => ?_)
        try dsimp only at hr_13
        obtain ⟨g_14, hP1, hK1, hD1⟩ := hB
        rw [ht] at hP1
        obtain ⟨hP, hD⟩ := va_join (wr := [(h0, .inr (4, [.ref w1, .ref w2])), (w2, .inl (cI, 64, .inl gb))]) (w1 := [(ph, .inr (3, [.ref p1, .ref p2, .ref p3, .ref p4, .int pn, .int fx, .int fy])), (p1, .inl (cI, 48, .inl qa)), (p2, .inl (cI, 48, .inl qb)), (p3, .inl (cI, 48, .inl qc)), (p4, .inl (cI, 48, .inl qd)), (w1, .inl (cI, 256, .inl g_14))]) hP hD [2, 3, 4, 5, 6, 1] [0, 7] rfl rfl (by decide) (by decide) hk1 hFc hP1 hD1
        clear hz1 hk1 hFc hKc hDc hPc
        generalize H1 = H at hP hS ⊢
        have hP : va_P D vwCl [(h0, .inr (4, [.ref w1, .ref w2])), (w2, .inl (cI, 64, .inl gb)), (ph, .inr (3, [.ref p1, .ref p2, .ref p3, .ref p4, .int pn, .int fx, .int fy])), (p1, .inl (cI, 48, .inl qa)), (p2, .inl (cI, 48, .inl qb)), (p3, .inl (cI, 48, .inl qc)), (p4, .inl (cI, 48, .inl qd)), (w1, .inl (cI, 256, .inl g_14))] H := hP
        have hD : va_D A [(h0, .inr (4, [.ref w1, .ref w2])), (w2, .inl (cI, 64, .inl gb)), (ph, .inr (3, [.ref p1, .ref p2, .ref p3, .ref p4, .int pn, .int fx, .int fy])), (p1, .inl (cI, 48, .inl qa)), (p2, .inl (cI, 48, .inl qb)), (p3, .inl (cI, 48, .inl qc)), (p4, .inl (cI, 48, .inl qd)), (w1, .inl (cI, 256, .inl g_14))] := hD
        refine lv_aload_n hx hb dX4_read_64 rfl (lv_at hl 4 rfl) ?_
        refine lv_iload_n hx hb dX4_read_65 rfl (lv_at hl 7 rfl) ?_
        refine lv_iload hx hb dX4_read_66 (lv_at hl 3 rfl) ?_
        refine lv_iload hx hb dX4_read_68 (lv_at hl 9 rfl) ?_
        have hPc := hP.sub (ws' := [(h0, .inr (4, [.ref w1, .ref w2])), (w1, .inl (cI, 256, .inl g_14)), (w2, .inl (cI, 64, .inl gb))]) [0, 7, 1] rfl
        have hDc := hD.sub (ws' := [(h0, .inr (4, [.ref w1, .ref w2])), (w1, .inl (cI, 256, .inl g_14)), (w2, .inl (cI, 64, .inl gb))]) [0, 7, 1] (by decide) rfl
        have hKc := hK.sub (tys' := [(cI, .int)]) [0] rfl
        have hFc := va_free (wc := [(h0, .inr (4, [.ref w1, .ref w2])), (w1, .inl (cI, 256, .inl g_14)), (w2, .inl (cI, 64, .inl gb))]) hD hS hA [0, 7, 1] rfl
        refine va_callv (va_runV (As := [.int wd, .int 4, .int ru]) (rest := []) ⟨hx, hb, hml, hown, hts⟩ (k_X4_addRow_4 l D H.size h0 w1 w2 g_14 gb wd ru cI) (cwV 3 hts (gV bw_123 bw_128 bw_129 bw_111 bw_127) rfl rfl rfl (by decide +kernel) ⟨(by rw [hR]; exact Nat.le_of_ble_eq_true rfl), (by rw [hR]; exact Nat.le_of_ble_eq_true rfl)⟩) ⟨cP_blind, va_recv hKc hPc (ci := 4) (q0 := 0) rfl rfl, cP_at hPc hKc hDc hN⟩ rfl rfl hl.1 rfl (lv_room (Nat.le_of_ble_eq_true rfl)) dX4_read_70 ⟨(by rw [hR]; exact Nat.le_of_ble_eq_true rfl), (by rw [hR]; exact Nat.le_of_ble_eq_true rfl)⟩) hS (fun q _ h => hFc q h) hFc (fun u9 t9 H1 locs ht hvm hr_15 hB hz1 hk1 hS => ?_)
        try dsimp only at hr_15
        obtain ⟨g_16, hP1, hK1, hD1⟩ := hB
        rw [ht] at hP1
        obtain ⟨hP, hD⟩ := va_join (wr := [(ph, .inr (3, [.ref p1, .ref p2, .ref p3, .ref p4, .int pn, .int fx, .int fy])), (p1, .inl (cI, 48, .inl qa)), (p2, .inl (cI, 48, .inl qb)), (p3, .inl (cI, 48, .inl qc)), (p4, .inl (cI, 48, .inl qd))]) (w1 := [(h0, .inr (4, [.ref w1, .ref w2])), (w1, .inl (cI, 256, .inl g_14)), (w2, .inl (cI, 64, .inl g_16))]) hP hD [0, 7, 1] [2, 3, 4, 5, 6] rfl rfl (by decide) (by decide) hk1 hFc hP1 hD1
        clear hz1 hk1 hFc hKc hDc hPc
        generalize H1 = H at hP hS ⊢
        have hP : va_P D vwCl [(ph, .inr (3, [.ref p1, .ref p2, .ref p3, .ref p4, .int pn, .int fx, .int fy])), (p1, .inl (cI, 48, .inl qa)), (p2, .inl (cI, 48, .inl qb)), (p3, .inl (cI, 48, .inl qc)), (p4, .inl (cI, 48, .inl qd)), (h0, .inr (4, [.ref w1, .ref w2])), (w1, .inl (cI, 256, .inl g_14)), (w2, .inl (cI, 64, .inl g_16))] H := hP
        have hD : va_D A [(ph, .inr (3, [.ref p1, .ref p2, .ref p3, .ref p4, .int pn, .int fx, .int fy])), (p1, .inl (cI, 48, .inl qa)), (p2, .inl (cI, 48, .inl qb)), (p3, .inl (cI, 48, .inl qc)), (p4, .inl (cI, 48, .inl qd)), (h0, .inr (4, [.ref w1, .ref w2])), (w1, .inl (cI, 256, .inl g_14)), (w2, .inl (cI, 64, .inl g_16))] := hD
        obtain ⟨y_17, ey_17⟩ : ∃ y : Int32, y = x8 + 1 := ⟨_, rfl⟩
        refine lv_iinc (v := y_17) (lv' := [(8, .int y_17), (9, .int y_11), (7, .int 4), (6, .int 4), (0, .ref h0), (1, .ref ph), (2, .int y), (3, .int wd), (4, .int 3), (5, .int ru)]) hx hb dX4_read_73 hl (k := 1) rfl (by rw [ey_17]; rfl) (by decide) rfl (fun ls hl => ?_)
        refine lv_goto (tgt := 26) hx hb dX4_read_76 (by decide) ?_
        exact ih_5 (j + 1) y_17 g_14 g_16 _ _ _ (by omega) (by omega) (by rw [ey_17, ex_j]; exact nI_1 j) (hP.sub (ws' := [(h0, .inr (4, [.ref w1, .ref w2])), (w1, .inl (cI, 256, .inl g_14)), (ph, .inr (3, [.ref p1, .ref p2, .ref p3, .ref p4, .int pn, .int fx, .int fy])), (p1, .inl (cI, 48, .inl qa)), (p2, .inl (cI, 48, .inl qb)), (p3, .inl (cI, 48, .inl qc)), (p4, .inl (cI, 48, .inl qd)), (w2, .inl (cI, 64, .inl g_16))]) [5, 6, 0, 1, 2, 3, 4, 7] rfl) (hD.sub (ws' := [(h0, .inr (4, [.ref w1, .ref w2])), (w1, .inl (cI, 256, .inl g_14)), (ph, .inr (3, [.ref p1, .ref p2, .ref p3, .ref p4, .int pn, .int fx, .int fy])), (p1, .inl (cI, 48, .inl qa)), (p2, .inl (cI, 48, .inl qb)), (p3, .inl (cI, 48, .inl qc)), (p4, .inl (cI, 48, .inl qd)), (w2, .inl (cI, 64, .inl g_16))]) [5, 6, 0, 1, 2, 3, 4, 7] (by decide) rfl) hS (lv_sub hl [0, 2, 3, 4, 5, 6, 7, 8, 9] rfl)
  exact loop_4 (4 + 1) 0 0 gw g_2 _ _ _ (by omega) (by omega) nI_0.symm hP hD hS (lv_sub hl [0, 1, 2, 3, 4, 5, 6, 7, 8] rfl)

set_option maxHeartbeats 4000000 in
set_option maxRecDepth 100000 in
theorem k_X4_read_5 (l : Launch) (D : va_G) (sz : Nat) (h0 ph : Nat) (w1 w2 : Nat) (p1 p2 p3 p4 : Nat) (pn fx fy : Int32) (qa : Nat → Int32) (qb : Nat → Int32) (qc : Nat → Int32) (qd : Nat → Int32) (gw : Nat → Int32) (gc : Nat → Int32) (y wd ru : Int32) (cI : ClassId) (hpn : 0 ≤ pn.toInt ∧ pn.toInt ≤ 48) : Met l yX4_read (wB yX4_read cX4_read 10 none) ({ frames := 3, cells := 0, slots := 0, locals := 74 }) (cP D [(h0, .inr (4, [.ref w1, .ref w2])), (w1, .inl (cI, 256, .inl gw)), (w2, .inl (cI, 64, .inl gc)), (ph, .inr (3, [.ref p1, .ref p2, .ref p3, .ref p4, .int pn, .int fx, .int fy])), (p1, .inl (cI, 48, .inl qa)), (p2, .inl (cI, 48, .inl qb)), (p3, .inl (cI, 48, .inl qc)), (p4, .inl (cI, 48, .inl qd))] [(cI, .int)] sz [.ref h0, .ref ph, .int y, .int wd, .int 5, .int ru]) (va_Qv (fun (_ : Unit) => True) (fun (_ : Unit) (t : State) => ∃ (g2 g3 : Nat → Int32), cB D (va_A [(h0, .inr (4, [.ref w1, .ref w2])), (w1, .inl (cI, 256, .inl gw)), (w2, .inl (cI, 64, .inl gc)), (ph, .inr (3, [.ref p1, .ref p2, .ref p3, .ref p4, .int pn, .int fx, .int fy])), (p1, .inl (cI, 48, .inl qa)), (p2, .inl (cI, 48, .inl qb)), (p3, .inl (cI, 48, .inl qc)), (p4, .inl (cI, 48, .inl qd))] sz) [(h0, .inr (4, [.ref w1, .ref w2])), (w1, .inl (cI, 256, .inl g2)), (w2, .inl (cI, 64, .inl g3)), (ph, .inr (3, [.ref p1, .ref p2, .ref p3, .ref p4, .int pn, .int fx, .int fy])), (p1, .inl (cI, 48, .inl qa)), (p2, .inl (cI, 48, .inl qb)), (p3, .inl (cI, 48, .inl qc)), (p4, .inl (cI, 48, .inl qd))] [(cI, .int)] t) (va_A [(h0, .inr (4, [.ref w1, .ref w2])), (w1, .inl (cI, 256, .inl gw)), (w2, .inl (cI, 64, .inl gc)), (ph, .inr (3, [.ref p1, .ref p2, .ref p3, .ref p4, .int pn, .int fx, .int fy])), (p1, .inl (cI, 48, .inl qa)), (p2, .inl (cI, 48, .inl qb)), (p3, .inl (cI, 48, .inl qc)), (p4, .inl (cI, 48, .inl qd))] sz)) 0 0 (va_A [(h0, .inr (4, [.ref w1, .ref w2])), (w1, .inl (cI, 256, .inl gw)), (w2, .inl (cI, 64, .inl gc)), (ph, .inr (3, [.ref p1, .ref p2, .ref p3, .ref p4, .int pn, .int fx, .int fy])), (p1, .inl (cI, 48, .inl qa)), (p2, .inl (cI, 48, .inl qb)), (p3, .inl (cI, 48, .inl qc)), (p4, .inl (cI, 48, .inl qd))] sz) := by
  refine Met.ofW (cc := cX4_read) (maxL := 10) (ret := none) (by decide) rfl ?_
  intro p e s m args below meth c s₁ B hml hv
  obtain ⟨rfl, hsz, hP, hK, hD0, hN⟩ := hv
  have hx := B.exec
  have hb := B.bytes
  have hr := B.returns
  have hts0 := atoms_spec (ws := (wB yX4_read cX4_read 10 none)) B.pre
  have hts : ∀ w ∈ bigW, w.before _ s = true := fun w h => hts0 w (List.mem_cons_of_mem _ h)
  have hown : s.vm.findClass RX4 = some m.cls := findClass_of_methodNamed B.named
  have hlocks := B.notSynchronized
  subst hsz
  have hD := hD0.self (sz := s.heap.size)
  generalize hAe : va_A [(h0, .inr (4, [.ref w1, .ref w2])), (w1, .inl (cI, 256, .inl gw)), (w2, .inl (cI, 64, .inl gc)), (ph, .inr (3, [.ref p1, .ref p2, .ref p3, .ref p4, .int pn, .int fx, .int fy])), (p1, .inl (cI, 48, .inl qa)), (p2, .inl (cI, 48, .inl qb)), (p3, .inl (cI, 48, .inl qc)), (p4, .inl (cI, 48, .inl qd))] s.heap.size = A at hD ⊢
  have hA : ∀ q : Nat, s.heap.size ≤ q → A q := fun q h => by rw [← hAe]; exact Or.inr h
  have hS : va_S A s.heap s.heap [] := va_S.rf
  have hP : va_P D vwCl [(h0, .inr (4, [.ref w1, .ref w2])), (w1, .inl (cI, 256, .inl gw)), (w2, .inl (cI, 64, .inl gc)), (ph, .inr (3, [.ref p1, .ref p2, .ref p3, .ref p4, .int pn, .int fx, .int fy])), (p1, .inl (cI, 48, .inl qa)), (p2, .inl (cI, 48, .inl qb)), (p3, .inl (cI, 48, .inl qc)), (p4, .inl (cI, 48, .inl qd))] s.heap := hP
  have hl := lv_entry ([.ref h0, .ref ph, .int y, .int wd, .int 5, .int ru]) (n := 10) (Nat.le_of_ble_eq_true rfl)
  rw [lg_entry_eq]
  generalize (lg_sl ([.ref h0, .ref ph, .int y, .int wd, .int 5, .int ru]) ++ List.replicate (10 - (lg_sl ([.ref h0, .ref ph, .int y, .int wd, .int 5, .int ru])).length) Slot.unset).toArray = ls at hl ⊢
  have hl : lv_has ls 10 [(0, .ref h0), (1, .ref ph), (2, .int y), (3, .int wd), (4, .int 5), (5, .int ru)] := hl
  clear hts0 hD0 hAe
  refine my_abs (fun R Q hR hQ => ?_)
  refine lv_bipush (v := 32) hx hb dX4_read_0 (by decide) ?_
  refine lv_iload hx hb dX4_read_2 (lv_at hl 4 rfl) ?_
  refine lv_ishr hx hb dX4_read_4 ?_
  refine my_fold (v := 1) (by decide) ?_
  refine lv_istore (lv' := [(6, .int 1), (0, .ref h0), (1, .ref ph), (2, .int y), (3, .int wd), (4, .int 5), (5, .int ru)]) hx hb dX4_read_5 hl (by decide) rfl (fun ls hl => ?_)
  refine lv_iconst (v := 1) hx hb dX4_read_7 (by decide) ?_
  refine lv_iload hx hb dX4_read_8 (lv_at hl 5 rfl) ?_
  refine lv_ishl hx hb dX4_read_10 ?_
  refine my_fold (v := 32) (by decide) ?_
  refine lv_iconst (v := 2) hx hb dX4_read_11 (by decide) ?_
  refine lv_idiv hx hb dX4_read_12 (by decide) ?_
  refine my_fold (v := 16) (by decide) ?_
  refine lv_istore (lv' := [(7, .int 16), (6, .int 1), (0, .ref h0), (1, .ref ph), (2, .int y), (3, .int wd), (4, .int 5), (5, .int ru)]) hx hb dX4_read_13 hl (by decide) rfl (fun ls hl => ?_)
  refine lv_aload_n hx hb dX4_read_15 rfl (lv_at hl 2 rfl) ?_
  refine va_get (D := D) (ci := 4) (v := .ref w2) (C := RX4) (T := TX4) (N := 2) hx hb hts hi_X4 hown hK hP 0 rfl rfl 1 (by decide) (hts _ bw_117) (fun _ h9 => h9) rfl dX4_read_16 ?_
  refine lv_iconst (v := 0) hx hb dX4_read_19 (by decide) ?_
  have hPc := hP.sub (ws' := [(w2, .inl (cI, 64, .inl gc))]) [2] rfl
  have hDc := hD.sub (ws' := [(w2, .inl (cI, 64, .inl gc))]) [2] (by decide) rfl
  have hKc := hK.sub (tys' := [(cI, .int)]) [0] rfl
  have hFc := va_free (wc := [(w2, .inl (cI, 64, .inl gc))]) hD hS hA [2] rfl
  refine va_callv (va_runS (As := [.ref w2, .int 0]) (rest := []) ⟨hx, hb, hml, hown, hts⟩ (k_J7_fill_53178_64 l D s.heap.size w2 gc 0 cI) (va_cwS 2 hts (gS bw_121 bw_95 bw_96 bw_97) rfl rfl rfl (by decide +kernel) ⟨(by rw [hR]; exact Nat.le_of_ble_eq_true rfl), (by rw [hR]; exact Nat.le_of_ble_eq_true rfl)⟩) ⟨cP_blind, cP_at hPc hKc hDc hN⟩ rfl rfl hl.1 rfl (lv_room (Nat.le_of_ble_eq_true rfl)) dX4_read_20 ⟨(by rw [hR]; exact Nat.le_of_ble_eq_true rfl), (by rw [hR]; exact Nat.le_of_ble_eq_true rfl)⟩) hS (fun q _ h => hFc q h) hFc (fun u9 t9 H1 locs ht hvm hr_1 hB hz1 hk1 hS => ?_)
  try dsimp only at hr_1
  obtain ⟨g_2, b_3, hP1, hK1, hD1⟩ := hB
  rw [ht] at hP1
  obtain ⟨hP, hD⟩ := va_join (wr := [(h0, .inr (4, [.ref w1, .ref w2])), (w1, .inl (cI, 256, .inl gw)), (ph, .inr (3, [.ref p1, .ref p2, .ref p3, .ref p4, .int pn, .int fx, .int fy])), (p1, .inl (cI, 48, .inl qa)), (p2, .inl (cI, 48, .inl qb)), (p3, .inl (cI, 48, .inl qc)), (p4, .inl (cI, 48, .inl qd))]) (w1 := [(w2, .inl (cI, 64, .inl g_2))]) hP hD [2] [0, 1, 3, 4, 5, 6, 7] rfl rfl (by decide) (by decide) hk1 hFc hP1 hD1
  clear hz1 hk1 hFc hKc hDc hPc
  generalize H1 = H at hP hS ⊢
  have hP : va_P D vwCl [(h0, .inr (4, [.ref w1, .ref w2])), (w1, .inl (cI, 256, .inl gw)), (ph, .inr (3, [.ref p1, .ref p2, .ref p3, .ref p4, .int pn, .int fx, .int fy])), (p1, .inl (cI, 48, .inl qa)), (p2, .inl (cI, 48, .inl qb)), (p3, .inl (cI, 48, .inl qc)), (p4, .inl (cI, 48, .inl qd)), (w2, .inl (cI, 64, .inl g_2))] H := hP
  have hD : va_D A [(h0, .inr (4, [.ref w1, .ref w2])), (w1, .inl (cI, 256, .inl gw)), (ph, .inr (3, [.ref p1, .ref p2, .ref p3, .ref p4, .int pn, .int fx, .int fy])), (p1, .inl (cI, 48, .inl qa)), (p2, .inl (cI, 48, .inl qb)), (p3, .inl (cI, 48, .inl qc)), (p4, .inl (cI, 48, .inl qd)), (w2, .inl (cI, 64, .inl g_2))] := hD
  refine lv_iconst (v := 0) hx hb dX4_read_23 (by decide) ?_
  refine lv_istore (lv' := [(8, .int 0), (7, .int 16), (6, .int 1), (0, .ref h0), (1, .ref ph), (2, .int y), (3, .int wd), (4, .int 5), (5, .int ru)]) hx hb dX4_read_24 hl (by decide) rfl (fun ls hl => ?_)
  have loop_4 : ∀ (n : Nat) (j : Nat) (x8 : Int32) (ga : Nat → Int32) (gb : Nat → Int32) (H : Heap) (locs : List Loc) (ls : Array Slot), (j ≤ 4) → (4 + 1 ≤ j + n) → (x8 = nI j) → va_P D vwCl [(h0, .inr (4, [.ref w1, .ref w2])), (w1, .inl (cI, 256, .inl ga)), (ph, .inr (3, [.ref p1, .ref p2, .ref p3, .ref p4, .int pn, .int fx, .int fy])), (p1, .inl (cI, 48, .inl qa)), (p2, .inl (cI, 48, .inl qb)), (p3, .inl (cI, 48, .inl qc)), (p4, .inl (cI, 48, .inl qd)), (w2, .inl (cI, 64, .inl gb))] H → va_D A [(h0, .inr (4, [.ref w1, .ref w2])), (w1, .inl (cI, 256, .inl ga)), (ph, .inr (3, [.ref p1, .ref p2, .ref p3, .ref p4, .int pn, .int fx, .int fy])), (p1, .inl (cI, 48, .inl qa)), (p2, .inl (cI, 48, .inl qb)), (p3, .inl (cI, 48, .inl qc)), (p4, .inl (cI, 48, .inl qd)), (w2, .inl (cI, 64, .inl gb))] → va_S A s.heap H locs → lv_has ls 10 [(8, .int x8), (7, .int 16), (6, .int 1), (0, .ref h0), (1, .ref ph), (2, .int y), (3, .int wd), (4, .int 5), (5, .int ru)] → W p l e R s m ([.ref h0, .ref ph, .int y, .int wd, .int 5, .int ru] : List Value).toArray below meth c H locs 0 0 Q (F0 m 26 ls []) := by
    intro n
    induction n with
    | zero =>
      intro j x8 ga gb H locs ls hi_j hm_j ex_j hP hD hS hl
      exact absurd (show False by omega) not_false
    | succ n ih_5 =>
      intro j x8 ga gb H locs ls hi_j hm_j ex_j hP hD hS hl
      have hx_j : x8.toInt = (j : Int) := by rw [ex_j]; exact nI_toInt (by omega)
      have hc_j : x8.toNatClampNeg = j := by rw [ex_j]; exact nI_clamp (by omega)
      refine lv_iload hx hb dX4_read_26 (lv_at hl 0 rfl) ?_
      refine lv_iload hx hb dX4_read_28 (lv_at hl 2 rfl) ?_
      refine lv_icmp_ge (tgt := 79) hx hb dX4_read_30 (by decide) (fun c_6 => ?_) (fun c_6 => ?_)
      · skip
        have f_7 : 1 ≤ (j : Int) := f_le (by decide) hx_j c_6
        have hP9 := hP.sub (ws' := [(h0, .inr (4, [.ref w1, .ref w2])), (w1, .inl (cI, 256, .inl ga)), (w2, .inl (cI, 64, .inl gb)), (ph, .inr (3, [.ref p1, .ref p2, .ref p3, .ref p4, .int pn, .int fx, .int fy])), (p1, .inl (cI, 48, .inl qa)), (p2, .inl (cI, 48, .inl qb)), (p3, .inl (cI, 48, .inl qc)), (p4, .inl (cI, 48, .inl qd))]) [0, 1, 7, 2, 3, 4, 5, 6] rfl
        have hD9 := hD.sub (ws' := [(h0, .inr (4, [.ref w1, .ref w2])), (w1, .inl (cI, 256, .inl ga)), (w2, .inl (cI, 64, .inl gb)), (ph, .inr (3, [.ref p1, .ref p2, .ref p3, .ref p4, .int pn, .int fx, .int fy])), (p1, .inl (cI, 48, .inl qa)), (p2, .inl (cI, 48, .inl qb)), (p3, .inl (cI, 48, .inl qc)), (p4, .inl (cI, 48, .inl qd))]) [0, 1, 7, 2, 3, 4, 5, 6] (by decide) rfl
        have hK9 := hK.sub (tys' := [(cI, .int)]) [0] rfl
        refine hQ _ _ _ _ _ ?_
        exact W.vret hx hb hr (fun t ht hW => ⟨⟨(), rfl, trivial, ⟨ga, gb, by rw [ht]; exact hP9, va_K.moved hW.alike hK9, hD9⟩⟩, hS.F ht⟩) hS.2.2 dX4_read_79
      · skip
        have f_7 : ¬ (1 ≤ (j : Int)) := fn_le (by decide) hx_j c_6
        refine lv_iload_n hx hb dX4_read_33 rfl (lv_at hl 5 rfl) ?_
        refine lv_bipush (v := 32) hx hb dX4_read_34 (by decide) ?_
        refine lv_imul hx hb dX4_read_36 ?_
        refine lv_topi (fun y_8 ey_8 => ?_)
        refine lv_iload hx hb dX4_read_37 (lv_at hl 0 rfl) ?_
        refine lv_iload hx hb dX4_read_39 (lv_at hl 7 rfl) ?_
        refine lv_ishl hx hb dX4_read_41 ?_
        refine lv_topi (fun y_9 ey_9 => ?_)
        refine lv_iadd hx hb dX4_read_42 ?_
        refine lv_topi (fun y_10 ey_10 => ?_)
        refine lv_iload hx hb dX4_read_43 (lv_at hl 1 rfl) ?_
        refine lv_iadd hx hb dX4_read_45 ?_
        refine lv_topi (fun y_11 ey_11 => ?_)
        refine lv_istore (lv' := [(9, .int y_11), (8, .int x8), (7, .int 16), (6, .int 1), (0, .ref h0), (1, .ref ph), (2, .int y), (3, .int wd), (4, .int 5), (5, .int ru)]) hx hb dX4_read_46 hl (by decide) rfl (fun ls hl => ?_)
        refine lv_aload_n hx hb dX4_read_48 rfl (lv_at hl 5 rfl) ?_
        refine lv_iload hx hb dX4_read_49 (lv_at hl 0 rfl) ?_
        refine lv_iload hx hb dX4_read_51 (lv_at hl 8 rfl) ?_
        refine lv_aload_n hx hb dX4_read_53 rfl (lv_at hl 4 rfl) ?_
        refine va_get (D := D) (ci := 4) (v := .ref w1) (C := RX4) (T := TX4) (N := 2) hx hb hts hi_X4 hown hK hP 0 rfl rfl 0 (by decide) (hts _ bw_116) (fun _ h9 => h9) rfl dX4_read_54 ?_
        refine lv_iload_n hx hb dX4_read_57 rfl (lv_at hl 7 rfl) ?_
        refine lv_iload hx hb dX4_read_58 (lv_at hl 3 rfl) ?_
        refine lv_imul hx hb dX4_read_60 ?_
        refine lv_topi (fun y_12 ey_12 => ?_)
        have hPc := hP.sub (ws' := [(ph, .inr (3, [.ref p1, .ref p2, .ref p3, .ref p4, .int pn, .int fx, .int fy])), (p1, .inl (cI, 48, .inl qa)), (p2, .inl (cI, 48, .inl qb)), (p3, .inl (cI, 48, .inl qc)), (p4, .inl (cI, 48, .inl qd)), (w1, .inl (cI, 256, .inl ga))]) [2, 3, 4, 5, 6, 1] rfl
        have hDc := hD.sub (ws' := [(ph, .inr (3, [.ref p1, .ref p2, .ref p3, .ref p4, .int pn, .int fx, .int fy])), (p1, .inl (cI, 48, .inl qa)), (p2, .inl (cI, 48, .inl qb)), (p3, .inl (cI, 48, .inl qc)), (p4, .inl (cI, 48, .inl qd)), (w1, .inl (cI, 256, .inl ga))]) [2, 3, 4, 5, 6, 1] (by decide) rfl
        have hKc := hK.sub (tys' := [(cI, .int)]) [0] rfl
        have hFc := va_free (wc := [(ph, .inr (3, [.ref p1, .ref p2, .ref p3, .ref p4, .int pn, .int fx, .int fy])), (p1, .inl (cI, 48, .inl qa)), (p2, .inl (cI, 48, .inl qb)), (p3, .inl (cI, 48, .inl qc)), (p4, .inl (cI, 48, .inl qd)), (w1, .inl (cI, 256, .inl ga))]) hD hS hA [2, 3, 4, 5, 6, 1] rfl
        refine va_callv (va_runV (As := [.int y_11, .int 5, .ref w1, .int y_12]) (rest := []) ⟨hx, hb, hml, hown, hts⟩ (k_X3_windRow_5 l D H.size ph w1 p1 p2 p3 p4 pn fx fy qa qb qc qd ga y_11 y_12 cI (by first | assumption | omega | decide)) (cwV 4 hts (gV bw_122 bw_91 bw_92 bw_67 bw_90) rfl rfl rfl (by decide +kernel) ⟨(by rw [hR]; exact Nat.le_of_ble_eq_true rfl), (by rw [hR]; exact Nat.le_of_ble_eq_true rfl)⟩) ⟨cP_blind, va_recv hKc hPc (ci := 3) (q0 := 0) rfl rfl, cP_at hPc hKc hDc hN⟩ rfl rfl hl.1 rfl (lv_room (Nat.le_of_ble_eq_true rfl)) dX4_read_61 ⟨(by rw [hR]; exact Nat.le_of_ble_eq_true rfl), (by rw [hR]; exact Nat.le_of_ble_eq_true rfl)⟩) hS (fun q _ h => hFc q h) hFc (fun u9 t9 H1 locs ht hvm hr_13 hB hz1 hk1 hS => ?_)
        try dsimp only at hr_13
        obtain ⟨g_14, hP1, hK1, hD1⟩ := hB
        rw [ht] at hP1
        obtain ⟨hP, hD⟩ := va_join (wr := [(h0, .inr (4, [.ref w1, .ref w2])), (w2, .inl (cI, 64, .inl gb))]) (w1 := [(ph, .inr (3, [.ref p1, .ref p2, .ref p3, .ref p4, .int pn, .int fx, .int fy])), (p1, .inl (cI, 48, .inl qa)), (p2, .inl (cI, 48, .inl qb)), (p3, .inl (cI, 48, .inl qc)), (p4, .inl (cI, 48, .inl qd)), (w1, .inl (cI, 256, .inl g_14))]) hP hD [2, 3, 4, 5, 6, 1] [0, 7] rfl rfl (by decide) (by decide) hk1 hFc hP1 hD1
        clear hz1 hk1 hFc hKc hDc hPc
        generalize H1 = H at hP hS ⊢
        have hP : va_P D vwCl [(h0, .inr (4, [.ref w1, .ref w2])), (w2, .inl (cI, 64, .inl gb)), (ph, .inr (3, [.ref p1, .ref p2, .ref p3, .ref p4, .int pn, .int fx, .int fy])), (p1, .inl (cI, 48, .inl qa)), (p2, .inl (cI, 48, .inl qb)), (p3, .inl (cI, 48, .inl qc)), (p4, .inl (cI, 48, .inl qd)), (w1, .inl (cI, 256, .inl g_14))] H := hP
        have hD : va_D A [(h0, .inr (4, [.ref w1, .ref w2])), (w2, .inl (cI, 64, .inl gb)), (ph, .inr (3, [.ref p1, .ref p2, .ref p3, .ref p4, .int pn, .int fx, .int fy])), (p1, .inl (cI, 48, .inl qa)), (p2, .inl (cI, 48, .inl qb)), (p3, .inl (cI, 48, .inl qc)), (p4, .inl (cI, 48, .inl qd)), (w1, .inl (cI, 256, .inl g_14))] := hD
        refine lv_aload_n hx hb dX4_read_64 rfl (lv_at hl 4 rfl) ?_
        refine lv_iload_n hx hb dX4_read_65 rfl (lv_at hl 7 rfl) ?_
        refine lv_iload hx hb dX4_read_66 (lv_at hl 3 rfl) ?_
        refine lv_iload hx hb dX4_read_68 (lv_at hl 9 rfl) ?_
        have hPc := hP.sub (ws' := [(h0, .inr (4, [.ref w1, .ref w2])), (w1, .inl (cI, 256, .inl g_14)), (w2, .inl (cI, 64, .inl gb))]) [0, 7, 1] rfl
        have hDc := hD.sub (ws' := [(h0, .inr (4, [.ref w1, .ref w2])), (w1, .inl (cI, 256, .inl g_14)), (w2, .inl (cI, 64, .inl gb))]) [0, 7, 1] (by decide) rfl
        have hKc := hK.sub (tys' := [(cI, .int)]) [0] rfl
        have hFc := va_free (wc := [(h0, .inr (4, [.ref w1, .ref w2])), (w1, .inl (cI, 256, .inl g_14)), (w2, .inl (cI, 64, .inl gb))]) hD hS hA [0, 7, 1] rfl
        refine va_callv (va_runV (As := [.int wd, .int 1, .int ru]) (rest := []) ⟨hx, hb, hml, hown, hts⟩ (k_X4_addRow_1 l D H.size h0 w1 w2 g_14 gb wd ru cI) (cwV 3 hts (gV bw_123 bw_128 bw_129 bw_111 bw_127) rfl rfl rfl (by decide +kernel) ⟨(by rw [hR]; exact Nat.le_of_ble_eq_true rfl), (by rw [hR]; exact Nat.le_of_ble_eq_true rfl)⟩) ⟨cP_blind, va_recv hKc hPc (ci := 4) (q0 := 0) rfl rfl, cP_at hPc hKc hDc hN⟩ rfl rfl hl.1 rfl (lv_room (Nat.le_of_ble_eq_true rfl)) dX4_read_70 ⟨(by rw [hR]; exact Nat.le_of_ble_eq_true rfl), (by rw [hR]; exact Nat.le_of_ble_eq_true rfl)⟩) hS (fun q _ h => hFc q h) hFc (fun u9 t9 H1 locs ht hvm hr_15 hB hz1 hk1 hS => ?_)
        try dsimp only at hr_15
        obtain ⟨g_16, hP1, hK1, hD1⟩ := hB
        rw [ht] at hP1
        obtain ⟨hP, hD⟩ := va_join (wr := [(ph, .inr (3, [.ref p1, .ref p2, .ref p3, .ref p4, .int pn, .int fx, .int fy])), (p1, .inl (cI, 48, .inl qa)), (p2, .inl (cI, 48, .inl qb)), (p3, .inl (cI, 48, .inl qc)), (p4, .inl (cI, 48, .inl qd))]) (w1 := [(h0, .inr (4, [.ref w1, .ref w2])), (w1, .inl (cI, 256, .inl g_14)), (w2, .inl (cI, 64, .inl g_16))]) hP hD [0, 7, 1] [2, 3, 4, 5, 6] rfl rfl (by decide) (by decide) hk1 hFc hP1 hD1
        clear hz1 hk1 hFc hKc hDc hPc
        generalize H1 = H at hP hS ⊢
        have hP : va_P D vwCl [(ph, .inr (3, [.ref p1, .ref p2, .ref p3, .ref p4, .int pn, .int fx, .int fy])), (p1, .inl (cI, 48, .inl qa)), (p2, .inl (cI, 48, .inl qb)), (p3, .inl (cI, 48, .inl qc)), (p4, .inl (cI, 48, .inl qd)), (h0, .inr (4, [.ref w1, .ref w2])), (w1, .inl (cI, 256, .inl g_14)), (w2, .inl (cI, 64, .inl g_16))] H := hP
        have hD : va_D A [(ph, .inr (3, [.ref p1, .ref p2, .ref p3, .ref p4, .int pn, .int fx, .int fy])), (p1, .inl (cI, 48, .inl qa)), (p2, .inl (cI, 48, .inl qb)), (p3, .inl (cI, 48, .inl qc)), (p4, .inl (cI, 48, .inl qd)), (h0, .inr (4, [.ref w1, .ref w2])), (w1, .inl (cI, 256, .inl g_14)), (w2, .inl (cI, 64, .inl g_16))] := hD
        obtain ⟨y_17, ey_17⟩ : ∃ y : Int32, y = x8 + 1 := ⟨_, rfl⟩
        refine lv_iinc (v := y_17) (lv' := [(8, .int y_17), (9, .int y_11), (7, .int 16), (6, .int 1), (0, .ref h0), (1, .ref ph), (2, .int y), (3, .int wd), (4, .int 5), (5, .int ru)]) hx hb dX4_read_73 hl (k := 1) rfl (by rw [ey_17]; rfl) (by decide) rfl (fun ls hl => ?_)
        refine lv_goto (tgt := 26) hx hb dX4_read_76 (by decide) ?_
        exact ih_5 (j + 1) y_17 g_14 g_16 _ _ _ (by omega) (by omega) (by rw [ey_17, ex_j]; exact nI_1 j) (hP.sub (ws' := [(h0, .inr (4, [.ref w1, .ref w2])), (w1, .inl (cI, 256, .inl g_14)), (ph, .inr (3, [.ref p1, .ref p2, .ref p3, .ref p4, .int pn, .int fx, .int fy])), (p1, .inl (cI, 48, .inl qa)), (p2, .inl (cI, 48, .inl qb)), (p3, .inl (cI, 48, .inl qc)), (p4, .inl (cI, 48, .inl qd)), (w2, .inl (cI, 64, .inl g_16))]) [5, 6, 0, 1, 2, 3, 4, 7] rfl) (hD.sub (ws' := [(h0, .inr (4, [.ref w1, .ref w2])), (w1, .inl (cI, 256, .inl g_14)), (ph, .inr (3, [.ref p1, .ref p2, .ref p3, .ref p4, .int pn, .int fx, .int fy])), (p1, .inl (cI, 48, .inl qa)), (p2, .inl (cI, 48, .inl qb)), (p3, .inl (cI, 48, .inl qc)), (p4, .inl (cI, 48, .inl qd)), (w2, .inl (cI, 64, .inl g_16))]) [5, 6, 0, 1, 2, 3, 4, 7] (by decide) rfl) hS (lv_sub hl [0, 2, 3, 4, 5, 6, 7, 8, 9] rfl)
  exact loop_4 (4 + 1) 0 0 gw g_2 _ _ _ (by omega) (by omega) nI_0.symm hP hD hS (lv_sub hl [0, 1, 2, 3, 4, 5, 6, 7, 8] rfl)
