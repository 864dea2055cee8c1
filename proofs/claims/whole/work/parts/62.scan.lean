set_option maxHeartbeats 4000000 in
set_option maxRecDepth 100000 in
theorem k_X3_windRow_3e (l : Launch) (D : va_G) (sz : Nat) (h0 rw : Nat) (p1 p2 p3 p4 : Nat) (pn fx fy : Int32) (qa : Nat → Int32) (qb : Nat → Int32) (qc : Nat → Int32) (qd : Nat → Int32) (gr : Nat → Int32) (v pl : Int32) (U9 : Nat) (cI : ClassId) (hpn : 0 ≤ pn.toInt ∧ pn.toInt ≤ 48) (hq8 : ∀ j : Nat, j < pn.toNatClampNeg → c8 (qa j) ∧ c8 (qb j) ∧ c8 (qc j) ∧ c8 (qd j)) (hpl : pl = nI U9) (hU9 : U9 ≤ 256) : Met l yX3_windRow (wB yX3_windRow cX3_windRow 10 none) ({ frames := 2, cells := 0, slots := 0, locals := 45 }) (cP D [(h0, .inr (3, [.ref p1, .ref p2, .ref p3, .ref p4, .int pn, .int fx, .int fy])), (p1, .inl (cI, 48, .inl qa)), (p2, .inl (cI, 48, .inl qb)), (p3, .inl (cI, 48, .inl qc)), (p4, .inl (cI, 48, .inl qd)), (rw, .inl (cI, 256, .inl gr))] [(cI, .int)] sz [.ref h0, .int v, .int 3, .ref rw, .int pl]) (va_Qv (fun (_ : Unit) => True) (fun (_ : Unit) (t : State) => ∃ (g2 : Nat → Int32), (∀ t : Nat, t < U9 → g2 t = wnN qa qb qc qd (nI (t * 8 + 4)) v pn.toNatClampNeg) ∧ cB D (va_A [(h0, .inr (3, [.ref p1, .ref p2, .ref p3, .ref p4, .int pn, .int fx, .int fy])), (p1, .inl (cI, 48, .inl qa)), (p2, .inl (cI, 48, .inl qb)), (p3, .inl (cI, 48, .inl qc)), (p4, .inl (cI, 48, .inl qd)), (rw, .inl (cI, 256, .inl gr))] sz) [(h0, .inr (3, [.ref p1, .ref p2, .ref p3, .ref p4, .int pn, .int fx, .int fy])), (p1, .inl (cI, 48, .inl qa)), (p2, .inl (cI, 48, .inl qb)), (p3, .inl (cI, 48, .inl qc)), (p4, .inl (cI, 48, .inl qd)), (rw, .inl (cI, 256, .inl g2))] [(cI, .int)] t) (va_A [(h0, .inr (3, [.ref p1, .ref p2, .ref p3, .ref p4, .int pn, .int fx, .int fy])), (p1, .inl (cI, 48, .inl qa)), (p2, .inl (cI, 48, .inl qb)), (p3, .inl (cI, 48, .inl qc)), (p4, .inl (cI, 48, .inl qd)), (rw, .inl (cI, 256, .inl gr))] sz)) 0 0 (va_A [(h0, .inr (3, [.ref p1, .ref p2, .ref p3, .ref p4, .int pn, .int fx, .int fy])), (p1, .inl (cI, 48, .inl qa)), (p2, .inl (cI, 48, .inl qb)), (p3, .inl (cI, 48, .inl qc)), (p4, .inl (cI, 48, .inl qd)), (rw, .inl (cI, 256, .inl gr))] sz) := by
  refine Met.ofW (cc := cX3_windRow) (maxL := 10) (ret := none) (by decide) rfl ?_
  intro p e s m args below meth c s₁ B hml hv
  obtain ⟨rfl, hsz, hP, hK, hD0, hN⟩ := hv
  have hx := B.exec
  have hb := B.bytes
  have hr := B.returns
  have hts0 := atoms_spec (ws := (wB yX3_windRow cX3_windRow 10 none)) B.pre
  have hts : ∀ w ∈ bigW, w.before _ s = true := fun w h => hts0 w (List.mem_cons_of_mem _ h)
  have hown : s.vm.findClass RX3 = some m.cls := findClass_of_methodNamed B.named
  have hlocks := B.notSynchronized
  subst hsz
  have hD := hD0.self (sz := s.heap.size)
  generalize hAe : va_A [(h0, .inr (3, [.ref p1, .ref p2, .ref p3, .ref p4, .int pn, .int fx, .int fy])), (p1, .inl (cI, 48, .inl qa)), (p2, .inl (cI, 48, .inl qb)), (p3, .inl (cI, 48, .inl qc)), (p4, .inl (cI, 48, .inl qd)), (rw, .inl (cI, 256, .inl gr))] s.heap.size = A at hD ⊢
  have hA : ∀ q : Nat, s.heap.size ≤ q → A q := fun q h => by rw [← hAe]; exact Or.inr h
  have hS : va_S A s.heap s.heap [] := va_S.rf
  have hP : va_P D vwCl [(h0, .inr (3, [.ref p1, .ref p2, .ref p3, .ref p4, .int pn, .int fx, .int fy])), (p1, .inl (cI, 48, .inl qa)), (p2, .inl (cI, 48, .inl qb)), (p3, .inl (cI, 48, .inl qc)), (p4, .inl (cI, 48, .inl qd)), (rw, .inl (cI, 256, .inl gr))] s.heap := hP
  have hl := lv_entry ([.ref h0, .int v, .int 3, .ref rw, .int pl]) (n := 10) (Nat.le_of_ble_eq_true rfl)
  rw [lg_entry_eq]
  generalize (lg_sl ([.ref h0, .int v, .int 3, .ref rw, .int pl]) ++ List.replicate (10 - (lg_sl ([.ref h0, .int v, .int 3, .ref rw, .int pl])).length) Slot.unset).toArray = ls at hl ⊢
  have hl : lv_has ls 10 [(0, .ref h0), (1, .int v), (2, .int 3), (3, .ref rw), (4, .int pl)] := hl
  clear hts0 hD0 hAe
  refine my_abs (fun R Q hR hQ => ?_)
  refine lv_iload hx hb dX3_windRow_0 (lv_at hl 4 rfl) ?_
  refine lv_aload_n hx hb dX3_windRow_2 rfl (lv_at hl 3 rfl) ?_
  refine va_alen (v := 256) hx hb hK hP 5 0 rfl rfl rfl dX3_windRow_3 ?_
  refine va_mmin hx hb (by rw [hml]; exact hl.1.symm) hown (hts _ bw_93) (hts _ bw_46) (hts _ bw_47) (hts _ bw_48) (by rw [hR]; exact Nat.le_of_ble_eq_true rfl) (by rw [hR]; exact Nat.le_of_ble_eq_true rfl) (by rw [hR]; exact Nat.le_of_ble_eq_true rfl) (by rw [hR]; exact Nat.le_of_ble_eq_true rfl) dX3_windRow_4 ?_
  refine lv_topi (fun y_1 ey_1 => ?_)
  have hus : y_1 = nI U9 := by rw [ey_1, hpl]; exact mn_nI hU9
  have hmy_1 : y_1.toInt = (U9 : Int) := by rw [hus]; exact nI_toInt (by omega)
  refine lv_istore (lv' := [(5, .int y_1), (0, .ref h0), (1, .int v), (2, .int 3), (3, .ref rw), (4, .int pl)]) hx hb dX3_windRow_7 hl (by decide) rfl (fun ls hl => ?_)
  refine lv_aload_n hx hb dX3_windRow_9 rfl (lv_at hl 4 rfl) ?_
  refine lv_iconst (v := 0) hx hb dX3_windRow_10 (by decide) ?_
  have hPc := hP.sub (ws' := [(rw, .inl (cI, 256, .inl gr))]) [5] rfl
  have hDc := hD.sub (ws' := [(rw, .inl (cI, 256, .inl gr))]) [5] (by decide) rfl
  have hKc := hK.sub (tys' := [(cI, .int)]) [0] rfl
  have hFc := va_free (wc := [(rw, .inl (cI, 256, .inl gr))]) hD hS hA [5] rfl
  refine va_callv (va_runS (As := [.ref rw, .int 0]) (rest := []) ⟨hx, hb, hml, hown, hts⟩ (k_J7_fill_53178_256 l D s.heap.size rw gr 0 cI) (va_cwS 2 hts (gS bw_94 bw_95 bw_96 bw_97) rfl rfl rfl (by decide +kernel) ⟨(by rw [hR]; exact Nat.le_of_ble_eq_true rfl), (by rw [hR]; exact Nat.le_of_ble_eq_true rfl)⟩) ⟨cP_blind, cP_at hPc hKc hDc hN⟩ rfl rfl hl.1 rfl (lv_room (Nat.le_of_ble_eq_true rfl)) dX3_windRow_11 ⟨(by rw [hR]; exact Nat.le_of_ble_eq_true rfl), (by rw [hR]; exact Nat.le_of_ble_eq_true rfl)⟩) hS (fun q _ h => hFc q h) hFc (fun u9 t9 H1 locs ht hvm hr_2 hB hz1 hk1 hS => ?_)
  try dsimp only at hr_2
  obtain ⟨g_3, b_4, hP1, hK1, hD1⟩ := hB
  rw [ht] at hP1
  obtain ⟨hP, hD⟩ := va_join (wr := [(h0, .inr (3, [.ref p1, .ref p2, .ref p3, .ref p4, .int pn, .int fx, .int fy])), (p1, .inl (cI, 48, .inl qa)), (p2, .inl (cI, 48, .inl qb)), (p3, .inl (cI, 48, .inl qc)), (p4, .inl (cI, 48, .inl qd))]) (w1 := [(rw, .inl (cI, 256, .inl g_3))]) hP hD [5] [0, 1, 2, 3, 4] rfl rfl (by decide) (by decide) hk1 hFc hP1 hD1
  clear hz1 hk1 hFc hKc hDc hPc
  generalize H1 = H at hP hS ⊢
  have hP : va_P D vwCl [(h0, .inr (3, [.ref p1, .ref p2, .ref p3, .ref p4, .int pn, .int fx, .int fy])), (p1, .inl (cI, 48, .inl qa)), (p2, .inl (cI, 48, .inl qb)), (p3, .inl (cI, 48, .inl qc)), (p4, .inl (cI, 48, .inl qd)), (rw, .inl (cI, 256, .inl g_3))] H := hP
  have hD : va_D A [(h0, .inr (3, [.ref p1, .ref p2, .ref p3, .ref p4, .int pn, .int fx, .int fy])), (p1, .inl (cI, 48, .inl qa)), (p2, .inl (cI, 48, .inl qb)), (p3, .inl (cI, 48, .inl qc)), (p4, .inl (cI, 48, .inl qd)), (rw, .inl (cI, 256, .inl g_3))] := hD
  refine lv_iconst (v := 1) hx hb dX3_windRow_14 (by decide) ?_
  refine lv_iload_n hx hb dX3_windRow_15 rfl (lv_at hl 3 rfl) ?_
  refine lv_ishl hx hb dX3_windRow_16 ?_
  refine my_fold (v := 8) (by decide) ?_
  refine lv_iconst (v := 2) hx hb dX3_windRow_17 (by decide) ?_
  refine lv_idiv hx hb dX3_windRow_18 (by decide) ?_
  refine my_fold (v := 4) (by decide) ?_
  refine lv_istore (lv' := [(6, .int 4), (5, .int y_1), (0, .ref h0), (1, .int v), (2, .int 3), (3, .ref rw), (4, .int pl)]) hx hb dX3_windRow_19 hl (by decide) rfl (fun ls hl => ?_)
  refine lv_iconst (v := 0) hx hb dX3_windRow_21 (by decide) ?_
  refine lv_istore (lv' := [(7, .int 0), (6, .int 4), (5, .int y_1), (0, .ref h0), (1, .int v), (2, .int 3), (3, .ref rw), (4, .int pl)]) hx hb dX3_windRow_22 hl (by decide) rfl (fun ls hl => ?_)
  have loop_5 : ∀ (n : Nat) (i : Nat) (x7 : Int32) (gg : Nat → Int32) (H : Heap) (locs : List Loc) (ls : Array Slot), (i ≤ 48) → (48 + 1 ≤ i + n) → (x7 = nI i) → ((i : Int) ≤ pn.toInt) → (∀ t : Nat, t < U9 → psR gg t = wnN qa qb qc qd (nI (t * 8 + 4)) v i) → va_P D vwCl [(h0, .inr (3, [.ref p1, .ref p2, .ref p3, .ref p4, .int pn, .int fx, .int fy])), (p1, .inl (cI, 48, .inl qa)), (p2, .inl (cI, 48, .inl qb)), (p3, .inl (cI, 48, .inl qc)), (p4, .inl (cI, 48, .inl qd)), (rw, .inl (cI, 256, .inl gg))] H → va_D A [(h0, .inr (3, [.ref p1, .ref p2, .ref p3, .ref p4, .int pn, .int fx, .int fy])), (p1, .inl (cI, 48, .inl qa)), (p2, .inl (cI, 48, .inl qb)), (p3, .inl (cI, 48, .inl qc)), (p4, .inl (cI, 48, .inl qd)), (rw, .inl (cI, 256, .inl gg))] → va_S A s.heap H locs → lv_has ls 10 [(7, .int x7), (6, .int 4), (5, .int y_1), (0, .ref h0), (1, .int v), (2, .int 3), (3, .ref rw), (4, .int pl)] → W p l e R s m ([.ref h0, .int v, .int 3, .ref rw, .int pl] : List Value).toArray below meth c H locs 0 0 Q (F0 m 24 ls []) := by
    intro n
    induction n with
    | zero =>
      intro i x7 gg H locs ls hi_i hm_i ex_i hip hps hP hD hS hl
      exact absurd (show False by omega) not_false
    | succ n ih_6 =>
      intro i x7 gg H locs ls hi_i hm_i ex_i hip hps hP hD hS hl
      have hx_i : x7.toInt = (i : Int) := by rw [ex_i]; exact nI_toInt (by omega)
      have hc_i : x7.toNatClampNeg = i := by rw [ex_i]; exact nI_clamp (by omega)
      have hpt := pn_ti hpn
      refine lv_iload hx hb dX3_windRow_24 (lv_at hl 0 rfl) ?_
      refine lv_aload_n hx hb dX3_windRow_26 rfl (lv_at hl 3 rfl) ?_
      refine va_get (D := D) (ci := 3) (v := .int pn) (C := RX3) (T := TX3) (N := 7) hx hb hts hi_X3 hown hK hP 0 rfl rfl 4 (by decide) (hts _ bw_76) (fun _ h9 => h9) rfl dX3_windRow_27 ?_
      refine lv_icmp_ge (tgt := 89) hx hb dX3_windRow_30 (by decide) (fun c_7 => ?_) (fun c_7 => ?_)
      · skip
        have f_8 : pn.toInt ≤ (i : Int) := f_le rfl hx_i c_7
        refine lv_iconst (v := 1) hx hb dX3_windRow_89 (by decide) ?_
        refine lv_istore (lv' := [(7, .int 1), (6, .int 4), (5, .int y_1), (0, .ref h0), (1, .int v), (2, .int 3), (3, .ref rw), (4, .int pl)]) hx hb dX3_windRow_90 hl (by decide) rfl (fun ls hl => ?_)
        have loop_9 : ∀ (n : Nat) (k9 : Nat) (x7 : Int32) (gh : Nat → Int32) (H : Heap) (locs : List Loc) (ls : Array Slot), (k9 ≤ 256) → (256 + 1 ≤ k9 + n) → (x7 = nI k9) → (1 ≤ k9) → (∀ t : Nat, (t < k9 → gh t = psR gg t) ∧ (k9 ≤ t → gh t = gg t)) → va_P D vwCl [(h0, .inr (3, [.ref p1, .ref p2, .ref p3, .ref p4, .int pn, .int fx, .int fy])), (p1, .inl (cI, 48, .inl qa)), (p2, .inl (cI, 48, .inl qb)), (p3, .inl (cI, 48, .inl qc)), (p4, .inl (cI, 48, .inl qd)), (rw, .inl (cI, 256, .inl gh))] H → va_D A [(h0, .inr (3, [.ref p1, .ref p2, .ref p3, .ref p4, .int pn, .int fx, .int fy])), (p1, .inl (cI, 48, .inl qa)), (p2, .inl (cI, 48, .inl qb)), (p3, .inl (cI, 48, .inl qc)), (p4, .inl (cI, 48, .inl qd)), (rw, .inl (cI, 256, .inl gh))] → va_S A s.heap H locs → lv_has ls 10 [(7, .int x7), (6, .int 4), (5, .int y_1), (0, .ref h0), (1, .int v), (2, .int 3), (3, .ref rw), (4, .int pl)] → W p l e R s m ([.ref h0, .int v, .int 3, .ref rw, .int pl] : List Value).toArray below meth c H locs 0 0 Q (F0 m 92 ls []) := by
          intro n
          induction n with
          | zero =>
            intro k9 x7 gh H locs ls hi_k9 hm_k9 ex_k9 hk1 hgh hP hD hS hl
            exact absurd (show False by omega) not_false
          | succ n ih_10 =>
            intro k9 x7 gh H locs ls hi_k9 hm_k9 ex_k9 hk1 hgh hP hD hS hl
            have hx_k9 : x7.toInt = (k9 : Int) := by rw [ex_k9]; exact nI_toInt (by omega)
            have hc_k9 : x7.toNatClampNeg = k9 := by rw [ex_k9]; exact nI_clamp (by omega)
            refine lv_iload hx hb dX3_windRow_92 (lv_at hl 0 rfl) ?_
            refine lv_iload hx hb dX3_windRow_94 (lv_at hl 2 rfl) ?_
            refine lv_icmp_ge (tgt := 118) hx hb dX3_windRow_96 (by decide) (fun c_11 => ?_) (fun c_11 => ?_)
            · skip
              have f_12 : (U9 : Int) ≤ (k9 : Int) := f_le hmy_1 hx_k9 c_11
              have hP9 := hP.sub (ws' := [(h0, .inr (3, [.ref p1, .ref p2, .ref p3, .ref p4, .int pn, .int fx, .int fy])), (p1, .inl (cI, 48, .inl qa)), (p2, .inl (cI, 48, .inl qb)), (p3, .inl (cI, 48, .inl qc)), (p4, .inl (cI, 48, .inl qd)), (rw, .inl (cI, 256, .inl gh))]) [0, 1, 2, 3, 4, 5] rfl
              have hD9 := hD.sub (ws' := [(h0, .inr (3, [.ref p1, .ref p2, .ref p3, .ref p4, .int pn, .int fx, .int fy])), (p1, .inl (cI, 48, .inl qa)), (p2, .inl (cI, 48, .inl qb)), (p3, .inl (cI, 48, .inl qc)), (p4, .inl (cI, 48, .inl qd)), (rw, .inl (cI, 256, .inl gh))]) [0, 1, 2, 3, 4, 5] (by decide) rfl
              have hK9 := hK.sub (tys' := [(cI, .int)]) [0] rfl
              refine hQ _ _ _ _ _ ?_
              exact W.vret hx hb hr (fun t ht hW => ⟨⟨(), rfl, trivial, ⟨gh, (fun t ht => by rw [(hgh t).1 (by omega), hps t ht, pn_cl hpn (show pn.toInt = (i : Int) by omega)]), by rw [ht]; exact hP9, va_K.moved hW.alike hK9, hD9⟩⟩, hS.F ht⟩) hS.2.2 dX3_windRow_118
            · skip
              have f_12 : ¬ ((U9 : Int) ≤ (k9 : Int)) := fn_le hmy_1 hx_k9 c_11
              refine lv_aload_n hx hb dX3_windRow_99 rfl (lv_at hl 6 rfl) ?_
              refine lv_iload hx hb dX3_windRow_100 (lv_at hl 0 rfl) ?_
              refine lv_dup2_11 hx hb dX3_windRow_102 rfl rfl ?_
              refine va_iald hx hb hK hP 5 0 rfl rfl (vp_in_iff.mpr ⟨by omega, by omega⟩) dX3_windRow_103 ?_
              refine lv_topi (fun y_13 ey_13 => ?_)
              refine lv_aload_n hx hb dX3_windRow_104 rfl (lv_at hl 6 rfl) ?_
              refine lv_iload hx hb dX3_windRow_105 (lv_at hl 0 rfl) ?_
              refine lv_iconst (v := 1) hx hb dX3_windRow_107 (by decide) ?_
              refine lv_isub hx hb dX3_windRow_108 ?_
              refine lv_topi (fun y_14 ey_14 => ?_)
              have hty_14 : y_14.toInt = (k9 : Int) - 1 := by rw [ey_14, ← hx_k9]; exact m1_ti (by omega)
              have hcly_14 : y_14.toNatClampNeg = k9 - 1 := by have := cl_ti (x := y_14) (by omega); omega
              refine va_iald hx hb hK hP 5 0 rfl rfl (vp_in_iff.mpr ⟨by rw [hty_14]; omega, by rw [hty_14]; omega⟩) dX3_windRow_109 ?_
              refine lv_topi (fun y_15 ey_15 => ?_)
              refine lv_iadd hx hb dX3_windRow_110 ?_
              refine lv_topi (fun y_16 ey_16 => ?_)
              refine va_iast hx hb hK hP hD hS 5 0 rfl rfl (vp_in_iff.mpr ⟨by omega, by omega⟩) dX3_windRow_111 (fun H locs hP hD hS => ?_)
              have hP : va_P D vwCl [(h0, .inr (3, [.ref p1, .ref p2, .ref p3, .ref p4, .int pn, .int fx, .int fy])), (p1, .inl (cI, 48, .inl qa)), (p2, .inl (cI, 48, .inl qb)), (p3, .inl (cI, 48, .inl qc)), (p4, .inl (cI, 48, .inl qd)), (rw, .inl (cI, 256, .inl (upd gh x7.toNatClampNeg y_16)))] H := hP
              have hD : va_D A [(h0, .inr (3, [.ref p1, .ref p2, .ref p3, .ref p4, .int pn, .int fx, .int fy])), (p1, .inl (cI, 48, .inl qa)), (p2, .inl (cI, 48, .inl qb)), (p3, .inl (cI, 48, .inl qc)), (p4, .inl (cI, 48, .inl qd)), (rw, .inl (cI, 256, .inl (upd gh x7.toNatClampNeg y_16)))] := hD
              generalize eg_17 : upd gh x7.toNatClampNeg y_16 = g_17 at hP hD
              have hP : va_P D vwCl [(h0, .inr (3, [.ref p1, .ref p2, .ref p3, .ref p4, .int pn, .int fx, .int fy])), (p1, .inl (cI, 48, .inl qa)), (p2, .inl (cI, 48, .inl qb)), (p3, .inl (cI, 48, .inl qc)), (p4, .inl (cI, 48, .inl qd)), (rw, .inl (cI, 256, .inl g_17))] H := hP
              have hD : va_D A [(h0, .inr (3, [.ref p1, .ref p2, .ref p3, .ref p4, .int pn, .int fx, .int fy])), (p1, .inl (cI, 48, .inl qa)), (p2, .inl (cI, 48, .inl qb)), (p3, .inl (cI, 48, .inl qc)), (p4, .inl (cI, 48, .inl qd)), (rw, .inl (cI, 256, .inl g_17))] := hD
              obtain ⟨y_18, ey_18⟩ : ∃ y : Int32, y = x7 + 1 := ⟨_, rfl⟩
              refine lv_iinc (v := y_18) (lv' := [(7, .int y_18), (6, .int 4), (5, .int y_1), (0, .ref h0), (1, .int v), (2, .int 3), (3, .ref rw), (4, .int pl)]) hx hb dX3_windRow_112 hl (k := 0) rfl (by rw [ey_18]; rfl) (by decide) rfl (fun ls hl => ?_)
              refine lv_goto (tgt := 92) hx hb dX3_windRow_115 (by decide) ?_
              exact ih_10 (k9 + 1) y_18 g_17 _ _ _ (by omega) (by omega) (by rw [ey_18, ex_k9]; exact nI_1 k9) (by omega) (by rw [← eg_17, hc_k9]; exact ps_next hk1 hgh (by rw [ey_16, ey_13, ey_15, hc_k9, hcly_14])) (hP.sub (ws' := [(h0, .inr (3, [.ref p1, .ref p2, .ref p3, .ref p4, .int pn, .int fx, .int fy])), (p1, .inl (cI, 48, .inl qa)), (p2, .inl (cI, 48, .inl qb)), (p3, .inl (cI, 48, .inl qc)), (p4, .inl (cI, 48, .inl qd)), (rw, .inl (cI, 256, .inl g_17))]) [0, 1, 2, 3, 4, 5] rfl) (hD.sub (ws' := [(h0, .inr (3, [.ref p1, .ref p2, .ref p3, .ref p4, .int pn, .int fx, .int fy])), (p1, .inl (cI, 48, .inl qa)), (p2, .inl (cI, 48, .inl qb)), (p3, .inl (cI, 48, .inl qc)), (p4, .inl (cI, 48, .inl qd)), (rw, .inl (cI, 256, .inl g_17))]) [0, 1, 2, 3, 4, 5] (by decide) rfl) hS (lv_sub hl [0, 1, 2, 3, 4, 5, 6, 7] rfl)
        exact loop_9 (256 + 1) 1 1 gg _ _ _ (by omega) (by omega) rfl (by omega) (fun t => ⟨fun h => by rw [show t = 0 by omega]; rfl, fun _ => rfl⟩) hP hD hS (lv_sub hl [0, 1, 2, 3, 4, 5, 6, 7] rfl)
      · skip
        have f_8 : ¬ (pn.toInt ≤ (i : Int)) := fn_le rfl hx_i c_7
        refine lv_aload_n hx hb dX3_windRow_33 rfl (lv_at hl 3 rfl) ?_
        refine lv_iload hx hb dX3_windRow_34 (lv_at hl 0 rfl) ?_
        refine lv_iload_n hx hb dX3_windRow_36 rfl (lv_at hl 4 rfl) ?_
        have hPc := hP.sub (ws' := [(h0, .inr (3, [.ref p1, .ref p2, .ref p3, .ref p4, .int pn, .int fx, .int fy])), (p2, .inl (cI, 48, .inl qb)), (p4, .inl (cI, 48, .inl qd))]) [0, 2, 4] rfl
        have hDc := hD.sub (ws' := [(h0, .inr (3, [.ref p1, .ref p2, .ref p3, .ref p4, .int pn, .int fx, .int fy])), (p2, .inl (cI, 48, .inl qb)), (p4, .inl (cI, 48, .inl qd))]) [0, 2, 4] (by decide) rfl
        have hKc := hK.sub (tys' := [(cI, .int)]) [0] rfl
        have hFc := va_free (wc := [(h0, .inr (3, [.ref p1, .ref p2, .ref p3, .ref p4, .int pn, .int fx, .int fy])), (p2, .inl (cI, 48, .inl qb)), (p4, .inl (cI, 48, .inl qd))]) hD hS hA [0, 2, 4] rfl
        refine va_calli (va_runV (As := [.int x7, .int v]) (rest := []) ⟨hx, hb, hml, hown, hts⟩ (k_X3_turnOf l D H.size h0 p1 p2 p3 p4 pn fx fy qb qd x7 v cI (by first | assumption | omega | decide)) (cwV 2 hts (gV bw_88 bw_102 bw_103 bw_67 bw_101) rfl rfl rfl (by decide +kernel) ⟨(by rw [hR]; exact Nat.le_of_ble_eq_true rfl), (by rw [hR]; exact Nat.le_of_ble_eq_true rfl)⟩) ⟨cP_blind, va_recv hKc hPc (ci := 3) (q0 := 0) rfl rfl, cP_at hPc hKc hDc hN⟩ rfl rfl hl.1 rfl (lv_room (Nat.le_of_ble_eq_true rfl)) dX3_windRow_37 ⟨(by rw [hR]; exact Nat.le_of_ble_eq_true rfl), (by rw [hR]; exact Nat.le_of_ble_eq_true rfl)⟩) hS (fun q _ h => hFc q h) hFc (fun r_19 u9 t9 H1 locs ht hvm hr_19 hB hz1 hk1 hS => ?_)
        try dsimp only at hr_19
        obtain ⟨hP1, hK1, hD1⟩ := hB
        rw [ht] at hP1
        obtain ⟨hP, hD⟩ := va_join (wr := [(p1, .inl (cI, 48, .inl qa)), (p3, .inl (cI, 48, .inl qc)), (rw, .inl (cI, 256, .inl gg))]) (w1 := [(h0, .inr (3, [.ref p1, .ref p2, .ref p3, .ref p4, .int pn, .int fx, .int fy])), (p2, .inl (cI, 48, .inl qb)), (p4, .inl (cI, 48, .inl qd))]) hP hD [0, 2, 4] [1, 3, 5] rfl rfl (by decide) (by decide) hk1 hFc hP1 hD1
        clear hz1 hk1 hFc hKc hDc hPc
        generalize H1 = H at hP hS ⊢
        have hP : va_P D vwCl [(p1, .inl (cI, 48, .inl qa)), (p3, .inl (cI, 48, .inl qc)), (rw, .inl (cI, 256, .inl gg)), (h0, .inr (3, [.ref p1, .ref p2, .ref p3, .ref p4, .int pn, .int fx, .int fy])), (p2, .inl (cI, 48, .inl qb)), (p4, .inl (cI, 48, .inl qd))] H := hP
        have hD : va_D A [(p1, .inl (cI, 48, .inl qa)), (p3, .inl (cI, 48, .inl qc)), (rw, .inl (cI, 256, .inl gg)), (h0, .inr (3, [.ref p1, .ref p2, .ref p3, .ref p4, .int pn, .int fx, .int fy])), (p2, .inl (cI, 48, .inl qb)), (p4, .inl (cI, 48, .inl qd))] := hD
        have tir_19 : r_19 = tnP (qb i) (qd i) v := by rw [hr_19, hc_i]
        refine lv_istore (lv' := [(8, .int r_19), (7, .int x7), (6, .int 4), (5, .int y_1), (0, .ref h0), (1, .int v), (2, .int 3), (3, .ref rw), (4, .int pl)]) hx hb dX3_windRow_40 hl (by decide) rfl (fun ls hl => ?_)
        refine lv_iload hx hb dX3_windRow_42 (lv_at hl 0 rfl) ?_
        refine lv_if_eq (tgt := 83) hx hb dX3_windRow_44 (by decide) (fun c_20 => ?_) (fun c_20 => ?_)
        · skip
          have f_21 : r_19.toInt = 0 := f_eq rfl (by decide) c_20
          obtain ⟨y_22, ey_22⟩ : ∃ y : Int32, y = x7 + 1 := ⟨_, rfl⟩
          refine lv_iinc (v := y_22) (lv' := [(7, .int y_22), (8, .int r_19), (6, .int 4), (5, .int y_1), (0, .ref h0), (1, .int v), (2, .int 3), (3, .ref rw), (4, .int pl)]) hx hb dX3_windRow_83 hl (k := 1) rfl (by rw [ey_22]; rfl) (by decide) rfl (fun ls hl => ?_)
          refine lv_goto (tgt := 24) hx hb dX3_windRow_86 (by decide) ?_
          exact ih_6 (i + 1) y_22 gg _ _ _ (by omega) (by omega) (by rw [ey_22, ex_i]; exact nI_1 i) (by omega) (fun t ht => (hps t ht).trans (wn_z (tir_19.symm.trans c_20)).symm) (hP.sub (ws' := [(h0, .inr (3, [.ref p1, .ref p2, .ref p3, .ref p4, .int pn, .int fx, .int fy])), (p1, .inl (cI, 48, .inl qa)), (p2, .inl (cI, 48, .inl qb)), (p3, .inl (cI, 48, .inl qc)), (p4, .inl (cI, 48, .inl qd)), (rw, .inl (cI, 256, .inl gg))]) [3, 0, 4, 1, 5, 2] rfl) (hD.sub (ws' := [(h0, .inr (3, [.ref p1, .ref p2, .ref p3, .ref p4, .int pn, .int fx, .int fy])), (p1, .inl (cI, 48, .inl qa)), (p2, .inl (cI, 48, .inl qb)), (p3, .inl (cI, 48, .inl qc)), (p4, .inl (cI, 48, .inl qd)), (rw, .inl (cI, 256, .inl gg))]) [3, 0, 4, 1, 5, 2] (by decide) rfl) hS (lv_sub hl [0, 2, 3, 4, 5, 6, 7, 8] rfl)
        · skip
          have f_21 : ¬ (r_19.toInt = 0) := fn_eq rfl (by decide) c_20
          refine lv_iconst (v := 0) hx hb dX3_windRow_47 (by decide) ?_
          refine lv_aload_n hx hb dX3_windRow_48 rfl (lv_at hl 4 rfl) ?_
          refine lv_iload hx hb dX3_windRow_49 (lv_at hl 1 rfl) ?_
          refine lv_iload_n hx hb dX3_windRow_51 rfl (lv_at hl 5 rfl) ?_
          have hPc := hP.sub (ws' := [(h0, .inr (3, [.ref p1, .ref p2, .ref p3, .ref p4, .int pn, .int fx, .int fy])), (p1, .inl (cI, 48, .inl qa)), (p2, .inl (cI, 48, .inl qb)), (p3, .inl (cI, 48, .inl qc)), (p4, .inl (cI, 48, .inl qd))]) [3, 0, 4, 1, 5] rfl
          have hDc := hD.sub (ws' := [(h0, .inr (3, [.ref p1, .ref p2, .ref p3, .ref p4, .int pn, .int fx, .int fy])), (p1, .inl (cI, 48, .inl qa)), (p2, .inl (cI, 48, .inl qb)), (p3, .inl (cI, 48, .inl qc)), (p4, .inl (cI, 48, .inl qd))]) [3, 0, 4, 1, 5] (by decide) rfl
          have hKc := hK.sub (tys' := [(cI, .int)]) [0] rfl
          have hFc := va_free (wc := [(h0, .inr (3, [.ref p1, .ref p2, .ref p3, .ref p4, .int pn, .int fx, .int fy])), (p1, .inl (cI, 48, .inl qa)), (p2, .inl (cI, 48, .inl qb)), (p3, .inl (cI, 48, .inl qc)), (p4, .inl (cI, 48, .inl qd))]) hD hS hA [3, 0, 4, 1, 5] rfl
          refine va_calli (va_runV (As := [.int x7, .int v]) (rest := [.int 0]) ⟨hx, hb, hml, hown, hts⟩ (k_X3_firstRightOf l D H.size h0 p1 p2 p3 p4 pn fx fy qa qb qc qd x7 v cI (by first | assumption | omega | decide)) (cwV 2 hts (gV bw_89 bw_105 bw_106 bw_67 bw_104) rfl rfl rfl (by decide +kernel) ⟨(by rw [hR]; exact Nat.le_of_ble_eq_true rfl), (by rw [hR]; exact Nat.le_of_ble_eq_true rfl)⟩) ⟨cP_blind, va_recv hKc hPc (ci := 3) (q0 := 0) rfl rfl, cP_at hPc hKc hDc hN⟩ rfl rfl hl.1 rfl (lv_room (Nat.le_of_ble_eq_true rfl)) dX3_windRow_52 ⟨(by rw [hR]; exact Nat.le_of_ble_eq_true rfl), (by rw [hR]; exact Nat.le_of_ble_eq_true rfl)⟩) hS (fun q _ h => hFc q h) hFc (fun r_23 u9 t9 H1 locs ht hvm hr_23 hB hz1 hk1 hS => ?_)
          try dsimp only at hr_23
          obtain ⟨hP1, hK1, hD1⟩ := hB
          rw [ht] at hP1
          obtain ⟨hP, hD⟩ := va_join (wr := [(rw, .inl (cI, 256, .inl gg))]) (w1 := [(h0, .inr (3, [.ref p1, .ref p2, .ref p3, .ref p4, .int pn, .int fx, .int fy])), (p1, .inl (cI, 48, .inl qa)), (p2, .inl (cI, 48, .inl qb)), (p3, .inl (cI, 48, .inl qc)), (p4, .inl (cI, 48, .inl qd))]) hP hD [3, 0, 4, 1, 5] [2] rfl rfl (by decide) (by decide) hk1 hFc hP1 hD1
          clear hz1 hk1 hFc hKc hDc hPc
          generalize H1 = H at hP hS ⊢
          have hP : va_P D vwCl [(rw, .inl (cI, 256, .inl gg)), (h0, .inr (3, [.ref p1, .ref p2, .ref p3, .ref p4, .int pn, .int fx, .int fy])), (p1, .inl (cI, 48, .inl qa)), (p2, .inl (cI, 48, .inl qb)), (p3, .inl (cI, 48, .inl qc)), (p4, .inl (cI, 48, .inl qd))] H := hP
          have hD : va_D A [(rw, .inl (cI, 256, .inl gg)), (h0, .inr (3, [.ref p1, .ref p2, .ref p3, .ref p4, .int pn, .int fx, .int fy])), (p1, .inl (cI, 48, .inl qa)), (p2, .inl (cI, 48, .inl qb)), (p3, .inl (cI, 48, .inl qc)), (p4, .inl (cI, 48, .inl qd))] := hD
          have tir_23 : r_23 = frP (qa i) (qb i) (qc i) (qd i) v := by rw [hr_23, hc_i]
          refine lv_iload hx hb dX3_windRow_55 (lv_at hl 2 rfl) ?_
          refine lv_iadd hx hb dX3_windRow_57 ?_
          refine lv_topi (fun y_24 ey_24 => ?_)
          refine lv_iconst (v := 1) hx hb dX3_windRow_58 (by decide) ?_
          refine lv_isub hx hb dX3_windRow_59 ?_
          refine lv_topi (fun y_25 ey_25 => ?_)
          refine lv_iload_n hx hb dX3_windRow_60 rfl (lv_at hl 6 rfl) ?_
          refine lv_ishr hx hb dX3_windRow_61 ?_
          refine lv_topi (fun y_26 ey_26 => ?_)
          refine va_mmax hx hb (by rw [hml]; exact hl.1.symm) hown (hts _ bw_98) (hts _ bw_99) (hts _ bw_47) (hts _ bw_100) (by rw [hR]; exact Nat.le_of_ble_eq_true rfl) (by rw [hR]; exact Nat.le_of_ble_eq_true rfl) (by rw [hR]; exact Nat.le_of_ble_eq_true rfl) (by rw [hR]; exact Nat.le_of_ble_eq_true rfl) dX3_windRow_62 ?_
          refine lv_topi (fun y_27 ey_27 => ?_)
          have hq9 := hq8 i (by omega)
          have hfl : ∀ t : Nat, t ≤ 256 → 0 ≤ y_27.toInt ∧ (y_27.toInt ≤ t ↔ r_23.toInt ≤ (nI (t * 8 + 4)).toInt) := fun t ht => first_le (n := 3) (m := 8) (hN := 4) (Or.inl ⟨rfl, rfl, rfl⟩) (by rw [tir_23]; exact fr_bd hq9.1 hq9.2.1 hq9.2.2.1 hq9.2.2.2 (fun q => c_20 (tir_19.trans q))) ht (s := 3) (half := 4) rfl rfl (by rw [ey_27, ey_26, ey_25, ey_24])
          have hf0 : 0 ≤ y_27.toInt := (hfl 0 (by omega)).1
          refine lv_istore (lv' := [(9, .int y_27), (8, .int r_19), (7, .int x7), (6, .int 4), (5, .int y_1), (0, .ref h0), (1, .int v), (2, .int 3), (3, .ref rw), (4, .int pl)]) hx hb dX3_windRow_65 hl (by decide) rfl (fun ls hl => ?_)
          refine lv_iload hx hb dX3_windRow_67 (lv_at hl 0 rfl) ?_
          refine lv_iload hx hb dX3_windRow_69 (lv_at hl 4 rfl) ?_
          refine lv_icmp_ge (tgt := 83) hx hb dX3_windRow_71 (by decide) (fun c_28 => ?_) (fun c_28 => ?_)
          · skip
            have f_29 : (U9 : Int) ≤ y_27.toInt := f_le hmy_1 rfl c_28
            obtain ⟨y_30, ey_30⟩ : ∃ y : Int32, y = x7 + 1 := ⟨_, rfl⟩
            refine lv_iinc (v := y_30) (lv' := [(7, .int y_30), (9, .int y_27), (8, .int r_19), (6, .int 4), (5, .int y_1), (0, .ref h0), (1, .int v), (2, .int 3), (3, .ref rw), (4, .int pl)]) hx hb dX3_windRow_83 hl (k := 2) rfl (by rw [ey_30]; rfl) (by decide) rfl (fun ls hl => ?_)
            refine lv_goto (tgt := 24) hx hb dX3_windRow_86 (by decide) ?_
            exact ih_6 (i + 1) y_30 gg _ _ _ (by omega) (by omega) (by rw [ey_30, ex_i]; exact nI_1 i) (by omega) (fun t ht => (hps t ht).trans (wn_r (fun q => c_20 (tir_19.trans q)) (by rw [← tir_23]; exact fun q => by have := (hfl t (by omega)).2.mpr q; omega)).symm) (hP.sub (ws' := [(h0, .inr (3, [.ref p1, .ref p2, .ref p3, .ref p4, .int pn, .int fx, .int fy])), (p1, .inl (cI, 48, .inl qa)), (p2, .inl (cI, 48, .inl qb)), (p3, .inl (cI, 48, .inl qc)), (p4, .inl (cI, 48, .inl qd)), (rw, .inl (cI, 256, .inl gg))]) [1, 2, 3, 4, 5, 0] rfl) (hD.sub (ws' := [(h0, .inr (3, [.ref p1, .ref p2, .ref p3, .ref p4, .int pn, .int fx, .int fy])), (p1, .inl (cI, 48, .inl qa)), (p2, .inl (cI, 48, .inl qb)), (p3, .inl (cI, 48, .inl qc)), (p4, .inl (cI, 48, .inl qd)), (rw, .inl (cI, 256, .inl gg))]) [1, 2, 3, 4, 5, 0] (by decide) rfl) hS (lv_sub hl [0, 3, 4, 5, 6, 7, 8, 9] rfl)
          · skip
            have f_29 : ¬ ((U9 : Int) ≤ y_27.toInt) := fn_le hmy_1 rfl c_28
            refine lv_aload_n hx hb dX3_windRow_74 rfl (lv_at hl 8 rfl) ?_
            refine lv_iload hx hb dX3_windRow_75 (lv_at hl 0 rfl) ?_
            refine lv_dup2_11 hx hb dX3_windRow_77 rfl rfl ?_
            refine va_iald hx hb hK hP 0 0 rfl rfl (vp_in_iff.mpr ⟨by omega, by omega⟩) dX3_windRow_78 ?_
            refine lv_topi (fun y_31 ey_31 => ?_)
            refine lv_iload hx hb dX3_windRow_79 (lv_at hl 1 rfl) ?_
            refine lv_iadd hx hb dX3_windRow_81 ?_
            refine lv_topi (fun y_32 ey_32 => ?_)
            refine va_iast hx hb hK hP hD hS 0 0 rfl rfl (vp_in_iff.mpr ⟨by omega, by omega⟩) dX3_windRow_82 (fun H locs hP hD hS => ?_)
            have hP : va_P D vwCl [(rw, .inl (cI, 256, .inl (upd gg y_27.toNatClampNeg y_32))), (h0, .inr (3, [.ref p1, .ref p2, .ref p3, .ref p4, .int pn, .int fx, .int fy])), (p1, .inl (cI, 48, .inl qa)), (p2, .inl (cI, 48, .inl qb)), (p3, .inl (cI, 48, .inl qc)), (p4, .inl (cI, 48, .inl qd))] H := hP
            have hD : va_D A [(rw, .inl (cI, 256, .inl (upd gg y_27.toNatClampNeg y_32))), (h0, .inr (3, [.ref p1, .ref p2, .ref p3, .ref p4, .int pn, .int fx, .int fy])), (p1, .inl (cI, 48, .inl qa)), (p2, .inl (cI, 48, .inl qb)), (p3, .inl (cI, 48, .inl qc)), (p4, .inl (cI, 48, .inl qd))] := hD
            generalize eg_33 : upd gg y_27.toNatClampNeg y_32 = g_33 at hP hD
            have hP : va_P D vwCl [(rw, .inl (cI, 256, .inl g_33)), (h0, .inr (3, [.ref p1, .ref p2, .ref p3, .ref p4, .int pn, .int fx, .int fy])), (p1, .inl (cI, 48, .inl qa)), (p2, .inl (cI, 48, .inl qb)), (p3, .inl (cI, 48, .inl qc)), (p4, .inl (cI, 48, .inl qd))] H := hP
            have hD : va_D A [(rw, .inl (cI, 256, .inl g_33)), (h0, .inr (3, [.ref p1, .ref p2, .ref p3, .ref p4, .int pn, .int fx, .int fy])), (p1, .inl (cI, 48, .inl qa)), (p2, .inl (cI, 48, .inl qb)), (p3, .inl (cI, 48, .inl qc)), (p4, .inl (cI, 48, .inl qd))] := hD
            obtain ⟨y_34, ey_34⟩ : ∃ y : Int32, y = x7 + 1 := ⟨_, rfl⟩
            refine lv_iinc (v := y_34) (lv' := [(7, .int y_34), (9, .int y_27), (8, .int r_19), (6, .int 4), (5, .int y_1), (0, .ref h0), (1, .int v), (2, .int 3), (3, .ref rw), (4, .int pl)]) hx hb dX3_windRow_83 hl (k := 2) rfl (by rw [ey_34]; rfl) (by decide) rfl (fun ls hl => ?_)
            refine lv_goto (tgt := 24) hx hb dX3_windRow_86 (by decide) ?_
            exact ih_6 (i + 1) y_34 g_33 _ _ _ (by omega) (by omega) (by rw [ey_34, ex_i]; exact nI_1 i) (by omega) (fun t ht => by rw [← eg_33, ey_32, ey_31, ps_upd]; exact wr_up (hps t ht) (fun q => c_20 (tir_19.trans q)) tir_19 tir_23 (hfl t (by omega)).2 (cl_ti hf0)) (hP.sub (ws' := [(h0, .inr (3, [.ref p1, .ref p2, .ref p3, .ref p4, .int pn, .int fx, .int fy])), (p1, .inl (cI, 48, .inl qa)), (p2, .inl (cI, 48, .inl qb)), (p3, .inl (cI, 48, .inl qc)), (p4, .inl (cI, 48, .inl qd)), (rw, .inl (cI, 256, .inl g_33))]) [1, 2, 3, 4, 5, 0] rfl) (hD.sub (ws' := [(h0, .inr (3, [.ref p1, .ref p2, .ref p3, .ref p4, .int pn, .int fx, .int fy])), (p1, .inl (cI, 48, .inl qa)), (p2, .inl (cI, 48, .inl qb)), (p3, .inl (cI, 48, .inl qc)), (p4, .inl (cI, 48, .inl qd)), (rw, .inl (cI, 256, .inl g_33))]) [1, 2, 3, 4, 5, 0] (by decide) rfl) hS (lv_sub hl [0, 3, 4, 5, 6, 7, 8, 9] rfl)
  exact loop_5 (48 + 1) 0 0 g_3 _ _ _ (by omega) (by omega) nI_0.symm (by omega) (fun t ht => ps_z t (fun j hj => b_4 j (by omega))) hP hD hS (lv_sub hl [0, 1, 2, 3, 4, 5, 6, 7] rfl)

set_option maxHeartbeats 4000000 in
set_option maxRecDepth 100000 in
theorem k_X3_windRow_5e (l : Launch) (D : va_G) (sz : Nat) (h0 rw : Nat) (p1 p2 p3 p4 : Nat) (pn fx fy : Int32) (qa : Nat → Int32) (qb : Nat → Int32) (qc : Nat → Int32) (qd : Nat → Int32) (gr : Nat → Int32) (v pl : Int32) (U9 : Nat) (cI : ClassId) (hpn : 0 ≤ pn.toInt ∧ pn.toInt ≤ 48) (hq8 : ∀ j : Nat, j < pn.toNatClampNeg → c8 (qa j) ∧ c8 (qb j) ∧ c8 (qc j) ∧ c8 (qd j)) (hpl : pl = nI U9) (hU9 : U9 ≤ 256) : Met l yX3_windRow (wB yX3_windRow cX3_windRow 10 none) ({ frames := 2, cells := 0, slots := 0, locals := 45 }) (cP D [(h0, .inr (3, [.ref p1, .ref p2, .ref p3, .ref p4, .int pn, .int fx, .int fy])), (p1, .inl (cI, 48, .inl qa)), (p2, .inl (cI, 48, .inl qb)), (p3, .inl (cI, 48, .inl qc)), (p4, .inl (cI, 48, .inl qd)), (rw, .inl (cI, 256, .inl gr))] [(cI, .int)] sz [.ref h0, .int v, .int 5, .ref rw, .int pl]) (va_Qv (fun (_ : Unit) => True) (fun (_ : Unit) (t : State) => ∃ (g2 : Nat → Int32), (∀ t : Nat, t < U9 → g2 t = wnN qa qb qc qd (nI (t * 32 + 16)) v pn.toNatClampNeg) ∧ cB D (va_A [(h0, .inr (3, [.ref p1, .ref p2, .ref p3, .ref p4, .int pn, .int fx, .int fy])), (p1, .inl (cI, 48, .inl qa)), (p2, .inl (cI, 48, .inl qb)), (p3, .inl (cI, 48, .inl qc)), (p4, .inl (cI, 48, .inl qd)), (rw, .inl (cI, 256, .inl gr))] sz) [(h0, .inr (3, [.ref p1, .ref p2, .ref p3, .ref p4, .int pn, .int fx, .int fy])), (p1, .inl (cI, 48, .inl qa)), (p2, .inl (cI, 48, .inl qb)), (p3, .inl (cI, 48, .inl qc)), (p4, .inl (cI, 48, .inl qd)), (rw, .inl (cI, 256, .inl g2))] [(cI, .int)] t) (va_A [(h0, .inr (3, [.ref p1, .ref p2, .ref p3, .ref p4, .int pn, .int fx, .int fy])), (p1, .inl (cI, 48, .inl qa)), (p2, .inl (cI, 48, .inl qb)), (p3, .inl (cI, 48, .inl qc)), (p4, .inl (cI, 48, .inl qd)), (rw, .inl (cI, 256, .inl gr))] sz)) 0 0 (va_A [(h0, .inr (3, [.ref p1, .ref p2, .ref p3, .ref p4, .int pn, .int fx, .int fy])), (p1, .inl (cI, 48, .inl qa)), (p2, .inl (cI, 48, .inl qb)), (p3, .inl (cI, 48, .inl qc)), (p4, .inl (cI, 48, .inl qd)), (rw, .inl (cI, 256, .inl gr))] sz) := by
  refine Met.ofW (cc := cX3_windRow) (maxL := 10) (ret := none) (by decide) rfl ?_
  intro p e s m args below meth c s₁ B hml hv
  obtain ⟨rfl, hsz, hP, hK, hD0, hN⟩ := hv
  have hx := B.exec
  have hb := B.bytes
  have hr := B.returns
  have hts0 := atoms_spec (ws := (wB yX3_windRow cX3_windRow 10 none)) B.pre
  have hts : ∀ w ∈ bigW, w.before _ s = true := fun w h => hts0 w (List.mem_cons_of_mem _ h)
  have hown : s.vm.findClass RX3 = some m.cls := findClass_of_methodNamed B.named
  have hlocks := B.notSynchronized
  subst hsz
  have hD := hD0.self (sz := s.heap.size)
  generalize hAe : va_A [(h0, .inr (3, [.ref p1, .ref p2, .ref p3, .ref p4, .int pn, .int fx, .int fy])), (p1, .inl (cI, 48, .inl qa)), (p2, .inl (cI, 48, .inl qb)), (p3, .inl (cI, 48, .inl qc)), (p4, .inl (cI, 48, .inl qd)), (rw, .inl (cI, 256, .inl gr))] s.heap.size = A at hD ⊢
  have hA : ∀ q : Nat, s.heap.size ≤ q → A q := fun q h => by rw [← hAe]; exact Or.inr h
  have hS : va_S A s.heap s.heap [] := va_S.rf
  have hP : va_P D vwCl [(h0, .inr (3, [.ref p1, .ref p2, .ref p3, .ref p4, .int pn, .int fx, .int fy])), (p1, .inl (cI, 48, .inl qa)), (p2, .inl (cI, 48, .inl qb)), (p3, .inl (cI, 48, .inl qc)), (p4, .inl (cI, 48, .inl qd)), (rw, .inl (cI, 256, .inl gr))] s.heap := hP
  have hl := lv_entry ([.ref h0, .int v, .int 5, .ref rw, .int pl]) (n := 10) (Nat.le_of_ble_eq_true rfl)
  rw [lg_entry_eq]
  generalize (lg_sl ([.ref h0, .int v, .int 5, .ref rw, .int pl]) ++ List.replicate (10 - (lg_sl ([.ref h0, .int v, .int 5, .ref rw, .int pl])).length) Slot.unset).toArray = ls at hl ⊢
  have hl : lv_has ls 10 [(0, .ref h0), (1, .int v), (2, .int 5), (3, .ref rw), (4, .int pl)] := hl
  clear hts0 hD0 hAe
  refine my_abs (fun R Q hR hQ => ?_)
  refine lv_iload hx hb dX3_windRow_0 (lv_at hl 4 rfl) ?_
  refine lv_aload_n hx hb dX3_windRow_2 rfl (lv_at hl 3 rfl) ?_
  refine va_alen (v := 256) hx hb hK hP 5 0 rfl rfl rfl dX3_windRow_3 ?_
  refine va_mmin hx hb (by rw [hml]; exact hl.1.symm) hown (hts _ bw_93) (hts _ bw_46) (hts _ bw_47) (hts _ bw_48) (by rw [hR]; exact Nat.le_of_ble_eq_true rfl) (by rw [hR]; exact Nat.le_of_ble_eq_true rfl) (by rw [hR]; exact Nat.le_of_ble_eq_true rfl) (by rw [hR]; exact Nat.le_of_ble_eq_true rfl) dX3_windRow_4 ?_
  refine lv_topi (fun y_1 ey_1 => ?_)
  have hus : y_1 = nI U9 := by rw [ey_1, hpl]; exact mn_nI hU9
  have hmy_1 : y_1.toInt = (U9 : Int) := by rw [hus]; exact nI_toInt (by omega)
  refine lv_istore (lv' := [(5, .int y_1), (0, .ref h0), (1, .int v), (2, .int 5), (3, .ref rw), (4, .int pl)]) hx hb dX3_windRow_7 hl (by decide) rfl (fun ls hl => ?_)
  refine lv_aload_n hx hb dX3_windRow_9 rfl (lv_at hl 4 rfl) ?_
  refine lv_iconst (v := 0) hx hb dX3_windRow_10 (by decide) ?_
  have hPc := hP.sub (ws' := [(rw, .inl (cI, 256, .inl gr))]) [5] rfl
  have hDc := hD.sub (ws' := [(rw, .inl (cI, 256, .inl gr))]) [5] (by decide) rfl
  have hKc := hK.sub (tys' := [(cI, .int)]) [0] rfl
  have hFc := va_free (wc := [(rw, .inl (cI, 256, .inl gr))]) hD hS hA [5] rfl
  refine va_callv (va_runS (As := [.ref rw, .int 0]) (rest := []) ⟨hx, hb, hml, hown, hts⟩ (k_J7_fill_53178_256 l D s.heap.size rw gr 0 cI) (va_cwS 2 hts (gS bw_94 bw_95 bw_96 bw_97) rfl rfl rfl (by decide +kernel) ⟨(by rw [hR]; exact Nat.le_of_ble_eq_true rfl), (by rw [hR]; exact Nat.le_of_ble_eq_true rfl)⟩) ⟨cP_blind, cP_at hPc hKc hDc hN⟩ rfl rfl hl.1 rfl (lv_room (Nat.le_of_ble_eq_true rfl)) dX3_windRow_11 ⟨(by rw [hR]; exact Nat.le_of_ble_eq_true rfl), (by rw [hR]; exact Nat.le_of_ble_eq_true rfl)⟩) hS (fun q _ h => hFc q h) hFc (fun u9 t9 H1 locs ht hvm hr_2 hB hz1 hk1 hS => ?_)
  try dsimp only at hr_2
  obtain ⟨g_3, b_4, hP1, hK1, hD1⟩ := hB
  rw [ht] at hP1
  obtain ⟨hP, hD⟩ := va_join (wr := [(h0, .inr (3, [.ref p1, .ref p2, .ref p3, .ref p4, .int pn, .int fx, .int fy])), (p1, .inl (cI, 48, .inl qa)), (p2, .inl (cI, 48, .inl qb)), (p3, .inl (cI, 48, .inl qc)), (p4, .inl (cI, 48, .inl qd))]) (w1 := [(rw, .inl (cI, 256, .inl g_3))]) hP hD [5] [0, 1, 2, 3, 4] rfl rfl (by decide) (by decide) hk1 hFc hP1 hD1
  clear hz1 hk1 hFc hKc hDc hPc
  generalize H1 = H at hP hS ⊢
  have hP : va_P D vwCl [(h0, .inr (3, [.ref p1, .ref p2, .ref p3, .ref p4, .int pn, .int fx, .int fy])), (p1, .inl (cI, 48, .inl qa)), (p2, .inl (cI, 48, .inl qb)), (p3, .inl (cI, 48, .inl qc)), (p4, .inl (cI, 48, .inl qd)), (rw, .inl (cI, 256, .inl g_3))] H := hP
  have hD : va_D A [(h0, .inr (3, [.ref p1, .ref p2, .ref p3, .ref p4, .int pn, .int fx, .int fy])), (p1, .inl (cI, 48, .inl qa)), (p2, .inl (cI, 48, .inl qb)), (p3, .inl (cI, 48, .inl qc)), (p4, .inl (cI, 48, .inl qd)), (rw, .inl (cI, 256, .inl g_3))] := hD
  refine lv_iconst (v := 1) hx hb dX3_windRow_14 (by decide) ?_
  refine lv_iload_n hx hb dX3_windRow_15 rfl (lv_at hl 3 rfl) ?_
  refine lv_ishl hx hb dX3_windRow_16 ?_
  refine my_fold (v := 32) (by decide) ?_
  refine lv_iconst (v := 2) hx hb dX3_windRow_17 (by decide) ?_
  refine lv_idiv hx hb dX3_windRow_18 (by decide) ?_
  refine my_fold (v := 16) (by decide) ?_
  refine lv_istore (lv' := [(6, .int 16), (5, .int y_1), (0, .ref h0), (1, .int v), (2, .int 5), (3, .ref rw), (4, .int pl)]) hx hb dX3_windRow_19 hl (by decide) rfl (fun ls hl => ?_)
  refine lv_iconst (v := 0) hx hb dX3_windRow_21 (by decide) ?_
  refine lv_istore (lv' := [(7, .int 0), (6, .int 16), (5, .int y_1), (0, .ref h0), (1, .int v), (2, .int 5), (3, .ref rw), (4, .int pl)]) hx hb dX3_windRow_22 hl (by decide) rfl (fun ls hl => ?_)
  have loop_5 : ∀ (n : Nat) (i : Nat) (x7 : Int32) (gg : Nat → Int32) (H : Heap) (locs : List Loc) (ls : Array Slot), (i ≤ 48) → (48 + 1 ≤ i + n) → (x7 = nI i) → ((i : Int) ≤ pn.toInt) → (∀ t : Nat, t < U9 → psR gg t = wnN qa qb qc qd (nI (t * 32 + 16)) v i) → va_P D vwCl [(h0, .inr (3, [.ref p1, .ref p2, .ref p3, .ref p4, .int pn, .int fx, .int fy])), (p1, .inl (cI, 48, .inl qa)), (p2, .inl (cI, 48, .inl qb)), (p3, .inl (cI, 48, .inl qc)), (p4, .inl (cI, 48, .inl qd)), (rw, .inl (cI, 256, .inl gg))] H → va_D A [(h0, .inr (3, [.ref p1, .ref p2, .ref p3, .ref p4, .int pn, .int fx, .int fy])), (p1, .inl (cI, 48, .inl qa)), (p2, .inl (cI, 48, .inl qb)), (p3, .inl (cI, 48, .inl qc)), (p4, .inl (cI, 48, .inl qd)), (rw, .inl (cI, 256, .inl gg))] → va_S A s.heap H locs → lv_has ls 10 [(7, .int x7), (6, .int 16), (5, .int y_1), (0, .ref h0), (1, .int v), (2, .int 5), (3, .ref rw), (4, .int pl)] → W p l e R s m ([.ref h0, .int v, .int 5, .ref rw, .int pl] : List Value).toArray below meth c H locs 0 0 Q (F0 m 24 ls []) := by
    intro n
    induction n with
    | zero =>
      intro i x7 gg H locs ls hi_i hm_i ex_i hip hps hP hD hS hl
      exact absurd (show False by omega) not_false
    | succ n ih_6 =>
      intro i x7 gg H locs ls hi_i hm_i ex_i hip hps hP hD hS hl
      have hx_i : x7.toInt = (i : Int) := by rw [ex_i]; exact nI_toInt (by omega)
      have hc_i : x7.toNatClampNeg = i := by rw [ex_i]; exact nI_clamp (by omega)
      have hpt := pn_ti hpn
      refine lv_iload hx hb dX3_windRow_24 (lv_at hl 0 rfl) ?_
      refine lv_aload_n hx hb dX3_windRow_26 rfl (lv_at hl 3 rfl) ?_
      refine va_get (D := D) (ci := 3) (v := .int pn) (C := RX3) (T := TX3) (N := 7) hx hb hts hi_X3 hown hK hP 0 rfl rfl 4 (by decide) (hts _ bw_76) (fun _ h9 => h9) rfl dX3_windRow_27 ?_
      refine lv_icmp_ge (tgt := 89) hx hb dX3_windRow_30 (by decide) (fun c_7 => ?_) (fun c_7 => ?_)
      · skip
        have f_8 : pn.toInt ≤ (i : Int) := f_le rfl hx_i c_7
        refine lv_iconst (v := 1) hx hb dX3_windRow_89 (by decide) ?_
        refine lv_istore (lv' := [(7, .int 1), (6, .int 16), (5, .int y_1), (0, .ref h0), (1, .int v), (2, .int 5), (3, .ref rw), (4, .int pl)]) hx hb dX3_windRow_90 hl (by decide) rfl (fun ls hl => ?_)
        have loop_9 : ∀ (n : Nat) (k9 : Nat) (x7 : Int32) (gh : Nat → Int32) (H : Heap) (locs : List Loc) (ls : Array Slot), (k9 ≤ 256) → (256 + 1 ≤ k9 + n) → (x7 = nI k9) → (1 ≤ k9) → (∀ t : Nat, (t < k9 → gh t = psR gg t) ∧ (k9 ≤ t → gh t = gg t)) → va_P D vwCl [(h0, .inr (3, [.ref p1, .ref p2, .ref p3, .ref p4, .int pn, .int fx, .int fy])), (p1, .inl (cI, 48, .inl qa)), (p2, .inl (cI, 48, .inl qb)), (p3, .inl (cI, 48, .inl qc)), (p4, .inl (cI, 48, .inl qd)), (rw, .inl (cI, 256, .inl gh))] H → va_D A [(h0, .inr (3, [.ref p1, .ref p2, .ref p3, .ref p4, .int pn, .int fx, .int fy])), (p1, .inl (cI, 48, .inl qa)), (p2, .inl (cI, 48, .inl qb)), (p3, .inl (cI, 48, .inl qc)), (p4, .inl (cI, 48, .inl qd)), (rw, .inl (cI, 256, .inl gh))] → va_S A s.heap H locs → lv_has ls 10 [(7, .int x7), (6, .int 16), (5, .int y_1), (0, .ref h0), (1, .int v), (2, .int 5), (3, .ref rw), (4, .int pl)] → W p l e R s m ([.ref h0, .int v, .int 5, .ref rw, .int pl] : List Value).toArray below meth c H locs 0 0 Q (F0 m 92 ls []) := by
          intro n
          induction n with
          | zero =>
            intro k9 x7 gh H locs ls hi_k9 hm_k9 ex_k9 hk1 hgh hP hD hS hl
            exact absurd (show False by omega) not_false
          | succ n ih_10 =>
            intro k9 x7 gh H locs ls hi_k9 hm_k9 ex_k9 hk1 hgh hP hD hS hl
            have hx_k9 : x7.toInt = (k9 : Int) := by rw [ex_k9]; exact nI_toInt (by omega)
            have hc_k9 : x7.toNatClampNeg = k9 := by rw [ex_k9]; exact nI_clamp (by omega)
            refine lv_iload hx hb dX3_windRow_92 (lv_at hl 0 rfl) ?_
            refine lv_iload hx hb dX3_windRow_94 (lv_at hl 2 rfl) ?_
            refine lv_icmp_ge (tgt := 118) hx hb dX3_windRow_96 (by decide) (fun c_11 => ?_) (fun c_11 => ?_)
            · skip
              have f_12 : (U9 : Int) ≤ (k9 : Int) := f_le hmy_1 hx_k9 c_11
              have hP9 := hP.sub (ws' := [(h0, .inr (3, [.ref p1, .ref p2, .ref p3, .ref p4, .int pn, .int fx, .int fy])), (p1, .inl (cI, 48, .inl qa)), (p2, .inl (cI, 48, .inl qb)), (p3, .inl (cI, 48, .inl qc)), (p4, .inl (cI, 48, .inl qd)), (rw, .inl (cI, 256, .inl gh))]) [0, 1, 2, 3, 4, 5] rfl
              have hD9 := hD.sub (ws' := [(h0, .inr (3, [.ref p1, .ref p2, .ref p3, .ref p4, .int pn, .int fx, .int fy])), (p1, .inl (cI, 48, .inl qa)), (p2, .inl (cI, 48, .inl qb)), (p3, .inl (cI, 48, .inl qc)), (p4, .inl (cI, 48, .inl qd)), (rw, .inl (cI, 256, .inl gh))]) [0, 1, 2, 3, 4, 5] (by decide) rfl
              have hK9 := hK.sub (tys' := [(cI, .int)]) [0] rfl
              refine hQ _ _ _ _ _ ?_
              exact W.vret hx hb hr (fun t ht hW => ⟨⟨(), rfl, trivial, ⟨gh, (fun t ht => by rw [(hgh t).1 (by omega), hps t ht, pn_cl hpn (show pn.toInt = (i : Int) by omega)]), by rw [ht]; exact hP9, va_K.moved hW.alike hK9, hD9⟩⟩, hS.F ht⟩) hS.2.2 dX3_windRow_118
            · skip
              have f_12 : ¬ ((U9 : Int) ≤ (k9 : Int)) := fn_le hmy_1 hx_k9 c_11
              refine lv_aload_n hx hb dX3_windRow_99 rfl (lv_at hl 6 rfl) ?_
              refine lv_iload hx hb dX3_windRow_100 (lv_at hl 0 rfl) ?_
              refine lv_dup2_11 hx hb dX3_windRow_102 rfl rfl ?_
              refine va_iald hx hb hK hP 5 0 rfl rfl (vp_in_iff.mpr ⟨by omega, by omega⟩) dX3_windRow_103 ?_
              refine lv_topi (fun y_13 ey_13 => ?_)
              refine lv_aload_n hx hb dX3_windRow_104 rfl (lv_at hl 6 rfl) ?_
              refine lv_iload hx hb dX3_windRow_105 (lv_at hl 0 rfl) ?_
              refine lv_iconst (v := 1) hx hb dX3_windRow_107 (by decide) ?_
              refine lv_isub hx hb dX3_windRow_108 ?_
              refine lv_topi (fun y_14 ey_14 => ?_)
              have hty_14 : y_14.toInt = (k9 : Int) - 1 := by rw [ey_14, ← hx_k9]; exact m1_ti (by omega)
              have hcly_14 : y_14.toNatClampNeg = k9 - 1 := by have := cl_ti (x := y_14) (by omega); omega
              refine va_iald hx hb hK hP 5 0 rfl rfl (vp_in_iff.mpr ⟨by rw [hty_14]; omega, by rw [hty_14]; omega⟩) dX3_windRow_109 ?_
              refine lv_topi (fun y_15 ey_15 => ?_)
              refine lv_iadd hx hb dX3_windRow_110 ?_
              refine lv_topi (fun y_16 ey_16 => ?_)
              refine va_iast hx hb hK hP hD hS 5 0 rfl rfl (vp_in_iff.mpr ⟨by omega, by omega⟩) dX3_windRow_111 (fun H locs hP hD hS => ?_)
              have hP : va_P D vwCl [(h0, .inr (3, [.ref p1, .ref p2, .ref p3, .ref p4, .int pn, .int fx, .int fy])), (p1, .inl (cI, 48, .inl qa)), (p2, .inl (cI, 48, .inl qb)), (p3, .inl (cI, 48, .inl qc)), (p4, .inl (cI, 48, .inl qd)), (rw, .inl (cI, 256, .inl (upd gh x7.toNatClampNeg y_16)))] H := hP
              have hD : va_D A [(h0, .inr (3, [.ref p1, .ref p2, .ref p3, .ref p4, .int pn, .int fx, .int fy])), (p1, .inl (cI, 48, .inl qa)), (p2, .inl (cI, 48, .inl qb)), (p3, .inl (cI, 48, .inl qc)), (p4, .inl (cI, 48, .inl qd)), (rw, .inl (cI, 256, .inl (upd gh x7.toNatClampNeg y_16)))] := hD
              generalize eg_17 : upd gh x7.toNatClampNeg y_16 = g_17 at hP hD
              have hP : va_P D vwCl [(h0, .inr (3, [.ref p1, .ref p2, .ref p3, .ref p4, .int pn, .int fx, .int fy])), (p1, .inl (cI, 48, .inl qa)), (p2, .inl (cI, 48, .inl qb)), (p3, .inl (cI, 48, .inl qc)), (p4, .inl (cI, 48, .inl qd)), (rw, .inl (cI, 256, .inl g_17))] H := hP
              have hD : va_D A [(h0, .inr (3, [.ref p1, .ref p2, .ref p3, .ref p4, .int pn, .int fx, .int fy])), (p1, .inl (cI, 48, .inl qa)), (p2, .inl (cI, 48, .inl qb)), (p3, .inl (cI, 48, .inl qc)), (p4, .inl (cI, 48, .inl qd)), (rw, .inl (cI, 256, .inl g_17))] := hD
              obtain ⟨y_18, ey_18⟩ : ∃ y : Int32, y = x7 + 1 := ⟨_, rfl⟩
              refine lv_iinc (v := y_18) (lv' := [(7, .int y_18), (6, .int 16), (5, .int y_1), (0, .ref h0), (1, .int v), (2, .int 5), (3, .ref rw), (4, .int pl)]) hx hb dX3_windRow_112 hl (k := 0) rfl (by rw [ey_18]; rfl) (by decide) rfl (fun ls hl => ?_)
              refine lv_goto (tgt := 92) hx hb dX3_windRow_115 (by decide) ?_
              exact ih_10 (k9 + 1) y_18 g_17 _ _ _ (by omega) (by omega) (by rw [ey_18, ex_k9]; exact nI_1 k9) (by omega) (by rw [← eg_17, hc_k9]; exact ps_next hk1 hgh (by rw [ey_16, ey_13, ey_15, hc_k9, hcly_14])) (hP.sub (ws' := [(h0, .inr (3, [.ref p1, .ref p2, .ref p3, .ref p4, .int pn, .int fx, .int fy])), (p1, .inl (cI, 48, .inl qa)), (p2, .inl (cI, 48, .inl qb)), (p3, .inl (cI, 48, .inl qc)), (p4, .inl (cI, 48, .inl qd)), (rw, .inl (cI, 256, .inl g_17))]) [0, 1, 2, 3, 4, 5] rfl) (hD.sub (ws' := [(h0, .inr (3, [.ref p1, .ref p2, .ref p3, .ref p4, .int pn, .int fx, .int fy])), (p1, .inl (cI, 48, .inl qa)), (p2, .inl (cI, 48, .inl qb)), (p3, .inl (cI, 48, .inl qc)), (p4, .inl (cI, 48, .inl qd)), (rw, .inl (cI, 256, .inl g_17))]) [0, 1, 2, 3, 4, 5] (by decide) rfl) hS (lv_sub hl [0, 1, 2, 3, 4, 5, 6, 7] rfl)
        exact loop_9 (256 + 1) 1 1 gg _ _ _ (by omega) (by omega) rfl (by omega) (fun t => ⟨fun h => by rw [show t = 0 by omega]; rfl, fun _ => rfl⟩) hP hD hS (lv_sub hl [0, 1, 2, 3, 4, 5, 6, 7] rfl)
      · skip
        have f_8 : ¬ (pn.toInt ≤ (i : Int)) := fn_le rfl hx_i c_7
        refine lv_aload_n hx hb dX3_windRow_33 rfl (lv_at hl 3 rfl) ?_
        refine lv_iload hx hb dX3_windRow_34 (lv_at hl 0 rfl) ?_
        refine lv_iload_n hx hb dX3_windRow_36 rfl (lv_at hl 4 rfl) ?_
        have hPc := hP.sub (ws' := [(h0, .inr (3, [.ref p1, .ref p2, .ref p3, .ref p4, .int pn, .int fx, .int fy])), (p2, .inl (cI, 48, .inl qb)), (p4, .inl (cI, 48, .inl qd))]) [0, 2, 4] rfl
        have hDc := hD.sub (ws' := [(h0, .inr (3, [.ref p1, .ref p2, .ref p3, .ref p4, .int pn, .int fx, .int fy])), (p2, .inl (cI, 48, .inl qb)), (p4, .inl (cI, 48, .inl qd))]) [0, 2, 4] (by decide) rfl
        have hKc := hK.sub (tys' := [(cI, .int)]) [0] rfl
        have hFc := va_free (wc := [(h0, .inr (3, [.ref p1, .ref p2, .ref p3, .ref p4, .int pn, .int fx, .int fy])), (p2, .inl (cI, 48, .inl qb)), (p4, .inl (cI, 48, .inl qd))]) hD hS hA [0, 2, 4] rfl
        refine va_calli (va_runV (As := [.int x7, .int v]) (rest := []) ⟨hx, hb, hml, hown, hts⟩ (k_X3_turnOf l D H.size h0 p1 p2 p3 p4 pn fx fy qb qd x7 v cI (by first | assumption | omega | decide)) (cwV 2 hts (gV bw_88 bw_102 bw_103 bw_67 bw_101) rfl rfl rfl (by decide +kernel) ⟨(by rw [hR]; exact Nat.le_of_ble_eq_true rfl), (by rw [hR]; exact Nat.le_of_ble_eq_true rfl)⟩) ⟨cP_blind, va_recv hKc hPc (ci := 3) (q0 := 0) rfl rfl, cP_at hPc hKc hDc hN⟩ rfl rfl hl.1 rfl (lv_room (Nat.le_of_ble_eq_true rfl)) dX3_windRow_37 ⟨(by rw [hR]; exact Nat.le_of_ble_eq_true rfl), (by rw [hR]; exact Nat.le_of_ble_eq_true rfl)⟩) hS (fun q _ h => hFc q h) hFc (fun r_19 u9 t9 H1 locs ht hvm hr_19 hB hz1 hk1 hS => ?_)
        try dsimp only at hr_19
        obtain ⟨hP1, hK1, hD1⟩ := hB
        rw [ht] at hP1
        obtain ⟨hP, hD⟩ := va_join (wr := [(p1, .inl (cI, 48, .inl qa)), (p3, .inl (cI, 48, .inl qc)), (rw, .inl (cI, 256, .inl gg))]) (w1 := [(h0, .inr (3, [.ref p1, .ref p2, .ref p3, .ref p4, .int pn, .int fx, .int fy])), (p2, .inl (cI, 48, .inl qb)), (p4, .inl (cI, 48, .inl qd))]) hP hD [0, 2, 4] [1, 3, 5] rfl rfl (by decide) (by decide) hk1 hFc hP1 hD1
        clear hz1 hk1 hFc hKc hDc hPc
        generalize H1 = H at hP hS ⊢
        have hP : va_P D vwCl [(p1, .inl (cI, 48, .inl qa)), (p3, .inl (cI, 48, .inl qc)), (rw, .inl (cI, 256, .inl gg)), (h0, .inr (3, [.ref p1, .ref p2, .ref p3, .ref p4, .int pn, .int fx, .int fy])), (p2, .inl (cI, 48, .inl qb)), (p4, .inl (cI, 48, .inl qd))] H := hP
        have hD : va_D A [(p1, .inl (cI, 48, .inl qa)), (p3, .inl (cI, 48, .inl qc)), (rw, .inl (cI, 256, .inl gg)), (h0, .inr (3, [.ref p1, .ref p2, .ref p3, .ref p4, .int pn, .int fx, .int fy])), (p2, .inl (cI, 48, .inl qb)), (p4, .inl (cI, 48, .inl qd))] := hD
        have tir_19 : r_19 = tnP (qb i) (qd i) v := by rw [hr_19, hc_i]
        refine lv_istore (lv' := [(8, .int r_19), (7, .int x7), (6, .int 16), (5, .int y_1), (0, .ref h0), (1, .int v), (2, .int 5), (3, .ref rw), (4, .int pl)]) hx hb dX3_windRow_40 hl (by decide) rfl (fun ls hl => ?_)
        refine lv_iload hx hb dX3_windRow_42 (lv_at hl 0 rfl) ?_
        refine lv_if_eq (tgt := 83) hx hb dX3_windRow_44 (by decide) (fun c_20 => ?_) (fun c_20 => ?_)
        · skip
          have f_21 : r_19.toInt = 0 := f_eq rfl (by decide) c_20
          obtain ⟨y_22, ey_22⟩ : ∃ y : Int32, y = x7 + 1 := ⟨_, rfl⟩
          refine lv_iinc (v := y_22) (lv' := [(7, .int y_22), (8, .int r_19), (6, .int 16), (5, .int y_1), (0, .ref h0), (1, .int v), (2, .int 5), (3, .ref rw), (4, .int pl)]) hx hb dX3_windRow_83 hl (k := 1) rfl (by rw [ey_22]; rfl) (by decide) rfl (fun ls hl => ?_)
          refine lv_goto (tgt := 24) hx hb dX3_windRow_86 (by decide) ?_
          exact ih_6 (i + 1) y_22 gg _ _ _ (by omega) (by omega) (by rw [ey_22, ex_i]; exact nI_1 i) (by omega) (fun t ht => (hps t ht).trans (wn_z (tir_19.symm.trans c_20)).symm) (hP.sub (ws' := [(h0, .inr (3, [.ref p1, .ref p2, .ref p3, .ref p4, .int pn, .int fx, .int fy])), (p1, .inl (cI, 48, .inl qa)), (p2, .inl (cI, 48, .inl qb)), (p3, .inl (cI, 48, .inl qc)), (p4, .inl (cI, 48, .inl qd)), (rw, .inl (cI, 256, .inl gg))]) [3, 0, 4, 1, 5, 2] rfl) (hD.sub (ws' := [(h0, .inr (3, [.ref p1, .ref p2, .ref p3, .ref p4, .int pn, .int fx, .int fy])), (p1, .inl (cI, 48, .inl qa)), (p2, .inl (cI, 48, .inl qb)), (p3, .inl (cI, 48, .inl qc)), (p4, .inl (cI, 48, .inl qd)), (rw, .inl (cI, 256, .inl gg))]) [3, 0, 4, 1, 5, 2] (by decide) rfl) hS (lv_sub hl [0, 2, 3, 4, 5, 6, 7, 8] rfl)
        · skip
          have f_21 : ¬ (r_19.toInt = 0) := fn_eq rfl (by decide) c_20
          refine lv_iconst (v := 0) hx hb dX3_windRow_47 (by decide) ?_
          refine lv_aload_n hx hb dX3_windRow_48 rfl (lv_at hl 4 rfl) ?_
          refine lv_iload hx hb dX3_windRow_49 (lv_at hl 1 rfl) ?_
          refine lv_iload_n hx hb dX3_windRow_51 rfl (lv_at hl 5 rfl) ?_
          have hPc := hP.sub (ws' := [(h0, .inr (3, [.ref p1, .ref p2, .ref p3, .ref p4, .int pn, .int fx, .int fy])), (p1, .inl (cI, 48, .inl qa)), (p2, .inl (cI, 48, .inl qb)), (p3, .inl (cI, 48, .inl qc)), (p4, .inl (cI, 48, .inl qd))]) [3, 0, 4, 1, 5] rfl
          have hDc := hD.sub (ws' := [(h0, .inr (3, [.ref p1, .ref p2, .ref p3, .ref p4, .int pn, .int fx, .int fy])), (p1, .inl (cI, 48, .inl qa)), (p2, .inl (cI, 48, .inl qb)), (p3, .inl (cI, 48, .inl qc)), (p4, .inl (cI, 48, .inl qd))]) [3, 0, 4, 1, 5] (by decide) rfl
          have hKc := hK.sub (tys' := [(cI, .int)]) [0] rfl
          have hFc := va_free (wc := [(h0, .inr (3, [.ref p1, .ref p2, .ref p3, .ref p4, .int pn, .int fx, .int fy])), (p1, .inl (cI, 48, .inl qa)), (p2, .inl (cI, 48, .inl qb)), (p3, .inl (cI, 48, .inl qc)), (p4, .inl (cI, 48, .inl qd))]) hD hS hA [3, 0, 4, 1, 5] rfl
          refine va_calli (va_runV (As := [.int x7, .int v]) (rest := [.int 0]) ⟨hx, hb, hml, hown, hts⟩ (k_X3_firstRightOf l D H.size h0 p1 p2 p3 p4 pn fx fy qa qb qc qd x7 v cI (by first | assumption | omega | decide)) (cwV 2 hts (gV bw_89 bw_105 bw_106 bw_67 bw_104) rfl rfl rfl (by decide +kernel) ⟨(by rw [hR]; exact Nat.le_of_ble_eq_true rfl), (by rw [hR]; exact Nat.le_of_ble_eq_true rfl)⟩) ⟨cP_blind, va_recv hKc hPc (ci := 3) (q0 := 0) rfl rfl, cP_at hPc hKc hDc hN⟩ rfl rfl hl.1 rfl (lv_room (Nat.le_of_ble_eq_true rfl)) dX3_windRow_52 ⟨(by rw [hR]; exact Nat.le_of_ble_eq_true rfl), (by rw [hR]; exact Nat.le_of_ble_eq_true rfl)⟩) hS (fun q _ h => hFc q h) hFc (fun r_23 u9 t9 H1 locs ht hvm hr_23 hB hz1 hk1 hS => ?_)
          try dsimp only at hr_23
          obtain ⟨hP1, hK1, hD1⟩ := hB
          rw [ht] at hP1
          obtain ⟨hP, hD⟩ := va_join (wr := [(rw, .inl (cI, 256, .inl gg))]) (w1 := [(h0, .inr (3, [.ref p1, .ref p2, .ref p3, .ref p4, .int pn, .int fx, .int fy])), (p1, .inl (cI, 48, .inl qa)), (p2, .inl (cI, 48, .inl qb)), (p3, .inl (cI, 48, .inl qc)), (p4, .inl (cI, 48, .inl qd))]) hP hD [3, 0, 4, 1, 5] [2] rfl rfl (by decide) (by decide) hk1 hFc hP1 hD1
          clear hz1 hk1 hFc hKc hDc hPc
          generalize H1 = H at hP hS ⊢
          have hP : va_P D vwCl [(rw, .inl (cI, 256, .inl gg)), (h0, .inr (3, [.ref p1, .ref p2, .ref p3, .ref p4, .int pn, .int fx, .int fy])), (p1, .inl (cI, 48, .inl qa)), (p2, .inl (cI, 48, .inl qb)), (p3, .inl (cI, 48, .inl qc)), (p4, .inl (cI, 48, .inl qd))] H := hP
          have hD : va_D A [(rw, .inl (cI, 256, .inl gg)), (h0, .inr (3, [.ref p1, .ref p2, .ref p3, .ref p4, .int pn, .int fx, .int fy])), (p1, .inl (cI, 48, .inl qa)), (p2, .inl (cI, 48, .inl qb)), (p3, .inl (cI, 48, .inl qc)), (p4, .inl (cI, 48, .inl qd))] := hD
          have tir_23 : r_23 = frP (qa i) (qb i) (qc i) (qd i) v := by rw [hr_23, hc_i]
          refine lv_iload hx hb dX3_windRow_55 (lv_at hl 2 rfl) ?_
          refine lv_iadd hx hb dX3_windRow_57 ?_
          refine lv_topi (fun y_24 ey_24 => ?_)
          refine lv_iconst (v := 1) hx hb dX3_windRow_58 (by decide) ?_
          refine lv_isub hx hb dX3_windRow_59 ?_
          refine lv_topi (fun y_25 ey_25 => ?_)
          refine lv_iload_n hx hb dX3_windRow_60 rfl (lv_at hl 6 rfl) ?_
          refine lv_ishr hx hb dX3_windRow_61 ?_
          refine lv_topi (fun y_26 ey_26 => ?_)
          refine va_mmax hx hb (by rw [hml]; exact hl.1.symm) hown (hts _ bw_98) (hts _ bw_99) (hts _ bw_47) (hts _ bw_100) (by rw [hR]; exact Nat.le_of_ble_eq_true rfl) (by rw [hR]; exact Nat.le_of_ble_eq_true rfl) (by rw [hR]; exact Nat.le_of_ble_eq_true rfl) (by rw [hR]; exact Nat.le_of_ble_eq_true rfl) dX3_windRow_62 ?_
          refine lv_topi (fun y_27 ey_27 => ?_)
          have hq9 := hq8 i (by omega)
          have hfl : ∀ t : Nat, t ≤ 256 → 0 ≤ y_27.toInt ∧ (y_27.toInt ≤ t ↔ r_23.toInt ≤ (nI (t * 32 + 16)).toInt) := fun t ht => first_le (n := 5) (m := 32) (hN := 16) (Or.inr ⟨rfl, rfl, rfl⟩) (by rw [tir_23]; exact fr_bd hq9.1 hq9.2.1 hq9.2.2.1 hq9.2.2.2 (fun q => c_20 (tir_19.trans q))) ht (s := 5) (half := 16) rfl rfl (by rw [ey_27, ey_26, ey_25, ey_24])
          have hf0 : 0 ≤ y_27.toInt := (hfl 0 (by omega)).1
          refine lv_istore (lv' := [(9, .int y_27), (8, .int r_19), (7, .int x7), (6, .int 16), (5, .int y_1), (0, .ref h0), (1, .int v), (2, .int 5), (3, .ref rw), (4, .int pl)]) hx hb dX3_windRow_65 hl (by decide) rfl (fun ls hl => ?_)
          refine lv_iload hx hb dX3_windRow_67 (lv_at hl 0 rfl) ?_
          refine lv_iload hx hb dX3_windRow_69 (lv_at hl 4 rfl) ?_
          refine lv_icmp_ge (tgt := 83) hx hb dX3_windRow_71 (by decide) (fun c_28 => ?_) (fun c_28 => ?_)
          · skip
            have f_29 : (U9 : Int) ≤ y_27.toInt := f_le hmy_1 rfl c_28
            obtain ⟨y_30, ey_30⟩ : ∃ y : Int32, y = x7 + 1 := ⟨_, rfl⟩
            refine lv_iinc (v := y_30) (lv' := [(7, .int y_30), (9, .int y_27), (8, .int r_19), (6, .int 16), (5, .int y_1), (0, .ref h0), (1, .int v), (2, .int 5), (3, .ref rw), (4, .int pl)]) hx hb dX3_windRow_83 hl (k := 2) rfl (by rw [ey_30]; rfl) (by decide) rfl (fun ls hl => ?_)
            refine lv_goto (tgt := 24) hx hb dX3_windRow_86 (by decide) ?_
            exact ih_6 (i + 1) y_30 gg _ _ _ (by omega) (by omega) (by rw [ey_30, ex_i]; exact nI_1 i) (by omega) (fun t ht => (hps t ht).trans (wn_r (fun q => c_20 (tir_19.trans q)) (by rw [← tir_23]; exact fun q => by have := (hfl t (by omega)).2.mpr q; omega)).symm) (hP.sub (ws' := [(h0, .inr (3, [.ref p1, .ref p2, .ref p3, .ref p4, .int pn, .int fx, .int fy])), (p1, .inl (cI, 48, .inl qa)), (p2, .inl (cI, 48, .inl qb)), (p3, .inl (cI, 48, .inl qc)), (p4, .inl (cI, 48, .inl qd)), (rw, .inl (cI, 256, .inl gg))]) [1, 2, 3, 4, 5, 0] rfl) (hD.sub (ws' := [(h0, .inr (3, [.ref p1, .ref p2, .ref p3, .ref p4, .int pn, .int fx, .int fy])), (p1, .inl (cI, 48, .inl qa)), (p2, .inl (cI, 48, .inl qb)), (p3, .inl (cI, 48, .inl qc)), (p4, .inl (cI, 48, .inl qd)), (rw, .inl (cI, 256, .inl gg))]) [1, 2, 3, 4, 5, 0] (by decide) rfl) hS (lv_sub hl [0, 3, 4, 5, 6, 7, 8, 9] rfl)
          · skip
            have f_29 : ¬ ((U9 : Int) ≤ y_27.toInt) := fn_le hmy_1 rfl c_28
            refine lv_aload_n hx hb dX3_windRow_74 rfl (lv_at hl 8 rfl) ?_
            refine lv_iload hx hb dX3_windRow_75 (lv_at hl 0 rfl) ?_
            refine lv_dup2_11 hx hb dX3_windRow_77 rfl rfl ?_
            refine va_iald hx hb hK hP 0 0 rfl rfl (vp_in_iff.mpr ⟨by omega, by omega⟩) dX3_windRow_78 ?_
            refine lv_topi (fun y_31 ey_31 => ?_)
            refine lv_iload hx hb dX3_windRow_79 (lv_at hl 1 rfl) ?_
            refine lv_iadd hx hb dX3_windRow_81 ?_
            refine lv_topi (fun y_32 ey_32 => ?_)
            refine va_iast hx hb hK hP hD hS 0 0 rfl rfl (vp_in_iff.mpr ⟨by omega, by omega⟩) dX3_windRow_82 (fun H locs hP hD hS => ?_)
            have hP : va_P D vwCl [(rw, .inl (cI, 256, .inl (upd gg y_27.toNatClampNeg y_32))), (h0, .inr (3, [.ref p1, .ref p2, .ref p3, .ref p4, .int pn, .int fx, .int fy])), (p1, .inl (cI, 48, .inl qa)), (p2, .inl (cI, 48, .inl qb)), (p3, .inl (cI, 48, .inl qc)), (p4, .inl (cI, 48, .inl qd))] H := hP
            have hD : va_D A [(rw, .inl (cI, 256, .inl (upd gg y_27.toNatClampNeg y_32))), (h0, .inr (3, [.ref p1, .ref p2, .ref p3, .ref p4, .int pn, .int fx, .int fy])), (p1, .inl (cI, 48, .inl qa)), (p2, .inl (cI, 48, .inl qb)), (p3, .inl (cI, 48, .inl qc)), (p4, .inl (cI, 48, .inl qd))] := hD
            generalize eg_33 : upd gg y_27.toNatClampNeg y_32 = g_33 at hP hD
            have hP : va_P D vwCl [(rw, .inl (cI, 256, .inl g_33)), (h0, .inr (3, [.ref p1, .ref p2, .ref p3, .ref p4, .int pn, .int fx, .int fy])), (p1, .inl (cI, 48, .inl qa)), (p2, .inl (cI, 48, .inl qb)), (p3, .inl (cI, 48, .inl qc)), (p4, .inl (cI, 48, .inl qd))] H := hP
            have hD : va_D A [(rw, .inl (cI, 256, .inl g_33)), (h0, .inr (3, [.ref p1, .ref p2, .ref p3, .ref p4, .int pn, .int fx, .int fy])), (p1, .inl (cI, 48, .inl qa)), (p2, .inl (cI, 48, .inl qb)), (p3, .inl (cI, 48, .inl qc)), (p4, .inl (cI, 48, .inl qd))] := hD
            obtain ⟨y_34, ey_34⟩ : ∃ y : Int32, y = x7 + 1 := ⟨_, rfl⟩
            refine lv_iinc (v := y_34) (lv' := [(7, .int y_34), (9, .int y_27), (8, .int r_19), (6, .int 16), (5, .int y_1), (0, .ref h0), (1, .int v), (2, .int 5), (3, .ref rw), (4, .int pl)]) hx hb dX3_windRow_83 hl (k := 2) rfl (by rw [ey_34]; rfl) (by decide) rfl (fun ls hl => ?_)
            refine lv_goto (tgt := 24) hx hb dX3_windRow_86 (by decide) ?_
            exact ih_6 (i + 1) y_34 g_33 _ _ _ (by omega) (by omega) (by rw [ey_34, ex_i]; exact nI_1 i) (by omega) (fun t ht => by rw [← eg_33, ey_32, ey_31, ps_upd]; exact wr_up (hps t ht) (fun q => c_20 (tir_19.trans q)) tir_19 tir_23 (hfl t (by omega)).2 (cl_ti hf0)) (hP.sub (ws' := [(h0, .inr (3, [.ref p1, .ref p2, .ref p3, .ref p4, .int pn, .int fx, .int fy])), (p1, .inl (cI, 48, .inl qa)), (p2, .inl (cI, 48, .inl qb)), (p3, .inl (cI, 48, .inl qc)), (p4, .inl (cI, 48, .inl qd)), (rw, .inl (cI, 256, .inl g_33))]) [1, 2, 3, 4, 5, 0] rfl) (hD.sub (ws' := [(h0, .inr (3, [.ref p1, .ref p2, .ref p3, .ref p4, .int pn, .int fx, .int fy])), (p1, .inl (cI, 48, .inl qa)), (p2, .inl (cI, 48, .inl qb)), (p3, .inl (cI, 48, .inl qc)), (p4, .inl (cI, 48, .inl qd)), (rw, .inl (cI, 256, .inl g_33))]) [1, 2, 3, 4, 5, 0] (by decide) rfl) hS (lv_sub hl [0, 3, 4, 5, 6, 7, 8, 9] rfl)
  exact loop_5 (48 + 1) 0 0 g_3 _ _ _ (by omega) (by omega) nI_0.symm (by omega) (fun t ht => ps_z t (fun j hj => b_4 j (by omega))) hP hD hS (lv_sub hl [0, 1, 2, 3, 4, 5, 6, 7] rfl)

set_option maxHeartbeats 4000000 in
set_option maxRecDepth 100000 in
theorem k_X4_addRow_4e (l : Launch) (D : va_G) (sz : Nat) (h0 : Nat) (w1 w2 : Nat) (gw : Nat → Int32) (gc : Nat → Int32) (wd ru : Int32) (W9 : Nat) (cI : ClassId) (hwd : wd = nI W9) (hW9 : W9 ≤ 64) (hwt : wd.toInt = (W9 : Int)) : Met l yX4_addRow (wB yX4_addRow cX4_addRow 6 none) ({ frames := 1, cells := 0, slots := 0, locals := 21 }) (cP D [(h0, .inr (4, [.ref w1, .ref w2])), (w1, .inl (cI, 256, .inl gw)), (w2, .inl (cI, 64, .inl gc))] [(cI, .int)] sz [.ref h0, .int wd, .int 4, .int ru]) (va_Qv (fun (_ : Unit) => True) (fun (_ : Unit) (t : State) => ∃ (g2 : Nat → Int32), (∀ x : Nat, g2 x = if x < W9 then adR gw ru 4 x (gc x) 4 else gc x) ∧ cB D (va_A [(h0, .inr (4, [.ref w1, .ref w2])), (w1, .inl (cI, 256, .inl gw)), (w2, .inl (cI, 64, .inl gc))] sz) [(h0, .inr (4, [.ref w1, .ref w2])), (w1, .inl (cI, 256, .inl gw)), (w2, .inl (cI, 64, .inl g2))] [(cI, .int)] t) (va_A [(h0, .inr (4, [.ref w1, .ref w2])), (w1, .inl (cI, 256, .inl gw)), (w2, .inl (cI, 64, .inl gc))] sz)) 0 0 (va_A [(h0, .inr (4, [.ref w1, .ref w2])), (w1, .inl (cI, 256, .inl gw)), (w2, .inl (cI, 64, .inl gc))] sz) := by
  refine Met.ofW (cc := cX4_addRow) (maxL := 6) (ret := none) (by decide) rfl ?_
  intro p e s m args below meth c s₁ B hml hv
  obtain ⟨rfl, hsz, hP, hK, hD0, hN⟩ := hv
  have hx := B.exec
  have hb := B.bytes
  have hr := B.returns
  have hts0 := atoms_spec (ws := (wB yX4_addRow cX4_addRow 6 none)) B.pre
  have hts : ∀ w ∈ bigW, w.before _ s = true := fun w h => hts0 w (List.mem_cons_of_mem _ h)
  have hown : s.vm.findClass RX4 = some m.cls := findClass_of_methodNamed B.named
  have hlocks := B.notSynchronized
  subst hsz
  have hD := hD0.self (sz := s.heap.size)
  generalize hAe : va_A [(h0, .inr (4, [.ref w1, .ref w2])), (w1, .inl (cI, 256, .inl gw)), (w2, .inl (cI, 64, .inl gc))] s.heap.size = A at hD ⊢
  have hA : ∀ q : Nat, s.heap.size ≤ q → A q := fun q h => by rw [← hAe]; exact Or.inr h
  have hS : va_S A s.heap s.heap [] := va_S.rf
  have hP : va_P D vwCl [(h0, .inr (4, [.ref w1, .ref w2])), (w1, .inl (cI, 256, .inl gw)), (w2, .inl (cI, 64, .inl gc))] s.heap := hP
  have hl := lv_entry ([.ref h0, .int wd, .int 4, .int ru]) (n := 6) (Nat.le_of_ble_eq_true rfl)
  rw [lg_entry_eq]
  generalize (lg_sl ([.ref h0, .int wd, .int 4, .int ru]) ++ List.replicate (6 - (lg_sl ([.ref h0, .int wd, .int 4, .int ru])).length) Slot.unset).toArray = ls at hl ⊢
  have hl : lv_has ls 6 [(0, .ref h0), (1, .int wd), (2, .int 4), (3, .int ru)] := hl
  clear hts0 hD0 hAe
  refine my_abs (fun R Q hR hQ => ?_)
  refine lv_iconst (v := 0) hx hb dX4_addRow_0 (by decide) ?_
  refine lv_istore (lv' := [(4, .int 0), (0, .ref h0), (1, .int wd), (2, .int 4), (3, .int ru)]) hx hb dX4_addRow_1 hl (by decide) rfl (fun ls hl => ?_)
  have loop_1 : ∀ (n : Nat) (j : Nat) (x4 : Int32) (ga : Nat → Int32) (H : Heap) (locs : List Loc) (ls : Array Slot), (j ≤ 64) → (64 + 1 ≤ j + n) → (x4 = nI j) → (j ≤ W9) → (∀ x : Nat, ga x = if x < j then adR gw ru 4 x (gc x) 4 else gc x) → va_P D vwCl [(h0, .inr (4, [.ref w1, .ref w2])), (w1, .inl (cI, 256, .inl gw)), (w2, .inl (cI, 64, .inl ga))] H → va_D A [(h0, .inr (4, [.ref w1, .ref w2])), (w1, .inl (cI, 256, .inl gw)), (w2, .inl (cI, 64, .inl ga))] → va_S A s.heap H locs → lv_has ls 6 [(4, .int x4), (0, .ref h0), (1, .int wd), (2, .int 4), (3, .int ru)] → W p l e R s m ([.ref h0, .int wd, .int 4, .int ru] : List Value).toArray below meth c H locs 0 0 Q (F0 m 3 ls []) := by
    intro n
    induction n with
    | zero =>
      intro j x4 ga H locs ls hi_j hm_j ex_j hjo hgo hP hD hS hl
      exact absurd (show False by omega) not_false
    | succ n ih_2 =>
      intro j x4 ga H locs ls hi_j hm_j ex_j hjo hgo hP hD hS hl
      have hx_j : x4.toInt = (j : Int) := by rw [ex_j]; exact nI_toInt (by omega)
      have hc_j : x4.toNatClampNeg = j := by rw [ex_j]; exact nI_clamp (by omega)
      refine lv_iload hx hb dX4_addRow_3 (lv_at hl 0 rfl) ?_
      refine lv_iload_n hx hb dX4_addRow_5 rfl (lv_at hl 2 rfl) ?_
      refine lv_icmp_ge (tgt := 73) hx hb dX4_addRow_6 (by decide) (fun c_3 => ?_) (fun c_3 => ?_)
      · skip
        have f_4 : wd.toInt ≤ (j : Int) := f_le rfl hx_j c_3
        have hP9 := hP.sub (ws' := [(h0, .inr (4, [.ref w1, .ref w2])), (w1, .inl (cI, 256, .inl gw)), (w2, .inl (cI, 64, .inl ga))]) [0, 1, 2] rfl
        have hD9 := hD.sub (ws' := [(h0, .inr (4, [.ref w1, .ref w2])), (w1, .inl (cI, 256, .inl gw)), (w2, .inl (cI, 64, .inl ga))]) [0, 1, 2] (by decide) rfl
        have hK9 := hK.sub (tys' := [(cI, .int)]) [0] rfl
        refine hQ _ _ _ _ _ ?_
        exact W.vret hx hb hr (fun t ht hW => ⟨⟨(), rfl, trivial, ⟨ga, (fun x => by rw [hgo x, show j = W9 by omega]), by rw [ht]; exact hP9, va_K.moved hW.alike hK9, hD9⟩⟩, hS.F ht⟩) hS.2.2 dX4_addRow_73
      · skip
        have f_4 : ¬ (wd.toInt ≤ (j : Int)) := fn_le rfl hx_j c_3
        refine lv_iload hx hb dX4_addRow_9 (lv_at hl 0 rfl) ?_
        refine lv_bipush (v := 64) hx hb dX4_addRow_11 (by decide) ?_
        refine lv_icmp_ge (tgt := 73) hx hb dX4_addRow_13 (by decide) (fun c_5 => ?_) (fun c_5 => ?_)
        · skip
          have f_6 : 64 ≤ (j : Int) := f_le (by decide) hx_j c_5
          have hP9 := hP.sub (ws' := [(h0, .inr (4, [.ref w1, .ref w2])), (w1, .inl (cI, 256, .inl gw)), (w2, .inl (cI, 64, .inl ga))]) [0, 1, 2] rfl
          have hD9 := hD.sub (ws' := [(h0, .inr (4, [.ref w1, .ref w2])), (w1, .inl (cI, 256, .inl gw)), (w2, .inl (cI, 64, .inl ga))]) [0, 1, 2] (by decide) rfl
          have hK9 := hK.sub (tys' := [(cI, .int)]) [0] rfl
          refine hQ _ _ _ _ _ ?_
          exact W.vret hx hb hr (fun t ht hW => ⟨⟨(), rfl, trivial, ⟨ga, (fun x => by rw [hgo x, show j = W9 by omega]), by rw [ht]; exact hP9, va_K.moved hW.alike hK9, hD9⟩⟩, hS.F ht⟩) hS.2.2 dX4_addRow_73
        · skip
          have f_6 : ¬ (64 ≤ (j : Int)) := fn_le (by decide) hx_j c_5
          refine lv_iconst (v := 0) hx hb dX4_addRow_16 (by decide) ?_
          refine lv_istore (lv' := [(5, .int 0), (4, .int x4), (0, .ref h0), (1, .int wd), (2, .int 4), (3, .int ru)]) hx hb dX4_addRow_17 hl (by decide) rfl (fun ls hl => ?_)
          have loop_7 : ∀ (n : Nat) (i : Nat) (x5 : Int32) (gb : Nat → Int32) (H : Heap) (locs : List Loc) (ls : Array Slot), (i ≤ 4) → (4 + 1 ≤ i + n) → (x5 = nI i) → (∀ x : Nat, gb x = if x = j then adR gw ru 4 j (gc j) i else ga x) → va_P D vwCl [(h0, .inr (4, [.ref w1, .ref w2])), (w1, .inl (cI, 256, .inl gw)), (w2, .inl (cI, 64, .inl gb))] H → va_D A [(h0, .inr (4, [.ref w1, .ref w2])), (w1, .inl (cI, 256, .inl gw)), (w2, .inl (cI, 64, .inl gb))] → va_S A s.heap H locs → lv_has ls 6 [(5, .int x5), (4, .int x4), (0, .ref h0), (1, .int wd), (2, .int 4), (3, .int ru)] → W p l e R s m ([.ref h0, .int wd, .int 4, .int ru] : List Value).toArray below meth c H locs 0 0 Q (F0 m 19 ls []) := by
            intro n
            induction n with
            | zero =>
              intro i x5 gb H locs ls hi_i hm_i ex_i hgi hP hD hS hl
              exact absurd (show False by omega) not_false
            | succ n ih_8 =>
              intro i x5 gb H locs ls hi_i hm_i ex_i hgi hP hD hS hl
              have hx_i : x5.toInt = (i : Int) := by rw [ex_i]; exact nI_toInt (by omega)
              have hc_i : x5.toNatClampNeg = i := by rw [ex_i]; exact nI_clamp (by omega)
              refine lv_iload hx hb dX4_addRow_19 (lv_at hl 0 rfl) ?_
              refine lv_iload_n hx hb dX4_addRow_21 rfl (lv_at hl 4 rfl) ?_
              refine lv_icmp_ge (tgt := 67) hx hb dX4_addRow_22 (by decide) (fun c_9 => ?_) (fun c_9 => ?_)
              · skip
                have f_10 : 4 ≤ (i : Int) := f_le (by decide) hx_i c_9
                obtain ⟨y_11, ey_11⟩ : ∃ y : Int32, y = x4 + 1 := ⟨_, rfl⟩
                refine lv_iinc (v := y_11) (lv' := [(4, .int y_11), (5, .int x5), (0, .ref h0), (1, .int wd), (2, .int 4), (3, .int ru)]) hx hb dX4_addRow_67 hl (k := 1) rfl (by rw [ey_11]; rfl) (by decide) rfl (fun ls hl => ?_)
                refine lv_goto (tgt := 3) hx hb dX4_addRow_70 (by decide) ?_
                exact ih_2 (j + 1) y_11 gb _ _ _ (by omega) (by omega) (by rw [ey_11, ex_j]; exact nI_1 j) (by omega) (ad_out (A := fun x => adR gw ru 4 x (gc x) 4) hgo (fun x => by rw [hgi x, show i = 4 by omega])) (hP.sub (ws' := [(h0, .inr (4, [.ref w1, .ref w2])), (w1, .inl (cI, 256, .inl gw)), (w2, .inl (cI, 64, .inl gb))]) [0, 1, 2] rfl) (hD.sub (ws' := [(h0, .inr (4, [.ref w1, .ref w2])), (w1, .inl (cI, 256, .inl gw)), (w2, .inl (cI, 64, .inl gb))]) [0, 1, 2] (by decide) rfl) hS (lv_sub hl [0, 2, 3, 4, 5] rfl)
              · skip
                have f_10 : ¬ (4 ≤ (i : Int)) := fn_le (by decide) hx_i c_9
                refine lv_iload hx hb dX4_addRow_25 (lv_at hl 0 rfl) ?_
                refine lv_iconst (v := 4) hx hb dX4_addRow_27 (by decide) ?_
                refine lv_icmp_ge (tgt := 67) hx hb dX4_addRow_28 (by decide) (fun c_12 => ?_) (fun c_12 => ?_)
                · skip
                  exact absurd c_12 c_9
                · skip
                  have f_13 : ¬ (4 ≤ (i : Int)) := fn_le (by decide) hx_i c_12
                  refine lv_aload_n hx hb dX4_addRow_31 rfl (lv_at hl 2 rfl) ?_
                  refine va_get (D := D) (ci := 4) (v := .ref w1) (C := RX4) (T := TX4) (N := 2) hx hb hts hi_X4 hown hK hP 0 rfl rfl 0 (by decide) (hts _ bw_116) (fun _ h9 => h9) rfl dX4_addRow_32 ?_
                  refine lv_iload hx hb dX4_addRow_35 (lv_at hl 1 rfl) ?_
                  refine lv_iload_n hx hb dX4_addRow_37 rfl (lv_at hl 4 rfl) ?_
                  refine lv_imul hx hb dX4_addRow_38 ?_
                  refine lv_topi (fun y_14 ey_14 => ?_)
                  have hty_14 : y_14 = nI (j * 4) := by rw [ey_14, ex_j]; exact pk_mul j 4
                  refine lv_iload hx hb dX4_addRow_39 (lv_at hl 0 rfl) ?_
                  refine lv_iadd hx hb dX4_addRow_41 ?_
                  refine lv_topi (fun y_15 ey_15 => ?_)
                  have hty_15 : y_15 = nI (j * 4 + i) := by rw [ey_15, hty_14, ex_i]; exact nI_add _ _
                  refine va_iald hx hb hK hP 1 0 rfl rfl (by rw [hty_15]; exact vp_in_nI (by omega) (by omega)) dX4_addRow_42 ?_
                  refine my_fold (v := gw (j * 4 + i)) (congrArg gw (by rw [hty_15]; exact nI_clamp (by omega))) ?_
                  refine lv_iload_n hx hb dX4_addRow_43 rfl (lv_at hl 5 rfl) ?_
                  have hPc := hP.sub (ws' := []) [] rfl
                  have hDc := hD.sub (ws' := []) [] (by decide) rfl
                  have hKc := hK.sub (tys' := []) [] rfl
                  have hFc := va_free (wc := []) hD hS hA [] rfl
                  refine va_calli (va_runSN (host := RX8) (As := [.int (gw (j * 4 + i)), .int ru]) (rest := []) ⟨hx, hb, hml, hown, hts⟩ (k_X8_isIn l D H.size (gw (j * 4 + i)) ru) ⟨va_cnB 2 hts (gI bw_356) rfl rfl rfl (hN.2.1 (RX4, 34, yX8_isIn, RX8) (by decide +kernel)) (hts _ bw_223) (by decide +kernel) ⟨(by rw [hR]; exact Nat.le_of_ble_eq_true rfl), (by rw [hR]; exact Nat.le_of_ble_eq_true rfl)⟩, (hts _ bw_357), trivial⟩ ⟨cP_blind, cP_at hPc hKc hDc hN⟩ rfl rfl hl.1 rfl (lv_room (Nat.le_of_ble_eq_true rfl)) dX4_addRow_44 ⟨(by rw [hR]; exact Nat.le_of_ble_eq_true rfl), (by rw [hR]; exact Nat.le_of_ble_eq_true rfl)⟩) hS (fun q _ h => hFc q h) hFc (fun r_16 u9 t9 H1 locs ht hvm hr_16 hB hz1 hk1 hS => ?_)
                  try dsimp only at hr_16
                  have hP1 : va_P D vwCl [] H1 := vP_nil
                  have hD1 : va_D (va_A [] H.size) [] := vD_nil
                  obtain ⟨hP, hD⟩ := va_join (wr := [(h0, .inr (4, [.ref w1, .ref w2])), (w1, .inl (cI, 256, .inl gw)), (w2, .inl (cI, 64, .inl gb))]) (w1 := []) hP hD [] [0, 1, 2] rfl rfl (by decide) (by decide) hk1 hFc hP1 hD1
                  clear hz1 hk1 hFc hKc hDc hPc
                  generalize H1 = H at hP hS ⊢
                  have hP : va_P D vwCl [(h0, .inr (4, [.ref w1, .ref w2])), (w1, .inl (cI, 256, .inl gw)), (w2, .inl (cI, 64, .inl gb))] H := hP
                  have hD : va_D A [(h0, .inr (4, [.ref w1, .ref w2])), (w1, .inl (cI, 256, .inl gw)), (w2, .inl (cI, 64, .inl gb))] := hD
                  refine lv_if_eq (tgt := 61) hx hb dX4_addRow_47 (by decide) (fun c_17 => ?_) (fun c_17 => ?_)
                  · skip
                    have f_18 := bz0 hr_16 c_17
                    obtain ⟨y_19, ey_19⟩ : ∃ y : Int32, y = x5 + 1 := ⟨_, rfl⟩
                    refine lv_iinc (v := y_19) (lv' := [(5, .int y_19), (4, .int x4), (0, .ref h0), (1, .int wd), (2, .int 4), (3, .int ru)]) hx hb dX4_addRow_61 hl (k := 0) rfl (by rw [ey_19]; rfl) (by decide) rfl (fun ls hl => ?_)
                    refine lv_goto (tgt := 19) hx hb dX4_addRow_64 (by decide) ?_
                    exact ih_8 (i + 1) y_19 gb _ _ _ (by omega) (by omega) (by rw [ey_19, ex_i]; exact nI_1 i) (ad_no (A := fun i => adR gw ru 4 j (gc j) i) hgi (adR_n f_18)) (hP.sub (ws' := [(h0, .inr (4, [.ref w1, .ref w2])), (w1, .inl (cI, 256, .inl gw)), (w2, .inl (cI, 64, .inl gb))]) [0, 1, 2] rfl) (hD.sub (ws' := [(h0, .inr (4, [.ref w1, .ref w2])), (w1, .inl (cI, 256, .inl gw)), (w2, .inl (cI, 64, .inl gb))]) [0, 1, 2] (by decide) rfl) hS (lv_sub hl [0, 1, 2, 3, 4, 5] rfl)
                  · skip
                    have f_18 := bz1 hr_16 c_17
                    refine lv_aload_n hx hb dX4_addRow_50 rfl (lv_at hl 2 rfl) ?_
                    refine va_get (D := D) (ci := 4) (v := .ref w2) (C := RX4) (T := TX4) (N := 2) hx hb hts hi_X4 hown hK hP 0 rfl rfl 1 (by decide) (hts _ bw_117) (fun _ h9 => h9) rfl dX4_addRow_51 ?_
                    refine lv_iload hx hb dX4_addRow_54 (lv_at hl 1 rfl) ?_
                    refine lv_dup2_11 hx hb dX4_addRow_56 rfl rfl ?_
                    refine va_iald hx hb hK hP 2 0 rfl rfl (vp_in_iff.mpr ⟨by omega, by omega⟩) dX4_addRow_57 ?_
                    refine lv_topi (fun y_20 ey_20 => ?_)
                    refine lv_iconst (v := 1) hx hb dX4_addRow_58 (by decide) ?_
                    refine lv_iadd hx hb dX4_addRow_59 ?_
                    refine lv_topi (fun y_21 ey_21 => ?_)
                    refine va_iast hx hb hK hP hD hS 2 0 rfl rfl (vp_in_iff.mpr ⟨by omega, by omega⟩) dX4_addRow_60 (fun H locs hP hD hS => ?_)
                    have hP : va_P D vwCl [(h0, .inr (4, [.ref w1, .ref w2])), (w1, .inl (cI, 256, .inl gw)), (w2, .inl (cI, 64, .inl (upd gb x4.toNatClampNeg y_21)))] H := hP
                    have hD : va_D A [(h0, .inr (4, [.ref w1, .ref w2])), (w1, .inl (cI, 256, .inl gw)), (w2, .inl (cI, 64, .inl (upd gb x4.toNatClampNeg y_21)))] := hD
                    generalize eg_22 : upd gb x4.toNatClampNeg y_21 = g_22 at hP hD
                    have hP : va_P D vwCl [(h0, .inr (4, [.ref w1, .ref w2])), (w1, .inl (cI, 256, .inl gw)), (w2, .inl (cI, 64, .inl g_22))] H := hP
                    have hD : va_D A [(h0, .inr (4, [.ref w1, .ref w2])), (w1, .inl (cI, 256, .inl gw)), (w2, .inl (cI, 64, .inl g_22))] := hD
                    obtain ⟨y_23, ey_23⟩ : ∃ y : Int32, y = x5 + 1 := ⟨_, rfl⟩
                    refine lv_iinc (v := y_23) (lv' := [(5, .int y_23), (4, .int x4), (0, .ref h0), (1, .int wd), (2, .int 4), (3, .int ru)]) hx hb dX4_addRow_61 hl (k := 0) rfl (by rw [ey_23]; rfl) (by decide) rfl (fun ls hl => ?_)
                    refine lv_goto (tgt := 19) hx hb dX4_addRow_64 (by decide) ?_
                    exact ih_8 (i + 1) y_23 g_22 _ _ _ (by omega) (by omega) (by rw [ey_23, ex_i]; exact nI_1 i) (by rw [← eg_22, hc_j]; exact ad_st (A := fun i => adR gw ru 4 j (gc j) i) hgi (by rw [ey_21, ey_20, hc_j]) (adR_y f_18)) (hP.sub (ws' := [(h0, .inr (4, [.ref w1, .ref w2])), (w1, .inl (cI, 256, .inl gw)), (w2, .inl (cI, 64, .inl g_22))]) [0, 1, 2] rfl) (hD.sub (ws' := [(h0, .inr (4, [.ref w1, .ref w2])), (w1, .inl (cI, 256, .inl gw)), (w2, .inl (cI, 64, .inl g_22))]) [0, 1, 2] (by decide) rfl) hS (lv_sub hl [0, 1, 2, 3, 4, 5] rfl)
          exact loop_7 (4 + 1) 0 0 ga _ _ _ (by omega) (by omega) nI_0.symm (ad_in0 hgo) hP hD hS (lv_sub hl [0, 1, 2, 3, 4, 5] rfl)
  exact loop_1 (64 + 1) 0 0 gc _ _ _ (by omega) (by omega) nI_0.symm (by omega) (fun x => (if_neg (by omega)).symm) hP hD hS (lv_sub hl [0, 1, 2, 3, 4] rfl)

set_option maxHeartbeats 4000000 in
set_option maxRecDepth 100000 in
theorem k_X4_addRow_1e (l : Launch) (D : va_G) (sz : Nat) (h0 : Nat) (w1 w2 : Nat) (gw : Nat → Int32) (gc : Nat → Int32) (wd ru : Int32) (W9 : Nat) (cI : ClassId) (hwd : wd = nI W9) (hW9 : W9 ≤ 64) (hwt : wd.toInt = (W9 : Int)) : Met l yX4_addRow (wB yX4_addRow cX4_addRow 6 none) ({ frames := 1, cells := 0, slots := 0, locals := 21 }) (cP D [(h0, .inr (4, [.ref w1, .ref w2])), (w1, .inl (cI, 256, .inl gw)), (w2, .inl (cI, 64, .inl gc))] [(cI, .int)] sz [.ref h0, .int wd, .int 1, .int ru]) (va_Qv (fun (_ : Unit) => True) (fun (_ : Unit) (t : State) => ∃ (g2 : Nat → Int32), (∀ x : Nat, g2 x = if x < W9 then adR gw ru 1 x (gc x) 1 else gc x) ∧ cB D (va_A [(h0, .inr (4, [.ref w1, .ref w2])), (w1, .inl (cI, 256, .inl gw)), (w2, .inl (cI, 64, .inl gc))] sz) [(h0, .inr (4, [.ref w1, .ref w2])), (w1, .inl (cI, 256, .inl gw)), (w2, .inl (cI, 64, .inl g2))] [(cI, .int)] t) (va_A [(h0, .inr (4, [.ref w1, .ref w2])), (w1, .inl (cI, 256, .inl gw)), (w2, .inl (cI, 64, .inl gc))] sz)) 0 0 (va_A [(h0, .inr (4, [.ref w1, .ref w2])), (w1, .inl (cI, 256, .inl gw)), (w2, .inl (cI, 64, .inl gc))] sz) := by
  refine Met.ofW (cc := cX4_addRow) (maxL := 6) (ret := none) (by decide) rfl ?_
  intro p e s m args below meth c s₁ B hml hv
  obtain ⟨rfl, hsz, hP, hK, hD0, hN⟩ := hv
  have hx := B.exec
  have hb := B.bytes
  have hr := B.returns
  have hts0 := atoms_spec (ws := (wB yX4_addRow cX4_addRow 6 none)) B.pre
  have hts : ∀ w ∈ bigW, w.before _ s = true := fun w h => hts0 w (List.mem_cons_of_mem _ h)
  have hown : s.vm.findClass RX4 = some m.cls := findClass_of_methodNamed B.named
  have hlocks := B.notSynchronized
  subst hsz
  have hD := hD0.self (sz := s.heap.size)
  generalize hAe : va_A [(h0, .inr (4, [.ref w1, .ref w2])), (w1, .inl (cI, 256, .inl gw)), (w2, .inl (cI, 64, .inl gc))] s.heap.size = A at hD ⊢
  have hA : ∀ q : Nat, s.heap.size ≤ q → A q := fun q h => by rw [← hAe]; exact Or.inr h
  have hS : va_S A s.heap s.heap [] := va_S.rf
  have hP : va_P D vwCl [(h0, .inr (4, [.ref w1, .ref w2])), (w1, .inl (cI, 256, .inl gw)), (w2, .inl (cI, 64, .inl gc))] s.heap := hP
  have hl := lv_entry ([.ref h0, .int wd, .int 1, .int ru]) (n := 6) (Nat.le_of_ble_eq_true rfl)
  rw [lg_entry_eq]
  generalize (lg_sl ([.ref h0, .int wd, .int 1, .int ru]) ++ List.replicate (6 - (lg_sl ([.ref h0, .int wd, .int 1, .int ru])).length) Slot.unset).toArray = ls at hl ⊢
  have hl : lv_has ls 6 [(0, .ref h0), (1, .int wd), (2, .int 1), (3, .int ru)] := hl
  clear hts0 hD0 hAe
  refine my_abs (fun R Q hR hQ => ?_)
  refine lv_iconst (v := 0) hx hb dX4_addRow_0 (by decide) ?_
  refine lv_istore (lv' := [(4, .int 0), (0, .ref h0), (1, .int wd), (2, .int 1), (3, .int ru)]) hx hb dX4_addRow_1 hl (by decide) rfl (fun ls hl => ?_)
  have loop_1 : ∀ (n : Nat) (j : Nat) (x4 : Int32) (ga : Nat → Int32) (H : Heap) (locs : List Loc) (ls : Array Slot), (j ≤ 64) → (64 + 1 ≤ j + n) → (x4 = nI j) → (j ≤ W9) → (∀ x : Nat, ga x = if x < j then adR gw ru 1 x (gc x) 1 else gc x) → va_P D vwCl [(h0, .inr (4, [.ref w1, .ref w2])), (w1, .inl (cI, 256, .inl gw)), (w2, .inl (cI, 64, .inl ga))] H → va_D A [(h0, .inr (4, [.ref w1, .ref w2])), (w1, .inl (cI, 256, .inl gw)), (w2, .inl (cI, 64, .inl ga))] → va_S A s.heap H locs → lv_has ls 6 [(4, .int x4), (0, .ref h0), (1, .int wd), (2, .int 1), (3, .int ru)] → W p l e R s m ([.ref h0, .int wd, .int 1, .int ru] : List Value).toArray below meth c H locs 0 0 Q (F0 m 3 ls []) := by
    intro n
    induction n with
    | zero =>
      intro j x4 ga H locs ls hi_j hm_j ex_j hjo hgo hP hD hS hl
      exact absurd (show False by omega) not_false
    | succ n ih_2 =>
      intro j x4 ga H locs ls hi_j hm_j ex_j hjo hgo hP hD hS hl
      have hx_j : x4.toInt = (j : Int) := by rw [ex_j]; exact nI_toInt (by omega)
      have hc_j : x4.toNatClampNeg = j := by rw [ex_j]; exact nI_clamp (by omega)
      refine lv_iload hx hb dX4_addRow_3 (lv_at hl 0 rfl) ?_
      refine lv_iload_n hx hb dX4_addRow_5 rfl (lv_at hl 2 rfl) ?_
      refine lv_icmp_ge (tgt := 73) hx hb dX4_addRow_6 (by decide) (fun c_3 => ?_) (fun c_3 => ?_)
      · skip
        have f_4 : wd.toInt ≤ (j : Int) := f_le rfl hx_j c_3
        have hP9 := hP.sub (ws' := [(h0, .inr (4, [.ref w1, .ref w2])), (w1, .inl (cI, 256, .inl gw)), (w2, .inl (cI, 64, .inl ga))]) [0, 1, 2] rfl
        have hD9 := hD.sub (ws' := [(h0, .inr (4, [.ref w1, .ref w2])), (w1, .inl (cI, 256, .inl gw)), (w2, .inl (cI, 64, .inl ga))]) [0, 1, 2] (by decide) rfl
        have hK9 := hK.sub (tys' := [(cI, .int)]) [0] rfl
        refine hQ _ _ _ _ _ ?_
        exact W.vret hx hb hr (fun t ht hW => ⟨⟨(), rfl, trivial, ⟨ga, (fun x => by rw [hgo x, show j = W9 by omega]), by rw [ht]; exact hP9, va_K.moved hW.alike hK9, hD9⟩⟩, hS.F ht⟩) hS.2.2 dX4_addRow_73
      · skip
        have f_4 : ¬ (wd.toInt ≤ (j : Int)) := fn_le rfl hx_j c_3
        refine lv_iload hx hb dX4_addRow_9 (lv_at hl 0 rfl) ?_
        refine lv_bipush (v := 64) hx hb dX4_addRow_11 (by decide) ?_
        refine lv_icmp_ge (tgt := 73) hx hb dX4_addRow_13 (by decide) (fun c_5 => ?_) (fun c_5 => ?_)
        · skip
          have f_6 : 64 ≤ (j : Int) := f_le (by decide) hx_j c_5
          have hP9 := hP.sub (ws' := [(h0, .inr (4, [.ref w1, .ref w2])), (w1, .inl (cI, 256, .inl gw)), (w2, .inl (cI, 64, .inl ga))]) [0, 1, 2] rfl
          have hD9 := hD.sub (ws' := [(h0, .inr (4, [.ref w1, .ref w2])), (w1, .inl (cI, 256, .inl gw)), (w2, .inl (cI, 64, .inl ga))]) [0, 1, 2] (by decide) rfl
          have hK9 := hK.sub (tys' := [(cI, .int)]) [0] rfl
          refine hQ _ _ _ _ _ ?_
          exact W.vret hx hb hr (fun t ht hW => ⟨⟨(), rfl, trivial, ⟨ga, (fun x => by rw [hgo x, show j = W9 by omega]), by rw [ht]; exact hP9, va_K.moved hW.alike hK9, hD9⟩⟩, hS.F ht⟩) hS.2.2 dX4_addRow_73
        · skip
          have f_6 : ¬ (64 ≤ (j : Int)) := fn_le (by decide) hx_j c_5
          refine lv_iconst (v := 0) hx hb dX4_addRow_16 (by decide) ?_
          refine lv_istore (lv' := [(5, .int 0), (4, .int x4), (0, .ref h0), (1, .int wd), (2, .int 1), (3, .int ru)]) hx hb dX4_addRow_17 hl (by decide) rfl (fun ls hl => ?_)
          have loop_7 : ∀ (n : Nat) (i : Nat) (x5 : Int32) (gb : Nat → Int32) (H : Heap) (locs : List Loc) (ls : Array Slot), (i ≤ 1) → (1 + 1 ≤ i + n) → (x5 = nI i) → (∀ x : Nat, gb x = if x = j then adR gw ru 1 j (gc j) i else ga x) → va_P D vwCl [(h0, .inr (4, [.ref w1, .ref w2])), (w1, .inl (cI, 256, .inl gw)), (w2, .inl (cI, 64, .inl gb))] H → va_D A [(h0, .inr (4, [.ref w1, .ref w2])), (w1, .inl (cI, 256, .inl gw)), (w2, .inl (cI, 64, .inl gb))] → va_S A s.heap H locs → lv_has ls 6 [(5, .int x5), (4, .int x4), (0, .ref h0), (1, .int wd), (2, .int 1), (3, .int ru)] → W p l e R s m ([.ref h0, .int wd, .int 1, .int ru] : List Value).toArray below meth c H locs 0 0 Q (F0 m 19 ls []) := by
            intro n
            induction n with
            | zero =>
              intro i x5 gb H locs ls hi_i hm_i ex_i hgi hP hD hS hl
              exact absurd (show False by omega) not_false
            | succ n ih_8 =>
              intro i x5 gb H locs ls hi_i hm_i ex_i hgi hP hD hS hl
              have hx_i : x5.toInt = (i : Int) := by rw [ex_i]; exact nI_toInt (by omega)
              have hc_i : x5.toNatClampNeg = i := by rw [ex_i]; exact nI_clamp (by omega)
              refine lv_iload hx hb dX4_addRow_19 (lv_at hl 0 rfl) ?_
              refine lv_iload_n hx hb dX4_addRow_21 rfl (lv_at hl 4 rfl) ?_
              refine lv_icmp_ge (tgt := 67) hx hb dX4_addRow_22 (by decide) (fun c_9 => ?_) (fun c_9 => ?_)
              · skip
                have f_10 : 1 ≤ (i : Int) := f_le (by decide) hx_i c_9
                obtain ⟨y_11, ey_11⟩ : ∃ y : Int32, y = x4 + 1 := ⟨_, rfl⟩
                refine lv_iinc (v := y_11) (lv' := [(4, .int y_11), (5, .int x5), (0, .ref h0), (1, .int wd), (2, .int 1), (3, .int ru)]) hx hb dX4_addRow_67 hl (k := 1) rfl (by rw [ey_11]; rfl) (by decide) rfl (fun ls hl => ?_)
                refine lv_goto (tgt := 3) hx hb dX4_addRow_70 (by decide) ?_
                exact ih_2 (j + 1) y_11 gb _ _ _ (by omega) (by omega) (by rw [ey_11, ex_j]; exact nI_1 j) (by omega) (ad_out (A := fun x => adR gw ru 1 x (gc x) 1) hgo (fun x => by rw [hgi x, show i = 1 by omega])) (hP.sub (ws' := [(h0, .inr (4, [.ref w1, .ref w2])), (w1, .inl (cI, 256, .inl gw)), (w2, .inl (cI, 64, .inl gb))]) [0, 1, 2] rfl) (hD.sub (ws' := [(h0, .inr (4, [.ref w1, .ref w2])), (w1, .inl (cI, 256, .inl gw)), (w2, .inl (cI, 64, .inl gb))]) [0, 1, 2] (by decide) rfl) hS (lv_sub hl [0, 2, 3, 4, 5] rfl)
              · skip
                have f_10 : ¬ (1 ≤ (i : Int)) := fn_le (by decide) hx_i c_9
                refine lv_iload hx hb dX4_addRow_25 (lv_at hl 0 rfl) ?_
                refine lv_iconst (v := 4) hx hb dX4_addRow_27 (by decide) ?_
                refine lv_icmp_ge (tgt := 67) hx hb dX4_addRow_28 (by decide) (fun c_12 => ?_) (fun c_12 => ?_)
                · skip
                  have f_13 : 4 ≤ (i : Int) := f_le (by decide) hx_i c_12
                  obtain ⟨y_14, ey_14⟩ : ∃ y : Int32, y = x4 + 1 := ⟨_, rfl⟩
                  refine lv_iinc (v := y_14) (lv' := [(4, .int y_14), (5, .int x5), (0, .ref h0), (1, .int wd), (2, .int 1), (3, .int ru)]) hx hb dX4_addRow_67 hl (k := 1) rfl (by rw [ey_14]; rfl) (by decide) rfl (fun ls hl => ?_)
                  refine lv_goto (tgt := 3) hx hb dX4_addRow_70 (by decide) ?_
                  exact ih_2 (j + 1) y_14 gb _ _ _ (by omega) (by omega) (by rw [ey_14, ex_j]; exact nI_1 j) (by omega) (ad_out (A := fun x => adR gw ru 1 x (gc x) 1) hgo (fun x => by rw [hgi x, show i = 1 by omega])) (hP.sub (ws' := [(h0, .inr (4, [.ref w1, .ref w2])), (w1, .inl (cI, 256, .inl gw)), (w2, .inl (cI, 64, .inl gb))]) [0, 1, 2] rfl) (hD.sub (ws' := [(h0, .inr (4, [.ref w1, .ref w2])), (w1, .inl (cI, 256, .inl gw)), (w2, .inl (cI, 64, .inl gb))]) [0, 1, 2] (by decide) rfl) hS (lv_sub hl [0, 2, 3, 4, 5] rfl)
                · skip
                  have f_13 : ¬ (4 ≤ (i : Int)) := fn_le (by decide) hx_i c_12
                  refine lv_aload_n hx hb dX4_addRow_31 rfl (lv_at hl 2 rfl) ?_
                  refine va_get (D := D) (ci := 4) (v := .ref w1) (C := RX4) (T := TX4) (N := 2) hx hb hts hi_X4 hown hK hP 0 rfl rfl 0 (by decide) (hts _ bw_116) (fun _ h9 => h9) rfl dX4_addRow_32 ?_
                  refine lv_iload hx hb dX4_addRow_35 (lv_at hl 1 rfl) ?_
                  refine lv_iload_n hx hb dX4_addRow_37 rfl (lv_at hl 4 rfl) ?_
                  refine lv_imul hx hb dX4_addRow_38 ?_
                  refine lv_topi (fun y_15 ey_15 => ?_)
                  have hty_15 : y_15 = nI (j * 1) := by rw [ey_15, ex_j]; exact pk_mul j 1
                  refine lv_iload hx hb dX4_addRow_39 (lv_at hl 0 rfl) ?_
                  refine lv_iadd hx hb dX4_addRow_41 ?_
                  refine lv_topi (fun y_16 ey_16 => ?_)
                  have hty_16 : y_16 = nI (j * 1 + i) := by rw [ey_16, hty_15, ex_i]; exact nI_add _ _
                  refine va_iald hx hb hK hP 1 0 rfl rfl (by rw [hty_16]; exact vp_in_nI (by omega) (by omega)) dX4_addRow_42 ?_
                  refine my_fold (v := gw (j * 1 + i)) (congrArg gw (by rw [hty_16]; exact nI_clamp (by omega))) ?_
                  refine lv_iload_n hx hb dX4_addRow_43 rfl (lv_at hl 5 rfl) ?_
                  have hPc := hP.sub (ws' := []) [] rfl
                  have hDc := hD.sub (ws' := []) [] (by decide) rfl
                  have hKc := hK.sub (tys' := []) [] rfl
                  have hFc := va_free (wc := []) hD hS hA [] rfl
                  refine va_calli (va_runSN (host := RX8) (As := [.int (gw (j * 1 + i)), .int ru]) (rest := []) ⟨hx, hb, hml, hown, hts⟩ (k_X8_isIn l D H.size (gw (j * 1 + i)) ru) ⟨va_cnB 2 hts (gI bw_356) rfl rfl rfl (hN.2.1 (RX4, 34, yX8_isIn, RX8) (by decide +kernel)) (hts _ bw_223) (by decide +kernel) ⟨(by rw [hR]; exact Nat.le_of_ble_eq_true rfl), (by rw [hR]; exact Nat.le_of_ble_eq_true rfl)⟩, (hts _ bw_357), trivial⟩ ⟨cP_blind, cP_at hPc hKc hDc hN⟩ rfl rfl hl.1 rfl (lv_room (Nat.le_of_ble_eq_true rfl)) dX4_addRow_44 ⟨(by rw [hR]; exact Nat.le_of_ble_eq_true rfl), (by rw [hR]; exact Nat.le_of_ble_eq_true rfl)⟩) hS (fun q _ h => hFc q h) hFc (fun r_17 u9 t9 H1 locs ht hvm hr_17 hB hz1 hk1 hS => ?_)
                  try dsimp only at hr_17
                  have hP1 : va_P D vwCl [] H1 := vP_nil
                  have hD1 : va_D (va_A [] H.size) [] := vD_nil
                  obtain ⟨hP, hD⟩ := va_join (wr := [(h0, .inr (4, [.ref w1, .ref w2])), (w1, .inl (cI, 256, .inl gw)), (w2, .inl (cI, 64, .inl gb))]) (w1 := []) hP hD [] [0, 1, 2] rfl rfl (by decide) (by decide) hk1 hFc hP1 hD1
                  clear hz1 hk1 hFc hKc hDc hPc
                  generalize H1 = H at hP hS ⊢
                  have hP : va_P D vwCl [(h0, .inr (4, [.ref w1, .ref w2])), (w1, .inl (cI, 256, .inl gw)), (w2, .inl (cI, 64, .inl gb))] H := hP
                  have hD : va_D A [(h0, .inr (4, [.ref w1, .ref w2])), (w1, .inl (cI, 256, .inl gw)), (w2, .inl (cI, 64, .inl gb))] := hD
                  refine lv_if_eq (tgt := 61) hx hb dX4_addRow_47 (by decide) (fun c_18 => ?_) (fun c_18 => ?_)
                  · skip
                    have f_19 := bz0 hr_17 c_18
                    obtain ⟨y_20, ey_20⟩ : ∃ y : Int32, y = x5 + 1 := ⟨_, rfl⟩
                    refine lv_iinc (v := y_20) (lv' := [(5, .int y_20), (4, .int x4), (0, .ref h0), (1, .int wd), (2, .int 1), (3, .int ru)]) hx hb dX4_addRow_61 hl (k := 0) rfl (by rw [ey_20]; rfl) (by decide) rfl (fun ls hl => ?_)
                    refine lv_goto (tgt := 19) hx hb dX4_addRow_64 (by decide) ?_
                    exact ih_8 (i + 1) y_20 gb _ _ _ (by omega) (by omega) (by rw [ey_20, ex_i]; exact nI_1 i) (ad_no (A := fun i => adR gw ru 1 j (gc j) i) hgi (adR_n f_19)) (hP.sub (ws' := [(h0, .inr (4, [.ref w1, .ref w2])), (w1, .inl (cI, 256, .inl gw)), (w2, .inl (cI, 64, .inl gb))]) [0, 1, 2] rfl) (hD.sub (ws' := [(h0, .inr (4, [.ref w1, .ref w2])), (w1, .inl (cI, 256, .inl gw)), (w2, .inl (cI, 64, .inl gb))]) [0, 1, 2] (by decide) rfl) hS (lv_sub hl [0, 1, 2, 3, 4, 5] rfl)
                  · skip
                    have f_19 := bz1 hr_17 c_18
                    refine lv_aload_n hx hb dX4_addRow_50 rfl (lv_at hl 2 rfl) ?_
                    refine va_get (D := D) (ci := 4) (v := .ref w2) (C := RX4) (T := TX4) (N := 2) hx hb hts hi_X4 hown hK hP 0 rfl rfl 1 (by decide) (hts _ bw_117) (fun _ h9 => h9) rfl dX4_addRow_51 ?_
                    refine lv_iload hx hb dX4_addRow_54 (lv_at hl 1 rfl) ?_
                    refine lv_dup2_11 hx hb dX4_addRow_56 rfl rfl ?_
                    refine va_iald hx hb hK hP 2 0 rfl rfl (vp_in_iff.mpr ⟨by omega, by omega⟩) dX4_addRow_57 ?_
                    refine lv_topi (fun y_21 ey_21 => ?_)
                    refine lv_iconst (v := 1) hx hb dX4_addRow_58 (by decide) ?_
                    refine lv_iadd hx hb dX4_addRow_59 ?_
                    refine lv_topi (fun y_22 ey_22 => ?_)
                    refine va_iast hx hb hK hP hD hS 2 0 rfl rfl (vp_in_iff.mpr ⟨by omega, by omega⟩) dX4_addRow_60 (fun H locs hP hD hS => ?_)
                    have hP : va_P D vwCl [(h0, .inr (4, [.ref w1, .ref w2])), (w1, .inl (cI, 256, .inl gw)), (w2, .inl (cI, 64, .inl (upd gb x4.toNatClampNeg y_22)))] H := hP
                    have hD : va_D A [(h0, .inr (4, [.ref w1, .ref w2])), (w1, .inl (cI, 256, .inl gw)), (w2, .inl (cI, 64, .inl (upd gb x4.toNatClampNeg y_22)))] := hD
                    generalize eg_23 : upd gb x4.toNatClampNeg y_22 = g_23 at hP hD
                    have hP : va_P D vwCl [(h0, .inr (4, [.ref w1, .ref w2])), (w1, .inl (cI, 256, .inl gw)), (w2, .inl (cI, 64, .inl g_23))] H := hP
                    have hD : va_D A [(h0, .inr (4, [.ref w1, .ref w2])), (w1, .inl (cI, 256, .inl gw)), (w2, .inl (cI, 64, .inl g_23))] := hD
                    obtain ⟨y_24, ey_24⟩ : ∃ y : Int32, y = x5 + 1 := ⟨_, rfl⟩
                    refine lv_iinc (v := y_24) (lv' := [(5, .int y_24), (4, .int x4), (0, .ref h0), (1, .int wd), (2, .int 1), (3, .int ru)]) hx hb dX4_addRow_61 hl (k := 0) rfl (by rw [ey_24]; rfl) (by decide) rfl (fun ls hl => ?_)
                    refine lv_goto (tgt := 19) hx hb dX4_addRow_64 (by decide) ?_
                    exact ih_8 (i + 1) y_24 g_23 _ _ _ (by omega) (by omega) (by rw [ey_24, ex_i]; exact nI_1 i) (by rw [← eg_23, hc_j]; exact ad_st (A := fun i => adR gw ru 1 j (gc j) i) hgi (by rw [ey_22, ey_21, hc_j]) (adR_y f_19)) (hP.sub (ws' := [(h0, .inr (4, [.ref w1, .ref w2])), (w1, .inl (cI, 256, .inl gw)), (w2, .inl (cI, 64, .inl g_23))]) [0, 1, 2] rfl) (hD.sub (ws' := [(h0, .inr (4, [.ref w1, .ref w2])), (w1, .inl (cI, 256, .inl gw)), (w2, .inl (cI, 64, .inl g_23))]) [0, 1, 2] (by decide) rfl) hS (lv_sub hl [0, 1, 2, 3, 4, 5] rfl)
          exact loop_7 (1 + 1) 0 0 ga _ _ _ (by omega) (by omega) nI_0.symm (ad_in0 hgo) hP hD hS (lv_sub hl [0, 1, 2, 3, 4, 5] rfl)
  exact loop_1 (64 + 1) 0 0 gc _ _ _ (by omega) (by omega) nI_0.symm (by omega) (fun x => (if_neg (by omega)).symm) hP hD hS (lv_sub hl [0, 1, 2, 3, 4] rfl)

set_option maxHeartbeats 4000000 in
set_option maxRecDepth 100000 in
theorem k_X4_read_3e (l : Launch) (D : va_G) (sz : Nat) (h0 ph : Nat) (w1 w2 : Nat) (p1 p2 p3 p4 : Nat) (pn fx fy : Int32) (qa : Nat → Int32) (qb : Nat → Int32) (qc : Nat → Int32) (qd : Nat → Int32) (gw : Nat → Int32) (gc : Nat → Int32) (y wd ru : Int32) (W9 : Nat) (cI : ClassId) (hpn : 0 ≤ pn.toInt ∧ pn.toInt ≤ 48) (hq8 : ∀ j : Nat, j < pn.toNatClampNeg → c8 (qa j) ∧ c8 (qb j) ∧ c8 (qc j) ∧ c8 (qd j)) (hwd : wd = nI W9) (hW9 : W9 ≤ 64) (hwt : wd.toInt = (W9 : Int)) : Met l yX4_read (wB yX4_read cX4_read 10 none) ({ frames := 3, cells := 0, slots := 0, locals := 74 }) (cP D [(h0, .inr (4, [.ref w1, .ref w2])), (w1, .inl (cI, 256, .inl gw)), (w2, .inl (cI, 64, .inl gc)), (ph, .inr (3, [.ref p1, .ref p2, .ref p3, .ref p4, .int pn, .int fx, .int fy])), (p1, .inl (cI, 48, .inl qa)), (p2, .inl (cI, 48, .inl qb)), (p3, .inl (cI, 48, .inl qc)), (p4, .inl (cI, 48, .inl qd))] [(cI, .int)] sz [.ref h0, .ref ph, .int y, .int wd, .int 3, .int ru]) (va_Qv (fun (_ : Unit) => True) (fun (_ : Unit) (t : State) => ∃ (g2 g3 : Nat → Int32), (∀ x : Nat, x < W9 → g3 x = cvN qa qb qc qd pn.toNatClampNeg ru 8 4 4 3 4 y x 4) ∧ cB D (va_A [(h0, .inr (4, [.ref w1, .ref w2])), (w1, .inl (cI, 256, .inl gw)), (w2, .inl (cI, 64, .inl gc)), (ph, .inr (3, [.ref p1, .ref p2, .ref p3, .ref p4, .int pn, .int fx, .int fy])), (p1, .inl (cI, 48, .inl qa)), (p2, .inl (cI, 48, .inl qb)), (p3, .inl (cI, 48, .inl qc)), (p4, .inl (cI, 48, .inl qd))] sz) [(h0, .inr (4, [.ref w1, .ref w2])), (w1, .inl (cI, 256, .inl g2)), (w2, .inl (cI, 64, .inl g3)), (ph, .inr (3, [.ref p1, .ref p2, .ref p3, .ref p4, .int pn, .int fx, .int fy])), (p1, .inl (cI, 48, .inl qa)), (p2, .inl (cI, 48, .inl qb)), (p3, .inl (cI, 48, .inl qc)), (p4, .inl (cI, 48, .inl qd))] [(cI, .int)] t) (va_A [(h0, .inr (4, [.ref w1, .ref w2])), (w1, .inl (cI, 256, .inl gw)), (w2, .inl (cI, 64, .inl gc)), (ph, .inr (3, [.ref p1, .ref p2, .ref p3, .ref p4, .int pn, .int fx, .int fy])), (p1, .inl (cI, 48, .inl qa)), (p2, .inl (cI, 48, .inl qb)), (p3, .inl (cI, 48, .inl qc)), (p4, .inl (cI, 48, .inl qd))] sz)) 0 0 (va_A [(h0, .inr (4, [.ref w1, .ref w2])), (w1, .inl (cI, 256, .inl gw)), (w2, .inl (cI, 64, .inl gc)), (ph, .inr (3, [.ref p1, .ref p2, .ref p3, .ref p4, .int pn, .int fx, .int fy])), (p1, .inl (cI, 48, .inl qa)), (p2, .inl (cI, 48, .inl qb)), (p3, .inl (cI, 48, .inl qc)), (p4, .inl (cI, 48, .inl qd))] sz) := by
  refine Met.ofW (cc := cX4_read) (maxL := 10) (ret := none) (by decide) rfl ?_
  intro p e s m args below meth c s₁ B hml hv
  obtain ⟨rfl, hsz, hP, hK, hD0, hN⟩ := hv
  have hx := B.exec
  have hb := B.bytes
  have hr := B.returns
  have hts0 := atoms_spec (ws := (wB yX4_read cX4_read 10 none)) B.pre
  have hts : ∀ w ∈ bigW, w.before _ s = true := fun w h => hts0 w (List.mem_cons_of_mem _ h)
  have hown : s.vm.findClass RX4 = some m.cls := findClass_of_methodNamed B.named
  have hlocks := B.notSynchronized
  subst hsz
  have hD := hD0.self (sz := s.heap.size)
  generalize hAe : va_A [(h0, .inr (4, [.ref w1, .ref w2])), (w1, .inl (cI, 256, .inl gw)), (w2, .inl (cI, 64, .inl gc)), (ph, .inr (3, [.ref p1, .ref p2, .ref p3, .ref p4, .int pn, .int fx, .int fy])), (p1, .inl (cI, 48, .inl qa)), (p2, .inl (cI, 48, .inl qb)), (p3, .inl (cI, 48, .inl qc)), (p4, .inl (cI, 48, .inl qd))] s.heap.size = A at hD ⊢
  have hA : ∀ q : Nat, s.heap.size ≤ q → A q := fun q h => by rw [← hAe]; exact Or.inr h
  have hS : va_S A s.heap s.heap [] := va_S.rf
  have hP : va_P D vwCl [(h0, .inr (4, [.ref w1, .ref w2])), (w1, .inl (cI, 256, .inl gw)), (w2, .inl (cI, 64, .inl gc)), (ph, .inr (3, [.ref p1, .ref p2, .ref p3, .ref p4, .int pn, .int fx, .int fy])), (p1, .inl (cI, 48, .inl qa)), (p2, .inl (cI, 48, .inl qb)), (p3, .inl (cI, 48, .inl qc)), (p4, .inl (cI, 48, .inl qd))] s.heap := hP
  have hl := lv_entry ([.ref h0, .ref ph, .int y, .int wd, .int 3, .int ru]) (n := 10) (Nat.le_of_ble_eq_true rfl)
  rw [lg_entry_eq]
  generalize (lg_sl ([.ref h0, .ref ph, .int y, .int wd, .int 3, .int ru]) ++ List.replicate (10 - (lg_sl ([.ref h0, .ref ph, .int y, .int wd, .int 3, .int ru])).length) Slot.unset).toArray = ls at hl ⊢
  have hl : lv_has ls 10 [(0, .ref h0), (1, .ref ph), (2, .int y), (3, .int wd), (4, .int 3), (5, .int ru)] := hl
  clear hts0 hD0 hAe
  refine my_abs (fun R Q hR hQ => ?_)
  refine lv_bipush (v := 32) hx hb dX4_read_0 (by decide) ?_
  refine lv_iload hx hb dX4_read_2 (lv_at hl 4 rfl) ?_
  refine lv_ishr hx hb dX4_read_4 ?_
  refine my_fold (v := 4) (by decide) ?_
  refine lv_istore (lv' := [(6, .int 4), (0, .ref h0), (1, .ref ph), (2, .int y), (3, .int wd), (4, .int 3), (5, .int ru)]) hx hb dX4_read_5 hl (by decide) rfl (fun ls hl => ?_)
  refine lv_iconst (v := 1) hx hb dX4_read_7 (by decide) ?_
  refine lv_iload hx hb dX4_read_8 (lv_at hl 5 rfl) ?_
  refine lv_ishl hx hb dX4_read_10 ?_
  refine my_fold (v := 8) (by decide) ?_
  refine lv_iconst (v := 2) hx hb dX4_read_11 (by decide) ?_
  refine lv_idiv hx hb dX4_read_12 (by decide) ?_
  refine my_fold (v := 4) (by decide) ?_
  refine lv_istore (lv' := [(7, .int 4), (6, .int 4), (0, .ref h0), (1, .ref ph), (2, .int y), (3, .int wd), (4, .int 3), (5, .int ru)]) hx hb dX4_read_13 hl (by decide) rfl (fun ls hl => ?_)
  refine lv_aload_n hx hb dX4_read_15 rfl (lv_at hl 2 rfl) ?_
  refine va_get (D := D) (ci := 4) (v := .ref w2) (C := RX4) (T := TX4) (N := 2) hx hb hts hi_X4 hown hK hP 0 rfl rfl 1 (by decide) (hts _ bw_117) (fun _ h9 => h9) rfl dX4_read_16 ?_
  refine lv_iconst (v := 0) hx hb dX4_read_19 (by decide) ?_
  have hPc := hP.sub (ws' := [(w2, .inl (cI, 64, .inl gc))]) [2] rfl
  have hDc := hD.sub (ws' := [(w2, .inl (cI, 64, .inl gc))]) [2] (by decide) rfl
  have hKc := hK.sub (tys' := [(cI, .int)]) [0] rfl
  have hFc := va_free (wc := [(w2, .inl (cI, 64, .inl gc))]) hD hS hA [2] rfl
  refine va_callv (va_runS (As := [.ref w2, .int 0]) (rest := []) ⟨hx, hb, hml, hown, hts⟩ (k_J7_fill_53178_64 l D s.heap.size w2 gc 0 cI) (va_cwS 2 hts (gS bw_121 bw_95 bw_96 bw_97) rfl rfl rfl (by decide +kernel) ⟨(by rw [hR]; exact Nat.le_of_ble_eq_true rfl), (by rw [hR]; exact Nat.le_of_ble_eq_true rfl)⟩) ⟨cP_blind, cP_at hPc hKc hDc hN⟩ rfl rfl hl.1 rfl (lv_room (Nat.le_of_ble_eq_true rfl)) dX4_read_20 ⟨(by rw [hR]; exact Nat.le_of_ble_eq_true rfl), (by rw [hR]; exact Nat.le_of_ble_eq_true rfl)⟩) hS (fun q _ h => hFc q h) hFc (fun u9 t9 H1 locs ht hvm hr_1 hB hz1 hk1 hS => ?_)
  try dsimp only at hr_1
  obtain ⟨g_2, b_3, hP1, hK1, hD1⟩ := hB
  rw [ht] at hP1
  obtain ⟨hP, hD⟩ := va_join (wr := [(h0, .inr (4, [.ref w1, .ref w2])), (w1, .inl (cI, 256, .inl gw)), (ph, .inr (3, [.ref p1, .ref p2, .ref p3, .ref p4, .int pn, .int fx, .int fy])), (p1, .inl (cI, 48, .inl qa)), (p2, .inl (cI, 48, .inl qb)), (p3, .inl (cI, 48, .inl qc)), (p4, .inl (cI, 48, .inl qd))]) (w1 := [(w2, .inl (cI, 64, .inl g_2))]) hP hD [2] [0, 1, 3, 4, 5, 6, 7] rfl rfl (by decide) (by decide) hk1 hFc hP1 hD1
  clear hz1 hk1 hFc hKc hDc hPc
  generalize H1 = H at hP hS ⊢
  have hP : va_P D vwCl [(h0, .inr (4, [.ref w1, .ref w2])), (w1, .inl (cI, 256, .inl gw)), (ph, .inr (3, [.ref p1, .ref p2, .ref p3, .ref p4, .int pn, .int fx, .int fy])), (p1, .inl (cI, 48, .inl qa)), (p2, .inl (cI, 48, .inl qb)), (p3, .inl (cI, 48, .inl qc)), (p4, .inl (cI, 48, .inl qd)), (w2, .inl (cI, 64, .inl g_2))] H := hP
  have hD : va_D A [(h0, .inr (4, [.ref w1, .ref w2])), (w1, .inl (cI, 256, .inl gw)), (ph, .inr (3, [.ref p1, .ref p2, .ref p3, .ref p4, .int pn, .int fx, .int fy])), (p1, .inl (cI, 48, .inl qa)), (p2, .inl (cI, 48, .inl qb)), (p3, .inl (cI, 48, .inl qc)), (p4, .inl (cI, 48, .inl qd)), (w2, .inl (cI, 64, .inl g_2))] := hD
  refine lv_iconst (v := 0) hx hb dX4_read_23 (by decide) ?_
  refine lv_istore (lv' := [(8, .int 0), (7, .int 4), (6, .int 4), (0, .ref h0), (1, .ref ph), (2, .int y), (3, .int wd), (4, .int 3), (5, .int ru)]) hx hb dX4_read_24 hl (by decide) rfl (fun ls hl => ?_)
  have loop_4 : ∀ (n : Nat) (j : Nat) (x8 : Int32) (ga : Nat → Int32) (gb : Nat → Int32) (H : Heap) (locs : List Loc) (ls : Array Slot), (j ≤ 4) → (4 + 1 ≤ j + n) → (x8 = nI j) → (∀ x : Nat, x < W9 → gb x = cvN qa qb qc qd pn.toNatClampNeg ru 8 4 4 3 4 y x j) → va_P D vwCl [(h0, .inr (4, [.ref w1, .ref w2])), (w1, .inl (cI, 256, .inl ga)), (ph, .inr (3, [.ref p1, .ref p2, .ref p3, .ref p4, .int pn, .int fx, .int fy])), (p1, .inl (cI, 48, .inl qa)), (p2, .inl (cI, 48, .inl qb)), (p3, .inl (cI, 48, .inl qc)), (p4, .inl (cI, 48, .inl qd)), (w2, .inl (cI, 64, .inl gb))] H → va_D A [(h0, .inr (4, [.ref w1, .ref w2])), (w1, .inl (cI, 256, .inl ga)), (ph, .inr (3, [.ref p1, .ref p2, .ref p3, .ref p4, .int pn, .int fx, .int fy])), (p1, .inl (cI, 48, .inl qa)), (p2, .inl (cI, 48, .inl qb)), (p3, .inl (cI, 48, .inl qc)), (p4, .inl (cI, 48, .inl qd)), (w2, .inl (cI, 64, .inl gb))] → va_S A s.heap H locs → lv_has ls 10 [(8, .int x8), (7, .int 4), (6, .int 4), (0, .ref h0), (1, .ref ph), (2, .int y), (3, .int wd), (4, .int 3), (5, .int ru)] → W p l e R s m ([.ref h0, .ref ph, .int y, .int wd, .int 3, .int ru] : List Value).toArray below meth c H locs 0 0 Q (F0 m 26 ls []) := by
    intro n
    induction n with
    | zero =>
      intro j x8 ga gb H locs ls hi_j hm_j ex_j hcv hP hD hS hl
      exact absurd (show False by omega) not_false
    | succ n ih_5 =>
      intro j x8 ga gb H locs ls hi_j hm_j ex_j hcv hP hD hS hl
      have hx_j : x8.toInt = (j : Int) := by rw [ex_j]; exact nI_toInt (by omega)
      have hc_j : x8.toNatClampNeg = j := by rw [ex_j]; exact nI_clamp (by omega)
      refine lv_iload hx hb dX4_read_26 (lv_at hl 0 rfl) ?_
      refine lv_iload hx hb dX4_read_28 (lv_at hl 2 rfl) ?_
      refine lv_icmp_ge (tgt := 79) hx hb dX4_read_30 (by decide) (fun c_6 => ?_) (fun c_6 => ?_)
      · skip
        have f_7 : 4 ≤ (j : Int) := f_le (by decide) hx_j c_6
        have hP9 := hP.sub (ws' := [(h0, .inr (4, [.ref w1, .ref w2])), (w1, .inl (cI, 256, .inl ga)), (w2, .inl (cI, 64, .inl gb)), (ph, .inr (3, [.ref p1, .ref p2, .ref p3, .ref p4, .int pn, .int fx, .int fy])), (p1, .inl (cI, 48, .inl qa)), (p2, .inl (cI, 48, .inl qb)), (p3, .inl (cI, 48, .inl qc)), (p4, .inl (cI, 48, .inl qd))]) [0, 1, 7, 2, 3, 4, 5, 6] rfl
        have hD9 := hD.sub (ws' := [(h0, .inr (4, [.ref w1, .ref w2])), (w1, .inl (cI, 256, .inl ga)), (w2, .inl (cI, 64, .inl gb)), (ph, .inr (3, [.ref p1, .ref p2, .ref p3, .ref p4, .int pn, .int fx, .int fy])), (p1, .inl (cI, 48, .inl qa)), (p2, .inl (cI, 48, .inl qb)), (p3, .inl (cI, 48, .inl qc)), (p4, .inl (cI, 48, .inl qd))]) [0, 1, 7, 2, 3, 4, 5, 6] (by decide) rfl
        have hK9 := hK.sub (tys' := [(cI, .int)]) [0] rfl
        refine hQ _ _ _ _ _ ?_
        exact W.vret hx hb hr (fun t ht hW => ⟨⟨(), rfl, trivial, ⟨ga, gb, (fun x hx => by rw [hcv x hx, show j = 4 by omega]), by rw [ht]; exact hP9, va_K.moved hW.alike hK9, hD9⟩⟩, hS.F ht⟩) hS.2.2 dX4_read_79
      · skip
        have f_7 : ¬ (4 ≤ (j : Int)) := fn_le (by decide) hx_j c_6
        refine lv_iload_n hx hb dX4_read_33 rfl (lv_at hl 5 rfl) ?_
        refine lv_bipush (v := 32) hx hb dX4_read_34 (by decide) ?_
        refine lv_imul hx hb dX4_read_36 ?_
        refine lv_topi (fun y_8 ey_8 => ?_)
        refine lv_iload hx hb dX4_read_37 (lv_at hl 0 rfl) ?_
        refine lv_iload hx hb dX4_read_39 (lv_at hl 7 rfl) ?_
        refine lv_ishl hx hb dX4_read_41 ?_
        refine lv_topi (fun y_9 ey_9 => ?_)
        refine lv_iadd hx hb dX4_read_42 ?_
        refine lv_topi (fun y_10 ey_10 => ?_)
        refine lv_iload hx hb dX4_read_43 (lv_at hl 1 rfl) ?_
        refine lv_iadd hx hb dX4_read_45 ?_
        refine lv_topi (fun y_11 ey_11 => ?_)
        refine lv_istore (lv' := [(9, .int y_11), (8, .int x8), (7, .int 4), (6, .int 4), (0, .ref h0), (1, .ref ph), (2, .int y), (3, .int wd), (4, .int 3), (5, .int ru)]) hx hb dX4_read_46 hl (by decide) rfl (fun ls hl => ?_)
        refine lv_aload_n hx hb dX4_read_48 rfl (lv_at hl 5 rfl) ?_
        refine lv_iload hx hb dX4_read_49 (lv_at hl 0 rfl) ?_
        refine lv_iload hx hb dX4_read_51 (lv_at hl 8 rfl) ?_
        refine lv_aload_n hx hb dX4_read_53 rfl (lv_at hl 4 rfl) ?_
        refine va_get (D := D) (ci := 4) (v := .ref w1) (C := RX4) (T := TX4) (N := 2) hx hb hts hi_X4 hown hK hP 0 rfl rfl 0 (by decide) (hts _ bw_116) (fun _ h9 => h9) rfl dX4_read_54 ?_
        refine lv_iload_n hx hb dX4_read_57 rfl (lv_at hl 7 rfl) ?_
        refine lv_iload hx hb dX4_read_58 (lv_at hl 3 rfl) ?_
        refine lv_imul hx hb dX4_read_60 ?_
        refine lv_topi (fun y_12 ey_12 => ?_)
        have hPc := hP.sub (ws' := [(ph, .inr (3, [.ref p1, .ref p2, .ref p3, .ref p4, .int pn, .int fx, .int fy])), (p1, .inl (cI, 48, .inl qa)), (p2, .inl (cI, 48, .inl qb)), (p3, .inl (cI, 48, .inl qc)), (p4, .inl (cI, 48, .inl qd)), (w1, .inl (cI, 256, .inl ga))]) [2, 3, 4, 5, 6, 1] rfl
        have hDc := hD.sub (ws' := [(ph, .inr (3, [.ref p1, .ref p2, .ref p3, .ref p4, .int pn, .int fx, .int fy])), (p1, .inl (cI, 48, .inl qa)), (p2, .inl (cI, 48, .inl qb)), (p3, .inl (cI, 48, .inl qc)), (p4, .inl (cI, 48, .inl qd)), (w1, .inl (cI, 256, .inl ga))]) [2, 3, 4, 5, 6, 1] (by decide) rfl
        have hKc := hK.sub (tys' := [(cI, .int)]) [0] rfl
        have hFc := va_free (wc := [(ph, .inr (3, [.ref p1, .ref p2, .ref p3, .ref p4, .int pn, .int fx, .int fy])), (p1, .inl (cI, 48, .inl qa)), (p2, .inl (cI, 48, .inl qb)), (p3, .inl (cI, 48, .inl qc)), (p4, .inl (cI, 48, .inl qd)), (w1, .inl (cI, 256, .inl ga))]) hD hS hA [2, 3, 4, 5, 6, 1] rfl
        refine va_callv (va_runV (As := [.int y_11, .int 3, .ref w1, .int y_12]) (rest := []) ⟨hx, hb, hml, hown, hts⟩ (k_X3_windRow_3e l D H.size ph w1 p1 p2 p3 p4 pn fx fy qa qb qc qd ga y_11 y_12 (W9 * 4) cI (by first | assumption | omega | decide) (by first | assumption | omega | decide) (by rw [ey_12, hwd]; exact pk_mul W9 4) (by omega)) (cwV 4 hts (gV bw_122 bw_91 bw_92 bw_67 bw_90) rfl rfl rfl (by decide +kernel) ⟨(by rw [hR]; exact Nat.le_of_ble_eq_true rfl), (by rw [hR]; exact Nat.le_of_ble_eq_true rfl)⟩) ⟨cP_blind, va_recv hKc hPc (ci := 3) (q0 := 0) rfl rfl, cP_at hPc hKc hDc hN⟩ rfl rfl hl.1 rfl (lv_room (Nat.le_of_ble_eq_true rfl)) dX4_read_61 ⟨(by rw [hR]; exact Nat.le_of_ble_eq_true rfl), (by rw [hR]; exact Nat.le_of_ble_eq_true rfl)⟩) hS (fun q _ h => hFc q h) hFc (fun u9 t9 H1 locs ht hvm hr_13 hB hz1 hk1 hS => ?_)
        try dsimp only at hr_13
        obtain ⟨g_14, b_15, hP1, hK1, hD1⟩ := hB
        rw [ht] at hP1
        obtain ⟨hP, hD⟩ := va_join (wr := [(h0, .inr (4, [.ref w1, .ref w2])), (w2, .inl (cI, 64, .inl gb))]) (w1 := [(ph, .inr (3, [.ref p1, .ref p2, .ref p3, .ref p4, .int pn, .int fx, .int fy])), (p1, .inl (cI, 48, .inl qa)), (p2, .inl (cI, 48, .inl qb)), (p3, .inl (cI, 48, .inl qc)), (p4, .inl (cI, 48, .inl qd)), (w1, .inl (cI, 256, .inl g_14))]) hP hD [2, 3, 4, 5, 6, 1] [0, 7] rfl rfl (by decide) (by decide) hk1 hFc hP1 hD1
        clear hz1 hk1 hFc hKc hDc hPc
        generalize H1 = H at hP hS ⊢
        have hP : va_P D vwCl [(h0, .inr (4, [.ref w1, .ref w2])), (w2, .inl (cI, 64, .inl gb)), (ph, .inr (3, [.ref p1, .ref p2, .ref p3, .ref p4, .int pn, .int fx, .int fy])), (p1, .inl (cI, 48, .inl qa)), (p2, .inl (cI, 48, .inl qb)), (p3, .inl (cI, 48, .inl qc)), (p4, .inl (cI, 48, .inl qd)), (w1, .inl (cI, 256, .inl g_14))] H := hP
        have hD : va_D A [(h0, .inr (4, [.ref w1, .ref w2])), (w2, .inl (cI, 64, .inl gb)), (ph, .inr (3, [.ref p1, .ref p2, .ref p3, .ref p4, .int pn, .int fx, .int fy])), (p1, .inl (cI, 48, .inl qa)), (p2, .inl (cI, 48, .inl qb)), (p3, .inl (cI, 48, .inl qc)), (p4, .inl (cI, 48, .inl qd)), (w1, .inl (cI, 256, .inl g_14))] := hD
        have hv9 : y_11 = vJ 3 4 y j := by rw [ey_11, ey_10, ey_8, ey_9, ex_j]; rfl
        refine lv_aload_n hx hb dX4_read_64 rfl (lv_at hl 4 rfl) ?_
        refine lv_iload_n hx hb dX4_read_65 rfl (lv_at hl 7 rfl) ?_
        refine lv_iload hx hb dX4_read_66 (lv_at hl 3 rfl) ?_
        refine lv_iload hx hb dX4_read_68 (lv_at hl 9 rfl) ?_
        have hPc := hP.sub (ws' := [(h0, .inr (4, [.ref w1, .ref w2])), (w1, .inl (cI, 256, .inl g_14)), (w2, .inl (cI, 64, .inl gb))]) [0, 7, 1] rfl
        have hDc := hD.sub (ws' := [(h0, .inr (4, [.ref w1, .ref w2])), (w1, .inl (cI, 256, .inl g_14)), (w2, .inl (cI, 64, .inl gb))]) [0, 7, 1] (by decide) rfl
        have hKc := hK.sub (tys' := [(cI, .int)]) [0] rfl
        have hFc := va_free (wc := [(h0, .inr (4, [.ref w1, .ref w2])), (w1, .inl (cI, 256, .inl g_14)), (w2, .inl (cI, 64, .inl gb))]) hD hS hA [0, 7, 1] rfl
        refine va_callv (va_runV (As := [.int wd, .int 4, .int ru]) (rest := []) ⟨hx, hb, hml, hown, hts⟩ (k_X4_addRow_4e l D H.size h0 w1 w2 g_14 gb wd ru W9 cI hwd hW9 hwt) (cwV 3 hts (gV bw_123 bw_128 bw_129 bw_111 bw_127) rfl rfl rfl (by decide +kernel) ⟨(by rw [hR]; exact Nat.le_of_ble_eq_true rfl), (by rw [hR]; exact Nat.le_of_ble_eq_true rfl)⟩) ⟨cP_blind, va_recv hKc hPc (ci := 4) (q0 := 0) rfl rfl, cP_at hPc hKc hDc hN⟩ rfl rfl hl.1 rfl (lv_room (Nat.le_of_ble_eq_true rfl)) dX4_read_70 ⟨(by rw [hR]; exact Nat.le_of_ble_eq_true rfl), (by rw [hR]; exact Nat.le_of_ble_eq_true rfl)⟩) hS (fun q _ h => hFc q h) hFc (fun u9 t9 H1 locs ht hvm hr_16 hB hz1 hk1 hS => ?_)
        try dsimp only at hr_16
        obtain ⟨g_17, b_18, hP1, hK1, hD1⟩ := hB
        rw [ht] at hP1
        obtain ⟨hP, hD⟩ := va_join (wr := [(ph, .inr (3, [.ref p1, .ref p2, .ref p3, .ref p4, .int pn, .int fx, .int fy])), (p1, .inl (cI, 48, .inl qa)), (p2, .inl (cI, 48, .inl qb)), (p3, .inl (cI, 48, .inl qc)), (p4, .inl (cI, 48, .inl qd))]) (w1 := [(h0, .inr (4, [.ref w1, .ref w2])), (w1, .inl (cI, 256, .inl g_14)), (w2, .inl (cI, 64, .inl g_17))]) hP hD [0, 7, 1] [2, 3, 4, 5, 6] rfl rfl (by decide) (by decide) hk1 hFc hP1 hD1
        clear hz1 hk1 hFc hKc hDc hPc
        generalize H1 = H at hP hS ⊢
        have hP : va_P D vwCl [(ph, .inr (3, [.ref p1, .ref p2, .ref p3, .ref p4, .int pn, .int fx, .int fy])), (p1, .inl (cI, 48, .inl qa)), (p2, .inl (cI, 48, .inl qb)), (p3, .inl (cI, 48, .inl qc)), (p4, .inl (cI, 48, .inl qd)), (h0, .inr (4, [.ref w1, .ref w2])), (w1, .inl (cI, 256, .inl g_14)), (w2, .inl (cI, 64, .inl g_17))] H := hP
        have hD : va_D A [(ph, .inr (3, [.ref p1, .ref p2, .ref p3, .ref p4, .int pn, .int fx, .int fy])), (p1, .inl (cI, 48, .inl qa)), (p2, .inl (cI, 48, .inl qb)), (p3, .inl (cI, 48, .inl qc)), (p4, .inl (cI, 48, .inl qd)), (h0, .inr (4, [.ref w1, .ref w2])), (w1, .inl (cI, 256, .inl g_14)), (w2, .inl (cI, 64, .inl g_17))] := hD
        obtain ⟨y_19, ey_19⟩ : ∃ y : Int32, y = x8 + 1 := ⟨_, rfl⟩
        refine lv_iinc (v := y_19) (lv' := [(8, .int y_19), (9, .int y_11), (7, .int 4), (6, .int 4), (0, .ref h0), (1, .ref ph), (2, .int y), (3, .int wd), (4, .int 3), (5, .int ru)]) hx hb dX4_read_73 hl (k := 1) rfl (by rw [ey_19]; rfl) (by decide) rfl (fun ls hl => ?_)
        refine lv_goto (tgt := 26) hx hb dX4_read_76 (by decide) ?_
        exact ih_5 (j + 1) y_19 g_14 g_17 _ _ _ (by omega) (by omega) (by rw [ey_19, ex_j]; exact nI_1 j) (fun x hx => by rw [b_18 x, if_pos hx, hcv x hx]; exact adR_eq 4 (fun i hi => (b_15 _ (by omega)).trans (by rw [hv9]))) (hP.sub (ws' := [(h0, .inr (4, [.ref w1, .ref w2])), (w1, .inl (cI, 256, .inl g_14)), (ph, .inr (3, [.ref p1, .ref p2, .ref p3, .ref p4, .int pn, .int fx, .int fy])), (p1, .inl (cI, 48, .inl qa)), (p2, .inl (cI, 48, .inl qb)), (p3, .inl (cI, 48, .inl qc)), (p4, .inl (cI, 48, .inl qd)), (w2, .inl (cI, 64, .inl g_17))]) [5, 6, 0, 1, 2, 3, 4, 7] rfl) (hD.sub (ws' := [(h0, .inr (4, [.ref w1, .ref w2])), (w1, .inl (cI, 256, .inl g_14)), (ph, .inr (3, [.ref p1, .ref p2, .ref p3, .ref p4, .int pn, .int fx, .int fy])), (p1, .inl (cI, 48, .inl qa)), (p2, .inl (cI, 48, .inl qb)), (p3, .inl (cI, 48, .inl qc)), (p4, .inl (cI, 48, .inl qd)), (w2, .inl (cI, 64, .inl g_17))]) [5, 6, 0, 1, 2, 3, 4, 7] (by decide) rfl) hS (lv_sub hl [0, 2, 3, 4, 5, 6, 7, 8, 9] rfl)
  exact loop_4 (4 + 1) 0 0 gw g_2 _ _ _ (by omega) (by omega) nI_0.symm (fun x hx => b_3 x (by omega)) hP hD hS (lv_sub hl [0, 1, 2, 3, 4, 5, 6, 7, 8] rfl)

set_option maxHeartbeats 4000000 in
set_option maxRecDepth 100000 in
theorem k_X4_read_5e (l : Launch) (D : va_G) (sz : Nat) (h0 ph : Nat) (w1 w2 : Nat) (p1 p2 p3 p4 : Nat) (pn fx fy : Int32) (qa : Nat → Int32) (qb : Nat → Int32) (qc : Nat → Int32) (qd : Nat → Int32) (gw : Nat → Int32) (gc : Nat → Int32) (y wd ru : Int32) (W9 : Nat) (cI : ClassId) (hpn : 0 ≤ pn.toInt ∧ pn.toInt ≤ 48) (hq8 : ∀ j : Nat, j < pn.toNatClampNeg → c8 (qa j) ∧ c8 (qb j) ∧ c8 (qc j) ∧ c8 (qd j)) (hwd : wd = nI W9) (hW9 : W9 ≤ 64) (hwt : wd.toInt = (W9 : Int)) : Met l yX4_read (wB yX4_read cX4_read 10 none) ({ frames := 3, cells := 0, slots := 0, locals := 74 }) (cP D [(h0, .inr (4, [.ref w1, .ref w2])), (w1, .inl (cI, 256, .inl gw)), (w2, .inl (cI, 64, .inl gc)), (ph, .inr (3, [.ref p1, .ref p2, .ref p3, .ref p4, .int pn, .int fx, .int fy])), (p1, .inl (cI, 48, .inl qa)), (p2, .inl (cI, 48, .inl qb)), (p3, .inl (cI, 48, .inl qc)), (p4, .inl (cI, 48, .inl qd))] [(cI, .int)] sz [.ref h0, .ref ph, .int y, .int wd, .int 5, .int ru]) (va_Qv (fun (_ : Unit) => True) (fun (_ : Unit) (t : State) => ∃ (g2 g3 : Nat → Int32), (∀ x : Nat, x < W9 → g3 x = cvN qa qb qc qd pn.toNatClampNeg ru 32 16 1 5 16 y x 1) ∧ cB D (va_A [(h0, .inr (4, [.ref w1, .ref w2])), (w1, .inl (cI, 256, .inl gw)), (w2, .inl (cI, 64, .inl gc)), (ph, .inr (3, [.ref p1, .ref p2, .ref p3, .ref p4, .int pn, .int fx, .int fy])), (p1, .inl (cI, 48, .inl qa)), (p2, .inl (cI, 48, .inl qb)), (p3, .inl (cI, 48, .inl qc)), (p4, .inl (cI, 48, .inl qd))] sz) [(h0, .inr (4, [.ref w1, .ref w2])), (w1, .inl (cI, 256, .inl g2)), (w2, .inl (cI, 64, .inl g3)), (ph, .inr (3, [.ref p1, .ref p2, .ref p3, .ref p4, .int pn, .int fx, .int fy])), (p1, .inl (cI, 48, .inl qa)), (p2, .inl (cI, 48, .inl qb)), (p3, .inl (cI, 48, .inl qc)), (p4, .inl (cI, 48, .inl qd))] [(cI, .int)] t) (va_A [(h0, .inr (4, [.ref w1, .ref w2])), (w1, .inl (cI, 256, .inl gw)), (w2, .inl (cI, 64, .inl gc)), (ph, .inr (3, [.ref p1, .ref p2, .ref p3, .ref p4, .int pn, .int fx, .int fy])), (p1, .inl (cI, 48, .inl qa)), (p2, .inl (cI, 48, .inl qb)), (p3, .inl (cI, 48, .inl qc)), (p4, .inl (cI, 48, .inl qd))] sz)) 0 0 (va_A [(h0, .inr (4, [.ref w1, .ref w2])), (w1, .inl (cI, 256, .inl gw)), (w2, .inl (cI, 64, .inl gc)), (ph, .inr (3, [.ref p1, .ref p2, .ref p3, .ref p4, .int pn, .int fx, .int fy])), (p1, .inl (cI, 48, .inl qa)), (p2, .inl (cI, 48, .inl qb)), (p3, .inl (cI, 48, .inl qc)), (p4, .inl (cI, 48, .inl qd))] sz) := by
  refine Met.ofW (cc := cX4_read) (maxL := 10) (ret := none) (by decide) rfl ?_
  intro p e s m args below meth c s₁ B hml hv
  obtain ⟨rfl, hsz, hP, hK, hD0, hN⟩ := hv
  have hx := B.exec
  have hb := B.bytes
  have hr := B.returns
  have hts0 := atoms_spec (ws := (wB yX4_read cX4_read 10 none)) B.pre
  have hts : ∀ w ∈ bigW, w.before _ s = true := fun w h => hts0 w (List.mem_cons_of_mem _ h)
  have hown : s.vm.findClass RX4 = some m.cls := findClass_of_methodNamed B.named
  have hlocks := B.notSynchronized
  subst hsz
  have hD := hD0.self (sz := s.heap.size)
  generalize hAe : va_A [(h0, .inr (4, [.ref w1, .ref w2])), (w1, .inl (cI, 256, .inl gw)), (w2, .inl (cI, 64, .inl gc)), (ph, .inr (3, [.ref p1, .ref p2, .ref p3, .ref p4, .int pn, .int fx, .int fy])), (p1, .inl (cI, 48, .inl qa)), (p2, .inl (cI, 48, .inl qb)), (p3, .inl (cI, 48, .inl qc)), (p4, .inl (cI, 48, .inl qd))] s.heap.size = A at hD ⊢
  have hA : ∀ q : Nat, s.heap.size ≤ q → A q := fun q h => by rw [← hAe]; exact Or.inr h
  have hS : va_S A s.heap s.heap [] := va_S.rf
  have hP : va_P D vwCl [(h0, .inr (4, [.ref w1, .ref w2])), (w1, .inl (cI, 256, .inl gw)), (w2, .inl (cI, 64, .inl gc)), (ph, .inr (3, [.ref p1, .ref p2, .ref p3, .ref p4, .int pn, .int fx, .int fy])), (p1, .inl (cI, 48, .inl qa)), (p2, .inl (cI, 48, .inl qb)), (p3, .inl (cI, 48, .inl qc)), (p4, .inl (cI, 48, .inl qd))] s.heap := hP
  have hl := lv_entry ([.ref h0, .ref ph, .int y, .int wd, .int 5, .int ru]) (n := 10) (Nat.le_of_ble_eq_true rfl)
  rw [lg_entry_eq]
  generalize (lg_sl ([.ref h0, .ref ph, .int y, .int wd, .int 5, .int ru]) ++ List.replicate (10 - (lg_sl ([.ref h0, .ref ph, .int y, .int wd, .int 5, .int ru])).length) Slot.unset).toArray = ls at hl ⊢
  have hl : lv_has ls 10 [(0, .ref h0), (1, .ref ph), (2, .int y), (3, .int wd), (4, .int 5), (5, .int ru)] := hl
  clear hts0 hD0 hAe
  refine my_abs (fun R Q hR hQ => ?_)
  refine lv_bipush (v := 32) hx hb dX4_read_0 (by decide) ?_
  refine lv_iload hx hb dX4_read_2 (lv_at hl 4 rfl) ?_
  refine lv_ishr hx hb dX4_read_4 ?_
  refine my_fold (v := 1) (by decide) ?_
  refine lv_istore (lv' := [(6, .int 1), (0, .ref h0), (1, .ref ph), (2, .int y), (3, .int wd), (4, .int 5), (5, .int ru)]) hx hb dX4_read_5 hl (by decide) rfl (fun ls hl => ?_)
  refine lv_iconst (v := 1) hx hb dX4_read_7 (by decide) ?_
  refine lv_iload hx hb dX4_read_8 (lv_at hl 5 rfl) ?_
  refine lv_ishl hx hb dX4_read_10 ?_
  refine my_fold (v := 32) (by decide) ?_
  refine lv_iconst (v := 2) hx hb dX4_read_11 (by decide) ?_
  refine lv_idiv hx hb dX4_read_12 (by decide) ?_
  refine my_fold (v := 16) (by decide) ?_
  refine lv_istore (lv' := [(7, .int 16), (6, .int 1), (0, .ref h0), (1, .ref ph), (2, .int y), (3, .int wd), (4, .int 5), (5, .int ru)]) hx hb dX4_read_13 hl (by decide) rfl (fun ls hl => ?_)
  refine lv_aload_n hx hb dX4_read_15 rfl (lv_at hl 2 rfl) ?_
  refine va_get (D := D) (ci := 4) (v := .ref w2) (C := RX4) (T := TX4) (N := 2) hx hb hts hi_X4 hown hK hP 0 rfl rfl 1 (by decide) (hts _ bw_117) (fun _ h9 => h9) rfl dX4_read_16 ?_
  refine lv_iconst (v := 0) hx hb dX4_read_19 (by decide) ?_
  have hPc := hP.sub (ws' := [(w2, .inl (cI, 64, .inl gc))]) [2] rfl
  have hDc := hD.sub (ws' := [(w2, .inl (cI, 64, .inl gc))]) [2] (by decide) rfl
  have hKc := hK.sub (tys' := [(cI, .int)]) [0] rfl
  have hFc := va_free (wc := [(w2, .inl (cI, 64, .inl gc))]) hD hS hA [2] rfl
  refine va_callv (va_runS (As := [.ref w2, .int 0]) (rest := []) ⟨hx, hb, hml, hown, hts⟩ (k_J7_fill_53178_64 l D s.heap.size w2 gc 0 cI) (va_cwS 2 hts (gS bw_121 bw_95 bw_96 bw_97) rfl rfl rfl (by decide +kernel) ⟨(by rw [hR]; exact Nat.le_of_ble_eq_true rfl), (by rw [hR]; exact Nat.le_of_ble_eq_true rfl)⟩) ⟨cP_blind, cP_at hPc hKc hDc hN⟩ rfl rfl hl.1 rfl (lv_room (Nat.le_of_ble_eq_true rfl)) dX4_read_20 ⟨(by rw [hR]; exact Nat.le_of_ble_eq_true rfl), (by rw [hR]; exact Nat.le_of_ble_eq_true rfl)⟩) hS (fun q _ h => hFc q h) hFc (fun u9 t9 H1 locs ht hvm hr_1 hB hz1 hk1 hS => ?_)
  try dsimp only at hr_1
  obtain ⟨g_2, b_3, hP1, hK1, hD1⟩ := hB
  rw [ht] at hP1
  obtain ⟨hP, hD⟩ := va_join (wr := [(h0, .inr (4, [.ref w1, .ref w2])), (w1, .inl (cI, 256, .inl gw)), (ph, .inr (3, [.ref p1, .ref p2, .ref p3, .ref p4, .int pn, .int fx, .int fy])), (p1, .inl (cI, 48, .inl qa)), (p2, .inl (cI, 48, .inl qb)), (p3, .inl (cI, 48, .inl qc)), (p4, .inl (cI, 48, .inl qd))]) (w1 := [(w2, .inl (cI, 64, .inl g_2))]) hP hD [2] [0, 1, 3, 4, 5, 6, 7] rfl rfl (by decide) (by decide) hk1 hFc hP1 hD1
  clear hz1 hk1 hFc hKc hDc hPc
  generalize H1 = H at hP hS ⊢
  have hP : va_P D vwCl [(h0, .inr (4, [.ref w1, .ref w2])), (w1, .inl (cI, 256, .inl gw)), (ph, .inr (3, [.ref p1, .ref p2, .ref p3, .ref p4, .int pn, .int fx, .int fy])), (p1, .inl (cI, 48, .inl qa)), (p2, .inl (cI, 48, .inl qb)), (p3, .inl (cI, 48, .inl qc)), (p4, .inl (cI, 48, .inl qd)), (w2, .inl (cI, 64, .inl g_2))] H := hP
  have hD : va_D A [(h0, .inr (4, [.ref w1, .ref w2])), (w1, .inl (cI, 256, .inl gw)), (ph, .inr (3, [.ref p1, .ref p2, .ref p3, .ref p4, .int pn, .int fx, .int fy])), (p1, .inl (cI, 48, .inl qa)), (p2, .inl (cI, 48, .inl qb)), (p3, .inl (cI, 48, .inl qc)), (p4, .inl (cI, 48, .inl qd)), (w2, .inl (cI, 64, .inl g_2))] := hD
  refine lv_iconst (v := 0) hx hb dX4_read_23 (by decide) ?_
  refine lv_istore (lv' := [(8, .int 0), (7, .int 16), (6, .int 1), (0, .ref h0), (1, .ref ph), (2, .int y), (3, .int wd), (4, .int 5), (5, .int ru)]) hx hb dX4_read_24 hl (by decide) rfl (fun ls hl => ?_)
  have loop_4 : ∀ (n : Nat) (j : Nat) (x8 : Int32) (ga : Nat → Int32) (gb : Nat → Int32) (H : Heap) (locs : List Loc) (ls : Array Slot), (j ≤ 1) → (1 + 1 ≤ j + n) → (x8 = nI j) → (∀ x : Nat, x < W9 → gb x = cvN qa qb qc qd pn.toNatClampNeg ru 32 16 1 5 16 y x j) → va_P D vwCl [(h0, .inr (4, [.ref w1, .ref w2])), (w1, .inl (cI, 256, .inl ga)), (ph, .inr (3, [.ref p1, .ref p2, .ref p3, .ref p4, .int pn, .int fx, .int fy])), (p1, .inl (cI, 48, .inl qa)), (p2, .inl (cI, 48, .inl qb)), (p3, .inl (cI, 48, .inl qc)), (p4, .inl (cI, 48, .inl qd)), (w2, .inl (cI, 64, .inl gb))] H → va_D A [(h0, .inr (4, [.ref w1, .ref w2])), (w1, .inl (cI, 256, .inl ga)), (ph, .inr (3, [.ref p1, .ref p2, .ref p3, .ref p4, .int pn, .int fx, .int fy])), (p1, .inl (cI, 48, .inl qa)), (p2, .inl (cI, 48, .inl qb)), (p3, .inl (cI, 48, .inl qc)), (p4, .inl (cI, 48, .inl qd)), (w2, .inl (cI, 64, .inl gb))] → va_S A s.heap H locs → lv_has ls 10 [(8, .int x8), (7, .int 16), (6, .int 1), (0, .ref h0), (1, .ref ph), (2, .int y), (3, .int wd), (4, .int 5), (5, .int ru)] → W p l e R s m ([.ref h0, .ref ph, .int y, .int wd, .int 5, .int ru] : List Value).toArray below meth c H locs 0 0 Q (F0 m 26 ls []) := by
    intro n
    induction n with
    | zero =>
      intro j x8 ga gb H locs ls hi_j hm_j ex_j hcv hP hD hS hl
      exact absurd (show False by omega) not_false
    | succ n ih_5 =>
      intro j x8 ga gb H locs ls hi_j hm_j ex_j hcv hP hD hS hl
      have hx_j : x8.toInt = (j : Int) := by rw [ex_j]; exact nI_toInt (by omega)
      have hc_j : x8.toNatClampNeg = j := by rw [ex_j]; exact nI_clamp (by omega)
      refine lv_iload hx hb dX4_read_26 (lv_at hl 0 rfl) ?_
      refine lv_iload hx hb dX4_read_28 (lv_at hl 2 rfl) ?_
      refine lv_icmp_ge (tgt := 79) hx hb dX4_read_30 (by decide) (fun c_6 => ?_) (fun c_6 => ?_)
      · skip
        have f_7 : 1 ≤ (j : Int) := f_le (by decide) hx_j c_6
        have hP9 := hP.sub (ws' := [(h0, .inr (4, [.ref w1, .ref w2])), (w1, .inl (cI, 256, .inl ga)), (w2, .inl (cI, 64, .inl gb)), (ph, .inr (3, [.ref p1, .ref p2, .ref p3, .ref p4, .int pn, .int fx, .int fy])), (p1, .inl (cI, 48, .inl qa)), (p2, .inl (cI, 48, .inl qb)), (p3, .inl (cI, 48, .inl qc)), (p4, .inl (cI, 48, .inl qd))]) [0, 1, 7, 2, 3, 4, 5, 6] rfl
        have hD9 := hD.sub (ws' := [(h0, .inr (4, [.ref w1, .ref w2])), (w1, .inl (cI, 256, .inl ga)), (w2, .inl (cI, 64, .inl gb)), (ph, .inr (3, [.ref p1, .ref p2, .ref p3, .ref p4, .int pn, .int fx, .int fy])), (p1, .inl (cI, 48, .inl qa)), (p2, .inl (cI, 48, .inl qb)), (p3, .inl (cI, 48, .inl qc)), (p4, .inl (cI, 48, .inl qd))]) [0, 1, 7, 2, 3, 4, 5, 6] (by decide) rfl
        have hK9 := hK.sub (tys' := [(cI, .int)]) [0] rfl
        refine hQ _ _ _ _ _ ?_
        exact W.vret hx hb hr (fun t ht hW => ⟨⟨(), rfl, trivial, ⟨ga, gb, (fun x hx => by rw [hcv x hx, show j = 1 by omega]), by rw [ht]; exact hP9, va_K.moved hW.alike hK9, hD9⟩⟩, hS.F ht⟩) hS.2.2 dX4_read_79
      · skip
        have f_7 : ¬ (1 ≤ (j : Int)) := fn_le (by decide) hx_j c_6
        refine lv_iload_n hx hb dX4_read_33 rfl (lv_at hl 5 rfl) ?_
        refine lv_bipush (v := 32) hx hb dX4_read_34 (by decide) ?_
        refine lv_imul hx hb dX4_read_36 ?_
        refine lv_topi (fun y_8 ey_8 => ?_)
        refine lv_iload hx hb dX4_read_37 (lv_at hl 0 rfl) ?_
        refine lv_iload hx hb dX4_read_39 (lv_at hl 7 rfl) ?_
        refine lv_ishl hx hb dX4_read_41 ?_
        refine lv_topi (fun y_9 ey_9 => ?_)
        refine lv_iadd hx hb dX4_read_42 ?_
        refine lv_topi (fun y_10 ey_10 => ?_)
        refine lv_iload hx hb dX4_read_43 (lv_at hl 1 rfl) ?_
        refine lv_iadd hx hb dX4_read_45 ?_
        refine lv_topi (fun y_11 ey_11 => ?_)
        refine lv_istore (lv' := [(9, .int y_11), (8, .int x8), (7, .int 16), (6, .int 1), (0, .ref h0), (1, .ref ph), (2, .int y), (3, .int wd), (4, .int 5), (5, .int ru)]) hx hb dX4_read_46 hl (by decide) rfl (fun ls hl => ?_)
        refine lv_aload_n hx hb dX4_read_48 rfl (lv_at hl 5 rfl) ?_
        refine lv_iload hx hb dX4_read_49 (lv_at hl 0 rfl) ?_
        refine lv_iload hx hb dX4_read_51 (lv_at hl 8 rfl) ?_
        refine lv_aload_n hx hb dX4_read_53 rfl (lv_at hl 4 rfl) ?_
        refine va_get (D := D) (ci := 4) (v := .ref w1) (C := RX4) (T := TX4) (N := 2) hx hb hts hi_X4 hown hK hP 0 rfl rfl 0 (by decide) (hts _ bw_116) (fun _ h9 => h9) rfl dX4_read_54 ?_
        refine lv_iload_n hx hb dX4_read_57 rfl (lv_at hl 7 rfl) ?_
        refine lv_iload hx hb dX4_read_58 (lv_at hl 3 rfl) ?_
        refine lv_imul hx hb dX4_read_60 ?_
        refine lv_topi (fun y_12 ey_12 => ?_)
        have hPc := hP.sub (ws' := [(ph, .inr (3, [.ref p1, .ref p2, .ref p3, .ref p4, .int pn, .int fx, .int fy])), (p1, .inl (cI, 48, .inl qa)), (p2, .inl (cI, 48, .inl qb)), (p3, .inl (cI, 48, .inl qc)), (p4, .inl (cI, 48, .inl qd)), (w1, .inl (cI, 256, .inl ga))]) [2, 3, 4, 5, 6, 1] rfl
        have hDc := hD.sub (ws' := [(ph, .inr (3, [.ref p1, .ref p2, .ref p3, .ref p4, .int pn, .int fx, .int fy])), (p1, .inl (cI, 48, .inl qa)), (p2, .inl (cI, 48, .inl qb)), (p3, .inl (cI, 48, .inl qc)), (p4, .inl (cI, 48, .inl qd)), (w1, .inl (cI, 256, .inl ga))]) [2, 3, 4, 5, 6, 1] (by decide) rfl
        have hKc := hK.sub (tys' := [(cI, .int)]) [0] rfl
        have hFc := va_free (wc := [(ph, .inr (3, [.ref p1, .ref p2, .ref p3, .ref p4, .int pn, .int fx, .int fy])), (p1, .inl (cI, 48, .inl qa)), (p2, .inl (cI, 48, .inl qb)), (p3, .inl (cI, 48, .inl qc)), (p4, .inl (cI, 48, .inl qd)), (w1, .inl (cI, 256, .inl ga))]) hD hS hA [2, 3, 4, 5, 6, 1] rfl
        refine va_callv (va_runV (As := [.int y_11, .int 5, .ref w1, .int y_12]) (rest := []) ⟨hx, hb, hml, hown, hts⟩ (k_X3_windRow_5e l D H.size ph w1 p1 p2 p3 p4 pn fx fy qa qb qc qd ga y_11 y_12 (W9 * 1) cI (by first | assumption | omega | decide) (by first | assumption | omega | decide) (by rw [ey_12, hwd]; exact pk_mul W9 1) (by omega)) (cwV 4 hts (gV bw_122 bw_91 bw_92 bw_67 bw_90) rfl rfl rfl (by decide +kernel) ⟨(by rw [hR]; exact Nat.le_of_ble_eq_true rfl), (by rw [hR]; exact Nat.le_of_ble_eq_true rfl)⟩) ⟨cP_blind, va_recv hKc hPc (ci := 3) (q0 := 0) rfl rfl, cP_at hPc hKc hDc hN⟩ rfl rfl hl.1 rfl (lv_room (Nat.le_of_ble_eq_true rfl)) dX4_read_61 ⟨(by rw [hR]; exact Nat.le_of_ble_eq_true rfl), (by rw [hR]; exact Nat.le_of_ble_eq_true rfl)⟩) hS (fun q _ h => hFc q h) hFc (fun u9 t9 H1 locs ht hvm hr_13 hB hz1 hk1 hS => ?_)
        try dsimp only at hr_13
        obtain ⟨g_14, b_15, hP1, hK1, hD1⟩ := hB
        rw [ht] at hP1
        obtain ⟨hP, hD⟩ := va_join (wr := [(h0, .inr (4, [.ref w1, .ref w2])), (w2, .inl (cI, 64, .inl gb))]) (w1 := [(ph, .inr (3, [.ref p1, .ref p2, .ref p3, .ref p4, .int pn, .int fx, .int fy])), (p1, .inl (cI, 48, .inl qa)), (p2, .inl (cI, 48, .inl qb)), (p3, .inl (cI, 48, .inl qc)), (p4, .inl (cI, 48, .inl qd)), (w1, .inl (cI, 256, .inl g_14))]) hP hD [2, 3, 4, 5, 6, 1] [0, 7] rfl rfl (by decide) (by decide) hk1 hFc hP1 hD1
        clear hz1 hk1 hFc hKc hDc hPc
        generalize H1 = H at hP hS ⊢
        have hP : va_P D vwCl [(h0, .inr (4, [.ref w1, .ref w2])), (w2, .inl (cI, 64, .inl gb)), (ph, .inr (3, [.ref p1, .ref p2, .ref p3, .ref p4, .int pn, .int fx, .int fy])), (p1, .inl (cI, 48, .inl qa)), (p2, .inl (cI, 48, .inl qb)), (p3, .inl (cI, 48, .inl qc)), (p4, .inl (cI, 48, .inl qd)), (w1, .inl (cI, 256, .inl g_14))] H := hP
        have hD : va_D A [(h0, .inr (4, [.ref w1, .ref w2])), (w2, .inl (cI, 64, .inl gb)), (ph, .inr (3, [.ref p1, .ref p2, .ref p3, .ref p4, .int pn, .int fx, .int fy])), (p1, .inl (cI, 48, .inl qa)), (p2, .inl (cI, 48, .inl qb)), (p3, .inl (cI, 48, .inl qc)), (p4, .inl (cI, 48, .inl qd)), (w1, .inl (cI, 256, .inl g_14))] := hD
        have hv9 : y_11 = vJ 5 16 y j := by rw [ey_11, ey_10, ey_8, ey_9, ex_j]; rfl
        refine lv_aload_n hx hb dX4_read_64 rfl (lv_at hl 4 rfl) ?_
        refine lv_iload_n hx hb dX4_read_65 rfl (lv_at hl 7 rfl) ?_
        refine lv_iload hx hb dX4_read_66 (lv_at hl 3 rfl) ?_
        refine lv_iload hx hb dX4_read_68 (lv_at hl 9 rfl) ?_
        have hPc := hP.sub (ws' := [(h0, .inr (4, [.ref w1, .ref w2])), (w1, .inl (cI, 256, .inl g_14)), (w2, .inl (cI, 64, .inl gb))]) [0, 7, 1] rfl
        have hDc := hD.sub (ws' := [(h0, .inr (4, [.ref w1, .ref w2])), (w1, .inl (cI, 256, .inl g_14)), (w2, .inl (cI, 64, .inl gb))]) [0, 7, 1] (by decide) rfl
        have hKc := hK.sub (tys' := [(cI, .int)]) [0] rfl
        have hFc := va_free (wc := [(h0, .inr (4, [.ref w1, .ref w2])), (w1, .inl (cI, 256, .inl g_14)), (w2, .inl (cI, 64, .inl gb))]) hD hS hA [0, 7, 1] rfl
        refine va_callv (va_runV (As := [.int wd, .int 1, .int ru]) (rest := []) ⟨hx, hb, hml, hown, hts⟩ (k_X4_addRow_1e l D H.size h0 w1 w2 g_14 gb wd ru W9 cI hwd hW9 hwt) (cwV 3 hts (gV bw_123 bw_128 bw_129 bw_111 bw_127) rfl rfl rfl (by decide +kernel) ⟨(by rw [hR]; exact Nat.le_of_ble_eq_true rfl), (by rw [hR]; exact Nat.le_of_ble_eq_true rfl)⟩) ⟨cP_blind, va_recv hKc hPc (ci := 4) (q0 := 0) rfl rfl, cP_at hPc hKc hDc hN⟩ rfl rfl hl.1 rfl (lv_room (Nat.le_of_ble_eq_true rfl)) dX4_read_70 ⟨(by rw [hR]; exact Nat.le_of_ble_eq_true rfl), (by rw [hR]; exact Nat.le_of_ble_eq_true rfl)⟩) hS (fun q _ h => hFc q h) hFc (fun u9 t9 H1 locs ht hvm hr_16 hB hz1 hk1 hS => ?_)
        try dsimp only at hr_16
        obtain ⟨g_17, b_18, hP1, hK1, hD1⟩ := hB
        rw [ht] at hP1
        obtain ⟨hP, hD⟩ := va_join (wr := [(ph, .inr (3, [.ref p1, .ref p2, .ref p3, .ref p4, .int pn, .int fx, .int fy])), (p1, .inl (cI, 48, .inl qa)), (p2, .inl (cI, 48, .inl qb)), (p3, .inl (cI, 48, .inl qc)), (p4, .inl (cI, 48, .inl qd))]) (w1 := [(h0, .inr (4, [.ref w1, .ref w2])), (w1, .inl (cI, 256, .inl g_14)), (w2, .inl (cI, 64, .inl g_17))]) hP hD [0, 7, 1] [2, 3, 4, 5, 6] rfl rfl (by decide) (by decide) hk1 hFc hP1 hD1
        clear hz1 hk1 hFc hKc hDc hPc
        generalize H1 = H at hP hS ⊢
        have hP : va_P D vwCl [(ph, .inr (3, [.ref p1, .ref p2, .ref p3, .ref p4, .int pn, .int fx, .int fy])), (p1, .inl (cI, 48, .inl qa)), (p2, .inl (cI, 48, .inl qb)), (p3, .inl (cI, 48, .inl qc)), (p4, .inl (cI, 48, .inl qd)), (h0, .inr (4, [.ref w1, .ref w2])), (w1, .inl (cI, 256, .inl g_14)), (w2, .inl (cI, 64, .inl g_17))] H := hP
        have hD : va_D A [(ph, .inr (3, [.ref p1, .ref p2, .ref p3, .ref p4, .int pn, .int fx, .int fy])), (p1, .inl (cI, 48, .inl qa)), (p2, .inl (cI, 48, .inl qb)), (p3, .inl (cI, 48, .inl qc)), (p4, .inl (cI, 48, .inl qd)), (h0, .inr (4, [.ref w1, .ref w2])), (w1, .inl (cI, 256, .inl g_14)), (w2, .inl (cI, 64, .inl g_17))] := hD
        obtain ⟨y_19, ey_19⟩ : ∃ y : Int32, y = x8 + 1 := ⟨_, rfl⟩
        refine lv_iinc (v := y_19) (lv' := [(8, .int y_19), (9, .int y_11), (7, .int 16), (6, .int 1), (0, .ref h0), (1, .ref ph), (2, .int y), (3, .int wd), (4, .int 5), (5, .int ru)]) hx hb dX4_read_73 hl (k := 1) rfl (by rw [ey_19]; rfl) (by decide) rfl (fun ls hl => ?_)
        refine lv_goto (tgt := 26) hx hb dX4_read_76 (by decide) ?_
        exact ih_5 (j + 1) y_19 g_14 g_17 _ _ _ (by omega) (by omega) (by rw [ey_19, ex_j]; exact nI_1 j) (fun x hx => by rw [b_18 x, if_pos hx, hcv x hx]; exact adR_eq 1 (fun i hi => (b_15 _ (by omega)).trans (by rw [hv9]))) (hP.sub (ws' := [(h0, .inr (4, [.ref w1, .ref w2])), (w1, .inl (cI, 256, .inl g_14)), (ph, .inr (3, [.ref p1, .ref p2, .ref p3, .ref p4, .int pn, .int fx, .int fy])), (p1, .inl (cI, 48, .inl qa)), (p2, .inl (cI, 48, .inl qb)), (p3, .inl (cI, 48, .inl qc)), (p4, .inl (cI, 48, .inl qd)), (w2, .inl (cI, 64, .inl g_17))]) [5, 6, 0, 1, 2, 3, 4, 7] rfl) (hD.sub (ws' := [(h0, .inr (4, [.ref w1, .ref w2])), (w1, .inl (cI, 256, .inl g_14)), (ph, .inr (3, [.ref p1, .ref p2, .ref p3, .ref p4, .int pn, .int fx, .int fy])), (p1, .inl (cI, 48, .inl qa)), (p2, .inl (cI, 48, .inl qb)), (p3, .inl (cI, 48, .inl qc)), (p4, .inl (cI, 48, .inl qd)), (w2, .inl (cI, 64, .inl g_17))]) [5, 6, 0, 1, 2, 3, 4, 7] (by decide) rfl) hS (lv_sub hl [0, 2, 3, 4, 5, 6, 7, 8, 9] rfl)
  exact loop_4 (1 + 1) 0 0 gw g_2 _ _ _ (by omega) (by omega) nI_0.symm (fun x hx => b_3 x (by omega)) hP hD hS (lv_sub hl [0, 1, 2, 3, 4, 5, 6, 7, 8] rfl)

set_option maxHeartbeats 4000000 in
set_option maxRecDepth 100000 in
theorem k_X7_draw_e (l : Launch) (D : va_G) (sz : Nat) (h0 : Nat) (t1 t2 t3 ol : Nat) (p1 p2 p3 p4 : Nat) (pn fx fy : Int32) (qa : Nat → Int32) (qb : Nat → Int32) (qc : Nat → Int32) (qd : Nat → Int32) (ua : Nat → Int32) (ub : Nat → Int32) (cI : ClassId) : Met l yX7_draw (wB yX7_draw cX7_draw 2 none) ({ frames := 1, cells := 0, slots := 0, locals := 23 }) (cP D [(h0, .inr (7, [.ref t1, .ref t2, .ref t3, .ref ol])), (t1, .inl (cI, 3, .inl ua)), (t2, .inl (cI, 3, .inl ub)), (ol, .inr (3, [.ref p1, .ref p2, .ref p3, .ref p4, .int pn, .int fx, .int fy])), (p1, .inl (cI, 48, .inl qa)), (p2, .inl (cI, 48, .inl qb)), (p3, .inl (cI, 48, .inl qc)), (p4, .inl (cI, 48, .inl qd))] [(cI, .int)] sz [.ref h0]) (va_Qv (fun (_ : Unit) => True) (fun (_ : Unit) (t : State) => ∃ (pn2 fx2 fy2 : Int32), ∃ (g2 g3 g4 g5 : Nat → Int32), (pn2 = 3) ∧ (∀ j : Nat, j < 3 → g2 j = tq ua j ∧ g3 j = tq ub j ∧ g4 j = tr ua j ∧ g5 j = tr ub j) ∧ cB D (va_A [(h0, .inr (7, [.ref t1, .ref t2, .ref t3, .ref ol])), (t1, .inl (cI, 3, .inl ua)), (t2, .inl (cI, 3, .inl ub)), (ol, .inr (3, [.ref p1, .ref p2, .ref p3, .ref p4, .int pn, .int fx, .int fy])), (p1, .inl (cI, 48, .inl qa)), (p2, .inl (cI, 48, .inl qb)), (p3, .inl (cI, 48, .inl qc)), (p4, .inl (cI, 48, .inl qd))] sz) [(h0, .inr (7, [.ref t1, .ref t2, .ref t3, .ref ol])), (t1, .inl (cI, 3, .inl ua)), (t2, .inl (cI, 3, .inl ub)), (ol, .inr (3, [.ref p1, .ref p2, .ref p3, .ref p4, .int pn2, .int fx2, .int fy2])), (p1, .inl (cI, 48, .inl g2)), (p2, .inl (cI, 48, .inl g3)), (p3, .inl (cI, 48, .inl g4)), (p4, .inl (cI, 48, .inl g5))] [(cI, .int)] t) (va_A [(h0, .inr (7, [.ref t1, .ref t2, .ref t3, .ref ol])), (t1, .inl (cI, 3, .inl ua)), (t2, .inl (cI, 3, .inl ub)), (ol, .inr (3, [.ref p1, .ref p2, .ref p3, .ref p4, .int pn, .int fx, .int fy])), (p1, .inl (cI, 48, .inl qa)), (p2, .inl (cI, 48, .inl qb)), (p3, .inl (cI, 48, .inl qc)), (p4, .inl (cI, 48, .inl qd))] sz)) 0 0 (va_A [(h0, .inr (7, [.ref t1, .ref t2, .ref t3, .ref ol])), (t1, .inl (cI, 3, .inl ua)), (t2, .inl (cI, 3, .inl ub)), (ol, .inr (3, [.ref p1, .ref p2, .ref p3, .ref p4, .int pn, .int fx, .int fy])), (p1, .inl (cI, 48, .inl qa)), (p2, .inl (cI, 48, .inl qb)), (p3, .inl (cI, 48, .inl qc)), (p4, .inl (cI, 48, .inl qd))] sz) := by
  refine Met.ofW (cc := cX7_draw) (maxL := 2) (ret := none) (by decide) rfl ?_
  intro p e s m args below meth c s₁ B hml hv
  obtain ⟨rfl, hsz, hP, hK, hD0, hN⟩ := hv
  have hx := B.exec
  have hb := B.bytes
  have hr := B.returns
  have hts0 := atoms_spec (ws := (wB yX7_draw cX7_draw 2 none)) B.pre
  have hts : ∀ w ∈ bigW, w.before _ s = true := fun w h => hts0 w (List.mem_cons_of_mem _ h)
  have hown : s.vm.findClass RX7 = some m.cls := findClass_of_methodNamed B.named
  have hlocks := B.notSynchronized
  subst hsz
  have hD := hD0.self (sz := s.heap.size)
  generalize hAe : va_A [(h0, .inr (7, [.ref t1, .ref t2, .ref t3, .ref ol])), (t1, .inl (cI, 3, .inl ua)), (t2, .inl (cI, 3, .inl ub)), (ol, .inr (3, [.ref p1, .ref p2, .ref p3, .ref p4, .int pn, .int fx, .int fy])), (p1, .inl (cI, 48, .inl qa)), (p2, .inl (cI, 48, .inl qb)), (p3, .inl (cI, 48, .inl qc)), (p4, .inl (cI, 48, .inl qd))] s.heap.size = A at hD ⊢
  have hA : ∀ q : Nat, s.heap.size ≤ q → A q := fun q h => by rw [← hAe]; exact Or.inr h
  have hS : va_S A s.heap s.heap [] := va_S.rf
  have hP : va_P D vwCl [(h0, .inr (7, [.ref t1, .ref t2, .ref t3, .ref ol])), (t1, .inl (cI, 3, .inl ua)), (t2, .inl (cI, 3, .inl ub)), (ol, .inr (3, [.ref p1, .ref p2, .ref p3, .ref p4, .int pn, .int fx, .int fy])), (p1, .inl (cI, 48, .inl qa)), (p2, .inl (cI, 48, .inl qb)), (p3, .inl (cI, 48, .inl qc)), (p4, .inl (cI, 48, .inl qd))] s.heap := hP
  have hl := lv_entry ([.ref h0]) (n := 2) (Nat.le_of_ble_eq_true rfl)
  rw [lg_entry_eq]
  generalize (lg_sl ([.ref h0]) ++ List.replicate (2 - (lg_sl ([.ref h0])).length) Slot.unset).toArray = ls at hl ⊢
  have hl : lv_has ls 2 [(0, .ref h0)] := hl
  clear hts0 hD0 hAe
  refine my_abs (fun R Q hR hQ => ?_)
  refine lv_aload_n hx hb dX7_draw_0 rfl (lv_at hl 0 rfl) ?_
  refine va_get (D := D) (ci := 7) (v := .ref ol) (C := RX7) (T := TX7) (N := 4) hx hb hts hi_X7 hown hK hP 0 rfl rfl 3 (by decide) (hts _ bw_204) (fun _ h9 => h9) rfl dX7_draw_1 ?_
  have hPc := hP.sub (ws' := [(ol, .inr (3, [.ref p1, .ref p2, .ref p3, .ref p4, .int pn, .int fx, .int fy]))]) [3] rfl
  have hDc := hD.sub (ws' := [(ol, .inr (3, [.ref p1, .ref p2, .ref p3, .ref p4, .int pn, .int fx, .int fy]))]) [3] (by decide) rfl
  have hKc := hK.sub (tys' := []) [] rfl
  have hFc := va_free (wc := [(ol, .inr (3, [.ref p1, .ref p2, .ref p3, .ref p4, .int pn, .int fx, .int fy]))]) hD hS hA [3] rfl
  refine va_callv (va_runV (As := []) (rest := []) ⟨hx, hb, hml, hown, hts⟩ (k_X3_empty l D s.heap.size ol p1 p2 p3 p4 pn fx fy) (cwV 0 hts (gV bw_211 bw_80 bw_81 bw_67 bw_79) rfl rfl rfl (by decide +kernel) ⟨(by rw [hR]; exact Nat.le_of_ble_eq_true rfl), (by rw [hR]; exact Nat.le_of_ble_eq_true rfl)⟩) ⟨cP_blind, va_recv hKc hPc (ci := 3) (q0 := 0) rfl rfl, cP_at hPc hKc hDc hN⟩ rfl rfl hl.1 rfl (lv_room (Nat.le_of_ble_eq_true rfl)) dX7_draw_4 ⟨(by rw [hR]; exact Nat.le_of_ble_eq_true rfl), (by rw [hR]; exact Nat.le_of_ble_eq_true rfl)⟩) hS (fun q _ h => hFc q h) hFc (fun u9 t9 H1 locs ht hvm hr_1 hB hz1 hk1 hS => ?_)
  try dsimp only at hr_1
  obtain ⟨hP1, hK1, hD1⟩ := hB
  rw [ht] at hP1
  obtain ⟨hP, hD⟩ := va_join (wr := [(h0, .inr (7, [.ref t1, .ref t2, .ref t3, .ref ol])), (t1, .inl (cI, 3, .inl ua)), (t2, .inl (cI, 3, .inl ub)), (p1, .inl (cI, 48, .inl qa)), (p2, .inl (cI, 48, .inl qb)), (p3, .inl (cI, 48, .inl qc)), (p4, .inl (cI, 48, .inl qd))]) (w1 := [(ol, .inr (3, [.ref p1, .ref p2, .ref p3, .ref p4, .int 0, .int fx, .int fy]))]) hP hD [3] [0, 1, 2, 4, 5, 6, 7] rfl rfl (by decide) (by decide) hk1 hFc hP1 hD1
  clear hz1 hk1 hFc hKc hDc hPc
  generalize H1 = H at hP hS ⊢
  have hP : va_P D vwCl [(h0, .inr (7, [.ref t1, .ref t2, .ref t3, .ref ol])), (t1, .inl (cI, 3, .inl ua)), (t2, .inl (cI, 3, .inl ub)), (p1, .inl (cI, 48, .inl qa)), (p2, .inl (cI, 48, .inl qb)), (p3, .inl (cI, 48, .inl qc)), (p4, .inl (cI, 48, .inl qd)), (ol, .inr (3, [.ref p1, .ref p2, .ref p3, .ref p4, .int 0, .int fx, .int fy]))] H := hP
  have hD : va_D A [(h0, .inr (7, [.ref t1, .ref t2, .ref t3, .ref ol])), (t1, .inl (cI, 3, .inl ua)), (t2, .inl (cI, 3, .inl ub)), (p1, .inl (cI, 48, .inl qa)), (p2, .inl (cI, 48, .inl qb)), (p3, .inl (cI, 48, .inl qc)), (p4, .inl (cI, 48, .inl qd)), (ol, .inr (3, [.ref p1, .ref p2, .ref p3, .ref p4, .int 0, .int fx, .int fy]))] := hD
  refine lv_iconst (v := 0) hx hb dX7_draw_7 (by decide) ?_
  refine lv_istore_n (lv' := [(1, .int 0), (0, .ref h0)]) hx hb dX7_draw_8 rfl hl (by decide) rfl (fun ls hl => ?_)
  refine lv_iload_n hx hb dX7_draw_9 rfl (lv_at hl 0 rfl) ?_
  refine lv_iconst (v := 3) hx hb dX7_draw_10 (by decide) ?_
  refine lv_icmp_ge (tgt := 47) hx hb dX7_draw_11 (by decide) (fun c_2 => ?_) (fun c_2 => ?_)
  · skip
    exact absurd c_2 (by decide)
  · skip
    refine lv_aload_n hx hb dX7_draw_14 rfl (lv_at hl 1 rfl) ?_
    refine va_get (D := D) (ci := 7) (v := .ref ol) (C := RX7) (T := TX7) (N := 4) hx hb hts hi_X7 hown hK hP 0 rfl rfl 3 (by decide) (hts _ bw_204) (fun _ h9 => h9) rfl dX7_draw_15 ?_
    refine lv_aload_n hx hb dX7_draw_18 rfl (lv_at hl 1 rfl) ?_
    refine va_get (D := D) (ci := 7) (v := .ref t1) (C := RX7) (T := TX7) (N := 4) hx hb hts hi_X7 hown hK hP 0 rfl rfl 0 (by decide) (hts _ bw_200) (fun _ h9 => h9) rfl dX7_draw_19 ?_
    refine lv_iload_n hx hb dX7_draw_22 rfl (lv_at hl 0 rfl) ?_
    refine va_iald hx hb hK hP 1 0 rfl rfl (my_in (by decide) (by decide)) dX7_draw_23 ?_
    refine my_fold (v := ua 0) (congrArg ua (by decide)) ?_
    refine lv_bipush (v := 32) hx hb dX7_draw_24 (by decide) ?_
    refine lv_imul hx hb dX7_draw_26 ?_
    refine lv_topi (fun y_4 ey_4 => ?_)
    refine lv_aload_n hx hb dX7_draw_27 rfl (lv_at hl 1 rfl) ?_
    refine va_get (D := D) (ci := 7) (v := .ref t2) (C := RX7) (T := TX7) (N := 4) hx hb hts hi_X7 hown hK hP 0 rfl rfl 1 (by decide) (hts _ bw_201) (fun _ h9 => h9) rfl dX7_draw_28 ?_
    refine lv_iload_n hx hb dX7_draw_31 rfl (lv_at hl 0 rfl) ?_
    refine va_iald hx hb hK hP 2 0 rfl rfl (my_in (by decide) (by decide)) dX7_draw_32 ?_
    refine my_fold (v := ub 0) (congrArg ub (by decide)) ?_
    refine lv_bipush (v := 32) hx hb dX7_draw_33 (by decide) ?_
    refine lv_imul hx hb dX7_draw_35 ?_
    refine lv_topi (fun y_5 ey_5 => ?_)
    refine lv_iconst (v := 0) hx hb dX7_draw_36 (by decide) ?_
    have hPc := hP.sub (ws' := [(ol, .inr (3, [.ref p1, .ref p2, .ref p3, .ref p4, .int 0, .int fx, .int fy])), (p1, .inl (cI, 48, .inl qa)), (p2, .inl (cI, 48, .inl qb)), (p3, .inl (cI, 48, .inl qc)), (p4, .inl (cI, 48, .inl qd))]) [7, 3, 4, 5, 6] rfl
    have hDc := hD.sub (ws' := [(ol, .inr (3, [.ref p1, .ref p2, .ref p3, .ref p4, .int 0, .int fx, .int fy])), (p1, .inl (cI, 48, .inl qa)), (p2, .inl (cI, 48, .inl qb)), (p3, .inl (cI, 48, .inl qc)), (p4, .inl (cI, 48, .inl qd))]) [7, 3, 4, 5, 6] (by decide) rfl
    have hKc := hK.sub (tys' := [(cI, .int)]) [0] rfl
    have hFc := va_free (wc := [(ol, .inr (3, [.ref p1, .ref p2, .ref p3, .ref p4, .int 0, .int fx, .int fy])), (p1, .inl (cI, 48, .inl qa)), (p2, .inl (cI, 48, .inl qb)), (p3, .inl (cI, 48, .inl qc)), (p4, .inl (cI, 48, .inl qd))]) hD hS hA [7, 3, 4, 5, 6] rfl
    refine va_calli (va_runV (As := [.int y_4, .int y_5, .int 0]) (rest := []) ⟨hx, hb, hml, hown, hts⟩ (k_X3_add l D H.size ol p1 p2 p3 p4 0 fx fy qa qb qc qd y_4 y_5 0 cI (by first | assumption | omega | decide)) (cwV 3 hts (gV bw_212 bw_83 bw_84 bw_67 bw_82) rfl rfl rfl (by decide +kernel) ⟨(by rw [hR]; exact Nat.le_of_ble_eq_true rfl), (by rw [hR]; exact Nat.le_of_ble_eq_true rfl)⟩) ⟨cP_blind, va_recv hKc hPc (ci := 3) (q0 := 0) rfl rfl, cP_at hPc hKc hDc hN⟩ rfl rfl hl.1 rfl (lv_room (Nat.le_of_ble_eq_true rfl)) dX7_draw_37 ⟨(by rw [hR]; exact Nat.le_of_ble_eq_true rfl), (by rw [hR]; exact Nat.le_of_ble_eq_true rfl)⟩) hS (fun q _ h => hFc q h) hFc (fun r_6 u9 t9 H1 locs ht hvm hr_6 hB hz1 hk1 hS => ?_)
    try dsimp only at hr_6
    obtain ⟨hP1, hK1, hD1⟩ := hB
    rw [ht] at hP1
    obtain ⟨hP, hD⟩ := va_join (wr := [(h0, .inr (7, [.ref t1, .ref t2, .ref t3, .ref ol])), (t1, .inl (cI, 3, .inl ua)), (t2, .inl (cI, 3, .inl ub))]) (w1 := [(ol, .inr (3, [.ref p1, .ref p2, .ref p3, .ref p4, .int (0 + 1), .int (adF 0 0 y_4 fx), .int (adF 0 0 y_5 fy)])), (p1, .inl (cI, 48, .inl (upd qa (0 : Int32).toNatClampNeg y_4))), (p2, .inl (cI, 48, .inl (upd qb (0 : Int32).toNatClampNeg y_5))), (p3, .inl (cI, 48, .inl (adT 0 0 y_4 fx qc))), (p4, .inl (cI, 48, .inl (adT 0 0 y_5 fy qd)))]) hP hD [7, 3, 4, 5, 6] [0, 1, 2] rfl rfl (by decide) (by decide) hk1 hFc hP1 hD1
    clear hz1 hk1 hFc hKc hDc hPc
    generalize H1 = H at hP hS ⊢
    have hP : va_P D vwCl [(h0, .inr (7, [.ref t1, .ref t2, .ref t3, .ref ol])), (t1, .inl (cI, 3, .inl ua)), (t2, .inl (cI, 3, .inl ub)), (ol, .inr (3, [.ref p1, .ref p2, .ref p3, .ref p4, .int (0 + 1), .int (adF 0 0 y_4 fx), .int (adF 0 0 y_5 fy)])), (p1, .inl (cI, 48, .inl (upd qa (0 : Int32).toNatClampNeg y_4))), (p2, .inl (cI, 48, .inl (upd qb (0 : Int32).toNatClampNeg y_5))), (p3, .inl (cI, 48, .inl (adT 0 0 y_4 fx qc))), (p4, .inl (cI, 48, .inl (adT 0 0 y_5 fy qd)))] H := hP
    have hD : va_D A [(h0, .inr (7, [.ref t1, .ref t2, .ref t3, .ref ol])), (t1, .inl (cI, 3, .inl ua)), (t2, .inl (cI, 3, .inl ub)), (ol, .inr (3, [.ref p1, .ref p2, .ref p3, .ref p4, .int (0 + 1), .int (adF 0 0 y_4 fx), .int (adF 0 0 y_5 fy)])), (p1, .inl (cI, 48, .inl (upd qa (0 : Int32).toNatClampNeg y_4))), (p2, .inl (cI, 48, .inl (upd qb (0 : Int32).toNatClampNeg y_5))), (p3, .inl (cI, 48, .inl (adT 0 0 y_4 fx qc))), (p4, .inl (cI, 48, .inl (adT 0 0 y_5 fy qd)))] := hD
    rw [show (0 : Int32) + 1 = 1 from by decide] at hP hD
    have hP : va_P D vwCl [(h0, .inr (7, [.ref t1, .ref t2, .ref t3, .ref ol])), (t1, .inl (cI, 3, .inl ua)), (t2, .inl (cI, 3, .inl ub)), (ol, .inr (3, [.ref p1, .ref p2, .ref p3, .ref p4, .int 1, .int (adF 0 0 y_4 fx), .int (adF 0 0 y_5 fy)])), (p1, .inl (cI, 48, .inl (upd qa (0 : Int32).toNatClampNeg y_4))), (p2, .inl (cI, 48, .inl (upd qb (0 : Int32).toNatClampNeg y_5))), (p3, .inl (cI, 48, .inl (adT 0 0 y_4 fx qc))), (p4, .inl (cI, 48, .inl (adT 0 0 y_5 fy qd)))] H := hP
    have hD : va_D A [(h0, .inr (7, [.ref t1, .ref t2, .ref t3, .ref ol])), (t1, .inl (cI, 3, .inl ua)), (t2, .inl (cI, 3, .inl ub)), (ol, .inr (3, [.ref p1, .ref p2, .ref p3, .ref p4, .int 1, .int (adF 0 0 y_4 fx), .int (adF 0 0 y_5 fy)])), (p1, .inl (cI, 48, .inl (upd qa (0 : Int32).toNatClampNeg y_4))), (p2, .inl (cI, 48, .inl (upd qb (0 : Int32).toNatClampNeg y_5))), (p3, .inl (cI, 48, .inl (adT 0 0 y_4 fx qc))), (p4, .inl (cI, 48, .inl (adT 0 0 y_5 fy qd)))] := hD
    subst hr_6
    refine lv_pop hx hb dX7_draw_40 rfl ?_
    refine lv_iinc (v := 1) (lv' := [(1, .int 1), (0, .ref h0)]) hx hb dX7_draw_41 hl (k := 0) rfl (by decide) (by decide) rfl (fun ls hl => ?_)
    refine lv_goto (tgt := 9) hx hb dX7_draw_44 (by decide) ?_
    refine lv_iload_n hx hb dX7_draw_9 rfl (lv_at hl 0 rfl) ?_
    refine lv_iconst (v := 3) hx hb dX7_draw_10 (by decide) ?_
    refine lv_icmp_ge (tgt := 47) hx hb dX7_draw_11 (by decide) (fun c_7 => ?_) (fun c_7 => ?_)
    · skip
      exact absurd c_7 (by decide)
    · skip
      refine lv_aload_n hx hb dX7_draw_14 rfl (lv_at hl 1 rfl) ?_
      refine va_get (D := D) (ci := 7) (v := .ref ol) (C := RX7) (T := TX7) (N := 4) hx hb hts hi_X7 hown hK hP 0 rfl rfl 3 (by decide) (hts _ bw_204) (fun _ h9 => h9) rfl dX7_draw_15 ?_
      refine lv_aload_n hx hb dX7_draw_18 rfl (lv_at hl 1 rfl) ?_
      refine va_get (D := D) (ci := 7) (v := .ref t1) (C := RX7) (T := TX7) (N := 4) hx hb hts hi_X7 hown hK hP 0 rfl rfl 0 (by decide) (hts _ bw_200) (fun _ h9 => h9) rfl dX7_draw_19 ?_
      refine lv_iload_n hx hb dX7_draw_22 rfl (lv_at hl 0 rfl) ?_
      refine va_iald hx hb hK hP 1 0 rfl rfl (my_in (by decide) (by decide)) dX7_draw_23 ?_
      refine my_fold (v := ua 1) (congrArg ua (by decide)) ?_
      refine lv_bipush (v := 32) hx hb dX7_draw_24 (by decide) ?_
      refine lv_imul hx hb dX7_draw_26 ?_
      refine lv_topi (fun y_9 ey_9 => ?_)
      refine lv_aload_n hx hb dX7_draw_27 rfl (lv_at hl 1 rfl) ?_
      refine va_get (D := D) (ci := 7) (v := .ref t2) (C := RX7) (T := TX7) (N := 4) hx hb hts hi_X7 hown hK hP 0 rfl rfl 1 (by decide) (hts _ bw_201) (fun _ h9 => h9) rfl dX7_draw_28 ?_
      refine lv_iload_n hx hb dX7_draw_31 rfl (lv_at hl 0 rfl) ?_
      refine va_iald hx hb hK hP 2 0 rfl rfl (my_in (by decide) (by decide)) dX7_draw_32 ?_
      refine my_fold (v := ub 1) (congrArg ub (by decide)) ?_
      refine lv_bipush (v := 32) hx hb dX7_draw_33 (by decide) ?_
      refine lv_imul hx hb dX7_draw_35 ?_
      refine lv_topi (fun y_10 ey_10 => ?_)
      refine lv_iconst (v := 0) hx hb dX7_draw_36 (by decide) ?_
      have hPc := hP.sub (ws' := [(ol, .inr (3, [.ref p1, .ref p2, .ref p3, .ref p4, .int 1, .int (adF 0 0 y_4 fx), .int (adF 0 0 y_5 fy)])), (p1, .inl (cI, 48, .inl (upd qa (0 : Int32).toNatClampNeg y_4))), (p2, .inl (cI, 48, .inl (upd qb (0 : Int32).toNatClampNeg y_5))), (p3, .inl (cI, 48, .inl (adT 0 0 y_4 fx qc))), (p4, .inl (cI, 48, .inl (adT 0 0 y_5 fy qd)))]) [3, 4, 5, 6, 7] rfl
      have hDc := hD.sub (ws' := [(ol, .inr (3, [.ref p1, .ref p2, .ref p3, .ref p4, .int 1, .int (adF 0 0 y_4 fx), .int (adF 0 0 y_5 fy)])), (p1, .inl (cI, 48, .inl (upd qa (0 : Int32).toNatClampNeg y_4))), (p2, .inl (cI, 48, .inl (upd qb (0 : Int32).toNatClampNeg y_5))), (p3, .inl (cI, 48, .inl (adT 0 0 y_4 fx qc))), (p4, .inl (cI, 48, .inl (adT 0 0 y_5 fy qd)))]) [3, 4, 5, 6, 7] (by decide) rfl
      have hKc := hK.sub (tys' := [(cI, .int)]) [0] rfl
      have hFc := va_free (wc := [(ol, .inr (3, [.ref p1, .ref p2, .ref p3, .ref p4, .int 1, .int (adF 0 0 y_4 fx), .int (adF 0 0 y_5 fy)])), (p1, .inl (cI, 48, .inl (upd qa (0 : Int32).toNatClampNeg y_4))), (p2, .inl (cI, 48, .inl (upd qb (0 : Int32).toNatClampNeg y_5))), (p3, .inl (cI, 48, .inl (adT 0 0 y_4 fx qc))), (p4, .inl (cI, 48, .inl (adT 0 0 y_5 fy qd)))]) hD hS hA [3, 4, 5, 6, 7] rfl
      refine va_calli (va_runV (As := [.int y_9, .int y_10, .int 0]) (rest := []) ⟨hx, hb, hml, hown, hts⟩ (k_X3_add l D H.size ol p1 p2 p3 p4 1 (adF 0 0 y_4 fx) (adF 0 0 y_5 fy) (upd qa (0 : Int32).toNatClampNeg y_4) (upd qb (0 : Int32).toNatClampNeg y_5) (adT 0 0 y_4 fx qc) (adT 0 0 y_5 fy qd) y_9 y_10 0 cI (by first | assumption | omega | decide)) (cwV 3 hts (gV bw_212 bw_83 bw_84 bw_67 bw_82) rfl rfl rfl (by decide +kernel) ⟨(by rw [hR]; exact Nat.le_of_ble_eq_true rfl), (by rw [hR]; exact Nat.le_of_ble_eq_true rfl)⟩) ⟨cP_blind, va_recv hKc hPc (ci := 3) (q0 := 0) rfl rfl, cP_at hPc hKc hDc hN⟩ rfl rfl hl.1 rfl (lv_room (Nat.le_of_ble_eq_true rfl)) dX7_draw_37 ⟨(by rw [hR]; exact Nat.le_of_ble_eq_true rfl), (by rw [hR]; exact Nat.le_of_ble_eq_true rfl)⟩) hS (fun q _ h => hFc q h) hFc (fun r_11 u9 t9 H1 locs ht hvm hr_11 hB hz1 hk1 hS => ?_)
      try dsimp only at hr_11
      obtain ⟨hP1, hK1, hD1⟩ := hB
      rw [ht] at hP1
      obtain ⟨hP, hD⟩ := va_join (wr := [(h0, .inr (7, [.ref t1, .ref t2, .ref t3, .ref ol])), (t1, .inl (cI, 3, .inl ua)), (t2, .inl (cI, 3, .inl ub))]) (w1 := [(ol, .inr (3, [.ref p1, .ref p2, .ref p3, .ref p4, .int (1 + 1), .int (adF 0 1 y_9 (adF 0 0 y_4 fx)), .int (adF 0 1 y_10 (adF 0 0 y_5 fy))])), (p1, .inl (cI, 48, .inl (upd (upd qa (0 : Int32).toNatClampNeg y_4) (1 : Int32).toNatClampNeg y_9))), (p2, .inl (cI, 48, .inl (upd (upd qb (0 : Int32).toNatClampNeg y_5) (1 : Int32).toNatClampNeg y_10))), (p3, .inl (cI, 48, .inl (adT 0 1 y_9 (adF 0 0 y_4 fx) (adT 0 0 y_4 fx qc)))), (p4, .inl (cI, 48, .inl (adT 0 1 y_10 (adF 0 0 y_5 fy) (adT 0 0 y_5 fy qd))))]) hP hD [3, 4, 5, 6, 7] [0, 1, 2] rfl rfl (by decide) (by decide) hk1 hFc hP1 hD1
      clear hz1 hk1 hFc hKc hDc hPc
      generalize H1 = H at hP hS ⊢
      have hP : va_P D vwCl [(h0, .inr (7, [.ref t1, .ref t2, .ref t3, .ref ol])), (t1, .inl (cI, 3, .inl ua)), (t2, .inl (cI, 3, .inl ub)), (ol, .inr (3, [.ref p1, .ref p2, .ref p3, .ref p4, .int (1 + 1), .int (adF 0 1 y_9 (adF 0 0 y_4 fx)), .int (adF 0 1 y_10 (adF 0 0 y_5 fy))])), (p1, .inl (cI, 48, .inl (upd (upd qa (0 : Int32).toNatClampNeg y_4) (1 : Int32).toNatClampNeg y_9))), (p2, .inl (cI, 48, .inl (upd (upd qb (0 : Int32).toNatClampNeg y_5) (1 : Int32).toNatClampNeg y_10))), (p3, .inl (cI, 48, .inl (adT 0 1 y_9 (adF 0 0 y_4 fx) (adT 0 0 y_4 fx qc)))), (p4, .inl (cI, 48, .inl (adT 0 1 y_10 (adF 0 0 y_5 fy) (adT 0 0 y_5 fy qd))))] H := hP
      have hD : va_D A [(h0, .inr (7, [.ref t1, .ref t2, .ref t3, .ref ol])), (t1, .inl (cI, 3, .inl ua)), (t2, .inl (cI, 3, .inl ub)), (ol, .inr (3, [.ref p1, .ref p2, .ref p3, .ref p4, .int (1 + 1), .int (adF 0 1 y_9 (adF 0 0 y_4 fx)), .int (adF 0 1 y_10 (adF 0 0 y_5 fy))])), (p1, .inl (cI, 48, .inl (upd (upd qa (0 : Int32).toNatClampNeg y_4) (1 : Int32).toNatClampNeg y_9))), (p2, .inl (cI, 48, .inl (upd (upd qb (0 : Int32).toNatClampNeg y_5) (1 : Int32).toNatClampNeg y_10))), (p3, .inl (cI, 48, .inl (adT 0 1 y_9 (adF 0 0 y_4 fx) (adT 0 0 y_4 fx qc)))), (p4, .inl (cI, 48, .inl (adT 0 1 y_10 (adF 0 0 y_5 fy) (adT 0 0 y_5 fy qd))))] := hD
      rw [show (1 : Int32) + 1 = 2 from by decide] at hP hD
      have hP : va_P D vwCl [(h0, .inr (7, [.ref t1, .ref t2, .ref t3, .ref ol])), (t1, .inl (cI, 3, .inl ua)), (t2, .inl (cI, 3, .inl ub)), (ol, .inr (3, [.ref p1, .ref p2, .ref p3, .ref p4, .int 2, .int (adF 0 1 y_9 (adF 0 0 y_4 fx)), .int (adF 0 1 y_10 (adF 0 0 y_5 fy))])), (p1, .inl (cI, 48, .inl (upd (upd qa (0 : Int32).toNatClampNeg y_4) (1 : Int32).toNatClampNeg y_9))), (p2, .inl (cI, 48, .inl (upd (upd qb (0 : Int32).toNatClampNeg y_5) (1 : Int32).toNatClampNeg y_10))), (p3, .inl (cI, 48, .inl (adT 0 1 y_9 (adF 0 0 y_4 fx) (adT 0 0 y_4 fx qc)))), (p4, .inl (cI, 48, .inl (adT 0 1 y_10 (adF 0 0 y_5 fy) (adT 0 0 y_5 fy qd))))] H := hP
      have hD : va_D A [(h0, .inr (7, [.ref t1, .ref t2, .ref t3, .ref ol])), (t1, .inl (cI, 3, .inl ua)), (t2, .inl (cI, 3, .inl ub)), (ol, .inr (3, [.ref p1, .ref p2, .ref p3, .ref p4, .int 2, .int (adF 0 1 y_9 (adF 0 0 y_4 fx)), .int (adF 0 1 y_10 (adF 0 0 y_5 fy))])), (p1, .inl (cI, 48, .inl (upd (upd qa (0 : Int32).toNatClampNeg y_4) (1 : Int32).toNatClampNeg y_9))), (p2, .inl (cI, 48, .inl (upd (upd qb (0 : Int32).toNatClampNeg y_5) (1 : Int32).toNatClampNeg y_10))), (p3, .inl (cI, 48, .inl (adT 0 1 y_9 (adF 0 0 y_4 fx) (adT 0 0 y_4 fx qc)))), (p4, .inl (cI, 48, .inl (adT 0 1 y_10 (adF 0 0 y_5 fy) (adT 0 0 y_5 fy qd))))] := hD
      subst hr_11
      refine lv_pop hx hb dX7_draw_40 rfl ?_
      refine lv_iinc (v := 2) (lv' := [(1, .int 2), (0, .ref h0)]) hx hb dX7_draw_41 hl (k := 0) rfl (by decide) (by decide) rfl (fun ls hl => ?_)
      refine lv_goto (tgt := 9) hx hb dX7_draw_44 (by decide) ?_
      refine lv_iload_n hx hb dX7_draw_9 rfl (lv_at hl 0 rfl) ?_
      refine lv_iconst (v := 3) hx hb dX7_draw_10 (by decide) ?_
      refine lv_icmp_ge (tgt := 47) hx hb dX7_draw_11 (by decide) (fun c_12 => ?_) (fun c_12 => ?_)
      · skip
        exact absurd c_12 (by decide)
      · skip
        refine lv_aload_n hx hb dX7_draw_14 rfl (lv_at hl 1 rfl) ?_
        refine va_get (D := D) (ci := 7) (v := .ref ol) (C := RX7) (T := TX7) (N := 4) hx hb hts hi_X7 hown hK hP 0 rfl rfl 3 (by decide) (hts _ bw_204) (fun _ h9 => h9) rfl dX7_draw_15 ?_
        refine lv_aload_n hx hb dX7_draw_18 rfl (lv_at hl 1 rfl) ?_
        refine va_get (D := D) (ci := 7) (v := .ref t1) (C := RX7) (T := TX7) (N := 4) hx hb hts hi_X7 hown hK hP 0 rfl rfl 0 (by decide) (hts _ bw_200) (fun _ h9 => h9) rfl dX7_draw_19 ?_
        refine lv_iload_n hx hb dX7_draw_22 rfl (lv_at hl 0 rfl) ?_
        refine va_iald hx hb hK hP 1 0 rfl rfl (my_in (by decide) (by decide)) dX7_draw_23 ?_
        refine my_fold (v := ua 2) (congrArg ua (by decide)) ?_
        refine lv_bipush (v := 32) hx hb dX7_draw_24 (by decide) ?_
        refine lv_imul hx hb dX7_draw_26 ?_
        refine lv_topi (fun y_14 ey_14 => ?_)
        refine lv_aload_n hx hb dX7_draw_27 rfl (lv_at hl 1 rfl) ?_
        refine va_get (D := D) (ci := 7) (v := .ref t2) (C := RX7) (T := TX7) (N := 4) hx hb hts hi_X7 hown hK hP 0 rfl rfl 1 (by decide) (hts _ bw_201) (fun _ h9 => h9) rfl dX7_draw_28 ?_
        refine lv_iload_n hx hb dX7_draw_31 rfl (lv_at hl 0 rfl) ?_
        refine va_iald hx hb hK hP 2 0 rfl rfl (my_in (by decide) (by decide)) dX7_draw_32 ?_
        refine my_fold (v := ub 2) (congrArg ub (by decide)) ?_
        refine lv_bipush (v := 32) hx hb dX7_draw_33 (by decide) ?_
        refine lv_imul hx hb dX7_draw_35 ?_
        refine lv_topi (fun y_15 ey_15 => ?_)
        refine lv_iconst (v := 0) hx hb dX7_draw_36 (by decide) ?_
        have hPc := hP.sub (ws' := [(ol, .inr (3, [.ref p1, .ref p2, .ref p3, .ref p4, .int 2, .int (adF 0 1 y_9 (adF 0 0 y_4 fx)), .int (adF 0 1 y_10 (adF 0 0 y_5 fy))])), (p1, .inl (cI, 48, .inl (upd (upd qa (0 : Int32).toNatClampNeg y_4) (1 : Int32).toNatClampNeg y_9))), (p2, .inl (cI, 48, .inl (upd (upd qb (0 : Int32).toNatClampNeg y_5) (1 : Int32).toNatClampNeg y_10))), (p3, .inl (cI, 48, .inl (adT 0 1 y_9 (adF 0 0 y_4 fx) (adT 0 0 y_4 fx qc)))), (p4, .inl (cI, 48, .inl (adT 0 1 y_10 (adF 0 0 y_5 fy) (adT 0 0 y_5 fy qd))))]) [3, 4, 5, 6, 7] rfl
        have hDc := hD.sub (ws' := [(ol, .inr (3, [.ref p1, .ref p2, .ref p3, .ref p4, .int 2, .int (adF 0 1 y_9 (adF 0 0 y_4 fx)), .int (adF 0 1 y_10 (adF 0 0 y_5 fy))])), (p1, .inl (cI, 48, .inl (upd (upd qa (0 : Int32).toNatClampNeg y_4) (1 : Int32).toNatClampNeg y_9))), (p2, .inl (cI, 48, .inl (upd (upd qb (0 : Int32).toNatClampNeg y_5) (1 : Int32).toNatClampNeg y_10))), (p3, .inl (cI, 48, .inl (adT 0 1 y_9 (adF 0 0 y_4 fx) (adT 0 0 y_4 fx qc)))), (p4, .inl (cI, 48, .inl (adT 0 1 y_10 (adF 0 0 y_5 fy) (adT 0 0 y_5 fy qd))))]) [3, 4, 5, 6, 7] (by decide) rfl
        have hKc := hK.sub (tys' := [(cI, .int)]) [0] rfl
        have hFc := va_free (wc := [(ol, .inr (3, [.ref p1, .ref p2, .ref p3, .ref p4, .int 2, .int (adF 0 1 y_9 (adF 0 0 y_4 fx)), .int (adF 0 1 y_10 (adF 0 0 y_5 fy))])), (p1, .inl (cI, 48, .inl (upd (upd qa (0 : Int32).toNatClampNeg y_4) (1 : Int32).toNatClampNeg y_9))), (p2, .inl (cI, 48, .inl (upd (upd qb (0 : Int32).toNatClampNeg y_5) (1 : Int32).toNatClampNeg y_10))), (p3, .inl (cI, 48, .inl (adT 0 1 y_9 (adF 0 0 y_4 fx) (adT 0 0 y_4 fx qc)))), (p4, .inl (cI, 48, .inl (adT 0 1 y_10 (adF 0 0 y_5 fy) (adT 0 0 y_5 fy qd))))]) hD hS hA [3, 4, 5, 6, 7] rfl
        refine va_calli (va_runV (As := [.int y_14, .int y_15, .int 0]) (rest := []) ⟨hx, hb, hml, hown, hts⟩ (k_X3_add l D H.size ol p1 p2 p3 p4 2 (adF 0 1 y_9 (adF 0 0 y_4 fx)) (adF 0 1 y_10 (adF 0 0 y_5 fy)) (upd (upd qa (0 : Int32).toNatClampNeg y_4) (1 : Int32).toNatClampNeg y_9) (upd (upd qb (0 : Int32).toNatClampNeg y_5) (1 : Int32).toNatClampNeg y_10) (adT 0 1 y_9 (adF 0 0 y_4 fx) (adT 0 0 y_4 fx qc)) (adT 0 1 y_10 (adF 0 0 y_5 fy) (adT 0 0 y_5 fy qd)) y_14 y_15 0 cI (by first | assumption | omega | decide)) (cwV 3 hts (gV bw_212 bw_83 bw_84 bw_67 bw_82) rfl rfl rfl (by decide +kernel) ⟨(by rw [hR]; exact Nat.le_of_ble_eq_true rfl), (by rw [hR]; exact Nat.le_of_ble_eq_true rfl)⟩) ⟨cP_blind, va_recv hKc hPc (ci := 3) (q0 := 0) rfl rfl, cP_at hPc hKc hDc hN⟩ rfl rfl hl.1 rfl (lv_room (Nat.le_of_ble_eq_true rfl)) dX7_draw_37 ⟨(by rw [hR]; exact Nat.le_of_ble_eq_true rfl), (by rw [hR]; exact Nat.le_of_ble_eq_true rfl)⟩) hS (fun q _ h => hFc q h) hFc (fun r_16 u9 t9 H1 locs ht hvm hr_16 hB hz1 hk1 hS => ?_)
        try dsimp only at hr_16
        obtain ⟨hP1, hK1, hD1⟩ := hB
        rw [ht] at hP1
        obtain ⟨hP, hD⟩ := va_join (wr := [(h0, .inr (7, [.ref t1, .ref t2, .ref t3, .ref ol])), (t1, .inl (cI, 3, .inl ua)), (t2, .inl (cI, 3, .inl ub))]) (w1 := [(ol, .inr (3, [.ref p1, .ref p2, .ref p3, .ref p4, .int (2 + 1), .int (adF 0 2 y_14 (adF 0 1 y_9 (adF 0 0 y_4 fx))), .int (adF 0 2 y_15 (adF 0 1 y_10 (adF 0 0 y_5 fy)))])), (p1, .inl (cI, 48, .inl (upd (upd (upd qa (0 : Int32).toNatClampNeg y_4) (1 : Int32).toNatClampNeg y_9) (2 : Int32).toNatClampNeg y_14))), (p2, .inl (cI, 48, .inl (upd (upd (upd qb (0 : Int32).toNatClampNeg y_5) (1 : Int32).toNatClampNeg y_10) (2 : Int32).toNatClampNeg y_15))), (p3, .inl (cI, 48, .inl (adT 0 2 y_14 (adF 0 1 y_9 (adF 0 0 y_4 fx)) (adT 0 1 y_9 (adF 0 0 y_4 fx) (adT 0 0 y_4 fx qc))))), (p4, .inl (cI, 48, .inl (adT 0 2 y_15 (adF 0 1 y_10 (adF 0 0 y_5 fy)) (adT 0 1 y_10 (adF 0 0 y_5 fy) (adT 0 0 y_5 fy qd)))))]) hP hD [3, 4, 5, 6, 7] [0, 1, 2] rfl rfl (by decide) (by decide) hk1 hFc hP1 hD1
        clear hz1 hk1 hFc hKc hDc hPc
        generalize H1 = H at hP hS ⊢
        have hP : va_P D vwCl [(h0, .inr (7, [.ref t1, .ref t2, .ref t3, .ref ol])), (t1, .inl (cI, 3, .inl ua)), (t2, .inl (cI, 3, .inl ub)), (ol, .inr (3, [.ref p1, .ref p2, .ref p3, .ref p4, .int (2 + 1), .int (adF 0 2 y_14 (adF 0 1 y_9 (adF 0 0 y_4 fx))), .int (adF 0 2 y_15 (adF 0 1 y_10 (adF 0 0 y_5 fy)))])), (p1, .inl (cI, 48, .inl (upd (upd (upd qa (0 : Int32).toNatClampNeg y_4) (1 : Int32).toNatClampNeg y_9) (2 : Int32).toNatClampNeg y_14))), (p2, .inl (cI, 48, .inl (upd (upd (upd qb (0 : Int32).toNatClampNeg y_5) (1 : Int32).toNatClampNeg y_10) (2 : Int32).toNatClampNeg y_15))), (p3, .inl (cI, 48, .inl (adT 0 2 y_14 (adF 0 1 y_9 (adF 0 0 y_4 fx)) (adT 0 1 y_9 (adF 0 0 y_4 fx) (adT 0 0 y_4 fx qc))))), (p4, .inl (cI, 48, .inl (adT 0 2 y_15 (adF 0 1 y_10 (adF 0 0 y_5 fy)) (adT 0 1 y_10 (adF 0 0 y_5 fy) (adT 0 0 y_5 fy qd)))))] H := hP
        have hD : va_D A [(h0, .inr (7, [.ref t1, .ref t2, .ref t3, .ref ol])), (t1, .inl (cI, 3, .inl ua)), (t2, .inl (cI, 3, .inl ub)), (ol, .inr (3, [.ref p1, .ref p2, .ref p3, .ref p4, .int (2 + 1), .int (adF 0 2 y_14 (adF 0 1 y_9 (adF 0 0 y_4 fx))), .int (adF 0 2 y_15 (adF 0 1 y_10 (adF 0 0 y_5 fy)))])), (p1, .inl (cI, 48, .inl (upd (upd (upd qa (0 : Int32).toNatClampNeg y_4) (1 : Int32).toNatClampNeg y_9) (2 : Int32).toNatClampNeg y_14))), (p2, .inl (cI, 48, .inl (upd (upd (upd qb (0 : Int32).toNatClampNeg y_5) (1 : Int32).toNatClampNeg y_10) (2 : Int32).toNatClampNeg y_15))), (p3, .inl (cI, 48, .inl (adT 0 2 y_14 (adF 0 1 y_9 (adF 0 0 y_4 fx)) (adT 0 1 y_9 (adF 0 0 y_4 fx) (adT 0 0 y_4 fx qc))))), (p4, .inl (cI, 48, .inl (adT 0 2 y_15 (adF 0 1 y_10 (adF 0 0 y_5 fy)) (adT 0 1 y_10 (adF 0 0 y_5 fy) (adT 0 0 y_5 fy qd)))))] := hD
        rw [show (2 : Int32) + 1 = 3 from by decide] at hP hD
        have hP : va_P D vwCl [(h0, .inr (7, [.ref t1, .ref t2, .ref t3, .ref ol])), (t1, .inl (cI, 3, .inl ua)), (t2, .inl (cI, 3, .inl ub)), (ol, .inr (3, [.ref p1, .ref p2, .ref p3, .ref p4, .int 3, .int (adF 0 2 y_14 (adF 0 1 y_9 (adF 0 0 y_4 fx))), .int (adF 0 2 y_15 (adF 0 1 y_10 (adF 0 0 y_5 fy)))])), (p1, .inl (cI, 48, .inl (upd (upd (upd qa (0 : Int32).toNatClampNeg y_4) (1 : Int32).toNatClampNeg y_9) (2 : Int32).toNatClampNeg y_14))), (p2, .inl (cI, 48, .inl (upd (upd (upd qb (0 : Int32).toNatClampNeg y_5) (1 : Int32).toNatClampNeg y_10) (2 : Int32).toNatClampNeg y_15))), (p3, .inl (cI, 48, .inl (adT 0 2 y_14 (adF 0 1 y_9 (adF 0 0 y_4 fx)) (adT 0 1 y_9 (adF 0 0 y_4 fx) (adT 0 0 y_4 fx qc))))), (p4, .inl (cI, 48, .inl (adT 0 2 y_15 (adF 0 1 y_10 (adF 0 0 y_5 fy)) (adT 0 1 y_10 (adF 0 0 y_5 fy) (adT 0 0 y_5 fy qd)))))] H := hP
        have hD : va_D A [(h0, .inr (7, [.ref t1, .ref t2, .ref t3, .ref ol])), (t1, .inl (cI, 3, .inl ua)), (t2, .inl (cI, 3, .inl ub)), (ol, .inr (3, [.ref p1, .ref p2, .ref p3, .ref p4, .int 3, .int (adF 0 2 y_14 (adF 0 1 y_9 (adF 0 0 y_4 fx))), .int (adF 0 2 y_15 (adF 0 1 y_10 (adF 0 0 y_5 fy)))])), (p1, .inl (cI, 48, .inl (upd (upd (upd qa (0 : Int32).toNatClampNeg y_4) (1 : Int32).toNatClampNeg y_9) (2 : Int32).toNatClampNeg y_14))), (p2, .inl (cI, 48, .inl (upd (upd (upd qb (0 : Int32).toNatClampNeg y_5) (1 : Int32).toNatClampNeg y_10) (2 : Int32).toNatClampNeg y_15))), (p3, .inl (cI, 48, .inl (adT 0 2 y_14 (adF 0 1 y_9 (adF 0 0 y_4 fx)) (adT 0 1 y_9 (adF 0 0 y_4 fx) (adT 0 0 y_4 fx qc))))), (p4, .inl (cI, 48, .inl (adT 0 2 y_15 (adF 0 1 y_10 (adF 0 0 y_5 fy)) (adT 0 1 y_10 (adF 0 0 y_5 fy) (adT 0 0 y_5 fy qd)))))] := hD
        subst hr_16
        refine lv_pop hx hb dX7_draw_40 rfl ?_
        refine lv_iinc (v := 3) (lv' := [(1, .int 3), (0, .ref h0)]) hx hb dX7_draw_41 hl (k := 0) rfl (by decide) (by decide) rfl (fun ls hl => ?_)
        refine lv_goto (tgt := 9) hx hb dX7_draw_44 (by decide) ?_
        refine lv_iload_n hx hb dX7_draw_9 rfl (lv_at hl 0 rfl) ?_
        refine lv_iconst (v := 3) hx hb dX7_draw_10 (by decide) ?_
        refine lv_icmp_ge (tgt := 47) hx hb dX7_draw_11 (by decide) (fun c_17 => ?_) (fun c_17 => ?_)
        · skip
          have hP9 := hP.sub (ws' := [(h0, .inr (7, [.ref t1, .ref t2, .ref t3, .ref ol])), (t1, .inl (cI, 3, .inl ua)), (t2, .inl (cI, 3, .inl ub)), (ol, .inr (3, [.ref p1, .ref p2, .ref p3, .ref p4, .int 3, .int (adF 0 2 y_14 (adF 0 1 y_9 (adF 0 0 y_4 fx))), .int (adF 0 2 y_15 (adF 0 1 y_10 (adF 0 0 y_5 fy)))])), (p1, .inl (cI, 48, .inl (upd (upd (upd qa (0 : Int32).toNatClampNeg y_4) (1 : Int32).toNatClampNeg y_9) (2 : Int32).toNatClampNeg y_14))), (p2, .inl (cI, 48, .inl (upd (upd (upd qb (0 : Int32).toNatClampNeg y_5) (1 : Int32).toNatClampNeg y_10) (2 : Int32).toNatClampNeg y_15))), (p3, .inl (cI, 48, .inl (adT 0 2 y_14 (adF 0 1 y_9 (adF 0 0 y_4 fx)) (adT 0 1 y_9 (adF 0 0 y_4 fx) (adT 0 0 y_4 fx qc))))), (p4, .inl (cI, 48, .inl (adT 0 2 y_15 (adF 0 1 y_10 (adF 0 0 y_5 fy)) (adT 0 1 y_10 (adF 0 0 y_5 fy) (adT 0 0 y_5 fy qd)))))]) [0, 1, 2, 3, 4, 5, 6, 7] rfl
          have hD9 := hD.sub (ws' := [(h0, .inr (7, [.ref t1, .ref t2, .ref t3, .ref ol])), (t1, .inl (cI, 3, .inl ua)), (t2, .inl (cI, 3, .inl ub)), (ol, .inr (3, [.ref p1, .ref p2, .ref p3, .ref p4, .int 3, .int (adF 0 2 y_14 (adF 0 1 y_9 (adF 0 0 y_4 fx))), .int (adF 0 2 y_15 (adF 0 1 y_10 (adF 0 0 y_5 fy)))])), (p1, .inl (cI, 48, .inl (upd (upd (upd qa (0 : Int32).toNatClampNeg y_4) (1 : Int32).toNatClampNeg y_9) (2 : Int32).toNatClampNeg y_14))), (p2, .inl (cI, 48, .inl (upd (upd (upd qb (0 : Int32).toNatClampNeg y_5) (1 : Int32).toNatClampNeg y_10) (2 : Int32).toNatClampNeg y_15))), (p3, .inl (cI, 48, .inl (adT 0 2 y_14 (adF 0 1 y_9 (adF 0 0 y_4 fx)) (adT 0 1 y_9 (adF 0 0 y_4 fx) (adT 0 0 y_4 fx qc))))), (p4, .inl (cI, 48, .inl (adT 0 2 y_15 (adF 0 1 y_10 (adF 0 0 y_5 fy)) (adT 0 1 y_10 (adF 0 0 y_5 fy) (adT 0 0 y_5 fy qd)))))]) [0, 1, 2, 3, 4, 5, 6, 7] (by decide) rfl
          have hK9 := hK.sub (tys' := [(cI, .int)]) [0] rfl
          refine hQ _ _ _ _ _ ?_
          exact W.vret hx hb hr (fun t ht hW => ⟨⟨(), rfl, trivial, ⟨3, (adF 0 2 y_14 (adF 0 1 y_9 (adF 0 0 y_4 fx))), (adF 0 2 y_15 (adF 0 1 y_10 (adF 0 0 y_5 fy))), (upd (upd (upd qa (0 : Int32).toNatClampNeg y_4) (1 : Int32).toNatClampNeg y_9) (2 : Int32).toNatClampNeg y_14), (upd (upd (upd qb (0 : Int32).toNatClampNeg y_5) (1 : Int32).toNatClampNeg y_10) (2 : Int32).toNatClampNeg y_15), (adT 0 2 y_14 (adF 0 1 y_9 (adF 0 0 y_4 fx)) (adT 0 1 y_9 (adF 0 0 y_4 fx) (adT 0 0 y_4 fx qc))), (adT 0 2 y_15 (adF 0 1 y_10 (adF 0 0 y_5 fy)) (adT 0 1 y_10 (adF 0 0 y_5 fy) (adT 0 0 y_5 fy qd))), rfl, (tri_all ey_4 ey_9 ey_14 ey_5 ey_10 ey_15), by rw [ht]; exact hP9, va_K.moved hW.alike hK9, hD9⟩⟩, hS.F ht⟩) hS.2.2 dX7_draw_47
        · skip
          exact absurd c_17 (by decide)

set_option maxHeartbeats 4000000 in
set_option maxRecDepth 100000 in
theorem k_X7_inkAt_e (l : Launch) (D : va_G) (sz : Nat) (h0 : Nat) (t1 t2 t3 ol : Nat) (ua : Nat → Int32) (ub : Nat → Int32) (uc : Nat → Int32) (x y : Int32) (cI : ClassId) : Met l yX7_inkAt (wB yX7_inkAt cX7_inkAt 10 (some .int)) ({ frames := 2, cells := 0, slots := 0, locals := 41 }) (cP D [(h0, .inr (7, [.ref t1, .ref t2, .ref t3, .ref ol])), (t1, .inl (cI, 3, .inl ua)), (t2, .inl (cI, 3, .inl ub)), (t3, .inl (cI, 3, .inl uc))] [(cI, .int)] sz [.ref h0, .int x, .int y]) (va_Qi (fun (r : Int32) (_ : Unit) => r = inP ua ub uc x y) (fun (_ : Unit) (t : State) => cB D (va_A [(h0, .inr (7, [.ref t1, .ref t2, .ref t3, .ref ol])), (t1, .inl (cI, 3, .inl ua)), (t2, .inl (cI, 3, .inl ub)), (t3, .inl (cI, 3, .inl uc))] sz) [(h0, .inr (7, [.ref t1, .ref t2, .ref t3, .ref ol])), (t1, .inl (cI, 3, .inl ua)), (t2, .inl (cI, 3, .inl ub)), (t3, .inl (cI, 3, .inl uc))] [(cI, .int)] t) (va_A [(h0, .inr (7, [.ref t1, .ref t2, .ref t3, .ref ol])), (t1, .inl (cI, 3, .inl ua)), (t2, .inl (cI, 3, .inl ub)), (t3, .inl (cI, 3, .inl uc))] sz)) 0 0 (va_A [(h0, .inr (7, [.ref t1, .ref t2, .ref t3, .ref ol])), (t1, .inl (cI, 3, .inl ua)), (t2, .inl (cI, 3, .inl ub)), (t3, .inl (cI, 3, .inl uc))] sz) := by
  refine Met.ofW (cc := cX7_inkAt) (maxL := 10) (ret := (some .int)) (by decide) rfl ?_
  intro p e s m args below meth c s₁ B hml hv
  obtain ⟨rfl, hsz, hP, hK, hD0, hN⟩ := hv
  have hx := B.exec
  have hb := B.bytes
  have hr := B.returns
  have hts0 := atoms_spec (ws := (wB yX7_inkAt cX7_inkAt 10 (some .int))) B.pre
  have hts : ∀ w ∈ bigW, w.before _ s = true := fun w h => hts0 w (List.mem_cons_of_mem _ h)
  have hown : s.vm.findClass RX7 = some m.cls := findClass_of_methodNamed B.named
  have hlocks := B.notSynchronized
  subst hsz
  have hD := hD0.self (sz := s.heap.size)
  generalize hAe : va_A [(h0, .inr (7, [.ref t1, .ref t2, .ref t3, .ref ol])), (t1, .inl (cI, 3, .inl ua)), (t2, .inl (cI, 3, .inl ub)), (t3, .inl (cI, 3, .inl uc))] s.heap.size = A at hD ⊢
  have hA : ∀ q : Nat, s.heap.size ≤ q → A q := fun q h => by rw [← hAe]; exact Or.inr h
  have hS : va_S A s.heap s.heap [] := va_S.rf
  have hP : va_P D vwCl [(h0, .inr (7, [.ref t1, .ref t2, .ref t3, .ref ol])), (t1, .inl (cI, 3, .inl ua)), (t2, .inl (cI, 3, .inl ub)), (t3, .inl (cI, 3, .inl uc))] s.heap := hP
  have hl := lv_entry ([.ref h0, .int x, .int y]) (n := 10) (Nat.le_of_ble_eq_true rfl)
  rw [lg_entry_eq]
  generalize (lg_sl ([.ref h0, .int x, .int y]) ++ List.replicate (10 - (lg_sl ([.ref h0, .int x, .int y])).length) Slot.unset).toArray = ls at hl ⊢
  have hl : lv_has ls 10 [(0, .ref h0), (1, .int x), (2, .int y)] := hl
  clear hts0 hD0 hAe
  refine my_abs (fun R Q hR hQ => ?_)
  refine lv_aload_n hx hb dX7_inkAt_0 rfl (lv_at hl 0 rfl) ?_
  refine lv_iload_n hx hb dX7_inkAt_1 rfl (lv_at hl 1 rfl) ?_
  refine lv_iload_n hx hb dX7_inkAt_2 rfl (lv_at hl 2 rfl) ?_
  refine lv_iconst (v := 1) hx hb dX7_inkAt_3 (by decide) ?_
  refine lv_iconst (v := 2) hx hb dX7_inkAt_4 (by decide) ?_
  have hPc := hP.sub (ws' := [(h0, .inr (7, [.ref t1, .ref t2, .ref t3, .ref ol])), (t1, .inl (cI, 3, .inl ua)), (t2, .inl (cI, 3, .inl ub))]) [0, 1, 2] rfl
  have hDc := hD.sub (ws' := [(h0, .inr (7, [.ref t1, .ref t2, .ref t3, .ref ol])), (t1, .inl (cI, 3, .inl ua)), (t2, .inl (cI, 3, .inl ub))]) [0, 1, 2] (by decide) rfl
  have hKc := hK.sub (tys' := [(cI, .int)]) [0] rfl
  have hFc := va_free (wc := [(h0, .inr (7, [.ref t1, .ref t2, .ref t3, .ref ol])), (t1, .inl (cI, 3, .inl ua)), (t2, .inl (cI, 3, .inl ub))]) hD hS hA [0, 1, 2] rfl
  refine va_calli (va_runV (As := [.int x, .int y, .int 1, .int 2]) (rest := []) ⟨hx, hb, hml, hown, hts⟩ (k_X7_areaFrom l D s.heap.size h0 t1 t2 t3 ol ua ub x y 1 2 cI (by first | assumption | omega | decide) (by first | assumption | omega | decide)) (cwV 4 hts (gV bw_216 bw_218 bw_219 bw_195 bw_217) rfl rfl rfl (by decide +kernel) ⟨(by rw [hR]; exact Nat.le_of_ble_eq_true rfl), (by rw [hR]; exact Nat.le_of_ble_eq_true rfl)⟩) ⟨cP_blind, va_recv hKc hPc (ci := 7) (q0 := 0) rfl rfl, cP_at hPc hKc hDc hN⟩ rfl rfl hl.1 rfl (lv_room (Nat.le_of_ble_eq_true rfl)) dX7_inkAt_5 ⟨(by rw [hR]; exact Nat.le_of_ble_eq_true rfl), (by rw [hR]; exact Nat.le_of_ble_eq_true rfl)⟩) hS (fun q _ h => hFc q h) hFc (fun r_1 u9 t9 H1 locs ht hvm hr_1 hB hz1 hk1 hS => ?_)
  try dsimp only at hr_1
  obtain ⟨hP1, hK1, hD1⟩ := hB
  rw [ht] at hP1
  obtain ⟨hP, hD⟩ := va_join (wr := [(t3, .inl (cI, 3, .inl uc))]) (w1 := [(h0, .inr (7, [.ref t1, .ref t2, .ref t3, .ref ol])), (t1, .inl (cI, 3, .inl ua)), (t2, .inl (cI, 3, .inl ub))]) hP hD [0, 1, 2] [3] rfl rfl (by decide) (by decide) hk1 hFc hP1 hD1
  clear hz1 hk1 hFc hKc hDc hPc
  generalize H1 = H at hP hS ⊢
  have hP : va_P D vwCl [(t3, .inl (cI, 3, .inl uc)), (h0, .inr (7, [.ref t1, .ref t2, .ref t3, .ref ol])), (t1, .inl (cI, 3, .inl ua)), (t2, .inl (cI, 3, .inl ub))] H := hP
  have hD : va_D A [(t3, .inl (cI, 3, .inl uc)), (h0, .inr (7, [.ref t1, .ref t2, .ref t3, .ref ol])), (t1, .inl (cI, 3, .inl ua)), (t2, .inl (cI, 3, .inl ub))] := hD
  have hqr_1 : r_1 = arP (ua 1) (ub 1) (ua 2) (ub 2) x y := hr_1
  refine lv_istore_n (lv' := [(3, .int r_1), (0, .ref h0), (1, .int x), (2, .int y)]) hx hb dX7_inkAt_8 rfl hl (by decide) rfl (fun ls hl => ?_)
  refine lv_aload_n hx hb dX7_inkAt_9 rfl (lv_at hl 1 rfl) ?_
  refine lv_iload_n hx hb dX7_inkAt_10 rfl (lv_at hl 2 rfl) ?_
  refine lv_iload_n hx hb dX7_inkAt_11 rfl (lv_at hl 3 rfl) ?_
  refine lv_iconst (v := 2) hx hb dX7_inkAt_12 (by decide) ?_
  refine lv_iconst (v := 0) hx hb dX7_inkAt_13 (by decide) ?_
  have hPc := hP.sub (ws' := [(h0, .inr (7, [.ref t1, .ref t2, .ref t3, .ref ol])), (t1, .inl (cI, 3, .inl ua)), (t2, .inl (cI, 3, .inl ub))]) [1, 2, 3] rfl
  have hDc := hD.sub (ws' := [(h0, .inr (7, [.ref t1, .ref t2, .ref t3, .ref ol])), (t1, .inl (cI, 3, .inl ua)), (t2, .inl (cI, 3, .inl ub))]) [1, 2, 3] (by decide) rfl
  have hKc := hK.sub (tys' := [(cI, .int)]) [0] rfl
  have hFc := va_free (wc := [(h0, .inr (7, [.ref t1, .ref t2, .ref t3, .ref ol])), (t1, .inl (cI, 3, .inl ua)), (t2, .inl (cI, 3, .inl ub))]) hD hS hA [1, 2, 3] rfl
  refine va_calli (va_runV (As := [.int x, .int y, .int 2, .int 0]) (rest := []) ⟨hx, hb, hml, hown, hts⟩ (k_X7_areaFrom l D H.size h0 t1 t2 t3 ol ua ub x y 2 0 cI (by first | assumption | omega | decide) (by first | assumption | omega | decide)) (cwV 4 hts (gV bw_216 bw_218 bw_219 bw_195 bw_217) rfl rfl rfl (by decide +kernel) ⟨(by rw [hR]; exact Nat.le_of_ble_eq_true rfl), (by rw [hR]; exact Nat.le_of_ble_eq_true rfl)⟩) ⟨cP_blind, va_recv hKc hPc (ci := 7) (q0 := 0) rfl rfl, cP_at hPc hKc hDc hN⟩ rfl rfl hl.1 rfl (lv_room (Nat.le_of_ble_eq_true rfl)) dX7_inkAt_14 ⟨(by rw [hR]; exact Nat.le_of_ble_eq_true rfl), (by rw [hR]; exact Nat.le_of_ble_eq_true rfl)⟩) hS (fun q _ h => hFc q h) hFc (fun r_2 u9 t9 H1 locs ht hvm hr_2 hB hz1 hk1 hS => ?_)
  try dsimp only at hr_2
  obtain ⟨hP1, hK1, hD1⟩ := hB
  rw [ht] at hP1
  obtain ⟨hP, hD⟩ := va_join (wr := [(t3, .inl (cI, 3, .inl uc))]) (w1 := [(h0, .inr (7, [.ref t1, .ref t2, .ref t3, .ref ol])), (t1, .inl (cI, 3, .inl ua)), (t2, .inl (cI, 3, .inl ub))]) hP hD [1, 2, 3] [0] rfl rfl (by decide) (by decide) hk1 hFc hP1 hD1
  clear hz1 hk1 hFc hKc hDc hPc
  generalize H1 = H at hP hS ⊢
  have hP : va_P D vwCl [(t3, .inl (cI, 3, .inl uc)), (h0, .inr (7, [.ref t1, .ref t2, .ref t3, .ref ol])), (t1, .inl (cI, 3, .inl ua)), (t2, .inl (cI, 3, .inl ub))] H := hP
  have hD : va_D A [(t3, .inl (cI, 3, .inl uc)), (h0, .inr (7, [.ref t1, .ref t2, .ref t3, .ref ol])), (t1, .inl (cI, 3, .inl ua)), (t2, .inl (cI, 3, .inl ub))] := hD
  have hqr_2 : r_2 = arP (ua 2) (ub 2) (ua 0) (ub 0) x y := hr_2
  refine lv_istore (lv' := [(4, .int r_2), (3, .int r_1), (0, .ref h0), (1, .int x), (2, .int y)]) hx hb dX7_inkAt_17 hl (by decide) rfl (fun ls hl => ?_)
  refine lv_aload_n hx hb dX7_inkAt_19 rfl (lv_at hl 2 rfl) ?_
  refine lv_iload_n hx hb dX7_inkAt_20 rfl (lv_at hl 3 rfl) ?_
  refine lv_iload_n hx hb dX7_inkAt_21 rfl (lv_at hl 4 rfl) ?_
  refine lv_iconst (v := 0) hx hb dX7_inkAt_22 (by decide) ?_
  refine lv_iconst (v := 1) hx hb dX7_inkAt_23 (by decide) ?_
  have hPc := hP.sub (ws' := [(h0, .inr (7, [.ref t1, .ref t2, .ref t3, .ref ol])), (t1, .inl (cI, 3, .inl ua)), (t2, .inl (cI, 3, .inl ub))]) [1, 2, 3] rfl
  have hDc := hD.sub (ws' := [(h0, .inr (7, [.ref t1, .ref t2, .ref t3, .ref ol])), (t1, .inl (cI, 3, .inl ua)), (t2, .inl (cI, 3, .inl ub))]) [1, 2, 3] (by decide) rfl
  have hKc := hK.sub (tys' := [(cI, .int)]) [0] rfl
  have hFc := va_free (wc := [(h0, .inr (7, [.ref t1, .ref t2, .ref t3, .ref ol])), (t1, .inl (cI, 3, .inl ua)), (t2, .inl (cI, 3, .inl ub))]) hD hS hA [1, 2, 3] rfl
  refine va_calli (va_runV (As := [.int x, .int y, .int 0, .int 1]) (rest := []) ⟨hx, hb, hml, hown, hts⟩ (k_X7_areaFrom l D H.size h0 t1 t2 t3 ol ua ub x y 0 1 cI (by first | assumption | omega | decide) (by first | assumption | omega | decide)) (cwV 4 hts (gV bw_216 bw_218 bw_219 bw_195 bw_217) rfl rfl rfl (by decide +kernel) ⟨(by rw [hR]; exact Nat.le_of_ble_eq_true rfl), (by rw [hR]; exact Nat.le_of_ble_eq_true rfl)⟩) ⟨cP_blind, va_recv hKc hPc (ci := 7) (q0 := 0) rfl rfl, cP_at hPc hKc hDc hN⟩ rfl rfl hl.1 rfl (lv_room (Nat.le_of_ble_eq_true rfl)) dX7_inkAt_24 ⟨(by rw [hR]; exact Nat.le_of_ble_eq_true rfl), (by rw [hR]; exact Nat.le_of_ble_eq_true rfl)⟩) hS (fun q _ h => hFc q h) hFc (fun r_3 u9 t9 H1 locs ht hvm hr_3 hB hz1 hk1 hS => ?_)
  try dsimp only at hr_3
  obtain ⟨hP1, hK1, hD1⟩ := hB
  rw [ht] at hP1
  obtain ⟨hP, hD⟩ := va_join (wr := [(t3, .inl (cI, 3, .inl uc))]) (w1 := [(h0, .inr (7, [.ref t1, .ref t2, .ref t3, .ref ol])), (t1, .inl (cI, 3, .inl ua)), (t2, .inl (cI, 3, .inl ub))]) hP hD [1, 2, 3] [0] rfl rfl (by decide) (by decide) hk1 hFc hP1 hD1
  clear hz1 hk1 hFc hKc hDc hPc
  generalize H1 = H at hP hS ⊢
  have hP : va_P D vwCl [(t3, .inl (cI, 3, .inl uc)), (h0, .inr (7, [.ref t1, .ref t2, .ref t3, .ref ol])), (t1, .inl (cI, 3, .inl ua)), (t2, .inl (cI, 3, .inl ub))] H := hP
  have hD : va_D A [(t3, .inl (cI, 3, .inl uc)), (h0, .inr (7, [.ref t1, .ref t2, .ref t3, .ref ol])), (t1, .inl (cI, 3, .inl ua)), (t2, .inl (cI, 3, .inl ub))] := hD
  have hqr_3 : r_3 = arP (ua 0) (ub 0) (ua 1) (ub 1) x y := hr_3
  refine lv_istore (lv' := [(5, .int r_3), (4, .int r_2), (3, .int r_1), (0, .ref h0), (1, .int x), (2, .int y)]) hx hb dX7_inkAt_27 hl (by decide) rfl (fun ls hl => ?_)
  refine lv_iload_n hx hb dX7_inkAt_29 rfl (lv_at hl 2 rfl) ?_
  refine lv_iload hx hb dX7_inkAt_30 (lv_at hl 1 rfl) ?_
  refine lv_iadd hx hb dX7_inkAt_32 ?_
  refine lv_topi (fun y_4 ey_4 => ?_)
  refine lv_iload hx hb dX7_inkAt_33 (lv_at hl 0 rfl) ?_
  refine lv_iadd hx hb dX7_inkAt_35 ?_
  refine lv_topi (fun y_5 ey_5 => ?_)
  refine lv_istore (lv' := [(6, .int y_5), (5, .int r_3), (4, .int r_2), (3, .int r_1), (0, .ref h0), (1, .int x), (2, .int y)]) hx hb dX7_inkAt_36 hl (by decide) rfl (fun ls hl => ?_)
  refine lv_iload hx hb dX7_inkAt_38 (lv_at hl 0 rfl) ?_
  refine lv_if_ne (tgt := 45) hx hb dX7_inkAt_40 (by decide) (fun c_6 => ?_) (fun c_6 => ?_)
  · skip
    have f_7 : ¬ (y_5.toInt = 0) := fn_eq rfl (by decide) c_6
    refine lv_iconst (v := 0) hx hb dX7_inkAt_45 (by decide) ?_
    refine lv_istore (lv' := [(7, .int 0), (6, .int y_5), (5, .int r_3), (4, .int r_2), (3, .int r_1), (0, .ref h0), (1, .int x), (2, .int y)]) hx hb dX7_inkAt_46 hl (by decide) rfl (fun ls hl => ?_)
    refine lv_bipush (v := 24) hx hb dX7_inkAt_48 (by decide) ?_
    refine lv_istore (lv' := [(8, .int 24), (7, .int 0), (6, .int y_5), (5, .int r_3), (4, .int r_2), (3, .int r_1), (0, .ref h0), (1, .int x), (2, .int y)]) hx hb dX7_inkAt_50 hl (by decide) rfl (fun ls hl => ?_)
    refine lv_iload hx hb dX7_inkAt_52 (lv_at hl 0 rfl) ?_
    refine lv_if_lt (tgt := 121) hx hb dX7_inkAt_54 (by decide) (fun c_8 => ?_) (fun c_8 => ?_)
    · skip
      exact absurd c_8 (by decide)
    · skip
      refine lv_iload_n hx hb dX7_inkAt_57 rfl (lv_at hl 5 rfl) ?_
      refine lv_aload_n hx hb dX7_inkAt_58 rfl (lv_at hl 6 rfl) ?_
      refine va_get (D := D) (ci := 7) (v := .ref t3) (C := RX7) (T := TX7) (N := 4) hx hb hts hi_X7 hown hK hP 1 rfl rfl 2 (by decide) (hts _ bw_202) (fun _ h9 => h9) rfl dX7_inkAt_59 ?_
      refine lv_iconst (v := 0) hx hb dX7_inkAt_62 (by decide) ?_
      refine va_iald hx hb hK hP 0 0 rfl rfl (my_in (by decide) (by decide)) dX7_inkAt_63 ?_
      refine my_fold (v := uc 0) (congrArg uc (by decide)) ?_
      refine lv_iload hx hb dX7_inkAt_64 (lv_at hl 0 rfl) ?_
      have hPc := hP.sub (ws' := []) [] rfl
      have hDc := hD.sub (ws' := []) [] (by decide) rfl
      have hKc := hK.sub (tys' := []) [] rfl
      have hFc := va_free (wc := []) hD hS hA [] rfl
      refine va_calli (va_runSN (host := RX8) (As := [.int (uc 0), .int 24]) (rest := [.int r_1]) ⟨hx, hb, hml, hown, hts⟩ (k_X8_channel l D H.size (uc 0) 24) ⟨va_cnB 2 hts (gI bw_360) rfl rfl rfl (hN.2.1 (RX7, 39, yX8_channel, RX8) (by decide +kernel)) (hts _ bw_223) (by decide +kernel) ⟨(by rw [hR]; exact Nat.le_of_ble_eq_true rfl), (by rw [hR]; exact Nat.le_of_ble_eq_true rfl)⟩, (hts _ bw_361), trivial⟩ ⟨cP_blind, cP_at hPc hKc hDc hN⟩ rfl rfl hl.1 rfl (lv_room (Nat.le_of_ble_eq_true rfl)) dX7_inkAt_66 ⟨(by rw [hR]; exact Nat.le_of_ble_eq_true rfl), (by rw [hR]; exact Nat.le_of_ble_eq_true rfl)⟩) hS (fun q _ h => hFc q h) hFc (fun r_10 u9 t9 H1 locs ht hvm hr_10 hB hz1 hk1 hS => ?_)
      try dsimp only at hr_10
      have hP1 : va_P D vwCl [] H1 := vP_nil
      have hD1 : va_D (va_A [] H.size) [] := vD_nil
      obtain ⟨hP, hD⟩ := va_join (wr := [(t3, .inl (cI, 3, .inl uc)), (h0, .inr (7, [.ref t1, .ref t2, .ref t3, .ref ol])), (t1, .inl (cI, 3, .inl ua)), (t2, .inl (cI, 3, .inl ub))]) (w1 := []) hP hD [] [0, 1, 2, 3] rfl rfl (by decide) (by decide) hk1 hFc hP1 hD1
      clear hz1 hk1 hFc hKc hDc hPc
      generalize H1 = H at hP hS ⊢
      have hP : va_P D vwCl [(t3, .inl (cI, 3, .inl uc)), (h0, .inr (7, [.ref t1, .ref t2, .ref t3, .ref ol])), (t1, .inl (cI, 3, .inl ua)), (t2, .inl (cI, 3, .inl ub))] H := hP
      have hD : va_D A [(t3, .inl (cI, 3, .inl uc)), (h0, .inr (7, [.ref t1, .ref t2, .ref t3, .ref ol])), (t1, .inl (cI, 3, .inl ua)), (t2, .inl (cI, 3, .inl ub))] := hD
      refine lv_imul hx hb dX7_inkAt_69 ?_
      refine lv_topi (fun y_11 ey_11 => ?_)
      refine lv_iload hx hb dX7_inkAt_70 (lv_at hl 4 rfl) ?_
      refine lv_aload_n hx hb dX7_inkAt_72 rfl (lv_at hl 6 rfl) ?_
      refine va_get (D := D) (ci := 7) (v := .ref t3) (C := RX7) (T := TX7) (N := 4) hx hb hts hi_X7 hown hK hP 1 rfl rfl 2 (by decide) (hts _ bw_202) (fun _ h9 => h9) rfl dX7_inkAt_73 ?_
      refine lv_iconst (v := 1) hx hb dX7_inkAt_76 (by decide) ?_
      refine va_iald hx hb hK hP 0 0 rfl rfl (my_in (by decide) (by decide)) dX7_inkAt_77 ?_
      refine my_fold (v := uc 1) (congrArg uc (by decide)) ?_
      refine lv_iload hx hb dX7_inkAt_78 (lv_at hl 0 rfl) ?_
      have hPc := hP.sub (ws' := []) [] rfl
      have hDc := hD.sub (ws' := []) [] (by decide) rfl
      have hKc := hK.sub (tys' := []) [] rfl
      have hFc := va_free (wc := []) hD hS hA [] rfl
      refine va_calli (va_runSN (host := RX8) (As := [.int (uc 1), .int 24]) (rest := [.int r_2, .int y_11]) ⟨hx, hb, hml, hown, hts⟩ (k_X8_channel l D H.size (uc 1) 24) ⟨va_cnB 2 hts (gI bw_360) rfl rfl rfl (hN.2.1 (RX7, 39, yX8_channel, RX8) (by decide +kernel)) (hts _ bw_223) (by decide +kernel) ⟨(by rw [hR]; exact Nat.le_of_ble_eq_true rfl), (by rw [hR]; exact Nat.le_of_ble_eq_true rfl)⟩, (hts _ bw_361), trivial⟩ ⟨cP_blind, cP_at hPc hKc hDc hN⟩ rfl rfl hl.1 rfl (lv_room (Nat.le_of_ble_eq_true rfl)) dX7_inkAt_80 ⟨(by rw [hR]; exact Nat.le_of_ble_eq_true rfl), (by rw [hR]; exact Nat.le_of_ble_eq_true rfl)⟩) hS (fun q _ h => hFc q h) hFc (fun r_12 u9 t9 H1 locs ht hvm hr_12 hB hz1 hk1 hS => ?_)
      try dsimp only at hr_12
      have hP1 : va_P D vwCl [] H1 := vP_nil
      have hD1 : va_D (va_A [] H.size) [] := vD_nil
      obtain ⟨hP, hD⟩ := va_join (wr := [(t3, .inl (cI, 3, .inl uc)), (h0, .inr (7, [.ref t1, .ref t2, .ref t3, .ref ol])), (t1, .inl (cI, 3, .inl ua)), (t2, .inl (cI, 3, .inl ub))]) (w1 := []) hP hD [] [0, 1, 2, 3] rfl rfl (by decide) (by decide) hk1 hFc hP1 hD1
      clear hz1 hk1 hFc hKc hDc hPc
      generalize H1 = H at hP hS ⊢
      have hP : va_P D vwCl [(t3, .inl (cI, 3, .inl uc)), (h0, .inr (7, [.ref t1, .ref t2, .ref t3, .ref ol])), (t1, .inl (cI, 3, .inl ua)), (t2, .inl (cI, 3, .inl ub))] H := hP
      have hD : va_D A [(t3, .inl (cI, 3, .inl uc)), (h0, .inr (7, [.ref t1, .ref t2, .ref t3, .ref ol])), (t1, .inl (cI, 3, .inl ua)), (t2, .inl (cI, 3, .inl ub))] := hD
      refine lv_imul hx hb dX7_inkAt_83 ?_
      refine lv_topi (fun y_13 ey_13 => ?_)
      refine lv_iadd hx hb dX7_inkAt_84 ?_
      refine lv_topi (fun y_14 ey_14 => ?_)
      refine lv_iload hx hb dX7_inkAt_85 (lv_at hl 3 rfl) ?_
      refine lv_aload_n hx hb dX7_inkAt_87 rfl (lv_at hl 6 rfl) ?_
      refine va_get (D := D) (ci := 7) (v := .ref t3) (C := RX7) (T := TX7) (N := 4) hx hb hts hi_X7 hown hK hP 1 rfl rfl 2 (by decide) (hts _ bw_202) (fun _ h9 => h9) rfl dX7_inkAt_88 ?_
      refine lv_iconst (v := 2) hx hb dX7_inkAt_91 (by decide) ?_
      refine va_iald hx hb hK hP 0 0 rfl rfl (my_in (by decide) (by decide)) dX7_inkAt_92 ?_
      refine my_fold (v := uc 2) (congrArg uc (by decide)) ?_
      refine lv_iload hx hb dX7_inkAt_93 (lv_at hl 0 rfl) ?_
      have hPc := hP.sub (ws' := []) [] rfl
      have hDc := hD.sub (ws' := []) [] (by decide) rfl
      have hKc := hK.sub (tys' := []) [] rfl
      have hFc := va_free (wc := []) hD hS hA [] rfl
      refine va_calli (va_runSN (host := RX8) (As := [.int (uc 2), .int 24]) (rest := [.int r_3, .int y_14]) ⟨hx, hb, hml, hown, hts⟩ (k_X8_channel l D H.size (uc 2) 24) ⟨va_cnB 2 hts (gI bw_360) rfl rfl rfl (hN.2.1 (RX7, 39, yX8_channel, RX8) (by decide +kernel)) (hts _ bw_223) (by decide +kernel) ⟨(by rw [hR]; exact Nat.le_of_ble_eq_true rfl), (by rw [hR]; exact Nat.le_of_ble_eq_true rfl)⟩, (hts _ bw_361), trivial⟩ ⟨cP_blind, cP_at hPc hKc hDc hN⟩ rfl rfl hl.1 rfl (lv_room (Nat.le_of_ble_eq_true rfl)) dX7_inkAt_95 ⟨(by rw [hR]; exact Nat.le_of_ble_eq_true rfl), (by rw [hR]; exact Nat.le_of_ble_eq_true rfl)⟩) hS (fun q _ h => hFc q h) hFc (fun r_15 u9 t9 H1 locs ht hvm hr_15 hB hz1 hk1 hS => ?_)
      try dsimp only at hr_15
      have hP1 : va_P D vwCl [] H1 := vP_nil
      have hD1 : va_D (va_A [] H.size) [] := vD_nil
      obtain ⟨hP, hD⟩ := va_join (wr := [(t3, .inl (cI, 3, .inl uc)), (h0, .inr (7, [.ref t1, .ref t2, .ref t3, .ref ol])), (t1, .inl (cI, 3, .inl ua)), (t2, .inl (cI, 3, .inl ub))]) (w1 := []) hP hD [] [0, 1, 2, 3] rfl rfl (by decide) (by decide) hk1 hFc hP1 hD1
      clear hz1 hk1 hFc hKc hDc hPc
      generalize H1 = H at hP hS ⊢
      have hP : va_P D vwCl [(t3, .inl (cI, 3, .inl uc)), (h0, .inr (7, [.ref t1, .ref t2, .ref t3, .ref ol])), (t1, .inl (cI, 3, .inl ua)), (t2, .inl (cI, 3, .inl ub))] H := hP
      have hD : va_D A [(t3, .inl (cI, 3, .inl uc)), (h0, .inr (7, [.ref t1, .ref t2, .ref t3, .ref ol])), (t1, .inl (cI, 3, .inl ua)), (t2, .inl (cI, 3, .inl ub))] := hD
      refine lv_imul hx hb dX7_inkAt_98 ?_
      refine lv_topi (fun y_16 ey_16 => ?_)
      refine lv_iadd hx hb dX7_inkAt_99 ?_
      refine lv_topi (fun y_17 ey_17 => ?_)
      refine lv_istore (lv' := [(9, .int y_17), (8, .int 24), (7, .int 0), (6, .int y_5), (5, .int r_3), (4, .int r_2), (3, .int r_1), (0, .ref h0), (1, .int x), (2, .int y)]) hx hb dX7_inkAt_100 hl (by decide) rfl (fun ls hl => ?_)
      refine lv_iload hx hb dX7_inkAt_102 (lv_at hl 2 rfl) ?_
      refine lv_bipush (v := 8) hx hb dX7_inkAt_104 (by decide) ?_
      refine lv_ishl hx hb dX7_inkAt_106 ?_
      refine my_fold (v := 0) (by decide) ?_
      refine lv_iload hx hb dX7_inkAt_107 (lv_at hl 0 rfl) ?_
      refine lv_iload hx hb dX7_inkAt_109 (lv_at hl 3 rfl) ?_
      refine lv_idiv hx hb dX7_inkAt_111 c_6 ?_
      refine lv_topi (fun y_18 ey_18 => ?_)
      refine lv_ior hx hb dX7_inkAt_112 ?_
      refine lv_topi (fun y_19 ey_19 => ?_)
      refine lv_istore (lv' := [(7, .int y_19), (9, .int y_17), (8, .int 24), (6, .int y_5), (5, .int r_3), (4, .int r_2), (3, .int r_1), (0, .ref h0), (1, .int x), (2, .int y)]) hx hb dX7_inkAt_113 hl (by decide) rfl (fun ls hl => ?_)
      refine lv_iinc (v := 16) (lv' := [(8, .int 16), (7, .int y_19), (9, .int y_17), (6, .int y_5), (5, .int r_3), (4, .int r_2), (3, .int r_1), (0, .ref h0), (1, .int x), (2, .int y)]) hx hb dX7_inkAt_115 hl (k := 2) rfl (by decide) (by decide) rfl (fun ls hl => ?_)
      refine lv_goto (tgt := 52) hx hb dX7_inkAt_118 (by decide) ?_
      refine lv_iload hx hb dX7_inkAt_52 (lv_at hl 0 rfl) ?_
      refine lv_if_lt (tgt := 121) hx hb dX7_inkAt_54 (by decide) (fun c_20 => ?_) (fun c_20 => ?_)
      · skip
        exact absurd c_20 (by decide)
      · skip
        refine lv_iload_n hx hb dX7_inkAt_57 rfl (lv_at hl 6 rfl) ?_
        refine lv_aload_n hx hb dX7_inkAt_58 rfl (lv_at hl 7 rfl) ?_
        refine va_get (D := D) (ci := 7) (v := .ref t3) (C := RX7) (T := TX7) (N := 4) hx hb hts hi_X7 hown hK hP 1 rfl rfl 2 (by decide) (hts _ bw_202) (fun _ h9 => h9) rfl dX7_inkAt_59 ?_
        refine lv_iconst (v := 0) hx hb dX7_inkAt_62 (by decide) ?_
        refine va_iald hx hb hK hP 0 0 rfl rfl (my_in (by decide) (by decide)) dX7_inkAt_63 ?_
        refine my_fold (v := uc 0) (congrArg uc (by decide)) ?_
        refine lv_iload hx hb dX7_inkAt_64 (lv_at hl 0 rfl) ?_
        have hPc := hP.sub (ws' := []) [] rfl
        have hDc := hD.sub (ws' := []) [] (by decide) rfl
        have hKc := hK.sub (tys' := []) [] rfl
        have hFc := va_free (wc := []) hD hS hA [] rfl
        refine va_calli (va_runSN (host := RX8) (As := [.int (uc 0), .int 16]) (rest := [.int r_1]) ⟨hx, hb, hml, hown, hts⟩ (k_X8_channel l D H.size (uc 0) 16) ⟨va_cnB 2 hts (gI bw_360) rfl rfl rfl (hN.2.1 (RX7, 39, yX8_channel, RX8) (by decide +kernel)) (hts _ bw_223) (by decide +kernel) ⟨(by rw [hR]; exact Nat.le_of_ble_eq_true rfl), (by rw [hR]; exact Nat.le_of_ble_eq_true rfl)⟩, (hts _ bw_361), trivial⟩ ⟨cP_blind, cP_at hPc hKc hDc hN⟩ rfl rfl hl.1 rfl (lv_room (Nat.le_of_ble_eq_true rfl)) dX7_inkAt_66 ⟨(by rw [hR]; exact Nat.le_of_ble_eq_true rfl), (by rw [hR]; exact Nat.le_of_ble_eq_true rfl)⟩) hS (fun q _ h => hFc q h) hFc (fun r_22 u9 t9 H1 locs ht hvm hr_22 hB hz1 hk1 hS => ?_)
        try dsimp only at hr_22
        have hP1 : va_P D vwCl [] H1 := vP_nil
        have hD1 : va_D (va_A [] H.size) [] := vD_nil
        obtain ⟨hP, hD⟩ := va_join (wr := [(t3, .inl (cI, 3, .inl uc)), (h0, .inr (7, [.ref t1, .ref t2, .ref t3, .ref ol])), (t1, .inl (cI, 3, .inl ua)), (t2, .inl (cI, 3, .inl ub))]) (w1 := []) hP hD [] [0, 1, 2, 3] rfl rfl (by decide) (by decide) hk1 hFc hP1 hD1
        clear hz1 hk1 hFc hKc hDc hPc
        generalize H1 = H at hP hS ⊢
        have hP : va_P D vwCl [(t3, .inl (cI, 3, .inl uc)), (h0, .inr (7, [.ref t1, .ref t2, .ref t3, .ref ol])), (t1, .inl (cI, 3, .inl ua)), (t2, .inl (cI, 3, .inl ub))] H := hP
        have hD : va_D A [(t3, .inl (cI, 3, .inl uc)), (h0, .inr (7, [.ref t1, .ref t2, .ref t3, .ref ol])), (t1, .inl (cI, 3, .inl ua)), (t2, .inl (cI, 3, .inl ub))] := hD
        refine lv_imul hx hb dX7_inkAt_69 ?_
        refine lv_topi (fun y_23 ey_23 => ?_)
        refine lv_iload hx hb dX7_inkAt_70 (lv_at hl 5 rfl) ?_
        refine lv_aload_n hx hb dX7_inkAt_72 rfl (lv_at hl 7 rfl) ?_
        refine va_get (D := D) (ci := 7) (v := .ref t3) (C := RX7) (T := TX7) (N := 4) hx hb hts hi_X7 hown hK hP 1 rfl rfl 2 (by decide) (hts _ bw_202) (fun _ h9 => h9) rfl dX7_inkAt_73 ?_
        refine lv_iconst (v := 1) hx hb dX7_inkAt_76 (by decide) ?_
        refine va_iald hx hb hK hP 0 0 rfl rfl (my_in (by decide) (by decide)) dX7_inkAt_77 ?_
        refine my_fold (v := uc 1) (congrArg uc (by decide)) ?_
        refine lv_iload hx hb dX7_inkAt_78 (lv_at hl 0 rfl) ?_
        have hPc := hP.sub (ws' := []) [] rfl
        have hDc := hD.sub (ws' := []) [] (by decide) rfl
        have hKc := hK.sub (tys' := []) [] rfl
        have hFc := va_free (wc := []) hD hS hA [] rfl
        refine va_calli (va_runSN (host := RX8) (As := [.int (uc 1), .int 16]) (rest := [.int r_2, .int y_23]) ⟨hx, hb, hml, hown, hts⟩ (k_X8_channel l D H.size (uc 1) 16) ⟨va_cnB 2 hts (gI bw_360) rfl rfl rfl (hN.2.1 (RX7, 39, yX8_channel, RX8) (by decide +kernel)) (hts _ bw_223) (by decide +kernel) ⟨(by rw [hR]; exact Nat.le_of_ble_eq_true rfl), (by rw [hR]; exact Nat.le_of_ble_eq_true rfl)⟩, (hts _ bw_361), trivial⟩ ⟨cP_blind, cP_at hPc hKc hDc hN⟩ rfl rfl hl.1 rfl (lv_room (Nat.le_of_ble_eq_true rfl)) dX7_inkAt_80 ⟨(by rw [hR]; exact Nat.le_of_ble_eq_true rfl), (by rw [hR]; exact Nat.le_of_ble_eq_true rfl)⟩) hS (fun q _ h => hFc q h) hFc (fun r_24 u9 t9 H1 locs ht hvm hr_24 hB hz1 hk1 hS => ?_)
        try dsimp only at hr_24
        have hP1 : va_P D vwCl [] H1 := vP_nil
        have hD1 : va_D (va_A [] H.size) [] := vD_nil
        obtain ⟨hP, hD⟩ := va_join (wr := [(t3, .inl (cI, 3, .inl uc)), (h0, .inr (7, [.ref t1, .ref t2, .ref t3, .ref ol])), (t1, .inl (cI, 3, .inl ua)), (t2, .inl (cI, 3, .inl ub))]) (w1 := []) hP hD [] [0, 1, 2, 3] rfl rfl (by decide) (by decide) hk1 hFc hP1 hD1
        clear hz1 hk1 hFc hKc hDc hPc
        generalize H1 = H at hP hS ⊢
        have hP : va_P D vwCl [(t3, .inl (cI, 3, .inl uc)), (h0, .inr (7, [.ref t1, .ref t2, .ref t3, .ref ol])), (t1, .inl (cI, 3, .inl ua)), (t2, .inl (cI, 3, .inl ub))] H := hP
        have hD : va_D A [(t3, .inl (cI, 3, .inl uc)), (h0, .inr (7, [.ref t1, .ref t2, .ref t3, .ref ol])), (t1, .inl (cI, 3, .inl ua)), (t2, .inl (cI, 3, .inl ub))] := hD
        refine lv_imul hx hb dX7_inkAt_83 ?_
        refine lv_topi (fun y_25 ey_25 => ?_)
        refine lv_iadd hx hb dX7_inkAt_84 ?_
        refine lv_topi (fun y_26 ey_26 => ?_)
        refine lv_iload hx hb dX7_inkAt_85 (lv_at hl 4 rfl) ?_
        refine lv_aload_n hx hb dX7_inkAt_87 rfl (lv_at hl 7 rfl) ?_
        refine va_get (D := D) (ci := 7) (v := .ref t3) (C := RX7) (T := TX7) (N := 4) hx hb hts hi_X7 hown hK hP 1 rfl rfl 2 (by decide) (hts _ bw_202) (fun _ h9 => h9) rfl dX7_inkAt_88 ?_
        refine lv_iconst (v := 2) hx hb dX7_inkAt_91 (by decide) ?_
        refine va_iald hx hb hK hP 0 0 rfl rfl (my_in (by decide) (by decide)) dX7_inkAt_92 ?_
        refine my_fold (v := uc 2) (congrArg uc (by decide)) ?_
        refine lv_iload hx hb dX7_inkAt_93 (lv_at hl 0 rfl) ?_
        have hPc := hP.sub (ws' := []) [] rfl
        have hDc := hD.sub (ws' := []) [] (by decide) rfl
        have hKc := hK.sub (tys' := []) [] rfl
        have hFc := va_free (wc := []) hD hS hA [] rfl
        refine va_calli (va_runSN (host := RX8) (As := [.int (uc 2), .int 16]) (rest := [.int r_3, .int y_26]) ⟨hx, hb, hml, hown, hts⟩ (k_X8_channel l D H.size (uc 2) 16) ⟨va_cnB 2 hts (gI bw_360) rfl rfl rfl (hN.2.1 (RX7, 39, yX8_channel, RX8) (by decide +kernel)) (hts _ bw_223) (by decide +kernel) ⟨(by rw [hR]; exact Nat.le_of_ble_eq_true rfl), (by rw [hR]; exact Nat.le_of_ble_eq_true rfl)⟩, (hts _ bw_361), trivial⟩ ⟨cP_blind, cP_at hPc hKc hDc hN⟩ rfl rfl hl.1 rfl (lv_room (Nat.le_of_ble_eq_true rfl)) dX7_inkAt_95 ⟨(by rw [hR]; exact Nat.le_of_ble_eq_true rfl), (by rw [hR]; exact Nat.le_of_ble_eq_true rfl)⟩) hS (fun q _ h => hFc q h) hFc (fun r_27 u9 t9 H1 locs ht hvm hr_27 hB hz1 hk1 hS => ?_)
        try dsimp only at hr_27
        have hP1 : va_P D vwCl [] H1 := vP_nil
        have hD1 : va_D (va_A [] H.size) [] := vD_nil
        obtain ⟨hP, hD⟩ := va_join (wr := [(t3, .inl (cI, 3, .inl uc)), (h0, .inr (7, [.ref t1, .ref t2, .ref t3, .ref ol])), (t1, .inl (cI, 3, .inl ua)), (t2, .inl (cI, 3, .inl ub))]) (w1 := []) hP hD [] [0, 1, 2, 3] rfl rfl (by decide) (by decide) hk1 hFc hP1 hD1
        clear hz1 hk1 hFc hKc hDc hPc
        generalize H1 = H at hP hS ⊢
        have hP : va_P D vwCl [(t3, .inl (cI, 3, .inl uc)), (h0, .inr (7, [.ref t1, .ref t2, .ref t3, .ref ol])), (t1, .inl (cI, 3, .inl ua)), (t2, .inl (cI, 3, .inl ub))] H := hP
        have hD : va_D A [(t3, .inl (cI, 3, .inl uc)), (h0, .inr (7, [.ref t1, .ref t2, .ref t3, .ref ol])), (t1, .inl (cI, 3, .inl ua)), (t2, .inl (cI, 3, .inl ub))] := hD
        refine lv_imul hx hb dX7_inkAt_98 ?_
        refine lv_topi (fun y_28 ey_28 => ?_)
        refine lv_iadd hx hb dX7_inkAt_99 ?_
        refine lv_topi (fun y_29 ey_29 => ?_)
        refine lv_istore (lv' := [(9, .int y_29), (8, .int 16), (7, .int y_19), (6, .int y_5), (5, .int r_3), (4, .int r_2), (3, .int r_1), (0, .ref h0), (1, .int x), (2, .int y)]) hx hb dX7_inkAt_100 hl (by decide) rfl (fun ls hl => ?_)
        refine lv_iload hx hb dX7_inkAt_102 (lv_at hl 2 rfl) ?_
        refine lv_bipush (v := 8) hx hb dX7_inkAt_104 (by decide) ?_
        refine lv_ishl hx hb dX7_inkAt_106 ?_
        refine lv_topi (fun y_30 ey_30 => ?_)
        refine lv_iload hx hb dX7_inkAt_107 (lv_at hl 0 rfl) ?_
        refine lv_iload hx hb dX7_inkAt_109 (lv_at hl 3 rfl) ?_
        refine lv_idiv hx hb dX7_inkAt_111 c_6 ?_
        refine lv_topi (fun y_31 ey_31 => ?_)
        refine lv_ior hx hb dX7_inkAt_112 ?_
        refine lv_topi (fun y_32 ey_32 => ?_)
        refine lv_istore (lv' := [(7, .int y_32), (9, .int y_29), (8, .int 16), (6, .int y_5), (5, .int r_3), (4, .int r_2), (3, .int r_1), (0, .ref h0), (1, .int x), (2, .int y)]) hx hb dX7_inkAt_113 hl (by decide) rfl (fun ls hl => ?_)
        refine lv_iinc (v := 8) (lv' := [(8, .int 8), (7, .int y_32), (9, .int y_29), (6, .int y_5), (5, .int r_3), (4, .int r_2), (3, .int r_1), (0, .ref h0), (1, .int x), (2, .int y)]) hx hb dX7_inkAt_115 hl (k := 2) rfl (by decide) (by decide) rfl (fun ls hl => ?_)
        refine lv_goto (tgt := 52) hx hb dX7_inkAt_118 (by decide) ?_
        refine lv_iload hx hb dX7_inkAt_52 (lv_at hl 0 rfl) ?_
        refine lv_if_lt (tgt := 121) hx hb dX7_inkAt_54 (by decide) (fun c_33 => ?_) (fun c_33 => ?_)
        · skip
          exact absurd c_33 (by decide)
        · skip
          refine lv_iload_n hx hb dX7_inkAt_57 rfl (lv_at hl 6 rfl) ?_
          refine lv_aload_n hx hb dX7_inkAt_58 rfl (lv_at hl 7 rfl) ?_
          refine va_get (D := D) (ci := 7) (v := .ref t3) (C := RX7) (T := TX7) (N := 4) hx hb hts hi_X7 hown hK hP 1 rfl rfl 2 (by decide) (hts _ bw_202) (fun _ h9 => h9) rfl dX7_inkAt_59 ?_
          refine lv_iconst (v := 0) hx hb dX7_inkAt_62 (by decide) ?_
          refine va_iald hx hb hK hP 0 0 rfl rfl (my_in (by decide) (by decide)) dX7_inkAt_63 ?_
          refine my_fold (v := uc 0) (congrArg uc (by decide)) ?_
          refine lv_iload hx hb dX7_inkAt_64 (lv_at hl 0 rfl) ?_
          have hPc := hP.sub (ws' := []) [] rfl
          have hDc := hD.sub (ws' := []) [] (by decide) rfl
          have hKc := hK.sub (tys' := []) [] rfl
          have hFc := va_free (wc := []) hD hS hA [] rfl
          refine va_calli (va_runSN (host := RX8) (As := [.int (uc 0), .int 8]) (rest := [.int r_1]) ⟨hx, hb, hml, hown, hts⟩ (k_X8_channel l D H.size (uc 0) 8) ⟨va_cnB 2 hts (gI bw_360) rfl rfl rfl (hN.2.1 (RX7, 39, yX8_channel, RX8) (by decide +kernel)) (hts _ bw_223) (by decide +kernel) ⟨(by rw [hR]; exact Nat.le_of_ble_eq_true rfl), (by rw [hR]; exact Nat.le_of_ble_eq_true rfl)⟩, (hts _ bw_361), trivial⟩ ⟨cP_blind, cP_at hPc hKc hDc hN⟩ rfl rfl hl.1 rfl (lv_room (Nat.le_of_ble_eq_true rfl)) dX7_inkAt_66 ⟨(by rw [hR]; exact Nat.le_of_ble_eq_true rfl), (by rw [hR]; exact Nat.le_of_ble_eq_true rfl)⟩) hS (fun q _ h => hFc q h) hFc (fun r_35 u9 t9 H1 locs ht hvm hr_35 hB hz1 hk1 hS => ?_)
          try dsimp only at hr_35
          have hP1 : va_P D vwCl [] H1 := vP_nil
          have hD1 : va_D (va_A [] H.size) [] := vD_nil
          obtain ⟨hP, hD⟩ := va_join (wr := [(t3, .inl (cI, 3, .inl uc)), (h0, .inr (7, [.ref t1, .ref t2, .ref t3, .ref ol])), (t1, .inl (cI, 3, .inl ua)), (t2, .inl (cI, 3, .inl ub))]) (w1 := []) hP hD [] [0, 1, 2, 3] rfl rfl (by decide) (by decide) hk1 hFc hP1 hD1
          clear hz1 hk1 hFc hKc hDc hPc
          generalize H1 = H at hP hS ⊢
          have hP : va_P D vwCl [(t3, .inl (cI, 3, .inl uc)), (h0, .inr (7, [.ref t1, .ref t2, .ref t3, .ref ol])), (t1, .inl (cI, 3, .inl ua)), (t2, .inl (cI, 3, .inl ub))] H := hP
          have hD : va_D A [(t3, .inl (cI, 3, .inl uc)), (h0, .inr (7, [.ref t1, .ref t2, .ref t3, .ref ol])), (t1, .inl (cI, 3, .inl ua)), (t2, .inl (cI, 3, .inl ub))] := hD
          refine lv_imul hx hb dX7_inkAt_69 ?_
          refine lv_topi (fun y_36 ey_36 => ?_)
          refine lv_iload hx hb dX7_inkAt_70 (lv_at hl 5 rfl) ?_
          refine lv_aload_n hx hb dX7_inkAt_72 rfl (lv_at hl 7 rfl) ?_
          refine va_get (D := D) (ci := 7) (v := .ref t3) (C := RX7) (T := TX7) (N := 4) hx hb hts hi_X7 hown hK hP 1 rfl rfl 2 (by decide) (hts _ bw_202) (fun _ h9 => h9) rfl dX7_inkAt_73 ?_
          refine lv_iconst (v := 1) hx hb dX7_inkAt_76 (by decide) ?_
          refine va_iald hx hb hK hP 0 0 rfl rfl (my_in (by decide) (by decide)) dX7_inkAt_77 ?_
          refine my_fold (v := uc 1) (congrArg uc (by decide)) ?_
          refine lv_iload hx hb dX7_inkAt_78 (lv_at hl 0 rfl) ?_
          have hPc := hP.sub (ws' := []) [] rfl
          have hDc := hD.sub (ws' := []) [] (by decide) rfl
          have hKc := hK.sub (tys' := []) [] rfl
          have hFc := va_free (wc := []) hD hS hA [] rfl
          refine va_calli (va_runSN (host := RX8) (As := [.int (uc 1), .int 8]) (rest := [.int r_2, .int y_36]) ⟨hx, hb, hml, hown, hts⟩ (k_X8_channel l D H.size (uc 1) 8) ⟨va_cnB 2 hts (gI bw_360) rfl rfl rfl (hN.2.1 (RX7, 39, yX8_channel, RX8) (by decide +kernel)) (hts _ bw_223) (by decide +kernel) ⟨(by rw [hR]; exact Nat.le_of_ble_eq_true rfl), (by rw [hR]; exact Nat.le_of_ble_eq_true rfl)⟩, (hts _ bw_361), trivial⟩ ⟨cP_blind, cP_at hPc hKc hDc hN⟩ rfl rfl hl.1 rfl (lv_room (Nat.le_of_ble_eq_true rfl)) dX7_inkAt_80 ⟨(by rw [hR]; exact Nat.le_of_ble_eq_true rfl), (by rw [hR]; exact Nat.le_of_ble_eq_true rfl)⟩) hS (fun q _ h => hFc q h) hFc (fun r_37 u9 t9 H1 locs ht hvm hr_37 hB hz1 hk1 hS => ?_)
          try dsimp only at hr_37
          have hP1 : va_P D vwCl [] H1 := vP_nil
          have hD1 : va_D (va_A [] H.size) [] := vD_nil
          obtain ⟨hP, hD⟩ := va_join (wr := [(t3, .inl (cI, 3, .inl uc)), (h0, .inr (7, [.ref t1, .ref t2, .ref t3, .ref ol])), (t1, .inl (cI, 3, .inl ua)), (t2, .inl (cI, 3, .inl ub))]) (w1 := []) hP hD [] [0, 1, 2, 3] rfl rfl (by decide) (by decide) hk1 hFc hP1 hD1
          clear hz1 hk1 hFc hKc hDc hPc
          generalize H1 = H at hP hS ⊢
          have hP : va_P D vwCl [(t3, .inl (cI, 3, .inl uc)), (h0, .inr (7, [.ref t1, .ref t2, .ref t3, .ref ol])), (t1, .inl (cI, 3, .inl ua)), (t2, .inl (cI, 3, .inl ub))] H := hP
          have hD : va_D A [(t3, .inl (cI, 3, .inl uc)), (h0, .inr (7, [.ref t1, .ref t2, .ref t3, .ref ol])), (t1, .inl (cI, 3, .inl ua)), (t2, .inl (cI, 3, .inl ub))] := hD
          refine lv_imul hx hb dX7_inkAt_83 ?_
          refine lv_topi (fun y_38 ey_38 => ?_)
          refine lv_iadd hx hb dX7_inkAt_84 ?_
          refine lv_topi (fun y_39 ey_39 => ?_)
          refine lv_iload hx hb dX7_inkAt_85 (lv_at hl 4 rfl) ?_
          refine lv_aload_n hx hb dX7_inkAt_87 rfl (lv_at hl 7 rfl) ?_
          refine va_get (D := D) (ci := 7) (v := .ref t3) (C := RX7) (T := TX7) (N := 4) hx hb hts hi_X7 hown hK hP 1 rfl rfl 2 (by decide) (hts _ bw_202) (fun _ h9 => h9) rfl dX7_inkAt_88 ?_
          refine lv_iconst (v := 2) hx hb dX7_inkAt_91 (by decide) ?_
          refine va_iald hx hb hK hP 0 0 rfl rfl (my_in (by decide) (by decide)) dX7_inkAt_92 ?_
          refine my_fold (v := uc 2) (congrArg uc (by decide)) ?_
          refine lv_iload hx hb dX7_inkAt_93 (lv_at hl 0 rfl) ?_
          have hPc := hP.sub (ws' := []) [] rfl
          have hDc := hD.sub (ws' := []) [] (by decide) rfl
          have hKc := hK.sub (tys' := []) [] rfl
          have hFc := va_free (wc := []) hD hS hA [] rfl
          refine va_calli (va_runSN (host := RX8) (As := [.int (uc 2), .int 8]) (rest := [.int r_3, .int y_39]) ⟨hx, hb, hml, hown, hts⟩ (k_X8_channel l D H.size (uc 2) 8) ⟨va_cnB 2 hts (gI bw_360) rfl rfl rfl (hN.2.1 (RX7, 39, yX8_channel, RX8) (by decide +kernel)) (hts _ bw_223) (by decide +kernel) ⟨(by rw [hR]; exact Nat.le_of_ble_eq_true rfl), (by rw [hR]; exact Nat.le_of_ble_eq_true rfl)⟩, (hts _ bw_361), trivial⟩ ⟨cP_blind, cP_at hPc hKc hDc hN⟩ rfl rfl hl.1 rfl (lv_room (Nat.le_of_ble_eq_true rfl)) dX7_inkAt_95 ⟨(by rw [hR]; exact Nat.le_of_ble_eq_true rfl), (by rw [hR]; exact Nat.le_of_ble_eq_true rfl)⟩) hS (fun q _ h => hFc q h) hFc (fun r_40 u9 t9 H1 locs ht hvm hr_40 hB hz1 hk1 hS => ?_)
          try dsimp only at hr_40
          have hP1 : va_P D vwCl [] H1 := vP_nil
          have hD1 : va_D (va_A [] H.size) [] := vD_nil
          obtain ⟨hP, hD⟩ := va_join (wr := [(t3, .inl (cI, 3, .inl uc)), (h0, .inr (7, [.ref t1, .ref t2, .ref t3, .ref ol])), (t1, .inl (cI, 3, .inl ua)), (t2, .inl (cI, 3, .inl ub))]) (w1 := []) hP hD [] [0, 1, 2, 3] rfl rfl (by decide) (by decide) hk1 hFc hP1 hD1
          clear hz1 hk1 hFc hKc hDc hPc
          generalize H1 = H at hP hS ⊢
          have hP : va_P D vwCl [(t3, .inl (cI, 3, .inl uc)), (h0, .inr (7, [.ref t1, .ref t2, .ref t3, .ref ol])), (t1, .inl (cI, 3, .inl ua)), (t2, .inl (cI, 3, .inl ub))] H := hP
          have hD : va_D A [(t3, .inl (cI, 3, .inl uc)), (h0, .inr (7, [.ref t1, .ref t2, .ref t3, .ref ol])), (t1, .inl (cI, 3, .inl ua)), (t2, .inl (cI, 3, .inl ub))] := hD
          refine lv_imul hx hb dX7_inkAt_98 ?_
          refine lv_topi (fun y_41 ey_41 => ?_)
          refine lv_iadd hx hb dX7_inkAt_99 ?_
          refine lv_topi (fun y_42 ey_42 => ?_)
          refine lv_istore (lv' := [(9, .int y_42), (8, .int 8), (7, .int y_32), (6, .int y_5), (5, .int r_3), (4, .int r_2), (3, .int r_1), (0, .ref h0), (1, .int x), (2, .int y)]) hx hb dX7_inkAt_100 hl (by decide) rfl (fun ls hl => ?_)
          refine lv_iload hx hb dX7_inkAt_102 (lv_at hl 2 rfl) ?_
          refine lv_bipush (v := 8) hx hb dX7_inkAt_104 (by decide) ?_
          refine lv_ishl hx hb dX7_inkAt_106 ?_
          refine lv_topi (fun y_43 ey_43 => ?_)
          refine lv_iload hx hb dX7_inkAt_107 (lv_at hl 0 rfl) ?_
          refine lv_iload hx hb dX7_inkAt_109 (lv_at hl 3 rfl) ?_
          refine lv_idiv hx hb dX7_inkAt_111 c_6 ?_
          refine lv_topi (fun y_44 ey_44 => ?_)
          refine lv_ior hx hb dX7_inkAt_112 ?_
          refine lv_topi (fun y_45 ey_45 => ?_)
          refine lv_istore (lv' := [(7, .int y_45), (9, .int y_42), (8, .int 8), (6, .int y_5), (5, .int r_3), (4, .int r_2), (3, .int r_1), (0, .ref h0), (1, .int x), (2, .int y)]) hx hb dX7_inkAt_113 hl (by decide) rfl (fun ls hl => ?_)
          refine lv_iinc (v := 0) (lv' := [(8, .int 0), (7, .int y_45), (9, .int y_42), (6, .int y_5), (5, .int r_3), (4, .int r_2), (3, .int r_1), (0, .ref h0), (1, .int x), (2, .int y)]) hx hb dX7_inkAt_115 hl (k := 2) rfl (by decide) (by decide) rfl (fun ls hl => ?_)
          refine lv_goto (tgt := 52) hx hb dX7_inkAt_118 (by decide) ?_
          refine lv_iload hx hb dX7_inkAt_52 (lv_at hl 0 rfl) ?_
          refine lv_if_lt (tgt := 121) hx hb dX7_inkAt_54 (by decide) (fun c_46 => ?_) (fun c_46 => ?_)
          · skip
            exact absurd c_46 (by decide)
          · skip
            refine lv_iload_n hx hb dX7_inkAt_57 rfl (lv_at hl 6 rfl) ?_
            refine lv_aload_n hx hb dX7_inkAt_58 rfl (lv_at hl 7 rfl) ?_
            refine va_get (D := D) (ci := 7) (v := .ref t3) (C := RX7) (T := TX7) (N := 4) hx hb hts hi_X7 hown hK hP 1 rfl rfl 2 (by decide) (hts _ bw_202) (fun _ h9 => h9) rfl dX7_inkAt_59 ?_
            refine lv_iconst (v := 0) hx hb dX7_inkAt_62 (by decide) ?_
            refine va_iald hx hb hK hP 0 0 rfl rfl (my_in (by decide) (by decide)) dX7_inkAt_63 ?_
            refine my_fold (v := uc 0) (congrArg uc (by decide)) ?_
            refine lv_iload hx hb dX7_inkAt_64 (lv_at hl 0 rfl) ?_
            have hPc := hP.sub (ws' := []) [] rfl
            have hDc := hD.sub (ws' := []) [] (by decide) rfl
            have hKc := hK.sub (tys' := []) [] rfl
            have hFc := va_free (wc := []) hD hS hA [] rfl
            refine va_calli (va_runSN (host := RX8) (As := [.int (uc 0), .int 0]) (rest := [.int r_1]) ⟨hx, hb, hml, hown, hts⟩ (k_X8_channel l D H.size (uc 0) 0) ⟨va_cnB 2 hts (gI bw_360) rfl rfl rfl (hN.2.1 (RX7, 39, yX8_channel, RX8) (by decide +kernel)) (hts _ bw_223) (by decide +kernel) ⟨(by rw [hR]; exact Nat.le_of_ble_eq_true rfl), (by rw [hR]; exact Nat.le_of_ble_eq_true rfl)⟩, (hts _ bw_361), trivial⟩ ⟨cP_blind, cP_at hPc hKc hDc hN⟩ rfl rfl hl.1 rfl (lv_room (Nat.le_of_ble_eq_true rfl)) dX7_inkAt_66 ⟨(by rw [hR]; exact Nat.le_of_ble_eq_true rfl), (by rw [hR]; exact Nat.le_of_ble_eq_true rfl)⟩) hS (fun q _ h => hFc q h) hFc (fun r_48 u9 t9 H1 locs ht hvm hr_48 hB hz1 hk1 hS => ?_)
            try dsimp only at hr_48
            have hP1 : va_P D vwCl [] H1 := vP_nil
            have hD1 : va_D (va_A [] H.size) [] := vD_nil
            obtain ⟨hP, hD⟩ := va_join (wr := [(t3, .inl (cI, 3, .inl uc)), (h0, .inr (7, [.ref t1, .ref t2, .ref t3, .ref ol])), (t1, .inl (cI, 3, .inl ua)), (t2, .inl (cI, 3, .inl ub))]) (w1 := []) hP hD [] [0, 1, 2, 3] rfl rfl (by decide) (by decide) hk1 hFc hP1 hD1
            clear hz1 hk1 hFc hKc hDc hPc
            generalize H1 = H at hP hS ⊢
            have hP : va_P D vwCl [(t3, .inl (cI, 3, .inl uc)), (h0, .inr (7, [.ref t1, .ref t2, .ref t3, .ref ol])), (t1, .inl (cI, 3, .inl ua)), (t2, .inl (cI, 3, .inl ub))] H := hP
            have hD : va_D A [(t3, .inl (cI, 3, .inl uc)), (h0, .inr (7, [.ref t1, .ref t2, .ref t3, .ref ol])), (t1, .inl (cI, 3, .inl ua)), (t2, .inl (cI, 3, .inl ub))] := hD
            refine lv_imul hx hb dX7_inkAt_69 ?_
            refine lv_topi (fun y_49 ey_49 => ?_)
            refine lv_iload hx hb dX7_inkAt_70 (lv_at hl 5 rfl) ?_
            refine lv_aload_n hx hb dX7_inkAt_72 rfl (lv_at hl 7 rfl) ?_
            refine va_get (D := D) (ci := 7) (v := .ref t3) (C := RX7) (T := TX7) (N := 4) hx hb hts hi_X7 hown hK hP 1 rfl rfl 2 (by decide) (hts _ bw_202) (fun _ h9 => h9) rfl dX7_inkAt_73 ?_
            refine lv_iconst (v := 1) hx hb dX7_inkAt_76 (by decide) ?_
            refine va_iald hx hb hK hP 0 0 rfl rfl (my_in (by decide) (by decide)) dX7_inkAt_77 ?_
            refine my_fold (v := uc 1) (congrArg uc (by decide)) ?_
            refine lv_iload hx hb dX7_inkAt_78 (lv_at hl 0 rfl) ?_
            have hPc := hP.sub (ws' := []) [] rfl
            have hDc := hD.sub (ws' := []) [] (by decide) rfl
            have hKc := hK.sub (tys' := []) [] rfl
            have hFc := va_free (wc := []) hD hS hA [] rfl
            refine va_calli (va_runSN (host := RX8) (As := [.int (uc 1), .int 0]) (rest := [.int r_2, .int y_49]) ⟨hx, hb, hml, hown, hts⟩ (k_X8_channel l D H.size (uc 1) 0) ⟨va_cnB 2 hts (gI bw_360) rfl rfl rfl (hN.2.1 (RX7, 39, yX8_channel, RX8) (by decide +kernel)) (hts _ bw_223) (by decide +kernel) ⟨(by rw [hR]; exact Nat.le_of_ble_eq_true rfl), (by rw [hR]; exact Nat.le_of_ble_eq_true rfl)⟩, (hts _ bw_361), trivial⟩ ⟨cP_blind, cP_at hPc hKc hDc hN⟩ rfl rfl hl.1 rfl (lv_room (Nat.le_of_ble_eq_true rfl)) dX7_inkAt_80 ⟨(by rw [hR]; exact Nat.le_of_ble_eq_true rfl), (by rw [hR]; exact Nat.le_of_ble_eq_true rfl)⟩) hS (fun q _ h => hFc q h) hFc (fun r_50 u9 t9 H1 locs ht hvm hr_50 hB hz1 hk1 hS => ?_)
            try dsimp only at hr_50
            have hP1 : va_P D vwCl [] H1 := vP_nil
            have hD1 : va_D (va_A [] H.size) [] := vD_nil
            obtain ⟨hP, hD⟩ := va_join (wr := [(t3, .inl (cI, 3, .inl uc)), (h0, .inr (7, [.ref t1, .ref t2, .ref t3, .ref ol])), (t1, .inl (cI, 3, .inl ua)), (t2, .inl (cI, 3, .inl ub))]) (w1 := []) hP hD [] [0, 1, 2, 3] rfl rfl (by decide) (by decide) hk1 hFc hP1 hD1
            clear hz1 hk1 hFc hKc hDc hPc
            generalize H1 = H at hP hS ⊢
            have hP : va_P D vwCl [(t3, .inl (cI, 3, .inl uc)), (h0, .inr (7, [.ref t1, .ref t2, .ref t3, .ref ol])), (t1, .inl (cI, 3, .inl ua)), (t2, .inl (cI, 3, .inl ub))] H := hP
            have hD : va_D A [(t3, .inl (cI, 3, .inl uc)), (h0, .inr (7, [.ref t1, .ref t2, .ref t3, .ref ol])), (t1, .inl (cI, 3, .inl ua)), (t2, .inl (cI, 3, .inl ub))] := hD
            refine lv_imul hx hb dX7_inkAt_83 ?_
            refine lv_topi (fun y_51 ey_51 => ?_)
            refine lv_iadd hx hb dX7_inkAt_84 ?_
            refine lv_topi (fun y_52 ey_52 => ?_)
            refine lv_iload hx hb dX7_inkAt_85 (lv_at hl 4 rfl) ?_
            refine lv_aload_n hx hb dX7_inkAt_87 rfl (lv_at hl 7 rfl) ?_
            refine va_get (D := D) (ci := 7) (v := .ref t3) (C := RX7) (T := TX7) (N := 4) hx hb hts hi_X7 hown hK hP 1 rfl rfl 2 (by decide) (hts _ bw_202) (fun _ h9 => h9) rfl dX7_inkAt_88 ?_
            refine lv_iconst (v := 2) hx hb dX7_inkAt_91 (by decide) ?_
            refine va_iald hx hb hK hP 0 0 rfl rfl (my_in (by decide) (by decide)) dX7_inkAt_92 ?_
            refine my_fold (v := uc 2) (congrArg uc (by decide)) ?_
            refine lv_iload hx hb dX7_inkAt_93 (lv_at hl 0 rfl) ?_
            have hPc := hP.sub (ws' := []) [] rfl
            have hDc := hD.sub (ws' := []) [] (by decide) rfl
            have hKc := hK.sub (tys' := []) [] rfl
            have hFc := va_free (wc := []) hD hS hA [] rfl
            refine va_calli (va_runSN (host := RX8) (As := [.int (uc 2), .int 0]) (rest := [.int r_3, .int y_52]) ⟨hx, hb, hml, hown, hts⟩ (k_X8_channel l D H.size (uc 2) 0) ⟨va_cnB 2 hts (gI bw_360) rfl rfl rfl (hN.2.1 (RX7, 39, yX8_channel, RX8) (by decide +kernel)) (hts _ bw_223) (by decide +kernel) ⟨(by rw [hR]; exact Nat.le_of_ble_eq_true rfl), (by rw [hR]; exact Nat.le_of_ble_eq_true rfl)⟩, (hts _ bw_361), trivial⟩ ⟨cP_blind, cP_at hPc hKc hDc hN⟩ rfl rfl hl.1 rfl (lv_room (Nat.le_of_ble_eq_true rfl)) dX7_inkAt_95 ⟨(by rw [hR]; exact Nat.le_of_ble_eq_true rfl), (by rw [hR]; exact Nat.le_of_ble_eq_true rfl)⟩) hS (fun q _ h => hFc q h) hFc (fun r_53 u9 t9 H1 locs ht hvm hr_53 hB hz1 hk1 hS => ?_)
            try dsimp only at hr_53
            have hP1 : va_P D vwCl [] H1 := vP_nil
            have hD1 : va_D (va_A [] H.size) [] := vD_nil
            obtain ⟨hP, hD⟩ := va_join (wr := [(t3, .inl (cI, 3, .inl uc)), (h0, .inr (7, [.ref t1, .ref t2, .ref t3, .ref ol])), (t1, .inl (cI, 3, .inl ua)), (t2, .inl (cI, 3, .inl ub))]) (w1 := []) hP hD [] [0, 1, 2, 3] rfl rfl (by decide) (by decide) hk1 hFc hP1 hD1
            clear hz1 hk1 hFc hKc hDc hPc
            generalize H1 = H at hP hS ⊢
            have hP : va_P D vwCl [(t3, .inl (cI, 3, .inl uc)), (h0, .inr (7, [.ref t1, .ref t2, .ref t3, .ref ol])), (t1, .inl (cI, 3, .inl ua)), (t2, .inl (cI, 3, .inl ub))] H := hP
            have hD : va_D A [(t3, .inl (cI, 3, .inl uc)), (h0, .inr (7, [.ref t1, .ref t2, .ref t3, .ref ol])), (t1, .inl (cI, 3, .inl ua)), (t2, .inl (cI, 3, .inl ub))] := hD
            refine lv_imul hx hb dX7_inkAt_98 ?_
            refine lv_topi (fun y_54 ey_54 => ?_)
            refine lv_iadd hx hb dX7_inkAt_99 ?_
            refine lv_topi (fun y_55 ey_55 => ?_)
            refine lv_istore (lv' := [(9, .int y_55), (8, .int 0), (7, .int y_45), (6, .int y_5), (5, .int r_3), (4, .int r_2), (3, .int r_1), (0, .ref h0), (1, .int x), (2, .int y)]) hx hb dX7_inkAt_100 hl (by decide) rfl (fun ls hl => ?_)
            refine lv_iload hx hb dX7_inkAt_102 (lv_at hl 2 rfl) ?_
            refine lv_bipush (v := 8) hx hb dX7_inkAt_104 (by decide) ?_
            refine lv_ishl hx hb dX7_inkAt_106 ?_
            refine lv_topi (fun y_56 ey_56 => ?_)
            refine lv_iload hx hb dX7_inkAt_107 (lv_at hl 0 rfl) ?_
            refine lv_iload hx hb dX7_inkAt_109 (lv_at hl 3 rfl) ?_
            refine lv_idiv hx hb dX7_inkAt_111 c_6 ?_
            refine lv_topi (fun y_57 ey_57 => ?_)
            refine lv_ior hx hb dX7_inkAt_112 ?_
            refine lv_topi (fun y_58 ey_58 => ?_)
            refine lv_istore (lv' := [(7, .int y_58), (9, .int y_55), (8, .int 0), (6, .int y_5), (5, .int r_3), (4, .int r_2), (3, .int r_1), (0, .ref h0), (1, .int x), (2, .int y)]) hx hb dX7_inkAt_113 hl (by decide) rfl (fun ls hl => ?_)
            refine lv_iinc (v := (-8)) (lv' := [(8, .int (-8)), (7, .int y_58), (9, .int y_55), (6, .int y_5), (5, .int r_3), (4, .int r_2), (3, .int r_1), (0, .ref h0), (1, .int x), (2, .int y)]) hx hb dX7_inkAt_115 hl (k := 2) rfl (by decide) (by decide) rfl (fun ls hl => ?_)
            refine lv_goto (tgt := 52) hx hb dX7_inkAt_118 (by decide) ?_
            refine lv_iload hx hb dX7_inkAt_52 (lv_at hl 0 rfl) ?_
            refine lv_if_lt (tgt := 121) hx hb dX7_inkAt_54 (by decide) (fun c_59 => ?_) (fun c_59 => ?_)
            · skip
              refine lv_iload hx hb dX7_inkAt_121 (lv_at hl 1 rfl) ?_
              have hP9 := hP.sub (ws' := [(h0, .inr (7, [.ref t1, .ref t2, .ref t3, .ref ol])), (t1, .inl (cI, 3, .inl ua)), (t2, .inl (cI, 3, .inl ub)), (t3, .inl (cI, 3, .inl uc))]) [1, 2, 3, 0] rfl
              have hD9 := hD.sub (ws' := [(h0, .inr (7, [.ref t1, .ref t2, .ref t3, .ref ol])), (t1, .inl (cI, 3, .inl ua)), (t2, .inl (cI, 3, .inl ub)), (t3, .inl (cI, 3, .inl uc))]) [1, 2, 3, 0] (by decide) rfl
              have hK9 := hK.sub (tys' := [(cI, .int)]) [0] rfl
              refine hQ _ _ _ _ _ ?_
              exact W.iret (v := y_58) hx hb hr (fun t ht hW => ⟨⟨y_58, (), rfl, (by show _ = inP ua ub uc x y; unfold inP inS; rw [if_neg (by rw [← hqr_1, ← hqr_2, ← hqr_3, ← ey_4, ← ey_5]; exact c_6)]; unfold mxV mxC; rw [← hqr_1, ← hqr_2, ← hqr_3, ← ey_4, ← ey_5]; subst_vars; rfl), ⟨by rw [ht]; exact hP9, va_K.moved hW.alike hK9, hD9⟩⟩, hS.F ht⟩) hS.2.2 dX7_inkAt_123
            · skip
              exact absurd c_59 (by decide)
  · skip
    have f_7 : y_5.toInt = 0 := f_eq rfl (by decide) c_6
    refine lv_iconst (v := 0) hx hb dX7_inkAt_43 (by decide) ?_
    have hP9 := hP.sub (ws' := [(h0, .inr (7, [.ref t1, .ref t2, .ref t3, .ref ol])), (t1, .inl (cI, 3, .inl ua)), (t2, .inl (cI, 3, .inl ub)), (t3, .inl (cI, 3, .inl uc))]) [1, 2, 3, 0] rfl
    have hD9 := hD.sub (ws' := [(h0, .inr (7, [.ref t1, .ref t2, .ref t3, .ref ol])), (t1, .inl (cI, 3, .inl ua)), (t2, .inl (cI, 3, .inl ub)), (t3, .inl (cI, 3, .inl uc))]) [1, 2, 3, 0] (by decide) rfl
    have hK9 := hK.sub (tys' := [(cI, .int)]) [0] rfl
    refine hQ _ _ _ _ _ ?_
    exact W.iret (v := 0) hx hb hr (fun t ht hW => ⟨⟨0, (), rfl, (show _ = inP ua ub uc x y from (if_pos (by rw [← hqr_1, ← hqr_2, ← hqr_3, ← ey_4, ← ey_5]; exact c_6)).symm), ⟨by rw [ht]; exact hP9, va_K.moved hW.alike hK9, hD9⟩⟩, hS.F ht⟩) hS.2.2 dX7_inkAt_44
