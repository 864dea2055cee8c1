set_option maxHeartbeats 4000000 in
set_option maxRecDepth 100000 in
theorem k_X7_place (l : Launch) (D : va_G) (sz : Nat) (h0 : Nat) (t1 t2 t3 ol : Nat) (ua : Nat → Int32) (ub : Nat → Int32) (uc : Nat → Int32) (i9 x y v : Int32) (cI : ClassId) : Met l yX7_place (wB yX7_place cX7_place 5 none) ({ frames := 0, cells := 0, slots := 0, locals := 0 }) (cP D [(h0, .inr (7, [.ref t1, .ref t2, .ref t3, .ref ol])), (t1, .inl (cI, 3, .inl ua)), (t2, .inl (cI, 3, .inl ub)), (t3, .inl (cI, 3, .inl uc))] [(cI, .int)] sz [.ref h0, .int i9, .int x, .int y, .int v]) (va_Qv (fun (_ : Unit) => True) (fun (_ : Unit) (t : State) => cB D (va_A [(h0, .inr (7, [.ref t1, .ref t2, .ref t3, .ref ol])), (t1, .inl (cI, 3, .inl ua)), (t2, .inl (cI, 3, .inl ub)), (t3, .inl (cI, 3, .inl uc))] sz) [(h0, .inr (7, [.ref t1, .ref t2, .ref t3, .ref ol])), (t1, .inl (cI, 3, .inl (if (0 ≤ i9.toInt ∧ i9.toInt < 3) then upd ua i9.toNatClampNeg x else ua))), (t2, .inl (cI, 3, .inl (if (0 ≤ i9.toInt ∧ i9.toInt < 3) then upd ub i9.toNatClampNeg y else ub))), (t3, .inl (cI, 3, .inl (if (0 ≤ i9.toInt ∧ i9.toInt < 3) then upd uc i9.toNatClampNeg v else uc)))] [(cI, .int)] t) (va_A [(h0, .inr (7, [.ref t1, .ref t2, .ref t3, .ref ol])), (t1, .inl (cI, 3, .inl ua)), (t2, .inl (cI, 3, .inl ub)), (t3, .inl (cI, 3, .inl uc))] sz)) 0 0 (va_A [(h0, .inr (7, [.ref t1, .ref t2, .ref t3, .ref ol])), (t1, .inl (cI, 3, .inl ua)), (t2, .inl (cI, 3, .inl ub)), (t3, .inl (cI, 3, .inl uc))] sz) := by
  refine Met.ofW (cc := cX7_place) (maxL := 5) (ret := none) (by decide) rfl ?_
  intro p e s m args below meth c s₁ B hml hv
  obtain ⟨rfl, hsz, hP, hK, hD0, hN⟩ := hv
  have hx := B.exec
  have hb := B.bytes
  have hr := B.returns
  have hts0 := atoms_spec (ws := (wB yX7_place cX7_place 5 none)) B.pre
  have hts : ∀ w ∈ bigW, w.before _ s = true := fun w h => hts0 w (List.mem_cons_of_mem _ h)
  have hown : s.vm.findClass RX7 = some m.cls := findClass_of_methodNamed B.named
  have hlocks := B.notSynchronized
  subst hsz
  have hD := hD0.self (sz := s.heap.size)
  generalize hAe : va_A [(h0, .inr (7, [.ref t1, .ref t2, .ref t3, .ref ol])), (t1, .inl (cI, 3, .inl ua)), (t2, .inl (cI, 3, .inl ub)), (t3, .inl (cI, 3, .inl uc))] s.heap.size = A at hD ⊢
  have hA : ∀ q : Nat, s.heap.size ≤ q → A q := fun q h => by rw [← hAe]; exact Or.inr h
  have hS : va_S A s.heap s.heap [] := va_S.rf
  have hP : va_P D vwCl [(h0, .inr (7, [.ref t1, .ref t2, .ref t3, .ref ol])), (t1, .inl (cI, 3, .inl ua)), (t2, .inl (cI, 3, .inl ub)), (t3, .inl (cI, 3, .inl uc))] s.heap := hP
  have hl := lv_entry ([.ref h0, .int i9, .int x, .int y, .int v]) (n := 5) (Nat.le_of_ble_eq_true rfl)
  rw [lg_entry_eq]
  generalize (lg_sl ([.ref h0, .int i9, .int x, .int y, .int v]) ++ List.replicate (5 - (lg_sl ([.ref h0, .int i9, .int x, .int y, .int v])).length) Slot.unset).toArray = ls at hl ⊢
  have hl : lv_has ls 5 [(0, .ref h0), (1, .int i9), (2, .int x), (3, .int y), (4, .int v)] := hl
  clear hts0 hD0 hAe
  refine my_abs (fun R Q hR hQ => ?_)
  refine lv_iload_n hx hb dX7_place_0 rfl (lv_at hl 1 rfl) ?_
  refine lv_if_lt (tgt := 31) hx hb dX7_place_1 (by decide) (fun c_1 => ?_) (fun c_1 => ?_)
  · skip
    have f_2 : i9.toInt < 0 := f_lt rfl (by decide) c_1
    have hc : ua = if (0 ≤ i9.toInt ∧ i9.toInt < 3) then upd ua i9.toNatClampNeg x else ua := (if_neg (by omega)).symm
    rw [hc] at hP hD
    have hc : ub = if (0 ≤ i9.toInt ∧ i9.toInt < 3) then upd ub i9.toNatClampNeg y else ub := (if_neg (by omega)).symm
    rw [hc] at hP hD
    have hc : uc = if (0 ≤ i9.toInt ∧ i9.toInt < 3) then upd uc i9.toNatClampNeg v else uc := (if_neg (by omega)).symm
    rw [hc] at hP hD
    have hP9 := hP.sub (ws' := [(h0, .inr (7, [.ref t1, .ref t2, .ref t3, .ref ol])), (t1, .inl (cI, 3, .inl (if (0 ≤ i9.toInt ∧ i9.toInt < 3) then upd ua i9.toNatClampNeg x else ua))), (t2, .inl (cI, 3, .inl (if (0 ≤ i9.toInt ∧ i9.toInt < 3) then upd ub i9.toNatClampNeg y else ub))), (t3, .inl (cI, 3, .inl (if (0 ≤ i9.toInt ∧ i9.toInt < 3) then upd uc i9.toNatClampNeg v else uc)))]) [0, 1, 2, 3] rfl
    have hD9 := hD.sub (ws' := [(h0, .inr (7, [.ref t1, .ref t2, .ref t3, .ref ol])), (t1, .inl (cI, 3, .inl (if (0 ≤ i9.toInt ∧ i9.toInt < 3) then upd ua i9.toNatClampNeg x else ua))), (t2, .inl (cI, 3, .inl (if (0 ≤ i9.toInt ∧ i9.toInt < 3) then upd ub i9.toNatClampNeg y else ub))), (t3, .inl (cI, 3, .inl (if (0 ≤ i9.toInt ∧ i9.toInt < 3) then upd uc i9.toNatClampNeg v else uc)))]) [0, 1, 2, 3] (by decide) rfl
    have hK9 := hK.sub (tys' := [(cI, .int)]) [0] rfl
    refine hQ _ _ _ _ _ ?_
    exact W.vret hx hb hr (fun t ht hW => ⟨⟨(), rfl, trivial, ⟨by rw [ht]; exact hP9, va_K.moved hW.alike hK9, hD9⟩⟩, hS.F ht⟩) hS.2.2 dX7_place_31
  · skip
    have f_2 : ¬ (i9.toInt < 0) := fn_lt rfl (by decide) c_1
    refine lv_iload_n hx hb dX7_place_4 rfl (lv_at hl 1 rfl) ?_
    refine lv_iconst (v := 3) hx hb dX7_place_5 (by decide) ?_
    refine lv_icmp_ge (tgt := 31) hx hb dX7_place_6 (by decide) (fun c_3 => ?_) (fun c_3 => ?_)
    · skip
      have f_4 : 3 ≤ i9.toInt := f_le (by decide) rfl c_3
      have hc : ua = if (0 ≤ i9.toInt ∧ i9.toInt < 3) then upd ua i9.toNatClampNeg x else ua := (if_neg (by omega)).symm
      rw [hc] at hP hD
      have hc : ub = if (0 ≤ i9.toInt ∧ i9.toInt < 3) then upd ub i9.toNatClampNeg y else ub := (if_neg (by omega)).symm
      rw [hc] at hP hD
      have hc : uc = if (0 ≤ i9.toInt ∧ i9.toInt < 3) then upd uc i9.toNatClampNeg v else uc := (if_neg (by omega)).symm
      rw [hc] at hP hD
      have hP9 := hP.sub (ws' := [(h0, .inr (7, [.ref t1, .ref t2, .ref t3, .ref ol])), (t1, .inl (cI, 3, .inl (if (0 ≤ i9.toInt ∧ i9.toInt < 3) then upd ua i9.toNatClampNeg x else ua))), (t2, .inl (cI, 3, .inl (if (0 ≤ i9.toInt ∧ i9.toInt < 3) then upd ub i9.toNatClampNeg y else ub))), (t3, .inl (cI, 3, .inl (if (0 ≤ i9.toInt ∧ i9.toInt < 3) then upd uc i9.toNatClampNeg v else uc)))]) [0, 1, 2, 3] rfl
      have hD9 := hD.sub (ws' := [(h0, .inr (7, [.ref t1, .ref t2, .ref t3, .ref ol])), (t1, .inl (cI, 3, .inl (if (0 ≤ i9.toInt ∧ i9.toInt < 3) then upd ua i9.toNatClampNeg x else ua))), (t2, .inl (cI, 3, .inl (if (0 ≤ i9.toInt ∧ i9.toInt < 3) then upd ub i9.toNatClampNeg y else ub))), (t3, .inl (cI, 3, .inl (if (0 ≤ i9.toInt ∧ i9.toInt < 3) then upd uc i9.toNatClampNeg v else uc)))]) [0, 1, 2, 3] (by decide) rfl
      have hK9 := hK.sub (tys' := [(cI, .int)]) [0] rfl
      refine hQ _ _ _ _ _ ?_
      exact W.vret hx hb hr (fun t ht hW => ⟨⟨(), rfl, trivial, ⟨by rw [ht]; exact hP9, va_K.moved hW.alike hK9, hD9⟩⟩, hS.F ht⟩) hS.2.2 dX7_place_31
    · skip
      have f_4 : ¬ (3 ≤ i9.toInt) := fn_le (by decide) rfl c_3
      refine lv_aload_n hx hb dX7_place_9 rfl (lv_at hl 0 rfl) ?_
      refine va_get (D := D) (ci := 7) (v := .ref t1) (C := RX7) (T := TX7) (N := 4) hx hb hts hi_X7 hown hK hP 0 rfl rfl 0 (by decide) (hts _ bw_200) (fun _ h9 => h9) rfl dX7_place_10 ?_
      refine lv_iload_n hx hb dX7_place_13 rfl (lv_at hl 1 rfl) ?_
      refine lv_iload_n hx hb dX7_place_14 rfl (lv_at hl 2 rfl) ?_
      refine va_iast hx hb hK hP hD hS 1 0 rfl rfl (vp_in_iff.mpr ⟨by omega, by omega⟩) dX7_place_15 (fun H locs hP hD hS => ?_)
      have hP : va_P D vwCl [(h0, .inr (7, [.ref t1, .ref t2, .ref t3, .ref ol])), (t1, .inl (cI, 3, .inl (upd ua i9.toNatClampNeg x))), (t2, .inl (cI, 3, .inl ub)), (t3, .inl (cI, 3, .inl uc))] H := hP
      have hD : va_D A [(h0, .inr (7, [.ref t1, .ref t2, .ref t3, .ref ol])), (t1, .inl (cI, 3, .inl (upd ua i9.toNatClampNeg x))), (t2, .inl (cI, 3, .inl ub)), (t3, .inl (cI, 3, .inl uc))] := hD
      generalize eg_5 : upd ua i9.toNatClampNeg x = g_5 at hP hD
      have hP : va_P D vwCl [(h0, .inr (7, [.ref t1, .ref t2, .ref t3, .ref ol])), (t1, .inl (cI, 3, .inl g_5)), (t2, .inl (cI, 3, .inl ub)), (t3, .inl (cI, 3, .inl uc))] H := hP
      have hD : va_D A [(h0, .inr (7, [.ref t1, .ref t2, .ref t3, .ref ol])), (t1, .inl (cI, 3, .inl g_5)), (t2, .inl (cI, 3, .inl ub)), (t3, .inl (cI, 3, .inl uc))] := hD
      refine lv_aload_n hx hb dX7_place_16 rfl (lv_at hl 0 rfl) ?_
      refine va_get (D := D) (ci := 7) (v := .ref t2) (C := RX7) (T := TX7) (N := 4) hx hb hts hi_X7 hown hK hP 0 rfl rfl 1 (by decide) (hts _ bw_201) (fun _ h9 => h9) rfl dX7_place_17 ?_
      refine lv_iload_n hx hb dX7_place_20 rfl (lv_at hl 1 rfl) ?_
      refine lv_iload_n hx hb dX7_place_21 rfl (lv_at hl 3 rfl) ?_
      refine va_iast hx hb hK hP hD hS 2 0 rfl rfl (vp_in_iff.mpr ⟨by omega, by omega⟩) dX7_place_22 (fun H locs hP hD hS => ?_)
      have hP : va_P D vwCl [(h0, .inr (7, [.ref t1, .ref t2, .ref t3, .ref ol])), (t1, .inl (cI, 3, .inl g_5)), (t2, .inl (cI, 3, .inl (upd ub i9.toNatClampNeg y))), (t3, .inl (cI, 3, .inl uc))] H := hP
      have hD : va_D A [(h0, .inr (7, [.ref t1, .ref t2, .ref t3, .ref ol])), (t1, .inl (cI, 3, .inl g_5)), (t2, .inl (cI, 3, .inl (upd ub i9.toNatClampNeg y))), (t3, .inl (cI, 3, .inl uc))] := hD
      generalize eg_6 : upd ub i9.toNatClampNeg y = g_6 at hP hD
      have hP : va_P D vwCl [(h0, .inr (7, [.ref t1, .ref t2, .ref t3, .ref ol])), (t1, .inl (cI, 3, .inl g_5)), (t2, .inl (cI, 3, .inl g_6)), (t3, .inl (cI, 3, .inl uc))] H := hP
      have hD : va_D A [(h0, .inr (7, [.ref t1, .ref t2, .ref t3, .ref ol])), (t1, .inl (cI, 3, .inl g_5)), (t2, .inl (cI, 3, .inl g_6)), (t3, .inl (cI, 3, .inl uc))] := hD
      refine lv_aload_n hx hb dX7_place_23 rfl (lv_at hl 0 rfl) ?_
      refine va_get (D := D) (ci := 7) (v := .ref t3) (C := RX7) (T := TX7) (N := 4) hx hb hts hi_X7 hown hK hP 0 rfl rfl 2 (by decide) (hts _ bw_202) (fun _ h9 => h9) rfl dX7_place_24 ?_
      refine lv_iload_n hx hb dX7_place_27 rfl (lv_at hl 1 rfl) ?_
      refine lv_iload hx hb dX7_place_28 (lv_at hl 4 rfl) ?_
      refine va_iast hx hb hK hP hD hS 3 0 rfl rfl (vp_in_iff.mpr ⟨by omega, by omega⟩) dX7_place_30 (fun H locs hP hD hS => ?_)
      have hP : va_P D vwCl [(h0, .inr (7, [.ref t1, .ref t2, .ref t3, .ref ol])), (t1, .inl (cI, 3, .inl g_5)), (t2, .inl (cI, 3, .inl g_6)), (t3, .inl (cI, 3, .inl (upd uc i9.toNatClampNeg v)))] H := hP
      have hD : va_D A [(h0, .inr (7, [.ref t1, .ref t2, .ref t3, .ref ol])), (t1, .inl (cI, 3, .inl g_5)), (t2, .inl (cI, 3, .inl g_6)), (t3, .inl (cI, 3, .inl (upd uc i9.toNatClampNeg v)))] := hD
      generalize eg_7 : upd uc i9.toNatClampNeg v = g_7 at hP hD
      have hP : va_P D vwCl [(h0, .inr (7, [.ref t1, .ref t2, .ref t3, .ref ol])), (t1, .inl (cI, 3, .inl g_5)), (t2, .inl (cI, 3, .inl g_6)), (t3, .inl (cI, 3, .inl g_7))] H := hP
      have hD : va_D A [(h0, .inr (7, [.ref t1, .ref t2, .ref t3, .ref ol])), (t1, .inl (cI, 3, .inl g_5)), (t2, .inl (cI, 3, .inl g_6)), (t3, .inl (cI, 3, .inl g_7))] := hD
      have hc : g_5 = if (0 ≤ i9.toInt ∧ i9.toInt < 3) then upd ua i9.toNatClampNeg x else ua := by rw [if_pos (by omega), ← eg_5]
      rw [hc] at hP hD
      have hc : g_6 = if (0 ≤ i9.toInt ∧ i9.toInt < 3) then upd ub i9.toNatClampNeg y else ub := by rw [if_pos (by omega), ← eg_6]
      rw [hc] at hP hD
      have hc : g_7 = if (0 ≤ i9.toInt ∧ i9.toInt < 3) then upd uc i9.toNatClampNeg v else uc := by rw [if_pos (by omega), ← eg_7]
      rw [hc] at hP hD
      have hP9 := hP.sub (ws' := [(h0, .inr (7, [.ref t1, .ref t2, .ref t3, .ref ol])), (t1, .inl (cI, 3, .inl (if (0 ≤ i9.toInt ∧ i9.toInt < 3) then upd ua i9.toNatClampNeg x else ua))), (t2, .inl (cI, 3, .inl (if (0 ≤ i9.toInt ∧ i9.toInt < 3) then upd ub i9.toNatClampNeg y else ub))), (t3, .inl (cI, 3, .inl (if (0 ≤ i9.toInt ∧ i9.toInt < 3) then upd uc i9.toNatClampNeg v else uc)))]) [0, 1, 2, 3] rfl
      have hD9 := hD.sub (ws' := [(h0, .inr (7, [.ref t1, .ref t2, .ref t3, .ref ol])), (t1, .inl (cI, 3, .inl (if (0 ≤ i9.toInt ∧ i9.toInt < 3) then upd ua i9.toNatClampNeg x else ua))), (t2, .inl (cI, 3, .inl (if (0 ≤ i9.toInt ∧ i9.toInt < 3) then upd ub i9.toNatClampNeg y else ub))), (t3, .inl (cI, 3, .inl (if (0 ≤ i9.toInt ∧ i9.toInt < 3) then upd uc i9.toNatClampNeg v else uc)))]) [0, 1, 2, 3] (by decide) rfl
      have hK9 := hK.sub (tys' := [(cI, .int)]) [0] rfl
      refine hQ _ _ _ _ _ ?_
      exact W.vret hx hb hr (fun t ht hW => ⟨⟨(), rfl, trivial, ⟨by rw [ht]; exact hP9, va_K.moved hW.alike hK9, hD9⟩⟩, hS.F ht⟩) hS.2.2 dX7_place_31

set_option maxHeartbeats 4000000 in
set_option maxRecDepth 100000 in
theorem k_X7_draw (l : Launch) (D : va_G) (sz : Nat) (h0 : Nat) (t1 t2 t3 ol : Nat) (p1 p2 p3 p4 : Nat) (pn fx fy : Int32) (qa : Nat → Int32) (qb : Nat → Int32) (qc : Nat → Int32) (qd : Nat → Int32) (ua : Nat → Int32) (ub : Nat → Int32) (cI : ClassId) : Met l yX7_draw (wB yX7_draw cX7_draw 2 none) ({ frames := 1, cells := 0, slots := 0, locals := 23 }) (cP D [(h0, .inr (7, [.ref t1, .ref t2, .ref t3, .ref ol])), (t1, .inl (cI, 3, .inl ua)), (t2, .inl (cI, 3, .inl ub)), (ol, .inr (3, [.ref p1, .ref p2, .ref p3, .ref p4, .int pn, .int fx, .int fy])), (p1, .inl (cI, 48, .inl qa)), (p2, .inl (cI, 48, .inl qb)), (p3, .inl (cI, 48, .inl qc)), (p4, .inl (cI, 48, .inl qd))] [(cI, .int)] sz [.ref h0]) (va_Qv (fun (_ : Unit) => True) (fun (_ : Unit) (t : State) => ∃ (pn2 fx2 fy2 : Int32), ∃ (g2 g3 g4 g5 : Nat → Int32), (pn2 = 3) ∧ cB D (va_A [(h0, .inr (7, [.ref t1, .ref t2, .ref t3, .ref ol])), (t1, .inl (cI, 3, .inl ua)), (t2, .inl (cI, 3, .inl ub)), (ol, .inr (3, [.ref p1, .ref p2, .ref p3, .ref p4, .int pn, .int fx, .int fy])), (p1, .inl (cI, 48, .inl qa)), (p2, .inl (cI, 48, .inl qb)), (p3, .inl (cI, 48, .inl qc)), (p4, .inl (cI, 48, .inl qd))] sz) [(h0, .inr (7, [.ref t1, .ref t2, .ref t3, .ref ol])), (t1, .inl (cI, 3, .inl ua)), (t2, .inl (cI, 3, .inl ub)), (ol, .inr (3, [.ref p1, .ref p2, .ref p3, .ref p4, .int pn2, .int fx2, .int fy2])), (p1, .inl (cI, 48, .inl g2)), (p2, .inl (cI, 48, .inl g3)), (p3, .inl (cI, 48, .inl g4)), (p4, .inl (cI, 48, .inl g5))] [(cI, .int)] t) (va_A [(h0, .inr (7, [.ref t1, .ref t2, .ref t3, .ref ol])), (t1, .inl (cI, 3, .inl ua)), (t2, .inl (cI, 3, .inl ub)), (ol, .inr (3, [.ref p1, .ref p2, .ref p3, .ref p4, .int pn, .int fx, .int fy])), (p1, .inl (cI, 48, .inl qa)), (p2, .inl (cI, 48, .inl qb)), (p3, .inl (cI, 48, .inl qc)), (p4, .inl (cI, 48, .inl qd))] sz)) 0 0 (va_A [(h0, .inr (7, [.ref t1, .ref t2, .ref t3, .ref ol])), (t1, .inl (cI, 3, .inl ua)), (t2, .inl (cI, 3, .inl ub)), (ol, .inr (3, [.ref p1, .ref p2, .ref p3, .ref p4, .int pn, .int fx, .int fy])), (p1, .inl (cI, 48, .inl qa)), (p2, .inl (cI, 48, .inl qb)), (p3, .inl (cI, 48, .inl qc)), (p4, .inl (cI, 48, .inl qd))] sz) := by
  refine Met.ofW (cc := cX7_draw) (maxL := 2) (ret := none) (by decide) rfl ?_
  intro p e s m args below meth c s₁ B hml hv
  obtain ⟨rfl, hsz, hP, hK, hD0, hN⟩ := hv
  have hx := B.exec
  have hb := B.bytes
  have hr := B.returns
  have hts0 := atoms_spec (ws := (wB yX7_draw cX7_draw 2 none)) B.pre
  have hts : ∀ w ∈ bigW, w.before _ s = true := fun w h => hts0 w (List.mem_cons_of_mem _ h)
  have hown : s.vm.findClass RX7 = some m.cls := findClass_of_methodNamed B.named
  have hlocks := B.notSynchronized
  subst hsz
  have hD := hD0.self (sz := s.heap.size)
  generalize hAe : va_A [(h0, .inr (7, [.ref t1, .ref t2, .ref t3, .ref ol])), (t1, .inl (cI, 3, .inl ua)), (t2, .inl (cI, 3, .inl ub)), (ol, .inr (3, [.ref p1, .ref p2, .ref p3, .ref p4, .int pn, .int fx, .int fy])), (p1, .inl (cI, 48, .inl qa)), (p2, .inl (cI, 48, .inl qb)), (p3, .inl (cI, 48, .inl qc)), (p4, .inl (cI, 48, .inl qd))] s.heap.size = A at hD ⊢
  have hA : ∀ q : Nat, s.heap.size ≤ q → A q := fun q h => by rw [← hAe]; exact Or.inr h
  have hS : va_S A s.heap s.heap [] := va_S.rf
  have hP : va_P D vwCl [(h0, .inr (7, [.ref t1, .ref t2, .ref t3, .ref ol])), (t1, .inl (cI, 3, .inl ua)), (t2, .inl (cI, 3, .inl ub)), (ol, .inr (3, [.ref p1, .ref p2, .ref p3, .ref p4, .int pn, .int fx, .int fy])), (p1, .inl (cI, 48, .inl qa)), (p2, .inl (cI, 48, .inl qb)), (p3, .inl (cI, 48, .inl qc)), (p4, .inl (cI, 48, .inl qd))] s.heap := hP
  have hl := lv_entry ([.ref h0]) (n := 2) (Nat.le_of_ble_eq_true rfl)
  rw [lg_entry_eq]
  generalize (lg_sl ([.ref h0]) ++ List.replicate (2 - (lg_sl ([.ref h0])).length) Slot.unset).toArray = ls at hl ⊢
  have hl : lv_has ls 2 [(0, .ref h0)] := hl
  clear hts0 hD0 hAe
  refine my_abs (fun R Q hR hQ => ?_)
  refine lv_aload_n hx hb dX7_draw_0 rfl (lv_at hl 0 rfl) ?_
  refine va_get (D := D) (ci := 7) (v := .ref ol) (C := RX7) (T := TX7) (N := 4) hx hb hts hi_X7 hown hK hP 0 rfl rfl 3 (by decide) (hts _ bw_204) (fun _ h9 => h9) rfl dX7_draw_1 ?_
  have hPc := hP.sub (ws' := [(ol, .inr (3, [.ref p1, .ref p2, .ref p3, .ref p4, .int pn, .int fx, .int fy]))]) [3] rfl
  have hDc := hD.sub (ws' := [(ol, .inr (3, [.ref p1, .ref p2, .ref p3, .ref p4, .int pn, .int fx, .int fy]))]) [3] (by decide) rfl
  have hKc := hK.sub (tys' := []) [] rfl
  have hFc := va_free (wc := [(ol, .inr (3, [.ref p1, .ref p2, .ref p3, .ref p4, .int pn, .int fx, .int fy]))]) hD hS hA [3] rfl
  refine va_callv (va_runV (As := []) (rest := []) ⟨hx, hb, hml, hown, hts⟩ (k_X3_empty l D s.heap.size ol p1 p2 p3 p4 pn fx fy) (cwV 0 hts (gV bw_211 bw_80 bw_81 bw_67 bw_79) rfl rfl rfl (by decide +kernel) ⟨(by rw [hR]; exact Nat.le_of_ble_eq_true rfl), (by rw [hR]; exact Nat.le_of_ble_eq_true rfl)⟩) ⟨cP_blind, va_recv hKc hPc (ci := 3) (q0 := 0) rfl rfl, cP_at hPc hKc hDc hN⟩ rfl rfl hl.1 rfl (lv_room (Nat.le_of_ble_eq_true rfl)) dX7_draw_4 ⟨(by rw [hR]; exact Nat.le_of_ble_eq_true rfl), (by rw [hR]; exact Nat.le_of_ble_eq_true rfl)⟩) hS (fun q _ h => hFc q h) hFc (fun u9 t9 H1 locs ht hvm hr_1 hB hz1 hk1 hS => ?_)
  try dsimp only at hr_1
  obtain ⟨hP1, hK1, hD1⟩ := hB
  rw [ht] at hP1
  obtain ⟨hP, hD⟩ := va_join (wr := [(h0, .inr (7, [.ref t1, .ref t2, .ref t3, .ref ol])), (t1, .inl (cI, 3, .inl ua)), (t2, .inl (cI, 3, .inl ub)), (p1, .inl (cI, 48, .inl qa)), (p2, .inl (cI, 48, .inl qb)), (p3, .inl (cI, 48, .inl qc)), (p4, .inl (cI, 48, .inl qd))]) (w1 := [(ol, .inr (3, [.ref p1, .ref p2, .ref p3, .ref p4, .int 0, .int fx, .int fy]))]) hP hD [3] [0, 1, 2, 4, 5, 6, 7] rfl rfl (by decide) (by decide) hk1 hFc hP1 hD1
  clear hz1 hk1 hFc hKc hDc hPc
  generalize H1 = H at hP hS ⊢
  have hP : va_P D vwCl [(h0, .inr (7, [.ref t1, .ref t2, .ref t3, .ref ol])), (t1, .inl (cI, 3, .inl ua)), (t2, .inl (cI, 3, .inl ub)), (p1, .inl (cI, 48, .inl qa)), (p2, .inl (cI, 48, .inl qb)), (p3, .inl (cI, 48, .inl qc)), (p4, .inl (cI, 48, .inl qd)), (ol, .inr (3, [.ref p1, .ref p2, .ref p3, .ref p4, .int 0, .int fx, .int fy]))] H := hP
  have hD : va_D A [(h0, .inr (7, [.ref t1, .ref t2, .ref t3, .ref ol])), (t1, .inl (cI, 3, .inl ua)), (t2, .inl (cI, 3, .inl ub)), (p1, .inl (cI, 48, .inl qa)), (p2, .inl (cI, 48, .inl qb)), (p3, .inl (cI, 48, .inl qc)), (p4, .inl (cI, 48, .inl qd)), (ol, .inr (3, [.ref p1, .ref p2, .ref p3, .ref p4, .int 0, .int fx, .int fy]))] := hD
  refine lv_iconst (v := 0) hx hb dX7_draw_7 (by decide) ?_
  refine lv_istore_n (lv' := [(1, .int 0), (0, .ref h0)]) hx hb dX7_draw_8 rfl hl (by decide) rfl (fun ls hl => ?_)
  have loop_2 : ∀ (n : Nat) (i : Nat) (x1 : Int32) (ga : Nat → Int32) (gb : Nat → Int32) (gc : Nat → Int32) (gd : Nat → Int32) (xn : Int32) (xf : Int32) (xg : Int32) (H : Heap) (locs : List Loc) (ls : Array Slot), (i ≤ 3) → (3 + 1 ≤ i + n) → (x1 = nI i) → (xn = nI i) → va_P D vwCl [(h0, .inr (7, [.ref t1, .ref t2, .ref t3, .ref ol])), (t1, .inl (cI, 3, .inl ua)), (t2, .inl (cI, 3, .inl ub)), (p1, .inl (cI, 48, .inl ga)), (p2, .inl (cI, 48, .inl gb)), (p3, .inl (cI, 48, .inl gc)), (p4, .inl (cI, 48, .inl gd)), (ol, .inr (3, [.ref p1, .ref p2, .ref p3, .ref p4, .int xn, .int xf, .int xg]))] H → va_D A [(h0, .inr (7, [.ref t1, .ref t2, .ref t3, .ref ol])), (t1, .inl (cI, 3, .inl ua)), (t2, .inl (cI, 3, .inl ub)), (p1, .inl (cI, 48, .inl ga)), (p2, .inl (cI, 48, .inl gb)), (p3, .inl (cI, 48, .inl gc)), (p4, .inl (cI, 48, .inl gd)), (ol, .inr (3, [.ref p1, .ref p2, .ref p3, .ref p4, .int xn, .int xf, .int xg]))] → va_S A s.heap H locs → lv_has ls 2 [(1, .int x1), (0, .ref h0)] → W p l e R s m ([.ref h0] : List Value).toArray below meth c H locs 0 0 Q (F0 m 9 ls []) := by
    intro n
    induction n with
    | zero =>
      intro i x1 ga gb gc gd xn xf xg H locs ls hi_i hm_i ex_i hn3 hP hD hS hl
      exact absurd (show False by omega) not_false
    | succ n ih_3 =>
      intro i x1 ga gb gc gd xn xf xg H locs ls hi_i hm_i ex_i hn3 hP hD hS hl
      have hx_i : x1.toInt = (i : Int) := by rw [ex_i]; exact nI_toInt (by omega)
      have hc_i : x1.toNatClampNeg = i := by rw [ex_i]; exact nI_clamp (by omega)
      have hxn : xn.toInt = (i : Int) := by rw [hn3]; exact nI_toInt (by omega)
      refine lv_iload_n hx hb dX7_draw_9 rfl (lv_at hl 0 rfl) ?_
      refine lv_iconst (v := 3) hx hb dX7_draw_10 (by decide) ?_
      refine lv_icmp_ge (tgt := 47) hx hb dX7_draw_11 (by decide) (fun c_4 => ?_) (fun c_4 => ?_)
      · skip
        have f_5 : 3 ≤ (i : Int) := f_le (by decide) hx_i c_4
        have hP9 := hP.sub (ws' := [(h0, .inr (7, [.ref t1, .ref t2, .ref t3, .ref ol])), (t1, .inl (cI, 3, .inl ua)), (t2, .inl (cI, 3, .inl ub)), (ol, .inr (3, [.ref p1, .ref p2, .ref p3, .ref p4, .int xn, .int xf, .int xg])), (p1, .inl (cI, 48, .inl ga)), (p2, .inl (cI, 48, .inl gb)), (p3, .inl (cI, 48, .inl gc)), (p4, .inl (cI, 48, .inl gd))]) [0, 1, 2, 7, 3, 4, 5, 6] rfl
        have hD9 := hD.sub (ws' := [(h0, .inr (7, [.ref t1, .ref t2, .ref t3, .ref ol])), (t1, .inl (cI, 3, .inl ua)), (t2, .inl (cI, 3, .inl ub)), (ol, .inr (3, [.ref p1, .ref p2, .ref p3, .ref p4, .int xn, .int xf, .int xg])), (p1, .inl (cI, 48, .inl ga)), (p2, .inl (cI, 48, .inl gb)), (p3, .inl (cI, 48, .inl gc)), (p4, .inl (cI, 48, .inl gd))]) [0, 1, 2, 7, 3, 4, 5, 6] (by decide) rfl
        have hK9 := hK.sub (tys' := [(cI, .int)]) [0] rfl
        refine hQ _ _ _ _ _ ?_
        exact W.vret hx hb hr (fun t ht hW => ⟨⟨(), rfl, trivial, ⟨xn, xf, xg, ga, gb, gc, gd, (by rw [hn3, show i = 3 by omega]; rfl), by rw [ht]; exact hP9, va_K.moved hW.alike hK9, hD9⟩⟩, hS.F ht⟩) hS.2.2 dX7_draw_47
      · skip
        have f_5 : ¬ (3 ≤ (i : Int)) := fn_le (by decide) hx_i c_4
        refine lv_aload_n hx hb dX7_draw_14 rfl (lv_at hl 1 rfl) ?_
        refine va_get (D := D) (ci := 7) (v := .ref ol) (C := RX7) (T := TX7) (N := 4) hx hb hts hi_X7 hown hK hP 0 rfl rfl 3 (by decide) (hts _ bw_204) (fun _ h9 => h9) rfl dX7_draw_15 ?_
        refine lv_aload_n hx hb dX7_draw_18 rfl (lv_at hl 1 rfl) ?_
        refine va_get (D := D) (ci := 7) (v := .ref t1) (C := RX7) (T := TX7) (N := 4) hx hb hts hi_X7 hown hK hP 0 rfl rfl 0 (by decide) (hts _ bw_200) (fun _ h9 => h9) rfl dX7_draw_19 ?_
        refine lv_iload_n hx hb dX7_draw_22 rfl (lv_at hl 0 rfl) ?_
        refine va_iald hx hb hK hP 1 0 rfl rfl (vp_in_iff.mpr ⟨by omega, by omega⟩) dX7_draw_23 ?_
        refine lv_topi (fun y_6 ey_6 => ?_)
        refine lv_bipush (v := 32) hx hb dX7_draw_24 (by decide) ?_
        refine lv_imul hx hb dX7_draw_26 ?_
        refine lv_topi (fun y_7 ey_7 => ?_)
        refine lv_aload_n hx hb dX7_draw_27 rfl (lv_at hl 1 rfl) ?_
        refine va_get (D := D) (ci := 7) (v := .ref t2) (C := RX7) (T := TX7) (N := 4) hx hb hts hi_X7 hown hK hP 0 rfl rfl 1 (by decide) (hts _ bw_201) (fun _ h9 => h9) rfl dX7_draw_28 ?_
        refine lv_iload_n hx hb dX7_draw_31 rfl (lv_at hl 0 rfl) ?_
        refine va_iald hx hb hK hP 2 0 rfl rfl (vp_in_iff.mpr ⟨by omega, by omega⟩) dX7_draw_32 ?_
        refine lv_topi (fun y_8 ey_8 => ?_)
        refine lv_bipush (v := 32) hx hb dX7_draw_33 (by decide) ?_
        refine lv_imul hx hb dX7_draw_35 ?_
        refine lv_topi (fun y_9 ey_9 => ?_)
        refine lv_iconst (v := 0) hx hb dX7_draw_36 (by decide) ?_
        have hPc := hP.sub (ws' := [(ol, .inr (3, [.ref p1, .ref p2, .ref p3, .ref p4, .int xn, .int xf, .int xg])), (p1, .inl (cI, 48, .inl ga)), (p2, .inl (cI, 48, .inl gb)), (p3, .inl (cI, 48, .inl gc)), (p4, .inl (cI, 48, .inl gd))]) [7, 3, 4, 5, 6] rfl
        have hDc := hD.sub (ws' := [(ol, .inr (3, [.ref p1, .ref p2, .ref p3, .ref p4, .int xn, .int xf, .int xg])), (p1, .inl (cI, 48, .inl ga)), (p2, .inl (cI, 48, .inl gb)), (p3, .inl (cI, 48, .inl gc)), (p4, .inl (cI, 48, .inl gd))]) [7, 3, 4, 5, 6] (by decide) rfl
        have hKc := hK.sub (tys' := [(cI, .int)]) [0] rfl
        have hFc := va_free (wc := [(ol, .inr (3, [.ref p1, .ref p2, .ref p3, .ref p4, .int xn, .int xf, .int xg])), (p1, .inl (cI, 48, .inl ga)), (p2, .inl (cI, 48, .inl gb)), (p3, .inl (cI, 48, .inl gc)), (p4, .inl (cI, 48, .inl gd))]) hD hS hA [7, 3, 4, 5, 6] rfl
        refine va_calli (va_runV (As := [.int y_7, .int y_9, .int 0]) (rest := []) ⟨hx, hb, hml, hown, hts⟩ (k_X3_add l D H.size ol p1 p2 p3 p4 xn xf xg ga gb gc gd y_7 y_9 0 cI (by first | assumption | omega | decide)) (cwV 3 hts (gV bw_212 bw_83 bw_84 bw_67 bw_82) rfl rfl rfl (by decide +kernel) ⟨(by rw [hR]; exact Nat.le_of_ble_eq_true rfl), (by rw [hR]; exact Nat.le_of_ble_eq_true rfl)⟩) ⟨cP_blind, va_recv hKc hPc (ci := 3) (q0 := 0) rfl rfl, cP_at hPc hKc hDc hN⟩ rfl rfl hl.1 rfl (lv_room (Nat.le_of_ble_eq_true rfl)) dX7_draw_37 ⟨(by rw [hR]; exact Nat.le_of_ble_eq_true rfl), (by rw [hR]; exact Nat.le_of_ble_eq_true rfl)⟩) hS (fun q _ h => hFc q h) hFc (fun r_10 u9 t9 H1 locs ht hvm hr_10 hB hz1 hk1 hS => ?_)
        try dsimp only at hr_10
        obtain ⟨hP1, hK1, hD1⟩ := hB
        rw [ht] at hP1
        obtain ⟨hP, hD⟩ := va_join (wr := [(h0, .inr (7, [.ref t1, .ref t2, .ref t3, .ref ol])), (t1, .inl (cI, 3, .inl ua)), (t2, .inl (cI, 3, .inl ub))]) (w1 := [(ol, .inr (3, [.ref p1, .ref p2, .ref p3, .ref p4, .int (xn + 1), .int (adF 0 xn y_7 xf), .int (adF 0 xn y_9 xg)])), (p1, .inl (cI, 48, .inl (upd ga xn.toNatClampNeg y_7))), (p2, .inl (cI, 48, .inl (upd gb xn.toNatClampNeg y_9))), (p3, .inl (cI, 48, .inl (adT 0 xn y_7 xf gc))), (p4, .inl (cI, 48, .inl (adT 0 xn y_9 xg gd)))]) hP hD [7, 3, 4, 5, 6] [0, 1, 2] rfl rfl (by decide) (by decide) hk1 hFc hP1 hD1
        clear hz1 hk1 hFc hKc hDc hPc
        generalize H1 = H at hP hS ⊢
        have hP : va_P D vwCl [(h0, .inr (7, [.ref t1, .ref t2, .ref t3, .ref ol])), (t1, .inl (cI, 3, .inl ua)), (t2, .inl (cI, 3, .inl ub)), (ol, .inr (3, [.ref p1, .ref p2, .ref p3, .ref p4, .int (xn + 1), .int (adF 0 xn y_7 xf), .int (adF 0 xn y_9 xg)])), (p1, .inl (cI, 48, .inl (upd ga xn.toNatClampNeg y_7))), (p2, .inl (cI, 48, .inl (upd gb xn.toNatClampNeg y_9))), (p3, .inl (cI, 48, .inl (adT 0 xn y_7 xf gc))), (p4, .inl (cI, 48, .inl (adT 0 xn y_9 xg gd)))] H := hP
        have hD : va_D A [(h0, .inr (7, [.ref t1, .ref t2, .ref t3, .ref ol])), (t1, .inl (cI, 3, .inl ua)), (t2, .inl (cI, 3, .inl ub)), (ol, .inr (3, [.ref p1, .ref p2, .ref p3, .ref p4, .int (xn + 1), .int (adF 0 xn y_7 xf), .int (adF 0 xn y_9 xg)])), (p1, .inl (cI, 48, .inl (upd ga xn.toNatClampNeg y_7))), (p2, .inl (cI, 48, .inl (upd gb xn.toNatClampNeg y_9))), (p3, .inl (cI, 48, .inl (adT 0 xn y_7 xf gc))), (p4, .inl (cI, 48, .inl (adT 0 xn y_9 xg gd)))] := hD
        subst hr_10
        refine lv_pop hx hb dX7_draw_40 rfl ?_
        obtain ⟨y_11, ey_11⟩ : ∃ y : Int32, y = x1 + 1 := ⟨_, rfl⟩
        refine lv_iinc (v := y_11) (lv' := [(1, .int y_11), (0, .ref h0)]) hx hb dX7_draw_41 hl (k := 0) rfl (by rw [ey_11]; rfl) (by decide) rfl (fun ls hl => ?_)
        refine lv_goto (tgt := 9) hx hb dX7_draw_44 (by decide) ?_
        exact ih_3 (i + 1) y_11 (upd ga xn.toNatClampNeg y_7) (upd gb xn.toNatClampNeg y_9) (adT 0 xn y_7 xf gc) (adT 0 xn y_9 xg gd) (xn + 1) (adF 0 xn y_7 xf) (adF 0 xn y_9 xg) _ _ _ (by omega) (by omega) (by rw [ey_11, ex_i]; exact nI_1 i) (by rw [hn3]; exact nI_1 i) (hP.sub (ws' := [(h0, .inr (7, [.ref t1, .ref t2, .ref t3, .ref ol])), (t1, .inl (cI, 3, .inl ua)), (t2, .inl (cI, 3, .inl ub)), (p1, .inl (cI, 48, .inl (upd ga xn.toNatClampNeg y_7))), (p2, .inl (cI, 48, .inl (upd gb xn.toNatClampNeg y_9))), (p3, .inl (cI, 48, .inl (adT 0 xn y_7 xf gc))), (p4, .inl (cI, 48, .inl (adT 0 xn y_9 xg gd))), (ol, .inr (3, [.ref p1, .ref p2, .ref p3, .ref p4, .int (xn + 1), .int (adF 0 xn y_7 xf), .int (adF 0 xn y_9 xg)]))]) [0, 1, 2, 4, 5, 6, 7, 3] rfl) (hD.sub (ws' := [(h0, .inr (7, [.ref t1, .ref t2, .ref t3, .ref ol])), (t1, .inl (cI, 3, .inl ua)), (t2, .inl (cI, 3, .inl ub)), (p1, .inl (cI, 48, .inl (upd ga xn.toNatClampNeg y_7))), (p2, .inl (cI, 48, .inl (upd gb xn.toNatClampNeg y_9))), (p3, .inl (cI, 48, .inl (adT 0 xn y_7 xf gc))), (p4, .inl (cI, 48, .inl (adT 0 xn y_9 xg gd))), (ol, .inr (3, [.ref p1, .ref p2, .ref p3, .ref p4, .int (xn + 1), .int (adF 0 xn y_7 xf), .int (adF 0 xn y_9 xg)]))]) [0, 1, 2, 4, 5, 6, 7, 3] (by decide) rfl) hS (lv_sub hl [0, 1] rfl)
  exact loop_2 (3 + 1) 0 0 qa qb qc qd 0 fx fy _ _ _ (by omega) (by omega) nI_0.symm nI_0.symm hP hD hS (lv_sub hl [0, 1] rfl)

set_option maxHeartbeats 4000000 in
set_option maxRecDepth 100000 in
theorem k_X7_areaFrom (l : Launch) (D : va_G) (sz : Nat) (h0 : Nat) (t1 t2 t3 ol : Nat) (ua : Nat → Int32) (ub : Nat → Int32) (x y b9 c9 : Int32) (cI : ClassId) (hb9 : 0 ≤ b9.toInt ∧ b9.toInt < 3) (hc9 : 0 ≤ c9.toInt ∧ c9.toInt < 3) : Met l yX7_areaFrom (wB yX7_areaFrom cX7_areaFrom 9 (some .int)) ({ frames := 1, cells := 0, slots := 0, locals := 13 }) (cP D [(h0, .inr (7, [.ref t1, .ref t2, .ref t3, .ref ol])), (t1, .inl (cI, 3, .inl ua)), (t2, .inl (cI, 3, .inl ub))] [(cI, .int)] sz [.ref h0, .int x, .int y, .int b9, .int c9]) (va_Qi (fun (r : Int32) (_ : Unit) => r = arP (ua b9.toNatClampNeg) (ub b9.toNatClampNeg) (ua c9.toNatClampNeg) (ub c9.toNatClampNeg) x y) (fun (_ : Unit) (t : State) => cB D (va_A [(h0, .inr (7, [.ref t1, .ref t2, .ref t3, .ref ol])), (t1, .inl (cI, 3, .inl ua)), (t2, .inl (cI, 3, .inl ub))] sz) [(h0, .inr (7, [.ref t1, .ref t2, .ref t3, .ref ol])), (t1, .inl (cI, 3, .inl ua)), (t2, .inl (cI, 3, .inl ub))] [(cI, .int)] t) (va_A [(h0, .inr (7, [.ref t1, .ref t2, .ref t3, .ref ol])), (t1, .inl (cI, 3, .inl ua)), (t2, .inl (cI, 3, .inl ub))] sz)) 0 0 (va_A [(h0, .inr (7, [.ref t1, .ref t2, .ref t3, .ref ol])), (t1, .inl (cI, 3, .inl ua)), (t2, .inl (cI, 3, .inl ub))] sz) := by
  refine Met.ofW (cc := cX7_areaFrom) (maxL := 9) (ret := (some .int)) (by decide) rfl ?_
  intro p e s m args below meth c s₁ B hml hv
  obtain ⟨rfl, hsz, hP, hK, hD0, hN⟩ := hv
  have hx := B.exec
  have hb := B.bytes
  have hr := B.returns
  have hts0 := atoms_spec (ws := (wB yX7_areaFrom cX7_areaFrom 9 (some .int))) B.pre
  have hts : ∀ w ∈ bigW, w.before _ s = true := fun w h => hts0 w (List.mem_cons_of_mem _ h)
  have hown : s.vm.findClass RX7 = some m.cls := findClass_of_methodNamed B.named
  have hlocks := B.notSynchronized
  subst hsz
  have hD := hD0.self (sz := s.heap.size)
  generalize hAe : va_A [(h0, .inr (7, [.ref t1, .ref t2, .ref t3, .ref ol])), (t1, .inl (cI, 3, .inl ua)), (t2, .inl (cI, 3, .inl ub))] s.heap.size = A at hD ⊢
  have hA : ∀ q : Nat, s.heap.size ≤ q → A q := fun q h => by rw [← hAe]; exact Or.inr h
  have hS : va_S A s.heap s.heap [] := va_S.rf
  have hP : va_P D vwCl [(h0, .inr (7, [.ref t1, .ref t2, .ref t3, .ref ol])), (t1, .inl (cI, 3, .inl ua)), (t2, .inl (cI, 3, .inl ub))] s.heap := hP
  have hl := lv_entry ([.ref h0, .int x, .int y, .int b9, .int c9]) (n := 9) (Nat.le_of_ble_eq_true rfl)
  rw [lg_entry_eq]
  generalize (lg_sl ([.ref h0, .int x, .int y, .int b9, .int c9]) ++ List.replicate (9 - (lg_sl ([.ref h0, .int x, .int y, .int b9, .int c9])).length) Slot.unset).toArray = ls at hl ⊢
  have hl : lv_has ls 9 [(0, .ref h0), (1, .int x), (2, .int y), (3, .int b9), (4, .int c9)] := hl
  clear hts0 hD0 hAe
  refine my_abs (fun R Q hR hQ => ?_)
  refine lv_iconst (v := 2) hx hb dX7_areaFrom_0 (by decide) ?_
  refine lv_aload_n hx hb dX7_areaFrom_1 rfl (lv_at hl 0 rfl) ?_
  refine va_get (D := D) (ci := 7) (v := .ref t1) (C := RX7) (T := TX7) (N := 4) hx hb hts hi_X7 hown hK hP 0 rfl rfl 0 (by decide) (hts _ bw_200) (fun _ h9 => h9) rfl dX7_areaFrom_2 ?_
  refine lv_iload_n hx hb dX7_areaFrom_5 rfl (lv_at hl 3 rfl) ?_
  refine va_iald hx hb hK hP 1 0 rfl rfl (vp_in_iff.mpr ⟨by omega, by omega⟩) dX7_areaFrom_6 ?_
  refine lv_imul hx hb dX7_areaFrom_7 ?_
  refine lv_topi (fun y_1 ey_1 => ?_)
  refine lv_iconst (v := 2) hx hb dX7_areaFrom_8 (by decide) ?_
  refine lv_iload_n hx hb dX7_areaFrom_9 rfl (lv_at hl 1 rfl) ?_
  refine lv_imul hx hb dX7_areaFrom_10 ?_
  refine lv_topi (fun y_2 ey_2 => ?_)
  refine lv_iconst (v := 1) hx hb dX7_areaFrom_11 (by decide) ?_
  refine lv_iadd hx hb dX7_areaFrom_12 ?_
  refine lv_topi (fun y_3 ey_3 => ?_)
  refine lv_isub hx hb dX7_areaFrom_13 ?_
  refine lv_topi (fun y_4 ey_4 => ?_)
  refine lv_istore (lv' := [(5, .int y_4), (0, .ref h0), (1, .int x), (2, .int y), (3, .int b9), (4, .int c9)]) hx hb dX7_areaFrom_14 hl (by decide) rfl (fun ls hl => ?_)
  refine lv_iconst (v := 2) hx hb dX7_areaFrom_16 (by decide) ?_
  refine lv_aload_n hx hb dX7_areaFrom_17 rfl (lv_at hl 1 rfl) ?_
  refine va_get (D := D) (ci := 7) (v := .ref t2) (C := RX7) (T := TX7) (N := 4) hx hb hts hi_X7 hown hK hP 0 rfl rfl 1 (by decide) (hts _ bw_201) (fun _ h9 => h9) rfl dX7_areaFrom_18 ?_
  refine lv_iload_n hx hb dX7_areaFrom_21 rfl (lv_at hl 4 rfl) ?_
  refine va_iald hx hb hK hP 2 0 rfl rfl (vp_in_iff.mpr ⟨by omega, by omega⟩) dX7_areaFrom_22 ?_
  refine lv_imul hx hb dX7_areaFrom_23 ?_
  refine lv_topi (fun y_5 ey_5 => ?_)
  refine lv_iconst (v := 2) hx hb dX7_areaFrom_24 (by decide) ?_
  refine lv_iload_n hx hb dX7_areaFrom_25 rfl (lv_at hl 3 rfl) ?_
  refine lv_imul hx hb dX7_areaFrom_26 ?_
  refine lv_topi (fun y_6 ey_6 => ?_)
  refine lv_iconst (v := 1) hx hb dX7_areaFrom_27 (by decide) ?_
  refine lv_iadd hx hb dX7_areaFrom_28 ?_
  refine lv_topi (fun y_7 ey_7 => ?_)
  refine lv_isub hx hb dX7_areaFrom_29 ?_
  refine lv_topi (fun y_8 ey_8 => ?_)
  refine lv_istore (lv' := [(6, .int y_8), (5, .int y_4), (0, .ref h0), (1, .int x), (2, .int y), (3, .int b9), (4, .int c9)]) hx hb dX7_areaFrom_30 hl (by decide) rfl (fun ls hl => ?_)
  refine lv_iconst (v := 2) hx hb dX7_areaFrom_32 (by decide) ?_
  refine lv_aload_n hx hb dX7_areaFrom_33 rfl (lv_at hl 2 rfl) ?_
  refine va_get (D := D) (ci := 7) (v := .ref t1) (C := RX7) (T := TX7) (N := 4) hx hb hts hi_X7 hown hK hP 0 rfl rfl 0 (by decide) (hts _ bw_200) (fun _ h9 => h9) rfl dX7_areaFrom_34 ?_
  refine lv_iload hx hb dX7_areaFrom_37 (lv_at hl 6 rfl) ?_
  refine va_iald hx hb hK hP 1 0 rfl rfl (vp_in_iff.mpr ⟨by omega, by omega⟩) dX7_areaFrom_39 ?_
  refine lv_imul hx hb dX7_areaFrom_40 ?_
  refine lv_topi (fun y_9 ey_9 => ?_)
  refine lv_iconst (v := 2) hx hb dX7_areaFrom_41 (by decide) ?_
  refine lv_iload_n hx hb dX7_areaFrom_42 rfl (lv_at hl 3 rfl) ?_
  refine lv_imul hx hb dX7_areaFrom_43 ?_
  refine lv_topi (fun y_10 ey_10 => ?_)
  refine lv_iconst (v := 1) hx hb dX7_areaFrom_44 (by decide) ?_
  refine lv_iadd hx hb dX7_areaFrom_45 ?_
  refine lv_topi (fun y_11 ey_11 => ?_)
  refine lv_isub hx hb dX7_areaFrom_46 ?_
  refine lv_topi (fun y_12 ey_12 => ?_)
  refine lv_istore (lv' := [(7, .int y_12), (6, .int y_8), (5, .int y_4), (0, .ref h0), (1, .int x), (2, .int y), (3, .int b9), (4, .int c9)]) hx hb dX7_areaFrom_47 hl (by decide) rfl (fun ls hl => ?_)
  refine lv_iconst (v := 2) hx hb dX7_areaFrom_49 (by decide) ?_
  refine lv_aload_n hx hb dX7_areaFrom_50 rfl (lv_at hl 3 rfl) ?_
  refine va_get (D := D) (ci := 7) (v := .ref t2) (C := RX7) (T := TX7) (N := 4) hx hb hts hi_X7 hown hK hP 0 rfl rfl 1 (by decide) (hts _ bw_201) (fun _ h9 => h9) rfl dX7_areaFrom_51 ?_
  refine lv_iload hx hb dX7_areaFrom_54 (lv_at hl 7 rfl) ?_
  refine va_iald hx hb hK hP 2 0 rfl rfl (vp_in_iff.mpr ⟨by omega, by omega⟩) dX7_areaFrom_56 ?_
  refine lv_imul hx hb dX7_areaFrom_57 ?_
  refine lv_topi (fun y_13 ey_13 => ?_)
  refine lv_iconst (v := 2) hx hb dX7_areaFrom_58 (by decide) ?_
  refine lv_iload_n hx hb dX7_areaFrom_59 rfl (lv_at hl 5 rfl) ?_
  refine lv_imul hx hb dX7_areaFrom_60 ?_
  refine lv_topi (fun y_14 ey_14 => ?_)
  refine lv_iconst (v := 1) hx hb dX7_areaFrom_61 (by decide) ?_
  refine lv_iadd hx hb dX7_areaFrom_62 ?_
  refine lv_topi (fun y_15 ey_15 => ?_)
  refine lv_isub hx hb dX7_areaFrom_63 ?_
  refine lv_topi (fun y_16 ey_16 => ?_)
  refine lv_istore (lv' := [(8, .int y_16), (7, .int y_12), (6, .int y_8), (5, .int y_4), (0, .ref h0), (1, .int x), (2, .int y), (3, .int b9), (4, .int c9)]) hx hb dX7_areaFrom_64 hl (by decide) rfl (fun ls hl => ?_)
  refine lv_iload hx hb dX7_areaFrom_66 (lv_at hl 3 rfl) ?_
  refine lv_iload hx hb dX7_areaFrom_68 (lv_at hl 0 rfl) ?_
  refine lv_imul hx hb dX7_areaFrom_70 ?_
  refine lv_topi (fun y_17 ey_17 => ?_)
  refine lv_iload hx hb dX7_areaFrom_71 (lv_at hl 2 rfl) ?_
  refine lv_iload hx hb dX7_areaFrom_73 (lv_at hl 1 rfl) ?_
  refine lv_imul hx hb dX7_areaFrom_75 ?_
  refine lv_topi (fun y_18 ey_18 => ?_)
  refine lv_isub hx hb dX7_areaFrom_76 ?_
  refine lv_topi (fun y_19 ey_19 => ?_)
  refine va_mabs hx hb (by rw [hml]; exact hl.1.symm) hown (hts _ bw_220) (hts _ bw_221) (hts _ bw_47) (hts _ bw_222) (by rw [hR]; exact Nat.le_of_ble_eq_true rfl) (by rw [hR]; exact Nat.le_of_ble_eq_true rfl) (by rw [hR]; exact Nat.le_of_ble_eq_true rfl) (by rw [hR]; exact Nat.le_of_ble_eq_true rfl) dX7_areaFrom_77 ?_
  refine lv_topi (fun y_20 ey_20 => ?_)
  have hP9 := hP.sub (ws' := [(h0, .inr (7, [.ref t1, .ref t2, .ref t3, .ref ol])), (t1, .inl (cI, 3, .inl ua)), (t2, .inl (cI, 3, .inl ub))]) [0, 1, 2] rfl
  have hD9 := hD.sub (ws' := [(h0, .inr (7, [.ref t1, .ref t2, .ref t3, .ref ol])), (t1, .inl (cI, 3, .inl ua)), (t2, .inl (cI, 3, .inl ub))]) [0, 1, 2] (by decide) rfl
  have hK9 := hK.sub (tys' := [(cI, .int)]) [0] rfl
  refine hQ _ _ _ _ _ ?_
  exact W.iret (v := y_20) hx hb hr (fun t ht hW => ⟨⟨y_20, (), rfl, (by subst_vars; rfl), ⟨by rw [ht]; exact hP9, va_K.moved hW.alike hK9, hD9⟩⟩, hS.F ht⟩) hS.2.2 dX7_areaFrom_80

set_option maxHeartbeats 4000000 in
set_option maxRecDepth 100000 in
theorem k_X7_inkAt (l : Launch) (D : va_G) (sz : Nat) (h0 : Nat) (t1 t2 t3 ol : Nat) (ua : Nat → Int32) (ub : Nat → Int32) (uc : Nat → Int32) (x y : Int32) (cI : ClassId) : Met l yX7_inkAt (wB yX7_inkAt cX7_inkAt 10 (some .int)) ({ frames := 2, cells := 0, slots := 0, locals := 41 }) (cP D [(h0, .inr (7, [.ref t1, .ref t2, .ref t3, .ref ol])), (t1, .inl (cI, 3, .inl ua)), (t2, .inl (cI, 3, .inl ub)), (t3, .inl (cI, 3, .inl uc))] [(cI, .int)] sz [.ref h0, .int x, .int y]) (va_Qi (fun (r : Int32) (_ : Unit) => True) (fun (_ : Unit) (t : State) => cB D (va_A [(h0, .inr (7, [.ref t1, .ref t2, .ref t3, .ref ol])), (t1, .inl (cI, 3, .inl ua)), (t2, .inl (cI, 3, .inl ub)), (t3, .inl (cI, 3, .inl uc))] sz) [(h0, .inr (7, [.ref t1, .ref t2, .ref t3, .ref ol])), (t1, .inl (cI, 3, .inl ua)), (t2, .inl (cI, 3, .inl ub)), (t3, .inl (cI, 3, .inl uc))] [(cI, .int)] t) (va_A [(h0, .inr (7, [.ref t1, .ref t2, .ref t3, .ref ol])), (t1, .inl (cI, 3, .inl ua)), (t2, .inl (cI, 3, .inl ub)), (t3, .inl (cI, 3, .inl uc))] sz)) 0 0 (va_A [(h0, .inr (7, [.ref t1, .ref t2, .ref t3, .ref ol])), (t1, .inl (cI, 3, .inl ua)), (t2, .inl (cI, 3, .inl ub)), (t3, .inl (cI, 3, .inl uc))] sz) := by
  refine Met.ofW (cc := cX7_inkAt) (maxL := 10) (ret := (some .int)) (by decide) rfl ?_
  intro p e s m args below meth c s₁ B hml hv
  obtain ⟨rfl, hsz, hP, hK, hD0, hN⟩ := hv
  have hx := B.exec
  have hb := B.bytes
  have hr := B.returns
  have hts0 := atoms_spec (ws := (wB yX7_inkAt cX7_inkAt 10 (some .int))) B.pre
  have hts : ∀ w ∈ bigW, w.before _ s = true := fun w h => hts0 w (List.mem_cons_of_mem _ h)
  have hown : s.vm.findClass RX7 = some m.cls := findClass_of_methodNamed B.named
  have hlocks := B.notSynchronized
  subst hsz
  have hD := hD0.self (sz := s.heap.size)
  generalize hAe : va_A [(h0, .inr (7, [.ref t1, .ref t2, .ref t3, .ref ol])), (t1, .inl (cI, 3, .inl ua)), (t2, .inl (cI, 3, .inl ub)), (t3, .inl (cI, 3, .inl uc))] s.heap.size = A at hD ⊢
  have hA : ∀ q : Nat, s.heap.size ≤ q → A q := fun q h => by rw [← hAe]; exact Or.inr h
  have hS : va_S A s.heap s.heap [] := va_S.rf
  have hP : va_P D vwCl [(h0, .inr (7, [.ref t1, .ref t2, .ref t3, .ref ol])), (t1, .inl (cI, 3, .inl ua)), (t2, .inl (cI, 3, .inl ub)), (t3, .inl (cI, 3, .inl uc))] s.heap := hP
  have hl := lv_entry ([.ref h0, .int x, .int y]) (n := 10) (Nat.le_of_ble_eq_true rfl)
  rw [lg_entry_eq]
  generalize (lg_sl ([.ref h0, .int x, .int y]) ++ List.replicate (10 - (lg_sl ([.ref h0, .int x, .int y])).length) Slot.unset).toArray = ls at hl ⊢
  have hl : lv_has ls 10 [(0, .ref h0), (1, .int x), (2, .int y)] := hl
  clear hts0 hD0 hAe
  refine my_abs (fun R Q hR hQ => ?_)
  refine lv_aload_n hx hb dX7_inkAt_0 rfl (lv_at hl 0 rfl) ?_
  refine lv_iload_n hx hb dX7_inkAt_1 rfl (lv_at hl 1 rfl) ?_
  refine lv_iload_n hx hb dX7_inkAt_2 rfl (lv_at hl 2 rfl) ?_
  refine lv_iconst (v := 1) hx hb dX7_inkAt_3 (by decide) ?_
  refine lv_iconst (v := 2) hx hb dX7_inkAt_4 (by decide) ?_
  have hPc := hP.sub (ws' := [(h0, .inr (7, [.ref t1, .ref t2, .ref t3, .ref ol])), (t1, .inl (cI, 3, .inl ua)), (t2, .inl (cI, 3, .inl ub))]) [0, 1, 2] rfl
  have hDc := hD.sub (ws' := [(h0, .inr (7, [.ref t1, .ref t2, .ref t3, .ref ol])), (t1, .inl (cI, 3, .inl ua)), (t2, .inl (cI, 3, .inl ub))]) [0, 1, 2] (by decide) rfl
  have hKc := hK.sub (tys' := [(cI, .int)]) [0] rfl
  have hFc := va_free (wc := [(h0, .inr (7, [.ref t1, .ref t2, .ref t3, .ref ol])), (t1, .inl (cI, 3, .inl ua)), (t2, .inl (cI, 3, .inl ub))]) hD hS hA [0, 1, 2] rfl
  refine va_calli (va_runV (As := [.int x, .int y, .int 1, .int 2]) (rest := []) ⟨hx, hb, hml, hown, hts⟩ (k_X7_areaFrom l D s.heap.size h0 t1 t2 t3 ol ua ub x y 1 2 cI (by first | assumption | omega | decide) (by first | assumption | omega | decide)) (cwV 4 hts (gV bw_216 bw_218 bw_219 bw_195 bw_217) rfl rfl rfl (by decide +kernel) ⟨(by rw [hR]; exact Nat.le_of_ble_eq_true rfl), (by rw [hR]; exact Nat.le_of_ble_eq_true rfl)⟩) ⟨cP_blind, va_recv hKc hPc (ci := 7) (q0 := 0) rfl rfl, cP_at hPc hKc hDc hN⟩ rfl rfl hl.1 rfl (lv_room (Nat.le_of_ble_eq_true rfl)) dX7_inkAt_5 ⟨(by rw [hR]; exact Nat.le_of_ble_eq_true rfl), (by rw [hR]; exact Nat.le_of_ble_eq_true rfl)⟩) hS (fun q _ h => hFc q h) hFc (fun r_1 u9 t9 H1 locs ht hvm hr_1 hB hz1 hk1 hS => ?_)
  try dsimp only at hr_1
  obtain ⟨hP1, hK1, hD1⟩ := hB
  rw [ht] at hP1
  obtain ⟨hP, hD⟩ := va_join (wr := [(t3, .inl (cI, 3, .inl uc))]) (w1 := [(h0, .inr (7, [.ref t1, .ref t2, .ref t3, .ref ol])), (t1, .inl (cI, 3, .inl ua)), (t2, .inl (cI, 3, .inl ub))]) hP hD [0, 1, 2] [3] rfl rfl (by decide) (by decide) hk1 hFc hP1 hD1
  clear hz1 hk1 hFc hKc hDc hPc
  generalize H1 = H at hP hS ⊢
  have hP : va_P D vwCl [(t3, .inl (cI, 3, .inl uc)), (h0, .inr (7, [.ref t1, .ref t2, .ref t3, .ref ol])), (t1, .inl (cI, 3, .inl ua)), (t2, .inl (cI, 3, .inl ub))] H := hP
  have hD : va_D A [(t3, .inl (cI, 3, .inl uc)), (h0, .inr (7, [.ref t1, .ref t2, .ref t3, .ref ol])), (t1, .inl (cI, 3, .inl ua)), (t2, .inl (cI, 3, .inl ub))] := hD
  refine lv_istore_n (lv' := [(3, .int r_1), (0, .ref h0), (1, .int x), (2, .int y)]) hx hb dX7_inkAt_8 rfl hl (by decide) rfl (fun ls hl => ?_)
  refine lv_aload_n hx hb dX7_inkAt_9 rfl (lv_at hl 1 rfl) ?_
  refine lv_iload_n hx hb dX7_inkAt_10 rfl (lv_at hl 2 rfl) ?_
  refine lv_iload_n hx hb dX7_inkAt_11 rfl (lv_at hl 3 rfl) ?_
  refine lv_iconst (v := 2) hx hb dX7_inkAt_12 (by decide) ?_
  refine lv_iconst (v := 0) hx hb dX7_inkAt_13 (by decide) ?_
  have hPc := hP.sub (ws' := [(h0, .inr (7, [.ref t1, .ref t2, .ref t3, .ref ol])), (t1, .inl (cI, 3, .inl ua)), (t2, .inl (cI, 3, .inl ub))]) [1, 2, 3] rfl
  have hDc := hD.sub (ws' := [(h0, .inr (7, [.ref t1, .ref t2, .ref t3, .ref ol])), (t1, .inl (cI, 3, .inl ua)), (t2, .inl (cI, 3, .inl ub))]) [1, 2, 3] (by decide) rfl
  have hKc := hK.sub (tys' := [(cI, .int)]) [0] rfl
  have hFc := va_free (wc := [(h0, .inr (7, [.ref t1, .ref t2, .ref t3, .ref ol])), (t1, .inl (cI, 3, .inl ua)), (t2, .inl (cI, 3, .inl ub))]) hD hS hA [1, 2, 3] rfl
  refine va_calli (va_runV (As := [.int x, .int y, .int 2, .int 0]) (rest := []) ⟨hx, hb, hml, hown, hts⟩ (k_X7_areaFrom l D H.size h0 t1 t2 t3 ol ua ub x y 2 0 cI (by first | assumption | omega | decide) (by first | assumption | omega | decide)) (cwV 4 hts (gV bw_216 bw_218 bw_219 bw_195 bw_217) rfl rfl rfl (by decide +kernel) ⟨(by rw [hR]; exact Nat.le_of_ble_eq_true rfl), (by rw [hR]; exact Nat.le_of_ble_eq_true rfl)⟩) ⟨cP_blind, va_recv hKc hPc (ci := 7) (q0 := 0) rfl rfl, cP_at hPc hKc hDc hN⟩ rfl rfl hl.1 rfl (lv_room (Nat.le_of_ble_eq_true rfl)) dX7_inkAt_14 ⟨(by rw [hR]; exact Nat.le_of_ble_eq_true rfl), (by rw [hR]; exact Nat.le_of_ble_eq_true rfl)⟩) hS (fun q _ h => hFc q h) hFc (fun r_2 u9 t9 H1 locs ht hvm hr_2 hB hz1 hk1 hS => ?_)
  try dsimp only at hr_2
  obtain ⟨hP1, hK1, hD1⟩ := hB
  rw [ht] at hP1
  obtain ⟨hP, hD⟩ := va_join (wr := [(t3, .inl (cI, 3, .inl uc))]) (w1 := [(h0, .inr (7, [.ref t1, .ref t2, .ref t3, .ref ol])), (t1, .inl (cI, 3, .inl ua)), (t2, .inl (cI, 3, .inl ub))]) hP hD [1, 2, 3] [0] rfl rfl (by decide) (by decide) hk1 hFc hP1 hD1
  clear hz1 hk1 hFc hKc hDc hPc
  generalize H1 = H at hP hS ⊢
  have hP : va_P D vwCl [(t3, .inl (cI, 3, .inl uc)), (h0, .inr (7, [.ref t1, .ref t2, .ref t3, .ref ol])), (t1, .inl (cI, 3, .inl ua)), (t2, .inl (cI, 3, .inl ub))] H := hP
  have hD : va_D A [(t3, .inl (cI, 3, .inl uc)), (h0, .inr (7, [.ref t1, .ref t2, .ref t3, .ref ol])), (t1, .inl (cI, 3, .inl ua)), (t2, .inl (cI, 3, .inl ub))] := hD
  refine lv_istore (lv' := [(4, .int r_2), (3, .int r_1), (0, .ref h0), (1, .int x), (2, .int y)]) hx hb dX7_inkAt_17 hl (by decide) rfl (fun ls hl => ?_)
  refine lv_aload_n hx hb dX7_inkAt_19 rfl (lv_at hl 2 rfl) ?_
  refine lv_iload_n hx hb dX7_inkAt_20 rfl (lv_at hl 3 rfl) ?_
  refine lv_iload_n hx hb dX7_inkAt_21 rfl (lv_at hl 4 rfl) ?_
  refine lv_iconst (v := 0) hx hb dX7_inkAt_22 (by decide) ?_
  refine lv_iconst (v := 1) hx hb dX7_inkAt_23 (by decide) ?_
  have hPc := hP.sub (ws' := [(h0, .inr (7, [.ref t1, .ref t2, .ref t3, .ref ol])), (t1, .inl (cI, 3, .inl ua)), (t2, .inl (cI, 3, .inl ub))]) [1, 2, 3] rfl
  have hDc := hD.sub (ws' := [(h0, .inr (7, [.ref t1, .ref t2, .ref t3, .ref ol])), (t1, .inl (cI, 3, .inl ua)), (t2, .inl (cI, 3, .inl ub))]) [1, 2, 3] (by decide) rfl
  have hKc := hK.sub (tys' := [(cI, .int)]) [0] rfl
  have hFc := va_free (wc := [(h0, .inr (7, [.ref t1, .ref t2, .ref t3, .ref ol])), (t1, .inl (cI, 3, .inl ua)), (t2, .inl (cI, 3, .inl ub))]) hD hS hA [1, 2, 3] rfl
  refine va_calli (va_runV (As := [.int x, .int y, .int 0, .int 1]) (rest := []) ⟨hx, hb, hml, hown, hts⟩ (k_X7_areaFrom l D H.size h0 t1 t2 t3 ol ua ub x y 0 1 cI (by first | assumption | omega | decide) (by first | assumption | omega | decide)) (cwV 4 hts (gV bw_216 bw_218 bw_219 bw_195 bw_217) rfl rfl rfl (by decide +kernel) ⟨(by rw [hR]; exact Nat.le_of_ble_eq_true rfl), (by rw [hR]; exact Nat.le_of_ble_eq_true rfl)⟩) ⟨cP_blind, va_recv hKc hPc (ci := 7) (q0 := 0) rfl rfl, cP_at hPc hKc hDc hN⟩ rfl rfl hl.1 rfl (lv_room (Nat.le_of_ble_eq_true rfl)) dX7_inkAt_24 ⟨(by rw [hR]; exact Nat.le_of_ble_eq_true rfl), (by rw [hR]; exact Nat.le_of_ble_eq_true rfl)⟩) hS (fun q _ h => hFc q h) hFc (fun r_3 u9 t9 H1 locs ht hvm hr_3 hB hz1 hk1 hS => ?_)
  try dsimp only at hr_3
  obtain ⟨hP1, hK1, hD1⟩ := hB
  rw [ht] at hP1
  obtain ⟨hP, hD⟩ := va_join (wr := [(t3, .inl (cI, 3, .inl uc))]) (w1 := [(h0, .inr (7, [.ref t1, .ref t2, .ref t3, .ref ol])), (t1, .inl (cI, 3, .inl ua)), (t2, .inl (cI, 3, .inl ub))]) hP hD [1, 2, 3] [0] rfl rfl (by decide) (by decide) hk1 hFc hP1 hD1
  clear hz1 hk1 hFc hKc hDc hPc
  generalize H1 = H at hP hS ⊢
  have hP : va_P D vwCl [(t3, .inl (cI, 3, .inl uc)), (h0, .inr (7, [.ref t1, .ref t2, .ref t3, .ref ol])), (t1, .inl (cI, 3, .inl ua)), (t2, .inl (cI, 3, .inl ub))] H := hP
  have hD : va_D A [(t3, .inl (cI, 3, .inl uc)), (h0, .inr (7, [.ref t1, .ref t2, .ref t3, .ref ol])), (t1, .inl (cI, 3, .inl ua)), (t2, .inl (cI, 3, .inl ub))] := hD
  refine lv_istore (lv' := [(5, .int r_3), (4, .int r_2), (3, .int r_1), (0, .ref h0), (1, .int x), (2, .int y)]) hx hb dX7_inkAt_27 hl (by decide) rfl (fun ls hl => ?_)
  refine lv_iload_n hx hb dX7_inkAt_29 rfl (lv_at hl 2 rfl) ?_
  refine lv_iload hx hb dX7_inkAt_30 (lv_at hl 1 rfl) ?_
  refine lv_iadd hx hb dX7_inkAt_32 ?_
  refine lv_topi (fun y_4 ey_4 => ?_)
  refine lv_iload hx hb dX7_inkAt_33 (lv_at hl 0 rfl) ?_
  refine lv_iadd hx hb dX7_inkAt_35 ?_
  refine lv_topi (fun y_5 ey_5 => ?_)
  refine lv_istore (lv' := [(6, .int y_5), (5, .int r_3), (4, .int r_2), (3, .int r_1), (0, .ref h0), (1, .int x), (2, .int y)]) hx hb dX7_inkAt_36 hl (by decide) rfl (fun ls hl => ?_)
  refine lv_iload hx hb dX7_inkAt_38 (lv_at hl 0 rfl) ?_
  refine lv_if_ne (tgt := 45) hx hb dX7_inkAt_40 (by decide) (fun c_6 => ?_) (fun c_6 => ?_)
  · skip
    have f_7 : ¬ (y_5.toInt = 0) := fn_eq rfl (by decide) c_6
    refine lv_iconst (v := 0) hx hb dX7_inkAt_45 (by decide) ?_
    refine lv_istore (lv' := [(7, .int 0), (6, .int y_5), (5, .int r_3), (4, .int r_2), (3, .int r_1), (0, .ref h0), (1, .int x), (2, .int y)]) hx hb dX7_inkAt_46 hl (by decide) rfl (fun ls hl => ?_)
    refine lv_bipush (v := 24) hx hb dX7_inkAt_48 (by decide) ?_
    refine lv_istore (lv' := [(8, .int 24), (7, .int 0), (6, .int y_5), (5, .int r_3), (4, .int r_2), (3, .int r_1), (0, .ref h0), (1, .int x), (2, .int y)]) hx hb dX7_inkAt_50 hl (by decide) rfl (fun ls hl => ?_)
    refine lv_iload hx hb dX7_inkAt_52 (lv_at hl 0 rfl) ?_
    refine lv_if_lt (tgt := 121) hx hb dX7_inkAt_54 (by decide) (fun c_8 => ?_) (fun c_8 => ?_)
    · skip
      exact absurd c_8 (by decide)
    · skip
      refine lv_iload_n hx hb dX7_inkAt_57 rfl (lv_at hl 5 rfl) ?_
      refine lv_aload_n hx hb dX7_inkAt_58 rfl (lv_at hl 6 rfl) ?_
      refine va_get (D := D) (ci := 7) (v := .ref t3) (C := RX7) (T := TX7) (N := 4) hx hb hts hi_X7 hown hK hP 1 rfl rfl 2 (by decide) (hts _ bw_202) (fun _ h9 => h9) rfl dX7_inkAt_59 ?_
      refine lv_iconst (v := 0) hx hb dX7_inkAt_62 (by decide) ?_
      refine va_iald hx hb hK hP 0 0 rfl rfl (my_in (by decide) (by decide)) dX7_inkAt_63 ?_
      refine lv_iload hx hb dX7_inkAt_64 (lv_at hl 0 rfl) ?_
      have hPc := hP.sub (ws' := []) [] rfl
      have hDc := hD.sub (ws' := []) [] (by decide) rfl
      have hKc := hK.sub (tys' := []) [] rfl
      have hFc := va_free (wc := []) hD hS hA [] rfl
      refine va_calli (va_runSN (host := RX8) (As := [.int (uc (0 : Int32).toNatClampNeg), .int 24]) (rest := [.int r_1]) ⟨hx, hb, hml, hown, hts⟩ (k_X8_channel l D H.size (uc (0 : Int32).toNatClampNeg) 24) ⟨va_cnB 2 hts (gI bw_360) rfl rfl rfl (hN.2.1 (RX7, 39, yX8_channel, RX8) (by decide +kernel)) (hts _ bw_223) (by decide +kernel) ⟨(by rw [hR]; exact Nat.le_of_ble_eq_true rfl), (by rw [hR]; exact Nat.le_of_ble_eq_true rfl)⟩, (hts _ bw_361), trivial⟩ ⟨cP_blind, cP_at hPc hKc hDc hN⟩ rfl rfl hl.1 rfl (lv_room (Nat.le_of_ble_eq_true rfl)) dX7_inkAt_66 ⟨(by rw [hR]; exact Nat.le_of_ble_eq_true rfl), (by rw [hR]; exact Nat.le_of_ble_eq_true rfl)⟩) hS (fun q _ h => hFc q h) hFc (fun r_10 u9 t9 H1 locs ht hvm hr_10 hB hz1 hk1 hS => ?_)
      try dsimp only at hr_10
      have hP1 : va_P D vwCl [] H1 := vP_nil
      have hD1 : va_D (va_A [] H.size) [] := vD_nil
      obtain ⟨hP, hD⟩ := va_join (wr := [(t3, .inl (cI, 3, .inl uc)), (h0, .inr (7, [.ref t1, .ref t2, .ref t3, .ref ol])), (t1, .inl (cI, 3, .inl ua)), (t2, .inl (cI, 3, .inl ub))]) (w1 := []) hP hD [] [0, 1, 2, 3] rfl rfl (by decide) (by decide) hk1 hFc hP1 hD1
      clear hz1 hk1 hFc hKc hDc hPc
      generalize H1 = H at hP hS ⊢
      have hP : va_P D vwCl [(t3, .inl (cI, 3, .inl uc)), (h0, .inr (7, [.ref t1, .ref t2, .ref t3, .ref ol])), (t1, .inl (cI, 3, .inl ua)), (t2, .inl (cI, 3, .inl ub))] H := hP
      have hD : va_D A [(t3, .inl (cI, 3, .inl uc)), (h0, .inr (7, [.ref t1, .ref t2, .ref t3, .ref ol])), (t1, .inl (cI, 3, .inl ua)), (t2, .inl (cI, 3, .inl ub))] := hD
      refine lv_imul hx hb dX7_inkAt_69 ?_
      refine lv_topi (fun y_11 ey_11 => ?_)
      refine lv_iload hx hb dX7_inkAt_70 (lv_at hl 4 rfl) ?_
      refine lv_aload_n hx hb dX7_inkAt_72 rfl (lv_at hl 6 rfl) ?_
      refine va_get (D := D) (ci := 7) (v := .ref t3) (C := RX7) (T := TX7) (N := 4) hx hb hts hi_X7 hown hK hP 1 rfl rfl 2 (by decide) (hts _ bw_202) (fun _ h9 => h9) rfl dX7_inkAt_73 ?_
      refine lv_iconst (v := 1) hx hb dX7_inkAt_76 (by decide) ?_
      refine va_iald hx hb hK hP 0 0 rfl rfl (my_in (by decide) (by decide)) dX7_inkAt_77 ?_
      refine lv_iload hx hb dX7_inkAt_78 (lv_at hl 0 rfl) ?_
      have hPc := hP.sub (ws' := []) [] rfl
      have hDc := hD.sub (ws' := []) [] (by decide) rfl
      have hKc := hK.sub (tys' := []) [] rfl
      have hFc := va_free (wc := []) hD hS hA [] rfl
      refine va_calli (va_runSN (host := RX8) (As := [.int (uc (1 : Int32).toNatClampNeg), .int 24]) (rest := [.int r_2, .int y_11]) ⟨hx, hb, hml, hown, hts⟩ (k_X8_channel l D H.size (uc (1 : Int32).toNatClampNeg) 24) ⟨va_cnB 2 hts (gI bw_360) rfl rfl rfl (hN.2.1 (RX7, 39, yX8_channel, RX8) (by decide +kernel)) (hts _ bw_223) (by decide +kernel) ⟨(by rw [hR]; exact Nat.le_of_ble_eq_true rfl), (by rw [hR]; exact Nat.le_of_ble_eq_true rfl)⟩, (hts _ bw_361), trivial⟩ ⟨cP_blind, cP_at hPc hKc hDc hN⟩ rfl rfl hl.1 rfl (lv_room (Nat.le_of_ble_eq_true rfl)) dX7_inkAt_80 ⟨(by rw [hR]; exact Nat.le_of_ble_eq_true rfl), (by rw [hR]; exact Nat.le_of_ble_eq_true rfl)⟩) hS (fun q _ h => hFc q h) hFc (fun r_12 u9 t9 H1 locs ht hvm hr_12 hB hz1 hk1 hS => ?_)
      try dsimp only at hr_12
      have hP1 : va_P D vwCl [] H1 := vP_nil
      have hD1 : va_D (va_A [] H.size) [] := vD_nil
      obtain ⟨hP, hD⟩ := va_join (wr := [(t3, .inl (cI, 3, .inl uc)), (h0, .inr (7, [.ref t1, .ref t2, .ref t3, .ref ol])), (t1, .inl (cI, 3, .inl ua)), (t2, .inl (cI, 3, .inl ub))]) (w1 := []) hP hD [] [0, 1, 2, 3] rfl rfl (by decide) (by decide) hk1 hFc hP1 hD1
      clear hz1 hk1 hFc hKc hDc hPc
      generalize H1 = H at hP hS ⊢
      have hP : va_P D vwCl [(t3, .inl (cI, 3, .inl uc)), (h0, .inr (7, [.ref t1, .ref t2, .ref t3, .ref ol])), (t1, .inl (cI, 3, .inl ua)), (t2, .inl (cI, 3, .inl ub))] H := hP
      have hD : va_D A [(t3, .inl (cI, 3, .inl uc)), (h0, .inr (7, [.ref t1, .ref t2, .ref t3, .ref ol])), (t1, .inl (cI, 3, .inl ua)), (t2, .inl (cI, 3, .inl ub))] := hD
      refine lv_imul hx hb dX7_inkAt_83 ?_
      refine lv_topi (fun y_13 ey_13 => ?_)
      refine lv_iadd hx hb dX7_inkAt_84 ?_
      refine lv_topi (fun y_14 ey_14 => ?_)
      refine lv_iload hx hb dX7_inkAt_85 (lv_at hl 3 rfl) ?_
      refine lv_aload_n hx hb dX7_inkAt_87 rfl (lv_at hl 6 rfl) ?_
      refine va_get (D := D) (ci := 7) (v := .ref t3) (C := RX7) (T := TX7) (N := 4) hx hb hts hi_X7 hown hK hP 1 rfl rfl 2 (by decide) (hts _ bw_202) (fun _ h9 => h9) rfl dX7_inkAt_88 ?_
      refine lv_iconst (v := 2) hx hb dX7_inkAt_91 (by decide) ?_
      refine va_iald hx hb hK hP 0 0 rfl rfl (my_in (by decide) (by decide)) dX7_inkAt_92 ?_
      refine lv_iload hx hb dX7_inkAt_93 (lv_at hl 0 rfl) ?_
      have hPc := hP.sub (ws' := []) [] rfl
      have hDc := hD.sub (ws' := []) [] (by decide) rfl
      have hKc := hK.sub (tys' := []) [] rfl
      have hFc := va_free (wc := []) hD hS hA [] rfl
      refine va_calli (va_runSN (host := RX8) (As := [.int (uc (2 : Int32).toNatClampNeg), .int 24]) (rest := [.int r_3, .int y_14]) ⟨hx, hb, hml, hown, hts⟩ (k_X8_channel l D H.size (uc (2 : Int32).toNatClampNeg) 24) ⟨va_cnB 2 hts (gI bw_360) rfl rfl rfl (hN.2.1 (RX7, 39, yX8_channel, RX8) (by decide +kernel)) (hts _ bw_223) (by decide +kernel) ⟨(by rw [hR]; exact Nat.le_of_ble_eq_true rfl), (by rw [hR]; exact Nat.le_of_ble_eq_true rfl)⟩, (hts _ bw_361), trivial⟩ ⟨cP_blind, cP_at hPc hKc hDc hN⟩ rfl rfl hl.1 rfl (lv_room (Nat.le_of_ble_eq_true rfl)) dX7_inkAt_95 ⟨(by rw [hR]; exact Nat.le_of_ble_eq_true rfl), (by rw [hR]; exact Nat.le_of_ble_eq_true rfl)⟩) hS (fun q _ h => hFc q h) hFc (fun r_15 u9 t9 H1 locs ht hvm hr_15 hB hz1 hk1 hS => ?_)
      try dsimp only at hr_15
      have hP1 : va_P D vwCl [] H1 := vP_nil
      have hD1 : va_D (va_A [] H.size) [] := vD_nil
      obtain ⟨hP, hD⟩ := va_join (wr := [(t3, .inl (cI, 3, .inl uc)), (h0, .inr (7, [.ref t1, .ref t2, .ref t3, .ref ol])), (t1, .inl (cI, 3, .inl ua)), (t2, .inl (cI, 3, .inl ub))]) (w1 := []) hP hD [] [0, 1, 2, 3] rfl rfl (by decide) (by decide) hk1 hFc hP1 hD1
      clear hz1 hk1 hFc hKc hDc hPc
      generalize H1 = H at hP hS ⊢
      have hP : va_P D vwCl [(t3, .inl (cI, 3, .inl uc)), (h0, .inr (7, [.ref t1, .ref t2, .ref t3, .ref ol])), (t1, .inl (cI, 3, .inl ua)), (t2, .inl (cI, 3, .inl ub))] H := hP
      have hD : va_D A [(t3, .inl (cI, 3, .inl uc)), (h0, .inr (7, [.ref t1, .ref t2, .ref t3, .ref ol])), (t1, .inl (cI, 3, .inl ua)), (t2, .inl (cI, 3, .inl ub))] := hD
      refine lv_imul hx hb dX7_inkAt_98 ?_
      refine lv_topi (fun y_16 ey_16 => ?_)
      refine lv_iadd hx hb dX7_inkAt_99 ?_
      refine lv_topi (fun y_17 ey_17 => ?_)
      refine lv_istore (lv' := [(9, .int y_17), (8, .int 24), (7, .int 0), (6, .int y_5), (5, .int r_3), (4, .int r_2), (3, .int r_1), (0, .ref h0), (1, .int x), (2, .int y)]) hx hb dX7_inkAt_100 hl (by decide) rfl (fun ls hl => ?_)
      refine lv_iload hx hb dX7_inkAt_102 (lv_at hl 2 rfl) ?_
      refine lv_bipush (v := 8) hx hb dX7_inkAt_104 (by decide) ?_
      refine lv_ishl hx hb dX7_inkAt_106 ?_
      refine my_fold (v := 0) (by decide) ?_
      refine lv_iload hx hb dX7_inkAt_107 (lv_at hl 0 rfl) ?_
      refine lv_iload hx hb dX7_inkAt_109 (lv_at hl 3 rfl) ?_
      refine lv_idiv hx hb dX7_inkAt_111 c_6 ?_
      refine lv_topi (fun y_18 ey_18 => ?_)
      refine lv_ior hx hb dX7_inkAt_112 ?_
      refine lv_topi (fun y_19 ey_19 => ?_)
      refine lv_istore (lv' := [(7, .int y_19), (9, .int y_17), (8, .int 24), (6, .int y_5), (5, .int r_3), (4, .int r_2), (3, .int r_1), (0, .ref h0), (1, .int x), (2, .int y)]) hx hb dX7_inkAt_113 hl (by decide) rfl (fun ls hl => ?_)
      refine lv_iinc (v := 16) (lv' := [(8, .int 16), (7, .int y_19), (9, .int y_17), (6, .int y_5), (5, .int r_3), (4, .int r_2), (3, .int r_1), (0, .ref h0), (1, .int x), (2, .int y)]) hx hb dX7_inkAt_115 hl (k := 2) rfl (by decide) (by decide) rfl (fun ls hl => ?_)
      refine lv_goto (tgt := 52) hx hb dX7_inkAt_118 (by decide) ?_
      refine lv_iload hx hb dX7_inkAt_52 (lv_at hl 0 rfl) ?_
      refine lv_if_lt (tgt := 121) hx hb dX7_inkAt_54 (by decide) (fun c_20 => ?_) (fun c_20 => ?_)
      · skip
        exact absurd c_20 (by decide)
      · skip
        refine lv_iload_n hx hb dX7_inkAt_57 rfl (lv_at hl 6 rfl) ?_
        refine lv_aload_n hx hb dX7_inkAt_58 rfl (lv_at hl 7 rfl) ?_
        refine va_get (D := D) (ci := 7) (v := .ref t3) (C := RX7) (T := TX7) (N := 4) hx hb hts hi_X7 hown hK hP 1 rfl rfl 2 (by decide) (hts _ bw_202) (fun _ h9 => h9) rfl dX7_inkAt_59 ?_
        refine lv_iconst (v := 0) hx hb dX7_inkAt_62 (by decide) ?_
        refine va_iald hx hb hK hP 0 0 rfl rfl (my_in (by decide) (by decide)) dX7_inkAt_63 ?_
        refine lv_iload hx hb dX7_inkAt_64 (lv_at hl 0 rfl) ?_
        have hPc := hP.sub (ws' := []) [] rfl
        have hDc := hD.sub (ws' := []) [] (by decide) rfl
        have hKc := hK.sub (tys' := []) [] rfl
        have hFc := va_free (wc := []) hD hS hA [] rfl
        refine va_calli (va_runSN (host := RX8) (As := [.int (uc (0 : Int32).toNatClampNeg), .int 16]) (rest := [.int r_1]) ⟨hx, hb, hml, hown, hts⟩ (k_X8_channel l D H.size (uc (0 : Int32).toNatClampNeg) 16) ⟨va_cnB 2 hts (gI bw_360) rfl rfl rfl (hN.2.1 (RX7, 39, yX8_channel, RX8) (by decide +kernel)) (hts _ bw_223) (by decide +kernel) ⟨(by rw [hR]; exact Nat.le_of_ble_eq_true rfl), (by rw [hR]; exact Nat.le_of_ble_eq_true rfl)⟩, (hts _ bw_361), trivial⟩ ⟨cP_blind, cP_at hPc hKc hDc hN⟩ rfl rfl hl.1 rfl (lv_room (Nat.le_of_ble_eq_true rfl)) dX7_inkAt_66 ⟨(by rw [hR]; exact Nat.le_of_ble_eq_true rfl), (by rw [hR]; exact Nat.le_of_ble_eq_true rfl)⟩) hS (fun q _ h => hFc q h) hFc (fun r_22 u9 t9 H1 locs ht hvm hr_22 hB hz1 hk1 hS => ?_)
        try dsimp only at hr_22
        have hP1 : va_P D vwCl [] H1 := vP_nil
        have hD1 : va_D (va_A [] H.size) [] := vD_nil
        obtain ⟨hP, hD⟩ := va_join (wr := [(t3, .inl (cI, 3, .inl uc)), (h0, .inr (7, [.ref t1, .ref t2, .ref t3, .ref ol])), (t1, .inl (cI, 3, .inl ua)), (t2, .inl (cI, 3, .inl ub))]) (w1 := []) hP hD [] [0, 1, 2, 3] rfl rfl (by decide) (by decide) hk1 hFc hP1 hD1
        clear hz1 hk1 hFc hKc hDc hPc
        generalize H1 = H at hP hS ⊢
        have hP : va_P D vwCl [(t3, .inl (cI, 3, .inl uc)), (h0, .inr (7, [.ref t1, .ref t2, .ref t3, .ref ol])), (t1, .inl (cI, 3, .inl ua)), (t2, .inl (cI, 3, .inl ub))] H := hP
        have hD : va_D A [(t3, .inl (cI, 3, .inl uc)), (h0, .inr (7, [.ref t1, .ref t2, .ref t3, .ref ol])), (t1, .inl (cI, 3, .inl ua)), (t2, .inl (cI, 3, .inl ub))] := hD
        refine lv_imul hx hb dX7_inkAt_69 ?_
        refine lv_topi (fun y_23 ey_23 => ?_)
        refine lv_iload hx hb dX7_inkAt_70 (lv_at hl 5 rfl) ?_
        refine lv_aload_n hx hb dX7_inkAt_72 rfl (lv_at hl 7 rfl) ?_
        refine va_get (D := D) (ci := 7) (v := .ref t3) (C := RX7) (T := TX7) (N := 4) hx hb hts hi_X7 hown hK hP 1 rfl rfl 2 (by decide) (hts _ bw_202) (fun _ h9 => h9) rfl dX7_inkAt_73 ?_
        refine lv_iconst (v := 1) hx hb dX7_inkAt_76 (by decide) ?_
        refine va_iald hx hb hK hP 0 0 rfl rfl (my_in (by decide) (by decide)) dX7_inkAt_77 ?_
        refine lv_iload hx hb dX7_inkAt_78 (lv_at hl 0 rfl) ?_
        have hPc := hP.sub (ws' := []) [] rfl
        have hDc := hD.sub (ws' := []) [] (by decide) rfl
        have hKc := hK.sub (tys' := []) [] rfl
        have hFc := va_free (wc := []) hD hS hA [] rfl
        refine va_calli (va_runSN (host := RX8) (As := [.int (uc (1 : Int32).toNatClampNeg), .int 16]) (rest := [.int r_2, .int y_23]) ⟨hx, hb, hml, hown, hts⟩ (k_X8_channel l D H.size (uc (1 : Int32).toNatClampNeg) 16) ⟨va_cnB 2 hts (gI bw_360) rfl rfl rfl (hN.2.1 (RX7, 39, yX8_channel, RX8) (by decide +kernel)) (hts _ bw_223) (by decide +kernel) ⟨(by rw [hR]; exact Nat.le_of_ble_eq_true rfl), (by rw [hR]; exact Nat.le_of_ble_eq_true rfl)⟩, (hts _ bw_361), trivial⟩ ⟨cP_blind, cP_at hPc hKc hDc hN⟩ rfl rfl hl.1 rfl (lv_room (Nat.le_of_ble_eq_true rfl)) dX7_inkAt_80 ⟨(by rw [hR]; exact Nat.le_of_ble_eq_true rfl), (by rw [hR]; exact Nat.le_of_ble_eq_true rfl)⟩) hS (fun q _ h => hFc q h) hFc (fun r_24 u9 t9 H1 locs ht hvm hr_24 hB hz1 hk1 hS => ?_)
        try dsimp only at hr_24
        have hP1 : va_P D vwCl [] H1 := vP_nil
        have hD1 : va_D (va_A [] H.size) [] := vD_nil
        obtain ⟨hP, hD⟩ := va_join (wr := [(t3, .inl (cI, 3, .inl uc)), (h0, .inr (7, [.ref t1, .ref t2, .ref t3, .ref ol])), (t1, .inl (cI, 3, .inl ua)), (t2, .inl (cI, 3, .inl ub))]) (w1 := []) hP hD [] [0, 1, 2, 3] rfl rfl (by decide) (by decide) hk1 hFc hP1 hD1
        clear hz1 hk1 hFc hKc hDc hPc
        generalize H1 = H at hP hS ⊢
        have hP : va_P D vwCl [(t3, .inl (cI, 3, .inl uc)), (h0, .inr (7, [.ref t1, .ref t2, .ref t3, .ref ol])), (t1, .inl (cI, 3, .inl ua)), (t2, .inl (cI, 3, .inl ub))] H := hP
        have hD : va_D A [(t3, .inl (cI, 3, .inl uc)), (h0, .inr (7, [.ref t1, .ref t2, .ref t3, .ref ol])), (t1, .inl (cI, 3, .inl ua)), (t2, .inl (cI, 3, .inl ub))] := hD
        refine lv_imul hx hb dX7_inkAt_83 ?_
        refine lv_topi (fun y_25 ey_25 => ?_)
        refine lv_iadd hx hb dX7_inkAt_84 ?_
        refine lv_topi (fun y_26 ey_26 => ?_)
        refine lv_iload hx hb dX7_inkAt_85 (lv_at hl 4 rfl) ?_
        refine lv_aload_n hx hb dX7_inkAt_87 rfl (lv_at hl 7 rfl) ?_
        refine va_get (D := D) (ci := 7) (v := .ref t3) (C := RX7) (T := TX7) (N := 4) hx hb hts hi_X7 hown hK hP 1 rfl rfl 2 (by decide) (hts _ bw_202) (fun _ h9 => h9) rfl dX7_inkAt_88 ?_
        refine lv_iconst (v := 2) hx hb dX7_inkAt_91 (by decide) ?_
        refine va_iald hx hb hK hP 0 0 rfl rfl (my_in (by decide) (by decide)) dX7_inkAt_92 ?_
        refine lv_iload hx hb dX7_inkAt_93 (lv_at hl 0 rfl) ?_
        have hPc := hP.sub (ws' := []) [] rfl
        have hDc := hD.sub (ws' := []) [] (by decide) rfl
        have hKc := hK.sub (tys' := []) [] rfl
        have hFc := va_free (wc := []) hD hS hA [] rfl
        refine va_calli (va_runSN (host := RX8) (As := [.int (uc (2 : Int32).toNatClampNeg), .int 16]) (rest := [.int r_3, .int y_26]) ⟨hx, hb, hml, hown, hts⟩ (k_X8_channel l D H.size (uc (2 : Int32).toNatClampNeg) 16) ⟨va_cnB 2 hts (gI bw_360) rfl rfl rfl (hN.2.1 (RX7, 39, yX8_channel, RX8) (by decide +kernel)) (hts _ bw_223) (by decide +kernel) ⟨(by rw [hR]; exact Nat.le_of_ble_eq_true rfl), (by rw [hR]; exact Nat.le_of_ble_eq_true rfl)⟩, (hts _ bw_361), trivial⟩ ⟨cP_blind, cP_at hPc hKc hDc hN⟩ rfl rfl hl.1 rfl (lv_room (Nat.le_of_ble_eq_true rfl)) dX7_inkAt_95 ⟨(by rw [hR]; exact Nat.le_of_ble_eq_true rfl), (by rw [hR]; exact Nat.le_of_ble_eq_true rfl)⟩) hS (fun q _ h => hFc q h) hFc (fun r_27 u9 t9 H1 locs ht hvm hr_27 hB hz1 hk1 hS => ?_)
        try dsimp only at hr_27
        have hP1 : va_P D vwCl [] H1 := vP_nil
        have hD1 : va_D (va_A [] H.size) [] := vD_nil
        obtain ⟨hP, hD⟩ := va_join (wr := [(t3, .inl (cI, 3, .inl uc)), (h0, .inr (7, [.ref t1, .ref t2, .ref t3, .ref ol])), (t1, .inl (cI, 3, .inl ua)), (t2, .inl (cI, 3, .inl ub))]) (w1 := []) hP hD [] [0, 1, 2, 3] rfl rfl (by decide) (by decide) hk1 hFc hP1 hD1
        clear hz1 hk1 hFc hKc hDc hPc
        generalize H1 = H at hP hS ⊢
        have hP : va_P D vwCl [(t3, .inl (cI, 3, .inl uc)), (h0, .inr (7, [.ref t1, .ref t2, .ref t3, .ref ol])), (t1, .inl (cI, 3, .inl ua)), (t2, .inl (cI, 3, .inl ub))] H := hP
        have hD : va_D A [(t3, .inl (cI, 3, .inl uc)), (h0, .inr (7, [.ref t1, .ref t2, .ref t3, .ref ol])), (t1, .inl (cI, 3, .inl ua)), (t2, .inl (cI, 3, .inl ub))] := hD
        refine lv_imul hx hb dX7_inkAt_98 ?_
        refine lv_topi (fun y_28 ey_28 => ?_)
        refine lv_iadd hx hb dX7_inkAt_99 ?_
        refine lv_topi (fun y_29 ey_29 => ?_)
        refine lv_istore (lv' := [(9, .int y_29), (8, .int 16), (7, .int y_19), (6, .int y_5), (5, .int r_3), (4, .int r_2), (3, .int r_1), (0, .ref h0), (1, .int x), (2, .int y)]) hx hb dX7_inkAt_100 hl (by decide) rfl (fun ls hl => ?_)
        refine lv_iload hx hb dX7_inkAt_102 (lv_at hl 2 rfl) ?_
        refine lv_bipush (v := 8) hx hb dX7_inkAt_104 (by decide) ?_
        refine lv_ishl hx hb dX7_inkAt_106 ?_
        refine lv_topi (fun y_30 ey_30 => ?_)
        refine lv_iload hx hb dX7_inkAt_107 (lv_at hl 0 rfl) ?_
        refine lv_iload hx hb dX7_inkAt_109 (lv_at hl 3 rfl) ?_
        refine lv_idiv hx hb dX7_inkAt_111 c_6 ?_
        refine lv_topi (fun y_31 ey_31 => ?_)
        refine lv_ior hx hb dX7_inkAt_112 ?_
        refine lv_topi (fun y_32 ey_32 => ?_)
        refine lv_istore (lv' := [(7, .int y_32), (9, .int y_29), (8, .int 16), (6, .int y_5), (5, .int r_3), (4, .int r_2), (3, .int r_1), (0, .ref h0), (1, .int x), (2, .int y)]) hx hb dX7_inkAt_113 hl (by decide) rfl (fun ls hl => ?_)
        refine lv_iinc (v := 8) (lv' := [(8, .int 8), (7, .int y_32), (9, .int y_29), (6, .int y_5), (5, .int r_3), (4, .int r_2), (3, .int r_1), (0, .ref h0), (1, .int x), (2, .int y)]) hx hb dX7_inkAt_115 hl (k := 2) rfl (by decide) (by decide) rfl (fun ls hl => ?_)
        refine lv_goto (tgt := 52) hx hb dX7_inkAt_118 (by decide) ?_
        refine lv_iload hx hb dX7_inkAt_52 (lv_at hl 0 rfl) ?_
        refine lv_if_lt (tgt := 121) hx hb dX7_inkAt_54 (by decide) (fun c_33 => ?_) (fun c_33 => ?_)
        · skip
          exact absurd c_33 (by decide)
        · skip
          refine lv_iload_n hx hb dX7_inkAt_57 rfl (lv_at hl 6 rfl) ?_
          refine lv_aload_n hx hb dX7_inkAt_58 rfl (lv_at hl 7 rfl) ?_
          refine va_get (D := D) (ci := 7) (v := .ref t3) (C := RX7) (T := TX7) (N := 4) hx hb hts hi_X7 hown hK hP 1 rfl rfl 2 (by decide) (hts _ bw_202) (fun _ h9 => h9) rfl dX7_inkAt_59 ?_
          refine lv_iconst (v := 0) hx hb dX7_inkAt_62 (by decide) ?_
          refine va_iald hx hb hK hP 0 0 rfl rfl (my_in (by decide) (by decide)) dX7_inkAt_63 ?_
          refine lv_iload hx hb dX7_inkAt_64 (lv_at hl 0 rfl) ?_
          have hPc := hP.sub (ws' := []) [] rfl
          have hDc := hD.sub (ws' := []) [] (by decide) rfl
          have hKc := hK.sub (tys' := []) [] rfl
          have hFc := va_free (wc := []) hD hS hA [] rfl
          refine va_calli (va_runSN (host := RX8) (As := [.int (uc (0 : Int32).toNatClampNeg), .int 8]) (rest := [.int r_1]) ⟨hx, hb, hml, hown, hts⟩ (k_X8_channel l D H.size (uc (0 : Int32).toNatClampNeg) 8) ⟨va_cnB 2 hts (gI bw_360) rfl rfl rfl (hN.2.1 (RX7, 39, yX8_channel, RX8) (by decide +kernel)) (hts _ bw_223) (by decide +kernel) ⟨(by rw [hR]; exact Nat.le_of_ble_eq_true rfl), (by rw [hR]; exact Nat.le_of_ble_eq_true rfl)⟩, (hts _ bw_361), trivial⟩ ⟨cP_blind, cP_at hPc hKc hDc hN⟩ rfl rfl hl.1 rfl (lv_room (Nat.le_of_ble_eq_true rfl)) dX7_inkAt_66 ⟨(by rw [hR]; exact Nat.le_of_ble_eq_true rfl), (by rw [hR]; exact Nat.le_of_ble_eq_true rfl)⟩) hS (fun q _ h => hFc q h) hFc (fun r_35 u9 t9 H1 locs ht hvm hr_35 hB hz1 hk1 hS => ?_)
          try dsimp only at hr_35
          have hP1 : va_P D vwCl [] H1 := vP_nil
          have hD1 : va_D (va_A [] H.size) [] := vD_nil
          obtain ⟨hP, hD⟩ := va_join (wr := [(t3, .inl (cI, 3, .inl uc)), (h0, .inr (7, [.ref t1, .ref t2, .ref t3, .ref ol])), (t1, .inl (cI, 3, .inl ua)), (t2, .inl (cI, 3, .inl ub))]) (w1 := []) hP hD [] [0, 1, 2, 3] rfl rfl (by decide) (by decide) hk1 hFc hP1 hD1
          clear hz1 hk1 hFc hKc hDc hPc
          generalize H1 = H at hP hS ⊢
          have hP : va_P D vwCl [(t3, .inl (cI, 3, .inl uc)), (h0, .inr (7, [.ref t1, .ref t2, .ref t3, .ref ol])), (t1, .inl (cI, 3, .inl ua)), (t2, .inl (cI, 3, .inl ub))] H := hP
          have hD : va_D A [(t3, .inl (cI, 3, .inl uc)), (h0, .inr (7, [.ref t1, .ref t2, .ref t3, .ref ol])), (t1, .inl (cI, 3, .inl ua)), (t2, .inl (cI, 3, .inl ub))] := hD
          refine lv_imul hx hb dX7_inkAt_69 ?_
          refine lv_topi (fun y_36 ey_36 => ?_)
          refine lv_iload hx hb dX7_inkAt_70 (lv_at hl 5 rfl) ?_
          refine lv_aload_n hx hb dX7_inkAt_72 rfl (lv_at hl 7 rfl) ?_
          refine va_get (D := D) (ci := 7) (v := .ref t3) (C := RX7) (T := TX7) (N := 4) hx hb hts hi_X7 hown hK hP 1 rfl rfl 2 (by decide) (hts _ bw_202) (fun _ h9 => h9) rfl dX7_inkAt_73 ?_
          refine lv_iconst (v := 1) hx hb dX7_inkAt_76 (by decide) ?_
          refine va_iald hx hb hK hP 0 0 rfl rfl (my_in (by decide) (by decide)) dX7_inkAt_77 ?_
          refine lv_iload hx hb dX7_inkAt_78 (lv_at hl 0 rfl) ?_
          have hPc := hP.sub (ws' := []) [] rfl
          have hDc := hD.sub (ws' := []) [] (by decide) rfl
          have hKc := hK.sub (tys' := []) [] rfl
          have hFc := va_free (wc := []) hD hS hA [] rfl
          refine va_calli (va_runSN (host := RX8) (As := [.int (uc (1 : Int32).toNatClampNeg), .int 8]) (rest := [.int r_2, .int y_36]) ⟨hx, hb, hml, hown, hts⟩ (k_X8_channel l D H.size (uc (1 : Int32).toNatClampNeg) 8) ⟨va_cnB 2 hts (gI bw_360) rfl rfl rfl (hN.2.1 (RX7, 39, yX8_channel, RX8) (by decide +kernel)) (hts _ bw_223) (by decide +kernel) ⟨(by rw [hR]; exact Nat.le_of_ble_eq_true rfl), (by rw [hR]; exact Nat.le_of_ble_eq_true rfl)⟩, (hts _ bw_361), trivial⟩ ⟨cP_blind, cP_at hPc hKc hDc hN⟩ rfl rfl hl.1 rfl (lv_room (Nat.le_of_ble_eq_true rfl)) dX7_inkAt_80 ⟨(by rw [hR]; exact Nat.le_of_ble_eq_true rfl), (by rw [hR]; exact Nat.le_of_ble_eq_true rfl)⟩) hS (fun q _ h => hFc q h) hFc (fun r_37 u9 t9 H1 locs ht hvm hr_37 hB hz1 hk1 hS => ?_)
          try dsimp only at hr_37
          have hP1 : va_P D vwCl [] H1 := vP_nil
          have hD1 : va_D (va_A [] H.size) [] := vD_nil
          obtain ⟨hP, hD⟩ := va_join (wr := [(t3, .inl (cI, 3, .inl uc)), (h0, .inr (7, [.ref t1, .ref t2, .ref t3, .ref ol])), (t1, .inl (cI, 3, .inl ua)), (t2, .inl (cI, 3, .inl ub))]) (w1 := []) hP hD [] [0, 1, 2, 3] rfl rfl (by decide) (by decide) hk1 hFc hP1 hD1
          clear hz1 hk1 hFc hKc hDc hPc
          generalize H1 = H at hP hS ⊢
          have hP : va_P D vwCl [(t3, .inl (cI, 3, .inl uc)), (h0, .inr (7, [.ref t1, .ref t2, .ref t3, .ref ol])), (t1, .inl (cI, 3, .inl ua)), (t2, .inl (cI, 3, .inl ub))] H := hP
          have hD : va_D A [(t3, .inl (cI, 3, .inl uc)), (h0, .inr (7, [.ref t1, .ref t2, .ref t3, .ref ol])), (t1, .inl (cI, 3, .inl ua)), (t2, .inl (cI, 3, .inl ub))] := hD
          refine lv_imul hx hb dX7_inkAt_83 ?_
          refine lv_topi (fun y_38 ey_38 => ?_)
          refine lv_iadd hx hb dX7_inkAt_84 ?_
          refine lv_topi (fun y_39 ey_39 => ?_)
          refine lv_iload hx hb dX7_inkAt_85 (lv_at hl 4 rfl) ?_
          refine lv_aload_n hx hb dX7_inkAt_87 rfl (lv_at hl 7 rfl) ?_
          refine va_get (D := D) (ci := 7) (v := .ref t3) (C := RX7) (T := TX7) (N := 4) hx hb hts hi_X7 hown hK hP 1 rfl rfl 2 (by decide) (hts _ bw_202) (fun _ h9 => h9) rfl dX7_inkAt_88 ?_
          refine lv_iconst (v := 2) hx hb dX7_inkAt_91 (by decide) ?_
          refine va_iald hx hb hK hP 0 0 rfl rfl (my_in (by decide) (by decide)) dX7_inkAt_92 ?_
          refine lv_iload hx hb dX7_inkAt_93 (lv_at hl 0 rfl) ?_
          have hPc := hP.sub (ws' := []) [] rfl
          have hDc := hD.sub (ws' := []) [] (by decide) rfl
          have hKc := hK.sub (tys' := []) [] rfl
          have hFc := va_free (wc := []) hD hS hA [] rfl
          refine va_calli (va_runSN (host := RX8) (As := [.int (uc (2 : Int32).toNatClampNeg), .int 8]) (rest := [.int r_3, .int y_39]) ⟨hx, hb, hml, hown, hts⟩ (k_X8_channel l D H.size (uc (2 : Int32).toNatClampNeg) 8) ⟨va_cnB 2 hts (gI bw_360) rfl rfl rfl (hN.2.1 (RX7, 39, yX8_channel, RX8) (by decide +kernel)) (hts _ bw_223) (by decide +kernel) ⟨(by rw [hR]; exact Nat.le_of_ble_eq_true rfl), (by rw [hR]; exact Nat.le_of_ble_eq_true rfl)⟩, (hts _ bw_361), trivial⟩ ⟨cP_blind, cP_at hPc hKc hDc hN⟩ rfl rfl hl.1 rfl (lv_room (Nat.le_of_ble_eq_true rfl)) dX7_inkAt_95 ⟨(by rw [hR]; exact Nat.le_of_ble_eq_true rfl), (by rw [hR]; exact Nat.le_of_ble_eq_true rfl)⟩) hS (fun q _ h => hFc q h) hFc (fun r_40 u9 t9 H1 locs ht hvm hr_40 hB hz1 hk1 hS => ?_)
          try dsimp only at hr_40
          have hP1 : va_P D vwCl [] H1 := vP_nil
          have hD1 : va_D (va_A [] H.size) [] := vD_nil
          obtain ⟨hP, hD⟩ := va_join (wr := [(t3, .inl (cI, 3, .inl uc)), (h0, .inr (7, [.ref t1, .ref t2, .ref t3, .ref ol])), (t1, .inl (cI, 3, .inl ua)), (t2, .inl (cI, 3, .inl ub))]) (w1 := []) hP hD [] [0, 1, 2, 3] rfl rfl (by decide) (by decide) hk1 hFc hP1 hD1
          clear hz1 hk1 hFc hKc hDc hPc
          generalize H1 = H at hP hS ⊢
          have hP : va_P D vwCl [(t3, .inl (cI, 3, .inl uc)), (h0, .inr (7, [.ref t1, .ref t2, .ref t3, .ref ol])), (t1, .inl (cI, 3, .inl ua)), (t2, .inl (cI, 3, .inl ub))] H := hP
          have hD : va_D A [(t3, .inl (cI, 3, .inl uc)), (h0, .inr (7, [.ref t1, .ref t2, .ref t3, .ref ol])), (t1, .inl (cI, 3, .inl ua)), (t2, .inl (cI, 3, .inl ub))] := hD
          refine lv_imul hx hb dX7_inkAt_98 ?_
          refine lv_topi (fun y_41 ey_41 => ?_)
          refine lv_iadd hx hb dX7_inkAt_99 ?_
          refine lv_topi (fun y_42 ey_42 => ?_)
          refine lv_istore (lv' := [(9, .int y_42), (8, .int 8), (7, .int y_32), (6, .int y_5), (5, .int r_3), (4, .int r_2), (3, .int r_1), (0, .ref h0), (1, .int x), (2, .int y)]) hx hb dX7_inkAt_100 hl (by decide) rfl (fun ls hl => ?_)
          refine lv_iload hx hb dX7_inkAt_102 (lv_at hl 2 rfl) ?_
          refine lv_bipush (v := 8) hx hb dX7_inkAt_104 (by decide) ?_
          refine lv_ishl hx hb dX7_inkAt_106 ?_
          refine lv_topi (fun y_43 ey_43 => ?_)
          refine lv_iload hx hb dX7_inkAt_107 (lv_at hl 0 rfl) ?_
          refine lv_iload hx hb dX7_inkAt_109 (lv_at hl 3 rfl) ?_
          refine lv_idiv hx hb dX7_inkAt_111 c_6 ?_
          refine lv_topi (fun y_44 ey_44 => ?_)
          refine lv_ior hx hb dX7_inkAt_112 ?_
          refine lv_topi (fun y_45 ey_45 => ?_)
          refine lv_istore (lv' := [(7, .int y_45), (9, .int y_42), (8, .int 8), (6, .int y_5), (5, .int r_3), (4, .int r_2), (3, .int r_1), (0, .ref h0), (1, .int x), (2, .int y)]) hx hb dX7_inkAt_113 hl (by decide) rfl (fun ls hl => ?_)
          refine lv_iinc (v := 0) (lv' := [(8, .int 0), (7, .int y_45), (9, .int y_42), (6, .int y_5), (5, .int r_3), (4, .int r_2), (3, .int r_1), (0, .ref h0), (1, .int x), (2, .int y)]) hx hb dX7_inkAt_115 hl (k := 2) rfl (by decide) (by decide) rfl (fun ls hl => ?_)
          refine lv_goto (tgt := 52) hx hb dX7_inkAt_118 (by decide) ?_
          refine lv_iload hx hb dX7_inkAt_52 (lv_at hl 0 rfl) ?_
          refine lv_if_lt (tgt := 121) hx hb dX7_inkAt_54 (by decide) (fun c_46 => ?_) (fun c_46 => ?_)
          · skip
            exact absurd c_46 (by decide)
          · skip
            refine lv_iload_n hx hb dX7_inkAt_57 rfl (lv_at hl 6 rfl) ?_
            refine lv_aload_n hx hb dX7_inkAt_58 rfl (lv_at hl 7 rfl) ?_
            refine va_get (D := D) (ci := 7) (v := .ref t3) (C := RX7) (T := TX7) (N := 4) hx hb hts hi_X7 hown hK hP 1 rfl rfl 2 (by decide) (hts _ bw_202) (fun _ h9 => h9) rfl dX7_inkAt_59 ?_
            refine lv_iconst (v := 0) hx hb dX7_inkAt_62 (by decide) ?_
            refine va_iald hx hb hK hP 0 0 rfl rfl (my_in (by decide) (by decide)) dX7_inkAt_63 ?_
            refine lv_iload hx hb dX7_inkAt_64 (lv_at hl 0 rfl) ?_
            have hPc := hP.sub (ws' := []) [] rfl
            have hDc := hD.sub (ws' := []) [] (by decide) rfl
            have hKc := hK.sub (tys' := []) [] rfl
            have hFc := va_free (wc := []) hD hS hA [] rfl
            refine va_calli (va_runSN (host := RX8) (As := [.int (uc (0 : Int32).toNatClampNeg), .int 0]) (rest := [.int r_1]) ⟨hx, hb, hml, hown, hts⟩ (k_X8_channel l D H.size (uc (0 : Int32).toNatClampNeg) 0) ⟨va_cnB 2 hts (gI bw_360) rfl rfl rfl (hN.2.1 (RX7, 39, yX8_channel, RX8) (by decide +kernel)) (hts _ bw_223) (by decide +kernel) ⟨(by rw [hR]; exact Nat.le_of_ble_eq_true rfl), (by rw [hR]; exact Nat.le_of_ble_eq_true rfl)⟩, (hts _ bw_361), trivial⟩ ⟨cP_blind, cP_at hPc hKc hDc hN⟩ rfl rfl hl.1 rfl (lv_room (Nat.le_of_ble_eq_true rfl)) dX7_inkAt_66 ⟨(by rw [hR]; exact Nat.le_of_ble_eq_true rfl), (by rw [hR]; exact Nat.le_of_ble_eq_true rfl)⟩) hS (fun q _ h => hFc q h) hFc (fun r_48 u9 t9 H1 locs ht hvm hr_48 hB hz1 hk1 hS => ?_)
            try dsimp only at hr_48
            have hP1 : va_P D vwCl [] H1 := vP_nil
            have hD1 : va_D (va_A [] H.size) [] := vD_nil
            obtain ⟨hP, hD⟩ := va_join (wr := [(t3, .inl (cI, 3, .inl uc)), (h0, .inr (7, [.ref t1, .ref t2, .ref t3, .ref ol])), (t1, .inl (cI, 3, .inl ua)), (t2, .inl (cI, 3, .inl ub))]) (w1 := []) hP hD [] [0, 1, 2, 3] rfl rfl (by decide) (by decide) hk1 hFc hP1 hD1
            clear hz1 hk1 hFc hKc hDc hPc
            generalize H1 = H at hP hS ⊢
            have hP : va_P D vwCl [(t3, .inl (cI, 3, .inl uc)), (h0, .inr (7, [.ref t1, .ref t2, .ref t3, .ref ol])), (t1, .inl (cI, 3, .inl ua)), (t2, .inl (cI, 3, .inl ub))] H := hP
            have hD : va_D A [(t3, .inl (cI, 3, .inl uc)), (h0, .inr (7, [.ref t1, .ref t2, .ref t3, .ref ol])), (t1, .inl (cI, 3, .inl ua)), (t2, .inl (cI, 3, .inl ub))] := hD
            refine lv_imul hx hb dX7_inkAt_69 ?_
            refine lv_topi (fun y_49 ey_49 => ?_)
            refine lv_iload hx hb dX7_inkAt_70 (lv_at hl 5 rfl) ?_
            refine lv_aload_n hx hb dX7_inkAt_72 rfl (lv_at hl 7 rfl) ?_
            refine va_get (D := D) (ci := 7) (v := .ref t3) (C := RX7) (T := TX7) (N := 4) hx hb hts hi_X7 hown hK hP 1 rfl rfl 2 (by decide) (hts _ bw_202) (fun _ h9 => h9) rfl dX7_inkAt_73 ?_
            refine lv_iconst (v := 1) hx hb dX7_inkAt_76 (by decide) ?_
            refine va_iald hx hb hK hP 0 0 rfl rfl (my_in (by decide) (by decide)) dX7_inkAt_77 ?_
            refine lv_iload hx hb dX7_inkAt_78 (lv_at hl 0 rfl) ?_
            have hPc := hP.sub (ws' := []) [] rfl
            have hDc := hD.sub (ws' := []) [] (by decide) rfl
            have hKc := hK.sub (tys' := []) [] rfl
            have hFc := va_free (wc := []) hD hS hA [] rfl
            refine va_calli (va_runSN (host := RX8) (As := [.int (uc (1 : Int32).toNatClampNeg), .int 0]) (rest := [.int r_2, .int y_49]) ⟨hx, hb, hml, hown, hts⟩ (k_X8_channel l D H.size (uc (1 : Int32).toNatClampNeg) 0) ⟨va_cnB 2 hts (gI bw_360) rfl rfl rfl (hN.2.1 (RX7, 39, yX8_channel, RX8) (by decide +kernel)) (hts _ bw_223) (by decide +kernel) ⟨(by rw [hR]; exact Nat.le_of_ble_eq_true rfl), (by rw [hR]; exact Nat.le_of_ble_eq_true rfl)⟩, (hts _ bw_361), trivial⟩ ⟨cP_blind, cP_at hPc hKc hDc hN⟩ rfl rfl hl.1 rfl (lv_room (Nat.le_of_ble_eq_true rfl)) dX7_inkAt_80 ⟨(by rw [hR]; exact Nat.le_of_ble_eq_true rfl), (by rw [hR]; exact Nat.le_of_ble_eq_true rfl)⟩) hS (fun q _ h => hFc q h) hFc (fun r_50 u9 t9 H1 locs ht hvm hr_50 hB hz1 hk1 hS => ?_)
            try dsimp only at hr_50
            have hP1 : va_P D vwCl [] H1 := vP_nil
            have hD1 : va_D (va_A [] H.size) [] := vD_nil
            obtain ⟨hP, hD⟩ := va_join (wr := [(t3, .inl (cI, 3, .inl uc)), (h0, .inr (7, [.ref t1, .ref t2, .ref t3, .ref ol])), (t1, .inl (cI, 3, .inl ua)), (t2, .inl (cI, 3, .inl ub))]) (w1 := []) hP hD [] [0, 1, 2, 3] rfl rfl (by decide) (by decide) hk1 hFc hP1 hD1
            clear hz1 hk1 hFc hKc hDc hPc
            generalize H1 = H at hP hS ⊢
            have hP : va_P D vwCl [(t3, .inl (cI, 3, .inl uc)), (h0, .inr (7, [.ref t1, .ref t2, .ref t3, .ref ol])), (t1, .inl (cI, 3, .inl ua)), (t2, .inl (cI, 3, .inl ub))] H := hP
            have hD : va_D A [(t3, .inl (cI, 3, .inl uc)), (h0, .inr (7, [.ref t1, .ref t2, .ref t3, .ref ol])), (t1, .inl (cI, 3, .inl ua)), (t2, .inl (cI, 3, .inl ub))] := hD
            refine lv_imul hx hb dX7_inkAt_83 ?_
            refine lv_topi (fun y_51 ey_51 => ?_)
            refine lv_iadd hx hb dX7_inkAt_84 ?_
            refine lv_topi (fun y_52 ey_52 => ?_)
            refine lv_iload hx hb dX7_inkAt_85 (lv_at hl 4 rfl) ?_
            refine lv_aload_n hx hb dX7_inkAt_87 rfl (lv_at hl 7 rfl) ?_
            refine va_get (D := D) (ci := 7) (v := .ref t3) (C := RX7) (T := TX7) (N := 4) hx hb hts hi_X7 hown hK hP 1 rfl rfl 2 (by decide) (hts _ bw_202) (fun _ h9 => h9) rfl dX7_inkAt_88 ?_
            refine lv_iconst (v := 2) hx hb dX7_inkAt_91 (by decide) ?_
            refine va_iald hx hb hK hP 0 0 rfl rfl (my_in (by decide) (by decide)) dX7_inkAt_92 ?_
            refine lv_iload hx hb dX7_inkAt_93 (lv_at hl 0 rfl) ?_
            have hPc := hP.sub (ws' := []) [] rfl
            have hDc := hD.sub (ws' := []) [] (by decide) rfl
            have hKc := hK.sub (tys' := []) [] rfl
            have hFc := va_free (wc := []) hD hS hA [] rfl
            refine va_calli (va_runSN (host := RX8) (As := [.int (uc (2 : Int32).toNatClampNeg), .int 0]) (rest := [.int r_3, .int y_52]) ⟨hx, hb, hml, hown, hts⟩ (k_X8_channel l D H.size (uc (2 : Int32).toNatClampNeg) 0) ⟨va_cnB 2 hts (gI bw_360) rfl rfl rfl (hN.2.1 (RX7, 39, yX8_channel, RX8) (by decide +kernel)) (hts _ bw_223) (by decide +kernel) ⟨(by rw [hR]; exact Nat.le_of_ble_eq_true rfl), (by rw [hR]; exact Nat.le_of_ble_eq_true rfl)⟩, (hts _ bw_361), trivial⟩ ⟨cP_blind, cP_at hPc hKc hDc hN⟩ rfl rfl hl.1 rfl (lv_room (Nat.le_of_ble_eq_true rfl)) dX7_inkAt_95 ⟨(by rw [hR]; exact Nat.le_of_ble_eq_true rfl), (by rw [hR]; exact Nat.le_of_ble_eq_true rfl)⟩) hS (fun q _ h => hFc q h) hFc (fun r_53 u9 t9 H1 locs ht hvm hr_53 hB hz1 hk1 hS => ?_)
            try dsimp only at hr_53
            have hP1 : va_P D vwCl [] H1 := vP_nil
            have hD1 : va_D (va_A [] H.size) [] := vD_nil
            obtain ⟨hP, hD⟩ := va_join (wr := [(t3, .inl (cI, 3, .inl uc)), (h0, .inr (7, [.ref t1, .ref t2, .ref t3, .ref ol])), (t1, .inl (cI, 3, .inl ua)), (t2, .inl (cI, 3, .inl ub))]) (w1 := []) hP hD [] [0, 1, 2, 3] rfl rfl (by decide) (by decide) hk1 hFc hP1 hD1
            clear hz1 hk1 hFc hKc hDc hPc
            generalize H1 = H at hP hS ⊢
            have hP : va_P D vwCl [(t3, .inl (cI, 3, .inl uc)), (h0, .inr (7, [.ref t1, .ref t2, .ref t3, .ref ol])), (t1, .inl (cI, 3, .inl ua)), (t2, .inl (cI, 3, .inl ub))] H := hP
            have hD : va_D A [(t3, .inl (cI, 3, .inl uc)), (h0, .inr (7, [.ref t1, .ref t2, .ref t3, .ref ol])), (t1, .inl (cI, 3, .inl ua)), (t2, .inl (cI, 3, .inl ub))] := hD
            refine lv_imul hx hb dX7_inkAt_98 ?_
            refine lv_topi (fun y_54 ey_54 => ?_)
            refine lv_iadd hx hb dX7_inkAt_99 ?_
            refine lv_topi (fun y_55 ey_55 => ?_)
            refine lv_istore (lv' := [(9, .int y_55), (8, .int 0), (7, .int y_45), (6, .int y_5), (5, .int r_3), (4, .int r_2), (3, .int r_1), (0, .ref h0), (1, .int x), (2, .int y)]) hx hb dX7_inkAt_100 hl (by decide) rfl (fun ls hl => ?_)
            refine lv_iload hx hb dX7_inkAt_102 (lv_at hl 2 rfl) ?_
            refine lv_bipush (v := 8) hx hb dX7_inkAt_104 (by decide) ?_
            refine lv_ishl hx hb dX7_inkAt_106 ?_
            refine lv_topi (fun y_56 ey_56 => ?_)
            refine lv_iload hx hb dX7_inkAt_107 (lv_at hl 0 rfl) ?_
            refine lv_iload hx hb dX7_inkAt_109 (lv_at hl 3 rfl) ?_
            refine lv_idiv hx hb dX7_inkAt_111 c_6 ?_
            refine lv_topi (fun y_57 ey_57 => ?_)
            refine lv_ior hx hb dX7_inkAt_112 ?_
            refine lv_topi (fun y_58 ey_58 => ?_)
            refine lv_istore (lv' := [(7, .int y_58), (9, .int y_55), (8, .int 0), (6, .int y_5), (5, .int r_3), (4, .int r_2), (3, .int r_1), (0, .ref h0), (1, .int x), (2, .int y)]) hx hb dX7_inkAt_113 hl (by decide) rfl (fun ls hl => ?_)
            refine lv_iinc (v := (-8)) (lv' := [(8, .int (-8)), (7, .int y_58), (9, .int y_55), (6, .int y_5), (5, .int r_3), (4, .int r_2), (3, .int r_1), (0, .ref h0), (1, .int x), (2, .int y)]) hx hb dX7_inkAt_115 hl (k := 2) rfl (by decide) (by decide) rfl (fun ls hl => ?_)
            refine lv_goto (tgt := 52) hx hb dX7_inkAt_118 (by decide) ?_
            refine lv_iload hx hb dX7_inkAt_52 (lv_at hl 0 rfl) ?_
            refine lv_if_lt (tgt := 121) hx hb dX7_inkAt_54 (by decide) (fun c_59 => ?_) (fun c_59 => ?_)
            · skip
              refine lv_iload hx hb dX7_inkAt_121 (lv_at hl 1 rfl) ?_
              have hP9 := hP.sub (ws' := [(h0, .inr (7, [.ref t1, .ref t2, .ref t3, .ref ol])), (t1, .inl (cI, 3, .inl ua)), (t2, .inl (cI, 3, .inl ub)), (t3, .inl (cI, 3, .inl uc))]) [1, 2, 3, 0] rfl
              have hD9 := hD.sub (ws' := [(h0, .inr (7, [.ref t1, .ref t2, .ref t3, .ref ol])), (t1, .inl (cI, 3, .inl ua)), (t2, .inl (cI, 3, .inl ub)), (t3, .inl (cI, 3, .inl uc))]) [1, 2, 3, 0] (by decide) rfl
              have hK9 := hK.sub (tys' := [(cI, .int)]) [0] rfl
              refine hQ _ _ _ _ _ ?_
              exact W.iret (v := y_58) hx hb hr (fun t ht hW => ⟨⟨y_58, (), rfl, trivial, ⟨by rw [ht]; exact hP9, va_K.moved hW.alike hK9, hD9⟩⟩, hS.F ht⟩) hS.2.2 dX7_inkAt_123
            · skip
              exact absurd c_59 (by decide)
  · skip
    have f_7 : y_5.toInt = 0 := f_eq rfl (by decide) c_6
    refine lv_iconst (v := 0) hx hb dX7_inkAt_43 (by decide) ?_
    have hP9 := hP.sub (ws' := [(h0, .inr (7, [.ref t1, .ref t2, .ref t3, .ref ol])), (t1, .inl (cI, 3, .inl ua)), (t2, .inl (cI, 3, .inl ub)), (t3, .inl (cI, 3, .inl uc))]) [1, 2, 3, 0] rfl
    have hD9 := hD.sub (ws' := [(h0, .inr (7, [.ref t1, .ref t2, .ref t3, .ref ol])), (t1, .inl (cI, 3, .inl ua)), (t2, .inl (cI, 3, .inl ub)), (t3, .inl (cI, 3, .inl uc))]) [1, 2, 3, 0] (by decide) rfl
    have hK9 := hK.sub (tys' := [(cI, .int)]) [0] rfl
    refine hQ _ _ _ _ _ ?_
    exact W.iret (v := 0) hx hb hr (fun t ht hW => ⟨⟨0, (), rfl, trivial, ⟨by rw [ht]; exact hP9, va_K.moved hW.alike hK9, hD9⟩⟩, hS.F ht⟩) hS.2.2 dX7_inkAt_44
