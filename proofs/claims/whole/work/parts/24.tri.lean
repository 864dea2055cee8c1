set_option maxHeartbeats 4000000 in
set_option maxRecDepth 100000 in
theorem k_X7_place (l : Launch) (D : va_G) (sz : Nat) (h0 : Nat) (t1 t2 t3 ol : Nat) (ua : Nat → Int32) (ub : Nat → Int32) (uc : Nat → Int32) (i9 x y v : Int32) (cI : ClassId) : Met l yX7_place (wB yX7_place cX7_place 5 none) ({ frames := 0, cells := 0, slots := 0, locals := 0 }) (cP D [(h0, .inr (7, [.ref t1, .ref t2, .ref t3, .ref ol])), (t1, .inl (cI, 3, .inl ua)), (t2, .inl (cI, 3, .inl ub)), (t3, .inl (cI, 3, .inl uc))] [(cI, .int)] sz [.ref h0, .int i9, .int x, .int y, .int v]) (va_Qv (fun (_ : Unit) => True) (fun (_ : Unit) (t : State) => cB D (va_A [(h0, .inr (7, [.ref t1, .ref t2, .ref t3, .ref ol])), (t1, .inl (cI, 3, .inl ua)), (t2, .inl (cI, 3, .inl ub)), (t3, .inl (cI, 3, .inl uc))] sz) [(h0, .inr (7, [.ref t1, .ref t2, .ref t3, .ref ol])), (t1, .inl (cI, 3, .inl (if (0 ≤ i9.toInt ∧ i9.toInt < 3) then upd ua i9.toNatClampNeg x else ua))), (t2, .inl (cI, 3, .inl (if (0 ≤ i9.toInt ∧ i9.toInt < 3) then upd ub i9.toNatClampNeg y else ub))), (t3, .inl (cI, 3, .inl (if (0 ≤ i9.toInt ∧ i9.toInt < 3) then upd uc i9.toNatClampNeg v else uc)))] [(cI, .int)] t) (va_A [(h0, .inr (7, [.ref t1, .ref t2, .ref t3, .ref ol])), (t1, .inl (cI, 3, .inl ua)), (t2, .inl (cI, 3, .inl ub)), (t3, .inl (cI, 3, .inl uc))] sz)) 0 0 (va_A [(h0, .inr (7, [.ref t1, .ref t2, .ref t3, .ref ol])), (t1, .inl (cI, 3, .inl ua)), (t2, .inl (cI, 3, .inl ub)), (t3, .inl (cI, 3, .inl uc))] sz) := by
  refine Met.ofW (cc := cX7_place) (maxL := 5) (ret := none) (by decide) rfl ?_
  intro p e s m args below meth c s₁ B hml hv
  obtain ⟨rfl, hsz, hP, hK, hD0, hN⟩ := hv
  have hx := B.exec
  have hb := B.bytes
  have hr := B.returns
  have hts0 := atoms_spec (ws := (wB yX7_place cX7_place 5 none)) B.pre
  have hts : ∀ w ∈ bigW, w.before _ s = true := fun w h => hts0 w (List.mem_cons_of_mem _ h)
  have hown : s.vm.findClass RX7 = some m.cls := findClass_of_methodNamed B.named
  have hlocks := B.notSynchronized
  subst hsz
  have hD := hD0.self (sz := s.heap.size)
  generalize hAe : va_A [(h0, .inr (7, [.ref t1, .ref t2, .ref t3, .ref ol])), (t1, .inl (cI, 3, .inl ua)), (t2, .inl (cI, 3, .inl ub)), (t3, .inl (cI, 3, .inl uc))] s.heap.size = A at hD ⊢
  have hA : ∀ q : Nat, s.heap.size ≤ q → A q := fun q h => by rw [← hAe]; exact Or.inr h
  have hS : va_S A s.heap s.heap [] := va_S.rf
  have hP : va_P D vwCl [(h0, .inr (7, [.ref t1, .ref t2, .ref t3, .ref ol])), (t1, .inl (cI, 3, .inl ua)), (t2, .inl (cI, 3, .inl ub)), (t3, .inl (cI, 3, .inl uc))] s.heap := hP
  have hl := lv_entry ([.ref h0, .int i9, .int x, .int y, .int v]) (n := 5) (Nat.le_of_ble_eq_true rfl)
  rw [lg_entry_eq]
  generalize (lg_sl ([.ref h0, .int i9, .int x, .int y, .int v]) ++ List.replicate (5 - (lg_sl ([.ref h0, .int i9, .int x, .int y, .int v])).length) Slot.unset).toArray = ls at hl ⊢
  have hl : lv_has ls 5 [(0, .ref h0), (1, .int i9), (2, .int x), (3, .int y), (4, .int v)] := hl
  clear hts0 hD0 hAe
  refine my_abs (fun R Q hR hQ => ?_)
  refine lv_iload_n hx hb dX7_place_0 rfl (lv_at hl 1 rfl) ?_
  refine lv_if_lt (tgt := 31) hx hb dX7_place_1 (by decide) (fun c_1 => ?_) (fun c_1 => ?_)
  · skip
    have f_2 : i9.toInt < 0 := f_lt rfl (by decide) c_1
    have hc : ua = if (0 ≤ i9.toInt ∧ i9.toInt < 3) then upd ua i9.toNatClampNeg x else ua := (if_neg (by omega)).symm
    rw [hc] at hP hD
    have hc : ub = if (0 ≤ i9.toInt ∧ i9.toInt < 3) then upd ub i9.toNatClampNeg y else ub := (if_neg (by omega)).symm
    rw [hc] at hP hD
    have hc : uc = if (0 ≤ i9.toInt ∧ i9.toInt < 3) then upd uc i9.toNatClampNeg v else uc := (if_neg (by omega)).symm
    rw [hc] at hP hD
    have hP9 := hP.sub (ws' := [(h0, .inr (7, [.ref t1, .ref t2, .ref t3, .ref ol])), (t1, .inl (cI, 3, .inl (if (0 ≤ i9.toInt ∧ i9.toInt < 3) then upd ua i9.toNatClampNeg x else ua))), (t2, .inl (cI, 3, .inl (if (0 ≤ i9.toInt ∧ i9.toInt < 3) then upd ub i9.toNatClampNeg y else ub))), (t3, .inl (cI, 3, .inl (if (0 ≤ i9.toInt ∧ i9.toInt < 3) then upd uc i9.toNatClampNeg v else uc)))]) [0, 1, 2, 3] rfl
    have hD9 := hD.sub (ws' := [(h0, .inr (7, [.ref t1, .ref t2, .ref t3, .ref ol])), (t1, .inl (cI, 3, .inl (if (0 ≤ i9.toInt ∧ i9.toInt < 3) then upd ua i9.toNatClampNeg x else ua))), (t2, .inl (cI, 3, .inl (if (0 ≤ i9.toInt ∧ i9.toInt < 3) then upd ub i9.toNatClampNeg y else ub))), (t3, .inl (cI, 3, .inl (if (0 ≤ i9.toInt ∧ i9.toInt < 3) then upd uc i9.toNatClampNeg v else uc)))]) [0, 1, 2, 3] (by decide) rfl
    have hK9 := hK.sub (tys' := [(cI, .int)]) [0] rfl
    refine hQ _ _ _ _ _ ?_
    exact W.vret hx hb hr (fun t ht hW => ⟨⟨(), rfl, trivial, ⟨by rw [ht]; exact hP9, va_K.moved hW.alike hK9, hD9⟩⟩, hS.F ht⟩) hS.2.2 dX7_place_31
  · skip
    have f_2 : ¬ (i9.toInt < 0) := fn_lt rfl (by decide) c_1
    refine lv_iload_n hx hb dX7_place_4 rfl (lv_at hl 1 rfl) ?_
    refine lv_iconst (v := 3) hx hb dX7_place_5 (by decide) ?_
    refine lv_icmp_ge (tgt := 31) hx hb dX7_place_6 (by decide) (fun c_3 => ?_) (fun c_3 => ?_)
    · skip
      have f_4 : 3 ≤ i9.toInt := f_le (by decide) rfl c_3
      have hc : ua = if (0 ≤ i9.toInt ∧ i9.toInt < 3) then upd ua i9.toNatClampNeg x else ua := (if_neg (by omega)).symm
      rw [hc] at hP hD
      have hc : ub = if (0 ≤ i9.toInt ∧ i9.toInt < 3) then upd ub i9.toNatClampNeg y else ub := (if_neg (by omega)).symm
      rw [hc] at hP hD
      have hc : uc = if (0 ≤ i9.toInt ∧ i9.toInt < 3) then upd uc i9.toNatClampNeg v else uc := (if_neg (by omega)).symm
      rw [hc] at hP hD
      have hP9 := hP.sub (ws' := [(h0, .inr (7, [.ref t1, .ref t2, .ref t3, .ref ol])), (t1, .inl (cI, 3, .inl (if (0 ≤ i9.toInt ∧ i9.toInt < 3) then upd ua i9.toNatClampNeg x else ua))), (t2, .inl (cI, 3, .inl (if (0 ≤ i9.toInt ∧ i9.toInt < 3) then upd ub i9.toNatClampNeg y else ub))), (t3, .inl (cI, 3, .inl (if (0 ≤ i9.toInt ∧ i9.toInt < 3) then upd uc i9.toNatClampNeg v else uc)))]) [0, 1, 2, 3] rfl
      have hD9 := hD.sub (ws' := [(h0, .inr (7, [.ref t1, .ref t2, .ref t3, .ref ol])), (t1, .inl (cI, 3, .inl (if (0 ≤ i9.toInt ∧ i9.toInt < 3) then upd ua i9.toNatClampNeg x else ua))), (t2, .inl (cI, 3, .inl (if (0 ≤ i9.toInt ∧ i9.toInt < 3) then upd ub i9.toNatClampNeg y else ub))), (t3, .inl (cI, 3, .inl (if (0 ≤ i9.toInt ∧ i9.toInt < 3) then upd uc i9.toNatClampNeg v else uc)))]) [0, 1, 2, 3] (by decide) rfl
      have hK9 := hK.sub (tys' := [(cI, .int)]) [0] rfl
      refine hQ _ _ _ _ _ ?_
      exact W.vret hx hb hr (fun t ht hW => ⟨⟨(), rfl, trivial, ⟨by rw [ht]; exact hP9, va_K.moved hW.alike hK9, hD9⟩⟩, hS.F ht⟩) hS.2.2 dX7_place_31
    · skip
      have f_4 : ¬ (3 ≤ i9.toInt) := fn_le (by decide) rfl c_3
      refine lv_aload_n hx hb dX7_place_9 rfl (lv_at hl 0 rfl) ?_
      refine va_get (D := D) (ci := 7) (v := .ref t1) (C := RX7) (T := TX7) (N := 4) hx hb hts hi_X7 hown hK hP 0 rfl rfl 0 (by decide) (hts _ bw_200) (fun _ h9 => h9) rfl dX7_place_10 ?_
      refine lv_iload_n hx hb dX7_place_13 rfl (lv_at hl 1 rfl) ?_
      refine lv_iload_n hx hb dX7_place_14 rfl (lv_at hl 2 rfl) ?_
      refine va_iast hx hb hK hP hD hS 1 0 rfl rfl (vp_in_iff.mpr ⟨by omega, by omega⟩) dX7_place_15 (fun H locs hP hD hS => ?_)
      have hP : va_P D vwCl [(h0, .inr (7, [.ref t1, .ref t2, .ref t3, .ref ol])), (t1, .inl (cI, 3, .inl (upd ua i9.toNatClampNeg x))), (t2, .inl (cI, 3, .inl ub)), (t3, .inl (cI, 3, .inl uc))] H := hP
      have hD : va_D A [(h0, .inr (7, [.ref t1, .ref t2, .ref t3, .ref ol])), (t1, .inl (cI, 3, .inl (upd ua i9.toNatClampNeg x))), (t2, .inl (cI, 3, .inl ub)), (t3, .inl (cI, 3, .inl uc))] := hD
      generalize eg_5 : upd ua i9.toNatClampNeg x = g_5 at hP hD
      have hP : va_P D vwCl [(h0, .inr (7, [.ref t1, .ref t2, .ref t3, .ref ol])), (t1, .inl (cI, 3, .inl g_5)), (t2, .inl (cI, 3, .inl ub)), (t3, .inl (cI, 3, .inl uc))] H := hP
      have hD : va_D A [(h0, .inr (7, [.ref t1, .ref t2, .ref t3, .ref ol])), (t1, .inl (cI, 3, .inl g_5)), (t2, .inl (cI, 3, .inl ub)), (t3, .inl (cI, 3, .inl uc))] := hD
      refine lv_aload_n hx hb dX7_place_16 rfl (lv_at hl 0 rfl) ?_
      refine va_get (D := D) (ci := 7) (v := .ref t2) (C := RX7) (T := TX7) (N := 4) hx hb hts hi_X7 hown hK hP 0 rfl rfl 1 (by decide) (hts _ bw_201) (fun _ h9 => h9) rfl dX7_place_17 ?_
      refine lv_iload_n hx hb dX7_place_20 rfl (lv_at hl 1 rfl) ?_
      refine lv_iload_n hx hb dX7_place_21 rfl (lv_at hl 3 rfl) ?_
      refine va_iast hx hb hK hP hD hS 2 0 rfl rfl (vp_in_iff.mpr ⟨by omega, by omega⟩) dX7_place_22 (fun H locs hP hD hS => ?_)
      have hP : va_P D vwCl [(h0, .inr (7, [.ref t1, .ref t2, .ref t3, .ref ol])), (t1, .inl (cI, 3, .inl g_5)), (t2, .inl (cI, 3, .inl (upd ub i9.toNatClampNeg y))), (t3, .inl (cI, 3, .inl uc))] H := hP
      have hD : va_D A [(h0, .inr (7, [.ref t1, .ref t2, .ref t3, .ref ol])), (t1, .inl (cI, 3, .inl g_5)), (t2, .inl (cI, 3, .inl (upd ub i9.toNatClampNeg y))), (t3, .inl (cI, 3, .inl uc))] := hD
      generalize eg_6 : upd ub i9.toNatClampNeg y = g_6 at hP hD
      have hP : va_P D vwCl [(h0, .inr (7, [.ref t1, .ref t2, .ref t3, .ref ol])), (t1, .inl (cI, 3, .inl g_5)), (t2, .inl (cI, 3, .inl g_6)), (t3, .inl (cI, 3, .inl uc))] H := hP
      have hD : va_D A [(h0, .inr (7, [.ref t1, .ref t2, .ref t3, .ref ol])), (t1, .inl (cI, 3, .inl g_5)), (t2, .inl (cI, 3, .inl g_6)), (t3, .inl (cI, 3, .inl uc))] := hD
      refine lv_aload_n hx hb dX7_place_23 rfl (lv_at hl 0 rfl) ?_
      refine va_get (D := D) (ci := 7) (v := .ref t3) (C := RX7) (T := TX7) (N := 4) hx hb hts hi_X7 hown hK hP 0 rfl rfl 2 (by decide) (hts _ bw_202) (fun _ h9 => h9) rfl dX7_place_24 ?_
      refine lv_iload_n hx hb dX7_place_27 rfl (lv_at hl 1 rfl) ?_
      refine lv_iload hx hb dX7_place_28 (lv_at hl 4 rfl) ?_
      refine va_iast hx hb hK hP hD hS 3 0 rfl rfl (vp_in_iff.mpr ⟨by omega, by omega⟩) dX7_place_30 (fun H locs hP hD hS => ?_)
      have hP : va_P D vwCl [(h0, .inr (7, [.ref t1, .ref t2, .ref t3, .ref ol])), (t1, .inl (cI, 3, .inl g_5)), (t2, .inl (cI, 3, .inl g_6)), (t3, .inl (cI, 3, .inl (upd uc i9.toNatClampNeg v)))] H := hP
      have hD : va_D A [(h0, .inr (7, [.ref t1, .ref t2, .ref t3, .ref ol])), (t1, .inl (cI, 3, .inl g_5)), (t2, .inl (cI, 3, .inl g_6)), (t3, .inl (cI, 3, .inl (upd uc i9.toNatClampNeg v)))] := hD
      generalize eg_7 : upd uc i9.toNatClampNeg v = g_7 at hP hD
      have hP : va_P D vwCl [(h0, .inr (7, [.ref t1, .ref t2, .ref t3, .ref ol])), (t1, .inl (cI, 3, .inl g_5)), (t2, .inl (cI, 3, .inl g_6)), (t3, .inl (cI, 3, .inl g_7))] H := hP
      have hD : va_D A [(h0, .inr (7, [.ref t1, .ref t2, .ref t3, .ref ol])), (t1, .inl (cI, 3, .inl g_5)), (t2, .inl (cI, 3, .inl g_6)), (t3, .inl (cI, 3, .inl g_7))] := hD
      have hc : g_5 = if (0 ≤ i9.toInt ∧ i9.toInt < 3) then upd ua i9.toNatClampNeg x else ua := by rw [if_pos (by omega), ← eg_5]
      rw [hc] at hP hD
      have hc : g_6 = if (0 ≤ i9.toInt ∧ i9.toInt < 3) then upd ub i9.toNatClampNeg y else ub := by rw [if_pos (by omega), ← eg_6]
      rw [hc] at hP hD
      have hc : g_7 = if (0 ≤ i9.toInt ∧ i9.toInt < 3) then upd uc i9.toNatClampNeg v else uc := by rw [if_pos (by omega), ← eg_7]
      rw [hc] at hP hD
      have hP9 := hP.sub (ws' := [(h0, .inr (7, [.ref t1, .ref t2, .ref t3, .ref ol])), (t1, .inl (cI, 3, .inl (if (0 ≤ i9.toInt ∧ i9.toInt < 3) then upd ua i9.toNatClampNeg x else ua))), (t2, .inl (cI, 3, .inl (if (0 ≤ i9.toInt ∧ i9.toInt < 3) then upd ub i9.toNatClampNeg y else ub))), (t3, .inl (cI, 3, .inl (if (0 ≤ i9.toInt ∧ i9.toInt < 3) then upd uc i9.toNatClampNeg v else uc)))]) [0, 1, 2, 3] rfl
      have hD9 := hD.sub (ws' := [(h0, .inr (7, [.ref t1, .ref t2, .ref t3, .ref ol])), (t1, .inl (cI, 3, .inl (if (0 ≤ i9.toInt ∧ i9.toInt < 3) then upd ua i9.toNatClampNeg x else ua))), (t2, .inl (cI, 3, .inl (if (0 ≤ i9.toInt ∧ i9.toInt < 3) then upd ub i9.toNatClampNeg y else ub))), (t3, .inl (cI, 3, .inl (if (0 ≤ i9.toInt ∧ i9.toInt < 3) then upd uc i9.toNatClampNeg v else uc)))]) [0, 1, 2, 3] (by decide) rfl
      have hK9 := hK.sub (tys' := [(cI, .int)]) [0] rfl
      refine hQ _ _ _ _ _ ?_
      exact W.vret hx hb hr (fun t ht hW => ⟨⟨(), rfl, trivial, ⟨by rw [ht]; exact hP9, va_K.moved hW.alike hK9, hD9⟩⟩, hS.F ht⟩) hS.2.2 dX7_place_31

set_option maxHeartbeats 4000000 in
set_option maxRecDepth 100000 in
theorem k_X7_areaFrom (l : Launch) (D : va_G) (sz : Nat) (h0 : Nat) (t1 t2 t3 ol : Nat) (ua : Nat → Int32) (ub : Nat → Int32) (x y b9 c9 : Int32) (cI : ClassId) (hb9 : 0 ≤ b9.toInt ∧ b9.toInt < 3) (hc9 : 0 ≤ c9.toInt ∧ c9.toInt < 3) : Met l yX7_areaFrom (wB yX7_areaFrom cX7_areaFrom 9 (some .int)) ({ frames := 1, cells := 0, slots := 0, locals := 13 }) (cP D [(h0, .inr (7, [.ref t1, .ref t2, .ref t3, .ref ol])), (t1, .inl (cI, 3, .inl ua)), (t2, .inl (cI, 3, .inl ub))] [(cI, .int)] sz [.ref h0, .int x, .int y, .int b9, .int c9]) (va_Qi (fun (r : Int32) (_ : Unit) => r = arP (ua b9.toNatClampNeg) (ub b9.toNatClampNeg) (ua c9.toNatClampNeg) (ub c9.toNatClampNeg) x y) (fun (_ : Unit) (t : State) => cB D (va_A [(h0, .inr (7, [.ref t1, .ref t2, .ref t3, .ref ol])), (t1, .inl (cI, 3, .inl ua)), (t2, .inl (cI, 3, .inl ub))] sz) [(h0, .inr (7, [.ref t1, .ref t2, .ref t3, .ref ol])), (t1, .inl (cI, 3, .inl ua)), (t2, .inl (cI, 3, .inl ub))] [(cI, .int)] t) (va_A [(h0, .inr (7, [.ref t1, .ref t2, .ref t3, .ref ol])), (t1, .inl (cI, 3, .inl ua)), (t2, .inl (cI, 3, .inl ub))] sz)) 0 0 (va_A [(h0, .inr (7, [.ref t1, .ref t2, .ref t3, .ref ol])), (t1, .inl (cI, 3, .inl ua)), (t2, .inl (cI, 3, .inl ub))] sz) := by
  refine Met.ofW (cc := cX7_areaFrom) (maxL := 9) (ret := (some .int)) (by decide) rfl ?_
  intro p e s m args below meth c s₁ B hml hv
  obtain ⟨rfl, hsz, hP, hK, hD0, hN⟩ := hv
  have hx := B.exec
  have hb := B.bytes
  have hr := B.returns
  have hts0 := atoms_spec (ws := (wB yX7_areaFrom cX7_areaFrom 9 (some .int))) B.pre
  have hts : ∀ w ∈ bigW, w.before _ s = true := fun w h => hts0 w (List.mem_cons_of_mem _ h)
  have hown : s.vm.findClass RX7 = some m.cls := findClass_of_methodNamed B.named
  have hlocks := B.notSynchronized
  subst hsz
  have hD := hD0.self (sz := s.heap.size)
  generalize hAe : va_A [(h0, .inr (7, [.ref t1, .ref t2, .ref t3, .ref ol])), (t1, .inl (cI, 3, .inl ua)), (t2, .inl (cI, 3, .inl ub))] s.heap.size = A at hD ⊢
  have hA : ∀ q : Nat, s.heap.size ≤ q → A q := fun q h => by rw [← hAe]; exact Or.inr h
  have hS : va_S A s.heap s.heap [] := va_S.rf
  have hP : va_P D vwCl [(h0, .inr (7, [.ref t1, .ref t2, .ref t3, .ref ol])), (t1, .inl (cI, 3, .inl ua)), (t2, .inl (cI, 3, .inl ub))] s.heap := hP
  have hl := lv_entry ([.ref h0, .int x, .int y, .int b9, .int c9]) (n := 9) (Nat.le_of_ble_eq_true rfl)
  rw [lg_entry_eq]
  generalize (lg_sl ([.ref h0, .int x, .int y, .int b9, .int c9]) ++ List.replicate (9 - (lg_sl ([.ref h0, .int x, .int y, .int b9, .int c9])).length) Slot.unset).toArray = ls at hl ⊢
  have hl : lv_has ls 9 [(0, .ref h0), (1, .int x), (2, .int y), (3, .int b9), (4, .int c9)] := hl
  clear hts0 hD0 hAe
  refine my_abs (fun R Q hR hQ => ?_)
  refine lv_iconst (v := 2) hx hb dX7_areaFrom_0 (by decide) ?_
  refine lv_aload_n hx hb dX7_areaFrom_1 rfl (lv_at hl 0 rfl) ?_
  refine va_get (D := D) (ci := 7) (v := .ref t1) (C := RX7) (T := TX7) (N := 4) hx hb hts hi_X7 hown hK hP 0 rfl rfl 0 (by decide) (hts _ bw_200) (fun _ h9 => h9) rfl dX7_areaFrom_2 ?_
  refine lv_iload_n hx hb dX7_areaFrom_5 rfl (lv_at hl 3 rfl) ?_
  refine va_iald hx hb hK hP 1 0 rfl rfl (vp_in_iff.mpr ⟨by omega, by omega⟩) dX7_areaFrom_6 ?_
  refine lv_imul hx hb dX7_areaFrom_7 ?_
  refine lv_topi (fun y_1 ey_1 => ?_)
  refine lv_iconst (v := 2) hx hb dX7_areaFrom_8 (by decide) ?_
  refine lv_iload_n hx hb dX7_areaFrom_9 rfl (lv_at hl 1 rfl) ?_
  refine lv_imul hx hb dX7_areaFrom_10 ?_
  refine lv_topi (fun y_2 ey_2 => ?_)
  refine lv_iconst (v := 1) hx hb dX7_areaFrom_11 (by decide) ?_
  refine lv_iadd hx hb dX7_areaFrom_12 ?_
  refine lv_topi (fun y_3 ey_3 => ?_)
  refine lv_isub hx hb dX7_areaFrom_13 ?_
  refine lv_topi (fun y_4 ey_4 => ?_)
  refine lv_istore (lv' := [(5, .int y_4), (0, .ref h0), (1, .int x), (2, .int y), (3, .int b9), (4, .int c9)]) hx hb dX7_areaFrom_14 hl (by decide) rfl (fun ls hl => ?_)
  refine lv_iconst (v := 2) hx hb dX7_areaFrom_16 (by decide) ?_
  refine lv_aload_n hx hb dX7_areaFrom_17 rfl (lv_at hl 1 rfl) ?_
  refine va_get (D := D) (ci := 7) (v := .ref t2) (C := RX7) (T := TX7) (N := 4) hx hb hts hi_X7 hown hK hP 0 rfl rfl 1 (by decide) (hts _ bw_201) (fun _ h9 => h9) rfl dX7_areaFrom_18 ?_
  refine lv_iload_n hx hb dX7_areaFrom_21 rfl (lv_at hl 4 rfl) ?_
  refine va_iald hx hb hK hP 2 0 rfl rfl (vp_in_iff.mpr ⟨by omega, by omega⟩) dX7_areaFrom_22 ?_
  refine lv_imul hx hb dX7_areaFrom_23 ?_
  refine lv_topi (fun y_5 ey_5 => ?_)
  refine lv_iconst (v := 2) hx hb dX7_areaFrom_24 (by decide) ?_
  refine lv_iload_n hx hb dX7_areaFrom_25 rfl (lv_at hl 3 rfl) ?_
  refine lv_imul hx hb dX7_areaFrom_26 ?_
  refine lv_topi (fun y_6 ey_6 => ?_)
  refine lv_iconst (v := 1) hx hb dX7_areaFrom_27 (by decide) ?_
  refine lv_iadd hx hb dX7_areaFrom_28 ?_
  refine lv_topi (fun y_7 ey_7 => ?_)
  refine lv_isub hx hb dX7_areaFrom_29 ?_
  refine lv_topi (fun y_8 ey_8 => ?_)
  refine lv_istore (lv' := [(6, .int y_8), (5, .int y_4), (0, .ref h0), (1, .int x), (2, .int y), (3, .int b9), (4, .int c9)]) hx hb dX7_areaFrom_30 hl (by decide) rfl (fun ls hl => ?_)
  refine lv_iconst (v := 2) hx hb dX7_areaFrom_32 (by decide) ?_
  refine lv_aload_n hx hb dX7_areaFrom_33 rfl (lv_at hl 2 rfl) ?_
  refine va_get (D := D) (ci := 7) (v := .ref t1) (C := RX7) (T := TX7) (N := 4) hx hb hts hi_X7 hown hK hP 0 rfl rfl 0 (by decide) (hts _ bw_200) (fun _ h9 => h9) rfl dX7_areaFrom_34 ?_
  refine lv_iload hx hb dX7_areaFrom_37 (lv_at hl 6 rfl) ?_
  refine va_iald hx hb hK hP 1 0 rfl rfl (vp_in_iff.mpr ⟨by omega, by omega⟩) dX7_areaFrom_39 ?_
  refine lv_imul hx hb dX7_areaFrom_40 ?_
  refine lv_topi (fun y_9 ey_9 => ?_)
  refine lv_iconst (v := 2) hx hb dX7_areaFrom_41 (by decide) ?_
  refine lv_iload_n hx hb dX7_areaFrom_42 rfl (lv_at hl 3 rfl) ?_
  refine lv_imul hx hb dX7_areaFrom_43 ?_
  refine lv_topi (fun y_10 ey_10 => ?_)
  refine lv_iconst (v := 1) hx hb dX7_areaFrom_44 (by decide) ?_
  refine lv_iadd hx hb dX7_areaFrom_45 ?_
  refine lv_topi (fun y_11 ey_11 => ?_)
  refine lv_isub hx hb dX7_areaFrom_46 ?_
  refine lv_topi (fun y_12 ey_12 => ?_)
  refine lv_istore (lv' := [(7, .int y_12), (6, .int y_8), (5, .int y_4), (0, .ref h0), (1, .int x), (2, .int y), (3, .int b9), (4, .int c9)]) hx hb dX7_areaFrom_47 hl (by decide) rfl (fun ls hl => ?_)
  refine lv_iconst (v := 2) hx hb dX7_areaFrom_49 (by decide) ?_
  refine lv_aload_n hx hb dX7_areaFrom_50 rfl (lv_at hl 3 rfl) ?_
  refine va_get (D := D) (ci := 7) (v := .ref t2) (C := RX7) (T := TX7) (N := 4) hx hb hts hi_X7 hown hK hP 0 rfl rfl 1 (by decide) (hts _ bw_201) (fun _ h9 => h9) rfl dX7_areaFrom_51 ?_
  refine lv_iload hx hb dX7_areaFrom_54 (lv_at hl 7 rfl) ?_
  refine va_iald hx hb hK hP 2 0 rfl rfl (vp_in_iff.mpr ⟨by omega, by omega⟩) dX7_areaFrom_56 ?_
  refine lv_imul hx hb dX7_areaFrom_57 ?_
  refine lv_topi (fun y_13 ey_13 => ?_)
  refine lv_iconst (v := 2) hx hb dX7_areaFrom_58 (by decide) ?_
  refine lv_iload_n hx hb dX7_areaFrom_59 rfl (lv_at hl 5 rfl) ?_
  refine lv_imul hx hb dX7_areaFrom_60 ?_
  refine lv_topi (fun y_14 ey_14 => ?_)
  refine lv_iconst (v := 1) hx hb dX7_areaFrom_61 (by decide) ?_
  refine lv_iadd hx hb dX7_areaFrom_62 ?_
  refine lv_topi (fun y_15 ey_15 => ?_)
  refine lv_isub hx hb dX7_areaFrom_63 ?_
  refine lv_topi (fun y_16 ey_16 => ?_)
  refine lv_istore (lv' := [(8, .int y_16), (7, .int y_12), (6, .int y_8), (5, .int y_4), (0, .ref h0), (1, .int x), (2, .int y), (3, .int b9), (4, .int c9)]) hx hb dX7_areaFrom_64 hl (by decide) rfl (fun ls hl => ?_)
  refine lv_iload hx hb dX7_areaFrom_66 (lv_at hl 3 rfl) ?_
  refine lv_iload hx hb dX7_areaFrom_68 (lv_at hl 0 rfl) ?_
  refine lv_imul hx hb dX7_areaFrom_70 ?_
  refine lv_topi (fun y_17 ey_17 => ?_)
  refine lv_iload hx hb dX7_areaFrom_71 (lv_at hl 2 rfl) ?_
  refine lv_iload hx hb dX7_areaFrom_73 (lv_at hl 1 rfl) ?_
  refine lv_imul hx hb dX7_areaFrom_75 ?_
  refine lv_topi (fun y_18 ey_18 => ?_)
  refine lv_isub hx hb dX7_areaFrom_76 ?_
  refine lv_topi (fun y_19 ey_19 => ?_)
  refine va_mabs hx hb (by rw [hml]; exact hl.1.symm) hown (hts _ bw_220) (hts _ bw_221) (hts _ bw_47) (hts _ bw_222) (by rw [hR]; exact Nat.le_of_ble_eq_true rfl) (by rw [hR]; exact Nat.le_of_ble_eq_true rfl) (by rw [hR]; exact Nat.le_of_ble_eq_true rfl) (by rw [hR]; exact Nat.le_of_ble_eq_true rfl) dX7_areaFrom_77 ?_
  refine lv_topi (fun y_20 ey_20 => ?_)
  have hP9 := hP.sub (ws' := [(h0, .inr (7, [.ref t1, .ref t2, .ref t3, .ref ol])), (t1, .inl (cI, 3, .inl ua)), (t2, .inl (cI, 3, .inl ub))]) [0, 1, 2] rfl
  have hD9 := hD.sub (ws' := [(h0, .inr (7, [.ref t1, .ref t2, .ref t3, .ref ol])), (t1, .inl (cI, 3, .inl ua)), (t2, .inl (cI, 3, .inl ub))]) [0, 1, 2] (by decide) rfl
  have hK9 := hK.sub (tys' := [(cI, .int)]) [0] rfl
  refine hQ _ _ _ _ _ ?_
  exact W.iret (v := y_20) hx hb hr (fun t ht hW => ⟨⟨y_20, (), rfl, (by subst_vars; rfl), ⟨by rw [ht]; exact hP9, va_K.moved hW.alike hK9, hD9⟩⟩, hS.F ht⟩) hS.2.2 dX7_areaFrom_80
