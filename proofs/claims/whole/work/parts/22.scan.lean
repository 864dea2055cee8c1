set_option maxHeartbeats 4000000 in
set_option maxRecDepth 100000 in
theorem k_X8_isIn (l : Launch) (D : va_G) (sz : Nat) (n ru : Int32) : Met l yX8_isIn (wB yX8_isIn cX8_isIn 2 (some .boolean)) ({ frames := 0, cells := 0, slots := 0, locals := 0 }) (cP D [] [] sz [.int n, .int ru]) (va_Qi (fun (r : Int32) (_ : Unit) => r = if (if ru = 0 then n &&& 1 = 1 else ¬ n = 0) then 1 else 0) (fun (_ : Unit) (_ : State) => True) (va_A [] sz)) 0 0 (va_A [] sz) := by
  refine Met.ofW (cc := cX8_isIn) (maxL := 2) (ret := (some .boolean)) (by decide) rfl ?_
  intro p e s m args below meth c s₁ B hml hv
  obtain ⟨rfl, hsz, hP, hK, hD0, hN⟩ := hv
  have hx := B.exec
  have hb := B.bytes
  have hr := B.returns
  have hts0 := atoms_spec (ws := (wB yX8_isIn cX8_isIn 2 (some .boolean))) B.pre
  have hts : ∀ w ∈ bigW, w.before _ s = true := fun w h => hts0 w (List.mem_cons_of_mem _ h)
  have hown : s.vm.findClass RX8 = some m.cls := findClass_of_methodNamed B.named
  have hlocks := B.notSynchronized
  subst hsz
  have hD := hD0.self (sz := s.heap.size)
  generalize hAe : va_A [] s.heap.size = A at hD ⊢
  have hA : ∀ q : Nat, s.heap.size ≤ q → A q := fun q h => by rw [← hAe]; exact Or.inr h
  have hS : va_S A s.heap s.heap [] := va_S.rf
  have hP : va_P D vwCl [] s.heap := hP
  have hl := lv_entry ([.int n, .int ru]) (n := 2) (Nat.le_of_ble_eq_true rfl)
  rw [lg_entry_eq]
  generalize (lg_sl ([.int n, .int ru]) ++ List.replicate (2 - (lg_sl ([.int n, .int ru])).length) Slot.unset).toArray = ls at hl ⊢
  have hl : lv_has ls 2 [(0, .int n), (1, .int ru)] := hl
  clear hts0 hD0 hAe
  refine my_abs (fun R Q hR hQ => ?_)
  refine lv_iload_n hx hb dX8_isIn_0 rfl (lv_at hl 1 rfl) ?_
  refine lv_if_ne (tgt := 19) hx hb dX8_isIn_1 (by decide) (fun c_1 => ?_) (fun c_1 => ?_)
  · skip
    have f_2 : ¬ (ru.toInt = 0) := fn_eq rfl (by decide) c_1
    refine lv_iload_n hx hb dX8_isIn_19 rfl (lv_at hl 0 rfl) ?_
    refine lv_if_eq (tgt := 27) hx hb dX8_isIn_20 (by decide) (fun c_3 => ?_) (fun c_3 => ?_)
    · skip
      have f_4 : n.toInt = 0 := f_eq rfl (by decide) c_3
      refine lv_iconst (v := 0) hx hb dX8_isIn_27 (by decide) ?_
      refine hQ _ _ _ _ _ ?_
      exact W.zret (v := 0) hx hb hr rfl (fun t ht hW => ⟨⟨0, (), rfl, (by simp only [if_neg c_1]; exact (if_neg (fun q => q c_3)).symm), trivial⟩, hS.F ht⟩) hS.2.2 dX8_isIn_28
    · skip
      have f_4 : ¬ (n.toInt = 0) := fn_eq rfl (by decide) c_3
      refine lv_iconst (v := 1) hx hb dX8_isIn_23 (by decide) ?_
      refine lv_goto (tgt := 28) hx hb dX8_isIn_24 (by decide) ?_
      refine hQ _ _ _ _ _ ?_
      exact W.zret (v := 1) hx hb hr rfl (fun t ht hW => ⟨⟨1, (), rfl, (by simp only [if_neg c_1]; exact (if_pos c_3).symm), trivial⟩, hS.F ht⟩) hS.2.2 dX8_isIn_28
  · skip
    have f_2 : ru.toInt = 0 := f_eq rfl (by decide) c_1
    refine lv_iload_n hx hb dX8_isIn_4 rfl (lv_at hl 0 rfl) ?_
    refine lv_iconst (v := 1) hx hb dX8_isIn_5 (by decide) ?_
    refine lv_iand hx hb dX8_isIn_6 ?_
    refine lv_topi (fun y_5 ey_5 => ?_)
    refine lv_iconst (v := 1) hx hb dX8_isIn_7 (by decide) ?_
    refine lv_icmp_ne (tgt := 15) hx hb dX8_isIn_8 (by decide) (fun c_6 => ?_) (fun c_6 => ?_)
    · skip
      have f_7 : ¬ (y_5.toInt = 1) := fn_eq rfl (by decide) c_6
      have hq : ¬ n &&& 1 = 1 := by rw [← ey_5]; exact c_6
      refine lv_iconst (v := 0) hx hb dX8_isIn_15 (by decide) ?_
      refine lv_goto (tgt := 28) hx hb dX8_isIn_16 (by decide) ?_
      refine hQ _ _ _ _ _ ?_
      exact W.zret (v := 0) hx hb hr rfl (fun t ht hW => ⟨⟨0, (), rfl, (by simp only [if_pos c_1]; exact (if_neg hq).symm), trivial⟩, hS.F ht⟩) hS.2.2 dX8_isIn_28
    · skip
      have f_7 : y_5.toInt = 1 := f_eq rfl (by decide) c_6
      have hq : n &&& 1 = 1 := by rw [← ey_5]; exact c_6
      refine lv_iconst (v := 1) hx hb dX8_isIn_11 (by decide) ?_
      refine lv_goto (tgt := 28) hx hb dX8_isIn_12 (by decide) ?_
      refine hQ _ _ _ _ _ ?_
      exact W.zret (v := 1) hx hb hr rfl (fun t ht hW => ⟨⟨1, (), rfl, (by simp only [if_pos c_1]; exact (if_pos hq).symm), trivial⟩, hS.F ht⟩) hS.2.2 dX8_isIn_28

set_option maxHeartbeats 4000000 in
set_option maxRecDepth 100000 in
theorem k_X4_coveredAt (l : Launch) (D : va_G) (sz : Nat) (h0 : Nat) (w1 w2 : Nat) (gc : Nat → Int32) (x : Int32) (cI : ClassId) : Met l yX4_coveredAt (wB yX4_coveredAt cX4_coveredAt 2 (some .int)) ({ frames := 0, cells := 0, slots := 0, locals := 0 }) (cP D [(h0, .inr (4, [.ref w1, .ref w2])), (w2, .inl (cI, 64, .inl gc))] [(cI, .int)] sz [.ref h0, .int x]) (va_Qi (fun (r : Int32) (_ : Unit) => r = if 0 ≤ x.toInt ∧ x.toInt < 64 then gc x.toNatClampNeg else 0) (fun (_ : Unit) (t : State) => cB D (va_A [(h0, .inr (4, [.ref w1, .ref w2])), (w2, .inl (cI, 64, .inl gc))] sz) [(h0, .inr (4, [.ref w1, .ref w2])), (w2, .inl (cI, 64, .inl gc))] [(cI, .int)] t) (va_A [(h0, .inr (4, [.ref w1, .ref w2])), (w2, .inl (cI, 64, .inl gc))] sz)) 0 0 (va_A [(h0, .inr (4, [.ref w1, .ref w2])), (w2, .inl (cI, 64, .inl gc))] sz) := by
  refine Met.ofW (cc := cX4_coveredAt) (maxL := 2) (ret := (some .int)) (by decide) rfl ?_
  intro p e s m args below meth c s₁ B hml hv
  obtain ⟨rfl, hsz, hP, hK, hD0, hN⟩ := hv
  have hx := B.exec
  have hb := B.bytes
  have hr := B.returns
  have hts0 := atoms_spec (ws := (wB yX4_coveredAt cX4_coveredAt 2 (some .int))) B.pre
  have hts : ∀ w ∈ bigW, w.before _ s = true := fun w h => hts0 w (List.mem_cons_of_mem _ h)
  have hown : s.vm.findClass RX4 = some m.cls := findClass_of_methodNamed B.named
  have hlocks := B.notSynchronized
  subst hsz
  have hD := hD0.self (sz := s.heap.size)
  generalize hAe : va_A [(h0, .inr (4, [.ref w1, .ref w2])), (w2, .inl (cI, 64, .inl gc))] s.heap.size = A at hD ⊢
  have hA : ∀ q : Nat, s.heap.size ≤ q → A q := fun q h => by rw [← hAe]; exact Or.inr h
  have hS : va_S A s.heap s.heap [] := va_S.rf
  have hP : va_P D vwCl [(h0, .inr (4, [.ref w1, .ref w2])), (w2, .inl (cI, 64, .inl gc))] s.heap := hP
  have hl := lv_entry ([.ref h0, .int x]) (n := 2) (Nat.le_of_ble_eq_true rfl)
  rw [lg_entry_eq]
  generalize (lg_sl ([.ref h0, .int x]) ++ List.replicate (2 - (lg_sl ([.ref h0, .int x])).length) Slot.unset).toArray = ls at hl ⊢
  have hl : lv_has ls 2 [(0, .ref h0), (1, .int x)] := hl
  clear hts0 hD0 hAe
  refine my_abs (fun R Q hR hQ => ?_)
  refine lv_iload_n hx hb dX4_coveredAt_0 rfl (lv_at hl 1 rfl) ?_
  refine lv_if_lt (tgt := 19) hx hb dX4_coveredAt_1 (by decide) (fun c_1 => ?_) (fun c_1 => ?_)
  · skip
    have f_2 : x.toInt < 0 := f_lt rfl (by decide) c_1
    refine lv_iconst (v := 0) hx hb dX4_coveredAt_19 (by decide) ?_
    have hP9 := hP.sub (ws' := [(h0, .inr (4, [.ref w1, .ref w2])), (w2, .inl (cI, 64, .inl gc))]) [0, 1] rfl
    have hD9 := hD.sub (ws' := [(h0, .inr (4, [.ref w1, .ref w2])), (w2, .inl (cI, 64, .inl gc))]) [0, 1] (by decide) rfl
    have hK9 := hK.sub (tys' := [(cI, .int)]) [0] rfl
    refine hQ _ _ _ _ _ ?_
    exact W.iret (v := 0) hx hb hr (fun t ht hW => ⟨⟨0, (), rfl, (if_neg (by omega)).symm, ⟨by rw [ht]; exact hP9, va_K.moved hW.alike hK9, hD9⟩⟩, hS.F ht⟩) hS.2.2 dX4_coveredAt_20
  · skip
    have f_2 : ¬ (x.toInt < 0) := fn_lt rfl (by decide) c_1
    refine lv_iload_n hx hb dX4_coveredAt_4 rfl (lv_at hl 1 rfl) ?_
    refine lv_bipush (v := 64) hx hb dX4_coveredAt_5 (by decide) ?_
    refine lv_icmp_ge (tgt := 19) hx hb dX4_coveredAt_7 (by decide) (fun c_3 => ?_) (fun c_3 => ?_)
    · skip
      have f_4 : 64 ≤ x.toInt := f_le (by decide) rfl c_3
      refine lv_iconst (v := 0) hx hb dX4_coveredAt_19 (by decide) ?_
      have hP9 := hP.sub (ws' := [(h0, .inr (4, [.ref w1, .ref w2])), (w2, .inl (cI, 64, .inl gc))]) [0, 1] rfl
      have hD9 := hD.sub (ws' := [(h0, .inr (4, [.ref w1, .ref w2])), (w2, .inl (cI, 64, .inl gc))]) [0, 1] (by decide) rfl
      have hK9 := hK.sub (tys' := [(cI, .int)]) [0] rfl
      refine hQ _ _ _ _ _ ?_
      exact W.iret (v := 0) hx hb hr (fun t ht hW => ⟨⟨0, (), rfl, (if_neg (by omega)).symm, ⟨by rw [ht]; exact hP9, va_K.moved hW.alike hK9, hD9⟩⟩, hS.F ht⟩) hS.2.2 dX4_coveredAt_20
    · skip
      have f_4 : ¬ (64 ≤ x.toInt) := fn_le (by decide) rfl c_3
      refine lv_aload_n hx hb dX4_coveredAt_10 rfl (lv_at hl 0 rfl) ?_
      refine va_get (D := D) (ci := 4) (v := .ref w2) (C := RX4) (T := TX4) (N := 2) hx hb hts hi_X4 hown hK hP 0 rfl rfl 1 (by decide) (hts _ bw_117) (fun _ h9 => h9) rfl dX4_coveredAt_11 ?_
      refine lv_iload_n hx hb dX4_coveredAt_14 rfl (lv_at hl 1 rfl) ?_
      refine va_iald hx hb hK hP 1 0 rfl rfl (vp_in_iff.mpr ⟨by omega, by omega⟩) dX4_coveredAt_15 ?_
      refine lv_goto (tgt := 20) hx hb dX4_coveredAt_16 (by decide) ?_
      have hP9 := hP.sub (ws' := [(h0, .inr (4, [.ref w1, .ref w2])), (w2, .inl (cI, 64, .inl gc))]) [0, 1] rfl
      have hD9 := hD.sub (ws' := [(h0, .inr (4, [.ref w1, .ref w2])), (w2, .inl (cI, 64, .inl gc))]) [0, 1] (by decide) rfl
      have hK9 := hK.sub (tys' := [(cI, .int)]) [0] rfl
      refine hQ _ _ _ _ _ ?_
      exact W.iret (v := gc x.toNatClampNeg) hx hb hr (fun t ht hW => ⟨⟨gc x.toNatClampNeg, (), rfl, (if_pos (by omega)).symm, ⟨by rw [ht]; exact hP9, va_K.moved hW.alike hK9, hD9⟩⟩, hS.F ht⟩) hS.2.2 dX4_coveredAt_20
