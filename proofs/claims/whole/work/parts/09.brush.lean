set_option maxHeartbeats 4000000 in
set_option maxRecDepth 100000 in
theorem k_X0_holds (l : Launch) (D : va_G) (sz : Nat) (h0 : Nat) (bx0 by0 bx1 by1 : Int32) (x y : Int32) : Met l yX0_holds (wB yX0_holds cX0_holds 3 (some .boolean)) ({ frames := 0, cells := 0, slots := 0, locals := 0 }) (cP D [(h0, .inr (0, [.int bx0, .int by0, .int bx1, .int by1]))] [] sz [.ref h0, .int x, .int y]) (va_Qi (fun (r : Int32) (_ : Unit) => r = if bx0.toInt ≤ x.toInt ∧ x.toInt ≤ bx1.toInt ∧ by0.toInt ≤ y.toInt ∧ y.toInt ≤ by1.toInt then 1 else 0) (fun (_ : Unit) (t : State) => cB D (va_A [(h0, .inr (0, [.int bx0, .int by0, .int bx1, .int by1]))] sz) [(h0, .inr (0, [.int bx0, .int by0, .int bx1, .int by1]))] [] t) (va_A [(h0, .inr (0, [.int bx0, .int by0, .int bx1, .int by1]))] sz)) 0 0 (va_A [(h0, .inr (0, [.int bx0, .int by0, .int bx1, .int by1]))] sz) := by
  refine Met.ofW (cc := cX0_holds) (maxL := 3) (ret := (some .boolean)) (by decide) rfl ?_
  intro p e s m args below meth c s₁ B hml hv
  obtain ⟨rfl, hsz, hP, hK, hD0, hN⟩ := hv
  have hx := B.exec
  have hb := B.bytes
  have hr := B.returns
  have hts0 := atoms_spec (ws := (wB yX0_holds cX0_holds 3 (some .boolean))) B.pre
  have hts : ∀ w ∈ bigW, w.before _ s = true := fun w h => hts0 w (List.mem_cons_of_mem _ h)
  have hown : s.vm.findClass RX0 = some m.cls := findClass_of_methodNamed B.named
  have hlocks := B.notSynchronized
  subst hsz
  have hD := hD0.self (sz := s.heap.size)
  generalize hAe : va_A [(h0, .inr (0, [.int bx0, .int by0, .int bx1, .int by1]))] s.heap.size = A at hD ⊢
  have hA : ∀ q : Nat, s.heap.size ≤ q → A q := fun q h => by rw [← hAe]; exact Or.inr h
  have hS : va_S A s.heap s.heap [] := va_S.rf
  have hP : va_P D vwCl [(h0, .inr (0, [.int bx0, .int by0, .int bx1, .int by1]))] s.heap := hP
  have hl := lv_entry ([.ref h0, .int x, .int y]) (n := 3) (Nat.le_of_ble_eq_true rfl)
  rw [lg_entry_eq]
  generalize (lg_sl ([.ref h0, .int x, .int y]) ++ List.replicate (3 - (lg_sl ([.ref h0, .int x, .int y])).length) Slot.unset).toArray = ls at hl ⊢
  have hl : lv_has ls 3 [(0, .ref h0), (1, .int x), (2, .int y)] := hl
  clear hts0 hD0 hAe
  refine my_abs (fun R Q hR hQ => ?_)
  refine lv_iload_n hx hb dX0_holds_0 rfl (lv_at hl 1 rfl) ?_
  refine lv_aload_n hx hb dX0_holds_1 rfl (lv_at hl 0 rfl) ?_
  refine va_get (D := D) (ci := 0) (v := .int bx0) (C := RX0) (T := TX0) (N := 4) hx hb hts hi_X0 hown hK hP 0 rfl rfl 0 (by decide) (hts _ bw_9) (fun _ h9 => h9) rfl dX0_holds_2 ?_
  refine lv_icmp_lt (tgt := 36) hx hb dX0_holds_5 (by decide) (fun c_1 => ?_) (fun c_1 => ?_)
  · skip
    have f_2 : x.toInt < bx0.toInt := f_lt rfl rfl c_1
    refine lv_iconst (v := 0) hx hb dX0_holds_36 (by decide) ?_
    have hP9 := hP.sub (ws' := [(h0, .inr (0, [.int bx0, .int by0, .int bx1, .int by1]))]) [0] rfl
    have hD9 := hD.sub (ws' := [(h0, .inr (0, [.int bx0, .int by0, .int bx1, .int by1]))]) [0] (by decide) rfl
    have hK9 := hK.sub (tys' := []) [] rfl
    refine hQ _ _ _ _ _ ?_
    exact W.zret (v := 0) hx hb hr rfl (fun t ht hW => ⟨⟨0, (), rfl, (if_neg (by omega)).symm, ⟨by rw [ht]; exact hP9, va_K.moved hW.alike hK9, hD9⟩⟩, hS.F ht⟩) hS.2.2 dX0_holds_37
  · skip
    have f_2 : ¬ (x.toInt < bx0.toInt) := fn_lt rfl rfl c_1
    refine lv_iload_n hx hb dX0_holds_8 rfl (lv_at hl 1 rfl) ?_
    refine lv_aload_n hx hb dX0_holds_9 rfl (lv_at hl 0 rfl) ?_
    refine va_get (D := D) (ci := 0) (v := .int bx1) (C := RX0) (T := TX0) (N := 4) hx hb hts hi_X0 hown hK hP 0 rfl rfl 2 (by decide) (hts _ bw_11) (fun _ h9 => h9) rfl dX0_holds_10 ?_
    refine lv_icmp_gt (tgt := 36) hx hb dX0_holds_13 (by decide) (fun c_3 => ?_) (fun c_3 => ?_)
    · skip
      have f_4 : bx1.toInt < x.toInt := f_lt rfl rfl c_3
      refine lv_iconst (v := 0) hx hb dX0_holds_36 (by decide) ?_
      have hP9 := hP.sub (ws' := [(h0, .inr (0, [.int bx0, .int by0, .int bx1, .int by1]))]) [0] rfl
      have hD9 := hD.sub (ws' := [(h0, .inr (0, [.int bx0, .int by0, .int bx1, .int by1]))]) [0] (by decide) rfl
      have hK9 := hK.sub (tys' := []) [] rfl
      refine hQ _ _ _ _ _ ?_
      exact W.zret (v := 0) hx hb hr rfl (fun t ht hW => ⟨⟨0, (), rfl, (if_neg (by omega)).symm, ⟨by rw [ht]; exact hP9, va_K.moved hW.alike hK9, hD9⟩⟩, hS.F ht⟩) hS.2.2 dX0_holds_37
    · skip
      have f_4 : ¬ (bx1.toInt < x.toInt) := fn_lt rfl rfl c_3
      refine lv_iload_n hx hb dX0_holds_16 rfl (lv_at hl 2 rfl) ?_
      refine lv_aload_n hx hb dX0_holds_17 rfl (lv_at hl 0 rfl) ?_
      refine va_get (D := D) (ci := 0) (v := .int by0) (C := RX0) (T := TX0) (N := 4) hx hb hts hi_X0 hown hK hP 0 rfl rfl 1 (by decide) (hts _ bw_10) (fun _ h9 => h9) rfl dX0_holds_18 ?_
      refine lv_icmp_lt (tgt := 36) hx hb dX0_holds_21 (by decide) (fun c_5 => ?_) (fun c_5 => ?_)
      · skip
        have f_6 : y.toInt < by0.toInt := f_lt rfl rfl c_5
        refine lv_iconst (v := 0) hx hb dX0_holds_36 (by decide) ?_
        have hP9 := hP.sub (ws' := [(h0, .inr (0, [.int bx0, .int by0, .int bx1, .int by1]))]) [0] rfl
        have hD9 := hD.sub (ws' := [(h0, .inr (0, [.int bx0, .int by0, .int bx1, .int by1]))]) [0] (by decide) rfl
        have hK9 := hK.sub (tys' := []) [] rfl
        refine hQ _ _ _ _ _ ?_
        exact W.zret (v := 0) hx hb hr rfl (fun t ht hW => ⟨⟨0, (), rfl, (if_neg (by omega)).symm, ⟨by rw [ht]; exact hP9, va_K.moved hW.alike hK9, hD9⟩⟩, hS.F ht⟩) hS.2.2 dX0_holds_37
      · skip
        have f_6 : ¬ (y.toInt < by0.toInt) := fn_lt rfl rfl c_5
        refine lv_iload_n hx hb dX0_holds_24 rfl (lv_at hl 2 rfl) ?_
        refine lv_aload_n hx hb dX0_holds_25 rfl (lv_at hl 0 rfl) ?_
        refine va_get (D := D) (ci := 0) (v := .int by1) (C := RX0) (T := TX0) (N := 4) hx hb hts hi_X0 hown hK hP 0 rfl rfl 3 (by decide) (hts _ bw_12) (fun _ h9 => h9) rfl dX0_holds_26 ?_
        refine lv_icmp_gt (tgt := 36) hx hb dX0_holds_29 (by decide) (fun c_7 => ?_) (fun c_7 => ?_)
        · skip
          have f_8 : by1.toInt < y.toInt := f_lt rfl rfl c_7
          refine lv_iconst (v := 0) hx hb dX0_holds_36 (by decide) ?_
          have hP9 := hP.sub (ws' := [(h0, .inr (0, [.int bx0, .int by0, .int bx1, .int by1]))]) [0] rfl
          have hD9 := hD.sub (ws' := [(h0, .inr (0, [.int bx0, .int by0, .int bx1, .int by1]))]) [0] (by decide) rfl
          have hK9 := hK.sub (tys' := []) [] rfl
          refine hQ _ _ _ _ _ ?_
          exact W.zret (v := 0) hx hb hr rfl (fun t ht hW => ⟨⟨0, (), rfl, (if_neg (by omega)).symm, ⟨by rw [ht]; exact hP9, va_K.moved hW.alike hK9, hD9⟩⟩, hS.F ht⟩) hS.2.2 dX0_holds_37
        · skip
          have f_8 : ¬ (by1.toInt < y.toInt) := fn_lt rfl rfl c_7
          refine lv_iconst (v := 1) hx hb dX0_holds_32 (by decide) ?_
          refine lv_goto (tgt := 37) hx hb dX0_holds_33 (by decide) ?_
          have hP9 := hP.sub (ws' := [(h0, .inr (0, [.int bx0, .int by0, .int bx1, .int by1]))]) [0] rfl
          have hD9 := hD.sub (ws' := [(h0, .inr (0, [.int bx0, .int by0, .int bx1, .int by1]))]) [0] (by decide) rfl
          have hK9 := hK.sub (tys' := []) [] rfl
          refine hQ _ _ _ _ _ ?_
          exact W.zret (v := 1) hx hb hr rfl (fun t ht hW => ⟨⟨1, (), rfl, (if_pos (by omega)).symm, ⟨by rw [ht]; exact hP9, va_K.moved hW.alike hK9, hD9⟩⟩, hS.F ht⟩) hS.2.2 dX0_holds_37

set_option maxHeartbeats 4000000 in
set_option maxRecDepth 100000 in
theorem k_X0_bound (l : Launch) (D : va_G) (sz : Nat) (h0 : Nat) (bx0 by0 bx1 by1 : Int32) (x y z w : Int32) : Met l yX0_bound (wB yX0_bound cX0_bound 5 none) ({ frames := 0, cells := 0, slots := 0, locals := 0 }) (cP D [(h0, .inr (0, [.int bx0, .int by0, .int bx1, .int by1]))] [] sz [.ref h0, .int x, .int y, .int z, .int w]) (va_Qv (fun (_ : Unit) => True) (fun (_ : Unit) (t : State) => cB D (va_A [(h0, .inr (0, [.int bx0, .int by0, .int bx1, .int by1]))] sz) [(h0, .inr (0, [.int x, .int y, .int z, .int w]))] [] t) (va_A [(h0, .inr (0, [.int bx0, .int by0, .int bx1, .int by1]))] sz)) 0 0 (va_A [(h0, .inr (0, [.int bx0, .int by0, .int bx1, .int by1]))] sz) := by
  refine Met.ofW (cc := cX0_bound) (maxL := 5) (ret := none) (by decide) rfl ?_
  intro p e s m args below meth c s₁ B hml hv
  obtain ⟨rfl, hsz, hP, hK, hD0, hN⟩ := hv
  have hx := B.exec
  have hb := B.bytes
  have hr := B.returns
  have hts0 := atoms_spec (ws := (wB yX0_bound cX0_bound 5 none)) B.pre
  have hts : ∀ w ∈ bigW, w.before _ s = true := fun w h => hts0 w (List.mem_cons_of_mem _ h)
  have hown : s.vm.findClass RX0 = some m.cls := findClass_of_methodNamed B.named
  have hlocks := B.notSynchronized
  subst hsz
  have hD := hD0.self (sz := s.heap.size)
  generalize hAe : va_A [(h0, .inr (0, [.int bx0, .int by0, .int bx1, .int by1]))] s.heap.size = A at hD ⊢
  have hA : ∀ q : Nat, s.heap.size ≤ q → A q := fun q h => by rw [← hAe]; exact Or.inr h
  have hS : va_S A s.heap s.heap [] := va_S.rf
  have hP : va_P D vwCl [(h0, .inr (0, [.int bx0, .int by0, .int bx1, .int by1]))] s.heap := hP
  have hl := lv_entry ([.ref h0, .int x, .int y, .int z, .int w]) (n := 5) (Nat.le_of_ble_eq_true rfl)
  rw [lg_entry_eq]
  generalize (lg_sl ([.ref h0, .int x, .int y, .int z, .int w]) ++ List.replicate (5 - (lg_sl ([.ref h0, .int x, .int y, .int z, .int w])).length) Slot.unset).toArray = ls at hl ⊢
  have hl : lv_has ls 5 [(0, .ref h0), (1, .int x), (2, .int y), (3, .int z), (4, .int w)] := hl
  clear hts0 hD0 hAe
  refine my_abs (fun R Q hR hQ => ?_)
  refine lv_aload_n hx hb dX0_bound_0 rfl (lv_at hl 0 rfl) ?_
  refine lv_iload_n hx hb dX0_bound_1 rfl (lv_at hl 1 rfl) ?_
  refine va_put (D := D) (ci := 0) (v := .int x) (ty := .int) (C := RX0) (T := TX0) (N := 4) hx hb hts hi_X0 tyX0 tyX0_ok nmX0 hown hK hP hD hS 0 rfl rfl 0 (by decide) (hts _ bw_9) (fun _ h9 => h9) rfl (by decide +kernel) rfl rfl (Nat.le_of_ble_eq_true rfl) dX0_bound_2 (fun H locs hP hD hS => ?_)
  have hP : va_P D vwCl [(h0, .inr (0, [.int x, .int by0, .int bx1, .int by1]))] H := hP
  have hD : va_D A [(h0, .inr (0, [.int x, .int by0, .int bx1, .int by1]))] := hD
  refine lv_aload_n hx hb dX0_bound_5 rfl (lv_at hl 0 rfl) ?_
  refine lv_iload_n hx hb dX0_bound_6 rfl (lv_at hl 2 rfl) ?_
  refine va_put (D := D) (ci := 0) (v := .int y) (ty := .int) (C := RX0) (T := TX0) (N := 4) hx hb hts hi_X0 tyX0 tyX0_ok nmX0 hown hK hP hD hS 0 rfl rfl 1 (by decide) (hts _ bw_10) (fun _ h9 => h9) rfl (by decide +kernel) rfl rfl (Nat.le_of_ble_eq_true rfl) dX0_bound_7 (fun H locs hP hD hS => ?_)
  have hP : va_P D vwCl [(h0, .inr (0, [.int x, .int y, .int bx1, .int by1]))] H := hP
  have hD : va_D A [(h0, .inr (0, [.int x, .int y, .int bx1, .int by1]))] := hD
  refine lv_aload_n hx hb dX0_bound_10 rfl (lv_at hl 0 rfl) ?_
  refine lv_iload_n hx hb dX0_bound_11 rfl (lv_at hl 3 rfl) ?_
  refine va_put (D := D) (ci := 0) (v := .int z) (ty := .int) (C := RX0) (T := TX0) (N := 4) hx hb hts hi_X0 tyX0 tyX0_ok nmX0 hown hK hP hD hS 0 rfl rfl 2 (by decide) (hts _ bw_11) (fun _ h9 => h9) rfl (by decide +kernel) rfl rfl (Nat.le_of_ble_eq_true rfl) dX0_bound_12 (fun H locs hP hD hS => ?_)
  have hP : va_P D vwCl [(h0, .inr (0, [.int x, .int y, .int z, .int by1]))] H := hP
  have hD : va_D A [(h0, .inr (0, [.int x, .int y, .int z, .int by1]))] := hD
  refine lv_aload_n hx hb dX0_bound_15 rfl (lv_at hl 0 rfl) ?_
  refine lv_iload hx hb dX0_bound_16 (lv_at hl 4 rfl) ?_
  refine va_put (D := D) (ci := 0) (v := .int w) (ty := .int) (C := RX0) (T := TX0) (N := 4) hx hb hts hi_X0 tyX0 tyX0_ok nmX0 hown hK hP hD hS 0 rfl rfl 3 (by decide) (hts _ bw_12) (fun _ h9 => h9) rfl (by decide +kernel) rfl rfl (Nat.le_of_ble_eq_true rfl) dX0_bound_18 (fun H locs hP hD hS => ?_)
  have hP : va_P D vwCl [(h0, .inr (0, [.int x, .int y, .int z, .int w]))] H := hP
  have hD : va_D A [(h0, .inr (0, [.int x, .int y, .int z, .int w]))] := hD
  have hP9 := hP.sub (ws' := [(h0, .inr (0, [.int x, .int y, .int z, .int w]))]) [0] rfl
  have hD9 := hD.sub (ws' := [(h0, .inr (0, [.int x, .int y, .int z, .int w]))]) [0] (by decide) rfl
  have hK9 := hK.sub (tys' := []) [] rfl
  refine hQ _ _ _ _ _ ?_
  exact W.vret hx hb hr (fun t ht hW => ⟨⟨(), rfl, trivial, ⟨by rw [ht]; exact hP9, va_K.moved hW.alike hK9, hD9⟩⟩, hS.F ht⟩) hS.2.2 dX0_bound_21

set_option maxHeartbeats 4000000 in
set_option maxRecDepth 100000 in
theorem k_X1_weightOfSource (l : Launch) (D : va_G) (sz : Nat) (h0 bx : Nat) (ik wy op : Int32) (n : Int32) (hwy : 0 ≤ wy.toInt ∧ wy.toInt ≤ 12) : Met l yX1_weightOfSource (wB yX1_weightOfSource cX1_weightOfSource 2 (some .int)) ({ frames := 0, cells := 0, slots := 0, locals := 0 }) (cP D [(h0, .inr (1, [.ref bx, .int ik, .int wy, .int op]))] [] sz [.ref h0, .int n]) (va_Qi (fun (r : Int32) (_ : Unit) => r = wSP wy n) (fun (_ : Unit) (t : State) => cB D (va_A [(h0, .inr (1, [.ref bx, .int ik, .int wy, .int op]))] sz) [(h0, .inr (1, [.ref bx, .int ik, .int wy, .int op]))] [] t) (va_A [(h0, .inr (1, [.ref bx, .int ik, .int wy, .int op]))] sz)) 0 0 (va_A [(h0, .inr (1, [.ref bx, .int ik, .int wy, .int op]))] sz) := by
  refine Met.ofW (cc := cX1_weightOfSource) (maxL := 2) (ret := (some .int)) (by decide) rfl ?_
  intro p e s m args below meth c s₁ B hml hv
  obtain ⟨rfl, hsz, hP, hK, hD0, hN⟩ := hv
  have hx := B.exec
  have hb := B.bytes
  have hr := B.returns
  have hts0 := atoms_spec (ws := (wB yX1_weightOfSource cX1_weightOfSource 2 (some .int))) B.pre
  have hts : ∀ w ∈ bigW, w.before _ s = true := fun w h => hts0 w (List.mem_cons_of_mem _ h)
  have hown : s.vm.findClass RX1 = some m.cls := findClass_of_methodNamed B.named
  have hlocks := B.notSynchronized
  subst hsz
  have hD := hD0.self (sz := s.heap.size)
  generalize hAe : va_A [(h0, .inr (1, [.ref bx, .int ik, .int wy, .int op]))] s.heap.size = A at hD ⊢
  have hA : ∀ q : Nat, s.heap.size ≤ q → A q := fun q h => by rw [← hAe]; exact Or.inr h
  have hS : va_S A s.heap s.heap [] := va_S.rf
  have hP : va_P D vwCl [(h0, .inr (1, [.ref bx, .int ik, .int wy, .int op]))] s.heap := hP
  have hl := lv_entry ([.ref h0, .int n]) (n := 2) (Nat.le_of_ble_eq_true rfl)
  rw [lg_entry_eq]
  generalize (lg_sl ([.ref h0, .int n]) ++ List.replicate (2 - (lg_sl ([.ref h0, .int n])).length) Slot.unset).toArray = ls at hl ⊢
  have hl : lv_has ls 2 [(0, .ref h0), (1, .int n)] := hl
  clear hts0 hD0 hAe
  refine my_abs (fun R Q hR hQ => ?_)
  refine lv_aload_n hx hb dX1_weightOfSource_0 rfl (lv_at hl 0 rfl) ?_
  refine va_get (D := D) (ci := 1) (v := .int wy) (C := RX1) (T := TX1) (N := 4) hx hb hts hi_X1 hown hK hP 0 rfl rfl 2 (by decide) (hts _ bw_27) (fun _ h9 => h9) rfl dX1_weightOfSource_1 ?_
  obtain ⟨j, hj, ej⟩ := i_of (x := wy) (N := 13) (by omega) (by omega) (by decide)
  subst ej
  rcases (show j = 0 ∨ j = 1 ∨ j = 2 ∨ j = 3 ∨ j = 4 ∨ j = 5 ∨ j = 6 ∨ j = 7 ∨ j = 8 ∨ j = 9 ∨ j = 10 ∨ j = 11 ∨ j = 12 by omega) with rfl | rfl | rfl | rfl | rfl | rfl | rfl | rfl | rfl | rfl | rfl | rfl | rfl
  · skip
    refine lv_tableOut (tgt := 80) hx hb dX1_weightOfSource_4 (by decide) (by decide) ?_
    refine lv_iconst (v := 0) hx hb dX1_weightOfSource_80 (by decide) ?_
    have hP9 := hP.sub (ws' := [(h0, .inr (1, [.ref bx, .int ik, .int (nI 0), .int op]))]) [0] rfl
    have hD9 := hD.sub (ws' := [(h0, .inr (1, [.ref bx, .int ik, .int (nI 0), .int op]))]) [0] (by decide) rfl
    have hK9 := hK.sub (tys' := []) [] rfl
    refine hQ _ _ _ _ _ ?_
    exact W.iret (v := 0) hx hb hr (fun t ht hW => ⟨⟨0, (), rfl, (by subst_vars; rfl), ⟨by rw [ht]; exact hP9, va_K.moved hW.alike hK9, hD9⟩⟩, hS.F ht⟩) hS.2.2 dX1_weightOfSource_81
  · skip
    refine lv_tableIn (off := 64) (tgt := 68) hx hb dX1_weightOfSource_4 (by decide) (by decide) rfl (by decide) ?_
    refine lv_sipush (v := 255) hx hb dX1_weightOfSource_68 (by decide) ?_
    have hP9 := hP.sub (ws' := [(h0, .inr (1, [.ref bx, .int ik, .int (nI 1), .int op]))]) [0] rfl
    have hD9 := hD.sub (ws' := [(h0, .inr (1, [.ref bx, .int ik, .int (nI 1), .int op]))]) [0] (by decide) rfl
    have hK9 := hK.sub (tys' := []) [] rfl
    refine hQ _ _ _ _ _ ?_
    exact W.iret (v := 255) hx hb hr (fun t ht hW => ⟨⟨255, (), rfl, (by subst_vars; rfl), ⟨by rw [ht]; exact hP9, va_K.moved hW.alike hK9, hD9⟩⟩, hS.F ht⟩) hS.2.2 dX1_weightOfSource_71
  · skip
    refine lv_tableIn (off := 76) (tgt := 80) hx hb dX1_weightOfSource_4 (by decide) (by decide) rfl (by decide) ?_
    refine lv_iconst (v := 0) hx hb dX1_weightOfSource_80 (by decide) ?_
    have hP9 := hP.sub (ws' := [(h0, .inr (1, [.ref bx, .int ik, .int (nI 2), .int op]))]) [0] rfl
    have hD9 := hD.sub (ws' := [(h0, .inr (1, [.ref bx, .int ik, .int (nI 2), .int op]))]) [0] (by decide) rfl
    have hK9 := hK.sub (tys' := []) [] rfl
    refine hQ _ _ _ _ _ ?_
    exact W.iret (v := 0) hx hb hr (fun t ht hW => ⟨⟨0, (), rfl, (by subst_vars; rfl), ⟨by rw [ht]; exact hP9, va_K.moved hW.alike hK9, hD9⟩⟩, hS.F ht⟩) hS.2.2 dX1_weightOfSource_81
  · skip
    refine lv_tableIn (off := 64) (tgt := 68) hx hb dX1_weightOfSource_4 (by decide) (by decide) rfl (by decide) ?_
    refine lv_sipush (v := 255) hx hb dX1_weightOfSource_68 (by decide) ?_
    have hP9 := hP.sub (ws' := [(h0, .inr (1, [.ref bx, .int ik, .int (nI 3), .int op]))]) [0] rfl
    have hD9 := hD.sub (ws' := [(h0, .inr (1, [.ref bx, .int ik, .int (nI 3), .int op]))]) [0] (by decide) rfl
    have hK9 := hK.sub (tys' := []) [] rfl
    refine hQ _ _ _ _ _ ?_
    exact W.iret (v := 255) hx hb hr (fun t ht hW => ⟨⟨255, (), rfl, (by subst_vars; rfl), ⟨by rw [ht]; exact hP9, va_K.moved hW.alike hK9, hD9⟩⟩, hS.F ht⟩) hS.2.2 dX1_weightOfSource_71
  · skip
    refine lv_tableIn (off := 70) (tgt := 74) hx hb dX1_weightOfSource_4 (by decide) (by decide) rfl (by decide) ?_
    refine lv_sipush (v := 255) hx hb dX1_weightOfSource_74 (by decide) ?_
    refine lv_iload_n hx hb dX1_weightOfSource_77 rfl (lv_at hl 1 rfl) ?_
    refine lv_isub hx hb dX1_weightOfSource_78 ?_
    refine lv_topi (fun y_1 ey_1 => ?_)
    have hP9 := hP.sub (ws' := [(h0, .inr (1, [.ref bx, .int ik, .int (nI 4), .int op]))]) [0] rfl
    have hD9 := hD.sub (ws' := [(h0, .inr (1, [.ref bx, .int ik, .int (nI 4), .int op]))]) [0] (by decide) rfl
    have hK9 := hK.sub (tys' := []) [] rfl
    refine hQ _ _ _ _ _ ?_
    exact W.iret (v := y_1) hx hb hr (fun t ht hW => ⟨⟨y_1, (), rfl, (by subst_vars; rfl), ⟨by rw [ht]; exact hP9, va_K.moved hW.alike hK9, hD9⟩⟩, hS.F ht⟩) hS.2.2 dX1_weightOfSource_79
  · skip
    refine lv_tableIn (off := 68) (tgt := 72) hx hb dX1_weightOfSource_4 (by decide) (by decide) rfl (by decide) ?_
    refine lv_iload_n hx hb dX1_weightOfSource_72 rfl (lv_at hl 1 rfl) ?_
    have hP9 := hP.sub (ws' := [(h0, .inr (1, [.ref bx, .int ik, .int (nI 5), .int op]))]) [0] rfl
    have hD9 := hD.sub (ws' := [(h0, .inr (1, [.ref bx, .int ik, .int (nI 5), .int op]))]) [0] (by decide) rfl
    have hK9 := hK.sub (tys' := []) [] rfl
    refine hQ _ _ _ _ _ ?_
    exact W.iret (v := n) hx hb hr (fun t ht hW => ⟨⟨n, (), rfl, (by subst_vars; rfl), ⟨by rw [ht]; exact hP9, va_K.moved hW.alike hK9, hD9⟩⟩, hS.F ht⟩) hS.2.2 dX1_weightOfSource_73
  · skip
    refine lv_tableIn (off := 76) (tgt := 80) hx hb dX1_weightOfSource_4 (by decide) (by decide) rfl (by decide) ?_
    refine lv_iconst (v := 0) hx hb dX1_weightOfSource_80 (by decide) ?_
    have hP9 := hP.sub (ws' := [(h0, .inr (1, [.ref bx, .int ik, .int (nI 6), .int op]))]) [0] rfl
    have hD9 := hD.sub (ws' := [(h0, .inr (1, [.ref bx, .int ik, .int (nI 6), .int op]))]) [0] (by decide) rfl
    have hK9 := hK.sub (tys' := []) [] rfl
    refine hQ _ _ _ _ _ ?_
    exact W.iret (v := 0) hx hb hr (fun t ht hW => ⟨⟨0, (), rfl, (by subst_vars; rfl), ⟨by rw [ht]; exact hP9, va_K.moved hW.alike hK9, hD9⟩⟩, hS.F ht⟩) hS.2.2 dX1_weightOfSource_81
  · skip
    refine lv_tableIn (off := 70) (tgt := 74) hx hb dX1_weightOfSource_4 (by decide) (by decide) rfl (by decide) ?_
    refine lv_sipush (v := 255) hx hb dX1_weightOfSource_74 (by decide) ?_
    refine lv_iload_n hx hb dX1_weightOfSource_77 rfl (lv_at hl 1 rfl) ?_
    refine lv_isub hx hb dX1_weightOfSource_78 ?_
    refine lv_topi (fun y_2 ey_2 => ?_)
    have hP9 := hP.sub (ws' := [(h0, .inr (1, [.ref bx, .int ik, .int (nI 7), .int op]))]) [0] rfl
    have hD9 := hD.sub (ws' := [(h0, .inr (1, [.ref bx, .int ik, .int (nI 7), .int op]))]) [0] (by decide) rfl
    have hK9 := hK.sub (tys' := []) [] rfl
    refine hQ _ _ _ _ _ ?_
    exact W.iret (v := y_2) hx hb hr (fun t ht hW => ⟨⟨y_2, (), rfl, (by subst_vars; rfl), ⟨by rw [ht]; exact hP9, va_K.moved hW.alike hK9, hD9⟩⟩, hS.F ht⟩) hS.2.2 dX1_weightOfSource_79
  · skip
    refine lv_tableIn (off := 76) (tgt := 80) hx hb dX1_weightOfSource_4 (by decide) (by decide) rfl (by decide) ?_
    refine lv_iconst (v := 0) hx hb dX1_weightOfSource_80 (by decide) ?_
    have hP9 := hP.sub (ws' := [(h0, .inr (1, [.ref bx, .int ik, .int (nI 8), .int op]))]) [0] rfl
    have hD9 := hD.sub (ws' := [(h0, .inr (1, [.ref bx, .int ik, .int (nI 8), .int op]))]) [0] (by decide) rfl
    have hK9 := hK.sub (tys' := []) [] rfl
    refine hQ _ _ _ _ _ ?_
    exact W.iret (v := 0) hx hb hr (fun t ht hW => ⟨⟨0, (), rfl, (by subst_vars; rfl), ⟨by rw [ht]; exact hP9, va_K.moved hW.alike hK9, hD9⟩⟩, hS.F ht⟩) hS.2.2 dX1_weightOfSource_81
  · skip
    refine lv_tableIn (off := 68) (tgt := 72) hx hb dX1_weightOfSource_4 (by decide) (by decide) rfl (by decide) ?_
    refine lv_iload_n hx hb dX1_weightOfSource_72 rfl (lv_at hl 1 rfl) ?_
    have hP9 := hP.sub (ws' := [(h0, .inr (1, [.ref bx, .int ik, .int (nI 9), .int op]))]) [0] rfl
    have hD9 := hD.sub (ws' := [(h0, .inr (1, [.ref bx, .int ik, .int (nI 9), .int op]))]) [0] (by decide) rfl
    have hK9 := hK.sub (tys' := []) [] rfl
    refine hQ _ _ _ _ _ ?_
    exact W.iret (v := n) hx hb hr (fun t ht hW => ⟨⟨n, (), rfl, (by subst_vars; rfl), ⟨by rw [ht]; exact hP9, va_K.moved hW.alike hK9, hD9⟩⟩, hS.F ht⟩) hS.2.2 dX1_weightOfSource_73
  · skip
    refine lv_tableIn (off := 70) (tgt := 74) hx hb dX1_weightOfSource_4 (by decide) (by decide) rfl (by decide) ?_
    refine lv_sipush (v := 255) hx hb dX1_weightOfSource_74 (by decide) ?_
    refine lv_iload_n hx hb dX1_weightOfSource_77 rfl (lv_at hl 1 rfl) ?_
    refine lv_isub hx hb dX1_weightOfSource_78 ?_
    refine lv_topi (fun y_3 ey_3 => ?_)
    have hP9 := hP.sub (ws' := [(h0, .inr (1, [.ref bx, .int ik, .int (nI 10), .int op]))]) [0] rfl
    have hD9 := hD.sub (ws' := [(h0, .inr (1, [.ref bx, .int ik, .int (nI 10), .int op]))]) [0] (by decide) rfl
    have hK9 := hK.sub (tys' := []) [] rfl
    refine hQ _ _ _ _ _ ?_
    exact W.iret (v := y_3) hx hb hr (fun t ht hW => ⟨⟨y_3, (), rfl, (by subst_vars; rfl), ⟨by rw [ht]; exact hP9, va_K.moved hW.alike hK9, hD9⟩⟩, hS.F ht⟩) hS.2.2 dX1_weightOfSource_79
  · skip
    refine lv_tableIn (off := 70) (tgt := 74) hx hb dX1_weightOfSource_4 (by decide) (by decide) rfl (by decide) ?_
    refine lv_sipush (v := 255) hx hb dX1_weightOfSource_74 (by decide) ?_
    refine lv_iload_n hx hb dX1_weightOfSource_77 rfl (lv_at hl 1 rfl) ?_
    refine lv_isub hx hb dX1_weightOfSource_78 ?_
    refine lv_topi (fun y_4 ey_4 => ?_)
    have hP9 := hP.sub (ws' := [(h0, .inr (1, [.ref bx, .int ik, .int (nI 11), .int op]))]) [0] rfl
    have hD9 := hD.sub (ws' := [(h0, .inr (1, [.ref bx, .int ik, .int (nI 11), .int op]))]) [0] (by decide) rfl
    have hK9 := hK.sub (tys' := []) [] rfl
    refine hQ _ _ _ _ _ ?_
    exact W.iret (v := y_4) hx hb hr (fun t ht hW => ⟨⟨y_4, (), rfl, (by subst_vars; rfl), ⟨by rw [ht]; exact hP9, va_K.moved hW.alike hK9, hD9⟩⟩, hS.F ht⟩) hS.2.2 dX1_weightOfSource_79
  · skip
    refine lv_tableIn (off := 64) (tgt := 68) hx hb dX1_weightOfSource_4 (by decide) (by decide) rfl (by decide) ?_
    refine lv_sipush (v := 255) hx hb dX1_weightOfSource_68 (by decide) ?_
    have hP9 := hP.sub (ws' := [(h0, .inr (1, [.ref bx, .int ik, .int (nI 12), .int op]))]) [0] rfl
    have hD9 := hD.sub (ws' := [(h0, .inr (1, [.ref bx, .int ik, .int (nI 12), .int op]))]) [0] (by decide) rfl
    have hK9 := hK.sub (tys' := []) [] rfl
    refine hQ _ _ _ _ _ ?_
    exact W.iret (v := 255) hx hb hr (fun t ht hW => ⟨⟨255, (), rfl, (by subst_vars; rfl), ⟨by rw [ht]; exact hP9, va_K.moved hW.alike hK9, hD9⟩⟩, hS.F ht⟩) hS.2.2 dX1_weightOfSource_71

set_option maxHeartbeats 4000000 in
set_option maxRecDepth 100000 in
theorem k_X1_weightOfThere (l : Launch) (D : va_G) (sz : Nat) (h0 bx : Nat) (ik wy op : Int32) (n : Int32) (hwy : 0 ≤ wy.toInt ∧ wy.toInt ≤ 12) : Met l yX1_weightOfThere (wB yX1_weightOfThere cX1_weightOfThere 2 (some .int)) ({ frames := 0, cells := 0, slots := 0, locals := 0 }) (cP D [(h0, .inr (1, [.ref bx, .int ik, .int wy, .int op]))] [] sz [.ref h0, .int n]) (va_Qi (fun (r : Int32) (_ : Unit) => r = wTP wy n) (fun (_ : Unit) (t : State) => cB D (va_A [(h0, .inr (1, [.ref bx, .int ik, .int wy, .int op]))] sz) [(h0, .inr (1, [.ref bx, .int ik, .int wy, .int op]))] [] t) (va_A [(h0, .inr (1, [.ref bx, .int ik, .int wy, .int op]))] sz)) 0 0 (va_A [(h0, .inr (1, [.ref bx, .int ik, .int wy, .int op]))] sz) := by
  refine Met.ofW (cc := cX1_weightOfThere) (maxL := 2) (ret := (some .int)) (by decide) rfl ?_
  intro p e s m args below meth c s₁ B hml hv
  obtain ⟨rfl, hsz, hP, hK, hD0, hN⟩ := hv
  have hx := B.exec
  have hb := B.bytes
  have hr := B.returns
  have hts0 := atoms_spec (ws := (wB yX1_weightOfThere cX1_weightOfThere 2 (some .int))) B.pre
  have hts : ∀ w ∈ bigW, w.before _ s = true := fun w h => hts0 w (List.mem_cons_of_mem _ h)
  have hown : s.vm.findClass RX1 = some m.cls := findClass_of_methodNamed B.named
  have hlocks := B.notSynchronized
  subst hsz
  have hD := hD0.self (sz := s.heap.size)
  generalize hAe : va_A [(h0, .inr (1, [.ref bx, .int ik, .int wy, .int op]))] s.heap.size = A at hD ⊢
  have hA : ∀ q : Nat, s.heap.size ≤ q → A q := fun q h => by rw [← hAe]; exact Or.inr h
  have hS : va_S A s.heap s.heap [] := va_S.rf
  have hP : va_P D vwCl [(h0, .inr (1, [.ref bx, .int ik, .int wy, .int op]))] s.heap := hP
  have hl := lv_entry ([.ref h0, .int n]) (n := 2) (Nat.le_of_ble_eq_true rfl)
  rw [lg_entry_eq]
  generalize (lg_sl ([.ref h0, .int n]) ++ List.replicate (2 - (lg_sl ([.ref h0, .int n])).length) Slot.unset).toArray = ls at hl ⊢
  have hl : lv_has ls 2 [(0, .ref h0), (1, .int n)] := hl
  clear hts0 hD0 hAe
  refine my_abs (fun R Q hR hQ => ?_)
  refine lv_aload_n hx hb dX1_weightOfThere_0 rfl (lv_at hl 0 rfl) ?_
  refine va_get (D := D) (ci := 1) (v := .int wy) (C := RX1) (T := TX1) (N := 4) hx hb hts hi_X1 hown hK hP 0 rfl rfl 2 (by decide) (hts _ bw_27) (fun _ h9 => h9) rfl dX1_weightOfThere_1 ?_
  obtain ⟨j, hj, ej⟩ := i_of (x := wy) (N := 13) (by omega) (by omega) (by decide)
  subst ej
  rcases (show j = 0 ∨ j = 1 ∨ j = 2 ∨ j = 3 ∨ j = 4 ∨ j = 5 ∨ j = 6 ∨ j = 7 ∨ j = 8 ∨ j = 9 ∨ j = 10 ∨ j = 11 ∨ j = 12 by omega) with rfl | rfl | rfl | rfl | rfl | rfl | rfl | rfl | rfl | rfl | rfl | rfl | rfl
  · skip
    refine lv_tableOut (tgt := 76) hx hb dX1_weightOfThere_4 (by decide) (by decide) ?_
    refine lv_iconst (v := 0) hx hb dX1_weightOfThere_76 (by decide) ?_
    have hP9 := hP.sub (ws' := [(h0, .inr (1, [.ref bx, .int ik, .int (nI 0), .int op]))]) [0] rfl
    have hD9 := hD.sub (ws' := [(h0, .inr (1, [.ref bx, .int ik, .int (nI 0), .int op]))]) [0] (by decide) rfl
    have hK9 := hK.sub (tys' := []) [] rfl
    refine hQ _ _ _ _ _ ?_
    exact W.iret (v := 0) hx hb hr (fun t ht hW => ⟨⟨0, (), rfl, (by subst_vars; rfl), ⟨by rw [ht]; exact hP9, va_K.moved hW.alike hK9, hD9⟩⟩, hS.F ht⟩) hS.2.2 dX1_weightOfThere_77
  · skip
    refine lv_tableOut (tgt := 76) hx hb dX1_weightOfThere_4 (by decide) (by decide) ?_
    refine lv_iconst (v := 0) hx hb dX1_weightOfThere_76 (by decide) ?_
    have hP9 := hP.sub (ws' := [(h0, .inr (1, [.ref bx, .int ik, .int (nI 1), .int op]))]) [0] rfl
    have hD9 := hD.sub (ws' := [(h0, .inr (1, [.ref bx, .int ik, .int (nI 1), .int op]))]) [0] (by decide) rfl
    have hK9 := hK.sub (tys' := []) [] rfl
    refine hQ _ _ _ _ _ ?_
    exact W.iret (v := 0) hx hb hr (fun t ht hW => ⟨⟨0, (), rfl, (by subst_vars; rfl), ⟨by rw [ht]; exact hP9, va_K.moved hW.alike hK9, hD9⟩⟩, hS.F ht⟩) hS.2.2 dX1_weightOfThere_77
  · skip
    refine lv_tableIn (off := 60) (tgt := 64) hx hb dX1_weightOfThere_4 (by decide) (by decide) rfl (by decide) ?_
    refine lv_sipush (v := 255) hx hb dX1_weightOfThere_64 (by decide) ?_
    have hP9 := hP.sub (ws' := [(h0, .inr (1, [.ref bx, .int ik, .int (nI 2), .int op]))]) [0] rfl
    have hD9 := hD.sub (ws' := [(h0, .inr (1, [.ref bx, .int ik, .int (nI 2), .int op]))]) [0] (by decide) rfl
    have hK9 := hK.sub (tys' := []) [] rfl
    refine hQ _ _ _ _ _ ?_
    exact W.iret (v := 255) hx hb hr (fun t ht hW => ⟨⟨255, (), rfl, (by subst_vars; rfl), ⟨by rw [ht]; exact hP9, va_K.moved hW.alike hK9, hD9⟩⟩, hS.F ht⟩) hS.2.2 dX1_weightOfThere_67
  · skip
    refine lv_tableIn (off := 66) (tgt := 70) hx hb dX1_weightOfThere_4 (by decide) (by decide) rfl (by decide) ?_
    refine lv_sipush (v := 255) hx hb dX1_weightOfThere_70 (by decide) ?_
    refine lv_iload_n hx hb dX1_weightOfThere_73 rfl (lv_at hl 1 rfl) ?_
    refine lv_isub hx hb dX1_weightOfThere_74 ?_
    refine lv_topi (fun y_1 ey_1 => ?_)
    have hP9 := hP.sub (ws' := [(h0, .inr (1, [.ref bx, .int ik, .int (nI 3), .int op]))]) [0] rfl
    have hD9 := hD.sub (ws' := [(h0, .inr (1, [.ref bx, .int ik, .int (nI 3), .int op]))]) [0] (by decide) rfl
    have hK9 := hK.sub (tys' := []) [] rfl
    refine hQ _ _ _ _ _ ?_
    exact W.iret (v := y_1) hx hb hr (fun t ht hW => ⟨⟨y_1, (), rfl, (by subst_vars; rfl), ⟨by rw [ht]; exact hP9, va_K.moved hW.alike hK9, hD9⟩⟩, hS.F ht⟩) hS.2.2 dX1_weightOfThere_75
  · skip
    refine lv_tableIn (off := 60) (tgt := 64) hx hb dX1_weightOfThere_4 (by decide) (by decide) rfl (by decide) ?_
    refine lv_sipush (v := 255) hx hb dX1_weightOfThere_64 (by decide) ?_
    have hP9 := hP.sub (ws' := [(h0, .inr (1, [.ref bx, .int ik, .int (nI 4), .int op]))]) [0] rfl
    have hD9 := hD.sub (ws' := [(h0, .inr (1, [.ref bx, .int ik, .int (nI 4), .int op]))]) [0] (by decide) rfl
    have hK9 := hK.sub (tys' := []) [] rfl
    refine hQ _ _ _ _ _ ?_
    exact W.iret (v := 255) hx hb hr (fun t ht hW => ⟨⟨255, (), rfl, (by subst_vars; rfl), ⟨by rw [ht]; exact hP9, va_K.moved hW.alike hK9, hD9⟩⟩, hS.F ht⟩) hS.2.2 dX1_weightOfThere_67
  · skip
    refine lv_tableIn (off := 72) (tgt := 76) hx hb dX1_weightOfThere_4 (by decide) (by decide) rfl (by decide) ?_
    refine lv_iconst (v := 0) hx hb dX1_weightOfThere_76 (by decide) ?_
    have hP9 := hP.sub (ws' := [(h0, .inr (1, [.ref bx, .int ik, .int (nI 5), .int op]))]) [0] rfl
    have hD9 := hD.sub (ws' := [(h0, .inr (1, [.ref bx, .int ik, .int (nI 5), .int op]))]) [0] (by decide) rfl
    have hK9 := hK.sub (tys' := []) [] rfl
    refine hQ _ _ _ _ _ ?_
    exact W.iret (v := 0) hx hb hr (fun t ht hW => ⟨⟨0, (), rfl, (by subst_vars; rfl), ⟨by rw [ht]; exact hP9, va_K.moved hW.alike hK9, hD9⟩⟩, hS.F ht⟩) hS.2.2 dX1_weightOfThere_77
  · skip
    refine lv_tableIn (off := 64) (tgt := 68) hx hb dX1_weightOfThere_4 (by decide) (by decide) rfl (by decide) ?_
    refine lv_iload_n hx hb dX1_weightOfThere_68 rfl (lv_at hl 1 rfl) ?_
    have hP9 := hP.sub (ws' := [(h0, .inr (1, [.ref bx, .int ik, .int (nI 6), .int op]))]) [0] rfl
    have hD9 := hD.sub (ws' := [(h0, .inr (1, [.ref bx, .int ik, .int (nI 6), .int op]))]) [0] (by decide) rfl
    have hK9 := hK.sub (tys' := []) [] rfl
    refine hQ _ _ _ _ _ ?_
    exact W.iret (v := n) hx hb hr (fun t ht hW => ⟨⟨n, (), rfl, (by subst_vars; rfl), ⟨by rw [ht]; exact hP9, va_K.moved hW.alike hK9, hD9⟩⟩, hS.F ht⟩) hS.2.2 dX1_weightOfThere_69
  · skip
    refine lv_tableIn (off := 72) (tgt := 76) hx hb dX1_weightOfThere_4 (by decide) (by decide) rfl (by decide) ?_
    refine lv_iconst (v := 0) hx hb dX1_weightOfThere_76 (by decide) ?_
    have hP9 := hP.sub (ws' := [(h0, .inr (1, [.ref bx, .int ik, .int (nI 7), .int op]))]) [0] rfl
    have hD9 := hD.sub (ws' := [(h0, .inr (1, [.ref bx, .int ik, .int (nI 7), .int op]))]) [0] (by decide) rfl
    have hK9 := hK.sub (tys' := []) [] rfl
    refine hQ _ _ _ _ _ ?_
    exact W.iret (v := 0) hx hb hr (fun t ht hW => ⟨⟨0, (), rfl, (by subst_vars; rfl), ⟨by rw [ht]; exact hP9, va_K.moved hW.alike hK9, hD9⟩⟩, hS.F ht⟩) hS.2.2 dX1_weightOfThere_77
  · skip
    refine lv_tableIn (off := 66) (tgt := 70) hx hb dX1_weightOfThere_4 (by decide) (by decide) rfl (by decide) ?_
    refine lv_sipush (v := 255) hx hb dX1_weightOfThere_70 (by decide) ?_
    refine lv_iload_n hx hb dX1_weightOfThere_73 rfl (lv_at hl 1 rfl) ?_
    refine lv_isub hx hb dX1_weightOfThere_74 ?_
    refine lv_topi (fun y_2 ey_2 => ?_)
    have hP9 := hP.sub (ws' := [(h0, .inr (1, [.ref bx, .int ik, .int (nI 8), .int op]))]) [0] rfl
    have hD9 := hD.sub (ws' := [(h0, .inr (1, [.ref bx, .int ik, .int (nI 8), .int op]))]) [0] (by decide) rfl
    have hK9 := hK.sub (tys' := []) [] rfl
    refine hQ _ _ _ _ _ ?_
    exact W.iret (v := y_2) hx hb hr (fun t ht hW => ⟨⟨y_2, (), rfl, (by subst_vars; rfl), ⟨by rw [ht]; exact hP9, va_K.moved hW.alike hK9, hD9⟩⟩, hS.F ht⟩) hS.2.2 dX1_weightOfThere_75
  · skip
    refine lv_tableIn (off := 66) (tgt := 70) hx hb dX1_weightOfThere_4 (by decide) (by decide) rfl (by decide) ?_
    refine lv_sipush (v := 255) hx hb dX1_weightOfThere_70 (by decide) ?_
    refine lv_iload_n hx hb dX1_weightOfThere_73 rfl (lv_at hl 1 rfl) ?_
    refine lv_isub hx hb dX1_weightOfThere_74 ?_
    refine lv_topi (fun y_3 ey_3 => ?_)
    have hP9 := hP.sub (ws' := [(h0, .inr (1, [.ref bx, .int ik, .int (nI 9), .int op]))]) [0] rfl
    have hD9 := hD.sub (ws' := [(h0, .inr (1, [.ref bx, .int ik, .int (nI 9), .int op]))]) [0] (by decide) rfl
    have hK9 := hK.sub (tys' := []) [] rfl
    refine hQ _ _ _ _ _ ?_
    exact W.iret (v := y_3) hx hb hr (fun t ht hW => ⟨⟨y_3, (), rfl, (by subst_vars; rfl), ⟨by rw [ht]; exact hP9, va_K.moved hW.alike hK9, hD9⟩⟩, hS.F ht⟩) hS.2.2 dX1_weightOfThere_75
  · skip
    refine lv_tableIn (off := 64) (tgt := 68) hx hb dX1_weightOfThere_4 (by decide) (by decide) rfl (by decide) ?_
    refine lv_iload_n hx hb dX1_weightOfThere_68 rfl (lv_at hl 1 rfl) ?_
    have hP9 := hP.sub (ws' := [(h0, .inr (1, [.ref bx, .int ik, .int (nI 10), .int op]))]) [0] rfl
    have hD9 := hD.sub (ws' := [(h0, .inr (1, [.ref bx, .int ik, .int (nI 10), .int op]))]) [0] (by decide) rfl
    have hK9 := hK.sub (tys' := []) [] rfl
    refine hQ _ _ _ _ _ ?_
    exact W.iret (v := n) hx hb hr (fun t ht hW => ⟨⟨n, (), rfl, (by subst_vars; rfl), ⟨by rw [ht]; exact hP9, va_K.moved hW.alike hK9, hD9⟩⟩, hS.F ht⟩) hS.2.2 dX1_weightOfThere_69
  · skip
    refine lv_tableIn (off := 66) (tgt := 70) hx hb dX1_weightOfThere_4 (by decide) (by decide) rfl (by decide) ?_
    refine lv_sipush (v := 255) hx hb dX1_weightOfThere_70 (by decide) ?_
    refine lv_iload_n hx hb dX1_weightOfThere_73 rfl (lv_at hl 1 rfl) ?_
    refine lv_isub hx hb dX1_weightOfThere_74 ?_
    refine lv_topi (fun y_4 ey_4 => ?_)
    have hP9 := hP.sub (ws' := [(h0, .inr (1, [.ref bx, .int ik, .int (nI 11), .int op]))]) [0] rfl
    have hD9 := hD.sub (ws' := [(h0, .inr (1, [.ref bx, .int ik, .int (nI 11), .int op]))]) [0] (by decide) rfl
    have hK9 := hK.sub (tys' := []) [] rfl
    refine hQ _ _ _ _ _ ?_
    exact W.iret (v := y_4) hx hb hr (fun t ht hW => ⟨⟨y_4, (), rfl, (by subst_vars; rfl), ⟨by rw [ht]; exact hP9, va_K.moved hW.alike hK9, hD9⟩⟩, hS.F ht⟩) hS.2.2 dX1_weightOfThere_75
  · skip
    refine lv_tableIn (off := 60) (tgt := 64) hx hb dX1_weightOfThere_4 (by decide) (by decide) rfl (by decide) ?_
    refine lv_sipush (v := 255) hx hb dX1_weightOfThere_64 (by decide) ?_
    have hP9 := hP.sub (ws' := [(h0, .inr (1, [.ref bx, .int ik, .int (nI 12), .int op]))]) [0] rfl
    have hD9 := hD.sub (ws' := [(h0, .inr (1, [.ref bx, .int ik, .int (nI 12), .int op]))]) [0] (by decide) rfl
    have hK9 := hK.sub (tys' := []) [] rfl
    refine hQ _ _ _ _ _ ?_
    exact W.iret (v := 255) hx hb hr (fun t ht hW => ⟨⟨255, (), rfl, (by subst_vars; rfl), ⟨by rw [ht]; exact hP9, va_K.moved hW.alike hK9, hD9⟩⟩, hS.F ht⟩) hS.2.2 dX1_weightOfThere_67

set_option maxHeartbeats 4000000 in
set_option maxRecDepth 100000 in
theorem k_X1_measureOf (l : Launch) (D : va_G) (sz : Nat) (h0 bx : Nat) (ik wy op : Int32) (n : Int32) : Met l yX1_measureOf (wB yX1_measureOf cX1_measureOf 2 (some .int)) ({ frames := 0, cells := 0, slots := 0, locals := 0 }) (cP D [(h0, .inr (1, [.ref bx, .int ik, .int wy, .int op]))] [] sz [.ref h0, .int n]) (va_Qi (fun (r : Int32) (_ : Unit) => r = (2 * op * n + 16) / 32) (fun (_ : Unit) (t : State) => cB D (va_A [(h0, .inr (1, [.ref bx, .int ik, .int wy, .int op]))] sz) [(h0, .inr (1, [.ref bx, .int ik, .int wy, .int op]))] [] t) (va_A [(h0, .inr (1, [.ref bx, .int ik, .int wy, .int op]))] sz)) 0 0 (va_A [(h0, .inr (1, [.ref bx, .int ik, .int wy, .int op]))] sz) := by
  refine Met.ofW (cc := cX1_measureOf) (maxL := 2) (ret := (some .int)) (by decide) rfl ?_
  intro p e s m args below meth c s₁ B hml hv
  obtain ⟨rfl, hsz, hP, hK, hD0, hN⟩ := hv
  have hx := B.exec
  have hb := B.bytes
  have hr := B.returns
  have hts0 := atoms_spec (ws := (wB yX1_measureOf cX1_measureOf 2 (some .int))) B.pre
  have hts : ∀ w ∈ bigW, w.before _ s = true := fun w h => hts0 w (List.mem_cons_of_mem _ h)
  have hown : s.vm.findClass RX1 = some m.cls := findClass_of_methodNamed B.named
  have hlocks := B.notSynchronized
  subst hsz
  have hD := hD0.self (sz := s.heap.size)
  generalize hAe : va_A [(h0, .inr (1, [.ref bx, .int ik, .int wy, .int op]))] s.heap.size = A at hD ⊢
  have hA : ∀ q : Nat, s.heap.size ≤ q → A q := fun q h => by rw [← hAe]; exact Or.inr h
  have hS : va_S A s.heap s.heap [] := va_S.rf
  have hP : va_P D vwCl [(h0, .inr (1, [.ref bx, .int ik, .int wy, .int op]))] s.heap := hP
  have hl := lv_entry ([.ref h0, .int n]) (n := 2) (Nat.le_of_ble_eq_true rfl)
  rw [lg_entry_eq]
  generalize (lg_sl ([.ref h0, .int n]) ++ List.replicate (2 - (lg_sl ([.ref h0, .int n])).length) Slot.unset).toArray = ls at hl ⊢
  have hl : lv_has ls 2 [(0, .ref h0), (1, .int n)] := hl
  clear hts0 hD0 hAe
  refine my_abs (fun R Q hR hQ => ?_)
  refine lv_iconst (v := 2) hx hb dX1_measureOf_0 (by decide) ?_
  refine lv_aload_n hx hb dX1_measureOf_1 rfl (lv_at hl 0 rfl) ?_
  refine va_get (D := D) (ci := 1) (v := .int op) (C := RX1) (T := TX1) (N := 4) hx hb hts hi_X1 hown hK hP 0 rfl rfl 3 (by decide) (hts _ bw_28) (fun _ h9 => h9) rfl dX1_measureOf_2 ?_
  refine lv_imul hx hb dX1_measureOf_5 ?_
  refine lv_topi (fun y_1 ey_1 => ?_)
  refine lv_iload_n hx hb dX1_measureOf_6 rfl (lv_at hl 1 rfl) ?_
  refine lv_imul hx hb dX1_measureOf_7 ?_
  refine lv_topi (fun y_2 ey_2 => ?_)
  refine lv_bipush (v := 16) hx hb dX1_measureOf_8 (by decide) ?_
  refine lv_iadd hx hb dX1_measureOf_10 ?_
  refine lv_topi (fun y_3 ey_3 => ?_)
  refine lv_bipush (v := 32) hx hb dX1_measureOf_11 (by decide) ?_
  refine lv_idiv hx hb dX1_measureOf_13 (by decide) ?_
  refine lv_topi (fun y_4 ey_4 => ?_)
  have hP9 := hP.sub (ws' := [(h0, .inr (1, [.ref bx, .int ik, .int wy, .int op]))]) [0] rfl
  have hD9 := hD.sub (ws' := [(h0, .inr (1, [.ref bx, .int ik, .int wy, .int op]))]) [0] (by decide) rfl
  have hK9 := hK.sub (tys' := []) [] rfl
  refine hQ _ _ _ _ _ ?_
  exact W.iret (v := y_4) hx hb hr (fun t ht hW => ⟨⟨y_4, (), rfl, (by subst_vars; rfl), ⟨by rw [ht]; exact hP9, va_K.moved hW.alike hK9, hD9⟩⟩, hS.F ht⟩) hS.2.2 dX1_measureOf_14

set_option maxHeartbeats 4000000 in
set_option maxRecDepth 100000 in
theorem k_X1_laid (l : Launch) (D : va_G) (sz : Nat) (h0 bx : Nat) (ik wy op : Int32) (n d v : Int32) (hwy : 0 ≤ wy.toInt ∧ wy.toInt ≤ 12) : Met l yX1_laid (wB yX1_laid cX1_laid 10 (some .int)) ({ frames := 1, cells := 0, slots := 0, locals := 21 }) (cP D [(h0, .inr (1, [.ref bx, .int ik, .int wy, .int op]))] [] sz [.ref h0, .int n, .int d, .int v]) (va_Qi (fun (r : Int32) (_ : Unit) => r = laidP wy n d v) (fun (_ : Unit) (t : State) => cB D (va_A [(h0, .inr (1, [.ref bx, .int ik, .int wy, .int op]))] sz) [(h0, .inr (1, [.ref bx, .int ik, .int wy, .int op]))] [] t) (va_A [(h0, .inr (1, [.ref bx, .int ik, .int wy, .int op]))] sz)) 0 0 (va_A [(h0, .inr (1, [.ref bx, .int ik, .int wy, .int op]))] sz) := by
  refine Met.ofW (cc := cX1_laid) (maxL := 10) (ret := (some .int)) (by decide) rfl ?_
  intro p e s m args below meth c s₁ B hml hv
  obtain ⟨rfl, hsz, hP, hK, hD0, hN⟩ := hv
  have hx := B.exec
  have hb := B.bytes
  have hr := B.returns
  have hts0 := atoms_spec (ws := (wB yX1_laid cX1_laid 10 (some .int))) B.pre
  have hts : ∀ w ∈ bigW, w.before _ s = true := fun w h => hts0 w (List.mem_cons_of_mem _ h)
  have hown : s.vm.findClass RX1 = some m.cls := findClass_of_methodNamed B.named
  have hlocks := B.notSynchronized
  subst hsz
  have hD := hD0.self (sz := s.heap.size)
  generalize hAe : va_A [(h0, .inr (1, [.ref bx, .int ik, .int wy, .int op]))] s.heap.size = A at hD ⊢
  have hA : ∀ q : Nat, s.heap.size ≤ q → A q := fun q h => by rw [← hAe]; exact Or.inr h
  have hS : va_S A s.heap s.heap [] := va_S.rf
  have hP : va_P D vwCl [(h0, .inr (1, [.ref bx, .int ik, .int wy, .int op]))] s.heap := hP
  have hl := lv_entry ([.ref h0, .int n, .int d, .int v]) (n := 10) (Nat.le_of_ble_eq_true rfl)
  rw [lg_entry_eq]
  generalize (lg_sl ([.ref h0, .int n, .int d, .int v]) ++ List.replicate (10 - (lg_sl ([.ref h0, .int n, .int d, .int v])).length) Slot.unset).toArray = ls at hl ⊢
  have hl : lv_has ls 10 [(0, .ref h0), (1, .int n), (2, .int d), (3, .int v)] := hl
  clear hts0 hD0 hAe
  refine my_abs (fun R Q hR hQ => ?_)
  refine lv_aload_n hx hb dX1_laid_0 rfl (lv_at hl 0 rfl) ?_
  refine lv_iload_n hx hb dX1_laid_1 rfl (lv_at hl 2 rfl) ?_
  refine lv_bipush (v := 24) hx hb dX1_laid_2 (by decide) ?_
  have hPc := hP.sub (ws' := []) [] rfl
  have hDc := hD.sub (ws' := []) [] (by decide) rfl
  have hKc := hK.sub (tys' := []) [] rfl
  have hFc := va_free (wc := []) hD hS hA [] rfl
  refine va_calli (va_runSN (host := RX8) (As := [.int d, .int 24]) (rest := [.ref h0]) ⟨hx, hb, hml, hown, hts⟩ (k_X8_channel l D s.heap.size d 24) ⟨va_cnB 2 hts (gI bw_360) rfl rfl rfl (hN.2.1 (RX1, 49, yX8_channel, RX8) (by decide +kernel)) (hts _ bw_223) (by decide +kernel) ⟨(by rw [hR]; exact Nat.le_of_ble_eq_true rfl), (by rw [hR]; exact Nat.le_of_ble_eq_true rfl)⟩, (hts _ bw_361), trivial⟩ ⟨cP_blind, cP_at hPc hKc hDc hN⟩ rfl rfl hl.1 rfl (lv_room (Nat.le_of_ble_eq_true rfl)) dX1_laid_4 ⟨(by rw [hR]; exact Nat.le_of_ble_eq_true rfl), (by rw [hR]; exact Nat.le_of_ble_eq_true rfl)⟩) hS (fun q _ h => hFc q h) hFc (fun r_1 u9 t9 H1 locs ht hvm hr_1 hB hz1 hk1 hS => ?_)
  try dsimp only at hr_1
  have hP1 : va_P D vwCl [] H1 := vP_nil
  have hD1 : va_D (va_A [] s.heap.size) [] := vD_nil
  obtain ⟨hP, hD⟩ := va_join (wr := [(h0, .inr (1, [.ref bx, .int ik, .int wy, .int op]))]) (w1 := []) hP hD [] [0] rfl rfl (by decide) (by decide) hk1 hFc hP1 hD1
  clear hz1 hk1 hFc hKc hDc hPc
  generalize H1 = H at hP hS ⊢
  have hP : va_P D vwCl [(h0, .inr (1, [.ref bx, .int ik, .int wy, .int op]))] H := hP
  have hD : va_D A [(h0, .inr (1, [.ref bx, .int ik, .int wy, .int op]))] := hD
  have hPc := hP.sub (ws' := [(h0, .inr (1, [.ref bx, .int ik, .int wy, .int op]))]) [0] rfl
  have hDc := hD.sub (ws' := [(h0, .inr (1, [.ref bx, .int ik, .int wy, .int op]))]) [0] (by decide) rfl
  have hKc := hK.sub (tys' := []) [] rfl
  have hFc := va_free (wc := [(h0, .inr (1, [.ref bx, .int ik, .int wy, .int op]))]) hD hS hA [0] rfl
  refine va_calli (va_runV (As := [.int r_1]) (rest := []) ⟨hx, hb, hml, hown, hts⟩ (k_X1_weightOfSource l D H.size h0 bx ik wy op r_1 (by first | assumption | omega | decide)) (cwV 1 hts (gV bw_43 bw_50 bw_51 bw_19 bw_49) rfl rfl rfl (by decide +kernel) ⟨(by rw [hR]; exact Nat.le_of_ble_eq_true rfl), (by rw [hR]; exact Nat.le_of_ble_eq_true rfl)⟩) ⟨cP_blind, va_recv hKc hPc (ci := 1) (q0 := 0) rfl rfl, cP_at hPc hKc hDc hN⟩ rfl rfl hl.1 rfl (lv_room (Nat.le_of_ble_eq_true rfl)) dX1_laid_7 ⟨(by rw [hR]; exact Nat.le_of_ble_eq_true rfl), (by rw [hR]; exact Nat.le_of_ble_eq_true rfl)⟩) hS (fun q _ h => hFc q h) hFc (fun r_2 u9 t9 H1 locs ht hvm hr_2 hB hz1 hk1 hS => ?_)
  try dsimp only at hr_2
  obtain ⟨hP1, hK1, hD1⟩ := hB
  rw [ht] at hP1
  obtain ⟨hP, hD⟩ := va_join (wr := []) (w1 := [(h0, .inr (1, [.ref bx, .int ik, .int wy, .int op]))]) hP hD [0] [] rfl rfl (by decide) (by decide) hk1 hFc hP1 hD1
  clear hz1 hk1 hFc hKc hDc hPc
  generalize H1 = H at hP hS ⊢
  have hP : va_P D vwCl [(h0, .inr (1, [.ref bx, .int ik, .int wy, .int op]))] H := hP
  have hD : va_D A [(h0, .inr (1, [.ref bx, .int ik, .int wy, .int op]))] := hD
  refine lv_istore (lv' := [(4, .int r_2), (0, .ref h0), (1, .int n), (2, .int d), (3, .int v)]) hx hb dX1_laid_10 hl (by decide) rfl (fun ls hl => ?_)
  refine lv_aload_n hx hb dX1_laid_12 rfl (lv_at hl 1 rfl) ?_
  refine lv_iload_n hx hb dX1_laid_13 rfl (lv_at hl 2 rfl) ?_
  refine lv_bipush (v := 24) hx hb dX1_laid_14 (by decide) ?_
  have hPc := hP.sub (ws' := []) [] rfl
  have hDc := hD.sub (ws' := []) [] (by decide) rfl
  have hKc := hK.sub (tys' := []) [] rfl
  have hFc := va_free (wc := []) hD hS hA [] rfl
  refine va_calli (va_runSN (host := RX8) (As := [.int n, .int 24]) (rest := [.ref h0]) ⟨hx, hb, hml, hown, hts⟩ (k_X8_channel l D H.size n 24) ⟨va_cnB 2 hts (gI bw_360) rfl rfl rfl (hN.2.1 (RX1, 49, yX8_channel, RX8) (by decide +kernel)) (hts _ bw_223) (by decide +kernel) ⟨(by rw [hR]; exact Nat.le_of_ble_eq_true rfl), (by rw [hR]; exact Nat.le_of_ble_eq_true rfl)⟩, (hts _ bw_361), trivial⟩ ⟨cP_blind, cP_at hPc hKc hDc hN⟩ rfl rfl hl.1 rfl (lv_room (Nat.le_of_ble_eq_true rfl)) dX1_laid_16 ⟨(by rw [hR]; exact Nat.le_of_ble_eq_true rfl), (by rw [hR]; exact Nat.le_of_ble_eq_true rfl)⟩) hS (fun q _ h => hFc q h) hFc (fun r_3 u9 t9 H1 locs ht hvm hr_3 hB hz1 hk1 hS => ?_)
  try dsimp only at hr_3
  have hP1 : va_P D vwCl [] H1 := vP_nil
  have hD1 : va_D (va_A [] H.size) [] := vD_nil
  obtain ⟨hP, hD⟩ := va_join (wr := [(h0, .inr (1, [.ref bx, .int ik, .int wy, .int op]))]) (w1 := []) hP hD [] [0] rfl rfl (by decide) (by decide) hk1 hFc hP1 hD1
  clear hz1 hk1 hFc hKc hDc hPc
  generalize H1 = H at hP hS ⊢
  have hP : va_P D vwCl [(h0, .inr (1, [.ref bx, .int ik, .int wy, .int op]))] H := hP
  have hD : va_D A [(h0, .inr (1, [.ref bx, .int ik, .int wy, .int op]))] := hD
  have hPc := hP.sub (ws' := [(h0, .inr (1, [.ref bx, .int ik, .int wy, .int op]))]) [0] rfl
  have hDc := hD.sub (ws' := [(h0, .inr (1, [.ref bx, .int ik, .int wy, .int op]))]) [0] (by decide) rfl
  have hKc := hK.sub (tys' := []) [] rfl
  have hFc := va_free (wc := [(h0, .inr (1, [.ref bx, .int ik, .int wy, .int op]))]) hD hS hA [0] rfl
  refine va_calli (va_runV (As := [.int r_3]) (rest := []) ⟨hx, hb, hml, hown, hts⟩ (k_X1_weightOfThere l D H.size h0 bx ik wy op r_3 (by first | assumption | omega | decide)) (cwV 1 hts (gV bw_44 bw_53 bw_54 bw_19 bw_52) rfl rfl rfl (by decide +kernel) ⟨(by rw [hR]; exact Nat.le_of_ble_eq_true rfl), (by rw [hR]; exact Nat.le_of_ble_eq_true rfl)⟩) ⟨cP_blind, va_recv hKc hPc (ci := 1) (q0 := 0) rfl rfl, cP_at hPc hKc hDc hN⟩ rfl rfl hl.1 rfl (lv_room (Nat.le_of_ble_eq_true rfl)) dX1_laid_19 ⟨(by rw [hR]; exact Nat.le_of_ble_eq_true rfl), (by rw [hR]; exact Nat.le_of_ble_eq_true rfl)⟩) hS (fun q _ h => hFc q h) hFc (fun r_4 u9 t9 H1 locs ht hvm hr_4 hB hz1 hk1 hS => ?_)
  try dsimp only at hr_4
  obtain ⟨hP1, hK1, hD1⟩ := hB
  rw [ht] at hP1
  obtain ⟨hP, hD⟩ := va_join (wr := []) (w1 := [(h0, .inr (1, [.ref bx, .int ik, .int wy, .int op]))]) hP hD [0] [] rfl rfl (by decide) (by decide) hk1 hFc hP1 hD1
  clear hz1 hk1 hFc hKc hDc hPc
  generalize H1 = H at hP hS ⊢
  have hP : va_P D vwCl [(h0, .inr (1, [.ref bx, .int ik, .int wy, .int op]))] H := hP
  have hD : va_D A [(h0, .inr (1, [.ref bx, .int ik, .int wy, .int op]))] := hD
  refine lv_istore (lv' := [(5, .int r_4), (4, .int r_2), (0, .ref h0), (1, .int n), (2, .int d), (3, .int v)]) hx hb dX1_laid_22 hl (by decide) rfl (fun ls hl => ?_)
  refine lv_iconst (v := 0) hx hb dX1_laid_24 (by decide) ?_
  refine lv_istore (lv' := [(6, .int 0), (5, .int r_4), (4, .int r_2), (0, .ref h0), (1, .int n), (2, .int d), (3, .int v)]) hx hb dX1_laid_25 hl (by decide) rfl (fun ls hl => ?_)
  refine lv_bipush (v := 24) hx hb dX1_laid_27 (by decide) ?_
  refine lv_istore (lv' := [(7, .int 24), (6, .int 0), (5, .int r_4), (4, .int r_2), (0, .ref h0), (1, .int n), (2, .int d), (3, .int v)]) hx hb dX1_laid_29 hl (by decide) rfl (fun ls hl => ?_)
  refine lv_iload hx hb dX1_laid_31 (lv_at hl 0 rfl) ?_
  refine lv_if_lt (tgt := 100) hx hb dX1_laid_33 (by decide) (fun c_5 => ?_) (fun c_5 => ?_)
  · skip
    exact absurd c_5 (by decide)
  · skip
    refine lv_iload_n hx hb dX1_laid_36 rfl (lv_at hl 6 rfl) ?_
    refine lv_iload hx hb dX1_laid_37 (lv_at hl 0 rfl) ?_
    have hPc := hP.sub (ws' := []) [] rfl
    have hDc := hD.sub (ws' := []) [] (by decide) rfl
    have hKc := hK.sub (tys' := []) [] rfl
    have hFc := va_free (wc := []) hD hS hA [] rfl
    refine va_calli (va_runSN (host := RX8) (As := [.int d, .int 24]) (rest := []) ⟨hx, hb, hml, hown, hts⟩ (k_X8_channel l D H.size d 24) ⟨va_cnB 2 hts (gI bw_360) rfl rfl rfl (hN.2.1 (RX1, 49, yX8_channel, RX8) (by decide +kernel)) (hts _ bw_223) (by decide +kernel) ⟨(by rw [hR]; exact Nat.le_of_ble_eq_true rfl), (by rw [hR]; exact Nat.le_of_ble_eq_true rfl)⟩, (hts _ bw_361), trivial⟩ ⟨cP_blind, cP_at hPc hKc hDc hN⟩ rfl rfl hl.1 rfl (lv_room (Nat.le_of_ble_eq_true rfl)) dX1_laid_39 ⟨(by rw [hR]; exact Nat.le_of_ble_eq_true rfl), (by rw [hR]; exact Nat.le_of_ble_eq_true rfl)⟩) hS (fun q _ h => hFc q h) hFc (fun r_7 u9 t9 H1 locs ht hvm hr_7 hB hz1 hk1 hS => ?_)
    try dsimp only at hr_7
    have hP1 : va_P D vwCl [] H1 := vP_nil
    have hD1 : va_D (va_A [] H.size) [] := vD_nil
    obtain ⟨hP, hD⟩ := va_join (wr := [(h0, .inr (1, [.ref bx, .int ik, .int wy, .int op]))]) (w1 := []) hP hD [] [0] rfl rfl (by decide) (by decide) hk1 hFc hP1 hD1
    clear hz1 hk1 hFc hKc hDc hPc
    generalize H1 = H at hP hS ⊢
    have hP : va_P D vwCl [(h0, .inr (1, [.ref bx, .int ik, .int wy, .int op]))] H := hP
    have hD : va_D A [(h0, .inr (1, [.ref bx, .int ik, .int wy, .int op]))] := hD
    refine lv_istore (lv' := [(8, .int r_7), (7, .int 24), (6, .int 0), (5, .int r_4), (4, .int r_2), (0, .ref h0), (1, .int n), (2, .int d), (3, .int v)]) hx hb dX1_laid_42 hl (by decide) rfl (fun ls hl => ?_)
    refine lv_sipush (v := 255) hx hb dX1_laid_44 (by decide) ?_
    refine lv_iload_n hx hb dX1_laid_47 rfl (lv_at hl 6 rfl) ?_
    refine lv_iload hx hb dX1_laid_48 (lv_at hl 1 rfl) ?_
    have hPc := hP.sub (ws' := []) [] rfl
    have hDc := hD.sub (ws' := []) [] (by decide) rfl
    have hKc := hK.sub (tys' := []) [] rfl
    have hFc := va_free (wc := []) hD hS hA [] rfl
    refine va_calli (va_runSN (host := RX8) (As := [.int n, .int 24]) (rest := [.int 255]) ⟨hx, hb, hml, hown, hts⟩ (k_X8_channel l D H.size n 24) ⟨va_cnB 2 hts (gI bw_360) rfl rfl rfl (hN.2.1 (RX1, 49, yX8_channel, RX8) (by decide +kernel)) (hts _ bw_223) (by decide +kernel) ⟨(by rw [hR]; exact Nat.le_of_ble_eq_true rfl), (by rw [hR]; exact Nat.le_of_ble_eq_true rfl)⟩, (hts _ bw_361), trivial⟩ ⟨cP_blind, cP_at hPc hKc hDc hN⟩ rfl rfl hl.1 rfl (lv_room (Nat.le_of_ble_eq_true rfl)) dX1_laid_50 ⟨(by rw [hR]; exact Nat.le_of_ble_eq_true rfl), (by rw [hR]; exact Nat.le_of_ble_eq_true rfl)⟩) hS (fun q _ h => hFc q h) hFc (fun r_8 u9 t9 H1 locs ht hvm hr_8 hB hz1 hk1 hS => ?_)
    try dsimp only at hr_8
    have hP1 : va_P D vwCl [] H1 := vP_nil
    have hD1 : va_D (va_A [] H.size) [] := vD_nil
    obtain ⟨hP, hD⟩ := va_join (wr := [(h0, .inr (1, [.ref bx, .int ik, .int wy, .int op]))]) (w1 := []) hP hD [] [0] rfl rfl (by decide) (by decide) hk1 hFc hP1 hD1
    clear hz1 hk1 hFc hKc hDc hPc
    generalize H1 = H at hP hS ⊢
    have hP : va_P D vwCl [(h0, .inr (1, [.ref bx, .int ik, .int wy, .int op]))] H := hP
    have hD : va_D A [(h0, .inr (1, [.ref bx, .int ik, .int wy, .int op]))] := hD
    refine lv_iload hx hb dX1_laid_53 (lv_at hl 4 rfl) ?_
    refine lv_imul hx hb dX1_laid_55 ?_
    refine lv_topi (fun y_9 ey_9 => ?_)
    refine lv_iload hx hb dX1_laid_56 (lv_at hl 0 rfl) ?_
    refine lv_iload hx hb dX1_laid_58 (lv_at hl 3 rfl) ?_
    refine lv_imul hx hb dX1_laid_60 ?_
    refine lv_topi (fun y_10 ey_10 => ?_)
    refine lv_iadd hx hb dX1_laid_61 ?_
    refine lv_topi (fun y_11 ey_11 => ?_)
    have hPc := hP.sub (ws' := []) [] rfl
    have hDc := hD.sub (ws' := []) [] (by decide) rfl
    have hKc := hK.sub (tys' := []) [] rfl
    have hFc := va_free (wc := []) hD hS hA [] rfl
    refine va_calli (va_runSN (host := RX8) (As := [.int y_11]) (rest := [.int 255]) ⟨hx, hb, hml, hown, hts⟩ (k_X8_shareOfFull l D H.size y_11) ⟨va_cnB 1 hts (gI bw_358) rfl rfl rfl (hN.2.1 (RX1, 59, yX8_shareOfFull, RX8) (by decide +kernel)) (hts _ bw_223) (by decide +kernel) ⟨(by rw [hR]; exact Nat.le_of_ble_eq_true rfl), (by rw [hR]; exact Nat.le_of_ble_eq_true rfl)⟩, (hts _ bw_359), trivial⟩ ⟨cP_blind, cP_at hPc hKc hDc hN⟩ rfl rfl hl.1 rfl (lv_room (Nat.le_of_ble_eq_true rfl)) dX1_laid_62 ⟨(by rw [hR]; exact Nat.le_of_ble_eq_true rfl), (by rw [hR]; exact Nat.le_of_ble_eq_true rfl)⟩) hS (fun q _ h => hFc q h) hFc (fun r_12 u9 t9 H1 locs ht hvm hr_12 hB hz1 hk1 hS => ?_)
    try dsimp only at hr_12
    have hP1 : va_P D vwCl [] H1 := vP_nil
    have hD1 : va_D (va_A [] H.size) [] := vD_nil
    obtain ⟨hP, hD⟩ := va_join (wr := [(h0, .inr (1, [.ref bx, .int ik, .int wy, .int op]))]) (w1 := []) hP hD [] [0] rfl rfl (by decide) (by decide) hk1 hFc hP1 hD1
    clear hz1 hk1 hFc hKc hDc hPc
    generalize H1 = H at hP hS ⊢
    have hP : va_P D vwCl [(h0, .inr (1, [.ref bx, .int ik, .int wy, .int op]))] H := hP
    have hD : va_D A [(h0, .inr (1, [.ref bx, .int ik, .int wy, .int op]))] := hD
    refine va_mmin hx hb (by rw [hml]; exact hl.1.symm) hown (hts _ bw_45) (hts _ bw_46) (hts _ bw_47) (hts _ bw_48) (by rw [hR]; exact Nat.le_of_ble_eq_true rfl) (by rw [hR]; exact Nat.le_of_ble_eq_true rfl) (by rw [hR]; exact Nat.le_of_ble_eq_true rfl) (by rw [hR]; exact Nat.le_of_ble_eq_true rfl) dX1_laid_65 ?_
    refine lv_topi (fun y_13 ey_13 => ?_)
    refine lv_istore (lv' := [(9, .int y_13), (8, .int r_7), (7, .int 24), (6, .int 0), (5, .int r_4), (4, .int r_2), (0, .ref h0), (1, .int n), (2, .int d), (3, .int v)]) hx hb dX1_laid_68 hl (by decide) rfl (fun ls hl => ?_)
    refine lv_iload hx hb dX1_laid_70 (lv_at hl 3 rfl) ?_
    refine lv_bipush (v := 8) hx hb dX1_laid_72 (by decide) ?_
    refine lv_ishl hx hb dX1_laid_74 ?_
    refine my_fold (v := 0) (by decide) ?_
    refine lv_iload hx hb dX1_laid_75 (lv_at hl 0 rfl) ?_
    refine lv_iload_n hx hb dX1_laid_77 rfl (lv_at hl 9 rfl) ?_
    refine lv_imul hx hb dX1_laid_78 ?_
    refine lv_topi (fun y_14 ey_14 => ?_)
    refine lv_iload hx hb dX1_laid_79 (lv_at hl 1 rfl) ?_
    refine lv_sipush (v := 255) hx hb dX1_laid_81 (by decide) ?_
    refine lv_iload_n hx hb dX1_laid_84 rfl (lv_at hl 9 rfl) ?_
    refine lv_isub hx hb dX1_laid_85 ?_
    refine lv_topi (fun y_15 ey_15 => ?_)
    refine lv_imul hx hb dX1_laid_86 ?_
    refine lv_topi (fun y_16 ey_16 => ?_)
    refine lv_iadd hx hb dX1_laid_87 ?_
    refine lv_topi (fun y_17 ey_17 => ?_)
    have hPc := hP.sub (ws' := []) [] rfl
    have hDc := hD.sub (ws' := []) [] (by decide) rfl
    have hKc := hK.sub (tys' := []) [] rfl
    have hFc := va_free (wc := []) hD hS hA [] rfl
    refine va_calli (va_runSN (host := RX8) (As := [.int y_17]) (rest := [.int 0]) ⟨hx, hb, hml, hown, hts⟩ (k_X8_shareOfFull l D H.size y_17) ⟨va_cnB 1 hts (gI bw_358) rfl rfl rfl (hN.2.1 (RX1, 59, yX8_shareOfFull, RX8) (by decide +kernel)) (hts _ bw_223) (by decide +kernel) ⟨(by rw [hR]; exact Nat.le_of_ble_eq_true rfl), (by rw [hR]; exact Nat.le_of_ble_eq_true rfl)⟩, (hts _ bw_359), trivial⟩ ⟨cP_blind, cP_at hPc hKc hDc hN⟩ rfl rfl hl.1 rfl (lv_room (Nat.le_of_ble_eq_true rfl)) dX1_laid_88 ⟨(by rw [hR]; exact Nat.le_of_ble_eq_true rfl), (by rw [hR]; exact Nat.le_of_ble_eq_true rfl)⟩) hS (fun q _ h => hFc q h) hFc (fun r_18 u9 t9 H1 locs ht hvm hr_18 hB hz1 hk1 hS => ?_)
    try dsimp only at hr_18
    have hP1 : va_P D vwCl [] H1 := vP_nil
    have hD1 : va_D (va_A [] H.size) [] := vD_nil
    obtain ⟨hP, hD⟩ := va_join (wr := [(h0, .inr (1, [.ref bx, .int ik, .int wy, .int op]))]) (w1 := []) hP hD [] [0] rfl rfl (by decide) (by decide) hk1 hFc hP1 hD1
    clear hz1 hk1 hFc hKc hDc hPc
    generalize H1 = H at hP hS ⊢
    have hP : va_P D vwCl [(h0, .inr (1, [.ref bx, .int ik, .int wy, .int op]))] H := hP
    have hD : va_D A [(h0, .inr (1, [.ref bx, .int ik, .int wy, .int op]))] := hD
    refine lv_ior hx hb dX1_laid_91 ?_
    refine lv_topi (fun y_19 ey_19 => ?_)
    refine lv_istore (lv' := [(6, .int y_19), (9, .int y_13), (8, .int r_7), (7, .int 24), (5, .int r_4), (4, .int r_2), (0, .ref h0), (1, .int n), (2, .int d), (3, .int v)]) hx hb dX1_laid_92 hl (by decide) rfl (fun ls hl => ?_)
    refine lv_iinc (v := 16) (lv' := [(7, .int 16), (6, .int y_19), (9, .int y_13), (8, .int r_7), (5, .int r_4), (4, .int r_2), (0, .ref h0), (1, .int n), (2, .int d), (3, .int v)]) hx hb dX1_laid_94 hl (k := 3) rfl (by decide) (by decide) rfl (fun ls hl => ?_)
    refine lv_goto (tgt := 31) hx hb dX1_laid_97 (by decide) ?_
    refine lv_iload hx hb dX1_laid_31 (lv_at hl 0 rfl) ?_
    refine lv_if_lt (tgt := 100) hx hb dX1_laid_33 (by decide) (fun c_20 => ?_) (fun c_20 => ?_)
    · skip
      exact absurd c_20 (by decide)
    · skip
      refine lv_iload_n hx hb dX1_laid_36 rfl (lv_at hl 8 rfl) ?_
      refine lv_iload hx hb dX1_laid_37 (lv_at hl 0 rfl) ?_
      have hPc := hP.sub (ws' := []) [] rfl
      have hDc := hD.sub (ws' := []) [] (by decide) rfl
      have hKc := hK.sub (tys' := []) [] rfl
      have hFc := va_free (wc := []) hD hS hA [] rfl
      refine va_calli (va_runSN (host := RX8) (As := [.int d, .int 16]) (rest := []) ⟨hx, hb, hml, hown, hts⟩ (k_X8_channel l D H.size d 16) ⟨va_cnB 2 hts (gI bw_360) rfl rfl rfl (hN.2.1 (RX1, 49, yX8_channel, RX8) (by decide +kernel)) (hts _ bw_223) (by decide +kernel) ⟨(by rw [hR]; exact Nat.le_of_ble_eq_true rfl), (by rw [hR]; exact Nat.le_of_ble_eq_true rfl)⟩, (hts _ bw_361), trivial⟩ ⟨cP_blind, cP_at hPc hKc hDc hN⟩ rfl rfl hl.1 rfl (lv_room (Nat.le_of_ble_eq_true rfl)) dX1_laid_39 ⟨(by rw [hR]; exact Nat.le_of_ble_eq_true rfl), (by rw [hR]; exact Nat.le_of_ble_eq_true rfl)⟩) hS (fun q _ h => hFc q h) hFc (fun r_22 u9 t9 H1 locs ht hvm hr_22 hB hz1 hk1 hS => ?_)
      try dsimp only at hr_22
      have hP1 : va_P D vwCl [] H1 := vP_nil
      have hD1 : va_D (va_A [] H.size) [] := vD_nil
      obtain ⟨hP, hD⟩ := va_join (wr := [(h0, .inr (1, [.ref bx, .int ik, .int wy, .int op]))]) (w1 := []) hP hD [] [0] rfl rfl (by decide) (by decide) hk1 hFc hP1 hD1
      clear hz1 hk1 hFc hKc hDc hPc
      generalize H1 = H at hP hS ⊢
      have hP : va_P D vwCl [(h0, .inr (1, [.ref bx, .int ik, .int wy, .int op]))] H := hP
      have hD : va_D A [(h0, .inr (1, [.ref bx, .int ik, .int wy, .int op]))] := hD
      refine lv_istore (lv' := [(8, .int r_22), (7, .int 16), (6, .int y_19), (9, .int y_13), (5, .int r_4), (4, .int r_2), (0, .ref h0), (1, .int n), (2, .int d), (3, .int v)]) hx hb dX1_laid_42 hl (by decide) rfl (fun ls hl => ?_)
      refine lv_sipush (v := 255) hx hb dX1_laid_44 (by decide) ?_
      refine lv_iload_n hx hb dX1_laid_47 rfl (lv_at hl 7 rfl) ?_
      refine lv_iload hx hb dX1_laid_48 (lv_at hl 1 rfl) ?_
      have hPc := hP.sub (ws' := []) [] rfl
      have hDc := hD.sub (ws' := []) [] (by decide) rfl
      have hKc := hK.sub (tys' := []) [] rfl
      have hFc := va_free (wc := []) hD hS hA [] rfl
      refine va_calli (va_runSN (host := RX8) (As := [.int n, .int 16]) (rest := [.int 255]) ⟨hx, hb, hml, hown, hts⟩ (k_X8_channel l D H.size n 16) ⟨va_cnB 2 hts (gI bw_360) rfl rfl rfl (hN.2.1 (RX1, 49, yX8_channel, RX8) (by decide +kernel)) (hts _ bw_223) (by decide +kernel) ⟨(by rw [hR]; exact Nat.le_of_ble_eq_true rfl), (by rw [hR]; exact Nat.le_of_ble_eq_true rfl)⟩, (hts _ bw_361), trivial⟩ ⟨cP_blind, cP_at hPc hKc hDc hN⟩ rfl rfl hl.1 rfl (lv_room (Nat.le_of_ble_eq_true rfl)) dX1_laid_50 ⟨(by rw [hR]; exact Nat.le_of_ble_eq_true rfl), (by rw [hR]; exact Nat.le_of_ble_eq_true rfl)⟩) hS (fun q _ h => hFc q h) hFc (fun r_23 u9 t9 H1 locs ht hvm hr_23 hB hz1 hk1 hS => ?_)
      try dsimp only at hr_23
      have hP1 : va_P D vwCl [] H1 := vP_nil
      have hD1 : va_D (va_A [] H.size) [] := vD_nil
      obtain ⟨hP, hD⟩ := va_join (wr := [(h0, .inr (1, [.ref bx, .int ik, .int wy, .int op]))]) (w1 := []) hP hD [] [0] rfl rfl (by decide) (by decide) hk1 hFc hP1 hD1
      clear hz1 hk1 hFc hKc hDc hPc
      generalize H1 = H at hP hS ⊢
      have hP : va_P D vwCl [(h0, .inr (1, [.ref bx, .int ik, .int wy, .int op]))] H := hP
      have hD : va_D A [(h0, .inr (1, [.ref bx, .int ik, .int wy, .int op]))] := hD
      refine lv_iload hx hb dX1_laid_53 (lv_at hl 5 rfl) ?_
      refine lv_imul hx hb dX1_laid_55 ?_
      refine lv_topi (fun y_24 ey_24 => ?_)
      refine lv_iload hx hb dX1_laid_56 (lv_at hl 0 rfl) ?_
      refine lv_iload hx hb dX1_laid_58 (lv_at hl 4 rfl) ?_
      refine lv_imul hx hb dX1_laid_60 ?_
      refine lv_topi (fun y_25 ey_25 => ?_)
      refine lv_iadd hx hb dX1_laid_61 ?_
      refine lv_topi (fun y_26 ey_26 => ?_)
      have hPc := hP.sub (ws' := []) [] rfl
      have hDc := hD.sub (ws' := []) [] (by decide) rfl
      have hKc := hK.sub (tys' := []) [] rfl
      have hFc := va_free (wc := []) hD hS hA [] rfl
      refine va_calli (va_runSN (host := RX8) (As := [.int y_26]) (rest := [.int 255]) ⟨hx, hb, hml, hown, hts⟩ (k_X8_shareOfFull l D H.size y_26) ⟨va_cnB 1 hts (gI bw_358) rfl rfl rfl (hN.2.1 (RX1, 59, yX8_shareOfFull, RX8) (by decide +kernel)) (hts _ bw_223) (by decide +kernel) ⟨(by rw [hR]; exact Nat.le_of_ble_eq_true rfl), (by rw [hR]; exact Nat.le_of_ble_eq_true rfl)⟩, (hts _ bw_359), trivial⟩ ⟨cP_blind, cP_at hPc hKc hDc hN⟩ rfl rfl hl.1 rfl (lv_room (Nat.le_of_ble_eq_true rfl)) dX1_laid_62 ⟨(by rw [hR]; exact Nat.le_of_ble_eq_true rfl), (by rw [hR]; exact Nat.le_of_ble_eq_true rfl)⟩) hS (fun q _ h => hFc q h) hFc (fun r_27 u9 t9 H1 locs ht hvm hr_27 hB hz1 hk1 hS => ?_)
      try dsimp only at hr_27
      have hP1 : va_P D vwCl [] H1 := vP_nil
      have hD1 : va_D (va_A [] H.size) [] := vD_nil
      obtain ⟨hP, hD⟩ := va_join (wr := [(h0, .inr (1, [.ref bx, .int ik, .int wy, .int op]))]) (w1 := []) hP hD [] [0] rfl rfl (by decide) (by decide) hk1 hFc hP1 hD1
      clear hz1 hk1 hFc hKc hDc hPc
      generalize H1 = H at hP hS ⊢
      have hP : va_P D vwCl [(h0, .inr (1, [.ref bx, .int ik, .int wy, .int op]))] H := hP
      have hD : va_D A [(h0, .inr (1, [.ref bx, .int ik, .int wy, .int op]))] := hD
      refine va_mmin hx hb (by rw [hml]; exact hl.1.symm) hown (hts _ bw_45) (hts _ bw_46) (hts _ bw_47) (hts _ bw_48) (by rw [hR]; exact Nat.le_of_ble_eq_true rfl) (by rw [hR]; exact Nat.le_of_ble_eq_true rfl) (by rw [hR]; exact Nat.le_of_ble_eq_true rfl) (by rw [hR]; exact Nat.le_of_ble_eq_true rfl) dX1_laid_65 ?_
      refine lv_topi (fun y_28 ey_28 => ?_)
      refine lv_istore (lv' := [(9, .int y_28), (8, .int r_22), (7, .int 16), (6, .int y_19), (5, .int r_4), (4, .int r_2), (0, .ref h0), (1, .int n), (2, .int d), (3, .int v)]) hx hb dX1_laid_68 hl (by decide) rfl (fun ls hl => ?_)
      refine lv_iload hx hb dX1_laid_70 (lv_at hl 3 rfl) ?_
      refine lv_bipush (v := 8) hx hb dX1_laid_72 (by decide) ?_
      refine lv_ishl hx hb dX1_laid_74 ?_
      refine lv_topi (fun y_29 ey_29 => ?_)
      refine lv_iload hx hb dX1_laid_75 (lv_at hl 0 rfl) ?_
      refine lv_iload_n hx hb dX1_laid_77 rfl (lv_at hl 9 rfl) ?_
      refine lv_imul hx hb dX1_laid_78 ?_
      refine lv_topi (fun y_30 ey_30 => ?_)
      refine lv_iload hx hb dX1_laid_79 (lv_at hl 1 rfl) ?_
      refine lv_sipush (v := 255) hx hb dX1_laid_81 (by decide) ?_
      refine lv_iload_n hx hb dX1_laid_84 rfl (lv_at hl 9 rfl) ?_
      refine lv_isub hx hb dX1_laid_85 ?_
      refine lv_topi (fun y_31 ey_31 => ?_)
      refine lv_imul hx hb dX1_laid_86 ?_
      refine lv_topi (fun y_32 ey_32 => ?_)
      refine lv_iadd hx hb dX1_laid_87 ?_
      refine lv_topi (fun y_33 ey_33 => ?_)
      have hPc := hP.sub (ws' := []) [] rfl
      have hDc := hD.sub (ws' := []) [] (by decide) rfl
      have hKc := hK.sub (tys' := []) [] rfl
      have hFc := va_free (wc := []) hD hS hA [] rfl
      refine va_calli (va_runSN (host := RX8) (As := [.int y_33]) (rest := [.int y_29]) ⟨hx, hb, hml, hown, hts⟩ (k_X8_shareOfFull l D H.size y_33) ⟨va_cnB 1 hts (gI bw_358) rfl rfl rfl (hN.2.1 (RX1, 59, yX8_shareOfFull, RX8) (by decide +kernel)) (hts _ bw_223) (by decide +kernel) ⟨(by rw [hR]; exact Nat.le_of_ble_eq_true rfl), (by rw [hR]; exact Nat.le_of_ble_eq_true rfl)⟩, (hts _ bw_359), trivial⟩ ⟨cP_blind, cP_at hPc hKc hDc hN⟩ rfl rfl hl.1 rfl (lv_room (Nat.le_of_ble_eq_true rfl)) dX1_laid_88 ⟨(by rw [hR]; exact Nat.le_of_ble_eq_true rfl), (by rw [hR]; exact Nat.le_of_ble_eq_true rfl)⟩) hS (fun q _ h => hFc q h) hFc (fun r_34 u9 t9 H1 locs ht hvm hr_34 hB hz1 hk1 hS => ?_)
      try dsimp only at hr_34
      have hP1 : va_P D vwCl [] H1 := vP_nil
      have hD1 : va_D (va_A [] H.size) [] := vD_nil
      obtain ⟨hP, hD⟩ := va_join (wr := [(h0, .inr (1, [.ref bx, .int ik, .int wy, .int op]))]) (w1 := []) hP hD [] [0] rfl rfl (by decide) (by decide) hk1 hFc hP1 hD1
      clear hz1 hk1 hFc hKc hDc hPc
      generalize H1 = H at hP hS ⊢
      have hP : va_P D vwCl [(h0, .inr (1, [.ref bx, .int ik, .int wy, .int op]))] H := hP
      have hD : va_D A [(h0, .inr (1, [.ref bx, .int ik, .int wy, .int op]))] := hD
      refine lv_ior hx hb dX1_laid_91 ?_
      refine lv_topi (fun y_35 ey_35 => ?_)
      refine lv_istore (lv' := [(6, .int y_35), (9, .int y_28), (8, .int r_22), (7, .int 16), (5, .int r_4), (4, .int r_2), (0, .ref h0), (1, .int n), (2, .int d), (3, .int v)]) hx hb dX1_laid_92 hl (by decide) rfl (fun ls hl => ?_)
      refine lv_iinc (v := 8) (lv' := [(7, .int 8), (6, .int y_35), (9, .int y_28), (8, .int r_22), (5, .int r_4), (4, .int r_2), (0, .ref h0), (1, .int n), (2, .int d), (3, .int v)]) hx hb dX1_laid_94 hl (k := 3) rfl (by decide) (by decide) rfl (fun ls hl => ?_)
      refine lv_goto (tgt := 31) hx hb dX1_laid_97 (by decide) ?_
      refine lv_iload hx hb dX1_laid_31 (lv_at hl 0 rfl) ?_
      refine lv_if_lt (tgt := 100) hx hb dX1_laid_33 (by decide) (fun c_36 => ?_) (fun c_36 => ?_)
      · skip
        exact absurd c_36 (by decide)
      · skip
        refine lv_iload_n hx hb dX1_laid_36 rfl (lv_at hl 8 rfl) ?_
        refine lv_iload hx hb dX1_laid_37 (lv_at hl 0 rfl) ?_
        have hPc := hP.sub (ws' := []) [] rfl
        have hDc := hD.sub (ws' := []) [] (by decide) rfl
        have hKc := hK.sub (tys' := []) [] rfl
        have hFc := va_free (wc := []) hD hS hA [] rfl
        refine va_calli (va_runSN (host := RX8) (As := [.int d, .int 8]) (rest := []) ⟨hx, hb, hml, hown, hts⟩ (k_X8_channel l D H.size d 8) ⟨va_cnB 2 hts (gI bw_360) rfl rfl rfl (hN.2.1 (RX1, 49, yX8_channel, RX8) (by decide +kernel)) (hts _ bw_223) (by decide +kernel) ⟨(by rw [hR]; exact Nat.le_of_ble_eq_true rfl), (by rw [hR]; exact Nat.le_of_ble_eq_true rfl)⟩, (hts _ bw_361), trivial⟩ ⟨cP_blind, cP_at hPc hKc hDc hN⟩ rfl rfl hl.1 rfl (lv_room (Nat.le_of_ble_eq_true rfl)) dX1_laid_39 ⟨(by rw [hR]; exact Nat.le_of_ble_eq_true rfl), (by rw [hR]; exact Nat.le_of_ble_eq_true rfl)⟩) hS (fun q _ h => hFc q h) hFc (fun r_38 u9 t9 H1 locs ht hvm hr_38 hB hz1 hk1 hS => ?_)
        try dsimp only at hr_38
        have hP1 : va_P D vwCl [] H1 := vP_nil
        have hD1 : va_D (va_A [] H.size) [] := vD_nil
        obtain ⟨hP, hD⟩ := va_join (wr := [(h0, .inr (1, [.ref bx, .int ik, .int wy, .int op]))]) (w1 := []) hP hD [] [0] rfl rfl (by decide) (by decide) hk1 hFc hP1 hD1
        clear hz1 hk1 hFc hKc hDc hPc
        generalize H1 = H at hP hS ⊢
        have hP : va_P D vwCl [(h0, .inr (1, [.ref bx, .int ik, .int wy, .int op]))] H := hP
        have hD : va_D A [(h0, .inr (1, [.ref bx, .int ik, .int wy, .int op]))] := hD
        refine lv_istore (lv' := [(8, .int r_38), (7, .int 8), (6, .int y_35), (9, .int y_28), (5, .int r_4), (4, .int r_2), (0, .ref h0), (1, .int n), (2, .int d), (3, .int v)]) hx hb dX1_laid_42 hl (by decide) rfl (fun ls hl => ?_)
        refine lv_sipush (v := 255) hx hb dX1_laid_44 (by decide) ?_
        refine lv_iload_n hx hb dX1_laid_47 rfl (lv_at hl 7 rfl) ?_
        refine lv_iload hx hb dX1_laid_48 (lv_at hl 1 rfl) ?_
        have hPc := hP.sub (ws' := []) [] rfl
        have hDc := hD.sub (ws' := []) [] (by decide) rfl
        have hKc := hK.sub (tys' := []) [] rfl
        have hFc := va_free (wc := []) hD hS hA [] rfl
        refine va_calli (va_runSN (host := RX8) (As := [.int n, .int 8]) (rest := [.int 255]) ⟨hx, hb, hml, hown, hts⟩ (k_X8_channel l D H.size n 8) ⟨va_cnB 2 hts (gI bw_360) rfl rfl rfl (hN.2.1 (RX1, 49, yX8_channel, RX8) (by decide +kernel)) (hts _ bw_223) (by decide +kernel) ⟨(by rw [hR]; exact Nat.le_of_ble_eq_true rfl), (by rw [hR]; exact Nat.le_of_ble_eq_true rfl)⟩, (hts _ bw_361), trivial⟩ ⟨cP_blind, cP_at hPc hKc hDc hN⟩ rfl rfl hl.1 rfl (lv_room (Nat.le_of_ble_eq_true rfl)) dX1_laid_50 ⟨(by rw [hR]; exact Nat.le_of_ble_eq_true rfl), (by rw [hR]; exact Nat.le_of_ble_eq_true rfl)⟩) hS (fun q _ h => hFc q h) hFc (fun r_39 u9 t9 H1 locs ht hvm hr_39 hB hz1 hk1 hS => ?_)
        try dsimp only at hr_39
        have hP1 : va_P D vwCl [] H1 := vP_nil
        have hD1 : va_D (va_A [] H.size) [] := vD_nil
        obtain ⟨hP, hD⟩ := va_join (wr := [(h0, .inr (1, [.ref bx, .int ik, .int wy, .int op]))]) (w1 := []) hP hD [] [0] rfl rfl (by decide) (by decide) hk1 hFc hP1 hD1
        clear hz1 hk1 hFc hKc hDc hPc
        generalize H1 = H at hP hS ⊢
        have hP : va_P D vwCl [(h0, .inr (1, [.ref bx, .int ik, .int wy, .int op]))] H := hP
        have hD : va_D A [(h0, .inr (1, [.ref bx, .int ik, .int wy, .int op]))] := hD
        refine lv_iload hx hb dX1_laid_53 (lv_at hl 5 rfl) ?_
        refine lv_imul hx hb dX1_laid_55 ?_
        refine lv_topi (fun y_40 ey_40 => ?_)
        refine lv_iload hx hb dX1_laid_56 (lv_at hl 0 rfl) ?_
        refine lv_iload hx hb dX1_laid_58 (lv_at hl 4 rfl) ?_
        refine lv_imul hx hb dX1_laid_60 ?_
        refine lv_topi (fun y_41 ey_41 => ?_)
        refine lv_iadd hx hb dX1_laid_61 ?_
        refine lv_topi (fun y_42 ey_42 => ?_)
        have hPc := hP.sub (ws' := []) [] rfl
        have hDc := hD.sub (ws' := []) [] (by decide) rfl
        have hKc := hK.sub (tys' := []) [] rfl
        have hFc := va_free (wc := []) hD hS hA [] rfl
        refine va_calli (va_runSN (host := RX8) (As := [.int y_42]) (rest := [.int 255]) ⟨hx, hb, hml, hown, hts⟩ (k_X8_shareOfFull l D H.size y_42) ⟨va_cnB 1 hts (gI bw_358) rfl rfl rfl (hN.2.1 (RX1, 59, yX8_shareOfFull, RX8) (by decide +kernel)) (hts _ bw_223) (by decide +kernel) ⟨(by rw [hR]; exact Nat.le_of_ble_eq_true rfl), (by rw [hR]; exact Nat.le_of_ble_eq_true rfl)⟩, (hts _ bw_359), trivial⟩ ⟨cP_blind, cP_at hPc hKc hDc hN⟩ rfl rfl hl.1 rfl (lv_room (Nat.le_of_ble_eq_true rfl)) dX1_laid_62 ⟨(by rw [hR]; exact Nat.le_of_ble_eq_true rfl), (by rw [hR]; exact Nat.le_of_ble_eq_true rfl)⟩) hS (fun q _ h => hFc q h) hFc (fun r_43 u9 t9 H1 locs ht hvm hr_43 hB hz1 hk1 hS => ?_)
        try dsimp only at hr_43
        have hP1 : va_P D vwCl [] H1 := vP_nil
        have hD1 : va_D (va_A [] H.size) [] := vD_nil
        obtain ⟨hP, hD⟩ := va_join (wr := [(h0, .inr (1, [.ref bx, .int ik, .int wy, .int op]))]) (w1 := []) hP hD [] [0] rfl rfl (by decide) (by decide) hk1 hFc hP1 hD1
        clear hz1 hk1 hFc hKc hDc hPc
        generalize H1 = H at hP hS ⊢
        have hP : va_P D vwCl [(h0, .inr (1, [.ref bx, .int ik, .int wy, .int op]))] H := hP
        have hD : va_D A [(h0, .inr (1, [.ref bx, .int ik, .int wy, .int op]))] := hD
        refine va_mmin hx hb (by rw [hml]; exact hl.1.symm) hown (hts _ bw_45) (hts _ bw_46) (hts _ bw_47) (hts _ bw_48) (by rw [hR]; exact Nat.le_of_ble_eq_true rfl) (by rw [hR]; exact Nat.le_of_ble_eq_true rfl) (by rw [hR]; exact Nat.le_of_ble_eq_true rfl) (by rw [hR]; exact Nat.le_of_ble_eq_true rfl) dX1_laid_65 ?_
        refine lv_topi (fun y_44 ey_44 => ?_)
        refine lv_istore (lv' := [(9, .int y_44), (8, .int r_38), (7, .int 8), (6, .int y_35), (5, .int r_4), (4, .int r_2), (0, .ref h0), (1, .int n), (2, .int d), (3, .int v)]) hx hb dX1_laid_68 hl (by decide) rfl (fun ls hl => ?_)
        refine lv_iload hx hb dX1_laid_70 (lv_at hl 3 rfl) ?_
        refine lv_bipush (v := 8) hx hb dX1_laid_72 (by decide) ?_
        refine lv_ishl hx hb dX1_laid_74 ?_
        refine lv_topi (fun y_45 ey_45 => ?_)
        refine lv_iload hx hb dX1_laid_75 (lv_at hl 0 rfl) ?_
        refine lv_iload_n hx hb dX1_laid_77 rfl (lv_at hl 9 rfl) ?_
        refine lv_imul hx hb dX1_laid_78 ?_
        refine lv_topi (fun y_46 ey_46 => ?_)
        refine lv_iload hx hb dX1_laid_79 (lv_at hl 1 rfl) ?_
        refine lv_sipush (v := 255) hx hb dX1_laid_81 (by decide) ?_
        refine lv_iload_n hx hb dX1_laid_84 rfl (lv_at hl 9 rfl) ?_
        refine lv_isub hx hb dX1_laid_85 ?_
        refine lv_topi (fun y_47 ey_47 => ?_)
        refine lv_imul hx hb dX1_laid_86 ?_
        refine lv_topi (fun y_48 ey_48 => ?_)
        refine lv_iadd hx hb dX1_laid_87 ?_
        refine lv_topi (fun y_49 ey_49 => ?_)
        have hPc := hP.sub (ws' := []) [] rfl
        have hDc := hD.sub (ws' := []) [] (by decide) rfl
        have hKc := hK.sub (tys' := []) [] rfl
        have hFc := va_free (wc := []) hD hS hA [] rfl
        refine va_calli (va_runSN (host := RX8) (As := [.int y_49]) (rest := [.int y_45]) ⟨hx, hb, hml, hown, hts⟩ (k_X8_shareOfFull l D H.size y_49) ⟨va_cnB 1 hts (gI bw_358) rfl rfl rfl (hN.2.1 (RX1, 59, yX8_shareOfFull, RX8) (by decide +kernel)) (hts _ bw_223) (by decide +kernel) ⟨(by rw [hR]; exact Nat.le_of_ble_eq_true rfl), (by rw [hR]; exact Nat.le_of_ble_eq_true rfl)⟩, (hts _ bw_359), trivial⟩ ⟨cP_blind, cP_at hPc hKc hDc hN⟩ rfl rfl hl.1 rfl (lv_room (Nat.le_of_ble_eq_true rfl)) dX1_laid_88 ⟨(by rw [hR]; exact Nat.le_of_ble_eq_true rfl), (by rw [hR]; exact Nat.le_of_ble_eq_true rfl)⟩) hS (fun q _ h => hFc q h) hFc (fun r_50 u9 t9 H1 locs ht hvm hr_50 hB hz1 hk1 hS => ?_)
        try dsimp only at hr_50
        have hP1 : va_P D vwCl [] H1 := vP_nil
        have hD1 : va_D (va_A [] H.size) [] := vD_nil
        obtain ⟨hP, hD⟩ := va_join (wr := [(h0, .inr (1, [.ref bx, .int ik, .int wy, .int op]))]) (w1 := []) hP hD [] [0] rfl rfl (by decide) (by decide) hk1 hFc hP1 hD1
        clear hz1 hk1 hFc hKc hDc hPc
        generalize H1 = H at hP hS ⊢
        have hP : va_P D vwCl [(h0, .inr (1, [.ref bx, .int ik, .int wy, .int op]))] H := hP
        have hD : va_D A [(h0, .inr (1, [.ref bx, .int ik, .int wy, .int op]))] := hD
        refine lv_ior hx hb dX1_laid_91 ?_
        refine lv_topi (fun y_51 ey_51 => ?_)
        refine lv_istore (lv' := [(6, .int y_51), (9, .int y_44), (8, .int r_38), (7, .int 8), (5, .int r_4), (4, .int r_2), (0, .ref h0), (1, .int n), (2, .int d), (3, .int v)]) hx hb dX1_laid_92 hl (by decide) rfl (fun ls hl => ?_)
        refine lv_iinc (v := 0) (lv' := [(7, .int 0), (6, .int y_51), (9, .int y_44), (8, .int r_38), (5, .int r_4), (4, .int r_2), (0, .ref h0), (1, .int n), (2, .int d), (3, .int v)]) hx hb dX1_laid_94 hl (k := 3) rfl (by decide) (by decide) rfl (fun ls hl => ?_)
        refine lv_goto (tgt := 31) hx hb dX1_laid_97 (by decide) ?_
        refine lv_iload hx hb dX1_laid_31 (lv_at hl 0 rfl) ?_
        refine lv_if_lt (tgt := 100) hx hb dX1_laid_33 (by decide) (fun c_52 => ?_) (fun c_52 => ?_)
        · skip
          exact absurd c_52 (by decide)
        · skip
          refine lv_iload_n hx hb dX1_laid_36 rfl (lv_at hl 8 rfl) ?_
          refine lv_iload hx hb dX1_laid_37 (lv_at hl 0 rfl) ?_
          have hPc := hP.sub (ws' := []) [] rfl
          have hDc := hD.sub (ws' := []) [] (by decide) rfl
          have hKc := hK.sub (tys' := []) [] rfl
          have hFc := va_free (wc := []) hD hS hA [] rfl
          refine va_calli (va_runSN (host := RX8) (As := [.int d, .int 0]) (rest := []) ⟨hx, hb, hml, hown, hts⟩ (k_X8_channel l D H.size d 0) ⟨va_cnB 2 hts (gI bw_360) rfl rfl rfl (hN.2.1 (RX1, 49, yX8_channel, RX8) (by decide +kernel)) (hts _ bw_223) (by decide +kernel) ⟨(by rw [hR]; exact Nat.le_of_ble_eq_true rfl), (by rw [hR]; exact Nat.le_of_ble_eq_true rfl)⟩, (hts _ bw_361), trivial⟩ ⟨cP_blind, cP_at hPc hKc hDc hN⟩ rfl rfl hl.1 rfl (lv_room (Nat.le_of_ble_eq_true rfl)) dX1_laid_39 ⟨(by rw [hR]; exact Nat.le_of_ble_eq_true rfl), (by rw [hR]; exact Nat.le_of_ble_eq_true rfl)⟩) hS (fun q _ h => hFc q h) hFc (fun r_54 u9 t9 H1 locs ht hvm hr_54 hB hz1 hk1 hS => ?_)
          try dsimp only at hr_54
          have hP1 : va_P D vwCl [] H1 := vP_nil
          have hD1 : va_D (va_A [] H.size) [] := vD_nil
          obtain ⟨hP, hD⟩ := va_join (wr := [(h0, .inr (1, [.ref bx, .int ik, .int wy, .int op]))]) (w1 := []) hP hD [] [0] rfl rfl (by decide) (by decide) hk1 hFc hP1 hD1
          clear hz1 hk1 hFc hKc hDc hPc
          generalize H1 = H at hP hS ⊢
          have hP : va_P D vwCl [(h0, .inr (1, [.ref bx, .int ik, .int wy, .int op]))] H := hP
          have hD : va_D A [(h0, .inr (1, [.ref bx, .int ik, .int wy, .int op]))] := hD
          refine lv_istore (lv' := [(8, .int r_54), (7, .int 0), (6, .int y_51), (9, .int y_44), (5, .int r_4), (4, .int r_2), (0, .ref h0), (1, .int n), (2, .int d), (3, .int v)]) hx hb dX1_laid_42 hl (by decide) rfl (fun ls hl => ?_)
          refine lv_sipush (v := 255) hx hb dX1_laid_44 (by decide) ?_
          refine lv_iload_n hx hb dX1_laid_47 rfl (lv_at hl 7 rfl) ?_
          refine lv_iload hx hb dX1_laid_48 (lv_at hl 1 rfl) ?_
          have hPc := hP.sub (ws' := []) [] rfl
          have hDc := hD.sub (ws' := []) [] (by decide) rfl
          have hKc := hK.sub (tys' := []) [] rfl
          have hFc := va_free (wc := []) hD hS hA [] rfl
          refine va_calli (va_runSN (host := RX8) (As := [.int n, .int 0]) (rest := [.int 255]) ⟨hx, hb, hml, hown, hts⟩ (k_X8_channel l D H.size n 0) ⟨va_cnB 2 hts (gI bw_360) rfl rfl rfl (hN.2.1 (RX1, 49, yX8_channel, RX8) (by decide +kernel)) (hts _ bw_223) (by decide +kernel) ⟨(by rw [hR]; exact Nat.le_of_ble_eq_true rfl), (by rw [hR]; exact Nat.le_of_ble_eq_true rfl)⟩, (hts _ bw_361), trivial⟩ ⟨cP_blind, cP_at hPc hKc hDc hN⟩ rfl rfl hl.1 rfl (lv_room (Nat.le_of_ble_eq_true rfl)) dX1_laid_50 ⟨(by rw [hR]; exact Nat.le_of_ble_eq_true rfl), (by rw [hR]; exact Nat.le_of_ble_eq_true rfl)⟩) hS (fun q _ h => hFc q h) hFc (fun r_55 u9 t9 H1 locs ht hvm hr_55 hB hz1 hk1 hS => ?_)
          try dsimp only at hr_55
          have hP1 : va_P D vwCl [] H1 := vP_nil
          have hD1 : va_D (va_A [] H.size) [] := vD_nil
          obtain ⟨hP, hD⟩ := va_join (wr := [(h0, .inr (1, [.ref bx, .int ik, .int wy, .int op]))]) (w1 := []) hP hD [] [0] rfl rfl (by decide) (by decide) hk1 hFc hP1 hD1
          clear hz1 hk1 hFc hKc hDc hPc
          generalize H1 = H at hP hS ⊢
          have hP : va_P D vwCl [(h0, .inr (1, [.ref bx, .int ik, .int wy, .int op]))] H := hP
          have hD : va_D A [(h0, .inr (1, [.ref bx, .int ik, .int wy, .int op]))] := hD
          refine lv_iload hx hb dX1_laid_53 (lv_at hl 5 rfl) ?_
          refine lv_imul hx hb dX1_laid_55 ?_
          refine lv_topi (fun y_56 ey_56 => ?_)
          refine lv_iload hx hb dX1_laid_56 (lv_at hl 0 rfl) ?_
          refine lv_iload hx hb dX1_laid_58 (lv_at hl 4 rfl) ?_
          refine lv_imul hx hb dX1_laid_60 ?_
          refine lv_topi (fun y_57 ey_57 => ?_)
          refine lv_iadd hx hb dX1_laid_61 ?_
          refine lv_topi (fun y_58 ey_58 => ?_)
          have hPc := hP.sub (ws' := []) [] rfl
          have hDc := hD.sub (ws' := []) [] (by decide) rfl
          have hKc := hK.sub (tys' := []) [] rfl
          have hFc := va_free (wc := []) hD hS hA [] rfl
          refine va_calli (va_runSN (host := RX8) (As := [.int y_58]) (rest := [.int 255]) ⟨hx, hb, hml, hown, hts⟩ (k_X8_shareOfFull l D H.size y_58) ⟨va_cnB 1 hts (gI bw_358) rfl rfl rfl (hN.2.1 (RX1, 59, yX8_shareOfFull, RX8) (by decide +kernel)) (hts _ bw_223) (by decide +kernel) ⟨(by rw [hR]; exact Nat.le_of_ble_eq_true rfl), (by rw [hR]; exact Nat.le_of_ble_eq_true rfl)⟩, (hts _ bw_359), trivial⟩ ⟨cP_blind, cP_at hPc hKc hDc hN⟩ rfl rfl hl.1 rfl (lv_room (Nat.le_of_ble_eq_true rfl)) dX1_laid_62 ⟨(by rw [hR]; exact Nat.le_of_ble_eq_true rfl), (by rw [hR]; exact Nat.le_of_ble_eq_true rfl)⟩) hS (fun q _ h => hFc q h) hFc (fun r_59 u9 t9 H1 locs ht hvm hr_59 hB hz1 hk1 hS => ?_)
          try dsimp only at hr_59
          have hP1 : va_P D vwCl [] H1 := vP_nil
          have hD1 : va_D (va_A [] H.size) [] := vD_nil
          obtain ⟨hP, hD⟩ := va_join (wr := [(h0, .inr (1, [.ref bx, .int ik, .int wy, .int op]))]) (w1 := []) hP hD [] [0] rfl rfl (by decide) (by decide) hk1 hFc hP1 hD1
          clear hz1 hk1 hFc hKc hDc hPc
          generalize H1 = H at hP hS ⊢
          have hP : va_P D vwCl [(h0, .inr (1, [.ref bx, .int ik, .int wy, .int op]))] H := hP
          have hD : va_D A [(h0, .inr (1, [.ref bx, .int ik, .int wy, .int op]))] := hD
          refine va_mmin hx hb (by rw [hml]; exact hl.1.symm) hown (hts _ bw_45) (hts _ bw_46) (hts _ bw_47) (hts _ bw_48) (by rw [hR]; exact Nat.le_of_ble_eq_true rfl) (by rw [hR]; exact Nat.le_of_ble_eq_true rfl) (by rw [hR]; exact Nat.le_of_ble_eq_true rfl) (by rw [hR]; exact Nat.le_of_ble_eq_true rfl) dX1_laid_65 ?_
          refine lv_topi (fun y_60 ey_60 => ?_)
          refine lv_istore (lv' := [(9, .int y_60), (8, .int r_54), (7, .int 0), (6, .int y_51), (5, .int r_4), (4, .int r_2), (0, .ref h0), (1, .int n), (2, .int d), (3, .int v)]) hx hb dX1_laid_68 hl (by decide) rfl (fun ls hl => ?_)
          refine lv_iload hx hb dX1_laid_70 (lv_at hl 3 rfl) ?_
          refine lv_bipush (v := 8) hx hb dX1_laid_72 (by decide) ?_
          refine lv_ishl hx hb dX1_laid_74 ?_
          refine lv_topi (fun y_61 ey_61 => ?_)
          refine lv_iload hx hb dX1_laid_75 (lv_at hl 0 rfl) ?_
          refine lv_iload_n hx hb dX1_laid_77 rfl (lv_at hl 9 rfl) ?_
          refine lv_imul hx hb dX1_laid_78 ?_
          refine lv_topi (fun y_62 ey_62 => ?_)
          refine lv_iload hx hb dX1_laid_79 (lv_at hl 1 rfl) ?_
          refine lv_sipush (v := 255) hx hb dX1_laid_81 (by decide) ?_
          refine lv_iload_n hx hb dX1_laid_84 rfl (lv_at hl 9 rfl) ?_
          refine lv_isub hx hb dX1_laid_85 ?_
          refine lv_topi (fun y_63 ey_63 => ?_)
          refine lv_imul hx hb dX1_laid_86 ?_
          refine lv_topi (fun y_64 ey_64 => ?_)
          refine lv_iadd hx hb dX1_laid_87 ?_
          refine lv_topi (fun y_65 ey_65 => ?_)
          have hPc := hP.sub (ws' := []) [] rfl
          have hDc := hD.sub (ws' := []) [] (by decide) rfl
          have hKc := hK.sub (tys' := []) [] rfl
          have hFc := va_free (wc := []) hD hS hA [] rfl
          refine va_calli (va_runSN (host := RX8) (As := [.int y_65]) (rest := [.int y_61]) ⟨hx, hb, hml, hown, hts⟩ (k_X8_shareOfFull l D H.size y_65) ⟨va_cnB 1 hts (gI bw_358) rfl rfl rfl (hN.2.1 (RX1, 59, yX8_shareOfFull, RX8) (by decide +kernel)) (hts _ bw_223) (by decide +kernel) ⟨(by rw [hR]; exact Nat.le_of_ble_eq_true rfl), (by rw [hR]; exact Nat.le_of_ble_eq_true rfl)⟩, (hts _ bw_359), trivial⟩ ⟨cP_blind, cP_at hPc hKc hDc hN⟩ rfl rfl hl.1 rfl (lv_room (Nat.le_of_ble_eq_true rfl)) dX1_laid_88 ⟨(by rw [hR]; exact Nat.le_of_ble_eq_true rfl), (by rw [hR]; exact Nat.le_of_ble_eq_true rfl)⟩) hS (fun q _ h => hFc q h) hFc (fun r_66 u9 t9 H1 locs ht hvm hr_66 hB hz1 hk1 hS => ?_)
          try dsimp only at hr_66
          have hP1 : va_P D vwCl [] H1 := vP_nil
          have hD1 : va_D (va_A [] H.size) [] := vD_nil
          obtain ⟨hP, hD⟩ := va_join (wr := [(h0, .inr (1, [.ref bx, .int ik, .int wy, .int op]))]) (w1 := []) hP hD [] [0] rfl rfl (by decide) (by decide) hk1 hFc hP1 hD1
          clear hz1 hk1 hFc hKc hDc hPc
          generalize H1 = H at hP hS ⊢
          have hP : va_P D vwCl [(h0, .inr (1, [.ref bx, .int ik, .int wy, .int op]))] H := hP
          have hD : va_D A [(h0, .inr (1, [.ref bx, .int ik, .int wy, .int op]))] := hD
          refine lv_ior hx hb dX1_laid_91 ?_
          refine lv_topi (fun y_67 ey_67 => ?_)
          refine lv_istore (lv' := [(6, .int y_67), (9, .int y_60), (8, .int r_54), (7, .int 0), (5, .int r_4), (4, .int r_2), (0, .ref h0), (1, .int n), (2, .int d), (3, .int v)]) hx hb dX1_laid_92 hl (by decide) rfl (fun ls hl => ?_)
          refine lv_iinc (v := (-8)) (lv' := [(7, .int (-8)), (6, .int y_67), (9, .int y_60), (8, .int r_54), (5, .int r_4), (4, .int r_2), (0, .ref h0), (1, .int n), (2, .int d), (3, .int v)]) hx hb dX1_laid_94 hl (k := 3) rfl (by decide) (by decide) rfl (fun ls hl => ?_)
          refine lv_goto (tgt := 31) hx hb dX1_laid_97 (by decide) ?_
          refine lv_iload hx hb dX1_laid_31 (lv_at hl 0 rfl) ?_
          refine lv_if_lt (tgt := 100) hx hb dX1_laid_33 (by decide) (fun c_68 => ?_) (fun c_68 => ?_)
          · skip
            refine lv_iload hx hb dX1_laid_100 (lv_at hl 1 rfl) ?_
            have hP9 := hP.sub (ws' := [(h0, .inr (1, [.ref bx, .int ik, .int wy, .int op]))]) [0] rfl
            have hD9 := hD.sub (ws' := [(h0, .inr (1, [.ref bx, .int ik, .int wy, .int op]))]) [0] (by decide) rfl
            have hK9 := hK.sub (tys' := []) [] rfl
            refine hQ _ _ _ _ _ ?_
            exact W.iret (v := y_67) hx hb hr (fun t ht hW => ⟨⟨y_67, (), rfl, (by subst_vars; rfl), ⟨by rw [ht]; exact hP9, va_K.moved hW.alike hK9, hD9⟩⟩, hS.F ht⟩) hS.2.2 dX1_laid_102
          · skip
            exact absurd c_68 (by decide)

set_option maxHeartbeats 4000000 in
set_option maxRecDepth 100000 in
theorem k_X1_lay (l : Launch) (D : va_G) (sz : Nat) (h0 bx : Nat) (ik wy op : Int32) (t0 d0 : Nat) (bx0 by0 bx1 by1 : Int32) (w h : Int32) (g : Nat → Int32) (x y n v : Int32) (cI : ClassId) (hwy : 0 ≤ wy.toInt ∧ wy.toInt ≤ 12) (hw : w.toInt ≤ 64) (hh : h.toInt ≤ 64) : Met l yX1_lay (wB yX1_lay cX1_lay 6 (some .int)) ({ frames := 2, cells := 0, slots := 0, locals := 50 }) (cP D [(h0, .inr (1, [.ref bx, .int ik, .int wy, .int op])), (bx, .inr (0, [.int bx0, .int by0, .int bx1, .int by1])), (t0, .inr (5, [.ref d0, .int w, .int h])), (d0, .inl (cI, 4096, .inl g))] [(cI, .int)] sz [.ref h0, .ref t0, .int x, .int y, .int n, .int v]) (va_Qi (fun (r : Int32) (_ : Unit) => r = if 0 ≤ x.toInt ∧ x.toInt < w.toInt ∧ 0 ≤ y.toInt ∧ y.toInt < h.toInt ∧ bx0.toInt ≤ x.toInt ∧ x.toInt ≤ bx1.toInt ∧ by0.toInt ≤ y.toInt ∧ y.toInt ≤ by1.toInt then 1 else 0) (fun (_ : Unit) (t : State) => cB D (va_A [(h0, .inr (1, [.ref bx, .int ik, .int wy, .int op])), (bx, .inr (0, [.int bx0, .int by0, .int bx1, .int by1])), (t0, .inr (5, [.ref d0, .int w, .int h])), (d0, .inl (cI, 4096, .inl g))] sz) [(h0, .inr (1, [.ref bx, .int ik, .int wy, .int op])), (bx, .inr (0, [.int bx0, .int by0, .int bx1, .int by1])), (t0, .inr (5, [.ref d0, .int w, .int h])), (d0, .inl (cI, 4096, .inl (if 0 ≤ x.toInt ∧ x.toInt < w.toInt ∧ 0 ≤ y.toInt ∧ y.toInt < h.toInt ∧ bx0.toInt ≤ x.toInt ∧ x.toInt ≤ bx1.toInt ∧ by0.toInt ≤ y.toInt ∧ y.toInt ≤ by1.toInt then upd g (ixP x y) (laidP wy n (g (ixP x y)) v) else g)))] [(cI, .int)] t) (va_A [(h0, .inr (1, [.ref bx, .int ik, .int wy, .int op])), (bx, .inr (0, [.int bx0, .int by0, .int bx1, .int by1])), (t0, .inr (5, [.ref d0, .int w, .int h])), (d0, .inl (cI, 4096, .inl g))] sz)) 0 0 (va_A [(h0, .inr (1, [.ref bx, .int ik, .int wy, .int op])), (bx, .inr (0, [.int bx0, .int by0, .int bx1, .int by1])), (t0, .inr (5, [.ref d0, .int w, .int h])), (d0, .inl (cI, 4096, .inl g))] sz) := by
  refine Met.ofW (cc := cX1_lay) (maxL := 6) (ret := (some .int)) (by decide) rfl ?_
  intro p e s m args below meth c s₁ B hml hv
  obtain ⟨rfl, hsz, hP, hK, hD0, hN⟩ := hv
  have hx := B.exec
  have hb := B.bytes
  have hr := B.returns
  have hts0 := atoms_spec (ws := (wB yX1_lay cX1_lay 6 (some .int))) B.pre
  have hts : ∀ w ∈ bigW, w.before _ s = true := fun w h => hts0 w (List.mem_cons_of_mem _ h)
  have hown : s.vm.findClass RX1 = some m.cls := findClass_of_methodNamed B.named
  have hlocks := B.notSynchronized
  subst hsz
  have hD := hD0.self (sz := s.heap.size)
  generalize hAe : va_A [(h0, .inr (1, [.ref bx, .int ik, .int wy, .int op])), (bx, .inr (0, [.int bx0, .int by0, .int bx1, .int by1])), (t0, .inr (5, [.ref d0, .int w, .int h])), (d0, .inl (cI, 4096, .inl g))] s.heap.size = A at hD ⊢
  have hA : ∀ q : Nat, s.heap.size ≤ q → A q := fun q h => by rw [← hAe]; exact Or.inr h
  have hS : va_S A s.heap s.heap [] := va_S.rf
  have hP : va_P D vwCl [(h0, .inr (1, [.ref bx, .int ik, .int wy, .int op])), (bx, .inr (0, [.int bx0, .int by0, .int bx1, .int by1])), (t0, .inr (5, [.ref d0, .int w, .int h])), (d0, .inl (cI, 4096, .inl g))] s.heap := hP
  have hl := lv_entry ([.ref h0, .ref t0, .int x, .int y, .int n, .int v]) (n := 6) (Nat.le_of_ble_eq_true rfl)
  rw [lg_entry_eq]
  generalize (lg_sl ([.ref h0, .ref t0, .int x, .int y, .int n, .int v]) ++ List.replicate (6 - (lg_sl ([.ref h0, .ref t0, .int x, .int y, .int n, .int v])).length) Slot.unset).toArray = ls at hl ⊢
  have hl : lv_has ls 6 [(0, .ref h0), (1, .ref t0), (2, .int x), (3, .int y), (4, .int n), (5, .int v)] := hl
  clear hts0 hD0 hAe
  refine my_abs (fun R Q hR hQ => ?_)
  refine lv_aload_n hx hb dX1_lay_0 rfl (lv_at hl 1 rfl) ?_
  refine lv_iload_n hx hb dX1_lay_1 rfl (lv_at hl 2 rfl) ?_
  refine lv_iload_n hx hb dX1_lay_2 rfl (lv_at hl 3 rfl) ?_
  have hPc := hP.sub (ws' := [(t0, .inr (5, [.ref d0, .int w, .int h]))]) [2] rfl
  have hDc := hD.sub (ws' := [(t0, .inr (5, [.ref d0, .int w, .int h]))]) [2] (by decide) rfl
  have hKc := hK.sub (tys' := []) [] rfl
  have hFc := va_free (wc := [(t0, .inr (5, [.ref d0, .int w, .int h]))]) hD hS hA [2] rfl
  refine va_calli (va_runV (As := [.int x, .int y]) (rest := []) ⟨hx, hb, hml, hown, hts⟩ (k_X5_has l D s.heap.size t0 d0 w h x y) (cwV 2 hts (gV bw_35 bw_150 bw_151 bw_130 bw_149) rfl rfl rfl (by decide +kernel) ⟨(by rw [hR]; exact Nat.le_of_ble_eq_true rfl), (by rw [hR]; exact Nat.le_of_ble_eq_true rfl)⟩) ⟨cP_blind, va_recv hKc hPc (ci := 5) (q0 := 0) rfl rfl, cP_at hPc hKc hDc hN⟩ rfl rfl hl.1 rfl (lv_room (Nat.le_of_ble_eq_true rfl)) dX1_lay_3 ⟨(by rw [hR]; exact Nat.le_of_ble_eq_true rfl), (by rw [hR]; exact Nat.le_of_ble_eq_true rfl)⟩) hS (fun q _ h => hFc q h) hFc (fun r_1 u9 t9 H1 locs ht hvm hr_1 hB hz1 hk1 hS => ?_)
  try dsimp only at hr_1
  obtain ⟨hP1, hK1, hD1⟩ := hB
  rw [ht] at hP1
  obtain ⟨hP, hD⟩ := va_join (wr := [(h0, .inr (1, [.ref bx, .int ik, .int wy, .int op])), (bx, .inr (0, [.int bx0, .int by0, .int bx1, .int by1])), (d0, .inl (cI, 4096, .inl g))]) (w1 := [(t0, .inr (5, [.ref d0, .int w, .int h]))]) hP hD [2] [0, 1, 3] rfl rfl (by decide) (by decide) hk1 hFc hP1 hD1
  clear hz1 hk1 hFc hKc hDc hPc
  generalize H1 = H at hP hS ⊢
  have hP : va_P D vwCl [(h0, .inr (1, [.ref bx, .int ik, .int wy, .int op])), (bx, .inr (0, [.int bx0, .int by0, .int bx1, .int by1])), (d0, .inl (cI, 4096, .inl g)), (t0, .inr (5, [.ref d0, .int w, .int h]))] H := hP
  have hD : va_D A [(h0, .inr (1, [.ref bx, .int ik, .int wy, .int op])), (bx, .inr (0, [.int bx0, .int by0, .int bx1, .int by1])), (d0, .inl (cI, 4096, .inl g)), (t0, .inr (5, [.ref d0, .int w, .int h]))] := hD
  refine lv_if_eq (tgt := 21) hx hb dX1_lay_6 (by decide) (fun c_2 => ?_) (fun c_2 => ?_)
  · skip
    have f_3 := bz0 hr_1 c_2
    refine lv_iconst (v := 0) hx hb dX1_lay_21 (by decide) ?_
    have hc : g = if 0 ≤ x.toInt ∧ x.toInt < w.toInt ∧ 0 ≤ y.toInt ∧ y.toInt < h.toInt ∧ bx0.toInt ≤ x.toInt ∧ x.toInt ≤ bx1.toInt ∧ by0.toInt ≤ y.toInt ∧ y.toInt ≤ by1.toInt then upd g (ixP x y) (laidP wy n (g (ixP x y)) v) else g := (if_neg (by omega)).symm
    rw [hc] at hP hD
    have hP9 := hP.sub (ws' := [(h0, .inr (1, [.ref bx, .int ik, .int wy, .int op])), (bx, .inr (0, [.int bx0, .int by0, .int bx1, .int by1])), (t0, .inr (5, [.ref d0, .int w, .int h])), (d0, .inl (cI, 4096, .inl (if 0 ≤ x.toInt ∧ x.toInt < w.toInt ∧ 0 ≤ y.toInt ∧ y.toInt < h.toInt ∧ bx0.toInt ≤ x.toInt ∧ x.toInt ≤ bx1.toInt ∧ by0.toInt ≤ y.toInt ∧ y.toInt ≤ by1.toInt then upd g (ixP x y) (laidP wy n (g (ixP x y)) v) else g)))]) [0, 1, 3, 2] rfl
    have hD9 := hD.sub (ws' := [(h0, .inr (1, [.ref bx, .int ik, .int wy, .int op])), (bx, .inr (0, [.int bx0, .int by0, .int bx1, .int by1])), (t0, .inr (5, [.ref d0, .int w, .int h])), (d0, .inl (cI, 4096, .inl (if 0 ≤ x.toInt ∧ x.toInt < w.toInt ∧ 0 ≤ y.toInt ∧ y.toInt < h.toInt ∧ bx0.toInt ≤ x.toInt ∧ x.toInt ≤ bx1.toInt ∧ by0.toInt ≤ y.toInt ∧ y.toInt ≤ by1.toInt then upd g (ixP x y) (laidP wy n (g (ixP x y)) v) else g)))]) [0, 1, 3, 2] (by decide) rfl
    have hK9 := hK.sub (tys' := [(cI, .int)]) [0] rfl
    refine hQ _ _ _ _ _ ?_
    exact W.iret (v := 0) hx hb hr (fun t ht hW => ⟨⟨0, (), rfl, (if_neg (by omega)).symm, ⟨by rw [ht]; exact hP9, va_K.moved hW.alike hK9, hD9⟩⟩, hS.F ht⟩) hS.2.2 dX1_lay_22
  · skip
    have f_3 := bz1 hr_1 c_2
    refine lv_aload_n hx hb dX1_lay_9 rfl (lv_at hl 0 rfl) ?_
    refine va_get (D := D) (ci := 1) (v := .ref bx) (C := RX1) (T := TX1) (N := 4) hx hb hts hi_X1 hown hK hP 0 rfl rfl 0 (by decide) (hts _ bw_25) (fun _ h9 => h9) rfl dX1_lay_10 ?_
    refine lv_iload_n hx hb dX1_lay_13 rfl (lv_at hl 2 rfl) ?_
    refine lv_iload_n hx hb dX1_lay_14 rfl (lv_at hl 3 rfl) ?_
    have hPc := hP.sub (ws' := [(bx, .inr (0, [.int bx0, .int by0, .int bx1, .int by1]))]) [1] rfl
    have hDc := hD.sub (ws' := [(bx, .inr (0, [.int bx0, .int by0, .int bx1, .int by1]))]) [1] (by decide) rfl
    have hKc := hK.sub (tys' := []) [] rfl
    have hFc := va_free (wc := [(bx, .inr (0, [.int bx0, .int by0, .int bx1, .int by1]))]) hD hS hA [1] rfl
    refine va_calli (va_runV (As := [.int x, .int y]) (rest := []) ⟨hx, hb, hml, hown, hts⟩ (k_X0_holds l D H.size bx bx0 by0 bx1 by1 x y) (cwV 2 hts (gV bw_36 bw_17 bw_18 bw_4 bw_16) rfl rfl rfl (by decide +kernel) ⟨(by rw [hR]; exact Nat.le_of_ble_eq_true rfl), (by rw [hR]; exact Nat.le_of_ble_eq_true rfl)⟩) ⟨cP_blind, va_recv hKc hPc (ci := 0) (q0 := 0) rfl rfl, cP_at hPc hKc hDc hN⟩ rfl rfl hl.1 rfl (lv_room (Nat.le_of_ble_eq_true rfl)) dX1_lay_15 ⟨(by rw [hR]; exact Nat.le_of_ble_eq_true rfl), (by rw [hR]; exact Nat.le_of_ble_eq_true rfl)⟩) hS (fun q _ h => hFc q h) hFc (fun r_4 u9 t9 H1 locs ht hvm hr_4 hB hz1 hk1 hS => ?_)
    try dsimp only at hr_4
    obtain ⟨hP1, hK1, hD1⟩ := hB
    rw [ht] at hP1
    obtain ⟨hP, hD⟩ := va_join (wr := [(h0, .inr (1, [.ref bx, .int ik, .int wy, .int op])), (d0, .inl (cI, 4096, .inl g)), (t0, .inr (5, [.ref d0, .int w, .int h]))]) (w1 := [(bx, .inr (0, [.int bx0, .int by0, .int bx1, .int by1]))]) hP hD [1] [0, 2, 3] rfl rfl (by decide) (by decide) hk1 hFc hP1 hD1
    clear hz1 hk1 hFc hKc hDc hPc
    generalize H1 = H at hP hS ⊢
    have hP : va_P D vwCl [(h0, .inr (1, [.ref bx, .int ik, .int wy, .int op])), (d0, .inl (cI, 4096, .inl g)), (t0, .inr (5, [.ref d0, .int w, .int h])), (bx, .inr (0, [.int bx0, .int by0, .int bx1, .int by1]))] H := hP
    have hD : va_D A [(h0, .inr (1, [.ref bx, .int ik, .int wy, .int op])), (d0, .inl (cI, 4096, .inl g)), (t0, .inr (5, [.ref d0, .int w, .int h])), (bx, .inr (0, [.int bx0, .int by0, .int bx1, .int by1]))] := hD
    refine lv_if_ne (tgt := 23) hx hb dX1_lay_18 (by decide) (fun c_5 => ?_) (fun c_5 => ?_)
    · skip
      have f_6 := bz1 hr_4 c_5
      refine lv_aload_n hx hb dX1_lay_23 rfl (lv_at hl 1 rfl) ?_
      refine lv_iload_n hx hb dX1_lay_24 rfl (lv_at hl 2 rfl) ?_
      refine lv_iload_n hx hb dX1_lay_25 rfl (lv_at hl 3 rfl) ?_
      refine lv_aload_n hx hb dX1_lay_26 rfl (lv_at hl 0 rfl) ?_
      refine lv_iload hx hb dX1_lay_27 (lv_at hl 4 rfl) ?_
      refine lv_aload_n hx hb dX1_lay_29 rfl (lv_at hl 1 rfl) ?_
      refine lv_iload_n hx hb dX1_lay_30 rfl (lv_at hl 2 rfl) ?_
      refine lv_iload_n hx hb dX1_lay_31 rfl (lv_at hl 3 rfl) ?_
      have hPc := hP.sub (ws' := [(t0, .inr (5, [.ref d0, .int w, .int h])), (d0, .inl (cI, 4096, .inl g))]) [2, 1] rfl
      have hDc := hD.sub (ws' := [(t0, .inr (5, [.ref d0, .int w, .int h])), (d0, .inl (cI, 4096, .inl g))]) [2, 1] (by decide) rfl
      have hKc := hK.sub (tys' := [(cI, .int)]) [0] rfl
      have hFc := va_free (wc := [(t0, .inr (5, [.ref d0, .int w, .int h])), (d0, .inl (cI, 4096, .inl g))]) hD hS hA [2, 1] rfl
      refine va_calli (va_runV (As := [.int x, .int y]) (rest := [.int n, .ref h0, .int y, .int x, .ref t0]) ⟨hx, hb, hml, hown, hts⟩ (k_X5_at l D H.size t0 d0 w h g x y cI (by first | assumption | omega | decide) (by first | assumption | omega | decide)) (cwV 2 hts (gV bw_37 bw_153 bw_154 bw_130 bw_152) rfl rfl rfl (by decide +kernel) ⟨(by rw [hR]; exact Nat.le_of_ble_eq_true rfl), (by rw [hR]; exact Nat.le_of_ble_eq_true rfl)⟩) ⟨cP_blind, va_recv hKc hPc (ci := 5) (q0 := 0) rfl rfl, cP_at hPc hKc hDc hN⟩ rfl rfl hl.1 rfl (lv_room (Nat.le_of_ble_eq_true rfl)) dX1_lay_32 ⟨(by rw [hR]; exact Nat.le_of_ble_eq_true rfl), (by rw [hR]; exact Nat.le_of_ble_eq_true rfl)⟩) hS (fun q _ h => hFc q h) hFc (fun r_7 u9 t9 H1 locs ht hvm hr_7 hB hz1 hk1 hS => ?_)
      try dsimp only at hr_7
      obtain ⟨hP1, hK1, hD1⟩ := hB
      rw [ht] at hP1
      obtain ⟨hP, hD⟩ := va_join (wr := [(h0, .inr (1, [.ref bx, .int ik, .int wy, .int op])), (bx, .inr (0, [.int bx0, .int by0, .int bx1, .int by1]))]) (w1 := [(t0, .inr (5, [.ref d0, .int w, .int h])), (d0, .inl (cI, 4096, .inl g))]) hP hD [2, 1] [0, 3] rfl rfl (by decide) (by decide) hk1 hFc hP1 hD1
      clear hz1 hk1 hFc hKc hDc hPc
      generalize H1 = H at hP hS ⊢
      have hP : va_P D vwCl [(h0, .inr (1, [.ref bx, .int ik, .int wy, .int op])), (bx, .inr (0, [.int bx0, .int by0, .int bx1, .int by1])), (t0, .inr (5, [.ref d0, .int w, .int h])), (d0, .inl (cI, 4096, .inl g))] H := hP
      have hD : va_D A [(h0, .inr (1, [.ref bx, .int ik, .int wy, .int op])), (bx, .inr (0, [.int bx0, .int by0, .int bx1, .int by1])), (t0, .inr (5, [.ref d0, .int w, .int h])), (d0, .inl (cI, 4096, .inl g))] := hD
      refine lv_iload hx hb dX1_lay_35 (lv_at hl 5 rfl) ?_
      have hPc := hP.sub (ws' := [(h0, .inr (1, [.ref bx, .int ik, .int wy, .int op]))]) [0] rfl
      have hDc := hD.sub (ws' := [(h0, .inr (1, [.ref bx, .int ik, .int wy, .int op]))]) [0] (by decide) rfl
      have hKc := hK.sub (tys' := []) [] rfl
      have hFc := va_free (wc := [(h0, .inr (1, [.ref bx, .int ik, .int wy, .int op]))]) hD hS hA [0] rfl
      refine va_calli (va_runV (As := [.int n, .int r_7, .int v]) (rest := [.int y, .int x, .ref t0]) ⟨hx, hb, hml, hown, hts⟩ (k_X1_laid l D H.size h0 bx ik wy op n r_7 v (by first | assumption | omega | decide)) (cwV 3 hts (gV bw_38 bw_41 bw_42 bw_19 bw_40) rfl rfl rfl (by decide +kernel) ⟨(by rw [hR]; exact Nat.le_of_ble_eq_true rfl), (by rw [hR]; exact Nat.le_of_ble_eq_true rfl)⟩) ⟨cP_blind, va_recv hKc hPc (ci := 1) (q0 := 0) rfl rfl, cP_at hPc hKc hDc hN⟩ rfl rfl hl.1 rfl (lv_room (Nat.le_of_ble_eq_true rfl)) dX1_lay_37 ⟨(by rw [hR]; exact Nat.le_of_ble_eq_true rfl), (by rw [hR]; exact Nat.le_of_ble_eq_true rfl)⟩) hS (fun q _ h => hFc q h) hFc (fun r_8 u9 t9 H1 locs ht hvm hr_8 hB hz1 hk1 hS => ?_)
      try dsimp only at hr_8
      obtain ⟨hP1, hK1, hD1⟩ := hB
      rw [ht] at hP1
      obtain ⟨hP, hD⟩ := va_join (wr := [(bx, .inr (0, [.int bx0, .int by0, .int bx1, .int by1])), (t0, .inr (5, [.ref d0, .int w, .int h])), (d0, .inl (cI, 4096, .inl g))]) (w1 := [(h0, .inr (1, [.ref bx, .int ik, .int wy, .int op]))]) hP hD [0] [1, 2, 3] rfl rfl (by decide) (by decide) hk1 hFc hP1 hD1
      clear hz1 hk1 hFc hKc hDc hPc
      generalize H1 = H at hP hS ⊢
      have hP : va_P D vwCl [(bx, .inr (0, [.int bx0, .int by0, .int bx1, .int by1])), (t0, .inr (5, [.ref d0, .int w, .int h])), (d0, .inl (cI, 4096, .inl g)), (h0, .inr (1, [.ref bx, .int ik, .int wy, .int op]))] H := hP
      have hD : va_D A [(bx, .inr (0, [.int bx0, .int by0, .int bx1, .int by1])), (t0, .inr (5, [.ref d0, .int w, .int h])), (d0, .inl (cI, 4096, .inl g)), (h0, .inr (1, [.ref bx, .int ik, .int wy, .int op]))] := hD
      have hPc := hP.sub (ws' := [(t0, .inr (5, [.ref d0, .int w, .int h])), (d0, .inl (cI, 4096, .inl g))]) [1, 2] rfl
      have hDc := hD.sub (ws' := [(t0, .inr (5, [.ref d0, .int w, .int h])), (d0, .inl (cI, 4096, .inl g))]) [1, 2] (by decide) rfl
      have hKc := hK.sub (tys' := [(cI, .int)]) [0] rfl
      have hFc := va_free (wc := [(t0, .inr (5, [.ref d0, .int w, .int h])), (d0, .inl (cI, 4096, .inl g))]) hD hS hA [1, 2] rfl
      refine va_callv (va_runV (As := [.int x, .int y, .int r_8]) (rest := []) ⟨hx, hb, hml, hown, hts⟩ (k_X5_put l D H.size t0 d0 w h g x y r_8 cI (by first | assumption | omega | decide) (by first | assumption | omega | decide)) (cwV 3 hts (gV bw_39 bw_157 bw_158 bw_130 bw_156) rfl rfl rfl (by decide +kernel) ⟨(by rw [hR]; exact Nat.le_of_ble_eq_true rfl), (by rw [hR]; exact Nat.le_of_ble_eq_true rfl)⟩) ⟨cP_blind, va_recv hKc hPc (ci := 5) (q0 := 0) rfl rfl, cP_at hPc hKc hDc hN⟩ rfl rfl hl.1 rfl (lv_room (Nat.le_of_ble_eq_true rfl)) dX1_lay_40 ⟨(by rw [hR]; exact Nat.le_of_ble_eq_true rfl), (by rw [hR]; exact Nat.le_of_ble_eq_true rfl)⟩) hS (fun q _ h => hFc q h) hFc (fun u9 t9 H1 locs ht hvm hr_9 hB hz1 hk1 hS => ?_)
      try dsimp only at hr_9
      obtain ⟨hP1, hK1, hD1⟩ := hB
      rw [ht] at hP1
      obtain ⟨hP, hD⟩ := va_join (wr := [(bx, .inr (0, [.int bx0, .int by0, .int bx1, .int by1])), (h0, .inr (1, [.ref bx, .int ik, .int wy, .int op]))]) (w1 := [(t0, .inr (5, [.ref d0, .int w, .int h])), (d0, .inl (cI, 4096, .inl (if 0 ≤ x.toInt ∧ x.toInt < w.toInt ∧ 0 ≤ y.toInt ∧ y.toInt < h.toInt then upd g (ixP x y) r_8 else g)))]) hP hD [1, 2] [0, 3] rfl rfl (by decide) (by decide) hk1 hFc hP1 hD1
      clear hz1 hk1 hFc hKc hDc hPc
      generalize H1 = H at hP hS ⊢
      have hP : va_P D vwCl [(bx, .inr (0, [.int bx0, .int by0, .int bx1, .int by1])), (h0, .inr (1, [.ref bx, .int ik, .int wy, .int op])), (t0, .inr (5, [.ref d0, .int w, .int h])), (d0, .inl (cI, 4096, .inl (if 0 ≤ x.toInt ∧ x.toInt < w.toInt ∧ 0 ≤ y.toInt ∧ y.toInt < h.toInt then upd g (ixP x y) r_8 else g)))] H := hP
      have hD : va_D A [(bx, .inr (0, [.int bx0, .int by0, .int bx1, .int by1])), (h0, .inr (1, [.ref bx, .int ik, .int wy, .int op])), (t0, .inr (5, [.ref d0, .int w, .int h])), (d0, .inl (cI, 4096, .inl (if 0 ≤ x.toInt ∧ x.toInt < w.toInt ∧ 0 ≤ y.toInt ∧ y.toInt < h.toInt then upd g (ixP x y) r_8 else g)))] := hD
      refine lv_iconst (v := 1) hx hb dX1_lay_43 (by decide) ?_
      have hc : ((if 0 ≤ x.toInt ∧ x.toInt < w.toInt ∧ 0 ≤ y.toInt ∧ y.toInt < h.toInt then upd g (ixP x y) r_8 else g) : Nat → Int32) = if 0 ≤ x.toInt ∧ x.toInt < w.toInt ∧ 0 ≤ y.toInt ∧ y.toInt < h.toInt ∧ bx0.toInt ≤ x.toInt ∧ x.toInt ≤ bx1.toInt ∧ by0.toInt ≤ y.toInt ∧ y.toInt ≤ by1.toInt then upd g (ixP x y) (laidP wy n (g (ixP x y)) v) else g := by rw [if_pos (by omega), if_pos (by omega)]; subst_vars; rw [if_pos (by omega)]
      rw [hc] at hP hD
      have hP9 := hP.sub (ws' := [(h0, .inr (1, [.ref bx, .int ik, .int wy, .int op])), (bx, .inr (0, [.int bx0, .int by0, .int bx1, .int by1])), (t0, .inr (5, [.ref d0, .int w, .int h])), (d0, .inl (cI, 4096, .inl (if 0 ≤ x.toInt ∧ x.toInt < w.toInt ∧ 0 ≤ y.toInt ∧ y.toInt < h.toInt ∧ bx0.toInt ≤ x.toInt ∧ x.toInt ≤ bx1.toInt ∧ by0.toInt ≤ y.toInt ∧ y.toInt ≤ by1.toInt then upd g (ixP x y) (laidP wy n (g (ixP x y)) v) else g)))]) [1, 0, 2, 3] rfl
      have hD9 := hD.sub (ws' := [(h0, .inr (1, [.ref bx, .int ik, .int wy, .int op])), (bx, .inr (0, [.int bx0, .int by0, .int bx1, .int by1])), (t0, .inr (5, [.ref d0, .int w, .int h])), (d0, .inl (cI, 4096, .inl (if 0 ≤ x.toInt ∧ x.toInt < w.toInt ∧ 0 ≤ y.toInt ∧ y.toInt < h.toInt ∧ bx0.toInt ≤ x.toInt ∧ x.toInt ≤ bx1.toInt ∧ by0.toInt ≤ y.toInt ∧ y.toInt ≤ by1.toInt then upd g (ixP x y) (laidP wy n (g (ixP x y)) v) else g)))]) [1, 0, 2, 3] (by decide) rfl
      have hK9 := hK.sub (tys' := [(cI, .int)]) [0] rfl
      refine hQ _ _ _ _ _ ?_
      exact W.iret (v := 1) hx hb hr (fun t ht hW => ⟨⟨1, (), rfl, (if_pos (by omega)).symm, ⟨by rw [ht]; exact hP9, va_K.moved hW.alike hK9, hD9⟩⟩, hS.F ht⟩) hS.2.2 dX1_lay_44
    · skip
      have f_6 := bz0 hr_4 c_5
      refine lv_iconst (v := 0) hx hb dX1_lay_21 (by decide) ?_
      have hc : g = if 0 ≤ x.toInt ∧ x.toInt < w.toInt ∧ 0 ≤ y.toInt ∧ y.toInt < h.toInt ∧ bx0.toInt ≤ x.toInt ∧ x.toInt ≤ bx1.toInt ∧ by0.toInt ≤ y.toInt ∧ y.toInt ≤ by1.toInt then upd g (ixP x y) (laidP wy n (g (ixP x y)) v) else g := (if_neg (by omega)).symm
      rw [hc] at hP hD
      have hP9 := hP.sub (ws' := [(h0, .inr (1, [.ref bx, .int ik, .int wy, .int op])), (bx, .inr (0, [.int bx0, .int by0, .int bx1, .int by1])), (t0, .inr (5, [.ref d0, .int w, .int h])), (d0, .inl (cI, 4096, .inl (if 0 ≤ x.toInt ∧ x.toInt < w.toInt ∧ 0 ≤ y.toInt ∧ y.toInt < h.toInt ∧ bx0.toInt ≤ x.toInt ∧ x.toInt ≤ bx1.toInt ∧ by0.toInt ≤ y.toInt ∧ y.toInt ≤ by1.toInt then upd g (ixP x y) (laidP wy n (g (ixP x y)) v) else g)))]) [0, 3, 2, 1] rfl
      have hD9 := hD.sub (ws' := [(h0, .inr (1, [.ref bx, .int ik, .int wy, .int op])), (bx, .inr (0, [.int bx0, .int by0, .int bx1, .int by1])), (t0, .inr (5, [.ref d0, .int w, .int h])), (d0, .inl (cI, 4096, .inl (if 0 ≤ x.toInt ∧ x.toInt < w.toInt ∧ 0 ≤ y.toInt ∧ y.toInt < h.toInt ∧ bx0.toInt ≤ x.toInt ∧ x.toInt ≤ bx1.toInt ∧ by0.toInt ≤ y.toInt ∧ y.toInt ≤ by1.toInt then upd g (ixP x y) (laidP wy n (g (ixP x y)) v) else g)))]) [0, 3, 2, 1] (by decide) rfl
      have hK9 := hK.sub (tys' := [(cI, .int)]) [0] rfl
      refine hQ _ _ _ _ _ ?_
      exact W.iret (v := 0) hx hb hr (fun t ht hW => ⟨⟨0, (), rfl, (if_neg (by omega)).symm, ⟨by rw [ht]; exact hP9, va_K.moved hW.alike hK9, hD9⟩⟩, hS.F ht⟩) hS.2.2 dX1_lay_22
