set_option maxHeartbeats 4000000 in
set_option maxRecDepth 100000 in
theorem k_X9_isSheet (l : Launch) (D : va_G) (sz : Nat) (h0 m1 m2 m3 m4 m5 m6 m7 m8 m9 m10 m11 m12 m13 : Nat) (c1 : ClassId) (k : Int32) : Met l yX9_isSheet (wB yX9_isSheet cX9_isSheet 2 (some .boolean)) ({ frames := 0, cells := 0, slots := 0, locals := 0 }) (cP D [(h0, .inr (9, [.ref m1, .ref m2, .ref m3, .int (-1), .int 3, .int 255, .int 0, .int 0, .int 0, .int 0, .int 0, .int 65535, .ref m4, .ref m5, .ref m6, .ref m7, .ref m8, .ref m9, .int 0, .ref m10, .ref m11, .ref m12, .ref m13])), (m1, .inl (c1, 4, .inl (fun _ => 0)))] [(c1, .int)] sz [.ref h0, .int k]) (va_Qi (fun (r : Int32) (_ : Unit) => r = 0) (fun (_ : Unit) (t : State) => cB D (va_A [(h0, .inr (9, [.ref m1, .ref m2, .ref m3, .int (-1), .int 3, .int 255, .int 0, .int 0, .int 0, .int 0, .int 0, .int 65535, .ref m4, .ref m5, .ref m6, .ref m7, .ref m8, .ref m9, .int 0, .ref m10, .ref m11, .ref m12, .ref m13])), (m1, .inl (c1, 4, .inl (fun _ => 0)))] sz) [(h0, .inr (9, [.ref m1, .ref m2, .ref m3, .int (-1), .int 3, .int 255, .int 0, .int 0, .int 0, .int 0, .int 0, .int 65535, .ref m4, .ref m5, .ref m6, .ref m7, .ref m8, .ref m9, .int 0, .ref m10, .ref m11, .ref m12, .ref m13])), (m1, .inl (c1, 4, .inl (fun _ => 0)))] [] t) (va_A [(h0, .inr (9, [.ref m1, .ref m2, .ref m3, .int (-1), .int 3, .int 255, .int 0, .int 0, .int 0, .int 0, .int 0, .int 65535, .ref m4, .ref m5, .ref m6, .ref m7, .ref m8, .ref m9, .int 0, .ref m10, .ref m11, .ref m12, .ref m13])), (m1, .inl (c1, 4, .inl (fun _ => 0)))] sz)) 0 0 (va_A [(h0, .inr (9, [.ref m1, .ref m2, .ref m3, .int (-1), .int 3, .int 255, .int 0, .int 0, .int 0, .int 0, .int 0, .int 65535, .ref m4, .ref m5, .ref m6, .ref m7, .ref m8, .ref m9, .int 0, .ref m10, .ref m11, .ref m12, .ref m13])), (m1, .inl (c1, 4, .inl (fun _ => 0)))] sz) := by
  refine Met.ofW (cc := cX9_isSheet) (maxL := 2) (ret := (some .boolean)) (by decide) rfl ?_
  intro p e s m args below meth c s₁ B hml hv
  obtain ⟨rfl, hsz, hP, hK, hD0, hN⟩ := hv
  have hx := B.exec
  have hb := B.bytes
  have hr := B.returns
  have hts0 := atoms_spec (ws := (wB yX9_isSheet cX9_isSheet 2 (some .boolean))) B.pre
  have hts : ∀ w ∈ bigW, w.before _ s = true := fun w h => hts0 w (List.mem_cons_of_mem _ h)
  have hown : s.vm.findClass RX9 = some m.cls := findClass_of_methodNamed B.named
  have hlocks := B.notSynchronized
  subst hsz
  have hD := hD0.self (sz := s.heap.size)
  generalize hAe : va_A [(h0, .inr (9, [.ref m1, .ref m2, .ref m3, .int (-1), .int 3, .int 255, .int 0, .int 0, .int 0, .int 0, .int 0, .int 65535, .ref m4, .ref m5, .ref m6, .ref m7, .ref m8, .ref m9, .int 0, .ref m10, .ref m11, .ref m12, .ref m13])), (m1, .inl (c1, 4, .inl (fun _ => 0)))] s.heap.size = A at hD ⊢
  have hA : ∀ q : Nat, s.heap.size ≤ q → A q := fun q h => by rw [← hAe]; exact Or.inr h
  have hS : va_S A s.heap s.heap [] := va_S.rf
  have hP : va_P D vwCl [(h0, .inr (9, [.ref m1, .ref m2, .ref m3, .int (-1), .int 3, .int 255, .int 0, .int 0, .int 0, .int 0, .int 0, .int 65535, .ref m4, .ref m5, .ref m6, .ref m7, .ref m8, .ref m9, .int 0, .ref m10, .ref m11, .ref m12, .ref m13])), (m1, .inl (c1, 4, .inl (fun _ => 0)))] s.heap := hP
  have hl := lv_entry ([.ref h0, .int k]) (n := 2) (Nat.le_of_ble_eq_true rfl)
  rw [lg_entry_eq]
  generalize (lg_sl ([.ref h0, .int k]) ++ List.replicate (2 - (lg_sl ([.ref h0, .int k])).length) Slot.unset).toArray = ls at hl ⊢
  have hl : lv_has ls 2 [(0, .ref h0), (1, .int k)] := hl
  refine lv_iload_n hx hb dX9_isSheet_0 rfl (lv_at hl 1 rfl) ?_
  refine lv_if_lt (tgt := 22) hx hb dX9_isSheet_1 (by decide) (fun c_1 => ?_) (fun c_1 => ?_)
  · skip
    have f_2 : k.toInt < 0 := f_lt rfl (by decide) c_1
    refine lv_iconst (v := 0) hx hb dX9_isSheet_22 (by decide) ?_
    have hP9 := hP.sub (ws' := [(h0, .inr (9, [.ref m1, .ref m2, .ref m3, .int (-1), .int 3, .int 255, .int 0, .int 0, .int 0, .int 0, .int 0, .int 65535, .ref m4, .ref m5, .ref m6, .ref m7, .ref m8, .ref m9, .int 0, .ref m10, .ref m11, .ref m12, .ref m13])), (m1, .inl (c1, 4, .inl (fun _ => 0)))]) [0, 1] rfl
    have hD9 := hD.sub (ws' := [(h0, .inr (9, [.ref m1, .ref m2, .ref m3, .int (-1), .int 3, .int 255, .int 0, .int 0, .int 0, .int 0, .int 0, .int 65535, .ref m4, .ref m5, .ref m6, .ref m7, .ref m8, .ref m9, .int 0, .ref m10, .ref m11, .ref m12, .ref m13])), (m1, .inl (c1, 4, .inl (fun _ => 0)))]) [0, 1] (by decide) rfl
    have hK9 := hK.sub (tys' := []) [] rfl
    exact W.zret (v := 0) hx hb hr rfl (fun t ht hW => ⟨⟨0, (), rfl, rfl, ⟨by rw [ht]; exact hP9, va_K.moved hW.alike hK9, hD9⟩⟩, hS.F ht⟩) hS.2.2 dX9_isSheet_23
  · skip
    have f_2 : ¬ (k.toInt < 0) := fn_lt rfl (by decide) c_1
    refine lv_iload_n hx hb dX9_isSheet_4 rfl (lv_at hl 1 rfl) ?_
    refine lv_iconst (v := 4) hx hb dX9_isSheet_5 (by decide) ?_
    refine lv_icmp_ge (tgt := 22) hx hb dX9_isSheet_6 (by decide) (fun c_3 => ?_) (fun c_3 => ?_)
    · skip
      have f_4 : 4 ≤ k.toInt := f_le (by decide) rfl c_3
      refine lv_iconst (v := 0) hx hb dX9_isSheet_22 (by decide) ?_
      have hP9 := hP.sub (ws' := [(h0, .inr (9, [.ref m1, .ref m2, .ref m3, .int (-1), .int 3, .int 255, .int 0, .int 0, .int 0, .int 0, .int 0, .int 65535, .ref m4, .ref m5, .ref m6, .ref m7, .ref m8, .ref m9, .int 0, .ref m10, .ref m11, .ref m12, .ref m13])), (m1, .inl (c1, 4, .inl (fun _ => 0)))]) [0, 1] rfl
      have hD9 := hD.sub (ws' := [(h0, .inr (9, [.ref m1, .ref m2, .ref m3, .int (-1), .int 3, .int 255, .int 0, .int 0, .int 0, .int 0, .int 0, .int 65535, .ref m4, .ref m5, .ref m6, .ref m7, .ref m8, .ref m9, .int 0, .ref m10, .ref m11, .ref m12, .ref m13])), (m1, .inl (c1, 4, .inl (fun _ => 0)))]) [0, 1] (by decide) rfl
      have hK9 := hK.sub (tys' := []) [] rfl
      exact W.zret (v := 0) hx hb hr rfl (fun t ht hW => ⟨⟨0, (), rfl, rfl, ⟨by rw [ht]; exact hP9, va_K.moved hW.alike hK9, hD9⟩⟩, hS.F ht⟩) hS.2.2 dX9_isSheet_23
    · skip
      have f_4 : ¬ (4 ≤ k.toInt) := fn_le (by decide) rfl c_3
      refine lv_aload_n hx hb dX9_isSheet_9 rfl (lv_at hl 0 rfl) ?_
      refine va_get (D := D) (ci := 9) (v := .ref m1) (C := RX9) (T := TX9) (N := 23) hx hb hts hi_X9 hown hK hP 0 rfl rfl 0 (by decide) (hts _ bw_95) (fun _ h9 => h9) rfl dX9_isSheet_10 ?_
      refine lv_iload_n hx hb dX9_isSheet_13 rfl (lv_at hl 1 rfl) ?_
      refine va_iald hx hb hK hP 1 0 rfl rfl (vp_in_iff.mpr ⟨by omega, by omega⟩) dX9_isSheet_14 ?_
      refine my_fold (v := 0) rfl ?_
      refine lv_if_le (tgt := 22) hx hb dX9_isSheet_15 (by decide) (fun c_5 => ?_) (fun c_5 => ?_)
      · skip
        refine lv_iconst (v := 0) hx hb dX9_isSheet_22 (by decide) ?_
        have hP9 := hP.sub (ws' := [(h0, .inr (9, [.ref m1, .ref m2, .ref m3, .int (-1), .int 3, .int 255, .int 0, .int 0, .int 0, .int 0, .int 0, .int 65535, .ref m4, .ref m5, .ref m6, .ref m7, .ref m8, .ref m9, .int 0, .ref m10, .ref m11, .ref m12, .ref m13])), (m1, .inl (c1, 4, .inl (fun _ => 0)))]) [0, 1] rfl
        have hD9 := hD.sub (ws' := [(h0, .inr (9, [.ref m1, .ref m2, .ref m3, .int (-1), .int 3, .int 255, .int 0, .int 0, .int 0, .int 0, .int 0, .int 65535, .ref m4, .ref m5, .ref m6, .ref m7, .ref m8, .ref m9, .int 0, .ref m10, .ref m11, .ref m12, .ref m13])), (m1, .inl (c1, 4, .inl (fun _ => 0)))]) [0, 1] (by decide) rfl
        have hK9 := hK.sub (tys' := []) [] rfl
        exact W.zret (v := 0) hx hb hr rfl (fun t ht hW => ⟨⟨0, (), rfl, rfl, ⟨by rw [ht]; exact hP9, va_K.moved hW.alike hK9, hD9⟩⟩, hS.F ht⟩) hS.2.2 dX9_isSheet_23
      · skip
        exact absurd c_5 (by decide)

set_option maxHeartbeats 4000000 in
set_option maxRecDepth 100000 in
theorem k_X9_ink (l : Launch) (D : va_G) (sz : Nat) (h0 m1 m2 m3 m4 m5 m6 m7 m8 m9 m10 m11 m12 m13 : Nat) (n : Int32) : Met l yX9_ink (wB yX9_ink cX9_ink 2 none) ({ frames := 2, cells := 0, slots := 0, locals := 44 }) (cP D [(h0, .inr (9, [.ref m1, .ref m2, .ref m3, .int (-1), .int 3, .int 255, .int 0, .int 0, .int 0, .int 0, .int 0, .int 65535, .ref m4, .ref m5, .ref m6, .ref m7, .ref m8, .ref m9, .int 0, .ref m10, .ref m11, .ref m12, .ref m13]))] [] sz [.ref h0, .int n]) (va_Qv (fun (_ : Unit) => True) (fun (_ : Unit) (_ : State) => True) (va_A [(h0, .inr (9, [.ref m1, .ref m2, .ref m3, .int (-1), .int 3, .int 255, .int 0, .int 0, .int 0, .int 0, .int 0, .int 65535, .ref m4, .ref m5, .ref m6, .ref m7, .ref m8, .ref m9, .int 0, .ref m10, .ref m11, .ref m12, .ref m13]))] sz)) 0 0 (va_A [(h0, .inr (9, [.ref m1, .ref m2, .ref m3, .int (-1), .int 3, .int 255, .int 0, .int 0, .int 0, .int 0, .int 0, .int 65535, .ref m4, .ref m5, .ref m6, .ref m7, .ref m8, .ref m9, .int 0, .ref m10, .ref m11, .ref m12, .ref m13]))] sz) := by
  refine Met.ofW (cc := cX9_ink) (maxL := 2) (ret := none) (by decide) rfl ?_
  intro p e s m args below meth c s₁ B hml hv
  obtain ⟨rfl, hsz, hP, hK, hD0, hN⟩ := hv
  have hx := B.exec
  have hb := B.bytes
  have hr := B.returns
  have hts0 := atoms_spec (ws := (wB yX9_ink cX9_ink 2 none)) B.pre
  have hts : ∀ w ∈ bigW, w.before _ s = true := fun w h => hts0 w (List.mem_cons_of_mem _ h)
  have hown : s.vm.findClass RX9 = some m.cls := findClass_of_methodNamed B.named
  have hlocks := B.notSynchronized
  subst hsz
  have hD := hD0.self (sz := s.heap.size)
  generalize hAe : va_A [(h0, .inr (9, [.ref m1, .ref m2, .ref m3, .int (-1), .int 3, .int 255, .int 0, .int 0, .int 0, .int 0, .int 0, .int 65535, .ref m4, .ref m5, .ref m6, .ref m7, .ref m8, .ref m9, .int 0, .ref m10, .ref m11, .ref m12, .ref m13]))] s.heap.size = A at hD ⊢
  have hA : ∀ q : Nat, s.heap.size ≤ q → A q := fun q h => by rw [← hAe]; exact Or.inr h
  have hS : va_S A s.heap s.heap [] := va_S.rf
  have hP : va_P D vwCl [(h0, .inr (9, [.ref m1, .ref m2, .ref m3, .int (-1), .int 3, .int 255, .int 0, .int 0, .int 0, .int 0, .int 0, .int 65535, .ref m4, .ref m5, .ref m6, .ref m7, .ref m8, .ref m9, .int 0, .ref m10, .ref m11, .ref m12, .ref m13]))] s.heap := hP
  have hl := lv_entry ([.ref h0, .int n]) (n := 2) (Nat.le_of_ble_eq_true rfl)
  rw [lg_entry_eq]
  generalize (lg_sl ([.ref h0, .int n]) ++ List.replicate (2 - (lg_sl ([.ref h0, .int n])).length) Slot.unset).toArray = ls at hl ⊢
  have hl : lv_has ls 2 [(0, .ref h0), (1, .int n)] := hl
  refine lv_aload_n hx hb dX9_ink_0 rfl (lv_at hl 0 rfl) ?_
  refine lv_iload_n hx hb dX9_ink_1 rfl (lv_at hl 1 rfl) ?_
  have hPc := hP.sub (ws' := []) [] rfl
  have hDc := hD.sub (ws' := []) [] (by decide) rfl
  have hKc := hK.sub (tys' := []) [] rfl
  have hFc := va_free (wc := []) hD hS hA [] rfl
  refine va_calli (va_runS (As := [.int n]) (rest := [.ref h0]) ⟨hx, hb, hml, hown, hts⟩ (k_X9_inkOf l D s.heap.size n) (va_cwS 1 hts (gS bw_176 bw_177 bw_11 bw_175) rfl rfl rfl (by decide +kernel) ⟨Nat.le_of_ble_eq_true rfl, Nat.le_of_ble_eq_true rfl⟩) ⟨cP_blind, cP_at hPc hKc hDc hN⟩ rfl rfl hl.1 rfl (lv_room (Nat.le_of_ble_eq_true rfl)) dX9_ink_2 ⟨Nat.le_of_ble_eq_true rfl, Nat.le_of_ble_eq_true rfl⟩) hS (fun q _ h => hFc q h) hFc (fun r_1 u9 t9 H1 locs ht hvm hr_1 hB hz1 hk1 hS => ?_)
  try dsimp only at hr_1
  have hP1 : va_P D vwCl [] H1 := vP_nil
  have hD1 : va_D (va_A [] s.heap.size) [] := vD_nil
  obtain ⟨hP, hD⟩ := va_join (wr := [(h0, .inr (9, [.ref m1, .ref m2, .ref m3, .int (-1), .int 3, .int 255, .int 0, .int 0, .int 0, .int 0, .int 0, .int 65535, .ref m4, .ref m5, .ref m6, .ref m7, .ref m8, .ref m9, .int 0, .ref m10, .ref m11, .ref m12, .ref m13]))]) (w1 := []) hP hD [] [0] rfl rfl (by decide) (by decide) hk1 hFc hP1 hD1
  clear hz1 hk1 hFc hKc hDc hPc
  generalize H1 = H at hP hS ⊢
  have hP : va_P D vwCl [(h0, .inr (9, [.ref m1, .ref m2, .ref m3, .int (-1), .int 3, .int 255, .int 0, .int 0, .int 0, .int 0, .int 0, .int 65535, .ref m4, .ref m5, .ref m6, .ref m7, .ref m8, .ref m9, .int 0, .ref m10, .ref m11, .ref m12, .ref m13]))] H := hP
  have hD : va_D A [(h0, .inr (9, [.ref m1, .ref m2, .ref m3, .int (-1), .int 3, .int 255, .int 0, .int 0, .int 0, .int 0, .int 0, .int 65535, .ref m4, .ref m5, .ref m6, .ref m7, .ref m8, .ref m9, .int 0, .ref m10, .ref m11, .ref m12, .ref m13]))] := hD
  refine va_put (D := D) (ci := 9) (v := .int r_1) (ty := .int) (C := RX9) (T := TX9) (N := 23) hx hb hts hi_X9 tyX9 tyX9_ok nmX9 hown hK hP hD hS 0 rfl rfl 3 (by decide) (hts _ bw_98) (fun _ h9 => h9) rfl (by decide +kernel) rfl rfl (Nat.le_of_ble_eq_true rfl) dX9_ink_5 (fun H locs hP hD hS => ?_)
  have hP : va_P D vwCl [(h0, .inr (9, [.ref m1, .ref m2, .ref m3, .int r_1, .int 3, .int 255, .int 0, .int 0, .int 0, .int 0, .int 0, .int 65535, .ref m4, .ref m5, .ref m6, .ref m7, .ref m8, .ref m9, .int 0, .ref m10, .ref m11, .ref m12, .ref m13]))] H := hP
  have hD : va_D A [(h0, .inr (9, [.ref m1, .ref m2, .ref m3, .int r_1, .int 3, .int 255, .int 0, .int 0, .int 0, .int 0, .int 0, .int 65535, .ref m4, .ref m5, .ref m6, .ref m7, .ref m8, .ref m9, .int 0, .ref m10, .ref m11, .ref m12, .ref m13]))] := hD
  exact W.vret hx hb hr (fun t ht hW => ⟨⟨(), rfl, trivial, trivial⟩, hS.F ht⟩) hS.2.2 dX9_ink_8

set_option maxHeartbeats 4000000 in
set_option maxRecDepth 100000 in
theorem k_X9_way (l : Launch) (D : va_G) (sz : Nat) (h0 m1 m2 m3 m4 m5 m6 m7 m8 m9 m10 m11 m12 m13 : Nat) (w o : Int32) : Met l yX9_way (wB yX9_way cX9_way 3 (some .boolean)) ({ frames := 0, cells := 0, slots := 0, locals := 0 }) (cP D [(h0, .inr (9, [.ref m1, .ref m2, .ref m3, .int (-1), .int 3, .int 255, .int 0, .int 0, .int 0, .int 0, .int 0, .int 65535, .ref m4, .ref m5, .ref m6, .ref m7, .ref m8, .ref m9, .int 0, .ref m10, .ref m11, .ref m12, .ref m13]))] [] sz [.ref h0, .int w, .int o]) (va_Qi (fun (r : Int32) (_ : Unit) => r = if 0 ≤ w.toInt ∧ w.toInt ≤ 12 ∧ 0 ≤ o.toInt ∧ o.toInt ≤ 255 then 1 else 0) (fun (_ : Unit) (_ : State) => True) (va_A [(h0, .inr (9, [.ref m1, .ref m2, .ref m3, .int (-1), .int 3, .int 255, .int 0, .int 0, .int 0, .int 0, .int 0, .int 65535, .ref m4, .ref m5, .ref m6, .ref m7, .ref m8, .ref m9, .int 0, .ref m10, .ref m11, .ref m12, .ref m13]))] sz)) 0 0 (va_A [(h0, .inr (9, [.ref m1, .ref m2, .ref m3, .int (-1), .int 3, .int 255, .int 0, .int 0, .int 0, .int 0, .int 0, .int 65535, .ref m4, .ref m5, .ref m6, .ref m7, .ref m8, .ref m9, .int 0, .ref m10, .ref m11, .ref m12, .ref m13]))] sz) := by
  refine Met.ofW (cc := cX9_way) (maxL := 3) (ret := (some .boolean)) (by decide) rfl ?_
  intro p e s m args below meth c s₁ B hml hv
  obtain ⟨rfl, hsz, hP, hK, hD0, hN⟩ := hv
  have hx := B.exec
  have hb := B.bytes
  have hr := B.returns
  have hts0 := atoms_spec (ws := (wB yX9_way cX9_way 3 (some .boolean))) B.pre
  have hts : ∀ w ∈ bigW, w.before _ s = true := fun w h => hts0 w (List.mem_cons_of_mem _ h)
  have hown : s.vm.findClass RX9 = some m.cls := findClass_of_methodNamed B.named
  have hlocks := B.notSynchronized
  subst hsz
  have hD := hD0.self (sz := s.heap.size)
  generalize hAe : va_A [(h0, .inr (9, [.ref m1, .ref m2, .ref m3, .int (-1), .int 3, .int 255, .int 0, .int 0, .int 0, .int 0, .int 0, .int 65535, .ref m4, .ref m5, .ref m6, .ref m7, .ref m8, .ref m9, .int 0, .ref m10, .ref m11, .ref m12, .ref m13]))] s.heap.size = A at hD ⊢
  have hA : ∀ q : Nat, s.heap.size ≤ q → A q := fun q h => by rw [← hAe]; exact Or.inr h
  have hS : va_S A s.heap s.heap [] := va_S.rf
  have hP : va_P D vwCl [(h0, .inr (9, [.ref m1, .ref m2, .ref m3, .int (-1), .int 3, .int 255, .int 0, .int 0, .int 0, .int 0, .int 0, .int 65535, .ref m4, .ref m5, .ref m6, .ref m7, .ref m8, .ref m9, .int 0, .ref m10, .ref m11, .ref m12, .ref m13]))] s.heap := hP
  have hl := lv_entry ([.ref h0, .int w, .int o]) (n := 3) (Nat.le_of_ble_eq_true rfl)
  rw [lg_entry_eq]
  generalize (lg_sl ([.ref h0, .int w, .int o]) ++ List.replicate (3 - (lg_sl ([.ref h0, .int w, .int o])).length) Slot.unset).toArray = ls at hl ⊢
  have hl : lv_has ls 3 [(0, .ref h0), (1, .int w), (2, .int o)] := hl
  refine lv_iload_n hx hb dX9_way_0 rfl (lv_at hl 1 rfl) ?_
  refine lv_if_lt (tgt := 21) hx hb dX9_way_1 (by decide) (fun c_1 => ?_) (fun c_1 => ?_)
  · skip
    have f_2 : w.toInt < 0 := f_lt rfl (by decide) c_1
    refine lv_iconst (v := 0) hx hb dX9_way_21 (by decide) ?_
    exact W.zret (v := 0) hx hb hr rfl (fun t ht hW => ⟨⟨0, (), rfl, (if_neg (by omega)).symm, trivial⟩, hS.F ht⟩) hS.2.2 dX9_way_22
  · skip
    have f_2 : ¬ (w.toInt < 0) := fn_lt rfl (by decide) c_1
    refine lv_iload_n hx hb dX9_way_4 rfl (lv_at hl 1 rfl) ?_
    refine lv_bipush (v := 12) hx hb dX9_way_5 (by decide) ?_
    refine lv_icmp_gt (tgt := 21) hx hb dX9_way_7 (by decide) (fun c_3 => ?_) (fun c_3 => ?_)
    · skip
      have f_4 : 12 < w.toInt := f_lt (by decide) rfl c_3
      refine lv_iconst (v := 0) hx hb dX9_way_21 (by decide) ?_
      exact W.zret (v := 0) hx hb hr rfl (fun t ht hW => ⟨⟨0, (), rfl, (if_neg (by omega)).symm, trivial⟩, hS.F ht⟩) hS.2.2 dX9_way_22
    · skip
      have f_4 : ¬ (12 < w.toInt) := fn_lt (by decide) rfl c_3
      refine lv_iload_n hx hb dX9_way_10 rfl (lv_at hl 2 rfl) ?_
      refine lv_if_lt (tgt := 21) hx hb dX9_way_11 (by decide) (fun c_5 => ?_) (fun c_5 => ?_)
      · skip
        have f_6 : o.toInt < 0 := f_lt rfl (by decide) c_5
        refine lv_iconst (v := 0) hx hb dX9_way_21 (by decide) ?_
        exact W.zret (v := 0) hx hb hr rfl (fun t ht hW => ⟨⟨0, (), rfl, (if_neg (by omega)).symm, trivial⟩, hS.F ht⟩) hS.2.2 dX9_way_22
      · skip
        have f_6 : ¬ (o.toInt < 0) := fn_lt rfl (by decide) c_5
        refine lv_iload_n hx hb dX9_way_14 rfl (lv_at hl 2 rfl) ?_
        refine lv_sipush (v := 255) hx hb dX9_way_15 (by decide) ?_
        refine lv_icmp_le (tgt := 23) hx hb dX9_way_18 (by decide) (fun c_7 => ?_) (fun c_7 => ?_)
        · skip
          have f_8 : o.toInt ≤ 255 := f_le rfl (by decide) c_7
          refine lv_aload_n hx hb dX9_way_23 rfl (lv_at hl 0 rfl) ?_
          refine lv_iload_n hx hb dX9_way_24 rfl (lv_at hl 1 rfl) ?_
          refine va_put (D := D) (ci := 9) (v := .int w) (ty := .int) (C := RX9) (T := TX9) (N := 23) hx hb hts hi_X9 tyX9 tyX9_ok nmX9 hown hK hP hD hS 0 rfl rfl 4 (by decide) (hts _ bw_99) (fun _ h9 => h9) rfl (by decide +kernel) rfl rfl (Nat.le_of_ble_eq_true rfl) dX9_way_25 (fun H locs hP hD hS => ?_)
          have hP : va_P D vwCl [(h0, .inr (9, [.ref m1, .ref m2, .ref m3, .int (-1), .int w, .int 255, .int 0, .int 0, .int 0, .int 0, .int 0, .int 65535, .ref m4, .ref m5, .ref m6, .ref m7, .ref m8, .ref m9, .int 0, .ref m10, .ref m11, .ref m12, .ref m13]))] H := hP
          have hD : va_D A [(h0, .inr (9, [.ref m1, .ref m2, .ref m3, .int (-1), .int w, .int 255, .int 0, .int 0, .int 0, .int 0, .int 0, .int 65535, .ref m4, .ref m5, .ref m6, .ref m7, .ref m8, .ref m9, .int 0, .ref m10, .ref m11, .ref m12, .ref m13]))] := hD
          refine lv_aload_n hx hb dX9_way_28 rfl (lv_at hl 0 rfl) ?_
          refine lv_iload_n hx hb dX9_way_29 rfl (lv_at hl 2 rfl) ?_
          refine va_put (D := D) (ci := 9) (v := .int o) (ty := .int) (C := RX9) (T := TX9) (N := 23) hx hb hts hi_X9 tyX9 tyX9_ok nmX9 hown hK hP hD hS 0 rfl rfl 5 (by decide) (hts _ bw_100) (fun _ h9 => h9) rfl (by decide +kernel) rfl rfl (Nat.le_of_ble_eq_true rfl) dX9_way_30 (fun H locs hP hD hS => ?_)
          have hP : va_P D vwCl [(h0, .inr (9, [.ref m1, .ref m2, .ref m3, .int (-1), .int w, .int o, .int 0, .int 0, .int 0, .int 0, .int 0, .int 65535, .ref m4, .ref m5, .ref m6, .ref m7, .ref m8, .ref m9, .int 0, .ref m10, .ref m11, .ref m12, .ref m13]))] H := hP
          have hD : va_D A [(h0, .inr (9, [.ref m1, .ref m2, .ref m3, .int (-1), .int w, .int o, .int 0, .int 0, .int 0, .int 0, .int 0, .int 65535, .ref m4, .ref m5, .ref m6, .ref m7, .ref m8, .ref m9, .int 0, .ref m10, .ref m11, .ref m12, .ref m13]))] := hD
          refine lv_iconst (v := 1) hx hb dX9_way_33 (by decide) ?_
          exact W.zret (v := 1) hx hb hr rfl (fun t ht hW => ⟨⟨1, (), rfl, (if_pos (by omega)).symm, trivial⟩, hS.F ht⟩) hS.2.2 dX9_way_34
        · skip
          have f_8 : ¬ (o.toInt ≤ 255) := fn_le rfl (by decide) c_7
          refine lv_iconst (v := 0) hx hb dX9_way_21 (by decide) ?_
          exact W.zret (v := 0) hx hb hr rfl (fun t ht hW => ⟨⟨0, (), rfl, (if_neg (by omega)).symm, trivial⟩, hS.F ht⟩) hS.2.2 dX9_way_22

set_option maxHeartbeats 4000000 in
set_option maxRecDepth 100000 in
theorem k_X9_clip (l : Launch) (D : va_G) (sz : Nat) (h0 m1 m2 m3 m4 m5 m6 m7 m8 m9 m10 m11 m12 m13 : Nat) (x y z w : Int32) : Met l yX9_clip (wB yX9_clip cX9_clip 5 none) ({ frames := 0, cells := 0, slots := 0, locals := 0 }) (cP D [(h0, .inr (9, [.ref m1, .ref m2, .ref m3, .int (-1), .int 3, .int 255, .int 0, .int 0, .int 0, .int 0, .int 0, .int 65535, .ref m4, .ref m5, .ref m6, .ref m7, .ref m8, .ref m9, .int 0, .ref m10, .ref m11, .ref m12, .ref m13]))] [] sz [.ref h0, .int x, .int y, .int z, .int w]) (va_Qv (fun (_ : Unit) => True) (fun (_ : Unit) (_ : State) => True) (va_A [(h0, .inr (9, [.ref m1, .ref m2, .ref m3, .int (-1), .int 3, .int 255, .int 0, .int 0, .int 0, .int 0, .int 0, .int 65535, .ref m4, .ref m5, .ref m6, .ref m7, .ref m8, .ref m9, .int 0, .ref m10, .ref m11, .ref m12, .ref m13]))] sz)) 0 0 (va_A [(h0, .inr (9, [.ref m1, .ref m2, .ref m3, .int (-1), .int 3, .int 255, .int 0, .int 0, .int 0, .int 0, .int 0, .int 65535, .ref m4, .ref m5, .ref m6, .ref m7, .ref m8, .ref m9, .int 0, .ref m10, .ref m11, .ref m12, .ref m13]))] sz) := by
  refine Met.ofW (cc := cX9_clip) (maxL := 5) (ret := none) (by decide) rfl ?_
  intro p e s m args below meth c s₁ B hml hv
  obtain ⟨rfl, hsz, hP, hK, hD0, hN⟩ := hv
  have hx := B.exec
  have hb := B.bytes
  have hr := B.returns
  have hts0 := atoms_spec (ws := (wB yX9_clip cX9_clip 5 none)) B.pre
  have hts : ∀ w ∈ bigW, w.before _ s = true := fun w h => hts0 w (List.mem_cons_of_mem _ h)
  have hown : s.vm.findClass RX9 = some m.cls := findClass_of_methodNamed B.named
  have hlocks := B.notSynchronized
  subst hsz
  have hD := hD0.self (sz := s.heap.size)
  generalize hAe : va_A [(h0, .inr (9, [.ref m1, .ref m2, .ref m3, .int (-1), .int 3, .int 255, .int 0, .int 0, .int 0, .int 0, .int 0, .int 65535, .ref m4, .ref m5, .ref m6, .ref m7, .ref m8, .ref m9, .int 0, .ref m10, .ref m11, .ref m12, .ref m13]))] s.heap.size = A at hD ⊢
  have hA : ∀ q : Nat, s.heap.size ≤ q → A q := fun q h => by rw [← hAe]; exact Or.inr h
  have hS : va_S A s.heap s.heap [] := va_S.rf
  have hP : va_P D vwCl [(h0, .inr (9, [.ref m1, .ref m2, .ref m3, .int (-1), .int 3, .int 255, .int 0, .int 0, .int 0, .int 0, .int 0, .int 65535, .ref m4, .ref m5, .ref m6, .ref m7, .ref m8, .ref m9, .int 0, .ref m10, .ref m11, .ref m12, .ref m13]))] s.heap := hP
  have hl := lv_entry ([.ref h0, .int x, .int y, .int z, .int w]) (n := 5) (Nat.le_of_ble_eq_true rfl)
  rw [lg_entry_eq]
  generalize (lg_sl ([.ref h0, .int x, .int y, .int z, .int w]) ++ List.replicate (5 - (lg_sl ([.ref h0, .int x, .int y, .int z, .int w])).length) Slot.unset).toArray = ls at hl ⊢
  have hl : lv_has ls 5 [(0, .ref h0), (1, .int x), (2, .int y), (3, .int z), (4, .int w)] := hl
  refine lv_aload_n hx hb dX9_clip_0 rfl (lv_at hl 0 rfl) ?_
  refine lv_iconst (v := 1) hx hb dX9_clip_1 (by decide) ?_
  refine va_put (D := D) (ci := 9) (v := .int 1) (ty := .boolean) (C := RX9) (T := TX9) (N := 23) hx hb hts hi_X9 tyX9 tyX9_ok nmX9 hown hK hP hD hS 0 rfl rfl 6 (by decide) (hts _ bw_178) (fun _ h9 => h9) rfl (by decide +kernel) rfl rfl (Nat.le_of_ble_eq_true rfl) dX9_clip_2 (fun H locs hP hD hS => ?_)
  have hP : va_P D vwCl [(h0, .inr (9, [.ref m1, .ref m2, .ref m3, .int (-1), .int 3, .int 255, .int 1, .int 0, .int 0, .int 0, .int 0, .int 65535, .ref m4, .ref m5, .ref m6, .ref m7, .ref m8, .ref m9, .int 0, .ref m10, .ref m11, .ref m12, .ref m13]))] H := hP
  have hD : va_D A [(h0, .inr (9, [.ref m1, .ref m2, .ref m3, .int (-1), .int 3, .int 255, .int 1, .int 0, .int 0, .int 0, .int 0, .int 65535, .ref m4, .ref m5, .ref m6, .ref m7, .ref m8, .ref m9, .int 0, .ref m10, .ref m11, .ref m12, .ref m13]))] := hD
  refine lv_aload_n hx hb dX9_clip_5 rfl (lv_at hl 0 rfl) ?_
  refine lv_iload_n hx hb dX9_clip_6 rfl (lv_at hl 1 rfl) ?_
  refine va_put (D := D) (ci := 9) (v := .int x) (ty := .int) (C := RX9) (T := TX9) (N := 23) hx hb hts hi_X9 tyX9 tyX9_ok nmX9 hown hK hP hD hS 0 rfl rfl 7 (by decide) (hts _ bw_179) (fun _ h9 => h9) rfl (by decide +kernel) rfl rfl (Nat.le_of_ble_eq_true rfl) dX9_clip_7 (fun H locs hP hD hS => ?_)
  have hP : va_P D vwCl [(h0, .inr (9, [.ref m1, .ref m2, .ref m3, .int (-1), .int 3, .int 255, .int 1, .int x, .int 0, .int 0, .int 0, .int 65535, .ref m4, .ref m5, .ref m6, .ref m7, .ref m8, .ref m9, .int 0, .ref m10, .ref m11, .ref m12, .ref m13]))] H := hP
  have hD : va_D A [(h0, .inr (9, [.ref m1, .ref m2, .ref m3, .int (-1), .int 3, .int 255, .int 1, .int x, .int 0, .int 0, .int 0, .int 65535, .ref m4, .ref m5, .ref m6, .ref m7, .ref m8, .ref m9, .int 0, .ref m10, .ref m11, .ref m12, .ref m13]))] := hD
  refine lv_aload_n hx hb dX9_clip_10 rfl (lv_at hl 0 rfl) ?_
  refine lv_iload_n hx hb dX9_clip_11 rfl (lv_at hl 3 rfl) ?_
  refine va_put (D := D) (ci := 9) (v := .int z) (ty := .int) (C := RX9) (T := TX9) (N := 23) hx hb hts hi_X9 tyX9 tyX9_ok nmX9 hown hK hP hD hS 0 rfl rfl 8 (by decide) (hts _ bw_180) (fun _ h9 => h9) rfl (by decide +kernel) rfl rfl (Nat.le_of_ble_eq_true rfl) dX9_clip_12 (fun H locs hP hD hS => ?_)
  have hP : va_P D vwCl [(h0, .inr (9, [.ref m1, .ref m2, .ref m3, .int (-1), .int 3, .int 255, .int 1, .int x, .int z, .int 0, .int 0, .int 65535, .ref m4, .ref m5, .ref m6, .ref m7, .ref m8, .ref m9, .int 0, .ref m10, .ref m11, .ref m12, .ref m13]))] H := hP
  have hD : va_D A [(h0, .inr (9, [.ref m1, .ref m2, .ref m3, .int (-1), .int 3, .int 255, .int 1, .int x, .int z, .int 0, .int 0, .int 65535, .ref m4, .ref m5, .ref m6, .ref m7, .ref m8, .ref m9, .int 0, .ref m10, .ref m11, .ref m12, .ref m13]))] := hD
  refine lv_aload_n hx hb dX9_clip_15 rfl (lv_at hl 0 rfl) ?_
  refine lv_iload_n hx hb dX9_clip_16 rfl (lv_at hl 2 rfl) ?_
  refine va_put (D := D) (ci := 9) (v := .int y) (ty := .int) (C := RX9) (T := TX9) (N := 23) hx hb hts hi_X9 tyX9 tyX9_ok nmX9 hown hK hP hD hS 0 rfl rfl 9 (by decide) (hts _ bw_181) (fun _ h9 => h9) rfl (by decide +kernel) rfl rfl (Nat.le_of_ble_eq_true rfl) dX9_clip_17 (fun H locs hP hD hS => ?_)
  have hP : va_P D vwCl [(h0, .inr (9, [.ref m1, .ref m2, .ref m3, .int (-1), .int 3, .int 255, .int 1, .int x, .int z, .int y, .int 0, .int 65535, .ref m4, .ref m5, .ref m6, .ref m7, .ref m8, .ref m9, .int 0, .ref m10, .ref m11, .ref m12, .ref m13]))] H := hP
  have hD : va_D A [(h0, .inr (9, [.ref m1, .ref m2, .ref m3, .int (-1), .int 3, .int 255, .int 1, .int x, .int z, .int y, .int 0, .int 65535, .ref m4, .ref m5, .ref m6, .ref m7, .ref m8, .ref m9, .int 0, .ref m10, .ref m11, .ref m12, .ref m13]))] := hD
  refine lv_aload_n hx hb dX9_clip_20 rfl (lv_at hl 0 rfl) ?_
  refine lv_iload hx hb dX9_clip_21 (lv_at hl 4 rfl) ?_
  refine va_put (D := D) (ci := 9) (v := .int w) (ty := .int) (C := RX9) (T := TX9) (N := 23) hx hb hts hi_X9 tyX9 tyX9_ok nmX9 hown hK hP hD hS 0 rfl rfl 10 (by decide) (hts _ bw_182) (fun _ h9 => h9) rfl (by decide +kernel) rfl rfl (Nat.le_of_ble_eq_true rfl) dX9_clip_23 (fun H locs hP hD hS => ?_)
  have hP : va_P D vwCl [(h0, .inr (9, [.ref m1, .ref m2, .ref m3, .int (-1), .int 3, .int 255, .int 1, .int x, .int z, .int y, .int w, .int 65535, .ref m4, .ref m5, .ref m6, .ref m7, .ref m8, .ref m9, .int 0, .ref m10, .ref m11, .ref m12, .ref m13]))] H := hP
  have hD : va_D A [(h0, .inr (9, [.ref m1, .ref m2, .ref m3, .int (-1), .int 3, .int 255, .int 1, .int x, .int z, .int y, .int w, .int 65535, .ref m4, .ref m5, .ref m6, .ref m7, .ref m8, .ref m9, .int 0, .ref m10, .ref m11, .ref m12, .ref m13]))] := hD
  exact W.vret hx hb hr (fun t ht hW => ⟨⟨(), rfl, trivial, trivial⟩, hS.F ht⟩) hS.2.2 dX9_clip_26

set_option maxHeartbeats 4000000 in
set_option maxRecDepth 100000 in
theorem k_X9_dashes (l : Launch) (D : va_G) (sz : Nat) (h0 m1 m2 m3 m4 m5 m6 m7 m8 m9 m10 m11 m12 m13 : Nat) (n : Int32) : Met l yX9_dashes (wB yX9_dashes cX9_dashes 2 none) ({ frames := 0, cells := 0, slots := 0, locals := 0 }) (cP D [(h0, .inr (9, [.ref m1, .ref m2, .ref m3, .int (-1), .int 3, .int 255, .int 0, .int 0, .int 0, .int 0, .int 0, .int 65535, .ref m4, .ref m5, .ref m6, .ref m7, .ref m8, .ref m9, .int 0, .ref m10, .ref m11, .ref m12, .ref m13]))] [] sz [.ref h0, .int n]) (va_Qv (fun (_ : Unit) => True) (fun (_ : Unit) (_ : State) => True) (va_A [(h0, .inr (9, [.ref m1, .ref m2, .ref m3, .int (-1), .int 3, .int 255, .int 0, .int 0, .int 0, .int 0, .int 0, .int 65535, .ref m4, .ref m5, .ref m6, .ref m7, .ref m8, .ref m9, .int 0, .ref m10, .ref m11, .ref m12, .ref m13]))] sz)) 0 0 (va_A [(h0, .inr (9, [.ref m1, .ref m2, .ref m3, .int (-1), .int 3, .int 255, .int 0, .int 0, .int 0, .int 0, .int 0, .int 65535, .ref m4, .ref m5, .ref m6, .ref m7, .ref m8, .ref m9, .int 0, .ref m10, .ref m11, .ref m12, .ref m13]))] sz) := by
  refine Met.ofW (cc := cX9_dashes) (maxL := 2) (ret := none) (by decide) rfl ?_
  intro p e s m args below meth c s₁ B hml hv
  obtain ⟨rfl, hsz, hP, hK, hD0, hN⟩ := hv
  have hx := B.exec
  have hb := B.bytes
  have hr := B.returns
  have hts0 := atoms_spec (ws := (wB yX9_dashes cX9_dashes 2 none)) B.pre
  have hts : ∀ w ∈ bigW, w.before _ s = true := fun w h => hts0 w (List.mem_cons_of_mem _ h)
  have hown : s.vm.findClass RX9 = some m.cls := findClass_of_methodNamed B.named
  have hlocks := B.notSynchronized
  subst hsz
  have hD := hD0.self (sz := s.heap.size)
  generalize hAe : va_A [(h0, .inr (9, [.ref m1, .ref m2, .ref m3, .int (-1), .int 3, .int 255, .int 0, .int 0, .int 0, .int 0, .int 0, .int 65535, .ref m4, .ref m5, .ref m6, .ref m7, .ref m8, .ref m9, .int 0, .ref m10, .ref m11, .ref m12, .ref m13]))] s.heap.size = A at hD ⊢
  have hA : ∀ q : Nat, s.heap.size ≤ q → A q := fun q h => by rw [← hAe]; exact Or.inr h
  have hS : va_S A s.heap s.heap [] := va_S.rf
  have hP : va_P D vwCl [(h0, .inr (9, [.ref m1, .ref m2, .ref m3, .int (-1), .int 3, .int 255, .int 0, .int 0, .int 0, .int 0, .int 0, .int 65535, .ref m4, .ref m5, .ref m6, .ref m7, .ref m8, .ref m9, .int 0, .ref m10, .ref m11, .ref m12, .ref m13]))] s.heap := hP
  have hl := lv_entry ([.ref h0, .int n]) (n := 2) (Nat.le_of_ble_eq_true rfl)
  rw [lg_entry_eq]
  generalize (lg_sl ([.ref h0, .int n]) ++ List.replicate (2 - (lg_sl ([.ref h0, .int n])).length) Slot.unset).toArray = ls at hl ⊢
  have hl : lv_has ls 2 [(0, .ref h0), (1, .int n)] := hl
  refine lv_aload_n hx hb dX9_dashes_0 rfl (lv_at hl 0 rfl) ?_
  refine lv_iload_n hx hb dX9_dashes_1 rfl (lv_at hl 1 rfl) ?_
  refine lv_ldc hx hb hown (hts _ bw_101) dX9_dashes_2 ?_
  refine lv_iand hx hb dX9_dashes_4 ?_
  refine lv_topi (fun y_1 ey_1 => ?_)
  refine va_put (D := D) (ci := 9) (v := .int y_1) (ty := .int) (C := RX9) (T := TX9) (N := 23) hx hb hts hi_X9 tyX9 tyX9_ok nmX9 hown hK hP hD hS 0 rfl rfl 11 (by decide) (hts _ bw_102) (fun _ h9 => h9) rfl (by decide +kernel) rfl rfl (Nat.le_of_ble_eq_true rfl) dX9_dashes_5 (fun H locs hP hD hS => ?_)
  have hP : va_P D vwCl [(h0, .inr (9, [.ref m1, .ref m2, .ref m3, .int (-1), .int 3, .int 255, .int 0, .int 0, .int 0, .int 0, .int 0, .int y_1, .ref m4, .ref m5, .ref m6, .ref m7, .ref m8, .ref m9, .int 0, .ref m10, .ref m11, .ref m12, .ref m13]))] H := hP
  have hD : va_D A [(h0, .inr (9, [.ref m1, .ref m2, .ref m3, .int (-1), .int 3, .int 255, .int 0, .int 0, .int 0, .int 0, .int 0, .int y_1, .ref m4, .ref m5, .ref m6, .ref m7, .ref m8, .ref m9, .int 0, .ref m10, .ref m11, .ref m12, .ref m13]))] := hD
  exact W.vret hx hb hr (fun t ht hW => ⟨⟨(), rfl, trivial, trivial⟩, hS.F ht⟩) hS.2.2 dX9_dashes_8

set_option maxHeartbeats 4000000 in
set_option maxRecDepth 100000 in
theorem k_X9_line (l : Launch) (D : va_G) (sz : Nat) (h0 m1 m2 m3 m4 m5 m6 m7 m8 m9 m10 m11 m12 m13 : Nat) (c1 : ClassId) (a1 a2 a3 a4 a5 : Int32) : Met l yX9_line (wB yX9_line cX9_line 12 (some .int)) ({ frames := 1, cells := 0, slots := 0, locals := 21 }) (cP D [(h0, .inr (9, [.ref m1, .ref m2, .ref m3, .int (-1), .int 3, .int 255, .int 0, .int 0, .int 0, .int 0, .int 0, .int 65535, .ref m4, .ref m5, .ref m6, .ref m7, .ref m8, .ref m9, .int 0, .ref m10, .ref m11, .ref m12, .ref m13])), (m1, .inl (c1, 4, .inl (fun _ => 0)))] [(c1, .int)] sz [.ref h0, .int a1, .int a2, .int a3, .int a4, .int a5]) (va_Qi (fun (r : Int32) (_ : Unit) => r = -1) (fun (_ : Unit) (_ : State) => True) (va_A [(h0, .inr (9, [.ref m1, .ref m2, .ref m3, .int (-1), .int 3, .int 255, .int 0, .int 0, .int 0, .int 0, .int 0, .int 65535, .ref m4, .ref m5, .ref m6, .ref m7, .ref m8, .ref m9, .int 0, .ref m10, .ref m11, .ref m12, .ref m13])), (m1, .inl (c1, 4, .inl (fun _ => 0)))] sz)) 0 0 (va_A [(h0, .inr (9, [.ref m1, .ref m2, .ref m3, .int (-1), .int 3, .int 255, .int 0, .int 0, .int 0, .int 0, .int 0, .int 65535, .ref m4, .ref m5, .ref m6, .ref m7, .ref m8, .ref m9, .int 0, .ref m10, .ref m11, .ref m12, .ref m13])), (m1, .inl (c1, 4, .inl (fun _ => 0)))] sz) := by
  refine Met.ofW (cc := cX9_line) (maxL := 12) (ret := (some .int)) (by decide) rfl ?_
  intro p e s m args below meth c s₁ B hml hv
  obtain ⟨rfl, hsz, hP, hK, hD0, hN⟩ := hv
  have hx := B.exec
  have hb := B.bytes
  have hr := B.returns
  have hts0 := atoms_spec (ws := (wB yX9_line cX9_line 12 (some .int))) B.pre
  have hts : ∀ w ∈ bigW, w.before _ s = true := fun w h => hts0 w (List.mem_cons_of_mem _ h)
  have hown : s.vm.findClass RX9 = some m.cls := findClass_of_methodNamed B.named
  have hlocks := B.notSynchronized
  subst hsz
  have hD := hD0.self (sz := s.heap.size)
  generalize hAe : va_A [(h0, .inr (9, [.ref m1, .ref m2, .ref m3, .int (-1), .int 3, .int 255, .int 0, .int 0, .int 0, .int 0, .int 0, .int 65535, .ref m4, .ref m5, .ref m6, .ref m7, .ref m8, .ref m9, .int 0, .ref m10, .ref m11, .ref m12, .ref m13])), (m1, .inl (c1, 4, .inl (fun _ => 0)))] s.heap.size = A at hD ⊢
  have hA : ∀ q : Nat, s.heap.size ≤ q → A q := fun q h => by rw [← hAe]; exact Or.inr h
  have hS : va_S A s.heap s.heap [] := va_S.rf
  have hP : va_P D vwCl [(h0, .inr (9, [.ref m1, .ref m2, .ref m3, .int (-1), .int 3, .int 255, .int 0, .int 0, .int 0, .int 0, .int 0, .int 65535, .ref m4, .ref m5, .ref m6, .ref m7, .ref m8, .ref m9, .int 0, .ref m10, .ref m11, .ref m12, .ref m13])), (m1, .inl (c1, 4, .inl (fun _ => 0)))] s.heap := hP
  have hl := lv_entry ([.ref h0, .int a1, .int a2, .int a3, .int a4, .int a5]) (n := 12) (Nat.le_of_ble_eq_true rfl)
  rw [lg_entry_eq]
  generalize (lg_sl ([.ref h0, .int a1, .int a2, .int a3, .int a4, .int a5]) ++ List.replicate (12 - (lg_sl ([.ref h0, .int a1, .int a2, .int a3, .int a4, .int a5])).length) Slot.unset).toArray = ls at hl ⊢
  have hl : lv_has ls 12 [(0, .ref h0), (1, .int a1), (2, .int a2), (3, .int a3), (4, .int a4), (5, .int a5)] := hl
  refine lv_aload_n hx hb dX9_line_0 rfl (lv_at hl 0 rfl) ?_
  refine lv_iload_n hx hb dX9_line_1 rfl (lv_at hl 1 rfl) ?_
  have hPc := hP.sub (ws' := [(h0, .inr (9, [.ref m1, .ref m2, .ref m3, .int (-1), .int 3, .int 255, .int 0, .int 0, .int 0, .int 0, .int 0, .int 65535, .ref m4, .ref m5, .ref m6, .ref m7, .ref m8, .ref m9, .int 0, .ref m10, .ref m11, .ref m12, .ref m13])), (m1, .inl (c1, 4, .inl (fun _ => 0)))]) [0, 1] rfl
  have hDc := hD.sub (ws' := [(h0, .inr (9, [.ref m1, .ref m2, .ref m3, .int (-1), .int 3, .int 255, .int 0, .int 0, .int 0, .int 0, .int 0, .int 65535, .ref m4, .ref m5, .ref m6, .ref m7, .ref m8, .ref m9, .int 0, .ref m10, .ref m11, .ref m12, .ref m13])), (m1, .inl (c1, 4, .inl (fun _ => 0)))]) [0, 1] (by decide) rfl
  have hKc := hK.sub (tys' := [(c1, .int)]) [0] rfl
  have hFc := va_free (wc := [(h0, .inr (9, [.ref m1, .ref m2, .ref m3, .int (-1), .int 3, .int 255, .int 0, .int 0, .int 0, .int 0, .int 0, .int 65535, .ref m4, .ref m5, .ref m6, .ref m7, .ref m8, .ref m9, .int 0, .ref m10, .ref m11, .ref m12, .ref m13])), (m1, .inl (c1, 4, .inl (fun _ => 0)))]) hD hS hA [0, 1] rfl
  refine va_calli (va_runV (As := [.int a1]) (rest := []) ⟨hx, hb, hml, hown, hts⟩ (k_X9_isSheet l D s.heap.size h0 m1 m2 m3 m4 m5 m6 m7 m8 m9 m10 m11 m12 m13 c1 a1) (cwV 1 hts (gV bw_184 bw_185 bw_186 bw_11 bw_183) rfl rfl rfl (by decide +kernel) ⟨Nat.le_of_ble_eq_true rfl, Nat.le_of_ble_eq_true rfl⟩) ⟨cP_blind, va_recv hKc hPc (ci := 9) (q0 := 0) rfl rfl, cP_at hPc hKc hDc hN⟩ rfl rfl hl.1 rfl (lv_room (Nat.le_of_ble_eq_true rfl)) dX9_line_2 ⟨Nat.le_of_ble_eq_true rfl, Nat.le_of_ble_eq_true rfl⟩) hS (fun q _ h => hFc q h) hFc (fun r_1 u9 t9 H1 locs ht hvm hr_1 hB hz1 hk1 hS => ?_)
  try dsimp only at hr_1
  obtain ⟨hP1, hK1, hD1⟩ := hB
  rw [ht] at hP1
  obtain ⟨hP, hD⟩ := va_join (wr := []) (w1 := [(h0, .inr (9, [.ref m1, .ref m2, .ref m3, .int (-1), .int 3, .int 255, .int 0, .int 0, .int 0, .int 0, .int 0, .int 65535, .ref m4, .ref m5, .ref m6, .ref m7, .ref m8, .ref m9, .int 0, .ref m10, .ref m11, .ref m12, .ref m13])), (m1, .inl (c1, 4, .inl (fun _ => 0)))]) hP hD [0, 1] [] rfl rfl (by decide) (by decide) hk1 hFc hP1 hD1
  clear hz1 hk1 hFc hKc hDc hPc
  generalize H1 = H at hP hS ⊢
  have hP : va_P D vwCl [(h0, .inr (9, [.ref m1, .ref m2, .ref m3, .int (-1), .int 3, .int 255, .int 0, .int 0, .int 0, .int 0, .int 0, .int 65535, .ref m4, .ref m5, .ref m6, .ref m7, .ref m8, .ref m9, .int 0, .ref m10, .ref m11, .ref m12, .ref m13])), (m1, .inl (c1, 4, .inl (fun _ => 0)))] H := hP
  have hD : va_D A [(h0, .inr (9, [.ref m1, .ref m2, .ref m3, .int (-1), .int 3, .int 255, .int 0, .int 0, .int 0, .int 0, .int 0, .int 65535, .ref m4, .ref m5, .ref m6, .ref m7, .ref m8, .ref m9, .int 0, .ref m10, .ref m11, .ref m12, .ref m13])), (m1, .inl (c1, 4, .inl (fun _ => 0)))] := hD
  subst hr_1
  refine lv_if_eq (tgt := 50) hx hb dX9_line_5 (by decide) (fun c_2 => ?_) (fun c_2 => ?_)
  · skip
    refine lv_iconst (v := (-1)) hx hb dX9_line_50 (by decide) ?_
    exact W.iret (v := (-1)) hx hb hr (fun t ht hW => ⟨⟨(-1), (), rfl, rfl, trivial⟩, hS.F ht⟩) hS.2.2 dX9_line_51
  · skip
    exact absurd c_2 (by decide)

set_option maxHeartbeats 4000000 in
set_option maxRecDepth 100000 in
theorem k_X9_circle (l : Launch) (D : va_G) (sz : Nat) (h0 m1 m2 m3 m4 m5 m6 m7 m8 m9 m10 m11 m12 m13 : Nat) (c1 : ClassId) (a1 a2 a3 a4 : Int32) : Met l yX9_circle (wB yX9_circle cX9_circle 10 (some .int)) ({ frames := 1, cells := 0, slots := 0, locals := 21 }) (cP D [(h0, .inr (9, [.ref m1, .ref m2, .ref m3, .int (-1), .int 3, .int 255, .int 0, .int 0, .int 0, .int 0, .int 0, .int 65535, .ref m4, .ref m5, .ref m6, .ref m7, .ref m8, .ref m9, .int 0, .ref m10, .ref m11, .ref m12, .ref m13])), (m1, .inl (c1, 4, .inl (fun _ => 0)))] [(c1, .int)] sz [.ref h0, .int a1, .int a2, .int a3, .int a4]) (va_Qi (fun (r : Int32) (_ : Unit) => r = -1) (fun (_ : Unit) (_ : State) => True) (va_A [(h0, .inr (9, [.ref m1, .ref m2, .ref m3, .int (-1), .int 3, .int 255, .int 0, .int 0, .int 0, .int 0, .int 0, .int 65535, .ref m4, .ref m5, .ref m6, .ref m7, .ref m8, .ref m9, .int 0, .ref m10, .ref m11, .ref m12, .ref m13])), (m1, .inl (c1, 4, .inl (fun _ => 0)))] sz)) 0 0 (va_A [(h0, .inr (9, [.ref m1, .ref m2, .ref m3, .int (-1), .int 3, .int 255, .int 0, .int 0, .int 0, .int 0, .int 0, .int 65535, .ref m4, .ref m5, .ref m6, .ref m7, .ref m8, .ref m9, .int 0, .ref m10, .ref m11, .ref m12, .ref m13])), (m1, .inl (c1, 4, .inl (fun _ => 0)))] sz) := by
  refine Met.ofW (cc := cX9_circle) (maxL := 10) (ret := (some .int)) (by decide) rfl ?_
  intro p e s m args below meth c s₁ B hml hv
  obtain ⟨rfl, hsz, hP, hK, hD0, hN⟩ := hv
  have hx := B.exec
  have hb := B.bytes
  have hr := B.returns
  have hts0 := atoms_spec (ws := (wB yX9_circle cX9_circle 10 (some .int))) B.pre
  have hts : ∀ w ∈ bigW, w.before _ s = true := fun w h => hts0 w (List.mem_cons_of_mem _ h)
  have hown : s.vm.findClass RX9 = some m.cls := findClass_of_methodNamed B.named
  have hlocks := B.notSynchronized
  subst hsz
  have hD := hD0.self (sz := s.heap.size)
  generalize hAe : va_A [(h0, .inr (9, [.ref m1, .ref m2, .ref m3, .int (-1), .int 3, .int 255, .int 0, .int 0, .int 0, .int 0, .int 0, .int 65535, .ref m4, .ref m5, .ref m6, .ref m7, .ref m8, .ref m9, .int 0, .ref m10, .ref m11, .ref m12, .ref m13])), (m1, .inl (c1, 4, .inl (fun _ => 0)))] s.heap.size = A at hD ⊢
  have hA : ∀ q : Nat, s.heap.size ≤ q → A q := fun q h => by rw [← hAe]; exact Or.inr h
  have hS : va_S A s.heap s.heap [] := va_S.rf
  have hP : va_P D vwCl [(h0, .inr (9, [.ref m1, .ref m2, .ref m3, .int (-1), .int 3, .int 255, .int 0, .int 0, .int 0, .int 0, .int 0, .int 65535, .ref m4, .ref m5, .ref m6, .ref m7, .ref m8, .ref m9, .int 0, .ref m10, .ref m11, .ref m12, .ref m13])), (m1, .inl (c1, 4, .inl (fun _ => 0)))] s.heap := hP
  have hl := lv_entry ([.ref h0, .int a1, .int a2, .int a3, .int a4]) (n := 10) (Nat.le_of_ble_eq_true rfl)
  rw [lg_entry_eq]
  generalize (lg_sl ([.ref h0, .int a1, .int a2, .int a3, .int a4]) ++ List.replicate (10 - (lg_sl ([.ref h0, .int a1, .int a2, .int a3, .int a4])).length) Slot.unset).toArray = ls at hl ⊢
  have hl : lv_has ls 10 [(0, .ref h0), (1, .int a1), (2, .int a2), (3, .int a3), (4, .int a4)] := hl
  refine lv_aload_n hx hb dX9_circle_0 rfl (lv_at hl 0 rfl) ?_
  refine lv_iload_n hx hb dX9_circle_1 rfl (lv_at hl 1 rfl) ?_
  have hPc := hP.sub (ws' := [(h0, .inr (9, [.ref m1, .ref m2, .ref m3, .int (-1), .int 3, .int 255, .int 0, .int 0, .int 0, .int 0, .int 0, .int 65535, .ref m4, .ref m5, .ref m6, .ref m7, .ref m8, .ref m9, .int 0, .ref m10, .ref m11, .ref m12, .ref m13])), (m1, .inl (c1, 4, .inl (fun _ => 0)))]) [0, 1] rfl
  have hDc := hD.sub (ws' := [(h0, .inr (9, [.ref m1, .ref m2, .ref m3, .int (-1), .int 3, .int 255, .int 0, .int 0, .int 0, .int 0, .int 0, .int 65535, .ref m4, .ref m5, .ref m6, .ref m7, .ref m8, .ref m9, .int 0, .ref m10, .ref m11, .ref m12, .ref m13])), (m1, .inl (c1, 4, .inl (fun _ => 0)))]) [0, 1] (by decide) rfl
  have hKc := hK.sub (tys' := [(c1, .int)]) [0] rfl
  have hFc := va_free (wc := [(h0, .inr (9, [.ref m1, .ref m2, .ref m3, .int (-1), .int 3, .int 255, .int 0, .int 0, .int 0, .int 0, .int 0, .int 65535, .ref m4, .ref m5, .ref m6, .ref m7, .ref m8, .ref m9, .int 0, .ref m10, .ref m11, .ref m12, .ref m13])), (m1, .inl (c1, 4, .inl (fun _ => 0)))]) hD hS hA [0, 1] rfl
  refine va_calli (va_runV (As := [.int a1]) (rest := []) ⟨hx, hb, hml, hown, hts⟩ (k_X9_isSheet l D s.heap.size h0 m1 m2 m3 m4 m5 m6 m7 m8 m9 m10 m11 m12 m13 c1 a1) (cwV 1 hts (gV bw_184 bw_185 bw_186 bw_11 bw_183) rfl rfl rfl (by decide +kernel) ⟨Nat.le_of_ble_eq_true rfl, Nat.le_of_ble_eq_true rfl⟩) ⟨cP_blind, va_recv hKc hPc (ci := 9) (q0 := 0) rfl rfl, cP_at hPc hKc hDc hN⟩ rfl rfl hl.1 rfl (lv_room (Nat.le_of_ble_eq_true rfl)) dX9_circle_2 ⟨Nat.le_of_ble_eq_true rfl, Nat.le_of_ble_eq_true rfl⟩) hS (fun q _ h => hFc q h) hFc (fun r_1 u9 t9 H1 locs ht hvm hr_1 hB hz1 hk1 hS => ?_)
  try dsimp only at hr_1
  obtain ⟨hP1, hK1, hD1⟩ := hB
  rw [ht] at hP1
  obtain ⟨hP, hD⟩ := va_join (wr := []) (w1 := [(h0, .inr (9, [.ref m1, .ref m2, .ref m3, .int (-1), .int 3, .int 255, .int 0, .int 0, .int 0, .int 0, .int 0, .int 65535, .ref m4, .ref m5, .ref m6, .ref m7, .ref m8, .ref m9, .int 0, .ref m10, .ref m11, .ref m12, .ref m13])), (m1, .inl (c1, 4, .inl (fun _ => 0)))]) hP hD [0, 1] [] rfl rfl (by decide) (by decide) hk1 hFc hP1 hD1
  clear hz1 hk1 hFc hKc hDc hPc
  generalize H1 = H at hP hS ⊢
  have hP : va_P D vwCl [(h0, .inr (9, [.ref m1, .ref m2, .ref m3, .int (-1), .int 3, .int 255, .int 0, .int 0, .int 0, .int 0, .int 0, .int 65535, .ref m4, .ref m5, .ref m6, .ref m7, .ref m8, .ref m9, .int 0, .ref m10, .ref m11, .ref m12, .ref m13])), (m1, .inl (c1, 4, .inl (fun _ => 0)))] H := hP
  have hD : va_D A [(h0, .inr (9, [.ref m1, .ref m2, .ref m3, .int (-1), .int 3, .int 255, .int 0, .int 0, .int 0, .int 0, .int 0, .int 65535, .ref m4, .ref m5, .ref m6, .ref m7, .ref m8, .ref m9, .int 0, .ref m10, .ref m11, .ref m12, .ref m13])), (m1, .inl (c1, 4, .inl (fun _ => 0)))] := hD
  subst hr_1
  refine lv_if_eq (tgt := 41) hx hb dX9_circle_5 (by decide) (fun c_2 => ?_) (fun c_2 => ?_)
  · skip
    refine lv_iconst (v := (-1)) hx hb dX9_circle_41 (by decide) ?_
    exact W.iret (v := (-1)) hx hb hr (fun t ht hW => ⟨⟨(-1), (), rfl, rfl, trivial⟩, hS.F ht⟩) hS.2.2 dX9_circle_42
  · skip
    exact absurd c_2 (by decide)

set_option maxHeartbeats 4000000 in
set_option maxRecDepth 100000 in
theorem k_X9_fill (l : Launch) (D : va_G) (sz : Nat) (h0 m1 m2 m3 m4 m5 m6 m7 m8 m9 m10 m11 m12 m13 : Nat) (c1 : ClassId) (a1 a2 a3 : Int32) : Met l yX9_fill (wB yX9_fill cX9_fill 7 (some .int)) ({ frames := 1, cells := 0, slots := 0, locals := 21 }) (cP D [(h0, .inr (9, [.ref m1, .ref m2, .ref m3, .int (-1), .int 3, .int 255, .int 0, .int 0, .int 0, .int 0, .int 0, .int 65535, .ref m4, .ref m5, .ref m6, .ref m7, .ref m8, .ref m9, .int 0, .ref m10, .ref m11, .ref m12, .ref m13])), (m1, .inl (c1, 4, .inl (fun _ => 0)))] [(c1, .int)] sz [.ref h0, .int a1, .int a2, .int a3]) (va_Qi (fun (r : Int32) (_ : Unit) => r = -1) (fun (_ : Unit) (_ : State) => True) (va_A [(h0, .inr (9, [.ref m1, .ref m2, .ref m3, .int (-1), .int 3, .int 255, .int 0, .int 0, .int 0, .int 0, .int 0, .int 65535, .ref m4, .ref m5, .ref m6, .ref m7, .ref m8, .ref m9, .int 0, .ref m10, .ref m11, .ref m12, .ref m13])), (m1, .inl (c1, 4, .inl (fun _ => 0)))] sz)) 0 0 (va_A [(h0, .inr (9, [.ref m1, .ref m2, .ref m3, .int (-1), .int 3, .int 255, .int 0, .int 0, .int 0, .int 0, .int 0, .int 65535, .ref m4, .ref m5, .ref m6, .ref m7, .ref m8, .ref m9, .int 0, .ref m10, .ref m11, .ref m12, .ref m13])), (m1, .inl (c1, 4, .inl (fun _ => 0)))] sz) := by
  refine Met.ofW (cc := cX9_fill) (maxL := 7) (ret := (some .int)) (by decide) rfl ?_
  intro p e s m args below meth c s₁ B hml hv
  obtain ⟨rfl, hsz, hP, hK, hD0, hN⟩ := hv
  have hx := B.exec
  have hb := B.bytes
  have hr := B.returns
  have hts0 := atoms_spec (ws := (wB yX9_fill cX9_fill 7 (some .int))) B.pre
  have hts : ∀ w ∈ bigW, w.before _ s = true := fun w h => hts0 w (List.mem_cons_of_mem _ h)
  have hown : s.vm.findClass RX9 = some m.cls := findClass_of_methodNamed B.named
  have hlocks := B.notSynchronized
  subst hsz
  have hD := hD0.self (sz := s.heap.size)
  generalize hAe : va_A [(h0, .inr (9, [.ref m1, .ref m2, .ref m3, .int (-1), .int 3, .int 255, .int 0, .int 0, .int 0, .int 0, .int 0, .int 65535, .ref m4, .ref m5, .ref m6, .ref m7, .ref m8, .ref m9, .int 0, .ref m10, .ref m11, .ref m12, .ref m13])), (m1, .inl (c1, 4, .inl (fun _ => 0)))] s.heap.size = A at hD ⊢
  have hA : ∀ q : Nat, s.heap.size ≤ q → A q := fun q h => by rw [← hAe]; exact Or.inr h
  have hS : va_S A s.heap s.heap [] := va_S.rf
  have hP : va_P D vwCl [(h0, .inr (9, [.ref m1, .ref m2, .ref m3, .int (-1), .int 3, .int 255, .int 0, .int 0, .int 0, .int 0, .int 0, .int 65535, .ref m4, .ref m5, .ref m6, .ref m7, .ref m8, .ref m9, .int 0, .ref m10, .ref m11, .ref m12, .ref m13])), (m1, .inl (c1, 4, .inl (fun _ => 0)))] s.heap := hP
  have hl := lv_entry ([.ref h0, .int a1, .int a2, .int a3]) (n := 7) (Nat.le_of_ble_eq_true rfl)
  rw [lg_entry_eq]
  generalize (lg_sl ([.ref h0, .int a1, .int a2, .int a3]) ++ List.replicate (7 - (lg_sl ([.ref h0, .int a1, .int a2, .int a3])).length) Slot.unset).toArray = ls at hl ⊢
  have hl : lv_has ls 7 [(0, .ref h0), (1, .int a1), (2, .int a2), (3, .int a3)] := hl
  refine lv_aload_n hx hb dX9_fill_0 rfl (lv_at hl 0 rfl) ?_
  refine lv_iload_n hx hb dX9_fill_1 rfl (lv_at hl 1 rfl) ?_
  have hPc := hP.sub (ws' := [(h0, .inr (9, [.ref m1, .ref m2, .ref m3, .int (-1), .int 3, .int 255, .int 0, .int 0, .int 0, .int 0, .int 0, .int 65535, .ref m4, .ref m5, .ref m6, .ref m7, .ref m8, .ref m9, .int 0, .ref m10, .ref m11, .ref m12, .ref m13])), (m1, .inl (c1, 4, .inl (fun _ => 0)))]) [0, 1] rfl
  have hDc := hD.sub (ws' := [(h0, .inr (9, [.ref m1, .ref m2, .ref m3, .int (-1), .int 3, .int 255, .int 0, .int 0, .int 0, .int 0, .int 0, .int 65535, .ref m4, .ref m5, .ref m6, .ref m7, .ref m8, .ref m9, .int 0, .ref m10, .ref m11, .ref m12, .ref m13])), (m1, .inl (c1, 4, .inl (fun _ => 0)))]) [0, 1] (by decide) rfl
  have hKc := hK.sub (tys' := [(c1, .int)]) [0] rfl
  have hFc := va_free (wc := [(h0, .inr (9, [.ref m1, .ref m2, .ref m3, .int (-1), .int 3, .int 255, .int 0, .int 0, .int 0, .int 0, .int 0, .int 65535, .ref m4, .ref m5, .ref m6, .ref m7, .ref m8, .ref m9, .int 0, .ref m10, .ref m11, .ref m12, .ref m13])), (m1, .inl (c1, 4, .inl (fun _ => 0)))]) hD hS hA [0, 1] rfl
  refine va_calli (va_runV (As := [.int a1]) (rest := []) ⟨hx, hb, hml, hown, hts⟩ (k_X9_isSheet l D s.heap.size h0 m1 m2 m3 m4 m5 m6 m7 m8 m9 m10 m11 m12 m13 c1 a1) (cwV 1 hts (gV bw_184 bw_185 bw_186 bw_11 bw_183) rfl rfl rfl (by decide +kernel) ⟨Nat.le_of_ble_eq_true rfl, Nat.le_of_ble_eq_true rfl⟩) ⟨cP_blind, va_recv hKc hPc (ci := 9) (q0 := 0) rfl rfl, cP_at hPc hKc hDc hN⟩ rfl rfl hl.1 rfl (lv_room (Nat.le_of_ble_eq_true rfl)) dX9_fill_2 ⟨Nat.le_of_ble_eq_true rfl, Nat.le_of_ble_eq_true rfl⟩) hS (fun q _ h => hFc q h) hFc (fun r_1 u9 t9 H1 locs ht hvm hr_1 hB hz1 hk1 hS => ?_)
  try dsimp only at hr_1
  obtain ⟨hP1, hK1, hD1⟩ := hB
  rw [ht] at hP1
  obtain ⟨hP, hD⟩ := va_join (wr := []) (w1 := [(h0, .inr (9, [.ref m1, .ref m2, .ref m3, .int (-1), .int 3, .int 255, .int 0, .int 0, .int 0, .int 0, .int 0, .int 65535, .ref m4, .ref m5, .ref m6, .ref m7, .ref m8, .ref m9, .int 0, .ref m10, .ref m11, .ref m12, .ref m13])), (m1, .inl (c1, 4, .inl (fun _ => 0)))]) hP hD [0, 1] [] rfl rfl (by decide) (by decide) hk1 hFc hP1 hD1
  clear hz1 hk1 hFc hKc hDc hPc
  generalize H1 = H at hP hS ⊢
  have hP : va_P D vwCl [(h0, .inr (9, [.ref m1, .ref m2, .ref m3, .int (-1), .int 3, .int 255, .int 0, .int 0, .int 0, .int 0, .int 0, .int 65535, .ref m4, .ref m5, .ref m6, .ref m7, .ref m8, .ref m9, .int 0, .ref m10, .ref m11, .ref m12, .ref m13])), (m1, .inl (c1, 4, .inl (fun _ => 0)))] H := hP
  have hD : va_D A [(h0, .inr (9, [.ref m1, .ref m2, .ref m3, .int (-1), .int 3, .int 255, .int 0, .int 0, .int 0, .int 0, .int 0, .int 65535, .ref m4, .ref m5, .ref m6, .ref m7, .ref m8, .ref m9, .int 0, .ref m10, .ref m11, .ref m12, .ref m13])), (m1, .inl (c1, 4, .inl (fun _ => 0)))] := hD
  subst hr_1
  refine lv_if_eq (tgt := 17) hx hb dX9_fill_5 (by decide) (fun c_2 => ?_) (fun c_2 => ?_)
  · skip
    refine lv_iconst (v := (-1)) hx hb dX9_fill_17 (by decide) ?_
    exact W.iret (v := (-1)) hx hb hr (fun t ht hW => ⟨⟨(-1), (), rfl, rfl, trivial⟩, hS.F ht⟩) hS.2.2 dX9_fill_18
  · skip
    exact absurd c_2 (by decide)

set_option maxHeartbeats 4000000 in
set_option maxRecDepth 100000 in
theorem k_X9_shade (l : Launch) (D : va_G) (sz : Nat) (h0 m1 m2 m3 m4 m5 m6 m7 m8 m9 m10 m11 m12 m13 : Nat) (c1 : ClassId) (a1 : Int32) : Met l yX9_shade (wB yX9_shade cX9_shade 5 (some .int)) ({ frames := 1, cells := 0, slots := 0, locals := 21 }) (cP D [(h0, .inr (9, [.ref m1, .ref m2, .ref m3, .int (-1), .int 3, .int 255, .int 0, .int 0, .int 0, .int 0, .int 0, .int 65535, .ref m4, .ref m5, .ref m6, .ref m7, .ref m8, .ref m9, .int 0, .ref m10, .ref m11, .ref m12, .ref m13])), (m1, .inl (c1, 4, .inl (fun _ => 0)))] [(c1, .int)] sz [.ref h0, .int a1]) (va_Qi (fun (r : Int32) (_ : Unit) => r = -1) (fun (_ : Unit) (_ : State) => True) (va_A [(h0, .inr (9, [.ref m1, .ref m2, .ref m3, .int (-1), .int 3, .int 255, .int 0, .int 0, .int 0, .int 0, .int 0, .int 65535, .ref m4, .ref m5, .ref m6, .ref m7, .ref m8, .ref m9, .int 0, .ref m10, .ref m11, .ref m12, .ref m13])), (m1, .inl (c1, 4, .inl (fun _ => 0)))] sz)) 0 0 (va_A [(h0, .inr (9, [.ref m1, .ref m2, .ref m3, .int (-1), .int 3, .int 255, .int 0, .int 0, .int 0, .int 0, .int 0, .int 65535, .ref m4, .ref m5, .ref m6, .ref m7, .ref m8, .ref m9, .int 0, .ref m10, .ref m11, .ref m12, .ref m13])), (m1, .inl (c1, 4, .inl (fun _ => 0)))] sz) := by
  refine Met.ofW (cc := cX9_shade) (maxL := 5) (ret := (some .int)) (by decide) rfl ?_
  intro p e s m args below meth c s₁ B hml hv
  obtain ⟨rfl, hsz, hP, hK, hD0, hN⟩ := hv
  have hx := B.exec
  have hb := B.bytes
  have hr := B.returns
  have hts0 := atoms_spec (ws := (wB yX9_shade cX9_shade 5 (some .int))) B.pre
  have hts : ∀ w ∈ bigW, w.before _ s = true := fun w h => hts0 w (List.mem_cons_of_mem _ h)
  have hown : s.vm.findClass RX9 = some m.cls := findClass_of_methodNamed B.named
  have hlocks := B.notSynchronized
  subst hsz
  have hD := hD0.self (sz := s.heap.size)
  generalize hAe : va_A [(h0, .inr (9, [.ref m1, .ref m2, .ref m3, .int (-1), .int 3, .int 255, .int 0, .int 0, .int 0, .int 0, .int 0, .int 65535, .ref m4, .ref m5, .ref m6, .ref m7, .ref m8, .ref m9, .int 0, .ref m10, .ref m11, .ref m12, .ref m13])), (m1, .inl (c1, 4, .inl (fun _ => 0)))] s.heap.size = A at hD ⊢
  have hA : ∀ q : Nat, s.heap.size ≤ q → A q := fun q h => by rw [← hAe]; exact Or.inr h
  have hS : va_S A s.heap s.heap [] := va_S.rf
  have hP : va_P D vwCl [(h0, .inr (9, [.ref m1, .ref m2, .ref m3, .int (-1), .int 3, .int 255, .int 0, .int 0, .int 0, .int 0, .int 0, .int 65535, .ref m4, .ref m5, .ref m6, .ref m7, .ref m8, .ref m9, .int 0, .ref m10, .ref m11, .ref m12, .ref m13])), (m1, .inl (c1, 4, .inl (fun _ => 0)))] s.heap := hP
  have hl := lv_entry ([.ref h0, .int a1]) (n := 5) (Nat.le_of_ble_eq_true rfl)
  rw [lg_entry_eq]
  generalize (lg_sl ([.ref h0, .int a1]) ++ List.replicate (5 - (lg_sl ([.ref h0, .int a1])).length) Slot.unset).toArray = ls at hl ⊢
  have hl : lv_has ls 5 [(0, .ref h0), (1, .int a1)] := hl
  refine lv_aload_n hx hb dX9_shade_0 rfl (lv_at hl 0 rfl) ?_
  refine lv_iload_n hx hb dX9_shade_1 rfl (lv_at hl 1 rfl) ?_
  have hPc := hP.sub (ws' := [(h0, .inr (9, [.ref m1, .ref m2, .ref m3, .int (-1), .int 3, .int 255, .int 0, .int 0, .int 0, .int 0, .int 0, .int 65535, .ref m4, .ref m5, .ref m6, .ref m7, .ref m8, .ref m9, .int 0, .ref m10, .ref m11, .ref m12, .ref m13])), (m1, .inl (c1, 4, .inl (fun _ => 0)))]) [0, 1] rfl
  have hDc := hD.sub (ws' := [(h0, .inr (9, [.ref m1, .ref m2, .ref m3, .int (-1), .int 3, .int 255, .int 0, .int 0, .int 0, .int 0, .int 0, .int 65535, .ref m4, .ref m5, .ref m6, .ref m7, .ref m8, .ref m9, .int 0, .ref m10, .ref m11, .ref m12, .ref m13])), (m1, .inl (c1, 4, .inl (fun _ => 0)))]) [0, 1] (by decide) rfl
  have hKc := hK.sub (tys' := [(c1, .int)]) [0] rfl
  have hFc := va_free (wc := [(h0, .inr (9, [.ref m1, .ref m2, .ref m3, .int (-1), .int 3, .int 255, .int 0, .int 0, .int 0, .int 0, .int 0, .int 65535, .ref m4, .ref m5, .ref m6, .ref m7, .ref m8, .ref m9, .int 0, .ref m10, .ref m11, .ref m12, .ref m13])), (m1, .inl (c1, 4, .inl (fun _ => 0)))]) hD hS hA [0, 1] rfl
  refine va_calli (va_runV (As := [.int a1]) (rest := []) ⟨hx, hb, hml, hown, hts⟩ (k_X9_isSheet l D s.heap.size h0 m1 m2 m3 m4 m5 m6 m7 m8 m9 m10 m11 m12 m13 c1 a1) (cwV 1 hts (gV bw_184 bw_185 bw_186 bw_11 bw_183) rfl rfl rfl (by decide +kernel) ⟨Nat.le_of_ble_eq_true rfl, Nat.le_of_ble_eq_true rfl⟩) ⟨cP_blind, va_recv hKc hPc (ci := 9) (q0 := 0) rfl rfl, cP_at hPc hKc hDc hN⟩ rfl rfl hl.1 rfl (lv_room (Nat.le_of_ble_eq_true rfl)) dX9_shade_2 ⟨Nat.le_of_ble_eq_true rfl, Nat.le_of_ble_eq_true rfl⟩) hS (fun q _ h => hFc q h) hFc (fun r_1 u9 t9 H1 locs ht hvm hr_1 hB hz1 hk1 hS => ?_)
  try dsimp only at hr_1
  obtain ⟨hP1, hK1, hD1⟩ := hB
  rw [ht] at hP1
  obtain ⟨hP, hD⟩ := va_join (wr := []) (w1 := [(h0, .inr (9, [.ref m1, .ref m2, .ref m3, .int (-1), .int 3, .int 255, .int 0, .int 0, .int 0, .int 0, .int 0, .int 65535, .ref m4, .ref m5, .ref m6, .ref m7, .ref m8, .ref m9, .int 0, .ref m10, .ref m11, .ref m12, .ref m13])), (m1, .inl (c1, 4, .inl (fun _ => 0)))]) hP hD [0, 1] [] rfl rfl (by decide) (by decide) hk1 hFc hP1 hD1
  clear hz1 hk1 hFc hKc hDc hPc
  generalize H1 = H at hP hS ⊢
  have hP : va_P D vwCl [(h0, .inr (9, [.ref m1, .ref m2, .ref m3, .int (-1), .int 3, .int 255, .int 0, .int 0, .int 0, .int 0, .int 0, .int 65535, .ref m4, .ref m5, .ref m6, .ref m7, .ref m8, .ref m9, .int 0, .ref m10, .ref m11, .ref m12, .ref m13])), (m1, .inl (c1, 4, .inl (fun _ => 0)))] H := hP
  have hD : va_D A [(h0, .inr (9, [.ref m1, .ref m2, .ref m3, .int (-1), .int 3, .int 255, .int 0, .int 0, .int 0, .int 0, .int 0, .int 65535, .ref m4, .ref m5, .ref m6, .ref m7, .ref m8, .ref m9, .int 0, .ref m10, .ref m11, .ref m12, .ref m13])), (m1, .inl (c1, 4, .inl (fun _ => 0)))] := hD
  subst hr_1
  refine lv_if_ne (tgt := 10) hx hb dX9_shade_5 (by decide) (fun c_2 => ?_) (fun c_2 => ?_)
  · skip
    exact absurd c_2 (by decide)
  · skip
    refine lv_iconst (v := (-1)) hx hb dX9_shade_8 (by decide) ?_
    exact W.iret (v := (-1)) hx hb hr (fun t ht hW => ⟨⟨(-1), (), rfl, rfl, trivial⟩, hS.F ht⟩) hS.2.2 dX9_shade_9

set_option maxHeartbeats 4000000 in
set_option maxRecDepth 100000 in
theorem k_X9_flood (l : Launch) (D : va_G) (sz : Nat) (h0 m1 m2 m3 m4 m5 m6 m7 m8 m9 m10 m11 m12 m13 : Nat) (c1 : ClassId) (a1 a2 a3 a4 : Int32) : Met l yX9_flood (wB yX9_flood cX9_flood 6 (some .int)) ({ frames := 1, cells := 0, slots := 0, locals := 21 }) (cP D [(h0, .inr (9, [.ref m1, .ref m2, .ref m3, .int (-1), .int 3, .int 255, .int 0, .int 0, .int 0, .int 0, .int 0, .int 65535, .ref m4, .ref m5, .ref m6, .ref m7, .ref m8, .ref m9, .int 0, .ref m10, .ref m11, .ref m12, .ref m13])), (m1, .inl (c1, 4, .inl (fun _ => 0)))] [(c1, .int)] sz [.ref h0, .int a1, .int a2, .int a3, .int a4]) (va_Qi (fun (r : Int32) (_ : Unit) => r = -1) (fun (_ : Unit) (_ : State) => True) (va_A [(h0, .inr (9, [.ref m1, .ref m2, .ref m3, .int (-1), .int 3, .int 255, .int 0, .int 0, .int 0, .int 0, .int 0, .int 65535, .ref m4, .ref m5, .ref m6, .ref m7, .ref m8, .ref m9, .int 0, .ref m10, .ref m11, .ref m12, .ref m13])), (m1, .inl (c1, 4, .inl (fun _ => 0)))] sz)) 0 0 (va_A [(h0, .inr (9, [.ref m1, .ref m2, .ref m3, .int (-1), .int 3, .int 255, .int 0, .int 0, .int 0, .int 0, .int 0, .int 65535, .ref m4, .ref m5, .ref m6, .ref m7, .ref m8, .ref m9, .int 0, .ref m10, .ref m11, .ref m12, .ref m13])), (m1, .inl (c1, 4, .inl (fun _ => 0)))] sz) := by
  refine Met.ofW (cc := cX9_flood) (maxL := 6) (ret := (some .int)) (by decide) rfl ?_
  intro p e s m args below meth c s₁ B hml hv
  obtain ⟨rfl, hsz, hP, hK, hD0, hN⟩ := hv
  have hx := B.exec
  have hb := B.bytes
  have hr := B.returns
  have hts0 := atoms_spec (ws := (wB yX9_flood cX9_flood 6 (some .int))) B.pre
  have hts : ∀ w ∈ bigW, w.before _ s = true := fun w h => hts0 w (List.mem_cons_of_mem _ h)
  have hown : s.vm.findClass RX9 = some m.cls := findClass_of_methodNamed B.named
  have hlocks := B.notSynchronized
  subst hsz
  have hD := hD0.self (sz := s.heap.size)
  generalize hAe : va_A [(h0, .inr (9, [.ref m1, .ref m2, .ref m3, .int (-1), .int 3, .int 255, .int 0, .int 0, .int 0, .int 0, .int 0, .int 65535, .ref m4, .ref m5, .ref m6, .ref m7, .ref m8, .ref m9, .int 0, .ref m10, .ref m11, .ref m12, .ref m13])), (m1, .inl (c1, 4, .inl (fun _ => 0)))] s.heap.size = A at hD ⊢
  have hA : ∀ q : Nat, s.heap.size ≤ q → A q := fun q h => by rw [← hAe]; exact Or.inr h
  have hS : va_S A s.heap s.heap [] := va_S.rf
  have hP : va_P D vwCl [(h0, .inr (9, [.ref m1, .ref m2, .ref m3, .int (-1), .int 3, .int 255, .int 0, .int 0, .int 0, .int 0, .int 0, .int 65535, .ref m4, .ref m5, .ref m6, .ref m7, .ref m8, .ref m9, .int 0, .ref m10, .ref m11, .ref m12, .ref m13])), (m1, .inl (c1, 4, .inl (fun _ => 0)))] s.heap := hP
  have hl := lv_entry ([.ref h0, .int a1, .int a2, .int a3, .int a4]) (n := 6) (Nat.le_of_ble_eq_true rfl)
  rw [lg_entry_eq]
  generalize (lg_sl ([.ref h0, .int a1, .int a2, .int a3, .int a4]) ++ List.replicate (6 - (lg_sl ([.ref h0, .int a1, .int a2, .int a3, .int a4])).length) Slot.unset).toArray = ls at hl ⊢
  have hl : lv_has ls 6 [(0, .ref h0), (1, .int a1), (2, .int a2), (3, .int a3), (4, .int a4)] := hl
  refine lv_aload_n hx hb dX9_flood_0 rfl (lv_at hl 0 rfl) ?_
  refine lv_iload_n hx hb dX9_flood_1 rfl (lv_at hl 1 rfl) ?_
  have hPc := hP.sub (ws' := [(h0, .inr (9, [.ref m1, .ref m2, .ref m3, .int (-1), .int 3, .int 255, .int 0, .int 0, .int 0, .int 0, .int 0, .int 65535, .ref m4, .ref m5, .ref m6, .ref m7, .ref m8, .ref m9, .int 0, .ref m10, .ref m11, .ref m12, .ref m13])), (m1, .inl (c1, 4, .inl (fun _ => 0)))]) [0, 1] rfl
  have hDc := hD.sub (ws' := [(h0, .inr (9, [.ref m1, .ref m2, .ref m3, .int (-1), .int 3, .int 255, .int 0, .int 0, .int 0, .int 0, .int 0, .int 65535, .ref m4, .ref m5, .ref m6, .ref m7, .ref m8, .ref m9, .int 0, .ref m10, .ref m11, .ref m12, .ref m13])), (m1, .inl (c1, 4, .inl (fun _ => 0)))]) [0, 1] (by decide) rfl
  have hKc := hK.sub (tys' := [(c1, .int)]) [0] rfl
  have hFc := va_free (wc := [(h0, .inr (9, [.ref m1, .ref m2, .ref m3, .int (-1), .int 3, .int 255, .int 0, .int 0, .int 0, .int 0, .int 0, .int 65535, .ref m4, .ref m5, .ref m6, .ref m7, .ref m8, .ref m9, .int 0, .ref m10, .ref m11, .ref m12, .ref m13])), (m1, .inl (c1, 4, .inl (fun _ => 0)))]) hD hS hA [0, 1] rfl
  refine va_calli (va_runV (As := [.int a1]) (rest := []) ⟨hx, hb, hml, hown, hts⟩ (k_X9_isSheet l D s.heap.size h0 m1 m2 m3 m4 m5 m6 m7 m8 m9 m10 m11 m12 m13 c1 a1) (cwV 1 hts (gV bw_184 bw_185 bw_186 bw_11 bw_183) rfl rfl rfl (by decide +kernel) ⟨Nat.le_of_ble_eq_true rfl, Nat.le_of_ble_eq_true rfl⟩) ⟨cP_blind, va_recv hKc hPc (ci := 9) (q0 := 0) rfl rfl, cP_at hPc hKc hDc hN⟩ rfl rfl hl.1 rfl (lv_room (Nat.le_of_ble_eq_true rfl)) dX9_flood_2 ⟨Nat.le_of_ble_eq_true rfl, Nat.le_of_ble_eq_true rfl⟩) hS (fun q _ h => hFc q h) hFc (fun r_1 u9 t9 H1 locs ht hvm hr_1 hB hz1 hk1 hS => ?_)
  try dsimp only at hr_1
  obtain ⟨hP1, hK1, hD1⟩ := hB
  rw [ht] at hP1
  obtain ⟨hP, hD⟩ := va_join (wr := []) (w1 := [(h0, .inr (9, [.ref m1, .ref m2, .ref m3, .int (-1), .int 3, .int 255, .int 0, .int 0, .int 0, .int 0, .int 0, .int 65535, .ref m4, .ref m5, .ref m6, .ref m7, .ref m8, .ref m9, .int 0, .ref m10, .ref m11, .ref m12, .ref m13])), (m1, .inl (c1, 4, .inl (fun _ => 0)))]) hP hD [0, 1] [] rfl rfl (by decide) (by decide) hk1 hFc hP1 hD1
  clear hz1 hk1 hFc hKc hDc hPc
  generalize H1 = H at hP hS ⊢
  have hP : va_P D vwCl [(h0, .inr (9, [.ref m1, .ref m2, .ref m3, .int (-1), .int 3, .int 255, .int 0, .int 0, .int 0, .int 0, .int 0, .int 65535, .ref m4, .ref m5, .ref m6, .ref m7, .ref m8, .ref m9, .int 0, .ref m10, .ref m11, .ref m12, .ref m13])), (m1, .inl (c1, 4, .inl (fun _ => 0)))] H := hP
  have hD : va_D A [(h0, .inr (9, [.ref m1, .ref m2, .ref m3, .int (-1), .int 3, .int 255, .int 0, .int 0, .int 0, .int 0, .int 0, .int 65535, .ref m4, .ref m5, .ref m6, .ref m7, .ref m8, .ref m9, .int 0, .ref m10, .ref m11, .ref m12, .ref m13])), (m1, .inl (c1, 4, .inl (fun _ => 0)))] := hD
  subst hr_1
  refine lv_if_eq (tgt := 18) hx hb dX9_flood_5 (by decide) (fun c_2 => ?_) (fun c_2 => ?_)
  · skip
    refine lv_iconst (v := (-1)) hx hb dX9_flood_18 (by decide) ?_
    exact W.iret (v := (-1)) hx hb hr (fun t ht hW => ⟨⟨(-1), (), rfl, rfl, trivial⟩, hS.F ht⟩) hS.2.2 dX9_flood_19
  · skip
    exact absurd c_2 (by decide)

set_option maxHeartbeats 4000000 in
set_option maxRecDepth 100000 in
theorem k_X9_copy (l : Launch) (D : va_G) (sz : Nat) (h0 m1 m2 m3 m4 m5 m6 m7 m8 m9 m10 m11 m12 m13 : Nat) (c1 : ClassId) (a1 a2 a3 a4 a5 a6 a7 a8 : Int32) : Met l yX9_copy (wB yX9_copy cX9_copy 11 (some .int)) ({ frames := 1, cells := 0, slots := 0, locals := 21 }) (cP D [(h0, .inr (9, [.ref m1, .ref m2, .ref m3, .int (-1), .int 3, .int 255, .int 0, .int 0, .int 0, .int 0, .int 0, .int 65535, .ref m4, .ref m5, .ref m6, .ref m7, .ref m8, .ref m9, .int 0, .ref m10, .ref m11, .ref m12, .ref m13])), (m1, .inl (c1, 4, .inl (fun _ => 0)))] [(c1, .int)] sz [.ref h0, .int a1, .int a2, .int a3, .int a4, .int a5, .int a6, .int a7, .int a8]) (va_Qi (fun (r : Int32) (_ : Unit) => r = -1) (fun (_ : Unit) (_ : State) => True) (va_A [(h0, .inr (9, [.ref m1, .ref m2, .ref m3, .int (-1), .int 3, .int 255, .int 0, .int 0, .int 0, .int 0, .int 0, .int 65535, .ref m4, .ref m5, .ref m6, .ref m7, .ref m8, .ref m9, .int 0, .ref m10, .ref m11, .ref m12, .ref m13])), (m1, .inl (c1, 4, .inl (fun _ => 0)))] sz)) 0 0 (va_A [(h0, .inr (9, [.ref m1, .ref m2, .ref m3, .int (-1), .int 3, .int 255, .int 0, .int 0, .int 0, .int 0, .int 0, .int 65535, .ref m4, .ref m5, .ref m6, .ref m7, .ref m8, .ref m9, .int 0, .ref m10, .ref m11, .ref m12, .ref m13])), (m1, .inl (c1, 4, .inl (fun _ => 0)))] sz) := by
  refine Met.ofW (cc := cX9_copy) (maxL := 11) (ret := (some .int)) (by decide) rfl ?_
  intro p e s m args below meth c s₁ B hml hv
  obtain ⟨rfl, hsz, hP, hK, hD0, hN⟩ := hv
  have hx := B.exec
  have hb := B.bytes
  have hr := B.returns
  have hts0 := atoms_spec (ws := (wB yX9_copy cX9_copy 11 (some .int))) B.pre
  have hts : ∀ w ∈ bigW, w.before _ s = true := fun w h => hts0 w (List.mem_cons_of_mem _ h)
  have hown : s.vm.findClass RX9 = some m.cls := findClass_of_methodNamed B.named
  have hlocks := B.notSynchronized
  subst hsz
  have hD := hD0.self (sz := s.heap.size)
  generalize hAe : va_A [(h0, .inr (9, [.ref m1, .ref m2, .ref m3, .int (-1), .int 3, .int 255, .int 0, .int 0, .int 0, .int 0, .int 0, .int 65535, .ref m4, .ref m5, .ref m6, .ref m7, .ref m8, .ref m9, .int 0, .ref m10, .ref m11, .ref m12, .ref m13])), (m1, .inl (c1, 4, .inl (fun _ => 0)))] s.heap.size = A at hD ⊢
  have hA : ∀ q : Nat, s.heap.size ≤ q → A q := fun q h => by rw [← hAe]; exact Or.inr h
  have hS : va_S A s.heap s.heap [] := va_S.rf
  have hP : va_P D vwCl [(h0, .inr (9, [.ref m1, .ref m2, .ref m3, .int (-1), .int 3, .int 255, .int 0, .int 0, .int 0, .int 0, .int 0, .int 65535, .ref m4, .ref m5, .ref m6, .ref m7, .ref m8, .ref m9, .int 0, .ref m10, .ref m11, .ref m12, .ref m13])), (m1, .inl (c1, 4, .inl (fun _ => 0)))] s.heap := hP
  have hl := lv_entry ([.ref h0, .int a1, .int a2, .int a3, .int a4, .int a5, .int a6, .int a7, .int a8]) (n := 11) (Nat.le_of_ble_eq_true rfl)
  rw [lg_entry_eq]
  generalize (lg_sl ([.ref h0, .int a1, .int a2, .int a3, .int a4, .int a5, .int a6, .int a7, .int a8]) ++ List.replicate (11 - (lg_sl ([.ref h0, .int a1, .int a2, .int a3, .int a4, .int a5, .int a6, .int a7, .int a8])).length) Slot.unset).toArray = ls at hl ⊢
  have hl : lv_has ls 11 [(0, .ref h0), (1, .int a1), (2, .int a2), (3, .int a3), (4, .int a4), (5, .int a5), (6, .int a6), (7, .int a7), (8, .int a8)] := hl
  refine lv_aload_n hx hb dX9_copy_0 rfl (lv_at hl 0 rfl) ?_
  refine lv_iload_n hx hb dX9_copy_1 rfl (lv_at hl 1 rfl) ?_
  have hPc := hP.sub (ws' := [(h0, .inr (9, [.ref m1, .ref m2, .ref m3, .int (-1), .int 3, .int 255, .int 0, .int 0, .int 0, .int 0, .int 0, .int 65535, .ref m4, .ref m5, .ref m6, .ref m7, .ref m8, .ref m9, .int 0, .ref m10, .ref m11, .ref m12, .ref m13])), (m1, .inl (c1, 4, .inl (fun _ => 0)))]) [0, 1] rfl
  have hDc := hD.sub (ws' := [(h0, .inr (9, [.ref m1, .ref m2, .ref m3, .int (-1), .int 3, .int 255, .int 0, .int 0, .int 0, .int 0, .int 0, .int 65535, .ref m4, .ref m5, .ref m6, .ref m7, .ref m8, .ref m9, .int 0, .ref m10, .ref m11, .ref m12, .ref m13])), (m1, .inl (c1, 4, .inl (fun _ => 0)))]) [0, 1] (by decide) rfl
  have hKc := hK.sub (tys' := [(c1, .int)]) [0] rfl
  have hFc := va_free (wc := [(h0, .inr (9, [.ref m1, .ref m2, .ref m3, .int (-1), .int 3, .int 255, .int 0, .int 0, .int 0, .int 0, .int 0, .int 65535, .ref m4, .ref m5, .ref m6, .ref m7, .ref m8, .ref m9, .int 0, .ref m10, .ref m11, .ref m12, .ref m13])), (m1, .inl (c1, 4, .inl (fun _ => 0)))]) hD hS hA [0, 1] rfl
  refine va_calli (va_runV (As := [.int a1]) (rest := []) ⟨hx, hb, hml, hown, hts⟩ (k_X9_isSheet l D s.heap.size h0 m1 m2 m3 m4 m5 m6 m7 m8 m9 m10 m11 m12 m13 c1 a1) (cwV 1 hts (gV bw_184 bw_185 bw_186 bw_11 bw_183) rfl rfl rfl (by decide +kernel) ⟨Nat.le_of_ble_eq_true rfl, Nat.le_of_ble_eq_true rfl⟩) ⟨cP_blind, va_recv hKc hPc (ci := 9) (q0 := 0) rfl rfl, cP_at hPc hKc hDc hN⟩ rfl rfl hl.1 rfl (lv_room (Nat.le_of_ble_eq_true rfl)) dX9_copy_2 ⟨Nat.le_of_ble_eq_true rfl, Nat.le_of_ble_eq_true rfl⟩) hS (fun q _ h => hFc q h) hFc (fun r_1 u9 t9 H1 locs ht hvm hr_1 hB hz1 hk1 hS => ?_)
  try dsimp only at hr_1
  obtain ⟨hP1, hK1, hD1⟩ := hB
  rw [ht] at hP1
  obtain ⟨hP, hD⟩ := va_join (wr := []) (w1 := [(h0, .inr (9, [.ref m1, .ref m2, .ref m3, .int (-1), .int 3, .int 255, .int 0, .int 0, .int 0, .int 0, .int 0, .int 65535, .ref m4, .ref m5, .ref m6, .ref m7, .ref m8, .ref m9, .int 0, .ref m10, .ref m11, .ref m12, .ref m13])), (m1, .inl (c1, 4, .inl (fun _ => 0)))]) hP hD [0, 1] [] rfl rfl (by decide) (by decide) hk1 hFc hP1 hD1
  clear hz1 hk1 hFc hKc hDc hPc
  generalize H1 = H at hP hS ⊢
  have hP : va_P D vwCl [(h0, .inr (9, [.ref m1, .ref m2, .ref m3, .int (-1), .int 3, .int 255, .int 0, .int 0, .int 0, .int 0, .int 0, .int 65535, .ref m4, .ref m5, .ref m6, .ref m7, .ref m8, .ref m9, .int 0, .ref m10, .ref m11, .ref m12, .ref m13])), (m1, .inl (c1, 4, .inl (fun _ => 0)))] H := hP
  have hD : va_D A [(h0, .inr (9, [.ref m1, .ref m2, .ref m3, .int (-1), .int 3, .int 255, .int 0, .int 0, .int 0, .int 0, .int 0, .int 65535, .ref m4, .ref m5, .ref m6, .ref m7, .ref m8, .ref m9, .int 0, .ref m10, .ref m11, .ref m12, .ref m13])), (m1, .inl (c1, 4, .inl (fun _ => 0)))] := hD
  subst hr_1
  refine lv_if_eq (tgt := 59) hx hb dX9_copy_5 (by decide) (fun c_2 => ?_) (fun c_2 => ?_)
  · skip
    refine lv_iconst (v := (-1)) hx hb dX9_copy_59 (by decide) ?_
    exact W.iret (v := (-1)) hx hb hr (fun t ht hW => ⟨⟨(-1), (), rfl, rfl, trivial⟩, hS.F ht⟩) hS.2.2 dX9_copy_60
  · skip
    exact absurd c_2 (by decide)

set_option maxHeartbeats 4000000 in
set_option maxRecDepth 100000 in
theorem k_X9_stretch (l : Launch) (D : va_G) (sz : Nat) (h0 m1 m2 m3 m4 m5 m6 m7 m8 m9 m10 m11 m12 m13 : Nat) (c1 : ClassId) (a1 a2 a3 a4 a5 a6 a7 a8 a9 a10 : Int32) : Met l yX9_stretch (wB yX9_stretch cX9_stretch 15 (some .int)) ({ frames := 1, cells := 0, slots := 0, locals := 21 }) (cP D [(h0, .inr (9, [.ref m1, .ref m2, .ref m3, .int (-1), .int 3, .int 255, .int 0, .int 0, .int 0, .int 0, .int 0, .int 65535, .ref m4, .ref m5, .ref m6, .ref m7, .ref m8, .ref m9, .int 0, .ref m10, .ref m11, .ref m12, .ref m13])), (m1, .inl (c1, 4, .inl (fun _ => 0)))] [(c1, .int)] sz [.ref h0, .int a1, .int a2, .int a3, .int a4, .int a5, .int a6, .int a7, .int a8, .int a9, .int a10]) (va_Qi (fun (r : Int32) (_ : Unit) => r = -1) (fun (_ : Unit) (_ : State) => True) (va_A [(h0, .inr (9, [.ref m1, .ref m2, .ref m3, .int (-1), .int 3, .int 255, .int 0, .int 0, .int 0, .int 0, .int 0, .int 65535, .ref m4, .ref m5, .ref m6, .ref m7, .ref m8, .ref m9, .int 0, .ref m10, .ref m11, .ref m12, .ref m13])), (m1, .inl (c1, 4, .inl (fun _ => 0)))] sz)) 0 0 (va_A [(h0, .inr (9, [.ref m1, .ref m2, .ref m3, .int (-1), .int 3, .int 255, .int 0, .int 0, .int 0, .int 0, .int 0, .int 65535, .ref m4, .ref m5, .ref m6, .ref m7, .ref m8, .ref m9, .int 0, .ref m10, .ref m11, .ref m12, .ref m13])), (m1, .inl (c1, 4, .inl (fun _ => 0)))] sz) := by
  refine Met.ofW (cc := cX9_stretch) (maxL := 15) (ret := (some .int)) (by decide) rfl ?_
  intro p e s m args below meth c s₁ B hml hv
  obtain ⟨rfl, hsz, hP, hK, hD0, hN⟩ := hv
  have hx := B.exec
  have hb := B.bytes
  have hr := B.returns
  have hts0 := atoms_spec (ws := (wB yX9_stretch cX9_stretch 15 (some .int))) B.pre
  have hts : ∀ w ∈ bigW, w.before _ s = true := fun w h => hts0 w (List.mem_cons_of_mem _ h)
  have hown : s.vm.findClass RX9 = some m.cls := findClass_of_methodNamed B.named
  have hlocks := B.notSynchronized
  subst hsz
  have hD := hD0.self (sz := s.heap.size)
  generalize hAe : va_A [(h0, .inr (9, [.ref m1, .ref m2, .ref m3, .int (-1), .int 3, .int 255, .int 0, .int 0, .int 0, .int 0, .int 0, .int 65535, .ref m4, .ref m5, .ref m6, .ref m7, .ref m8, .ref m9, .int 0, .ref m10, .ref m11, .ref m12, .ref m13])), (m1, .inl (c1, 4, .inl (fun _ => 0)))] s.heap.size = A at hD ⊢
  have hA : ∀ q : Nat, s.heap.size ≤ q → A q := fun q h => by rw [← hAe]; exact Or.inr h
  have hS : va_S A s.heap s.heap [] := va_S.rf
  have hP : va_P D vwCl [(h0, .inr (9, [.ref m1, .ref m2, .ref m3, .int (-1), .int 3, .int 255, .int 0, .int 0, .int 0, .int 0, .int 0, .int 65535, .ref m4, .ref m5, .ref m6, .ref m7, .ref m8, .ref m9, .int 0, .ref m10, .ref m11, .ref m12, .ref m13])), (m1, .inl (c1, 4, .inl (fun _ => 0)))] s.heap := hP
  have hl := lv_entry ([.ref h0, .int a1, .int a2, .int a3, .int a4, .int a5, .int a6, .int a7, .int a8, .int a9, .int a10]) (n := 15) (Nat.le_of_ble_eq_true rfl)
  rw [lg_entry_eq]
  generalize (lg_sl ([.ref h0, .int a1, .int a2, .int a3, .int a4, .int a5, .int a6, .int a7, .int a8, .int a9, .int a10]) ++ List.replicate (15 - (lg_sl ([.ref h0, .int a1, .int a2, .int a3, .int a4, .int a5, .int a6, .int a7, .int a8, .int a9, .int a10])).length) Slot.unset).toArray = ls at hl ⊢
  have hl : lv_has ls 15 [(0, .ref h0), (1, .int a1), (2, .int a2), (3, .int a3), (4, .int a4), (5, .int a5), (6, .int a6), (7, .int a7), (8, .int a8), (9, .int a9), (10, .int a10)] := hl
  refine lv_aload_n hx hb dX9_stretch_0 rfl (lv_at hl 0 rfl) ?_
  refine lv_iload_n hx hb dX9_stretch_1 rfl (lv_at hl 1 rfl) ?_
  have hPc := hP.sub (ws' := [(h0, .inr (9, [.ref m1, .ref m2, .ref m3, .int (-1), .int 3, .int 255, .int 0, .int 0, .int 0, .int 0, .int 0, .int 65535, .ref m4, .ref m5, .ref m6, .ref m7, .ref m8, .ref m9, .int 0, .ref m10, .ref m11, .ref m12, .ref m13])), (m1, .inl (c1, 4, .inl (fun _ => 0)))]) [0, 1] rfl
  have hDc := hD.sub (ws' := [(h0, .inr (9, [.ref m1, .ref m2, .ref m3, .int (-1), .int 3, .int 255, .int 0, .int 0, .int 0, .int 0, .int 0, .int 65535, .ref m4, .ref m5, .ref m6, .ref m7, .ref m8, .ref m9, .int 0, .ref m10, .ref m11, .ref m12, .ref m13])), (m1, .inl (c1, 4, .inl (fun _ => 0)))]) [0, 1] (by decide) rfl
  have hKc := hK.sub (tys' := [(c1, .int)]) [0] rfl
  have hFc := va_free (wc := [(h0, .inr (9, [.ref m1, .ref m2, .ref m3, .int (-1), .int 3, .int 255, .int 0, .int 0, .int 0, .int 0, .int 0, .int 65535, .ref m4, .ref m5, .ref m6, .ref m7, .ref m8, .ref m9, .int 0, .ref m10, .ref m11, .ref m12, .ref m13])), (m1, .inl (c1, 4, .inl (fun _ => 0)))]) hD hS hA [0, 1] rfl
  refine va_calli (va_runV (As := [.int a1]) (rest := []) ⟨hx, hb, hml, hown, hts⟩ (k_X9_isSheet l D s.heap.size h0 m1 m2 m3 m4 m5 m6 m7 m8 m9 m10 m11 m12 m13 c1 a1) (cwV 1 hts (gV bw_184 bw_185 bw_186 bw_11 bw_183) rfl rfl rfl (by decide +kernel) ⟨Nat.le_of_ble_eq_true rfl, Nat.le_of_ble_eq_true rfl⟩) ⟨cP_blind, va_recv hKc hPc (ci := 9) (q0 := 0) rfl rfl, cP_at hPc hKc hDc hN⟩ rfl rfl hl.1 rfl (lv_room (Nat.le_of_ble_eq_true rfl)) dX9_stretch_2 ⟨Nat.le_of_ble_eq_true rfl, Nat.le_of_ble_eq_true rfl⟩) hS (fun q _ h => hFc q h) hFc (fun r_1 u9 t9 H1 locs ht hvm hr_1 hB hz1 hk1 hS => ?_)
  try dsimp only at hr_1
  obtain ⟨hP1, hK1, hD1⟩ := hB
  rw [ht] at hP1
  obtain ⟨hP, hD⟩ := va_join (wr := []) (w1 := [(h0, .inr (9, [.ref m1, .ref m2, .ref m3, .int (-1), .int 3, .int 255, .int 0, .int 0, .int 0, .int 0, .int 0, .int 65535, .ref m4, .ref m5, .ref m6, .ref m7, .ref m8, .ref m9, .int 0, .ref m10, .ref m11, .ref m12, .ref m13])), (m1, .inl (c1, 4, .inl (fun _ => 0)))]) hP hD [0, 1] [] rfl rfl (by decide) (by decide) hk1 hFc hP1 hD1
  clear hz1 hk1 hFc hKc hDc hPc
  generalize H1 = H at hP hS ⊢
  have hP : va_P D vwCl [(h0, .inr (9, [.ref m1, .ref m2, .ref m3, .int (-1), .int 3, .int 255, .int 0, .int 0, .int 0, .int 0, .int 0, .int 65535, .ref m4, .ref m5, .ref m6, .ref m7, .ref m8, .ref m9, .int 0, .ref m10, .ref m11, .ref m12, .ref m13])), (m1, .inl (c1, 4, .inl (fun _ => 0)))] H := hP
  have hD : va_D A [(h0, .inr (9, [.ref m1, .ref m2, .ref m3, .int (-1), .int 3, .int 255, .int 0, .int 0, .int 0, .int 0, .int 0, .int 65535, .ref m4, .ref m5, .ref m6, .ref m7, .ref m8, .ref m9, .int 0, .ref m10, .ref m11, .ref m12, .ref m13])), (m1, .inl (c1, 4, .inl (fun _ => 0)))] := hD
  subst hr_1
  refine lv_if_eq (tgt := 87) hx hb dX9_stretch_5 (by decide) (fun c_2 => ?_) (fun c_2 => ?_)
  · skip
    refine lv_iconst (v := (-1)) hx hb dX9_stretch_87 (by decide) ?_
    exact W.iret (v := (-1)) hx hb hr (fun t ht hW => ⟨⟨(-1), (), rfl, rfl, trivial⟩, hS.F ht⟩) hS.2.2 dX9_stretch_88
  · skip
    exact absurd c_2 (by decide)

set_option maxHeartbeats 4000000 in
set_option maxRecDepth 100000 in
theorem k_X9_dot (l : Launch) (D : va_G) (sz : Nat) (h0 m1 m2 m3 m4 m5 m6 m7 m8 m9 m10 m11 m12 m13 : Nat) (c1 : ClassId) (a1 a2 a3 : Int32) : Met l yX9_dot (wB yX9_dot cX9_dot 4 (some .int)) ({ frames := 1, cells := 0, slots := 0, locals := 21 }) (cP D [(h0, .inr (9, [.ref m1, .ref m2, .ref m3, .int (-1), .int 3, .int 255, .int 0, .int 0, .int 0, .int 0, .int 0, .int 65535, .ref m4, .ref m5, .ref m6, .ref m7, .ref m8, .ref m9, .int 0, .ref m10, .ref m11, .ref m12, .ref m13])), (m1, .inl (c1, 4, .inl (fun _ => 0)))] [(c1, .int)] sz [.ref h0, .int a1, .int a2, .int a3]) (va_Qi (fun (r : Int32) (_ : Unit) => r = 0) (fun (_ : Unit) (_ : State) => True) (va_A [(h0, .inr (9, [.ref m1, .ref m2, .ref m3, .int (-1), .int 3, .int 255, .int 0, .int 0, .int 0, .int 0, .int 0, .int 65535, .ref m4, .ref m5, .ref m6, .ref m7, .ref m8, .ref m9, .int 0, .ref m10, .ref m11, .ref m12, .ref m13])), (m1, .inl (c1, 4, .inl (fun _ => 0)))] sz)) 0 0 (va_A [(h0, .inr (9, [.ref m1, .ref m2, .ref m3, .int (-1), .int 3, .int 255, .int 0, .int 0, .int 0, .int 0, .int 0, .int 65535, .ref m4, .ref m5, .ref m6, .ref m7, .ref m8, .ref m9, .int 0, .ref m10, .ref m11, .ref m12, .ref m13])), (m1, .inl (c1, 4, .inl (fun _ => 0)))] sz) := by
  refine Met.ofW (cc := cX9_dot) (maxL := 4) (ret := (some .int)) (by decide) rfl ?_
  intro p e s m args below meth c s₁ B hml hv
  obtain ⟨rfl, hsz, hP, hK, hD0, hN⟩ := hv
  have hx := B.exec
  have hb := B.bytes
  have hr := B.returns
  have hts0 := atoms_spec (ws := (wB yX9_dot cX9_dot 4 (some .int))) B.pre
  have hts : ∀ w ∈ bigW, w.before _ s = true := fun w h => hts0 w (List.mem_cons_of_mem _ h)
  have hown : s.vm.findClass RX9 = some m.cls := findClass_of_methodNamed B.named
  have hlocks := B.notSynchronized
  subst hsz
  have hD := hD0.self (sz := s.heap.size)
  generalize hAe : va_A [(h0, .inr (9, [.ref m1, .ref m2, .ref m3, .int (-1), .int 3, .int 255, .int 0, .int 0, .int 0, .int 0, .int 0, .int 65535, .ref m4, .ref m5, .ref m6, .ref m7, .ref m8, .ref m9, .int 0, .ref m10, .ref m11, .ref m12, .ref m13])), (m1, .inl (c1, 4, .inl (fun _ => 0)))] s.heap.size = A at hD ⊢
  have hA : ∀ q : Nat, s.heap.size ≤ q → A q := fun q h => by rw [← hAe]; exact Or.inr h
  have hS : va_S A s.heap s.heap [] := va_S.rf
  have hP : va_P D vwCl [(h0, .inr (9, [.ref m1, .ref m2, .ref m3, .int (-1), .int 3, .int 255, .int 0, .int 0, .int 0, .int 0, .int 0, .int 65535, .ref m4, .ref m5, .ref m6, .ref m7, .ref m8, .ref m9, .int 0, .ref m10, .ref m11, .ref m12, .ref m13])), (m1, .inl (c1, 4, .inl (fun _ => 0)))] s.heap := hP
  have hl := lv_entry ([.ref h0, .int a1, .int a2, .int a3]) (n := 4) (Nat.le_of_ble_eq_true rfl)
  rw [lg_entry_eq]
  generalize (lg_sl ([.ref h0, .int a1, .int a2, .int a3]) ++ List.replicate (4 - (lg_sl ([.ref h0, .int a1, .int a2, .int a3])).length) Slot.unset).toArray = ls at hl ⊢
  have hl : lv_has ls 4 [(0, .ref h0), (1, .int a1), (2, .int a2), (3, .int a3)] := hl
  refine lv_aload_n hx hb dX9_dot_0 rfl (lv_at hl 0 rfl) ?_
  refine lv_iload_n hx hb dX9_dot_1 rfl (lv_at hl 1 rfl) ?_
  have hPc := hP.sub (ws' := [(h0, .inr (9, [.ref m1, .ref m2, .ref m3, .int (-1), .int 3, .int 255, .int 0, .int 0, .int 0, .int 0, .int 0, .int 65535, .ref m4, .ref m5, .ref m6, .ref m7, .ref m8, .ref m9, .int 0, .ref m10, .ref m11, .ref m12, .ref m13])), (m1, .inl (c1, 4, .inl (fun _ => 0)))]) [0, 1] rfl
  have hDc := hD.sub (ws' := [(h0, .inr (9, [.ref m1, .ref m2, .ref m3, .int (-1), .int 3, .int 255, .int 0, .int 0, .int 0, .int 0, .int 0, .int 65535, .ref m4, .ref m5, .ref m6, .ref m7, .ref m8, .ref m9, .int 0, .ref m10, .ref m11, .ref m12, .ref m13])), (m1, .inl (c1, 4, .inl (fun _ => 0)))]) [0, 1] (by decide) rfl
  have hKc := hK.sub (tys' := [(c1, .int)]) [0] rfl
  have hFc := va_free (wc := [(h0, .inr (9, [.ref m1, .ref m2, .ref m3, .int (-1), .int 3, .int 255, .int 0, .int 0, .int 0, .int 0, .int 0, .int 65535, .ref m4, .ref m5, .ref m6, .ref m7, .ref m8, .ref m9, .int 0, .ref m10, .ref m11, .ref m12, .ref m13])), (m1, .inl (c1, 4, .inl (fun _ => 0)))]) hD hS hA [0, 1] rfl
  refine va_calli (va_runV (As := [.int a1]) (rest := []) ⟨hx, hb, hml, hown, hts⟩ (k_X9_isSheet l D s.heap.size h0 m1 m2 m3 m4 m5 m6 m7 m8 m9 m10 m11 m12 m13 c1 a1) (cwV 1 hts (gV bw_184 bw_185 bw_186 bw_11 bw_183) rfl rfl rfl (by decide +kernel) ⟨Nat.le_of_ble_eq_true rfl, Nat.le_of_ble_eq_true rfl⟩) ⟨cP_blind, va_recv hKc hPc (ci := 9) (q0 := 0) rfl rfl, cP_at hPc hKc hDc hN⟩ rfl rfl hl.1 rfl (lv_room (Nat.le_of_ble_eq_true rfl)) dX9_dot_2 ⟨Nat.le_of_ble_eq_true rfl, Nat.le_of_ble_eq_true rfl⟩) hS (fun q _ h => hFc q h) hFc (fun r_1 u9 t9 H1 locs ht hvm hr_1 hB hz1 hk1 hS => ?_)
  try dsimp only at hr_1
  obtain ⟨hP1, hK1, hD1⟩ := hB
  rw [ht] at hP1
  obtain ⟨hP, hD⟩ := va_join (wr := []) (w1 := [(h0, .inr (9, [.ref m1, .ref m2, .ref m3, .int (-1), .int 3, .int 255, .int 0, .int 0, .int 0, .int 0, .int 0, .int 65535, .ref m4, .ref m5, .ref m6, .ref m7, .ref m8, .ref m9, .int 0, .ref m10, .ref m11, .ref m12, .ref m13])), (m1, .inl (c1, 4, .inl (fun _ => 0)))]) hP hD [0, 1] [] rfl rfl (by decide) (by decide) hk1 hFc hP1 hD1
  clear hz1 hk1 hFc hKc hDc hPc
  generalize H1 = H at hP hS ⊢
  have hP : va_P D vwCl [(h0, .inr (9, [.ref m1, .ref m2, .ref m3, .int (-1), .int 3, .int 255, .int 0, .int 0, .int 0, .int 0, .int 0, .int 65535, .ref m4, .ref m5, .ref m6, .ref m7, .ref m8, .ref m9, .int 0, .ref m10, .ref m11, .ref m12, .ref m13])), (m1, .inl (c1, 4, .inl (fun _ => 0)))] H := hP
  have hD : va_D A [(h0, .inr (9, [.ref m1, .ref m2, .ref m3, .int (-1), .int 3, .int 255, .int 0, .int 0, .int 0, .int 0, .int 0, .int 65535, .ref m4, .ref m5, .ref m6, .ref m7, .ref m8, .ref m9, .int 0, .ref m10, .ref m11, .ref m12, .ref m13])), (m1, .inl (c1, 4, .inl (fun _ => 0)))] := hD
  subst hr_1
  refine lv_if_eq (tgt := 32) hx hb dX9_dot_5 (by decide) (fun c_2 => ?_) (fun c_2 => ?_)
  · skip
    refine lv_iconst (v := 0) hx hb dX9_dot_32 (by decide) ?_
    exact W.iret (v := 0) hx hb hr (fun t ht hW => ⟨⟨0, (), rfl, rfl, trivial⟩, hS.F ht⟩) hS.2.2 dX9_dot_33
  · skip
    exact absurd c_2 (by decide)

set_option maxHeartbeats 4000000 in
set_option maxRecDepth 100000 in
theorem k_X9_count (l : Launch) (D : va_G) (sz : Nat) (h0 m1 m2 m3 m4 m5 m6 m7 m8 m9 m10 m11 m12 m13 : Nat) (c1 : ClassId) (a1 a2 : Int32) : Met l yX9_count (wB yX9_count cX9_count 6 (some .int)) ({ frames := 1, cells := 0, slots := 0, locals := 21 }) (cP D [(h0, .inr (9, [.ref m1, .ref m2, .ref m3, .int (-1), .int 3, .int 255, .int 0, .int 0, .int 0, .int 0, .int 0, .int 65535, .ref m4, .ref m5, .ref m6, .ref m7, .ref m8, .ref m9, .int 0, .ref m10, .ref m11, .ref m12, .ref m13])), (m1, .inl (c1, 4, .inl (fun _ => 0)))] [(c1, .int)] sz [.ref h0, .int a1, .int a2]) (va_Qi (fun (r : Int32) (_ : Unit) => r = -1) (fun (_ : Unit) (_ : State) => True) (va_A [(h0, .inr (9, [.ref m1, .ref m2, .ref m3, .int (-1), .int 3, .int 255, .int 0, .int 0, .int 0, .int 0, .int 0, .int 65535, .ref m4, .ref m5, .ref m6, .ref m7, .ref m8, .ref m9, .int 0, .ref m10, .ref m11, .ref m12, .ref m13])), (m1, .inl (c1, 4, .inl (fun _ => 0)))] sz)) 0 0 (va_A [(h0, .inr (9, [.ref m1, .ref m2, .ref m3, .int (-1), .int 3, .int 255, .int 0, .int 0, .int 0, .int 0, .int 0, .int 65535, .ref m4, .ref m5, .ref m6, .ref m7, .ref m8, .ref m9, .int 0, .ref m10, .ref m11, .ref m12, .ref m13])), (m1, .inl (c1, 4, .inl (fun _ => 0)))] sz) := by
  refine Met.ofW (cc := cX9_count) (maxL := 6) (ret := (some .int)) (by decide) rfl ?_
  intro p e s m args below meth c s₁ B hml hv
  obtain ⟨rfl, hsz, hP, hK, hD0, hN⟩ := hv
  have hx := B.exec
  have hb := B.bytes
  have hr := B.returns
  have hts0 := atoms_spec (ws := (wB yX9_count cX9_count 6 (some .int))) B.pre
  have hts : ∀ w ∈ bigW, w.before _ s = true := fun w h => hts0 w (List.mem_cons_of_mem _ h)
  have hown : s.vm.findClass RX9 = some m.cls := findClass_of_methodNamed B.named
  have hlocks := B.notSynchronized
  subst hsz
  have hD := hD0.self (sz := s.heap.size)
  generalize hAe : va_A [(h0, .inr (9, [.ref m1, .ref m2, .ref m3, .int (-1), .int 3, .int 255, .int 0, .int 0, .int 0, .int 0, .int 0, .int 65535, .ref m4, .ref m5, .ref m6, .ref m7, .ref m8, .ref m9, .int 0, .ref m10, .ref m11, .ref m12, .ref m13])), (m1, .inl (c1, 4, .inl (fun _ => 0)))] s.heap.size = A at hD ⊢
  have hA : ∀ q : Nat, s.heap.size ≤ q → A q := fun q h => by rw [← hAe]; exact Or.inr h
  have hS : va_S A s.heap s.heap [] := va_S.rf
  have hP : va_P D vwCl [(h0, .inr (9, [.ref m1, .ref m2, .ref m3, .int (-1), .int 3, .int 255, .int 0, .int 0, .int 0, .int 0, .int 0, .int 65535, .ref m4, .ref m5, .ref m6, .ref m7, .ref m8, .ref m9, .int 0, .ref m10, .ref m11, .ref m12, .ref m13])), (m1, .inl (c1, 4, .inl (fun _ => 0)))] s.heap := hP
  have hl := lv_entry ([.ref h0, .int a1, .int a2]) (n := 6) (Nat.le_of_ble_eq_true rfl)
  rw [lg_entry_eq]
  generalize (lg_sl ([.ref h0, .int a1, .int a2]) ++ List.replicate (6 - (lg_sl ([.ref h0, .int a1, .int a2])).length) Slot.unset).toArray = ls at hl ⊢
  have hl : lv_has ls 6 [(0, .ref h0), (1, .int a1), (2, .int a2)] := hl
  refine lv_aload_n hx hb dX9_count_0 rfl (lv_at hl 0 rfl) ?_
  refine lv_iload_n hx hb dX9_count_1 rfl (lv_at hl 1 rfl) ?_
  have hPc := hP.sub (ws' := [(h0, .inr (9, [.ref m1, .ref m2, .ref m3, .int (-1), .int 3, .int 255, .int 0, .int 0, .int 0, .int 0, .int 0, .int 65535, .ref m4, .ref m5, .ref m6, .ref m7, .ref m8, .ref m9, .int 0, .ref m10, .ref m11, .ref m12, .ref m13])), (m1, .inl (c1, 4, .inl (fun _ => 0)))]) [0, 1] rfl
  have hDc := hD.sub (ws' := [(h0, .inr (9, [.ref m1, .ref m2, .ref m3, .int (-1), .int 3, .int 255, .int 0, .int 0, .int 0, .int 0, .int 0, .int 65535, .ref m4, .ref m5, .ref m6, .ref m7, .ref m8, .ref m9, .int 0, .ref m10, .ref m11, .ref m12, .ref m13])), (m1, .inl (c1, 4, .inl (fun _ => 0)))]) [0, 1] (by decide) rfl
  have hKc := hK.sub (tys' := [(c1, .int)]) [0] rfl
  have hFc := va_free (wc := [(h0, .inr (9, [.ref m1, .ref m2, .ref m3, .int (-1), .int 3, .int 255, .int 0, .int 0, .int 0, .int 0, .int 0, .int 65535, .ref m4, .ref m5, .ref m6, .ref m7, .ref m8, .ref m9, .int 0, .ref m10, .ref m11, .ref m12, .ref m13])), (m1, .inl (c1, 4, .inl (fun _ => 0)))]) hD hS hA [0, 1] rfl
  refine va_calli (va_runV (As := [.int a1]) (rest := []) ⟨hx, hb, hml, hown, hts⟩ (k_X9_isSheet l D s.heap.size h0 m1 m2 m3 m4 m5 m6 m7 m8 m9 m10 m11 m12 m13 c1 a1) (cwV 1 hts (gV bw_184 bw_185 bw_186 bw_11 bw_183) rfl rfl rfl (by decide +kernel) ⟨Nat.le_of_ble_eq_true rfl, Nat.le_of_ble_eq_true rfl⟩) ⟨cP_blind, va_recv hKc hPc (ci := 9) (q0 := 0) rfl rfl, cP_at hPc hKc hDc hN⟩ rfl rfl hl.1 rfl (lv_room (Nat.le_of_ble_eq_true rfl)) dX9_count_2 ⟨Nat.le_of_ble_eq_true rfl, Nat.le_of_ble_eq_true rfl⟩) hS (fun q _ h => hFc q h) hFc (fun r_1 u9 t9 H1 locs ht hvm hr_1 hB hz1 hk1 hS => ?_)
  try dsimp only at hr_1
  obtain ⟨hP1, hK1, hD1⟩ := hB
  rw [ht] at hP1
  obtain ⟨hP, hD⟩ := va_join (wr := []) (w1 := [(h0, .inr (9, [.ref m1, .ref m2, .ref m3, .int (-1), .int 3, .int 255, .int 0, .int 0, .int 0, .int 0, .int 0, .int 65535, .ref m4, .ref m5, .ref m6, .ref m7, .ref m8, .ref m9, .int 0, .ref m10, .ref m11, .ref m12, .ref m13])), (m1, .inl (c1, 4, .inl (fun _ => 0)))]) hP hD [0, 1] [] rfl rfl (by decide) (by decide) hk1 hFc hP1 hD1
  clear hz1 hk1 hFc hKc hDc hPc
  generalize H1 = H at hP hS ⊢
  have hP : va_P D vwCl [(h0, .inr (9, [.ref m1, .ref m2, .ref m3, .int (-1), .int 3, .int 255, .int 0, .int 0, .int 0, .int 0, .int 0, .int 65535, .ref m4, .ref m5, .ref m6, .ref m7, .ref m8, .ref m9, .int 0, .ref m10, .ref m11, .ref m12, .ref m13])), (m1, .inl (c1, 4, .inl (fun _ => 0)))] H := hP
  have hD : va_D A [(h0, .inr (9, [.ref m1, .ref m2, .ref m3, .int (-1), .int 3, .int 255, .int 0, .int 0, .int 0, .int 0, .int 0, .int 65535, .ref m4, .ref m5, .ref m6, .ref m7, .ref m8, .ref m9, .int 0, .ref m10, .ref m11, .ref m12, .ref m13])), (m1, .inl (c1, 4, .inl (fun _ => 0)))] := hD
  subst hr_1
  refine lv_if_ne (tgt := 10) hx hb dX9_count_5 (by decide) (fun c_2 => ?_) (fun c_2 => ?_)
  · skip
    exact absurd c_2 (by decide)
  · skip
    refine lv_iconst (v := (-1)) hx hb dX9_count_8 (by decide) ?_
    exact W.iret (v := (-1)) hx hb hr (fun t ht hW => ⟨⟨(-1), (), rfl, rfl, trivial⟩, hS.F ht⟩) hS.2.2 dX9_count_9

set_option maxHeartbeats 4000000 in
set_option maxRecDepth 100000 in
theorem k_X9_region (l : Launch) (D : va_G) (sz : Nat) (h0 m1 m2 m3 m4 m5 m6 m7 m8 m9 m10 m11 m12 m13 : Nat) (c1 : ClassId) (a1 a2 a3 a4 : Int32) : Met l yX9_region (wB yX9_region cX9_region 7 (some .int)) ({ frames := 1, cells := 0, slots := 0, locals := 21 }) (cP D [(h0, .inr (9, [.ref m1, .ref m2, .ref m3, .int (-1), .int 3, .int 255, .int 0, .int 0, .int 0, .int 0, .int 0, .int 65535, .ref m4, .ref m5, .ref m6, .ref m7, .ref m8, .ref m9, .int 0, .ref m10, .ref m11, .ref m12, .ref m13])), (m1, .inl (c1, 4, .inl (fun _ => 0)))] [(c1, .int)] sz [.ref h0, .int a1, .int a2, .int a3, .int a4]) (va_Qi (fun (r : Int32) (_ : Unit) => r = -1) (fun (_ : Unit) (_ : State) => True) (va_A [(h0, .inr (9, [.ref m1, .ref m2, .ref m3, .int (-1), .int 3, .int 255, .int 0, .int 0, .int 0, .int 0, .int 0, .int 65535, .ref m4, .ref m5, .ref m6, .ref m7, .ref m8, .ref m9, .int 0, .ref m10, .ref m11, .ref m12, .ref m13])), (m1, .inl (c1, 4, .inl (fun _ => 0)))] sz)) 0 0 (va_A [(h0, .inr (9, [.ref m1, .ref m2, .ref m3, .int (-1), .int 3, .int 255, .int 0, .int 0, .int 0, .int 0, .int 0, .int 65535, .ref m4, .ref m5, .ref m6, .ref m7, .ref m8, .ref m9, .int 0, .ref m10, .ref m11, .ref m12, .ref m13])), (m1, .inl (c1, 4, .inl (fun _ => 0)))] sz) := by
  refine Met.ofW (cc := cX9_region) (maxL := 7) (ret := (some .int)) (by decide) rfl ?_
  intro p e s m args below meth c s₁ B hml hv
  obtain ⟨rfl, hsz, hP, hK, hD0, hN⟩ := hv
  have hx := B.exec
  have hb := B.bytes
  have hr := B.returns
  have hts0 := atoms_spec (ws := (wB yX9_region cX9_region 7 (some .int))) B.pre
  have hts : ∀ w ∈ bigW, w.before _ s = true := fun w h => hts0 w (List.mem_cons_of_mem _ h)
  have hown : s.vm.findClass RX9 = some m.cls := findClass_of_methodNamed B.named
  have hlocks := B.notSynchronized
  subst hsz
  have hD := hD0.self (sz := s.heap.size)
  generalize hAe : va_A [(h0, .inr (9, [.ref m1, .ref m2, .ref m3, .int (-1), .int 3, .int 255, .int 0, .int 0, .int 0, .int 0, .int 0, .int 65535, .ref m4, .ref m5, .ref m6, .ref m7, .ref m8, .ref m9, .int 0, .ref m10, .ref m11, .ref m12, .ref m13])), (m1, .inl (c1, 4, .inl (fun _ => 0)))] s.heap.size = A at hD ⊢
  have hA : ∀ q : Nat, s.heap.size ≤ q → A q := fun q h => by rw [← hAe]; exact Or.inr h
  have hS : va_S A s.heap s.heap [] := va_S.rf
  have hP : va_P D vwCl [(h0, .inr (9, [.ref m1, .ref m2, .ref m3, .int (-1), .int 3, .int 255, .int 0, .int 0, .int 0, .int 0, .int 0, .int 65535, .ref m4, .ref m5, .ref m6, .ref m7, .ref m8, .ref m9, .int 0, .ref m10, .ref m11, .ref m12, .ref m13])), (m1, .inl (c1, 4, .inl (fun _ => 0)))] s.heap := hP
  have hl := lv_entry ([.ref h0, .int a1, .int a2, .int a3, .int a4]) (n := 7) (Nat.le_of_ble_eq_true rfl)
  rw [lg_entry_eq]
  generalize (lg_sl ([.ref h0, .int a1, .int a2, .int a3, .int a4]) ++ List.replicate (7 - (lg_sl ([.ref h0, .int a1, .int a2, .int a3, .int a4])).length) Slot.unset).toArray = ls at hl ⊢
  have hl : lv_has ls 7 [(0, .ref h0), (1, .int a1), (2, .int a2), (3, .int a3), (4, .int a4)] := hl
  refine lv_aload_n hx hb dX9_region_0 rfl (lv_at hl 0 rfl) ?_
  refine lv_iload_n hx hb dX9_region_1 rfl (lv_at hl 1 rfl) ?_
  have hPc := hP.sub (ws' := [(h0, .inr (9, [.ref m1, .ref m2, .ref m3, .int (-1), .int 3, .int 255, .int 0, .int 0, .int 0, .int 0, .int 0, .int 65535, .ref m4, .ref m5, .ref m6, .ref m7, .ref m8, .ref m9, .int 0, .ref m10, .ref m11, .ref m12, .ref m13])), (m1, .inl (c1, 4, .inl (fun _ => 0)))]) [0, 1] rfl
  have hDc := hD.sub (ws' := [(h0, .inr (9, [.ref m1, .ref m2, .ref m3, .int (-1), .int 3, .int 255, .int 0, .int 0, .int 0, .int 0, .int 0, .int 65535, .ref m4, .ref m5, .ref m6, .ref m7, .ref m8, .ref m9, .int 0, .ref m10, .ref m11, .ref m12, .ref m13])), (m1, .inl (c1, 4, .inl (fun _ => 0)))]) [0, 1] (by decide) rfl
  have hKc := hK.sub (tys' := [(c1, .int)]) [0] rfl
  have hFc := va_free (wc := [(h0, .inr (9, [.ref m1, .ref m2, .ref m3, .int (-1), .int 3, .int 255, .int 0, .int 0, .int 0, .int 0, .int 0, .int 65535, .ref m4, .ref m5, .ref m6, .ref m7, .ref m8, .ref m9, .int 0, .ref m10, .ref m11, .ref m12, .ref m13])), (m1, .inl (c1, 4, .inl (fun _ => 0)))]) hD hS hA [0, 1] rfl
  refine va_calli (va_runV (As := [.int a1]) (rest := []) ⟨hx, hb, hml, hown, hts⟩ (k_X9_isSheet l D s.heap.size h0 m1 m2 m3 m4 m5 m6 m7 m8 m9 m10 m11 m12 m13 c1 a1) (cwV 1 hts (gV bw_184 bw_185 bw_186 bw_11 bw_183) rfl rfl rfl (by decide +kernel) ⟨Nat.le_of_ble_eq_true rfl, Nat.le_of_ble_eq_true rfl⟩) ⟨cP_blind, va_recv hKc hPc (ci := 9) (q0 := 0) rfl rfl, cP_at hPc hKc hDc hN⟩ rfl rfl hl.1 rfl (lv_room (Nat.le_of_ble_eq_true rfl)) dX9_region_2 ⟨Nat.le_of_ble_eq_true rfl, Nat.le_of_ble_eq_true rfl⟩) hS (fun q _ h => hFc q h) hFc (fun r_1 u9 t9 H1 locs ht hvm hr_1 hB hz1 hk1 hS => ?_)
  try dsimp only at hr_1
  obtain ⟨hP1, hK1, hD1⟩ := hB
  rw [ht] at hP1
  obtain ⟨hP, hD⟩ := va_join (wr := []) (w1 := [(h0, .inr (9, [.ref m1, .ref m2, .ref m3, .int (-1), .int 3, .int 255, .int 0, .int 0, .int 0, .int 0, .int 0, .int 65535, .ref m4, .ref m5, .ref m6, .ref m7, .ref m8, .ref m9, .int 0, .ref m10, .ref m11, .ref m12, .ref m13])), (m1, .inl (c1, 4, .inl (fun _ => 0)))]) hP hD [0, 1] [] rfl rfl (by decide) (by decide) hk1 hFc hP1 hD1
  clear hz1 hk1 hFc hKc hDc hPc
  generalize H1 = H at hP hS ⊢
  have hP : va_P D vwCl [(h0, .inr (9, [.ref m1, .ref m2, .ref m3, .int (-1), .int 3, .int 255, .int 0, .int 0, .int 0, .int 0, .int 0, .int 65535, .ref m4, .ref m5, .ref m6, .ref m7, .ref m8, .ref m9, .int 0, .ref m10, .ref m11, .ref m12, .ref m13])), (m1, .inl (c1, 4, .inl (fun _ => 0)))] H := hP
  have hD : va_D A [(h0, .inr (9, [.ref m1, .ref m2, .ref m3, .int (-1), .int 3, .int 255, .int 0, .int 0, .int 0, .int 0, .int 0, .int 65535, .ref m4, .ref m5, .ref m6, .ref m7, .ref m8, .ref m9, .int 0, .ref m10, .ref m11, .ref m12, .ref m13])), (m1, .inl (c1, 4, .inl (fun _ => 0)))] := hD
  subst hr_1
  refine lv_if_eq (tgt := 18) hx hb dX9_region_5 (by decide) (fun c_2 => ?_) (fun c_2 => ?_)
  · skip
    refine lv_iconst (v := (-1)) hx hb dX9_region_18 (by decide) ?_
    exact W.iret (v := (-1)) hx hb hr (fun t ht hW => ⟨⟨(-1), (), rfl, rfl, trivial⟩, hS.F ht⟩) hS.2.2 dX9_region_19
  · skip
    exact absurd c_2 (by decide)

set_option maxHeartbeats 4000000 in
set_option maxRecDepth 100000 in
theorem k_X9_differ (l : Launch) (D : va_G) (sz : Nat) (h0 m1 m2 m3 m4 m5 m6 m7 m8 m9 m10 m11 m12 m13 : Nat) (c1 : ClassId) (a1 a2 : Int32) : Met l yX9_differ (wB yX9_differ cX9_differ 6 (some .int)) ({ frames := 1, cells := 0, slots := 0, locals := 21 }) (cP D [(h0, .inr (9, [.ref m1, .ref m2, .ref m3, .int (-1), .int 3, .int 255, .int 0, .int 0, .int 0, .int 0, .int 0, .int 65535, .ref m4, .ref m5, .ref m6, .ref m7, .ref m8, .ref m9, .int 0, .ref m10, .ref m11, .ref m12, .ref m13])), (m1, .inl (c1, 4, .inl (fun _ => 0)))] [(c1, .int)] sz [.ref h0, .int a1, .int a2]) (va_Qi (fun (r : Int32) (_ : Unit) => r = -1) (fun (_ : Unit) (_ : State) => True) (va_A [(h0, .inr (9, [.ref m1, .ref m2, .ref m3, .int (-1), .int 3, .int 255, .int 0, .int 0, .int 0, .int 0, .int 0, .int 65535, .ref m4, .ref m5, .ref m6, .ref m7, .ref m8, .ref m9, .int 0, .ref m10, .ref m11, .ref m12, .ref m13])), (m1, .inl (c1, 4, .inl (fun _ => 0)))] sz)) 0 0 (va_A [(h0, .inr (9, [.ref m1, .ref m2, .ref m3, .int (-1), .int 3, .int 255, .int 0, .int 0, .int 0, .int 0, .int 0, .int 65535, .ref m4, .ref m5, .ref m6, .ref m7, .ref m8, .ref m9, .int 0, .ref m10, .ref m11, .ref m12, .ref m13])), (m1, .inl (c1, 4, .inl (fun _ => 0)))] sz) := by
  refine Met.ofW (cc := cX9_differ) (maxL := 6) (ret := (some .int)) (by decide) rfl ?_
  intro p e s m args below meth c s₁ B hml hv
  obtain ⟨rfl, hsz, hP, hK, hD0, hN⟩ := hv
  have hx := B.exec
  have hb := B.bytes
  have hr := B.returns
  have hts0 := atoms_spec (ws := (wB yX9_differ cX9_differ 6 (some .int))) B.pre
  have hts : ∀ w ∈ bigW, w.before _ s = true := fun w h => hts0 w (List.mem_cons_of_mem _ h)
  have hown : s.vm.findClass RX9 = some m.cls := findClass_of_methodNamed B.named
  have hlocks := B.notSynchronized
  subst hsz
  have hD := hD0.self (sz := s.heap.size)
  generalize hAe : va_A [(h0, .inr (9, [.ref m1, .ref m2, .ref m3, .int (-1), .int 3, .int 255, .int 0, .int 0, .int 0, .int 0, .int 0, .int 65535, .ref m4, .ref m5, .ref m6, .ref m7, .ref m8, .ref m9, .int 0, .ref m10, .ref m11, .ref m12, .ref m13])), (m1, .inl (c1, 4, .inl (fun _ => 0)))] s.heap.size = A at hD ⊢
  have hA : ∀ q : Nat, s.heap.size ≤ q → A q := fun q h => by rw [← hAe]; exact Or.inr h
  have hS : va_S A s.heap s.heap [] := va_S.rf
  have hP : va_P D vwCl [(h0, .inr (9, [.ref m1, .ref m2, .ref m3, .int (-1), .int 3, .int 255, .int 0, .int 0, .int 0, .int 0, .int 0, .int 65535, .ref m4, .ref m5, .ref m6, .ref m7, .ref m8, .ref m9, .int 0, .ref m10, .ref m11, .ref m12, .ref m13])), (m1, .inl (c1, 4, .inl (fun _ => 0)))] s.heap := hP
  have hl := lv_entry ([.ref h0, .int a1, .int a2]) (n := 6) (Nat.le_of_ble_eq_true rfl)
  rw [lg_entry_eq]
  generalize (lg_sl ([.ref h0, .int a1, .int a2]) ++ List.replicate (6 - (lg_sl ([.ref h0, .int a1, .int a2])).length) Slot.unset).toArray = ls at hl ⊢
  have hl : lv_has ls 6 [(0, .ref h0), (1, .int a1), (2, .int a2)] := hl
  refine lv_aload_n hx hb dX9_differ_0 rfl (lv_at hl 0 rfl) ?_
  refine lv_iload_n hx hb dX9_differ_1 rfl (lv_at hl 1 rfl) ?_
  have hPc := hP.sub (ws' := [(h0, .inr (9, [.ref m1, .ref m2, .ref m3, .int (-1), .int 3, .int 255, .int 0, .int 0, .int 0, .int 0, .int 0, .int 65535, .ref m4, .ref m5, .ref m6, .ref m7, .ref m8, .ref m9, .int 0, .ref m10, .ref m11, .ref m12, .ref m13])), (m1, .inl (c1, 4, .inl (fun _ => 0)))]) [0, 1] rfl
  have hDc := hD.sub (ws' := [(h0, .inr (9, [.ref m1, .ref m2, .ref m3, .int (-1), .int 3, .int 255, .int 0, .int 0, .int 0, .int 0, .int 0, .int 65535, .ref m4, .ref m5, .ref m6, .ref m7, .ref m8, .ref m9, .int 0, .ref m10, .ref m11, .ref m12, .ref m13])), (m1, .inl (c1, 4, .inl (fun _ => 0)))]) [0, 1] (by decide) rfl
  have hKc := hK.sub (tys' := [(c1, .int)]) [0] rfl
  have hFc := va_free (wc := [(h0, .inr (9, [.ref m1, .ref m2, .ref m3, .int (-1), .int 3, .int 255, .int 0, .int 0, .int 0, .int 0, .int 0, .int 65535, .ref m4, .ref m5, .ref m6, .ref m7, .ref m8, .ref m9, .int 0, .ref m10, .ref m11, .ref m12, .ref m13])), (m1, .inl (c1, 4, .inl (fun _ => 0)))]) hD hS hA [0, 1] rfl
  refine va_calli (va_runV (As := [.int a1]) (rest := []) ⟨hx, hb, hml, hown, hts⟩ (k_X9_isSheet l D s.heap.size h0 m1 m2 m3 m4 m5 m6 m7 m8 m9 m10 m11 m12 m13 c1 a1) (cwV 1 hts (gV bw_184 bw_185 bw_186 bw_11 bw_183) rfl rfl rfl (by decide +kernel) ⟨Nat.le_of_ble_eq_true rfl, Nat.le_of_ble_eq_true rfl⟩) ⟨cP_blind, va_recv hKc hPc (ci := 9) (q0 := 0) rfl rfl, cP_at hPc hKc hDc hN⟩ rfl rfl hl.1 rfl (lv_room (Nat.le_of_ble_eq_true rfl)) dX9_differ_2 ⟨Nat.le_of_ble_eq_true rfl, Nat.le_of_ble_eq_true rfl⟩) hS (fun q _ h => hFc q h) hFc (fun r_1 u9 t9 H1 locs ht hvm hr_1 hB hz1 hk1 hS => ?_)
  try dsimp only at hr_1
  obtain ⟨hP1, hK1, hD1⟩ := hB
  rw [ht] at hP1
  obtain ⟨hP, hD⟩ := va_join (wr := []) (w1 := [(h0, .inr (9, [.ref m1, .ref m2, .ref m3, .int (-1), .int 3, .int 255, .int 0, .int 0, .int 0, .int 0, .int 0, .int 65535, .ref m4, .ref m5, .ref m6, .ref m7, .ref m8, .ref m9, .int 0, .ref m10, .ref m11, .ref m12, .ref m13])), (m1, .inl (c1, 4, .inl (fun _ => 0)))]) hP hD [0, 1] [] rfl rfl (by decide) (by decide) hk1 hFc hP1 hD1
  clear hz1 hk1 hFc hKc hDc hPc
  generalize H1 = H at hP hS ⊢
  have hP : va_P D vwCl [(h0, .inr (9, [.ref m1, .ref m2, .ref m3, .int (-1), .int 3, .int 255, .int 0, .int 0, .int 0, .int 0, .int 0, .int 65535, .ref m4, .ref m5, .ref m6, .ref m7, .ref m8, .ref m9, .int 0, .ref m10, .ref m11, .ref m12, .ref m13])), (m1, .inl (c1, 4, .inl (fun _ => 0)))] H := hP
  have hD : va_D A [(h0, .inr (9, [.ref m1, .ref m2, .ref m3, .int (-1), .int 3, .int 255, .int 0, .int 0, .int 0, .int 0, .int 0, .int 65535, .ref m4, .ref m5, .ref m6, .ref m7, .ref m8, .ref m9, .int 0, .ref m10, .ref m11, .ref m12, .ref m13])), (m1, .inl (c1, 4, .inl (fun _ => 0)))] := hD
  subst hr_1
  refine lv_if_eq (tgt := 46) hx hb dX9_differ_5 (by decide) (fun c_2 => ?_) (fun c_2 => ?_)
  · skip
    refine lv_iconst (v := (-1)) hx hb dX9_differ_46 (by decide) ?_
    exact W.iret (v := (-1)) hx hb hr (fun t ht hW => ⟨⟨(-1), (), rfl, rfl, trivial⟩, hS.F ht⟩) hS.2.2 dX9_differ_47
  · skip
    exact absurd c_2 (by decide)

set_option maxHeartbeats 4000000 in
set_option maxRecDepth 100000 in
theorem k_X9_look (l : Launch) (D : va_G) (sz : Nat) (h0 m1 m2 m3 m4 m5 m6 m7 m8 m9 m10 m11 m12 m13 : Nat) (c1 : ClassId) (a1 a2 : Int32) : Met l yX9_look (wB yX9_look cX9_look 8 (some .int)) ({ frames := 1, cells := 0, slots := 0, locals := 21 }) (cP D [(h0, .inr (9, [.ref m1, .ref m2, .ref m3, .int (-1), .int 3, .int 255, .int 0, .int 0, .int 0, .int 0, .int 0, .int 65535, .ref m4, .ref m5, .ref m6, .ref m7, .ref m8, .ref m9, .int 0, .ref m10, .ref m11, .ref m12, .ref m13])), (m1, .inl (c1, 4, .inl (fun _ => 0)))] [(c1, .int)] sz [.ref h0, .int a1, .int a2]) (va_Qi (fun (r : Int32) (_ : Unit) => r = -1) (fun (_ : Unit) (_ : State) => True) (va_A [(h0, .inr (9, [.ref m1, .ref m2, .ref m3, .int (-1), .int 3, .int 255, .int 0, .int 0, .int 0, .int 0, .int 0, .int 65535, .ref m4, .ref m5, .ref m6, .ref m7, .ref m8, .ref m9, .int 0, .ref m10, .ref m11, .ref m12, .ref m13])), (m1, .inl (c1, 4, .inl (fun _ => 0)))] sz)) 0 0 (va_A [(h0, .inr (9, [.ref m1, .ref m2, .ref m3, .int (-1), .int 3, .int 255, .int 0, .int 0, .int 0, .int 0, .int 0, .int 65535, .ref m4, .ref m5, .ref m6, .ref m7, .ref m8, .ref m9, .int 0, .ref m10, .ref m11, .ref m12, .ref m13])), (m1, .inl (c1, 4, .inl (fun _ => 0)))] sz) := by
  refine Met.ofW (cc := cX9_look) (maxL := 8) (ret := (some .int)) (by decide) rfl ?_
  intro p e s m args below meth c s₁ B hml hv
  obtain ⟨rfl, hsz, hP, hK, hD0, hN⟩ := hv
  have hx := B.exec
  have hb := B.bytes
  have hr := B.returns
  have hts0 := atoms_spec (ws := (wB yX9_look cX9_look 8 (some .int))) B.pre
  have hts : ∀ w ∈ bigW, w.before _ s = true := fun w h => hts0 w (List.mem_cons_of_mem _ h)
  have hown : s.vm.findClass RX9 = some m.cls := findClass_of_methodNamed B.named
  have hlocks := B.notSynchronized
  subst hsz
  have hD := hD0.self (sz := s.heap.size)
  generalize hAe : va_A [(h0, .inr (9, [.ref m1, .ref m2, .ref m3, .int (-1), .int 3, .int 255, .int 0, .int 0, .int 0, .int 0, .int 0, .int 65535, .ref m4, .ref m5, .ref m6, .ref m7, .ref m8, .ref m9, .int 0, .ref m10, .ref m11, .ref m12, .ref m13])), (m1, .inl (c1, 4, .inl (fun _ => 0)))] s.heap.size = A at hD ⊢
  have hA : ∀ q : Nat, s.heap.size ≤ q → A q := fun q h => by rw [← hAe]; exact Or.inr h
  have hS : va_S A s.heap s.heap [] := va_S.rf
  have hP : va_P D vwCl [(h0, .inr (9, [.ref m1, .ref m2, .ref m3, .int (-1), .int 3, .int 255, .int 0, .int 0, .int 0, .int 0, .int 0, .int 65535, .ref m4, .ref m5, .ref m6, .ref m7, .ref m8, .ref m9, .int 0, .ref m10, .ref m11, .ref m12, .ref m13])), (m1, .inl (c1, 4, .inl (fun _ => 0)))] s.heap := hP
  have hl := lv_entry ([.ref h0, .int a1, .int a2]) (n := 8) (Nat.le_of_ble_eq_true rfl)
  rw [lg_entry_eq]
  generalize (lg_sl ([.ref h0, .int a1, .int a2]) ++ List.replicate (8 - (lg_sl ([.ref h0, .int a1, .int a2])).length) Slot.unset).toArray = ls at hl ⊢
  have hl : lv_has ls 8 [(0, .ref h0), (1, .int a1), (2, .int a2)] := hl
  refine lv_aload_n hx hb dX9_look_0 rfl (lv_at hl 0 rfl) ?_
  refine lv_iload_n hx hb dX9_look_1 rfl (lv_at hl 1 rfl) ?_
  have hPc := hP.sub (ws' := [(h0, .inr (9, [.ref m1, .ref m2, .ref m3, .int (-1), .int 3, .int 255, .int 0, .int 0, .int 0, .int 0, .int 0, .int 65535, .ref m4, .ref m5, .ref m6, .ref m7, .ref m8, .ref m9, .int 0, .ref m10, .ref m11, .ref m12, .ref m13])), (m1, .inl (c1, 4, .inl (fun _ => 0)))]) [0, 1] rfl
  have hDc := hD.sub (ws' := [(h0, .inr (9, [.ref m1, .ref m2, .ref m3, .int (-1), .int 3, .int 255, .int 0, .int 0, .int 0, .int 0, .int 0, .int 65535, .ref m4, .ref m5, .ref m6, .ref m7, .ref m8, .ref m9, .int 0, .ref m10, .ref m11, .ref m12, .ref m13])), (m1, .inl (c1, 4, .inl (fun _ => 0)))]) [0, 1] (by decide) rfl
  have hKc := hK.sub (tys' := [(c1, .int)]) [0] rfl
  have hFc := va_free (wc := [(h0, .inr (9, [.ref m1, .ref m2, .ref m3, .int (-1), .int 3, .int 255, .int 0, .int 0, .int 0, .int 0, .int 0, .int 65535, .ref m4, .ref m5, .ref m6, .ref m7, .ref m8, .ref m9, .int 0, .ref m10, .ref m11, .ref m12, .ref m13])), (m1, .inl (c1, 4, .inl (fun _ => 0)))]) hD hS hA [0, 1] rfl
  refine va_calli (va_runV (As := [.int a1]) (rest := []) ⟨hx, hb, hml, hown, hts⟩ (k_X9_isSheet l D s.heap.size h0 m1 m2 m3 m4 m5 m6 m7 m8 m9 m10 m11 m12 m13 c1 a1) (cwV 1 hts (gV bw_184 bw_185 bw_186 bw_11 bw_183) rfl rfl rfl (by decide +kernel) ⟨Nat.le_of_ble_eq_true rfl, Nat.le_of_ble_eq_true rfl⟩) ⟨cP_blind, va_recv hKc hPc (ci := 9) (q0 := 0) rfl rfl, cP_at hPc hKc hDc hN⟩ rfl rfl hl.1 rfl (lv_room (Nat.le_of_ble_eq_true rfl)) dX9_look_2 ⟨Nat.le_of_ble_eq_true rfl, Nat.le_of_ble_eq_true rfl⟩) hS (fun q _ h => hFc q h) hFc (fun r_1 u9 t9 H1 locs ht hvm hr_1 hB hz1 hk1 hS => ?_)
  try dsimp only at hr_1
  obtain ⟨hP1, hK1, hD1⟩ := hB
  rw [ht] at hP1
  obtain ⟨hP, hD⟩ := va_join (wr := []) (w1 := [(h0, .inr (9, [.ref m1, .ref m2, .ref m3, .int (-1), .int 3, .int 255, .int 0, .int 0, .int 0, .int 0, .int 0, .int 65535, .ref m4, .ref m5, .ref m6, .ref m7, .ref m8, .ref m9, .int 0, .ref m10, .ref m11, .ref m12, .ref m13])), (m1, .inl (c1, 4, .inl (fun _ => 0)))]) hP hD [0, 1] [] rfl rfl (by decide) (by decide) hk1 hFc hP1 hD1
  clear hz1 hk1 hFc hKc hDc hPc
  generalize H1 = H at hP hS ⊢
  have hP : va_P D vwCl [(h0, .inr (9, [.ref m1, .ref m2, .ref m3, .int (-1), .int 3, .int 255, .int 0, .int 0, .int 0, .int 0, .int 0, .int 65535, .ref m4, .ref m5, .ref m6, .ref m7, .ref m8, .ref m9, .int 0, .ref m10, .ref m11, .ref m12, .ref m13])), (m1, .inl (c1, 4, .inl (fun _ => 0)))] H := hP
  have hD : va_D A [(h0, .inr (9, [.ref m1, .ref m2, .ref m3, .int (-1), .int 3, .int 255, .int 0, .int 0, .int 0, .int 0, .int 0, .int 65535, .ref m4, .ref m5, .ref m6, .ref m7, .ref m8, .ref m9, .int 0, .ref m10, .ref m11, .ref m12, .ref m13])), (m1, .inl (c1, 4, .inl (fun _ => 0)))] := hD
  subst hr_1
  refine lv_if_eq (tgt := 18) hx hb dX9_look_5 (by decide) (fun c_2 => ?_) (fun c_2 => ?_)
  · skip
    refine lv_iconst (v := (-1)) hx hb dX9_look_18 (by decide) ?_
    exact W.iret (v := (-1)) hx hb hr (fun t ht hW => ⟨⟨(-1), (), rfl, rfl, trivial⟩, hS.F ht⟩) hS.2.2 dX9_look_19
  · skip
    exact absurd c_2 (by decide)

set_option maxHeartbeats 4000000 in
set_option maxRecDepth 100000 in
theorem k_X9_point (l : Launch) (D : va_G) (sz : Nat) (h0 m1 m2 m3 m4 m5 m6 m7 m8 m9 m10 m11 m12 m13 : Nat) (c7 c8 c9 : ClassId) (x y n : Int32) : Met l yX9_point (wB yX9_point cX9_point 4 (some .int)) ({ frames := 1, cells := 0, slots := 0, locals := 21 }) (cP D [(h0, .inr (9, [.ref m1, .ref m2, .ref m3, .int (-1), .int 3, .int 255, .int 0, .int 0, .int 0, .int 0, .int 0, .int 65535, .ref m4, .ref m5, .ref m6, .ref m7, .ref m8, .ref m9, .int 0, .ref m10, .ref m11, .ref m12, .ref m13])), (m7, .inl (c7, 48, .inl (fun _ => 0))), (m8, .inl (c8, 48, .inl (fun _ => 0))), (m9, .inl (c9, 48, .inl (fun _ => 0)))] [(c7, .int), (c8, .int), (c9, .boolean)] sz [.ref h0, .int x, .int y, .int n]) (va_Qi (fun (r : Int32) (_ : Unit) => r = if -4096 ≤ x.toInt ∧ x.toInt ≤ 4096 ∧ -4096 ≤ y.toInt ∧ y.toInt ≤ 4096 then 1 else -1) (fun (_ : Unit) (_ : State) => True) (va_A [(h0, .inr (9, [.ref m1, .ref m2, .ref m3, .int (-1), .int 3, .int 255, .int 0, .int 0, .int 0, .int 0, .int 0, .int 65535, .ref m4, .ref m5, .ref m6, .ref m7, .ref m8, .ref m9, .int 0, .ref m10, .ref m11, .ref m12, .ref m13])), (m7, .inl (c7, 48, .inl (fun _ => 0))), (m8, .inl (c8, 48, .inl (fun _ => 0))), (m9, .inl (c9, 48, .inl (fun _ => 0)))] sz)) 0 0 (va_A [(h0, .inr (9, [.ref m1, .ref m2, .ref m3, .int (-1), .int 3, .int 255, .int 0, .int 0, .int 0, .int 0, .int 0, .int 65535, .ref m4, .ref m5, .ref m6, .ref m7, .ref m8, .ref m9, .int 0, .ref m10, .ref m11, .ref m12, .ref m13])), (m7, .inl (c7, 48, .inl (fun _ => 0))), (m8, .inl (c8, 48, .inl (fun _ => 0))), (m9, .inl (c9, 48, .inl (fun _ => 0)))] sz) := by
  refine Met.ofW (cc := cX9_point) (maxL := 4) (ret := (some .int)) (by decide) rfl ?_
  intro p e s m args below meth c s₁ B hml hv
  obtain ⟨rfl, hsz, hP, hK, hD0, hN⟩ := hv
  have hx := B.exec
  have hb := B.bytes
  have hr := B.returns
  have hts0 := atoms_spec (ws := (wB yX9_point cX9_point 4 (some .int))) B.pre
  have hts : ∀ w ∈ bigW, w.before _ s = true := fun w h => hts0 w (List.mem_cons_of_mem _ h)
  have hown : s.vm.findClass RX9 = some m.cls := findClass_of_methodNamed B.named
  have hlocks := B.notSynchronized
  subst hsz
  have hD := hD0.self (sz := s.heap.size)
  generalize hAe : va_A [(h0, .inr (9, [.ref m1, .ref m2, .ref m3, .int (-1), .int 3, .int 255, .int 0, .int 0, .int 0, .int 0, .int 0, .int 65535, .ref m4, .ref m5, .ref m6, .ref m7, .ref m8, .ref m9, .int 0, .ref m10, .ref m11, .ref m12, .ref m13])), (m7, .inl (c7, 48, .inl (fun _ => 0))), (m8, .inl (c8, 48, .inl (fun _ => 0))), (m9, .inl (c9, 48, .inl (fun _ => 0)))] s.heap.size = A at hD ⊢
  have hA : ∀ q : Nat, s.heap.size ≤ q → A q := fun q h => by rw [← hAe]; exact Or.inr h
  have hS : va_S A s.heap s.heap [] := va_S.rf
  have hP : va_P D vwCl [(h0, .inr (9, [.ref m1, .ref m2, .ref m3, .int (-1), .int 3, .int 255, .int 0, .int 0, .int 0, .int 0, .int 0, .int 65535, .ref m4, .ref m5, .ref m6, .ref m7, .ref m8, .ref m9, .int 0, .ref m10, .ref m11, .ref m12, .ref m13])), (m7, .inl (c7, 48, .inl (fun _ => 0))), (m8, .inl (c8, 48, .inl (fun _ => 0))), (m9, .inl (c9, 48, .inl (fun _ => 0)))] s.heap := hP
  have hl := lv_entry ([.ref h0, .int x, .int y, .int n]) (n := 4) (Nat.le_of_ble_eq_true rfl)
  rw [lg_entry_eq]
  generalize (lg_sl ([.ref h0, .int x, .int y, .int n]) ++ List.replicate (4 - (lg_sl ([.ref h0, .int x, .int y, .int n])).length) Slot.unset).toArray = ls at hl ⊢
  have hl : lv_has ls 4 [(0, .ref h0), (1, .int x), (2, .int y), (3, .int n)] := hl
  refine lv_aload_n hx hb dX9_point_0 rfl (lv_at hl 0 rfl) ?_
  refine va_get (D := D) (ci := 9) (v := .int 0) (C := RX9) (T := TX9) (N := 23) hx hb hts hi_X9 hown hK hP 0 rfl rfl 18 (by decide) (hts _ bw_187) (fun _ h9 => h9) rfl dX9_point_1 ?_
  refine lv_bipush (v := 48) hx hb dX9_point_4 (by decide) ?_
  refine lv_icmp_eq (tgt := 29) hx hb dX9_point_6 (by decide) (fun c_1 => ?_) (fun c_1 => ?_)
  · skip
    exact absurd c_1 (by decide)
  · skip
    refine lv_iload_n hx hb dX9_point_9 rfl (lv_at hl 1 rfl) ?_
    refine lv_sipush (v := 4096) hx hb dX9_point_10 (by decide) ?_
    have hPc := hP.sub (ws' := []) [] rfl
    have hDc := hD.sub (ws' := []) [] (by decide) rfl
    have hKc := hK.sub (tys' := []) [] rfl
    have hFc := va_free (wc := []) hD hS hA [] rfl
    refine va_calli (va_runS (As := [.int x, .int 4096]) (rest := []) ⟨hx, hb, hml, hown, hts⟩ (k_X9_isNear l D s.heap.size x 4096 (-4096) 4096 (by decide) (by decide)) (va_cwS 2 hts (gS bw_189 bw_190 bw_11 bw_188) rfl rfl rfl (by decide +kernel) ⟨Nat.le_of_ble_eq_true rfl, Nat.le_of_ble_eq_true rfl⟩) ⟨cP_blind, cP_at hPc hKc hDc hN⟩ rfl rfl hl.1 rfl (lv_room (Nat.le_of_ble_eq_true rfl)) dX9_point_13 ⟨Nat.le_of_ble_eq_true rfl, Nat.le_of_ble_eq_true rfl⟩) hS (fun q _ h => hFc q h) hFc (fun r_3 u9 t9 H1 locs ht hvm hr_3 hB hz1 hk1 hS => ?_)
    try dsimp only at hr_3
    have hP1 : va_P D vwCl [] H1 := vP_nil
    have hD1 : va_D (va_A [] s.heap.size) [] := vD_nil
    obtain ⟨hP, hD⟩ := va_join (wr := [(h0, .inr (9, [.ref m1, .ref m2, .ref m3, .int (-1), .int 3, .int 255, .int 0, .int 0, .int 0, .int 0, .int 0, .int 65535, .ref m4, .ref m5, .ref m6, .ref m7, .ref m8, .ref m9, .int 0, .ref m10, .ref m11, .ref m12, .ref m13])), (m7, .inl (c7, 48, .inl (fun _ => 0))), (m8, .inl (c8, 48, .inl (fun _ => 0))), (m9, .inl (c9, 48, .inl (fun _ => 0)))]) (w1 := []) hP hD [] [0, 1, 2, 3] rfl rfl (by decide) (by decide) hk1 hFc hP1 hD1
    clear hz1 hk1 hFc hKc hDc hPc
    generalize H1 = H at hP hS ⊢
    have hP : va_P D vwCl [(h0, .inr (9, [.ref m1, .ref m2, .ref m3, .int (-1), .int 3, .int 255, .int 0, .int 0, .int 0, .int 0, .int 0, .int 65535, .ref m4, .ref m5, .ref m6, .ref m7, .ref m8, .ref m9, .int 0, .ref m10, .ref m11, .ref m12, .ref m13])), (m7, .inl (c7, 48, .inl (fun _ => 0))), (m8, .inl (c8, 48, .inl (fun _ => 0))), (m9, .inl (c9, 48, .inl (fun _ => 0)))] H := hP
    have hD : va_D A [(h0, .inr (9, [.ref m1, .ref m2, .ref m3, .int (-1), .int 3, .int 255, .int 0, .int 0, .int 0, .int 0, .int 0, .int 65535, .ref m4, .ref m5, .ref m6, .ref m7, .ref m8, .ref m9, .int 0, .ref m10, .ref m11, .ref m12, .ref m13])), (m7, .inl (c7, 48, .inl (fun _ => 0))), (m8, .inl (c8, 48, .inl (fun _ => 0))), (m9, .inl (c9, 48, .inl (fun _ => 0)))] := hD
    refine lv_if_eq (tgt := 29) hx hb dX9_point_16 (by decide) (fun c_4 => ?_) (fun c_4 => ?_)
    · skip
      have f_5 := bz0 hr_3 c_4
      refine lv_iconst (v := (-1)) hx hb dX9_point_29 (by decide) ?_
      exact W.iret (v := (-1)) hx hb hr (fun t ht hW => ⟨⟨(-1), (), rfl, (if_neg (by omega)).symm, trivial⟩, hS.F ht⟩) hS.2.2 dX9_point_30
    · skip
      have f_5 := bz1 hr_3 c_4
      refine lv_iload_n hx hb dX9_point_19 rfl (lv_at hl 2 rfl) ?_
      refine lv_sipush (v := 4096) hx hb dX9_point_20 (by decide) ?_
      have hPc := hP.sub (ws' := []) [] rfl
      have hDc := hD.sub (ws' := []) [] (by decide) rfl
      have hKc := hK.sub (tys' := []) [] rfl
      have hFc := va_free (wc := []) hD hS hA [] rfl
      refine va_calli (va_runS (As := [.int y, .int 4096]) (rest := []) ⟨hx, hb, hml, hown, hts⟩ (k_X9_isNear l D H.size y 4096 (-4096) 4096 (by decide) (by decide)) (va_cwS 2 hts (gS bw_189 bw_190 bw_11 bw_188) rfl rfl rfl (by decide +kernel) ⟨Nat.le_of_ble_eq_true rfl, Nat.le_of_ble_eq_true rfl⟩) ⟨cP_blind, cP_at hPc hKc hDc hN⟩ rfl rfl hl.1 rfl (lv_room (Nat.le_of_ble_eq_true rfl)) dX9_point_23 ⟨Nat.le_of_ble_eq_true rfl, Nat.le_of_ble_eq_true rfl⟩) hS (fun q _ h => hFc q h) hFc (fun r_6 u9 t9 H1 locs ht hvm hr_6 hB hz1 hk1 hS => ?_)
      try dsimp only at hr_6
      have hP1 : va_P D vwCl [] H1 := vP_nil
      have hD1 : va_D (va_A [] H.size) [] := vD_nil
      obtain ⟨hP, hD⟩ := va_join (wr := [(h0, .inr (9, [.ref m1, .ref m2, .ref m3, .int (-1), .int 3, .int 255, .int 0, .int 0, .int 0, .int 0, .int 0, .int 65535, .ref m4, .ref m5, .ref m6, .ref m7, .ref m8, .ref m9, .int 0, .ref m10, .ref m11, .ref m12, .ref m13])), (m7, .inl (c7, 48, .inl (fun _ => 0))), (m8, .inl (c8, 48, .inl (fun _ => 0))), (m9, .inl (c9, 48, .inl (fun _ => 0)))]) (w1 := []) hP hD [] [0, 1, 2, 3] rfl rfl (by decide) (by decide) hk1 hFc hP1 hD1
      clear hz1 hk1 hFc hKc hDc hPc
      generalize H1 = H at hP hS ⊢
      have hP : va_P D vwCl [(h0, .inr (9, [.ref m1, .ref m2, .ref m3, .int (-1), .int 3, .int 255, .int 0, .int 0, .int 0, .int 0, .int 0, .int 65535, .ref m4, .ref m5, .ref m6, .ref m7, .ref m8, .ref m9, .int 0, .ref m10, .ref m11, .ref m12, .ref m13])), (m7, .inl (c7, 48, .inl (fun _ => 0))), (m8, .inl (c8, 48, .inl (fun _ => 0))), (m9, .inl (c9, 48, .inl (fun _ => 0)))] H := hP
      have hD : va_D A [(h0, .inr (9, [.ref m1, .ref m2, .ref m3, .int (-1), .int 3, .int 255, .int 0, .int 0, .int 0, .int 0, .int 0, .int 65535, .ref m4, .ref m5, .ref m6, .ref m7, .ref m8, .ref m9, .int 0, .ref m10, .ref m11, .ref m12, .ref m13])), (m7, .inl (c7, 48, .inl (fun _ => 0))), (m8, .inl (c8, 48, .inl (fun _ => 0))), (m9, .inl (c9, 48, .inl (fun _ => 0)))] := hD
      refine lv_if_ne (tgt := 31) hx hb dX9_point_26 (by decide) (fun c_7 => ?_) (fun c_7 => ?_)
      · skip
        have f_8 := bz1 hr_6 c_7
        refine lv_aload_n hx hb dX9_point_31 rfl (lv_at hl 0 rfl) ?_
        refine va_get (D := D) (ci := 9) (v := .ref m7) (C := RX9) (T := TX9) (N := 23) hx hb hts hi_X9 hown hK hP 0 rfl rfl 15 (by decide) (hts _ bw_107) (fun _ h9 => h9) rfl dX9_point_32 ?_
        refine lv_aload_n hx hb dX9_point_35 rfl (lv_at hl 0 rfl) ?_
        refine va_get (D := D) (ci := 9) (v := .int 0) (C := RX9) (T := TX9) (N := 23) hx hb hts hi_X9 hown hK hP 0 rfl rfl 18 (by decide) (hts _ bw_187) (fun _ h9 => h9) rfl dX9_point_36 ?_
        refine lv_iconst (v := 2) hx hb dX9_point_39 (by decide) ?_
        refine lv_iload_n hx hb dX9_point_40 rfl (lv_at hl 1 rfl) ?_
        refine lv_imul hx hb dX9_point_41 ?_
        refine lv_topi (fun y_9 ey_9 => ?_)
        refine va_iast hx hb hK hP hD hS 1 0 rfl rfl (my_in (by decide) (by decide)) dX9_point_42 (fun H locs hP hD hS => ?_)
        have hP : va_P D vwCl [(h0, .inr (9, [.ref m1, .ref m2, .ref m3, .int (-1), .int 3, .int 255, .int 0, .int 0, .int 0, .int 0, .int 0, .int 65535, .ref m4, .ref m5, .ref m6, .ref m7, .ref m8, .ref m9, .int 0, .ref m10, .ref m11, .ref m12, .ref m13])), (m7, .inl (c7, 48, .inl (upd (fun _ => 0) (0 : Int32).toNatClampNeg y_9))), (m8, .inl (c8, 48, .inl (fun _ => 0))), (m9, .inl (c9, 48, .inl (fun _ => 0)))] H := hP
        have hD : va_D A [(h0, .inr (9, [.ref m1, .ref m2, .ref m3, .int (-1), .int 3, .int 255, .int 0, .int 0, .int 0, .int 0, .int 0, .int 65535, .ref m4, .ref m5, .ref m6, .ref m7, .ref m8, .ref m9, .int 0, .ref m10, .ref m11, .ref m12, .ref m13])), (m7, .inl (c7, 48, .inl (upd (fun _ => 0) (0 : Int32).toNatClampNeg y_9))), (m8, .inl (c8, 48, .inl (fun _ => 0))), (m9, .inl (c9, 48, .inl (fun _ => 0)))] := hD
        generalize upd (fun _ => 0) (0 : Int32).toNatClampNeg y_9 = g_10 at hP hD
        have hP : va_P D vwCl [(h0, .inr (9, [.ref m1, .ref m2, .ref m3, .int (-1), .int 3, .int 255, .int 0, .int 0, .int 0, .int 0, .int 0, .int 65535, .ref m4, .ref m5, .ref m6, .ref m7, .ref m8, .ref m9, .int 0, .ref m10, .ref m11, .ref m12, .ref m13])), (m7, .inl (c7, 48, .inl g_10)), (m8, .inl (c8, 48, .inl (fun _ => 0))), (m9, .inl (c9, 48, .inl (fun _ => 0)))] H := hP
        have hD : va_D A [(h0, .inr (9, [.ref m1, .ref m2, .ref m3, .int (-1), .int 3, .int 255, .int 0, .int 0, .int 0, .int 0, .int 0, .int 65535, .ref m4, .ref m5, .ref m6, .ref m7, .ref m8, .ref m9, .int 0, .ref m10, .ref m11, .ref m12, .ref m13])), (m7, .inl (c7, 48, .inl g_10)), (m8, .inl (c8, 48, .inl (fun _ => 0))), (m9, .inl (c9, 48, .inl (fun _ => 0)))] := hD
        refine lv_aload_n hx hb dX9_point_43 rfl (lv_at hl 0 rfl) ?_
        refine va_get (D := D) (ci := 9) (v := .ref m8) (C := RX9) (T := TX9) (N := 23) hx hb hts hi_X9 hown hK hP 0 rfl rfl 16 (by decide) (hts _ bw_108) (fun _ h9 => h9) rfl dX9_point_44 ?_
        refine lv_aload_n hx hb dX9_point_47 rfl (lv_at hl 0 rfl) ?_
        refine va_get (D := D) (ci := 9) (v := .int 0) (C := RX9) (T := TX9) (N := 23) hx hb hts hi_X9 hown hK hP 0 rfl rfl 18 (by decide) (hts _ bw_187) (fun _ h9 => h9) rfl dX9_point_48 ?_
        refine lv_iconst (v := 2) hx hb dX9_point_51 (by decide) ?_
        refine lv_iload_n hx hb dX9_point_52 rfl (lv_at hl 2 rfl) ?_
        refine lv_imul hx hb dX9_point_53 ?_
        refine lv_topi (fun y_11 ey_11 => ?_)
        refine va_iast hx hb hK hP hD hS 2 1 rfl rfl (my_in (by decide) (by decide)) dX9_point_54 (fun H locs hP hD hS => ?_)
        have hP : va_P D vwCl [(h0, .inr (9, [.ref m1, .ref m2, .ref m3, .int (-1), .int 3, .int 255, .int 0, .int 0, .int 0, .int 0, .int 0, .int 65535, .ref m4, .ref m5, .ref m6, .ref m7, .ref m8, .ref m9, .int 0, .ref m10, .ref m11, .ref m12, .ref m13])), (m7, .inl (c7, 48, .inl g_10)), (m8, .inl (c8, 48, .inl (upd (fun _ => 0) (0 : Int32).toNatClampNeg y_11))), (m9, .inl (c9, 48, .inl (fun _ => 0)))] H := hP
        have hD : va_D A [(h0, .inr (9, [.ref m1, .ref m2, .ref m3, .int (-1), .int 3, .int 255, .int 0, .int 0, .int 0, .int 0, .int 0, .int 65535, .ref m4, .ref m5, .ref m6, .ref m7, .ref m8, .ref m9, .int 0, .ref m10, .ref m11, .ref m12, .ref m13])), (m7, .inl (c7, 48, .inl g_10)), (m8, .inl (c8, 48, .inl (upd (fun _ => 0) (0 : Int32).toNatClampNeg y_11))), (m9, .inl (c9, 48, .inl (fun _ => 0)))] := hD
        generalize upd (fun _ => 0) (0 : Int32).toNatClampNeg y_11 = g_12 at hP hD
        have hP : va_P D vwCl [(h0, .inr (9, [.ref m1, .ref m2, .ref m3, .int (-1), .int 3, .int 255, .int 0, .int 0, .int 0, .int 0, .int 0, .int 65535, .ref m4, .ref m5, .ref m6, .ref m7, .ref m8, .ref m9, .int 0, .ref m10, .ref m11, .ref m12, .ref m13])), (m7, .inl (c7, 48, .inl g_10)), (m8, .inl (c8, 48, .inl g_12)), (m9, .inl (c9, 48, .inl (fun _ => 0)))] H := hP
        have hD : va_D A [(h0, .inr (9, [.ref m1, .ref m2, .ref m3, .int (-1), .int 3, .int 255, .int 0, .int 0, .int 0, .int 0, .int 0, .int 65535, .ref m4, .ref m5, .ref m6, .ref m7, .ref m8, .ref m9, .int 0, .ref m10, .ref m11, .ref m12, .ref m13])), (m7, .inl (c7, 48, .inl g_10)), (m8, .inl (c8, 48, .inl g_12)), (m9, .inl (c9, 48, .inl (fun _ => 0)))] := hD
        refine lv_aload_n hx hb dX9_point_55 rfl (lv_at hl 0 rfl) ?_
        refine va_get (D := D) (ci := 9) (v := .ref m9) (C := RX9) (T := TX9) (N := 23) hx hb hts hi_X9 hown hK hP 0 rfl rfl 17 (by decide) (hts _ bw_109) (fun _ h9 => h9) rfl dX9_point_56 ?_
        refine lv_aload_n hx hb dX9_point_59 rfl (lv_at hl 0 rfl) ?_
        refine va_get (D := D) (ci := 9) (v := .int 0) (C := RX9) (T := TX9) (N := 23) hx hb hts hi_X9 hown hK hP 0 rfl rfl 18 (by decide) (hts _ bw_187) (fun _ h9 => h9) rfl dX9_point_60 ?_
        refine lv_iload_n hx hb dX9_point_63 rfl (lv_at hl 3 rfl) ?_
        refine lv_if_ne (tgt := 74) hx hb dX9_point_64 (by decide) (fun c_13 => ?_) (fun c_13 => ?_)
        · skip
          have f_14 : ¬ (n.toInt = 0) := fn_eq rfl (by decide) c_13
          refine lv_iconst (v := 1) hx hb dX9_point_74 (by decide) ?_
          refine lv_goto (tgt := 79) hx hb dX9_point_75 (by decide) ?_
          refine va_zast hx hb hK hP hD hS 3 2 rfl rfl (my_in (by decide) (by decide)) dX9_point_79 (fun H locs hP hD hS => ?_)
          have hP : va_P D vwCl [(h0, .inr (9, [.ref m1, .ref m2, .ref m3, .int (-1), .int 3, .int 255, .int 0, .int 0, .int 0, .int 0, .int 0, .int 65535, .ref m4, .ref m5, .ref m6, .ref m7, .ref m8, .ref m9, .int 0, .ref m10, .ref m11, .ref m12, .ref m13])), (m7, .inl (c7, 48, .inl g_10)), (m8, .inl (c8, 48, .inl g_12)), (m9, .inl (c9, 48, .inl (upd (fun _ => 0) (0 : Int32).toNatClampNeg (vp_nar .boolean 1))))] H := hP
          have hD : va_D A [(h0, .inr (9, [.ref m1, .ref m2, .ref m3, .int (-1), .int 3, .int 255, .int 0, .int 0, .int 0, .int 0, .int 0, .int 65535, .ref m4, .ref m5, .ref m6, .ref m7, .ref m8, .ref m9, .int 0, .ref m10, .ref m11, .ref m12, .ref m13])), (m7, .inl (c7, 48, .inl g_10)), (m8, .inl (c8, 48, .inl g_12)), (m9, .inl (c9, 48, .inl (upd (fun _ => 0) (0 : Int32).toNatClampNeg (vp_nar .boolean 1))))] := hD
          generalize upd (fun _ => 0) (0 : Int32).toNatClampNeg (vp_nar .boolean 1) = g_15 at hP hD
          have hP : va_P D vwCl [(h0, .inr (9, [.ref m1, .ref m2, .ref m3, .int (-1), .int 3, .int 255, .int 0, .int 0, .int 0, .int 0, .int 0, .int 65535, .ref m4, .ref m5, .ref m6, .ref m7, .ref m8, .ref m9, .int 0, .ref m10, .ref m11, .ref m12, .ref m13])), (m7, .inl (c7, 48, .inl g_10)), (m8, .inl (c8, 48, .inl g_12)), (m9, .inl (c9, 48, .inl g_15))] H := hP
          have hD : va_D A [(h0, .inr (9, [.ref m1, .ref m2, .ref m3, .int (-1), .int 3, .int 255, .int 0, .int 0, .int 0, .int 0, .int 0, .int 65535, .ref m4, .ref m5, .ref m6, .ref m7, .ref m8, .ref m9, .int 0, .ref m10, .ref m11, .ref m12, .ref m13])), (m7, .inl (c7, 48, .inl g_10)), (m8, .inl (c8, 48, .inl g_12)), (m9, .inl (c9, 48, .inl g_15))] := hD
          refine lv_aload_n hx hb dX9_point_80 rfl (lv_at hl 0 rfl) ?_
          refine lv_aload_n hx hb dX9_point_81 rfl (lv_at hl 0 rfl) ?_
          refine va_get (D := D) (ci := 9) (v := .int 0) (C := RX9) (T := TX9) (N := 23) hx hb hts hi_X9 hown hK hP 0 rfl rfl 18 (by decide) (hts _ bw_187) (fun _ h9 => h9) rfl dX9_point_82 ?_
          refine lv_iconst (v := 1) hx hb dX9_point_85 (by decide) ?_
          refine lv_iadd hx hb dX9_point_86 ?_
          refine my_fold (v := 1) (by decide) ?_
          refine va_put (D := D) (ci := 9) (v := .int 1) (ty := .int) (C := RX9) (T := TX9) (N := 23) hx hb hts hi_X9 tyX9 tyX9_ok nmX9 hown hK hP hD hS 0 rfl rfl 18 (by decide) (hts _ bw_187) (fun _ h9 => h9) rfl (by decide +kernel) rfl rfl (Nat.le_of_ble_eq_true rfl) dX9_point_87 (fun H locs hP hD hS => ?_)
          have hP : va_P D vwCl [(h0, .inr (9, [.ref m1, .ref m2, .ref m3, .int (-1), .int 3, .int 255, .int 0, .int 0, .int 0, .int 0, .int 0, .int 65535, .ref m4, .ref m5, .ref m6, .ref m7, .ref m8, .ref m9, .int 1, .ref m10, .ref m11, .ref m12, .ref m13])), (m7, .inl (c7, 48, .inl g_10)), (m8, .inl (c8, 48, .inl g_12)), (m9, .inl (c9, 48, .inl g_15))] H := hP
          have hD : va_D A [(h0, .inr (9, [.ref m1, .ref m2, .ref m3, .int (-1), .int 3, .int 255, .int 0, .int 0, .int 0, .int 0, .int 0, .int 65535, .ref m4, .ref m5, .ref m6, .ref m7, .ref m8, .ref m9, .int 1, .ref m10, .ref m11, .ref m12, .ref m13])), (m7, .inl (c7, 48, .inl g_10)), (m8, .inl (c8, 48, .inl g_12)), (m9, .inl (c9, 48, .inl g_15))] := hD
          refine lv_aload_n hx hb dX9_point_90 rfl (lv_at hl 0 rfl) ?_
          refine va_get (D := D) (ci := 9) (v := .int 1) (C := RX9) (T := TX9) (N := 23) hx hb hts hi_X9 hown hK hP 0 rfl rfl 18 (by decide) (hts _ bw_187) (fun _ h9 => h9) rfl dX9_point_91 ?_
          exact W.iret (v := 1) hx hb hr (fun t ht hW => ⟨⟨1, (), rfl, (if_pos (by omega)).symm, trivial⟩, hS.F ht⟩) hS.2.2 dX9_point_94
        · skip
          have f_14 : n.toInt = 0 := f_eq rfl (by decide) c_13
          refine lv_aload_n hx hb dX9_point_67 rfl (lv_at hl 0 rfl) ?_
          refine va_get (D := D) (ci := 9) (v := .int 0) (C := RX9) (T := TX9) (N := 23) hx hb hts hi_X9 hown hK hP 0 rfl rfl 18 (by decide) (hts _ bw_187) (fun _ h9 => h9) rfl dX9_point_68 ?_
          refine lv_if_ne (tgt := 78) hx hb dX9_point_71 (by decide) (fun c_16 => ?_) (fun c_16 => ?_)
          · skip
            exact absurd c_16 (by decide)
          · skip
            refine lv_iconst (v := 1) hx hb dX9_point_74 (by decide) ?_
            refine lv_goto (tgt := 79) hx hb dX9_point_75 (by decide) ?_
            refine va_zast hx hb hK hP hD hS 3 2 rfl rfl (my_in (by decide) (by decide)) dX9_point_79 (fun H locs hP hD hS => ?_)
            have hP : va_P D vwCl [(h0, .inr (9, [.ref m1, .ref m2, .ref m3, .int (-1), .int 3, .int 255, .int 0, .int 0, .int 0, .int 0, .int 0, .int 65535, .ref m4, .ref m5, .ref m6, .ref m7, .ref m8, .ref m9, .int 0, .ref m10, .ref m11, .ref m12, .ref m13])), (m7, .inl (c7, 48, .inl g_10)), (m8, .inl (c8, 48, .inl g_12)), (m9, .inl (c9, 48, .inl (upd (fun _ => 0) (0 : Int32).toNatClampNeg (vp_nar .boolean 1))))] H := hP
            have hD : va_D A [(h0, .inr (9, [.ref m1, .ref m2, .ref m3, .int (-1), .int 3, .int 255, .int 0, .int 0, .int 0, .int 0, .int 0, .int 65535, .ref m4, .ref m5, .ref m6, .ref m7, .ref m8, .ref m9, .int 0, .ref m10, .ref m11, .ref m12, .ref m13])), (m7, .inl (c7, 48, .inl g_10)), (m8, .inl (c8, 48, .inl g_12)), (m9, .inl (c9, 48, .inl (upd (fun _ => 0) (0 : Int32).toNatClampNeg (vp_nar .boolean 1))))] := hD
            generalize upd (fun _ => 0) (0 : Int32).toNatClampNeg (vp_nar .boolean 1) = g_18 at hP hD
            have hP : va_P D vwCl [(h0, .inr (9, [.ref m1, .ref m2, .ref m3, .int (-1), .int 3, .int 255, .int 0, .int 0, .int 0, .int 0, .int 0, .int 65535, .ref m4, .ref m5, .ref m6, .ref m7, .ref m8, .ref m9, .int 0, .ref m10, .ref m11, .ref m12, .ref m13])), (m7, .inl (c7, 48, .inl g_10)), (m8, .inl (c8, 48, .inl g_12)), (m9, .inl (c9, 48, .inl g_18))] H := hP
            have hD : va_D A [(h0, .inr (9, [.ref m1, .ref m2, .ref m3, .int (-1), .int 3, .int 255, .int 0, .int 0, .int 0, .int 0, .int 0, .int 65535, .ref m4, .ref m5, .ref m6, .ref m7, .ref m8, .ref m9, .int 0, .ref m10, .ref m11, .ref m12, .ref m13])), (m7, .inl (c7, 48, .inl g_10)), (m8, .inl (c8, 48, .inl g_12)), (m9, .inl (c9, 48, .inl g_18))] := hD
            refine lv_aload_n hx hb dX9_point_80 rfl (lv_at hl 0 rfl) ?_
            refine lv_aload_n hx hb dX9_point_81 rfl (lv_at hl 0 rfl) ?_
            refine va_get (D := D) (ci := 9) (v := .int 0) (C := RX9) (T := TX9) (N := 23) hx hb hts hi_X9 hown hK hP 0 rfl rfl 18 (by decide) (hts _ bw_187) (fun _ h9 => h9) rfl dX9_point_82 ?_
            refine lv_iconst (v := 1) hx hb dX9_point_85 (by decide) ?_
            refine lv_iadd hx hb dX9_point_86 ?_
            refine my_fold (v := 1) (by decide) ?_
            refine va_put (D := D) (ci := 9) (v := .int 1) (ty := .int) (C := RX9) (T := TX9) (N := 23) hx hb hts hi_X9 tyX9 tyX9_ok nmX9 hown hK hP hD hS 0 rfl rfl 18 (by decide) (hts _ bw_187) (fun _ h9 => h9) rfl (by decide +kernel) rfl rfl (Nat.le_of_ble_eq_true rfl) dX9_point_87 (fun H locs hP hD hS => ?_)
            have hP : va_P D vwCl [(h0, .inr (9, [.ref m1, .ref m2, .ref m3, .int (-1), .int 3, .int 255, .int 0, .int 0, .int 0, .int 0, .int 0, .int 65535, .ref m4, .ref m5, .ref m6, .ref m7, .ref m8, .ref m9, .int 1, .ref m10, .ref m11, .ref m12, .ref m13])), (m7, .inl (c7, 48, .inl g_10)), (m8, .inl (c8, 48, .inl g_12)), (m9, .inl (c9, 48, .inl g_18))] H := hP
            have hD : va_D A [(h0, .inr (9, [.ref m1, .ref m2, .ref m3, .int (-1), .int 3, .int 255, .int 0, .int 0, .int 0, .int 0, .int 0, .int 65535, .ref m4, .ref m5, .ref m6, .ref m7, .ref m8, .ref m9, .int 1, .ref m10, .ref m11, .ref m12, .ref m13])), (m7, .inl (c7, 48, .inl g_10)), (m8, .inl (c8, 48, .inl g_12)), (m9, .inl (c9, 48, .inl g_18))] := hD
            refine lv_aload_n hx hb dX9_point_90 rfl (lv_at hl 0 rfl) ?_
            refine va_get (D := D) (ci := 9) (v := .int 1) (C := RX9) (T := TX9) (N := 23) hx hb hts hi_X9 hown hK hP 0 rfl rfl 18 (by decide) (hts _ bw_187) (fun _ h9 => h9) rfl dX9_point_91 ?_
            exact W.iret (v := 1) hx hb hr (fun t ht hW => ⟨⟨1, (), rfl, (if_pos (by omega)).symm, trivial⟩, hS.F ht⟩) hS.2.2 dX9_point_94
      · skip
        have f_8 := bz0 hr_6 c_7
        refine lv_iconst (v := (-1)) hx hb dX9_point_29 (by decide) ?_
        exact W.iret (v := (-1)) hx hb hr (fun t ht hW => ⟨⟨(-1), (), rfl, (if_neg (by omega)).symm, trivial⟩, hS.F ht⟩) hS.2.2 dX9_point_30

set_option maxHeartbeats 4000000 in
set_option maxRecDepth 100000 in
theorem k_X9_clear (l : Launch) (D : va_G) (sz : Nat) (h0 m1 m2 m3 m4 m5 m6 m7 m8 m9 m10 m11 m12 m13 : Nat) : Met l yX9_clear (wB yX9_clear cX9_clear 1 none) ({ frames := 0, cells := 0, slots := 0, locals := 0 }) (cP D [(h0, .inr (9, [.ref m1, .ref m2, .ref m3, .int (-1), .int 3, .int 255, .int 0, .int 0, .int 0, .int 0, .int 0, .int 65535, .ref m4, .ref m5, .ref m6, .ref m7, .ref m8, .ref m9, .int 0, .ref m10, .ref m11, .ref m12, .ref m13]))] [] sz [.ref h0]) (va_Qv (fun (_ : Unit) => True) (fun (_ : Unit) (_ : State) => True) (va_A [(h0, .inr (9, [.ref m1, .ref m2, .ref m3, .int (-1), .int 3, .int 255, .int 0, .int 0, .int 0, .int 0, .int 0, .int 65535, .ref m4, .ref m5, .ref m6, .ref m7, .ref m8, .ref m9, .int 0, .ref m10, .ref m11, .ref m12, .ref m13]))] sz)) 0 0 (va_A [(h0, .inr (9, [.ref m1, .ref m2, .ref m3, .int (-1), .int 3, .int 255, .int 0, .int 0, .int 0, .int 0, .int 0, .int 65535, .ref m4, .ref m5, .ref m6, .ref m7, .ref m8, .ref m9, .int 0, .ref m10, .ref m11, .ref m12, .ref m13]))] sz) := by
  refine Met.ofW (cc := cX9_clear) (maxL := 1) (ret := none) (by decide) rfl ?_
  intro p e s m args below meth c s₁ B hml hv
  obtain ⟨rfl, hsz, hP, hK, hD0, hN⟩ := hv
  have hx := B.exec
  have hb := B.bytes
  have hr := B.returns
  have hts0 := atoms_spec (ws := (wB yX9_clear cX9_clear 1 none)) B.pre
  have hts : ∀ w ∈ bigW, w.before _ s = true := fun w h => hts0 w (List.mem_cons_of_mem _ h)
  have hown : s.vm.findClass RX9 = some m.cls := findClass_of_methodNamed B.named
  have hlocks := B.notSynchronized
  subst hsz
  have hD := hD0.self (sz := s.heap.size)
  generalize hAe : va_A [(h0, .inr (9, [.ref m1, .ref m2, .ref m3, .int (-1), .int 3, .int 255, .int 0, .int 0, .int 0, .int 0, .int 0, .int 65535, .ref m4, .ref m5, .ref m6, .ref m7, .ref m8, .ref m9, .int 0, .ref m10, .ref m11, .ref m12, .ref m13]))] s.heap.size = A at hD ⊢
  have hA : ∀ q : Nat, s.heap.size ≤ q → A q := fun q h => by rw [← hAe]; exact Or.inr h
  have hS : va_S A s.heap s.heap [] := va_S.rf
  have hP : va_P D vwCl [(h0, .inr (9, [.ref m1, .ref m2, .ref m3, .int (-1), .int 3, .int 255, .int 0, .int 0, .int 0, .int 0, .int 0, .int 65535, .ref m4, .ref m5, .ref m6, .ref m7, .ref m8, .ref m9, .int 0, .ref m10, .ref m11, .ref m12, .ref m13]))] s.heap := hP
  have hl := lv_entry ([.ref h0]) (n := 1) (Nat.le_of_ble_eq_true rfl)
  rw [lg_entry_eq]
  generalize (lg_sl ([.ref h0]) ++ List.replicate (1 - (lg_sl ([.ref h0])).length) Slot.unset).toArray = ls at hl ⊢
  have hl : lv_has ls 1 [(0, .ref h0)] := hl
  refine lv_aload_n hx hb dX9_clear_0 rfl (lv_at hl 0 rfl) ?_
  refine lv_iconst (v := 0) hx hb dX9_clear_1 (by decide) ?_
  refine va_put (D := D) (ci := 9) (v := .int 0) (ty := .int) (C := RX9) (T := TX9) (N := 23) hx hb hts hi_X9 tyX9 tyX9_ok nmX9 hown hK hP hD hS 0 rfl rfl 18 (by decide) (hts _ bw_187) (fun _ h9 => h9) rfl (by decide +kernel) rfl rfl (Nat.le_of_ble_eq_true rfl) dX9_clear_2 (fun H locs hP hD hS => ?_)
  have hP : va_P D vwCl [(h0, .inr (9, [.ref m1, .ref m2, .ref m3, .int (-1), .int 3, .int 255, .int 0, .int 0, .int 0, .int 0, .int 0, .int 65535, .ref m4, .ref m5, .ref m6, .ref m7, .ref m8, .ref m9, .int 0, .ref m10, .ref m11, .ref m12, .ref m13]))] H := hP
  have hD : va_D A [(h0, .inr (9, [.ref m1, .ref m2, .ref m3, .int (-1), .int 3, .int 255, .int 0, .int 0, .int 0, .int 0, .int 0, .int 65535, .ref m4, .ref m5, .ref m6, .ref m7, .ref m8, .ref m9, .int 0, .ref m10, .ref m11, .ref m12, .ref m13]))] := hD
  exact W.vret hx hb hr (fun t ht hW => ⟨⟨(), rfl, trivial, trivial⟩, hS.F ht⟩) hS.2.2 dX9_clear_5

set_option maxHeartbeats 4000000 in
set_option maxRecDepth 100000 in
theorem k_X9_winding (l : Launch) (D : va_G) (sz : Nat) (h0 m1 m2 m3 m4 m5 m6 m7 m8 m9 m10 m11 m12 m13 : Nat) (u v : Int64) : Met l yX9_winding (wB yX9_winding cX9_winding 9 (some .int)) ({ frames := 0, cells := 0, slots := 0, locals := 0 }) (cP D [(h0, .inr (9, [.ref m1, .ref m2, .ref m3, .int (-1), .int 3, .int 255, .int 0, .int 0, .int 0, .int 0, .int 0, .int 65535, .ref m4, .ref m5, .ref m6, .ref m7, .ref m8, .ref m9, .int 0, .ref m10, .ref m11, .ref m12, .ref m13]))] [] sz [.ref h0, .long u, .long v]) (va_Qi (fun (r : Int32) (_ : Unit) => r = 0) (fun (_ : Unit) (_ : State) => True) (va_A [(h0, .inr (9, [.ref m1, .ref m2, .ref m3, .int (-1), .int 3, .int 255, .int 0, .int 0, .int 0, .int 0, .int 0, .int 65535, .ref m4, .ref m5, .ref m6, .ref m7, .ref m8, .ref m9, .int 0, .ref m10, .ref m11, .ref m12, .ref m13]))] sz)) 0 0 (va_A [(h0, .inr (9, [.ref m1, .ref m2, .ref m3, .int (-1), .int 3, .int 255, .int 0, .int 0, .int 0, .int 0, .int 0, .int 65535, .ref m4, .ref m5, .ref m6, .ref m7, .ref m8, .ref m9, .int 0, .ref m10, .ref m11, .ref m12, .ref m13]))] sz) := by
  refine Met.ofW (cc := cX9_winding) (maxL := 9) (ret := (some .int)) (by decide) rfl ?_
  intro p e s m args below meth c s₁ B hml hv
  obtain ⟨rfl, hsz, hP, hK, hD0, hN⟩ := hv
  have hx := B.exec
  have hb := B.bytes
  have hr := B.returns
  have hts0 := atoms_spec (ws := (wB yX9_winding cX9_winding 9 (some .int))) B.pre
  have hts : ∀ w ∈ bigW, w.before _ s = true := fun w h => hts0 w (List.mem_cons_of_mem _ h)
  have hown : s.vm.findClass RX9 = some m.cls := findClass_of_methodNamed B.named
  have hlocks := B.notSynchronized
  subst hsz
  have hD := hD0.self (sz := s.heap.size)
  generalize hAe : va_A [(h0, .inr (9, [.ref m1, .ref m2, .ref m3, .int (-1), .int 3, .int 255, .int 0, .int 0, .int 0, .int 0, .int 0, .int 65535, .ref m4, .ref m5, .ref m6, .ref m7, .ref m8, .ref m9, .int 0, .ref m10, .ref m11, .ref m12, .ref m13]))] s.heap.size = A at hD ⊢
  have hA : ∀ q : Nat, s.heap.size ≤ q → A q := fun q h => by rw [← hAe]; exact Or.inr h
  have hS : va_S A s.heap s.heap [] := va_S.rf
  have hP : va_P D vwCl [(h0, .inr (9, [.ref m1, .ref m2, .ref m3, .int (-1), .int 3, .int 255, .int 0, .int 0, .int 0, .int 0, .int 0, .int 65535, .ref m4, .ref m5, .ref m6, .ref m7, .ref m8, .ref m9, .int 0, .ref m10, .ref m11, .ref m12, .ref m13]))] s.heap := hP
  have hl := lv_entry ([.ref h0, .long u, .long v]) (n := 9) (Nat.le_of_ble_eq_true rfl)
  rw [lg_entry_eq]
  generalize (lg_sl ([.ref h0, .long u, .long v]) ++ List.replicate (9 - (lg_sl ([.ref h0, .long u, .long v])).length) Slot.unset).toArray = ls at hl ⊢
  have hl : lv_has ls 9 [(0, .ref h0), (1, .long u), (3, .long v)] := hl
  refine lv_iconst (v := 0) hx hb dX9_winding_0 (by decide) ?_
  refine lv_istore (lv' := [(5, .int 0), (0, .ref h0), (1, .long u), (3, .long v)]) hx hb dX9_winding_1 hl (by decide) rfl (fun ls hl => ?_)
  refine lv_iconst (v := 0) hx hb dX9_winding_3 (by decide) ?_
  refine lv_istore (lv' := [(6, .int 0), (5, .int 0), (0, .ref h0), (1, .long u), (3, .long v)]) hx hb dX9_winding_4 hl (by decide) rfl (fun ls hl => ?_)
  refine lv_iconst (v := 0) hx hb dX9_winding_6 (by decide) ?_
  refine lv_istore (lv' := [(7, .int 0), (6, .int 0), (5, .int 0), (0, .ref h0), (1, .long u), (3, .long v)]) hx hb dX9_winding_7 hl (by decide) rfl (fun ls hl => ?_)
  refine lv_iload hx hb dX9_winding_9 (lv_at hl 0 rfl) ?_
  refine lv_aload_n hx hb dX9_winding_11 rfl (lv_at hl 3 rfl) ?_
  refine va_get (D := D) (ci := 9) (v := .int 0) (C := RX9) (T := TX9) (N := 23) hx hb hts hi_X9 hown hK hP 0 rfl rfl 18 (by decide) (hts _ bw_187) (fun _ h9 => h9) rfl dX9_winding_12 ?_
  refine lv_icmp_ge (tgt := 114) hx hb dX9_winding_15 (by decide) (fun c_1 => ?_) (fun c_1 => ?_)
  · skip
    refine lv_iload hx hb dX9_winding_114 (lv_at hl 2 rfl) ?_
    exact W.iret (v := 0) hx hb hr (fun t ht hW => ⟨⟨0, (), rfl, rfl, trivial⟩, hS.F ht⟩) hS.2.2 dX9_winding_116
  · skip
    exact absurd c_1 (by decide)

set_option maxHeartbeats 4000000 in
set_option maxRecDepth 100000 in
theorem k_X9_isInside (l : Launch) (D : va_G) (sz : Nat) (h0 m1 m2 m3 m4 m5 m6 m7 m8 m9 m10 m11 m12 m13 : Nat) (u v : Int64) (n : Int32) : Met l yX9_isInside (wB yX9_isInside cX9_isInside 7 (some .boolean)) ({ frames := 1, cells := 0, slots := 0, locals := 28 }) (cP D [(h0, .inr (9, [.ref m1, .ref m2, .ref m3, .int (-1), .int 3, .int 255, .int 0, .int 0, .int 0, .int 0, .int 0, .int 65535, .ref m4, .ref m5, .ref m6, .ref m7, .ref m8, .ref m9, .int 0, .ref m10, .ref m11, .ref m12, .ref m13]))] [] sz [.ref h0, .long u, .long v, .int n]) (va_Qi (fun (r : Int32) (_ : Unit) => r = 0) (fun (_ : Unit) (_ : State) => True) (va_A [(h0, .inr (9, [.ref m1, .ref m2, .ref m3, .int (-1), .int 3, .int 255, .int 0, .int 0, .int 0, .int 0, .int 0, .int 65535, .ref m4, .ref m5, .ref m6, .ref m7, .ref m8, .ref m9, .int 0, .ref m10, .ref m11, .ref m12, .ref m13]))] sz)) 0 0 (va_A [(h0, .inr (9, [.ref m1, .ref m2, .ref m3, .int (-1), .int 3, .int 255, .int 0, .int 0, .int 0, .int 0, .int 0, .int 65535, .ref m4, .ref m5, .ref m6, .ref m7, .ref m8, .ref m9, .int 0, .ref m10, .ref m11, .ref m12, .ref m13]))] sz) := by
  refine Met.ofW (cc := cX9_isInside) (maxL := 7) (ret := (some .boolean)) (by decide) rfl ?_
  intro p e s m args below meth c s₁ B hml hv
  obtain ⟨rfl, hsz, hP, hK, hD0, hN⟩ := hv
  have hx := B.exec
  have hb := B.bytes
  have hr := B.returns
  have hts0 := atoms_spec (ws := (wB yX9_isInside cX9_isInside 7 (some .boolean))) B.pre
  have hts : ∀ w ∈ bigW, w.before _ s = true := fun w h => hts0 w (List.mem_cons_of_mem _ h)
  have hown : s.vm.findClass RX9 = some m.cls := findClass_of_methodNamed B.named
  have hlocks := B.notSynchronized
  subst hsz
  have hD := hD0.self (sz := s.heap.size)
  generalize hAe : va_A [(h0, .inr (9, [.ref m1, .ref m2, .ref m3, .int (-1), .int 3, .int 255, .int 0, .int 0, .int 0, .int 0, .int 0, .int 65535, .ref m4, .ref m5, .ref m6, .ref m7, .ref m8, .ref m9, .int 0, .ref m10, .ref m11, .ref m12, .ref m13]))] s.heap.size = A at hD ⊢
  have hA : ∀ q : Nat, s.heap.size ≤ q → A q := fun q h => by rw [← hAe]; exact Or.inr h
  have hS : va_S A s.heap s.heap [] := va_S.rf
  have hP : va_P D vwCl [(h0, .inr (9, [.ref m1, .ref m2, .ref m3, .int (-1), .int 3, .int 255, .int 0, .int 0, .int 0, .int 0, .int 0, .int 65535, .ref m4, .ref m5, .ref m6, .ref m7, .ref m8, .ref m9, .int 0, .ref m10, .ref m11, .ref m12, .ref m13]))] s.heap := hP
  have hl := lv_entry ([.ref h0, .long u, .long v, .int n]) (n := 7) (Nat.le_of_ble_eq_true rfl)
  rw [lg_entry_eq]
  generalize (lg_sl ([.ref h0, .long u, .long v, .int n]) ++ List.replicate (7 - (lg_sl ([.ref h0, .long u, .long v, .int n])).length) Slot.unset).toArray = ls at hl ⊢
  have hl : lv_has ls 7 [(0, .ref h0), (1, .long u), (3, .long v), (5, .int n)] := hl
  refine lv_aload_n hx hb dX9_isInside_0 rfl (lv_at hl 0 rfl) ?_
  refine lv_lload_n hx hb dX9_isInside_1 rfl (lv_at hl 1 rfl) ?_
  refine lv_lload_n hx hb dX9_isInside_2 rfl (lv_at hl 2 rfl) ?_
  have hPc := hP.sub (ws' := [(h0, .inr (9, [.ref m1, .ref m2, .ref m3, .int (-1), .int 3, .int 255, .int 0, .int 0, .int 0, .int 0, .int 0, .int 65535, .ref m4, .ref m5, .ref m6, .ref m7, .ref m8, .ref m9, .int 0, .ref m10, .ref m11, .ref m12, .ref m13]))]) [0] rfl
  have hDc := hD.sub (ws' := [(h0, .inr (9, [.ref m1, .ref m2, .ref m3, .int (-1), .int 3, .int 255, .int 0, .int 0, .int 0, .int 0, .int 0, .int 65535, .ref m4, .ref m5, .ref m6, .ref m7, .ref m8, .ref m9, .int 0, .ref m10, .ref m11, .ref m12, .ref m13]))]) [0] (by decide) rfl
  have hKc := hK.sub (tys' := []) [] rfl
  have hFc := va_free (wc := [(h0, .inr (9, [.ref m1, .ref m2, .ref m3, .int (-1), .int 3, .int 255, .int 0, .int 0, .int 0, .int 0, .int 0, .int 65535, .ref m4, .ref m5, .ref m6, .ref m7, .ref m8, .ref m9, .int 0, .ref m10, .ref m11, .ref m12, .ref m13]))]) hD hS hA [0] rfl
  refine va_calli (va_runV (As := [.long u, .long v]) (rest := []) ⟨hx, hb, hml, hown, hts⟩ (k_X9_winding l D s.heap.size h0 m1 m2 m3 m4 m5 m6 m7 m8 m9 m10 m11 m12 m13 u v) (cwV 2 hts (gV bw_192 bw_193 bw_194 bw_11 bw_191) rfl rfl rfl (by decide +kernel) ⟨Nat.le_of_ble_eq_true rfl, Nat.le_of_ble_eq_true rfl⟩) ⟨cP_blind, va_recv hKc hPc (ci := 9) (q0 := 0) rfl rfl, cP_at hPc hKc hDc hN⟩ rfl rfl hl.1 rfl (lv_room (Nat.le_of_ble_eq_true rfl)) dX9_isInside_3 ⟨Nat.le_of_ble_eq_true rfl, Nat.le_of_ble_eq_true rfl⟩) hS (fun q _ h => hFc q h) hFc (fun r_1 u9 t9 H1 locs ht hvm hr_1 hB hz1 hk1 hS => ?_)
  try dsimp only at hr_1
  have hP1 : va_P D vwCl [] H1 := vP_nil
  have hD1 : va_D (va_A [(h0, .inr (9, [.ref m1, .ref m2, .ref m3, .int (-1), .int 3, .int 255, .int 0, .int 0, .int 0, .int 0, .int 0, .int 65535, .ref m4, .ref m5, .ref m6, .ref m7, .ref m8, .ref m9, .int 0, .ref m10, .ref m11, .ref m12, .ref m13]))] s.heap.size) [] := vD_nil
  obtain ⟨hP, hD⟩ := va_join (wr := []) (w1 := []) hP hD [0] [] rfl rfl (by decide) (by decide) hk1 hFc hP1 hD1
  clear hz1 hk1 hFc hKc hDc hPc
  generalize H1 = H at hP hS ⊢
  have hP : va_P D vwCl [] H := hP
  have hD : va_D A [] := hD
  subst hr_1
  refine lv_istore (lv' := [(6, .int 0), (0, .ref h0), (1, .long u), (3, .long v), (5, .int n)]) hx hb dX9_isInside_6 hl (by decide) rfl (fun ls hl => ?_)
  refine lv_iload hx hb dX9_isInside_8 (lv_at hl 4 rfl) ?_
  refine lv_if_ne (tgt := 29) hx hb dX9_isInside_10 (by decide) (fun c_2 => ?_) (fun c_2 => ?_)
  · skip
    have f_3 : ¬ (n.toInt = 0) := fn_eq rfl (by decide) c_2
    refine lv_iload hx hb dX9_isInside_29 (lv_at hl 0 rfl) ?_
    refine lv_if_eq (tgt := 38) hx hb dX9_isInside_31 (by decide) (fun c_4 => ?_) (fun c_4 => ?_)
    · skip
      refine lv_iconst (v := 0) hx hb dX9_isInside_38 (by decide) ?_
      exact W.zret (v := 0) hx hb hr rfl (fun t ht hW => ⟨⟨0, (), rfl, rfl, trivial⟩, hS.F ht⟩) hS.2.2 dX9_isInside_39
    · skip
      exact absurd c_4 (by decide)
  · skip
    have f_3 : n.toInt = 0 := f_eq rfl (by decide) c_2
    refine lv_iload hx hb dX9_isInside_13 (lv_at hl 0 rfl) ?_
    refine lv_iconst (v := 1) hx hb dX9_isInside_15 (by decide) ?_
    refine lv_iand hx hb dX9_isInside_16 ?_
    refine my_fold (v := 0) (by decide) ?_
    refine lv_iconst (v := 1) hx hb dX9_isInside_17 (by decide) ?_
    refine lv_icmp_ne (tgt := 25) hx hb dX9_isInside_18 (by decide) (fun c_6 => ?_) (fun c_6 => ?_)
    · skip
      refine lv_iconst (v := 0) hx hb dX9_isInside_25 (by decide) ?_
      refine lv_goto (tgt := 39) hx hb dX9_isInside_26 (by decide) ?_
      exact W.zret (v := 0) hx hb hr rfl (fun t ht hW => ⟨⟨0, (), rfl, rfl, trivial⟩, hS.F ht⟩) hS.2.2 dX9_isInside_39
    · skip
      exact absurd c_6 (by decide)

set_option maxHeartbeats 4000000 in
set_option maxRecDepth 100000 in
theorem k_X9_inside (l : Launch) (D : va_G) (sz : Nat) (h0 m1 m2 m3 m4 m5 m6 m7 m8 m9 m10 m11 m12 m13 : Nat) (u v n : Int32) : Met l yX9_inside (wB yX9_inside cX9_inside 4 (some .int)) ({ frames := 2, cells := 0, slots := 0, locals := 54 }) (cP D [(h0, .inr (9, [.ref m1, .ref m2, .ref m3, .int (-1), .int 3, .int 255, .int 0, .int 0, .int 0, .int 0, .int 0, .int 65535, .ref m4, .ref m5, .ref m6, .ref m7, .ref m8, .ref m9, .int 0, .ref m10, .ref m11, .ref m12, .ref m13]))] [] sz [.ref h0, .int u, .int v, .int n]) (va_Qi (fun (r : Int32) (_ : Unit) => r = if n.toInt = 0 ∨ n.toInt = 1 then 0 else -1) (fun (_ : Unit) (_ : State) => True) (va_A [(h0, .inr (9, [.ref m1, .ref m2, .ref m3, .int (-1), .int 3, .int 255, .int 0, .int 0, .int 0, .int 0, .int 0, .int 65535, .ref m4, .ref m5, .ref m6, .ref m7, .ref m8, .ref m9, .int 0, .ref m10, .ref m11, .ref m12, .ref m13]))] sz)) 0 0 (va_A [(h0, .inr (9, [.ref m1, .ref m2, .ref m3, .int (-1), .int 3, .int 255, .int 0, .int 0, .int 0, .int 0, .int 0, .int 65535, .ref m4, .ref m5, .ref m6, .ref m7, .ref m8, .ref m9, .int 0, .ref m10, .ref m11, .ref m12, .ref m13]))] sz) := by
  refine Met.ofW (cc := cX9_inside) (maxL := 4) (ret := (some .int)) (by decide) rfl ?_
  intro p e s m args below meth c s₁ B hml hv
  obtain ⟨rfl, hsz, hP, hK, hD0, hN⟩ := hv
  have hx := B.exec
  have hb := B.bytes
  have hr := B.returns
  have hts0 := atoms_spec (ws := (wB yX9_inside cX9_inside 4 (some .int))) B.pre
  have hts : ∀ w ∈ bigW, w.before _ s = true := fun w h => hts0 w (List.mem_cons_of_mem _ h)
  have hown : s.vm.findClass RX9 = some m.cls := findClass_of_methodNamed B.named
  have hlocks := B.notSynchronized
  subst hsz
  have hD := hD0.self (sz := s.heap.size)
  generalize hAe : va_A [(h0, .inr (9, [.ref m1, .ref m2, .ref m3, .int (-1), .int 3, .int 255, .int 0, .int 0, .int 0, .int 0, .int 0, .int 65535, .ref m4, .ref m5, .ref m6, .ref m7, .ref m8, .ref m9, .int 0, .ref m10, .ref m11, .ref m12, .ref m13]))] s.heap.size = A at hD ⊢
  have hA : ∀ q : Nat, s.heap.size ≤ q → A q := fun q h => by rw [← hAe]; exact Or.inr h
  have hS : va_S A s.heap s.heap [] := va_S.rf
  have hP : va_P D vwCl [(h0, .inr (9, [.ref m1, .ref m2, .ref m3, .int (-1), .int 3, .int 255, .int 0, .int 0, .int 0, .int 0, .int 0, .int 65535, .ref m4, .ref m5, .ref m6, .ref m7, .ref m8, .ref m9, .int 0, .ref m10, .ref m11, .ref m12, .ref m13]))] s.heap := hP
  have hl := lv_entry ([.ref h0, .int u, .int v, .int n]) (n := 4) (Nat.le_of_ble_eq_true rfl)
  rw [lg_entry_eq]
  generalize (lg_sl ([.ref h0, .int u, .int v, .int n]) ++ List.replicate (4 - (lg_sl ([.ref h0, .int u, .int v, .int n])).length) Slot.unset).toArray = ls at hl ⊢
  have hl : lv_has ls 4 [(0, .ref h0), (1, .int u), (2, .int v), (3, .int n)] := hl
  refine lv_iload_n hx hb dX9_inside_0 rfl (lv_at hl 3 rfl) ?_
  refine lv_if_lt (tgt := 9) hx hb dX9_inside_1 (by decide) (fun c_1 => ?_) (fun c_1 => ?_)
  · skip
    have f_2 : n.toInt < 0 := f_lt rfl (by decide) c_1
    refine lv_iconst (v := (-1)) hx hb dX9_inside_9 (by decide) ?_
    exact W.iret (v := (-1)) hx hb hr (fun t ht hW => ⟨⟨(-1), (), rfl, (if_neg (by omega)).symm, trivial⟩, hS.F ht⟩) hS.2.2 dX9_inside_10
  · skip
    have f_2 : ¬ (n.toInt < 0) := fn_lt rfl (by decide) c_1
    refine lv_iload_n hx hb dX9_inside_4 rfl (lv_at hl 3 rfl) ?_
    refine lv_iconst (v := 1) hx hb dX9_inside_5 (by decide) ?_
    refine lv_icmp_le (tgt := 11) hx hb dX9_inside_6 (by decide) (fun c_3 => ?_) (fun c_3 => ?_)
    · skip
      have f_4 : n.toInt ≤ 1 := f_le rfl (by decide) c_3
      refine lv_aload_n hx hb dX9_inside_11 rfl (lv_at hl 0 rfl) ?_
      refine lv_iload_n hx hb dX9_inside_12 rfl (lv_at hl 1 rfl) ?_
      obtain ⟨y_5, ey_5⟩ : ∃ y : Int64, y = u.toInt64 := ⟨_, rfl⟩
      refine lv_i2l (v := y_5) hx hb dX9_inside_13 ey_5.symm ?_
      refine lv_iload_n hx hb dX9_inside_14 rfl (lv_at hl 2 rfl) ?_
      obtain ⟨y_6, ey_6⟩ : ∃ y : Int64, y = v.toInt64 := ⟨_, rfl⟩
      refine lv_i2l (v := y_6) hx hb dX9_inside_15 ey_6.symm ?_
      refine lv_iload_n hx hb dX9_inside_16 rfl (lv_at hl 3 rfl) ?_
      have hPc := hP.sub (ws' := [(h0, .inr (9, [.ref m1, .ref m2, .ref m3, .int (-1), .int 3, .int 255, .int 0, .int 0, .int 0, .int 0, .int 0, .int 65535, .ref m4, .ref m5, .ref m6, .ref m7, .ref m8, .ref m9, .int 0, .ref m10, .ref m11, .ref m12, .ref m13]))]) [0] rfl
      have hDc := hD.sub (ws' := [(h0, .inr (9, [.ref m1, .ref m2, .ref m3, .int (-1), .int 3, .int 255, .int 0, .int 0, .int 0, .int 0, .int 0, .int 65535, .ref m4, .ref m5, .ref m6, .ref m7, .ref m8, .ref m9, .int 0, .ref m10, .ref m11, .ref m12, .ref m13]))]) [0] (by decide) rfl
      have hKc := hK.sub (tys' := []) [] rfl
      have hFc := va_free (wc := [(h0, .inr (9, [.ref m1, .ref m2, .ref m3, .int (-1), .int 3, .int 255, .int 0, .int 0, .int 0, .int 0, .int 0, .int 65535, .ref m4, .ref m5, .ref m6, .ref m7, .ref m8, .ref m9, .int 0, .ref m10, .ref m11, .ref m12, .ref m13]))]) hD hS hA [0] rfl
      refine va_calli (va_runV (As := [.long y_5, .long y_6, .int n]) (rest := []) ⟨hx, hb, hml, hown, hts⟩ (k_X9_isInside l D s.heap.size h0 m1 m2 m3 m4 m5 m6 m7 m8 m9 m10 m11 m12 m13 y_5 y_6 n) (cwV 3 hts (gV bw_196 bw_197 bw_198 bw_11 bw_195) rfl rfl rfl (by decide +kernel) ⟨Nat.le_of_ble_eq_true rfl, Nat.le_of_ble_eq_true rfl⟩) ⟨cP_blind, va_recv hKc hPc (ci := 9) (q0 := 0) rfl rfl, cP_at hPc hKc hDc hN⟩ rfl rfl hl.1 rfl (lv_room (Nat.le_of_ble_eq_true rfl)) dX9_inside_17 ⟨Nat.le_of_ble_eq_true rfl, Nat.le_of_ble_eq_true rfl⟩) hS (fun q _ h => hFc q h) hFc (fun r_7 u9 t9 H1 locs ht hvm hr_7 hB hz1 hk1 hS => ?_)
      try dsimp only at hr_7
      have hP1 : va_P D vwCl [] H1 := vP_nil
      have hD1 : va_D (va_A [(h0, .inr (9, [.ref m1, .ref m2, .ref m3, .int (-1), .int 3, .int 255, .int 0, .int 0, .int 0, .int 0, .int 0, .int 65535, .ref m4, .ref m5, .ref m6, .ref m7, .ref m8, .ref m9, .int 0, .ref m10, .ref m11, .ref m12, .ref m13]))] s.heap.size) [] := vD_nil
      obtain ⟨hP, hD⟩ := va_join (wr := []) (w1 := []) hP hD [0] [] rfl rfl (by decide) (by decide) hk1 hFc hP1 hD1
      clear hz1 hk1 hFc hKc hDc hPc
      generalize H1 = H at hP hS ⊢
      have hP : va_P D vwCl [] H := hP
      have hD : va_D A [] := hD
      subst hr_7
      refine lv_if_eq (tgt := 27) hx hb dX9_inside_20 (by decide) (fun c_8 => ?_) (fun c_8 => ?_)
      · skip
        refine lv_iconst (v := 0) hx hb dX9_inside_27 (by decide) ?_
        exact W.iret (v := 0) hx hb hr (fun t ht hW => ⟨⟨0, (), rfl, (if_pos (by omega)).symm, trivial⟩, hS.F ht⟩) hS.2.2 dX9_inside_28
      · skip
        exact absurd c_8 (by decide)
    · skip
      have f_4 : ¬ (n.toInt ≤ 1) := fn_le rfl (by decide) c_3
      refine lv_iconst (v := (-1)) hx hb dX9_inside_9 (by decide) ?_
      exact W.iret (v := (-1)) hx hb hr (fun t ht hW => ⟨⟨(-1), (), rfl, (if_neg (by omega)).symm, trivial⟩, hS.F ht⟩) hS.2.2 dX9_inside_10

set_option maxHeartbeats 4000000 in
set_option maxRecDepth 100000 in
theorem k_X9_corner (l : Launch) (D : va_G) (sz : Nat) (h0 m1 m2 m3 m4 m5 m6 m7 m8 m9 m10 m11 m12 m13 : Nat) (c10 c11 c12 : ClassId) (i x y n : Int32) : Met l yX9_corner (wB yX9_corner cX9_corner 5 (some .boolean)) ({ frames := 2, cells := 0, slots := 0, locals := 44 }) (cP D [(h0, .inr (9, [.ref m1, .ref m2, .ref m3, .int (-1), .int 3, .int 255, .int 0, .int 0, .int 0, .int 0, .int 0, .int 65535, .ref m4, .ref m5, .ref m6, .ref m7, .ref m8, .ref m9, .int 0, .ref m10, .ref m11, .ref m12, .ref m13])), (m10, .inl (c10, 3, .inl (fun _ => 0))), (m11, .inl (c11, 3, .inl (fun _ => 0))), (m12, .inl (c12, 3, .inl (fun _ => 0)))] [(c10, .int), (c11, .int), (c12, .int)] sz [.ref h0, .int i, .int x, .int y, .int n]) (va_Qi (fun (r : Int32) (_ : Unit) => r = if 0 ≤ i.toInt ∧ i.toInt ≤ 2 ∧ -200 ≤ x.toInt ∧ x.toInt ≤ 200 ∧ -200 ≤ y.toInt ∧ y.toInt ≤ 200 then 1 else 0) (fun (_ : Unit) (_ : State) => True) (va_A [(h0, .inr (9, [.ref m1, .ref m2, .ref m3, .int (-1), .int 3, .int 255, .int 0, .int 0, .int 0, .int 0, .int 0, .int 65535, .ref m4, .ref m5, .ref m6, .ref m7, .ref m8, .ref m9, .int 0, .ref m10, .ref m11, .ref m12, .ref m13])), (m10, .inl (c10, 3, .inl (fun _ => 0))), (m11, .inl (c11, 3, .inl (fun _ => 0))), (m12, .inl (c12, 3, .inl (fun _ => 0)))] sz)) 0 0 (va_A [(h0, .inr (9, [.ref m1, .ref m2, .ref m3, .int (-1), .int 3, .int 255, .int 0, .int 0, .int 0, .int 0, .int 0, .int 65535, .ref m4, .ref m5, .ref m6, .ref m7, .ref m8, .ref m9, .int 0, .ref m10, .ref m11, .ref m12, .ref m13])), (m10, .inl (c10, 3, .inl (fun _ => 0))), (m11, .inl (c11, 3, .inl (fun _ => 0))), (m12, .inl (c12, 3, .inl (fun _ => 0)))] sz) := by
  refine Met.ofW (cc := cX9_corner) (maxL := 5) (ret := (some .boolean)) (by decide) rfl ?_
  intro p e s m args below meth c s₁ B hml hv
  obtain ⟨rfl, hsz, hP, hK, hD0, hN⟩ := hv
  have hx := B.exec
  have hb := B.bytes
  have hr := B.returns
  have hts0 := atoms_spec (ws := (wB yX9_corner cX9_corner 5 (some .boolean))) B.pre
  have hts : ∀ w ∈ bigW, w.before _ s = true := fun w h => hts0 w (List.mem_cons_of_mem _ h)
  have hown : s.vm.findClass RX9 = some m.cls := findClass_of_methodNamed B.named
  have hlocks := B.notSynchronized
  subst hsz
  have hD := hD0.self (sz := s.heap.size)
  generalize hAe : va_A [(h0, .inr (9, [.ref m1, .ref m2, .ref m3, .int (-1), .int 3, .int 255, .int 0, .int 0, .int 0, .int 0, .int 0, .int 65535, .ref m4, .ref m5, .ref m6, .ref m7, .ref m8, .ref m9, .int 0, .ref m10, .ref m11, .ref m12, .ref m13])), (m10, .inl (c10, 3, .inl (fun _ => 0))), (m11, .inl (c11, 3, .inl (fun _ => 0))), (m12, .inl (c12, 3, .inl (fun _ => 0)))] s.heap.size = A at hD ⊢
  have hA : ∀ q : Nat, s.heap.size ≤ q → A q := fun q h => by rw [← hAe]; exact Or.inr h
  have hS : va_S A s.heap s.heap [] := va_S.rf
  have hP : va_P D vwCl [(h0, .inr (9, [.ref m1, .ref m2, .ref m3, .int (-1), .int 3, .int 255, .int 0, .int 0, .int 0, .int 0, .int 0, .int 65535, .ref m4, .ref m5, .ref m6, .ref m7, .ref m8, .ref m9, .int 0, .ref m10, .ref m11, .ref m12, .ref m13])), (m10, .inl (c10, 3, .inl (fun _ => 0))), (m11, .inl (c11, 3, .inl (fun _ => 0))), (m12, .inl (c12, 3, .inl (fun _ => 0)))] s.heap := hP
  have hl := lv_entry ([.ref h0, .int i, .int x, .int y, .int n]) (n := 5) (Nat.le_of_ble_eq_true rfl)
  rw [lg_entry_eq]
  generalize (lg_sl ([.ref h0, .int i, .int x, .int y, .int n]) ++ List.replicate (5 - (lg_sl ([.ref h0, .int i, .int x, .int y, .int n])).length) Slot.unset).toArray = ls at hl ⊢
  have hl : lv_has ls 5 [(0, .ref h0), (1, .int i), (2, .int x), (3, .int y), (4, .int n)] := hl
  refine lv_iload_n hx hb dX9_corner_0 rfl (lv_at hl 1 rfl) ?_
  refine lv_if_lt (tgt := 29) hx hb dX9_corner_1 (by decide) (fun c_1 => ?_) (fun c_1 => ?_)
  · skip
    have f_2 : i.toInt < 0 := f_lt rfl (by decide) c_1
    refine lv_iconst (v := 0) hx hb dX9_corner_29 (by decide) ?_
    exact W.zret (v := 0) hx hb hr rfl (fun t ht hW => ⟨⟨0, (), rfl, (if_neg (by omega)).symm, trivial⟩, hS.F ht⟩) hS.2.2 dX9_corner_30
  · skip
    have f_2 : ¬ (i.toInt < 0) := fn_lt rfl (by decide) c_1
    refine lv_iload_n hx hb dX9_corner_4 rfl (lv_at hl 1 rfl) ?_
    refine lv_iconst (v := 2) hx hb dX9_corner_5 (by decide) ?_
    refine lv_icmp_gt (tgt := 29) hx hb dX9_corner_6 (by decide) (fun c_3 => ?_) (fun c_3 => ?_)
    · skip
      have f_4 : 2 < i.toInt := f_lt (by decide) rfl c_3
      refine lv_iconst (v := 0) hx hb dX9_corner_29 (by decide) ?_
      exact W.zret (v := 0) hx hb hr rfl (fun t ht hW => ⟨⟨0, (), rfl, (if_neg (by omega)).symm, trivial⟩, hS.F ht⟩) hS.2.2 dX9_corner_30
    · skip
      have f_4 : ¬ (2 < i.toInt) := fn_lt (by decide) rfl c_3
      refine lv_iload_n hx hb dX9_corner_9 rfl (lv_at hl 2 rfl) ?_
      refine lv_sipush (v := 200) hx hb dX9_corner_10 (by decide) ?_
      have hPc := hP.sub (ws' := []) [] rfl
      have hDc := hD.sub (ws' := []) [] (by decide) rfl
      have hKc := hK.sub (tys' := []) [] rfl
      have hFc := va_free (wc := []) hD hS hA [] rfl
      refine va_calli (va_runS (As := [.int x, .int 200]) (rest := []) ⟨hx, hb, hml, hown, hts⟩ (k_X9_isNear l D s.heap.size x 200 (-200) 200 (by decide) (by decide)) (va_cwS 2 hts (gS bw_189 bw_190 bw_11 bw_188) rfl rfl rfl (by decide +kernel) ⟨Nat.le_of_ble_eq_true rfl, Nat.le_of_ble_eq_true rfl⟩) ⟨cP_blind, cP_at hPc hKc hDc hN⟩ rfl rfl hl.1 rfl (lv_room (Nat.le_of_ble_eq_true rfl)) dX9_corner_13 ⟨Nat.le_of_ble_eq_true rfl, Nat.le_of_ble_eq_true rfl⟩) hS (fun q _ h => hFc q h) hFc (fun r_5 u9 t9 H1 locs ht hvm hr_5 hB hz1 hk1 hS => ?_)
      try dsimp only at hr_5
      have hP1 : va_P D vwCl [] H1 := vP_nil
      have hD1 : va_D (va_A [] s.heap.size) [] := vD_nil
      obtain ⟨hP, hD⟩ := va_join (wr := [(h0, .inr (9, [.ref m1, .ref m2, .ref m3, .int (-1), .int 3, .int 255, .int 0, .int 0, .int 0, .int 0, .int 0, .int 65535, .ref m4, .ref m5, .ref m6, .ref m7, .ref m8, .ref m9, .int 0, .ref m10, .ref m11, .ref m12, .ref m13])), (m10, .inl (c10, 3, .inl (fun _ => 0))), (m11, .inl (c11, 3, .inl (fun _ => 0))), (m12, .inl (c12, 3, .inl (fun _ => 0)))]) (w1 := []) hP hD [] [0, 1, 2, 3] rfl rfl (by decide) (by decide) hk1 hFc hP1 hD1
      clear hz1 hk1 hFc hKc hDc hPc
      generalize H1 = H at hP hS ⊢
      have hP : va_P D vwCl [(h0, .inr (9, [.ref m1, .ref m2, .ref m3, .int (-1), .int 3, .int 255, .int 0, .int 0, .int 0, .int 0, .int 0, .int 65535, .ref m4, .ref m5, .ref m6, .ref m7, .ref m8, .ref m9, .int 0, .ref m10, .ref m11, .ref m12, .ref m13])), (m10, .inl (c10, 3, .inl (fun _ => 0))), (m11, .inl (c11, 3, .inl (fun _ => 0))), (m12, .inl (c12, 3, .inl (fun _ => 0)))] H := hP
      have hD : va_D A [(h0, .inr (9, [.ref m1, .ref m2, .ref m3, .int (-1), .int 3, .int 255, .int 0, .int 0, .int 0, .int 0, .int 0, .int 65535, .ref m4, .ref m5, .ref m6, .ref m7, .ref m8, .ref m9, .int 0, .ref m10, .ref m11, .ref m12, .ref m13])), (m10, .inl (c10, 3, .inl (fun _ => 0))), (m11, .inl (c11, 3, .inl (fun _ => 0))), (m12, .inl (c12, 3, .inl (fun _ => 0)))] := hD
      refine lv_if_eq (tgt := 29) hx hb dX9_corner_16 (by decide) (fun c_6 => ?_) (fun c_6 => ?_)
      · skip
        have f_7 := bz0 hr_5 c_6
        refine lv_iconst (v := 0) hx hb dX9_corner_29 (by decide) ?_
        exact W.zret (v := 0) hx hb hr rfl (fun t ht hW => ⟨⟨0, (), rfl, (if_neg (by omega)).symm, trivial⟩, hS.F ht⟩) hS.2.2 dX9_corner_30
      · skip
        have f_7 := bz1 hr_5 c_6
        refine lv_iload_n hx hb dX9_corner_19 rfl (lv_at hl 3 rfl) ?_
        refine lv_sipush (v := 200) hx hb dX9_corner_20 (by decide) ?_
        have hPc := hP.sub (ws' := []) [] rfl
        have hDc := hD.sub (ws' := []) [] (by decide) rfl
        have hKc := hK.sub (tys' := []) [] rfl
        have hFc := va_free (wc := []) hD hS hA [] rfl
        refine va_calli (va_runS (As := [.int y, .int 200]) (rest := []) ⟨hx, hb, hml, hown, hts⟩ (k_X9_isNear l D H.size y 200 (-200) 200 (by decide) (by decide)) (va_cwS 2 hts (gS bw_189 bw_190 bw_11 bw_188) rfl rfl rfl (by decide +kernel) ⟨Nat.le_of_ble_eq_true rfl, Nat.le_of_ble_eq_true rfl⟩) ⟨cP_blind, cP_at hPc hKc hDc hN⟩ rfl rfl hl.1 rfl (lv_room (Nat.le_of_ble_eq_true rfl)) dX9_corner_23 ⟨Nat.le_of_ble_eq_true rfl, Nat.le_of_ble_eq_true rfl⟩) hS (fun q _ h => hFc q h) hFc (fun r_8 u9 t9 H1 locs ht hvm hr_8 hB hz1 hk1 hS => ?_)
        try dsimp only at hr_8
        have hP1 : va_P D vwCl [] H1 := vP_nil
        have hD1 : va_D (va_A [] H.size) [] := vD_nil
        obtain ⟨hP, hD⟩ := va_join (wr := [(h0, .inr (9, [.ref m1, .ref m2, .ref m3, .int (-1), .int 3, .int 255, .int 0, .int 0, .int 0, .int 0, .int 0, .int 65535, .ref m4, .ref m5, .ref m6, .ref m7, .ref m8, .ref m9, .int 0, .ref m10, .ref m11, .ref m12, .ref m13])), (m10, .inl (c10, 3, .inl (fun _ => 0))), (m11, .inl (c11, 3, .inl (fun _ => 0))), (m12, .inl (c12, 3, .inl (fun _ => 0)))]) (w1 := []) hP hD [] [0, 1, 2, 3] rfl rfl (by decide) (by decide) hk1 hFc hP1 hD1
        clear hz1 hk1 hFc hKc hDc hPc
        generalize H1 = H at hP hS ⊢
        have hP : va_P D vwCl [(h0, .inr (9, [.ref m1, .ref m2, .ref m3, .int (-1), .int 3, .int 255, .int 0, .int 0, .int 0, .int 0, .int 0, .int 65535, .ref m4, .ref m5, .ref m6, .ref m7, .ref m8, .ref m9, .int 0, .ref m10, .ref m11, .ref m12, .ref m13])), (m10, .inl (c10, 3, .inl (fun _ => 0))), (m11, .inl (c11, 3, .inl (fun _ => 0))), (m12, .inl (c12, 3, .inl (fun _ => 0)))] H := hP
        have hD : va_D A [(h0, .inr (9, [.ref m1, .ref m2, .ref m3, .int (-1), .int 3, .int 255, .int 0, .int 0, .int 0, .int 0, .int 0, .int 65535, .ref m4, .ref m5, .ref m6, .ref m7, .ref m8, .ref m9, .int 0, .ref m10, .ref m11, .ref m12, .ref m13])), (m10, .inl (c10, 3, .inl (fun _ => 0))), (m11, .inl (c11, 3, .inl (fun _ => 0))), (m12, .inl (c12, 3, .inl (fun _ => 0)))] := hD
        refine lv_if_ne (tgt := 31) hx hb dX9_corner_26 (by decide) (fun c_9 => ?_) (fun c_9 => ?_)
        · skip
          have f_10 := bz1 hr_8 c_9
          refine lv_aload_n hx hb dX9_corner_31 rfl (lv_at hl 0 rfl) ?_
          refine va_get (D := D) (ci := 9) (v := .ref m10) (C := RX9) (T := TX9) (N := 23) hx hb hts hi_X9 hown hK hP 0 rfl rfl 19 (by decide) (hts _ bw_110) (fun _ h9 => h9) rfl dX9_corner_32 ?_
          refine lv_iload_n hx hb dX9_corner_35 rfl (lv_at hl 1 rfl) ?_
          refine lv_iload_n hx hb dX9_corner_36 rfl (lv_at hl 2 rfl) ?_
          refine va_iast hx hb hK hP hD hS 1 0 rfl rfl (vp_in_iff.mpr ⟨by omega, by omega⟩) dX9_corner_37 (fun H locs hP hD hS => ?_)
          have hP : va_P D vwCl [(h0, .inr (9, [.ref m1, .ref m2, .ref m3, .int (-1), .int 3, .int 255, .int 0, .int 0, .int 0, .int 0, .int 0, .int 65535, .ref m4, .ref m5, .ref m6, .ref m7, .ref m8, .ref m9, .int 0, .ref m10, .ref m11, .ref m12, .ref m13])), (m10, .inl (c10, 3, .inl (upd (fun _ => 0) i.toNatClampNeg x))), (m11, .inl (c11, 3, .inl (fun _ => 0))), (m12, .inl (c12, 3, .inl (fun _ => 0)))] H := hP
          have hD : va_D A [(h0, .inr (9, [.ref m1, .ref m2, .ref m3, .int (-1), .int 3, .int 255, .int 0, .int 0, .int 0, .int 0, .int 0, .int 65535, .ref m4, .ref m5, .ref m6, .ref m7, .ref m8, .ref m9, .int 0, .ref m10, .ref m11, .ref m12, .ref m13])), (m10, .inl (c10, 3, .inl (upd (fun _ => 0) i.toNatClampNeg x))), (m11, .inl (c11, 3, .inl (fun _ => 0))), (m12, .inl (c12, 3, .inl (fun _ => 0)))] := hD
          generalize upd (fun _ => 0) i.toNatClampNeg x = g_11 at hP hD
          have hP : va_P D vwCl [(h0, .inr (9, [.ref m1, .ref m2, .ref m3, .int (-1), .int 3, .int 255, .int 0, .int 0, .int 0, .int 0, .int 0, .int 65535, .ref m4, .ref m5, .ref m6, .ref m7, .ref m8, .ref m9, .int 0, .ref m10, .ref m11, .ref m12, .ref m13])), (m10, .inl (c10, 3, .inl g_11)), (m11, .inl (c11, 3, .inl (fun _ => 0))), (m12, .inl (c12, 3, .inl (fun _ => 0)))] H := hP
          have hD : va_D A [(h0, .inr (9, [.ref m1, .ref m2, .ref m3, .int (-1), .int 3, .int 255, .int 0, .int 0, .int 0, .int 0, .int 0, .int 65535, .ref m4, .ref m5, .ref m6, .ref m7, .ref m8, .ref m9, .int 0, .ref m10, .ref m11, .ref m12, .ref m13])), (m10, .inl (c10, 3, .inl g_11)), (m11, .inl (c11, 3, .inl (fun _ => 0))), (m12, .inl (c12, 3, .inl (fun _ => 0)))] := hD
          refine lv_aload_n hx hb dX9_corner_38 rfl (lv_at hl 0 rfl) ?_
          refine va_get (D := D) (ci := 9) (v := .ref m11) (C := RX9) (T := TX9) (N := 23) hx hb hts hi_X9 hown hK hP 0 rfl rfl 20 (by decide) (hts _ bw_111) (fun _ h9 => h9) rfl dX9_corner_39 ?_
          refine lv_iload_n hx hb dX9_corner_42 rfl (lv_at hl 1 rfl) ?_
          refine lv_iload_n hx hb dX9_corner_43 rfl (lv_at hl 3 rfl) ?_
          refine va_iast hx hb hK hP hD hS 2 1 rfl rfl (vp_in_iff.mpr ⟨by omega, by omega⟩) dX9_corner_44 (fun H locs hP hD hS => ?_)
          have hP : va_P D vwCl [(h0, .inr (9, [.ref m1, .ref m2, .ref m3, .int (-1), .int 3, .int 255, .int 0, .int 0, .int 0, .int 0, .int 0, .int 65535, .ref m4, .ref m5, .ref m6, .ref m7, .ref m8, .ref m9, .int 0, .ref m10, .ref m11, .ref m12, .ref m13])), (m10, .inl (c10, 3, .inl g_11)), (m11, .inl (c11, 3, .inl (upd (fun _ => 0) i.toNatClampNeg y))), (m12, .inl (c12, 3, .inl (fun _ => 0)))] H := hP
          have hD : va_D A [(h0, .inr (9, [.ref m1, .ref m2, .ref m3, .int (-1), .int 3, .int 255, .int 0, .int 0, .int 0, .int 0, .int 0, .int 65535, .ref m4, .ref m5, .ref m6, .ref m7, .ref m8, .ref m9, .int 0, .ref m10, .ref m11, .ref m12, .ref m13])), (m10, .inl (c10, 3, .inl g_11)), (m11, .inl (c11, 3, .inl (upd (fun _ => 0) i.toNatClampNeg y))), (m12, .inl (c12, 3, .inl (fun _ => 0)))] := hD
          generalize upd (fun _ => 0) i.toNatClampNeg y = g_12 at hP hD
          have hP : va_P D vwCl [(h0, .inr (9, [.ref m1, .ref m2, .ref m3, .int (-1), .int 3, .int 255, .int 0, .int 0, .int 0, .int 0, .int 0, .int 65535, .ref m4, .ref m5, .ref m6, .ref m7, .ref m8, .ref m9, .int 0, .ref m10, .ref m11, .ref m12, .ref m13])), (m10, .inl (c10, 3, .inl g_11)), (m11, .inl (c11, 3, .inl g_12)), (m12, .inl (c12, 3, .inl (fun _ => 0)))] H := hP
          have hD : va_D A [(h0, .inr (9, [.ref m1, .ref m2, .ref m3, .int (-1), .int 3, .int 255, .int 0, .int 0, .int 0, .int 0, .int 0, .int 65535, .ref m4, .ref m5, .ref m6, .ref m7, .ref m8, .ref m9, .int 0, .ref m10, .ref m11, .ref m12, .ref m13])), (m10, .inl (c10, 3, .inl g_11)), (m11, .inl (c11, 3, .inl g_12)), (m12, .inl (c12, 3, .inl (fun _ => 0)))] := hD
          refine lv_aload_n hx hb dX9_corner_45 rfl (lv_at hl 0 rfl) ?_
          refine va_get (D := D) (ci := 9) (v := .ref m12) (C := RX9) (T := TX9) (N := 23) hx hb hts hi_X9 hown hK hP 0 rfl rfl 21 (by decide) (hts _ bw_112) (fun _ h9 => h9) rfl dX9_corner_46 ?_
          refine lv_iload_n hx hb dX9_corner_49 rfl (lv_at hl 1 rfl) ?_
          refine lv_iload hx hb dX9_corner_50 (lv_at hl 4 rfl) ?_
          have hPc := hP.sub (ws' := []) [] rfl
          have hDc := hD.sub (ws' := []) [] (by decide) rfl
          have hKc := hK.sub (tys' := []) [] rfl
          have hFc := va_free (wc := []) hD hS hA [] rfl
          refine va_calli (va_runS (As := [.int n]) (rest := [.int i, .ref m12]) ⟨hx, hb, hml, hown, hts⟩ (k_X9_inkOf l D H.size n) (va_cwS 1 hts (gS bw_176 bw_177 bw_11 bw_175) rfl rfl rfl (by decide +kernel) ⟨Nat.le_of_ble_eq_true rfl, Nat.le_of_ble_eq_true rfl⟩) ⟨cP_blind, cP_at hPc hKc hDc hN⟩ rfl rfl hl.1 rfl (lv_room (Nat.le_of_ble_eq_true rfl)) dX9_corner_52 ⟨Nat.le_of_ble_eq_true rfl, Nat.le_of_ble_eq_true rfl⟩) hS (fun q _ h => hFc q h) hFc (fun r_13 u9 t9 H1 locs ht hvm hr_13 hB hz1 hk1 hS => ?_)
          try dsimp only at hr_13
          have hP1 : va_P D vwCl [] H1 := vP_nil
          have hD1 : va_D (va_A [] H.size) [] := vD_nil
          obtain ⟨hP, hD⟩ := va_join (wr := [(h0, .inr (9, [.ref m1, .ref m2, .ref m3, .int (-1), .int 3, .int 255, .int 0, .int 0, .int 0, .int 0, .int 0, .int 65535, .ref m4, .ref m5, .ref m6, .ref m7, .ref m8, .ref m9, .int 0, .ref m10, .ref m11, .ref m12, .ref m13])), (m10, .inl (c10, 3, .inl g_11)), (m11, .inl (c11, 3, .inl g_12)), (m12, .inl (c12, 3, .inl (fun _ => 0)))]) (w1 := []) hP hD [] [0, 1, 2, 3] rfl rfl (by decide) (by decide) hk1 hFc hP1 hD1
          clear hz1 hk1 hFc hKc hDc hPc
          generalize H1 = H at hP hS ⊢
          have hP : va_P D vwCl [(h0, .inr (9, [.ref m1, .ref m2, .ref m3, .int (-1), .int 3, .int 255, .int 0, .int 0, .int 0, .int 0, .int 0, .int 65535, .ref m4, .ref m5, .ref m6, .ref m7, .ref m8, .ref m9, .int 0, .ref m10, .ref m11, .ref m12, .ref m13])), (m10, .inl (c10, 3, .inl g_11)), (m11, .inl (c11, 3, .inl g_12)), (m12, .inl (c12, 3, .inl (fun _ => 0)))] H := hP
          have hD : va_D A [(h0, .inr (9, [.ref m1, .ref m2, .ref m3, .int (-1), .int 3, .int 255, .int 0, .int 0, .int 0, .int 0, .int 0, .int 65535, .ref m4, .ref m5, .ref m6, .ref m7, .ref m8, .ref m9, .int 0, .ref m10, .ref m11, .ref m12, .ref m13])), (m10, .inl (c10, 3, .inl g_11)), (m11, .inl (c11, 3, .inl g_12)), (m12, .inl (c12, 3, .inl (fun _ => 0)))] := hD
          refine va_iast hx hb hK hP hD hS 3 2 rfl rfl (vp_in_iff.mpr ⟨by omega, by omega⟩) dX9_corner_55 (fun H locs hP hD hS => ?_)
          have hP : va_P D vwCl [(h0, .inr (9, [.ref m1, .ref m2, .ref m3, .int (-1), .int 3, .int 255, .int 0, .int 0, .int 0, .int 0, .int 0, .int 65535, .ref m4, .ref m5, .ref m6, .ref m7, .ref m8, .ref m9, .int 0, .ref m10, .ref m11, .ref m12, .ref m13])), (m10, .inl (c10, 3, .inl g_11)), (m11, .inl (c11, 3, .inl g_12)), (m12, .inl (c12, 3, .inl (upd (fun _ => 0) i.toNatClampNeg r_13)))] H := hP
          have hD : va_D A [(h0, .inr (9, [.ref m1, .ref m2, .ref m3, .int (-1), .int 3, .int 255, .int 0, .int 0, .int 0, .int 0, .int 0, .int 65535, .ref m4, .ref m5, .ref m6, .ref m7, .ref m8, .ref m9, .int 0, .ref m10, .ref m11, .ref m12, .ref m13])), (m10, .inl (c10, 3, .inl g_11)), (m11, .inl (c11, 3, .inl g_12)), (m12, .inl (c12, 3, .inl (upd (fun _ => 0) i.toNatClampNeg r_13)))] := hD
          generalize upd (fun _ => 0) i.toNatClampNeg r_13 = g_14 at hP hD
          have hP : va_P D vwCl [(h0, .inr (9, [.ref m1, .ref m2, .ref m3, .int (-1), .int 3, .int 255, .int 0, .int 0, .int 0, .int 0, .int 0, .int 65535, .ref m4, .ref m5, .ref m6, .ref m7, .ref m8, .ref m9, .int 0, .ref m10, .ref m11, .ref m12, .ref m13])), (m10, .inl (c10, 3, .inl g_11)), (m11, .inl (c11, 3, .inl g_12)), (m12, .inl (c12, 3, .inl g_14))] H := hP
          have hD : va_D A [(h0, .inr (9, [.ref m1, .ref m2, .ref m3, .int (-1), .int 3, .int 255, .int 0, .int 0, .int 0, .int 0, .int 0, .int 65535, .ref m4, .ref m5, .ref m6, .ref m7, .ref m8, .ref m9, .int 0, .ref m10, .ref m11, .ref m12, .ref m13])), (m10, .inl (c10, 3, .inl g_11)), (m11, .inl (c11, 3, .inl g_12)), (m12, .inl (c12, 3, .inl g_14))] := hD
          refine lv_iconst (v := 1) hx hb dX9_corner_56 (by decide) ?_
          exact W.zret (v := 1) hx hb hr rfl (fun t ht hW => ⟨⟨1, (), rfl, (if_pos (by omega)).symm, trivial⟩, hS.F ht⟩) hS.2.2 dX9_corner_57
        · skip
          have f_10 := bz0 hr_8 c_9
          refine lv_iconst (v := 0) hx hb dX9_corner_29 (by decide) ?_
          exact W.zret (v := 0) hx hb hr rfl (fun t ht hW => ⟨⟨0, (), rfl, (if_neg (by omega)).symm, trivial⟩, hS.F ht⟩) hS.2.2 dX9_corner_30
