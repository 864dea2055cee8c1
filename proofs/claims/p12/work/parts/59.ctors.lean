set_option maxHeartbeats 4000000 in
set_option maxRecDepth 100000 in
theorem k_X0_init (l : Launch) (D : va_G) (sz : Nat) (h0 : Nat) : Met l yX0_init (wB yX0_init cX0_init 1 none) ({ frames := 1, cells := 0, slots := 0, locals := 12 }) (cP D [(h0, .inr (0, [.int 0, .int 0, .int 0, .int 0]))] [] sz [.ref h0]) (va_Qv (fun (_ : Unit) => True) (fun (_ : Unit) (t : State) => cB D (va_A [(h0, .inr (0, [.int 0, .int 0, .int 0, .int 0]))] sz) [(h0, .inr (0, [.int 0, .int 0, .int 63, .int 63]))] [] t) (va_A [(h0, .inr (0, [.int 0, .int 0, .int 0, .int 0]))] sz)) 0 0 (va_A [(h0, .inr (0, [.int 0, .int 0, .int 0, .int 0]))] sz) := by
  refine Met.ofW (cc := cX0_init) (maxL := 1) (ret := none) (by decide) rfl ?_
  intro p e s m args below meth c s₁ B hml hv
  obtain ⟨rfl, hsz, hP, hK, hD0, hN⟩ := hv
  have hx := B.exec
  have hb := B.bytes
  have hr := B.returns
  have hts0 := atoms_spec (ws := (wB yX0_init cX0_init 1 none)) B.pre
  have hts : ∀ w ∈ bigW, w.before _ s = true := fun w h => hts0 w (List.mem_cons_of_mem _ h)
  have hown : s.vm.findClass RX0 = some m.cls := findClass_of_methodNamed B.named
  have hlocks := B.notSynchronized
  have hin : meth.name = "<init>" := (name_of_methodNamed B.named B.method).1
  subst hsz
  have hD := hD0.self (sz := s.heap.size)
  generalize hAe : va_A [(h0, .inr (0, [.int 0, .int 0, .int 0, .int 0]))] s.heap.size = A at hD ⊢
  have hA : ∀ q : Nat, s.heap.size ≤ q → A q := fun q h => by rw [← hAe]; exact Or.inr h
  have hS : va_S A s.heap s.heap [] := va_S.rf
  have hP : va_P D vwCl [(h0, .inr (0, [.int 0, .int 0, .int 0, .int 0]))] s.heap := hP
  have hl := lv_entry ([.ref h0]) (n := 1) (Nat.le_of_ble_eq_true rfl)
  rw [lg_entry_eq]
  generalize (lg_sl ([.ref h0]) ++ List.replicate (1 - (lg_sl ([.ref h0])).length) Slot.unset).toArray = ls at hl ⊢
  have hl : lv_has ls 1 [(0, .ref h0)] := hl
  clear hts0 hD0 hAe
  refine my_abs (fun R Q hR hQ => ?_)
  refine lv_aload_n hx hb dX0_init_0 rfl (lv_at hl 0 rfl) ?_
  refine W.objInit hx hb hown (hts _ bw_8) (hts _ bw_0) (hts _ bw_1) rfl (by rw [hml]; exact hl.1) rfl dX0_init_1 (by rw [hR]; exact Nat.le_of_ble_eq_true rfl) (by rw [hR]; exact Nat.le_of_ble_eq_true rfl) ?_
  refine W.eq (g2 := F0 m 4 ls []) rfl ?_
  refine lv_aload_n hx hb dX0_init_4 rfl (lv_at hl 0 rfl) ?_
  refine lv_iconst (v := 0) hx hb dX0_init_5 (by decide) ?_
  refine va_put (D := D) (ci := 0) (v := .int 0) (ty := .int) (C := RX0) (T := TX0) (N := 4) hx hb hts hi_X0 tyX0 tyX0_ok nmX0 hown hK hP hD hS 0 rfl rfl 0 (by decide) (hts _ bw_9) (fun _ h9 => h9) rfl (by decide +kernel) rfl rfl (Nat.le_of_ble_eq_true rfl) dX0_init_6 (fun H locs hP hD hS => ?_)
  have hP : va_P D vwCl [(h0, .inr (0, [.int 0, .int 0, .int 0, .int 0]))] H := hP
  have hD : va_D A [(h0, .inr (0, [.int 0, .int 0, .int 0, .int 0]))] := hD
  refine lv_aload_n hx hb dX0_init_9 rfl (lv_at hl 0 rfl) ?_
  refine lv_iconst (v := 0) hx hb dX0_init_10 (by decide) ?_
  refine va_put (D := D) (ci := 0) (v := .int 0) (ty := .int) (C := RX0) (T := TX0) (N := 4) hx hb hts hi_X0 tyX0 tyX0_ok nmX0 hown hK hP hD hS 0 rfl rfl 1 (by decide) (hts _ bw_10) (fun _ h9 => h9) rfl (by decide +kernel) rfl rfl (Nat.le_of_ble_eq_true rfl) dX0_init_11 (fun H locs hP hD hS => ?_)
  have hP : va_P D vwCl [(h0, .inr (0, [.int 0, .int 0, .int 0, .int 0]))] H := hP
  have hD : va_D A [(h0, .inr (0, [.int 0, .int 0, .int 0, .int 0]))] := hD
  refine lv_aload_n hx hb dX0_init_14 rfl (lv_at hl 0 rfl) ?_
  refine lv_bipush (v := 63) hx hb dX0_init_15 (by decide) ?_
  refine va_put (D := D) (ci := 0) (v := .int 63) (ty := .int) (C := RX0) (T := TX0) (N := 4) hx hb hts hi_X0 tyX0 tyX0_ok nmX0 hown hK hP hD hS 0 rfl rfl 2 (by decide) (hts _ bw_11) (fun _ h9 => h9) rfl (by decide +kernel) rfl rfl (Nat.le_of_ble_eq_true rfl) dX0_init_17 (fun H locs hP hD hS => ?_)
  have hP : va_P D vwCl [(h0, .inr (0, [.int 0, .int 0, .int 63, .int 0]))] H := hP
  have hD : va_D A [(h0, .inr (0, [.int 0, .int 0, .int 63, .int 0]))] := hD
  refine lv_aload_n hx hb dX0_init_20 rfl (lv_at hl 0 rfl) ?_
  refine lv_bipush (v := 63) hx hb dX0_init_21 (by decide) ?_
  refine va_put (D := D) (ci := 0) (v := .int 63) (ty := .int) (C := RX0) (T := TX0) (N := 4) hx hb hts hi_X0 tyX0 tyX0_ok nmX0 hown hK hP hD hS 0 rfl rfl 3 (by decide) (hts _ bw_12) (fun _ h9 => h9) rfl (by decide +kernel) rfl rfl (Nat.le_of_ble_eq_true rfl) dX0_init_23 (fun H locs hP hD hS => ?_)
  have hP : va_P D vwCl [(h0, .inr (0, [.int 0, .int 0, .int 63, .int 63]))] H := hP
  have hD : va_D A [(h0, .inr (0, [.int 0, .int 0, .int 63, .int 63]))] := hD
  have hP9 := hP.sub (ws' := [(h0, .inr (0, [.int 0, .int 0, .int 63, .int 63]))]) [0] rfl
  have hD9 := hD.sub (ws' := [(h0, .inr (0, [.int 0, .int 0, .int 63, .int 63]))]) [0] (by decide) rfl
  have hK9 := hK.sub (tys' := []) [] rfl
  refine hQ _ _ _ _ _ ?_
  exact W.vret hx hb hr (fun t ht hW => ⟨⟨(), rfl, trivial, ⟨by rw [ht]; exact hP9, va_K.moved hW.alike hK9, hD9⟩⟩, hS.F ht⟩) hS.2.2 dX0_init_26

set_option maxHeartbeats 4000000 in
set_option maxRecDepth 100000 in
theorem k_X1_init (l : Launch) (D : va_G) (sz : Nat) (h0 : Nat) : Met l yX1_init (wB yX1_init cX1_init 1 none) ({ frames := 2, cells := 1, slots := 4, locals := 32 }) (cP D [(h0, .inr (1, [.null, .int 0, .int 0, .int 0]))] [] sz [.ref h0]) (va_Qv (fun (_ : Unit) => True) (fun (_ : Unit) (t : State) => ∃ (bx : Nat), cB D (va_A [(h0, .inr (1, [.null, .int 0, .int 0, .int 0]))] sz) [(h0, .inr (1, [.ref bx, .int (-1), .int 3, .int 255])), (bx, .inr (0, [.int 0, .int 0, .int 63, .int 63]))] [] t) (va_A [(h0, .inr (1, [.null, .int 0, .int 0, .int 0]))] sz)) 1 4 (va_A [(h0, .inr (1, [.null, .int 0, .int 0, .int 0]))] sz) := by
  refine Met.ofW (cc := cX1_init) (maxL := 1) (ret := none) (by decide) rfl ?_
  intro p e s m args below meth c s₁ B hml hv
  obtain ⟨rfl, hsz, hP, hK, hD0, hN⟩ := hv
  have hx := B.exec
  have hb := B.bytes
  have hr := B.returns
  have hts0 := atoms_spec (ws := (wB yX1_init cX1_init 1 none)) B.pre
  have hts : ∀ w ∈ bigW, w.before _ s = true := fun w h => hts0 w (List.mem_cons_of_mem _ h)
  have hown : s.vm.findClass RX1 = some m.cls := findClass_of_methodNamed B.named
  have hlocks := B.notSynchronized
  have hin : meth.name = "<init>" := (name_of_methodNamed B.named B.method).1
  subst hsz
  have hD := hD0.self (sz := s.heap.size)
  generalize hAe : va_A [(h0, .inr (1, [.null, .int 0, .int 0, .int 0]))] s.heap.size = A at hD ⊢
  have hA : ∀ q : Nat, s.heap.size ≤ q → A q := fun q h => by rw [← hAe]; exact Or.inr h
  have hS : va_S A s.heap s.heap [] := va_S.rf
  have hP : va_P D vwCl [(h0, .inr (1, [.null, .int 0, .int 0, .int 0]))] s.heap := hP
  have hl := lv_entry ([.ref h0]) (n := 1) (Nat.le_of_ble_eq_true rfl)
  rw [lg_entry_eq]
  generalize (lg_sl ([.ref h0]) ++ List.replicate (1 - (lg_sl ([.ref h0])).length) Slot.unset).toArray = ls at hl ⊢
  have hl : lv_has ls 1 [(0, .ref h0)] := hl
  clear hts0 hD0 hAe
  refine my_abs (fun R Q hR hQ => ?_)
  refine lv_aload_n hx hb dX1_init_0 rfl (lv_at hl 0 rfl) ?_
  refine W.objInit hx hb hown (hts _ bw_23) (hts _ bw_0) (hts _ bw_1) rfl (by rw [hml]; exact hl.1) rfl dX1_init_1 (by rw [hR]; exact Nat.le_of_ble_eq_true rfl) (by rw [hR]; exact Nat.le_of_ble_eq_true rfl) ?_
  refine W.eq (g2 := F0 m 4 ls []) rfl ?_
  refine lv_aload_n hx hb dX1_init_4 rfl (lv_at hl 0 rfl) ?_
  refine va_new (ci := 0) (fs := [.int 0, .int 0, .int 0, .int 0]) (C := RX0) (T := TX0) (N := 4) hx hb hts hi_X0 tyX0 tyX0_ok hown (hts _ bw_24) (hts _ bw_5) (hts _ bw_4) hK hP hD hS hA rfl z_X0 (by rw [hR]; exact Nat.le_of_ble_eq_true rfl) (by rw [hR]; exact Nat.le_of_ble_eq_true rfl) dX1_init_5 (fun q_1 H hP hD hS => ?_)
  have hP : va_P D vwCl [(h0, .inr (1, [.null, .int 0, .int 0, .int 0])), (q_1, .inr (0, [.int 0, .int 0, .int 0, .int 0]))] H := hP
  have hD : va_D A [(h0, .inr (1, [.null, .int 0, .int 0, .int 0])), (q_1, .inr (0, [.int 0, .int 0, .int 0, .int 0]))] := hD
  refine W.widen (k := 1) (n := 4) (by omega) (by omega) ?_
  refine lv_dup hx hb dX1_init_8 rfl ?_
  have hPc := hP.sub (ws' := [(q_1, .inr (0, [.int 0, .int 0, .int 0, .int 0]))]) [1] rfl
  have hDc := hD.sub (ws' := [(q_1, .inr (0, [.int 0, .int 0, .int 0, .int 0]))]) [1] (by decide) rfl
  have hKc := hK.sub (tys' := []) [] rfl
  have hFc := va_free (wc := [(q_1, .inr (0, [.int 0, .int 0, .int 0, .int 0]))]) hD hS hA [1] rfl
  refine va_callv (va_runIN (host := RX8) (As := []) (rest := [.ref q_1, .ref h0]) ⟨hx, hb, hml, hown, hts⟩ (k_X0_init l D H.size q_1) ⟨va_cnB 0 hts (gI bw_6) rfl rfl rfl (hN.2.1 (RX1, 11, yX0_init, RX8) (by decide +kernel)) (hts _ bw_4) (by decide +kernel) ⟨(by rw [hR]; exact Nat.le_of_ble_eq_true rfl), (by rw [hR]; exact Nat.le_of_ble_eq_true rfl)⟩, rfl, (hts _ bw_7)⟩ ⟨cP_blind, cP_at hPc hKc hDc hN⟩ rfl rfl hl.1 rfl (lv_room (Nat.le_of_ble_eq_true rfl)) dX1_init_9 ⟨(by rw [hR]; exact Nat.le_of_ble_eq_true rfl), (by rw [hR]; exact Nat.le_of_ble_eq_true rfl)⟩) hS (fun q _ h => hFc q h) hFc (fun u9 t9 H1 locs ht hvm hr_2 hB hz1 hk1 hS => ?_)
  try dsimp only at hr_2
  obtain ⟨hP1, hK1, hD1⟩ := hB
  rw [ht] at hP1
  obtain ⟨hP, hD⟩ := va_join (wr := [(h0, .inr (1, [.null, .int 0, .int 0, .int 0]))]) (w1 := [(q_1, .inr (0, [.int 0, .int 0, .int 63, .int 63]))]) hP hD [1] [0] rfl rfl (by decide) (by decide) hk1 hFc hP1 hD1
  clear hz1 hk1 hFc hKc hDc hPc
  generalize H1 = H at hP hS ⊢
  have hP : va_P D vwCl [(h0, .inr (1, [.null, .int 0, .int 0, .int 0])), (q_1, .inr (0, [.int 0, .int 0, .int 63, .int 63]))] H := hP
  have hD : va_D A [(h0, .inr (1, [.null, .int 0, .int 0, .int 0])), (q_1, .inr (0, [.int 0, .int 0, .int 63, .int 63]))] := hD
  refine va_putF (D := D) (ci := 1) (v := .ref q_1) (ty := (.object "DotBench$Box")) (C := RX1) (T := TX1) (N := 4) hx hb hts hi_X1 tyX1 tyX1_ok nmX1 hown hK hP hD hS 0 rfl rfl 0 (by decide) (hts _ bw_25) (fun _ h9 => h9) rfl hin rfl (by decide +kernel) rfl rfl (Nat.le_of_ble_eq_true rfl) dX1_init_12 (fun H locs hP hD hS => ?_)
  have hP : va_P D vwCl [(h0, .inr (1, [.ref q_1, .int 0, .int 0, .int 0])), (q_1, .inr (0, [.int 0, .int 0, .int 63, .int 63]))] H := hP
  have hD : va_D A [(h0, .inr (1, [.ref q_1, .int 0, .int 0, .int 0])), (q_1, .inr (0, [.int 0, .int 0, .int 63, .int 63]))] := hD
  refine lv_aload_n hx hb dX1_init_15 rfl (lv_at hl 0 rfl) ?_
  refine lv_iconst (v := (-1)) hx hb dX1_init_16 (by decide) ?_
  refine va_put (D := D) (ci := 1) (v := .int (-1)) (ty := .int) (C := RX1) (T := TX1) (N := 4) hx hb hts hi_X1 tyX1 tyX1_ok nmX1 hown hK hP hD hS 0 rfl rfl 1 (by decide) (hts _ bw_26) (fun _ h9 => h9) rfl (by decide +kernel) rfl rfl (Nat.le_of_ble_eq_true rfl) dX1_init_17 (fun H locs hP hD hS => ?_)
  have hP : va_P D vwCl [(h0, .inr (1, [.ref q_1, .int (-1), .int 0, .int 0])), (q_1, .inr (0, [.int 0, .int 0, .int 63, .int 63]))] H := hP
  have hD : va_D A [(h0, .inr (1, [.ref q_1, .int (-1), .int 0, .int 0])), (q_1, .inr (0, [.int 0, .int 0, .int 63, .int 63]))] := hD
  refine lv_aload_n hx hb dX1_init_20 rfl (lv_at hl 0 rfl) ?_
  refine lv_iconst (v := 3) hx hb dX1_init_21 (by decide) ?_
  refine va_put (D := D) (ci := 1) (v := .int 3) (ty := .int) (C := RX1) (T := TX1) (N := 4) hx hb hts hi_X1 tyX1 tyX1_ok nmX1 hown hK hP hD hS 0 rfl rfl 2 (by decide) (hts _ bw_27) (fun _ h9 => h9) rfl (by decide +kernel) rfl rfl (Nat.le_of_ble_eq_true rfl) dX1_init_22 (fun H locs hP hD hS => ?_)
  have hP : va_P D vwCl [(h0, .inr (1, [.ref q_1, .int (-1), .int 3, .int 0])), (q_1, .inr (0, [.int 0, .int 0, .int 63, .int 63]))] H := hP
  have hD : va_D A [(h0, .inr (1, [.ref q_1, .int (-1), .int 3, .int 0])), (q_1, .inr (0, [.int 0, .int 0, .int 63, .int 63]))] := hD
  refine lv_aload_n hx hb dX1_init_25 rfl (lv_at hl 0 rfl) ?_
  refine lv_sipush (v := 255) hx hb dX1_init_26 (by decide) ?_
  refine va_put (D := D) (ci := 1) (v := .int 255) (ty := .int) (C := RX1) (T := TX1) (N := 4) hx hb hts hi_X1 tyX1 tyX1_ok nmX1 hown hK hP hD hS 0 rfl rfl 3 (by decide) (hts _ bw_28) (fun _ h9 => h9) rfl (by decide +kernel) rfl rfl (Nat.le_of_ble_eq_true rfl) dX1_init_29 (fun H locs hP hD hS => ?_)
  have hP : va_P D vwCl [(h0, .inr (1, [.ref q_1, .int (-1), .int 3, .int 255])), (q_1, .inr (0, [.int 0, .int 0, .int 63, .int 63]))] H := hP
  have hD : va_D A [(h0, .inr (1, [.ref q_1, .int (-1), .int 3, .int 255])), (q_1, .inr (0, [.int 0, .int 0, .int 63, .int 63]))] := hD
  have hP9 := hP.sub (ws' := [(h0, .inr (1, [.ref q_1, .int (-1), .int 3, .int 255])), (q_1, .inr (0, [.int 0, .int 0, .int 63, .int 63]))]) [0, 1] rfl
  have hD9 := hD.sub (ws' := [(h0, .inr (1, [.ref q_1, .int (-1), .int 3, .int 255])), (q_1, .inr (0, [.int 0, .int 0, .int 63, .int 63]))]) [0, 1] (by decide) rfl
  have hK9 := hK.sub (tys' := []) [] rfl
  refine hQ _ _ _ _ _ ?_
  exact W.vret hx hb hr (fun t ht hW => ⟨⟨(), rfl, trivial, ⟨q_1, by rw [ht]; exact hP9, va_K.moved hW.alike hK9, hD9⟩⟩, hS.F ht⟩) hS.2.2 dX1_init_32

set_option maxHeartbeats 4000000 in
set_option maxRecDepth 100000 in
theorem k_X3_init (l : Launch) (D : va_G) (sz : Nat) (h0 : Nat) : Met l yX3_init (wB yX3_init cX3_init 1 none) ({ frames := 1, cells := 4, slots := 192, locals := 12 }) (cP D [(h0, .inr (3, [.null, .null, .null, .null, .int 0, .int 0, .int 0]))] [] sz [.ref h0]) (va_Qv (fun (_ : Unit) => True) (fun (_ : Unit) (t : State) => ∃ (p1 p2 p3 p4 : Nat), ∃ (cI : ClassId), cB D (va_A [(h0, .inr (3, [.null, .null, .null, .null, .int 0, .int 0, .int 0]))] sz) [(h0, .inr (3, [.ref p1, .ref p2, .ref p3, .ref p4, .int 0, .int 0, .int 0])), (p1, .inl (cI, 48, .inl (fun _ => 0))), (p2, .inl (cI, 48, .inl (fun _ => 0))), (p3, .inl (cI, 48, .inl (fun _ => 0))), (p4, .inl (cI, 48, .inl (fun _ => 0)))] [(cI, .int)] t) (va_A [(h0, .inr (3, [.null, .null, .null, .null, .int 0, .int 0, .int 0]))] sz)) 4 192 (va_A [(h0, .inr (3, [.null, .null, .null, .null, .int 0, .int 0, .int 0]))] sz) := by
  refine Met.ofW (cc := cX3_init) (maxL := 1) (ret := none) (by decide) rfl ?_
  intro p e s m args below meth c s₁ B hml hv
  obtain ⟨rfl, hsz, hP, hK, hD0, hN⟩ := hv
  have hx := B.exec
  have hb := B.bytes
  have hr := B.returns
  have hts0 := atoms_spec (ws := (wB yX3_init cX3_init 1 none)) B.pre
  have hts : ∀ w ∈ bigW, w.before _ s = true := fun w h => hts0 w (List.mem_cons_of_mem _ h)
  have hown : s.vm.findClass RX3 = some m.cls := findClass_of_methodNamed B.named
  have hlocks := B.notSynchronized
  have hin : meth.name = "<init>" := (name_of_methodNamed B.named B.method).1
  subst hsz
  have hD := hD0.self (sz := s.heap.size)
  generalize hAe : va_A [(h0, .inr (3, [.null, .null, .null, .null, .int 0, .int 0, .int 0]))] s.heap.size = A at hD ⊢
  have hA : ∀ q : Nat, s.heap.size ≤ q → A q := fun q h => by rw [← hAe]; exact Or.inr h
  have hS : va_S A s.heap s.heap [] := va_S.rf
  have hP : va_P D vwCl [(h0, .inr (3, [.null, .null, .null, .null, .int 0, .int 0, .int 0]))] s.heap := hP
  have hl := lv_entry ([.ref h0]) (n := 1) (Nat.le_of_ble_eq_true rfl)
  rw [lg_entry_eq]
  generalize (lg_sl ([.ref h0]) ++ List.replicate (1 - (lg_sl ([.ref h0])).length) Slot.unset).toArray = ls at hl ⊢
  have hl : lv_has ls 1 [(0, .ref h0)] := hl
  clear hts0 hD0 hAe
  refine my_abs (fun R Q hR hQ => ?_)
  refine lv_aload_n hx hb dX3_init_0 rfl (lv_at hl 0 rfl) ?_
  refine W.objInit hx hb hown (hts _ bw_71) (hts _ bw_0) (hts _ bw_1) rfl (by rw [hml]; exact hl.1) rfl dX3_init_1 (by rw [hR]; exact Nat.le_of_ble_eq_true rfl) (by rw [hR]; exact Nat.le_of_ble_eq_true rfl) ?_
  refine W.eq (g2 := F0 m 4 ls []) rfl ?_
  refine lv_aload_n hx hb dX3_init_4 rfl (lv_at hl 0 rfl) ?_
  refine lv_bipush (v := 48) hx hb dX3_init_5 (by decide) ?_
  refine va_newa (atype := .int) (ty := .int) (a0 := (48, .inl (fun _ => 0))) hx hb (hts _ bw_2) rfl hK hP hD hS hA (fun _ => rfl) (by decide) (by decide) (by decide) (by rw [hR]; exact Nat.le_of_ble_eq_true rfl) (by rw [hR]; exact Nat.le_of_ble_eq_true rfl) dX3_init_7 (fun q_1 a_2 H hK hP hD hS => ?_)
  have hK : va_K D vwCl [(a_2, .int)] s := hK
  have hP : va_P D vwCl [(h0, .inr (3, [.null, .null, .null, .null, .int 0, .int 0, .int 0])), (q_1, .inl (a_2, 48, .inl (fun _ => 0)))] H := hP
  have hD : va_D A [(h0, .inr (3, [.null, .null, .null, .null, .int 0, .int 0, .int 0])), (q_1, .inl (a_2, 48, .inl (fun _ => 0)))] := hD
  refine W.widen (k := 1) (n := 48) (by omega) (by omega) ?_
  refine va_putF (D := D) (ci := 3) (v := .ref q_1) (ty := (.array .int)) (C := RX3) (T := TX3) (N := 7) hx hb hts hi_X3 tyX3 tyX3_ok nmX3 hown hK hP hD hS 0 rfl rfl 0 (by decide) (hts _ bw_72) (fun _ h9 => h9) rfl hin rfl (by decide +kernel) rfl rfl (Nat.le_of_ble_eq_true rfl) dX3_init_9 (fun H locs hP hD hS => ?_)
  have hP : va_P D vwCl [(h0, .inr (3, [.ref q_1, .null, .null, .null, .int 0, .int 0, .int 0])), (q_1, .inl (a_2, 48, .inl (fun _ => 0)))] H := hP
  have hD : va_D A [(h0, .inr (3, [.ref q_1, .null, .null, .null, .int 0, .int 0, .int 0])), (q_1, .inl (a_2, 48, .inl (fun _ => 0)))] := hD
  refine lv_aload_n hx hb dX3_init_12 rfl (lv_at hl 0 rfl) ?_
  refine lv_bipush (v := 48) hx hb dX3_init_13 (by decide) ?_
  refine va_newa (atype := .int) (ty := .int) (a0 := (48, .inl (fun _ => 0))) hx hb (hts _ bw_2) rfl hK hP hD hS hA (fun _ => rfl) (by decide) (by decide) (by decide) (by rw [hR]; exact Nat.le_of_ble_eq_true rfl) (by rw [hR]; exact Nat.le_of_ble_eq_true rfl) dX3_init_15 (fun q_3 a_4 H hK hP hD hS => ?_)
  obtain rfl : a_2 = a_4 := my_sameI hK 0 1 rfl rfl
  have hK := hK.sub (tys' := [(a_2, .int)]) [0] rfl
  have hP : va_P D vwCl [(h0, .inr (3, [.ref q_1, .null, .null, .null, .int 0, .int 0, .int 0])), (q_1, .inl (a_2, 48, .inl (fun _ => 0))), (q_3, .inl (a_2, 48, .inl (fun _ => 0)))] H := hP
  have hD : va_D A [(h0, .inr (3, [.ref q_1, .null, .null, .null, .int 0, .int 0, .int 0])), (q_1, .inl (a_2, 48, .inl (fun _ => 0))), (q_3, .inl (a_2, 48, .inl (fun _ => 0)))] := hD
  refine W.widen (k := 2) (n := 96) (by omega) (by omega) ?_
  refine va_putF (D := D) (ci := 3) (v := .ref q_3) (ty := (.array .int)) (C := RX3) (T := TX3) (N := 7) hx hb hts hi_X3 tyX3 tyX3_ok nmX3 hown hK hP hD hS 0 rfl rfl 1 (by decide) (hts _ bw_73) (fun _ h9 => h9) rfl hin rfl (by decide +kernel) rfl rfl (Nat.le_of_ble_eq_true rfl) dX3_init_17 (fun H locs hP hD hS => ?_)
  have hP : va_P D vwCl [(h0, .inr (3, [.ref q_1, .ref q_3, .null, .null, .int 0, .int 0, .int 0])), (q_1, .inl (a_2, 48, .inl (fun _ => 0))), (q_3, .inl (a_2, 48, .inl (fun _ => 0)))] H := hP
  have hD : va_D A [(h0, .inr (3, [.ref q_1, .ref q_3, .null, .null, .int 0, .int 0, .int 0])), (q_1, .inl (a_2, 48, .inl (fun _ => 0))), (q_3, .inl (a_2, 48, .inl (fun _ => 0)))] := hD
  refine lv_aload_n hx hb dX3_init_20 rfl (lv_at hl 0 rfl) ?_
  refine lv_bipush (v := 48) hx hb dX3_init_21 (by decide) ?_
  refine va_newa (atype := .int) (ty := .int) (a0 := (48, .inl (fun _ => 0))) hx hb (hts _ bw_2) rfl hK hP hD hS hA (fun _ => rfl) (by decide) (by decide) (by decide) (by rw [hR]; exact Nat.le_of_ble_eq_true rfl) (by rw [hR]; exact Nat.le_of_ble_eq_true rfl) dX3_init_23 (fun q_5 a_6 H hK hP hD hS => ?_)
  obtain rfl : a_2 = a_6 := my_sameI hK 0 1 rfl rfl
  have hK := hK.sub (tys' := [(a_2, .int)]) [0] rfl
  have hP : va_P D vwCl [(h0, .inr (3, [.ref q_1, .ref q_3, .null, .null, .int 0, .int 0, .int 0])), (q_1, .inl (a_2, 48, .inl (fun _ => 0))), (q_3, .inl (a_2, 48, .inl (fun _ => 0))), (q_5, .inl (a_2, 48, .inl (fun _ => 0)))] H := hP
  have hD : va_D A [(h0, .inr (3, [.ref q_1, .ref q_3, .null, .null, .int 0, .int 0, .int 0])), (q_1, .inl (a_2, 48, .inl (fun _ => 0))), (q_3, .inl (a_2, 48, .inl (fun _ => 0))), (q_5, .inl (a_2, 48, .inl (fun _ => 0)))] := hD
  refine W.widen (k := 3) (n := 144) (by omega) (by omega) ?_
  refine va_putF (D := D) (ci := 3) (v := .ref q_5) (ty := (.array .int)) (C := RX3) (T := TX3) (N := 7) hx hb hts hi_X3 tyX3 tyX3_ok nmX3 hown hK hP hD hS 0 rfl rfl 2 (by decide) (hts _ bw_74) (fun _ h9 => h9) rfl hin rfl (by decide +kernel) rfl rfl (Nat.le_of_ble_eq_true rfl) dX3_init_25 (fun H locs hP hD hS => ?_)
  have hP : va_P D vwCl [(h0, .inr (3, [.ref q_1, .ref q_3, .ref q_5, .null, .int 0, .int 0, .int 0])), (q_1, .inl (a_2, 48, .inl (fun _ => 0))), (q_3, .inl (a_2, 48, .inl (fun _ => 0))), (q_5, .inl (a_2, 48, .inl (fun _ => 0)))] H := hP
  have hD : va_D A [(h0, .inr (3, [.ref q_1, .ref q_3, .ref q_5, .null, .int 0, .int 0, .int 0])), (q_1, .inl (a_2, 48, .inl (fun _ => 0))), (q_3, .inl (a_2, 48, .inl (fun _ => 0))), (q_5, .inl (a_2, 48, .inl (fun _ => 0)))] := hD
  refine lv_aload_n hx hb dX3_init_28 rfl (lv_at hl 0 rfl) ?_
  refine lv_bipush (v := 48) hx hb dX3_init_29 (by decide) ?_
  refine va_newa (atype := .int) (ty := .int) (a0 := (48, .inl (fun _ => 0))) hx hb (hts _ bw_2) rfl hK hP hD hS hA (fun _ => rfl) (by decide) (by decide) (by decide) (by rw [hR]; exact Nat.le_of_ble_eq_true rfl) (by rw [hR]; exact Nat.le_of_ble_eq_true rfl) dX3_init_31 (fun q_7 a_8 H hK hP hD hS => ?_)
  obtain rfl : a_2 = a_8 := my_sameI hK 0 1 rfl rfl
  have hK := hK.sub (tys' := [(a_2, .int)]) [0] rfl
  have hP : va_P D vwCl [(h0, .inr (3, [.ref q_1, .ref q_3, .ref q_5, .null, .int 0, .int 0, .int 0])), (q_1, .inl (a_2, 48, .inl (fun _ => 0))), (q_3, .inl (a_2, 48, .inl (fun _ => 0))), (q_5, .inl (a_2, 48, .inl (fun _ => 0))), (q_7, .inl (a_2, 48, .inl (fun _ => 0)))] H := hP
  have hD : va_D A [(h0, .inr (3, [.ref q_1, .ref q_3, .ref q_5, .null, .int 0, .int 0, .int 0])), (q_1, .inl (a_2, 48, .inl (fun _ => 0))), (q_3, .inl (a_2, 48, .inl (fun _ => 0))), (q_5, .inl (a_2, 48, .inl (fun _ => 0))), (q_7, .inl (a_2, 48, .inl (fun _ => 0)))] := hD
  refine W.widen (k := 4) (n := 192) (by omega) (by omega) ?_
  refine va_putF (D := D) (ci := 3) (v := .ref q_7) (ty := (.array .int)) (C := RX3) (T := TX3) (N := 7) hx hb hts hi_X3 tyX3 tyX3_ok nmX3 hown hK hP hD hS 0 rfl rfl 3 (by decide) (hts _ bw_75) (fun _ h9 => h9) rfl hin rfl (by decide +kernel) rfl rfl (Nat.le_of_ble_eq_true rfl) dX3_init_33 (fun H locs hP hD hS => ?_)
  have hP : va_P D vwCl [(h0, .inr (3, [.ref q_1, .ref q_3, .ref q_5, .ref q_7, .int 0, .int 0, .int 0])), (q_1, .inl (a_2, 48, .inl (fun _ => 0))), (q_3, .inl (a_2, 48, .inl (fun _ => 0))), (q_5, .inl (a_2, 48, .inl (fun _ => 0))), (q_7, .inl (a_2, 48, .inl (fun _ => 0)))] H := hP
  have hD : va_D A [(h0, .inr (3, [.ref q_1, .ref q_3, .ref q_5, .ref q_7, .int 0, .int 0, .int 0])), (q_1, .inl (a_2, 48, .inl (fun _ => 0))), (q_3, .inl (a_2, 48, .inl (fun _ => 0))), (q_5, .inl (a_2, 48, .inl (fun _ => 0))), (q_7, .inl (a_2, 48, .inl (fun _ => 0)))] := hD
  refine lv_aload_n hx hb dX3_init_36 rfl (lv_at hl 0 rfl) ?_
  refine lv_iconst (v := 0) hx hb dX3_init_37 (by decide) ?_
  refine va_put (D := D) (ci := 3) (v := .int 0) (ty := .int) (C := RX3) (T := TX3) (N := 7) hx hb hts hi_X3 tyX3 tyX3_ok nmX3 hown hK hP hD hS 0 rfl rfl 4 (by decide) (hts _ bw_76) (fun _ h9 => h9) rfl (by decide +kernel) rfl rfl (Nat.le_of_ble_eq_true rfl) dX3_init_38 (fun H locs hP hD hS => ?_)
  have hP : va_P D vwCl [(h0, .inr (3, [.ref q_1, .ref q_3, .ref q_5, .ref q_7, .int 0, .int 0, .int 0])), (q_1, .inl (a_2, 48, .inl (fun _ => 0))), (q_3, .inl (a_2, 48, .inl (fun _ => 0))), (q_5, .inl (a_2, 48, .inl (fun _ => 0))), (q_7, .inl (a_2, 48, .inl (fun _ => 0)))] H := hP
  have hD : va_D A [(h0, .inr (3, [.ref q_1, .ref q_3, .ref q_5, .ref q_7, .int 0, .int 0, .int 0])), (q_1, .inl (a_2, 48, .inl (fun _ => 0))), (q_3, .inl (a_2, 48, .inl (fun _ => 0))), (q_5, .inl (a_2, 48, .inl (fun _ => 0))), (q_7, .inl (a_2, 48, .inl (fun _ => 0)))] := hD
  refine lv_aload_n hx hb dX3_init_41 rfl (lv_at hl 0 rfl) ?_
  refine lv_iconst (v := 0) hx hb dX3_init_42 (by decide) ?_
  refine va_put (D := D) (ci := 3) (v := .int 0) (ty := .int) (C := RX3) (T := TX3) (N := 7) hx hb hts hi_X3 tyX3 tyX3_ok nmX3 hown hK hP hD hS 0 rfl rfl 5 (by decide) (hts _ bw_77) (fun _ h9 => h9) rfl (by decide +kernel) rfl rfl (Nat.le_of_ble_eq_true rfl) dX3_init_43 (fun H locs hP hD hS => ?_)
  have hP : va_P D vwCl [(h0, .inr (3, [.ref q_1, .ref q_3, .ref q_5, .ref q_7, .int 0, .int 0, .int 0])), (q_1, .inl (a_2, 48, .inl (fun _ => 0))), (q_3, .inl (a_2, 48, .inl (fun _ => 0))), (q_5, .inl (a_2, 48, .inl (fun _ => 0))), (q_7, .inl (a_2, 48, .inl (fun _ => 0)))] H := hP
  have hD : va_D A [(h0, .inr (3, [.ref q_1, .ref q_3, .ref q_5, .ref q_7, .int 0, .int 0, .int 0])), (q_1, .inl (a_2, 48, .inl (fun _ => 0))), (q_3, .inl (a_2, 48, .inl (fun _ => 0))), (q_5, .inl (a_2, 48, .inl (fun _ => 0))), (q_7, .inl (a_2, 48, .inl (fun _ => 0)))] := hD
  refine lv_aload_n hx hb dX3_init_46 rfl (lv_at hl 0 rfl) ?_
  refine lv_iconst (v := 0) hx hb dX3_init_47 (by decide) ?_
  refine va_put (D := D) (ci := 3) (v := .int 0) (ty := .int) (C := RX3) (T := TX3) (N := 7) hx hb hts hi_X3 tyX3 tyX3_ok nmX3 hown hK hP hD hS 0 rfl rfl 6 (by decide) (hts _ bw_78) (fun _ h9 => h9) rfl (by decide +kernel) rfl rfl (Nat.le_of_ble_eq_true rfl) dX3_init_48 (fun H locs hP hD hS => ?_)
  have hP : va_P D vwCl [(h0, .inr (3, [.ref q_1, .ref q_3, .ref q_5, .ref q_7, .int 0, .int 0, .int 0])), (q_1, .inl (a_2, 48, .inl (fun _ => 0))), (q_3, .inl (a_2, 48, .inl (fun _ => 0))), (q_5, .inl (a_2, 48, .inl (fun _ => 0))), (q_7, .inl (a_2, 48, .inl (fun _ => 0)))] H := hP
  have hD : va_D A [(h0, .inr (3, [.ref q_1, .ref q_3, .ref q_5, .ref q_7, .int 0, .int 0, .int 0])), (q_1, .inl (a_2, 48, .inl (fun _ => 0))), (q_3, .inl (a_2, 48, .inl (fun _ => 0))), (q_5, .inl (a_2, 48, .inl (fun _ => 0))), (q_7, .inl (a_2, 48, .inl (fun _ => 0)))] := hD
  have hP9 := hP.sub (ws' := [(h0, .inr (3, [.ref q_1, .ref q_3, .ref q_5, .ref q_7, .int 0, .int 0, .int 0])), (q_1, .inl (a_2, 48, .inl (fun _ => 0))), (q_3, .inl (a_2, 48, .inl (fun _ => 0))), (q_5, .inl (a_2, 48, .inl (fun _ => 0))), (q_7, .inl (a_2, 48, .inl (fun _ => 0)))]) [0, 1, 2, 3, 4] rfl
  have hD9 := hD.sub (ws' := [(h0, .inr (3, [.ref q_1, .ref q_3, .ref q_5, .ref q_7, .int 0, .int 0, .int 0])), (q_1, .inl (a_2, 48, .inl (fun _ => 0))), (q_3, .inl (a_2, 48, .inl (fun _ => 0))), (q_5, .inl (a_2, 48, .inl (fun _ => 0))), (q_7, .inl (a_2, 48, .inl (fun _ => 0)))]) [0, 1, 2, 3, 4] (by decide) rfl
  have hK9 := hK.sub (tys' := [(a_2, .int)]) [0] rfl
  refine hQ _ _ _ _ _ ?_
  exact W.vret hx hb hr (fun t ht hW => ⟨⟨(), rfl, trivial, ⟨q_1, q_3, q_5, q_7, a_2, by rw [ht]; exact hP9, va_K.moved hW.alike hK9, hD9⟩⟩, hS.F ht⟩) hS.2.2 dX3_init_51

set_option maxHeartbeats 4000000 in
set_option maxRecDepth 100000 in
theorem k_X7_init (l : Launch) (D : va_G) (sz : Nat) (h0 : Nat) : Met l yX7_init (wB yX7_init cX7_init 1 none) ({ frames := 2, cells := 8, slots := 208, locals := 32 }) (cP D [(h0, .inr (7, [.null, .null, .null, .null]))] [] sz [.ref h0]) (va_Qv (fun (_ : Unit) => True) (fun (_ : Unit) (t : State) => ∃ (t1 t2 t3 ol o1 o2 o3 o4 : Nat), ∃ (cI : ClassId), cB D (va_A [(h0, .inr (7, [.null, .null, .null, .null]))] sz) [(h0, .inr (7, [.ref t1, .ref t2, .ref t3, .ref ol])), (t1, .inl (cI, 3, .inl (fun _ => 0))), (t2, .inl (cI, 3, .inl (fun _ => 0))), (t3, .inl (cI, 3, .inl (fun _ => 0))), (ol, .inr (3, [.ref o1, .ref o2, .ref o3, .ref o4, .int 0, .int 0, .int 0])), (o1, .inl (cI, 48, .inl (fun _ => 0))), (o2, .inl (cI, 48, .inl (fun _ => 0))), (o3, .inl (cI, 48, .inl (fun _ => 0))), (o4, .inl (cI, 48, .inl (fun _ => 0)))] [(cI, .int)] t) (va_A [(h0, .inr (7, [.null, .null, .null, .null]))] sz)) 8 208 (va_A [(h0, .inr (7, [.null, .null, .null, .null]))] sz) := by
  refine Met.ofW (cc := cX7_init) (maxL := 1) (ret := none) (by decide) rfl ?_
  intro p e s m args below meth c s₁ B hml hv
  obtain ⟨rfl, hsz, hP, hK, hD0, hN⟩ := hv
  have hx := B.exec
  have hb := B.bytes
  have hr := B.returns
  have hts0 := atoms_spec (ws := (wB yX7_init cX7_init 1 none)) B.pre
  have hts : ∀ w ∈ bigW, w.before _ s = true := fun w h => hts0 w (List.mem_cons_of_mem _ h)
  have hown : s.vm.findClass RX7 = some m.cls := findClass_of_methodNamed B.named
  have hlocks := B.notSynchronized
  have hin : meth.name = "<init>" := (name_of_methodNamed B.named B.method).1
  subst hsz
  have hD := hD0.self (sz := s.heap.size)
  generalize hAe : va_A [(h0, .inr (7, [.null, .null, .null, .null]))] s.heap.size = A at hD ⊢
  have hA : ∀ q : Nat, s.heap.size ≤ q → A q := fun q h => by rw [← hAe]; exact Or.inr h
  have hS : va_S A s.heap s.heap [] := va_S.rf
  have hP : va_P D vwCl [(h0, .inr (7, [.null, .null, .null, .null]))] s.heap := hP
  have hl := lv_entry ([.ref h0]) (n := 1) (Nat.le_of_ble_eq_true rfl)
  rw [lg_entry_eq]
  generalize (lg_sl ([.ref h0]) ++ List.replicate (1 - (lg_sl ([.ref h0])).length) Slot.unset).toArray = ls at hl ⊢
  have hl : lv_has ls 1 [(0, .ref h0)] := hl
  clear hts0 hD0 hAe
  refine my_abs (fun R Q hR hQ => ?_)
  refine lv_aload_n hx hb dX7_init_0 rfl (lv_at hl 0 rfl) ?_
  refine W.objInit hx hb hown (hts _ bw_199) (hts _ bw_0) (hts _ bw_1) rfl (by rw [hml]; exact hl.1) rfl dX7_init_1 (by rw [hR]; exact Nat.le_of_ble_eq_true rfl) (by rw [hR]; exact Nat.le_of_ble_eq_true rfl) ?_
  refine W.eq (g2 := F0 m 4 ls []) rfl ?_
  refine lv_aload_n hx hb dX7_init_4 rfl (lv_at hl 0 rfl) ?_
  refine lv_iconst (v := 3) hx hb dX7_init_5 (by decide) ?_
  refine va_newa (atype := .int) (ty := .int) (a0 := (3, .inl (fun _ => 0))) hx hb (hts _ bw_2) rfl hK hP hD hS hA (fun _ => rfl) (by decide) (by decide) (by decide) (by rw [hR]; exact Nat.le_of_ble_eq_true rfl) (by rw [hR]; exact Nat.le_of_ble_eq_true rfl) dX7_init_6 (fun q_1 a_2 H hK hP hD hS => ?_)
  have hK : va_K D vwCl [(a_2, .int)] s := hK
  have hP : va_P D vwCl [(h0, .inr (7, [.null, .null, .null, .null])), (q_1, .inl (a_2, 3, .inl (fun _ => 0)))] H := hP
  have hD : va_D A [(h0, .inr (7, [.null, .null, .null, .null])), (q_1, .inl (a_2, 3, .inl (fun _ => 0)))] := hD
  refine W.widen (k := 1) (n := 3) (by omega) (by omega) ?_
  refine va_putF (D := D) (ci := 7) (v := .ref q_1) (ty := (.array .int)) (C := RX7) (T := TX7) (N := 4) hx hb hts hi_X7 tyX7 tyX7_ok nmX7 hown hK hP hD hS 0 rfl rfl 0 (by decide) (hts _ bw_200) (fun _ h9 => h9) rfl hin rfl (by decide +kernel) rfl rfl (Nat.le_of_ble_eq_true rfl) dX7_init_8 (fun H locs hP hD hS => ?_)
  have hP : va_P D vwCl [(h0, .inr (7, [.ref q_1, .null, .null, .null])), (q_1, .inl (a_2, 3, .inl (fun _ => 0)))] H := hP
  have hD : va_D A [(h0, .inr (7, [.ref q_1, .null, .null, .null])), (q_1, .inl (a_2, 3, .inl (fun _ => 0)))] := hD
  refine lv_aload_n hx hb dX7_init_11 rfl (lv_at hl 0 rfl) ?_
  refine lv_iconst (v := 3) hx hb dX7_init_12 (by decide) ?_
  refine va_newa (atype := .int) (ty := .int) (a0 := (3, .inl (fun _ => 0))) hx hb (hts _ bw_2) rfl hK hP hD hS hA (fun _ => rfl) (by decide) (by decide) (by decide) (by rw [hR]; exact Nat.le_of_ble_eq_true rfl) (by rw [hR]; exact Nat.le_of_ble_eq_true rfl) dX7_init_13 (fun q_3 a_4 H hK hP hD hS => ?_)
  obtain rfl : a_2 = a_4 := my_sameI hK 0 1 rfl rfl
  have hK := hK.sub (tys' := [(a_2, .int)]) [0] rfl
  have hP : va_P D vwCl [(h0, .inr (7, [.ref q_1, .null, .null, .null])), (q_1, .inl (a_2, 3, .inl (fun _ => 0))), (q_3, .inl (a_2, 3, .inl (fun _ => 0)))] H := hP
  have hD : va_D A [(h0, .inr (7, [.ref q_1, .null, .null, .null])), (q_1, .inl (a_2, 3, .inl (fun _ => 0))), (q_3, .inl (a_2, 3, .inl (fun _ => 0)))] := hD
  refine W.widen (k := 2) (n := 6) (by omega) (by omega) ?_
  refine va_putF (D := D) (ci := 7) (v := .ref q_3) (ty := (.array .int)) (C := RX7) (T := TX7) (N := 4) hx hb hts hi_X7 tyX7 tyX7_ok nmX7 hown hK hP hD hS 0 rfl rfl 1 (by decide) (hts _ bw_201) (fun _ h9 => h9) rfl hin rfl (by decide +kernel) rfl rfl (Nat.le_of_ble_eq_true rfl) dX7_init_15 (fun H locs hP hD hS => ?_)
  have hP : va_P D vwCl [(h0, .inr (7, [.ref q_1, .ref q_3, .null, .null])), (q_1, .inl (a_2, 3, .inl (fun _ => 0))), (q_3, .inl (a_2, 3, .inl (fun _ => 0)))] H := hP
  have hD : va_D A [(h0, .inr (7, [.ref q_1, .ref q_3, .null, .null])), (q_1, .inl (a_2, 3, .inl (fun _ => 0))), (q_3, .inl (a_2, 3, .inl (fun _ => 0)))] := hD
  refine lv_aload_n hx hb dX7_init_18 rfl (lv_at hl 0 rfl) ?_
  refine lv_iconst (v := 3) hx hb dX7_init_19 (by decide) ?_
  refine va_newa (atype := .int) (ty := .int) (a0 := (3, .inl (fun _ => 0))) hx hb (hts _ bw_2) rfl hK hP hD hS hA (fun _ => rfl) (by decide) (by decide) (by decide) (by rw [hR]; exact Nat.le_of_ble_eq_true rfl) (by rw [hR]; exact Nat.le_of_ble_eq_true rfl) dX7_init_20 (fun q_5 a_6 H hK hP hD hS => ?_)
  obtain rfl : a_2 = a_6 := my_sameI hK 0 1 rfl rfl
  have hK := hK.sub (tys' := [(a_2, .int)]) [0] rfl
  have hP : va_P D vwCl [(h0, .inr (7, [.ref q_1, .ref q_3, .null, .null])), (q_1, .inl (a_2, 3, .inl (fun _ => 0))), (q_3, .inl (a_2, 3, .inl (fun _ => 0))), (q_5, .inl (a_2, 3, .inl (fun _ => 0)))] H := hP
  have hD : va_D A [(h0, .inr (7, [.ref q_1, .ref q_3, .null, .null])), (q_1, .inl (a_2, 3, .inl (fun _ => 0))), (q_3, .inl (a_2, 3, .inl (fun _ => 0))), (q_5, .inl (a_2, 3, .inl (fun _ => 0)))] := hD
  refine W.widen (k := 3) (n := 9) (by omega) (by omega) ?_
  refine va_putF (D := D) (ci := 7) (v := .ref q_5) (ty := (.array .int)) (C := RX7) (T := TX7) (N := 4) hx hb hts hi_X7 tyX7 tyX7_ok nmX7 hown hK hP hD hS 0 rfl rfl 2 (by decide) (hts _ bw_202) (fun _ h9 => h9) rfl hin rfl (by decide +kernel) rfl rfl (Nat.le_of_ble_eq_true rfl) dX7_init_22 (fun H locs hP hD hS => ?_)
  have hP : va_P D vwCl [(h0, .inr (7, [.ref q_1, .ref q_3, .ref q_5, .null])), (q_1, .inl (a_2, 3, .inl (fun _ => 0))), (q_3, .inl (a_2, 3, .inl (fun _ => 0))), (q_5, .inl (a_2, 3, .inl (fun _ => 0)))] H := hP
  have hD : va_D A [(h0, .inr (7, [.ref q_1, .ref q_3, .ref q_5, .null])), (q_1, .inl (a_2, 3, .inl (fun _ => 0))), (q_3, .inl (a_2, 3, .inl (fun _ => 0))), (q_5, .inl (a_2, 3, .inl (fun _ => 0)))] := hD
  refine lv_aload_n hx hb dX7_init_25 rfl (lv_at hl 0 rfl) ?_
  refine va_new (ci := 3) (fs := [.null, .null, .null, .null, .int 0, .int 0, .int 0]) (C := RX3) (T := TX3) (N := 7) hx hb hts hi_X3 tyX3 tyX3_ok hown (hts _ bw_203) (hts _ bw_68) (hts _ bw_67) hK hP hD hS hA rfl z_X3 (by rw [hR]; exact Nat.le_of_ble_eq_true rfl) (by rw [hR]; exact Nat.le_of_ble_eq_true rfl) dX7_init_26 (fun q_7 H hP hD hS => ?_)
  have hP : va_P D vwCl [(h0, .inr (7, [.ref q_1, .ref q_3, .ref q_5, .null])), (q_1, .inl (a_2, 3, .inl (fun _ => 0))), (q_3, .inl (a_2, 3, .inl (fun _ => 0))), (q_5, .inl (a_2, 3, .inl (fun _ => 0))), (q_7, .inr (3, [.null, .null, .null, .null, .int 0, .int 0, .int 0]))] H := hP
  have hD : va_D A [(h0, .inr (7, [.ref q_1, .ref q_3, .ref q_5, .null])), (q_1, .inl (a_2, 3, .inl (fun _ => 0))), (q_3, .inl (a_2, 3, .inl (fun _ => 0))), (q_5, .inl (a_2, 3, .inl (fun _ => 0))), (q_7, .inr (3, [.null, .null, .null, .null, .int 0, .int 0, .int 0]))] := hD
  refine W.widen (k := 4) (n := 16) (by omega) (by omega) ?_
  refine lv_dup hx hb dX7_init_29 rfl ?_
  have hPc := hP.sub (ws' := [(q_7, .inr (3, [.null, .null, .null, .null, .int 0, .int 0, .int 0]))]) [4] rfl
  have hDc := hD.sub (ws' := [(q_7, .inr (3, [.null, .null, .null, .null, .int 0, .int 0, .int 0]))]) [4] (by decide) rfl
  have hKc := hK.sub (tys' := []) [] rfl
  have hFc := va_free (wc := [(q_7, .inr (3, [.null, .null, .null, .null, .int 0, .int 0, .int 0]))]) hD hS hA [4] rfl
  refine va_callv (va_runIN (host := RX8) (As := []) (rest := [.ref q_7, .ref h0]) ⟨hx, hb, hml, hown, hts⟩ (k_X3_init l D H.size q_7) ⟨va_cnB 0 hts (gI bw_69) rfl rfl rfl (hN.2.1 (RX7, 23, yX3_init, RX8) (by decide +kernel)) (hts _ bw_67) (by decide +kernel) ⟨(by rw [hR]; exact Nat.le_of_ble_eq_true rfl), (by rw [hR]; exact Nat.le_of_ble_eq_true rfl)⟩, rfl, (hts _ bw_70)⟩ ⟨cP_blind, cP_at hPc hKc hDc hN⟩ rfl rfl hl.1 rfl (lv_room (Nat.le_of_ble_eq_true rfl)) dX7_init_30 ⟨(by rw [hR]; exact Nat.le_of_ble_eq_true rfl), (by rw [hR]; exact Nat.le_of_ble_eq_true rfl)⟩) hS (fun q _ h => hFc q h) hFc (fun u9 t9 H1 locs ht hvm hr_8 hB hz1 hk1 hS => ?_)
  try dsimp only at hr_8
  obtain ⟨q_9, q_10, q_11, q_12, a_13, hP1, hK1, hD1⟩ := hB
  rw [ht] at hP1
  have hK : va_K D vwCl [(a_2, .int), (a_13, .int)] s := hK.app (va_K.moved hvm.symm hK1)
  obtain rfl : a_2 = a_13 := my_sameI hK 0 1 rfl rfl
  have hK := hK.sub (tys' := [(a_2, .int)]) [0] rfl
  obtain ⟨hP, hD⟩ := va_join (wr := [(h0, .inr (7, [.ref q_1, .ref q_3, .ref q_5, .null])), (q_1, .inl (a_2, 3, .inl (fun _ => 0))), (q_3, .inl (a_2, 3, .inl (fun _ => 0))), (q_5, .inl (a_2, 3, .inl (fun _ => 0)))]) (w1 := [(q_7, .inr (3, [.ref q_9, .ref q_10, .ref q_11, .ref q_12, .int 0, .int 0, .int 0])), (q_9, .inl (a_2, 48, .inl (fun _ => 0))), (q_10, .inl (a_2, 48, .inl (fun _ => 0))), (q_11, .inl (a_2, 48, .inl (fun _ => 0))), (q_12, .inl (a_2, 48, .inl (fun _ => 0)))]) hP hD [4] [0, 1, 2, 3] rfl rfl (by decide) (by decide) hk1 hFc hP1 hD1
  clear hz1 hk1 hFc hKc hDc hPc
  generalize H1 = H at hP hS ⊢
  have hP : va_P D vwCl [(h0, .inr (7, [.ref q_1, .ref q_3, .ref q_5, .null])), (q_1, .inl (a_2, 3, .inl (fun _ => 0))), (q_3, .inl (a_2, 3, .inl (fun _ => 0))), (q_5, .inl (a_2, 3, .inl (fun _ => 0))), (q_7, .inr (3, [.ref q_9, .ref q_10, .ref q_11, .ref q_12, .int 0, .int 0, .int 0])), (q_9, .inl (a_2, 48, .inl (fun _ => 0))), (q_10, .inl (a_2, 48, .inl (fun _ => 0))), (q_11, .inl (a_2, 48, .inl (fun _ => 0))), (q_12, .inl (a_2, 48, .inl (fun _ => 0)))] H := hP
  have hD : va_D A [(h0, .inr (7, [.ref q_1, .ref q_3, .ref q_5, .null])), (q_1, .inl (a_2, 3, .inl (fun _ => 0))), (q_3, .inl (a_2, 3, .inl (fun _ => 0))), (q_5, .inl (a_2, 3, .inl (fun _ => 0))), (q_7, .inr (3, [.ref q_9, .ref q_10, .ref q_11, .ref q_12, .int 0, .int 0, .int 0])), (q_9, .inl (a_2, 48, .inl (fun _ => 0))), (q_10, .inl (a_2, 48, .inl (fun _ => 0))), (q_11, .inl (a_2, 48, .inl (fun _ => 0))), (q_12, .inl (a_2, 48, .inl (fun _ => 0)))] := hD
  refine W.widen (k := 8) (n := 208) (by omega) (by omega) ?_
  refine va_putF (D := D) (ci := 7) (v := .ref q_7) (ty := (.object "DotBench$Path")) (C := RX7) (T := TX7) (N := 4) hx hb hts hi_X7 tyX7 tyX7_ok nmX7 hown hK hP hD hS 0 rfl rfl 3 (by decide) (hts _ bw_204) (fun _ h9 => h9) rfl hin rfl (by decide +kernel) rfl rfl (Nat.le_of_ble_eq_true rfl) dX7_init_33 (fun H locs hP hD hS => ?_)
  have hP : va_P D vwCl [(h0, .inr (7, [.ref q_1, .ref q_3, .ref q_5, .ref q_7])), (q_1, .inl (a_2, 3, .inl (fun _ => 0))), (q_3, .inl (a_2, 3, .inl (fun _ => 0))), (q_5, .inl (a_2, 3, .inl (fun _ => 0))), (q_7, .inr (3, [.ref q_9, .ref q_10, .ref q_11, .ref q_12, .int 0, .int 0, .int 0])), (q_9, .inl (a_2, 48, .inl (fun _ => 0))), (q_10, .inl (a_2, 48, .inl (fun _ => 0))), (q_11, .inl (a_2, 48, .inl (fun _ => 0))), (q_12, .inl (a_2, 48, .inl (fun _ => 0)))] H := hP
  have hD : va_D A [(h0, .inr (7, [.ref q_1, .ref q_3, .ref q_5, .ref q_7])), (q_1, .inl (a_2, 3, .inl (fun _ => 0))), (q_3, .inl (a_2, 3, .inl (fun _ => 0))), (q_5, .inl (a_2, 3, .inl (fun _ => 0))), (q_7, .inr (3, [.ref q_9, .ref q_10, .ref q_11, .ref q_12, .int 0, .int 0, .int 0])), (q_9, .inl (a_2, 48, .inl (fun _ => 0))), (q_10, .inl (a_2, 48, .inl (fun _ => 0))), (q_11, .inl (a_2, 48, .inl (fun _ => 0))), (q_12, .inl (a_2, 48, .inl (fun _ => 0)))] := hD
  have hP9 := hP.sub (ws' := [(h0, .inr (7, [.ref q_1, .ref q_3, .ref q_5, .ref q_7])), (q_1, .inl (a_2, 3, .inl (fun _ => 0))), (q_3, .inl (a_2, 3, .inl (fun _ => 0))), (q_5, .inl (a_2, 3, .inl (fun _ => 0))), (q_7, .inr (3, [.ref q_9, .ref q_10, .ref q_11, .ref q_12, .int 0, .int 0, .int 0])), (q_9, .inl (a_2, 48, .inl (fun _ => 0))), (q_10, .inl (a_2, 48, .inl (fun _ => 0))), (q_11, .inl (a_2, 48, .inl (fun _ => 0))), (q_12, .inl (a_2, 48, .inl (fun _ => 0)))]) [0, 1, 2, 3, 4, 5, 6, 7, 8] rfl
  have hD9 := hD.sub (ws' := [(h0, .inr (7, [.ref q_1, .ref q_3, .ref q_5, .ref q_7])), (q_1, .inl (a_2, 3, .inl (fun _ => 0))), (q_3, .inl (a_2, 3, .inl (fun _ => 0))), (q_5, .inl (a_2, 3, .inl (fun _ => 0))), (q_7, .inr (3, [.ref q_9, .ref q_10, .ref q_11, .ref q_12, .int 0, .int 0, .int 0])), (q_9, .inl (a_2, 48, .inl (fun _ => 0))), (q_10, .inl (a_2, 48, .inl (fun _ => 0))), (q_11, .inl (a_2, 48, .inl (fun _ => 0))), (q_12, .inl (a_2, 48, .inl (fun _ => 0)))]) [0, 1, 2, 3, 4, 5, 6, 7, 8] (by decide) rfl
  have hK9 := hK.sub (tys' := [(a_2, .int)]) [0] rfl
  refine hQ _ _ _ _ _ ?_
  exact W.vret hx hb hr (fun t ht hW => ⟨⟨(), rfl, trivial, ⟨q_1, q_3, q_5, q_7, q_9, q_10, q_11, q_12, a_2, by rw [ht]; exact hP9, va_K.moved hW.alike hK9, hD9⟩⟩, hS.F ht⟩) hS.2.2 dX7_init_36

set_option maxHeartbeats 4000000 in
set_option maxRecDepth 100000 in
theorem k_X4_init (l : Launch) (D : va_G) (sz : Nat) (h0 : Nat) : Met l yX4_init (wB yX4_init cX4_init 1 none) ({ frames := 1, cells := 2, slots := 320, locals := 12 }) (cP D [(h0, .inr (4, [.null, .null]))] [] sz [.ref h0]) (va_Qv (fun (_ : Unit) => True) (fun (_ : Unit) (t : State) => ∃ (w1 w2 : Nat), ∃ (cI : ClassId), cB D (va_A [(h0, .inr (4, [.null, .null]))] sz) [(h0, .inr (4, [.ref w1, .ref w2])), (w1, .inl (cI, 256, .inl (fun _ => 0))), (w2, .inl (cI, 64, .inl (fun _ => 0)))] [(cI, .int)] t) (va_A [(h0, .inr (4, [.null, .null]))] sz)) 2 320 (va_A [(h0, .inr (4, [.null, .null]))] sz) := by
  refine Met.ofW (cc := cX4_init) (maxL := 1) (ret := none) (by decide) rfl ?_
  intro p e s m args below meth c s₁ B hml hv
  obtain ⟨rfl, hsz, hP, hK, hD0, hN⟩ := hv
  have hx := B.exec
  have hb := B.bytes
  have hr := B.returns
  have hts0 := atoms_spec (ws := (wB yX4_init cX4_init 1 none)) B.pre
  have hts : ∀ w ∈ bigW, w.before _ s = true := fun w h => hts0 w (List.mem_cons_of_mem _ h)
  have hown : s.vm.findClass RX4 = some m.cls := findClass_of_methodNamed B.named
  have hlocks := B.notSynchronized
  have hin : meth.name = "<init>" := (name_of_methodNamed B.named B.method).1
  subst hsz
  have hD := hD0.self (sz := s.heap.size)
  generalize hAe : va_A [(h0, .inr (4, [.null, .null]))] s.heap.size = A at hD ⊢
  have hA : ∀ q : Nat, s.heap.size ≤ q → A q := fun q h => by rw [← hAe]; exact Or.inr h
  have hS : va_S A s.heap s.heap [] := va_S.rf
  have hP : va_P D vwCl [(h0, .inr (4, [.null, .null]))] s.heap := hP
  have hl := lv_entry ([.ref h0]) (n := 1) (Nat.le_of_ble_eq_true rfl)
  rw [lg_entry_eq]
  generalize (lg_sl ([.ref h0]) ++ List.replicate (1 - (lg_sl ([.ref h0])).length) Slot.unset).toArray = ls at hl ⊢
  have hl : lv_has ls 1 [(0, .ref h0)] := hl
  clear hts0 hD0 hAe
  refine my_abs (fun R Q hR hQ => ?_)
  refine lv_aload_n hx hb dX4_init_0 rfl (lv_at hl 0 rfl) ?_
  refine W.objInit hx hb hown (hts _ bw_115) (hts _ bw_0) (hts _ bw_1) rfl (by rw [hml]; exact hl.1) rfl dX4_init_1 (by rw [hR]; exact Nat.le_of_ble_eq_true rfl) (by rw [hR]; exact Nat.le_of_ble_eq_true rfl) ?_
  refine W.eq (g2 := F0 m 4 ls []) rfl ?_
  refine lv_aload_n hx hb dX4_init_4 rfl (lv_at hl 0 rfl) ?_
  refine lv_sipush (v := 256) hx hb dX4_init_5 (by decide) ?_
  refine va_newa (atype := .int) (ty := .int) (a0 := (256, .inl (fun _ => 0))) hx hb (hts _ bw_2) rfl hK hP hD hS hA (fun _ => rfl) (by decide) (by decide) (by decide) (by rw [hR]; exact Nat.le_of_ble_eq_true rfl) (by rw [hR]; exact Nat.le_of_ble_eq_true rfl) dX4_init_8 (fun q_1 a_2 H hK hP hD hS => ?_)
  have hK : va_K D vwCl [(a_2, .int)] s := hK
  have hP : va_P D vwCl [(h0, .inr (4, [.null, .null])), (q_1, .inl (a_2, 256, .inl (fun _ => 0)))] H := hP
  have hD : va_D A [(h0, .inr (4, [.null, .null])), (q_1, .inl (a_2, 256, .inl (fun _ => 0)))] := hD
  refine W.widen (k := 1) (n := 256) (by omega) (by omega) ?_
  refine va_putF (D := D) (ci := 4) (v := .ref q_1) (ty := (.array .int)) (C := RX4) (T := TX4) (N := 2) hx hb hts hi_X4 tyX4 tyX4_ok nmX4 hown hK hP hD hS 0 rfl rfl 0 (by decide) (hts _ bw_116) (fun _ h9 => h9) rfl hin rfl (by decide +kernel) rfl rfl (Nat.le_of_ble_eq_true rfl) dX4_init_10 (fun H locs hP hD hS => ?_)
  have hP : va_P D vwCl [(h0, .inr (4, [.ref q_1, .null])), (q_1, .inl (a_2, 256, .inl (fun _ => 0)))] H := hP
  have hD : va_D A [(h0, .inr (4, [.ref q_1, .null])), (q_1, .inl (a_2, 256, .inl (fun _ => 0)))] := hD
  refine lv_aload_n hx hb dX4_init_13 rfl (lv_at hl 0 rfl) ?_
  refine lv_bipush (v := 64) hx hb dX4_init_14 (by decide) ?_
  refine va_newa (atype := .int) (ty := .int) (a0 := (64, .inl (fun _ => 0))) hx hb (hts _ bw_2) rfl hK hP hD hS hA (fun _ => rfl) (by decide) (by decide) (by decide) (by rw [hR]; exact Nat.le_of_ble_eq_true rfl) (by rw [hR]; exact Nat.le_of_ble_eq_true rfl) dX4_init_16 (fun q_3 a_4 H hK hP hD hS => ?_)
  obtain rfl : a_2 = a_4 := my_sameI hK 0 1 rfl rfl
  have hK := hK.sub (tys' := [(a_2, .int)]) [0] rfl
  have hP : va_P D vwCl [(h0, .inr (4, [.ref q_1, .null])), (q_1, .inl (a_2, 256, .inl (fun _ => 0))), (q_3, .inl (a_2, 64, .inl (fun _ => 0)))] H := hP
  have hD : va_D A [(h0, .inr (4, [.ref q_1, .null])), (q_1, .inl (a_2, 256, .inl (fun _ => 0))), (q_3, .inl (a_2, 64, .inl (fun _ => 0)))] := hD
  refine W.widen (k := 2) (n := 320) (by omega) (by omega) ?_
  refine va_putF (D := D) (ci := 4) (v := .ref q_3) (ty := (.array .int)) (C := RX4) (T := TX4) (N := 2) hx hb hts hi_X4 tyX4 tyX4_ok nmX4 hown hK hP hD hS 0 rfl rfl 1 (by decide) (hts _ bw_117) (fun _ h9 => h9) rfl hin rfl (by decide +kernel) rfl rfl (Nat.le_of_ble_eq_true rfl) dX4_init_18 (fun H locs hP hD hS => ?_)
  have hP : va_P D vwCl [(h0, .inr (4, [.ref q_1, .ref q_3])), (q_1, .inl (a_2, 256, .inl (fun _ => 0))), (q_3, .inl (a_2, 64, .inl (fun _ => 0)))] H := hP
  have hD : va_D A [(h0, .inr (4, [.ref q_1, .ref q_3])), (q_1, .inl (a_2, 256, .inl (fun _ => 0))), (q_3, .inl (a_2, 64, .inl (fun _ => 0)))] := hD
  have hP9 := hP.sub (ws' := [(h0, .inr (4, [.ref q_1, .ref q_3])), (q_1, .inl (a_2, 256, .inl (fun _ => 0))), (q_3, .inl (a_2, 64, .inl (fun _ => 0)))]) [0, 1, 2] rfl
  have hD9 := hD.sub (ws' := [(h0, .inr (4, [.ref q_1, .ref q_3])), (q_1, .inl (a_2, 256, .inl (fun _ => 0))), (q_3, .inl (a_2, 64, .inl (fun _ => 0)))]) [0, 1, 2] (by decide) rfl
  have hK9 := hK.sub (tys' := [(a_2, .int)]) [0] rfl
  refine hQ _ _ _ _ _ ?_
  exact W.vret hx hb hr (fun t ht hW => ⟨⟨(), rfl, trivial, ⟨q_1, q_3, a_2, by rw [ht]; exact hP9, va_K.moved hW.alike hK9, hD9⟩⟩, hS.F ht⟩) hS.2.2 dX4_init_21

set_option maxHeartbeats 4000000 in
set_option maxRecDepth 100000 in
theorem k_X8_init (l : Launch) (D : va_G) (sz : Nat) (h0 : Nat) : Met l yX8_init (wB yX8_init cX8_init 1 none) ({ frames := 3, cells := 21, slots := 749, locals := 52 }) (cP D [(h0, .inr (8, [.null, .null, .null, .null, .null, .null, .int 0, .null, .null]))] [] sz [.ref h0]) (va_Qv (fun (_ : Unit) => True) (fun (_ : Unit) (t : State) => ∃ (s1 s2 s3 s4 s5 s6 bx p1 p2 p3 p4 t1 t2 t3 ol o1 o2 o3 o4 w1 w2 : Nat), ∃ (cI cO : ClassId), cB D (va_A [(h0, .inr (8, [.null, .null, .null, .null, .null, .null, .int 0, .null, .null]))] sz) [(h0, .inr (8, [.ref s1, .ref s2, .ref s3, .ref s4, .ref s5, .ref s6, .int 65535, .null, .null])), (s1, .inl (cO, 4, .inr (.inr (.inr (.inr (fun _ => none)))))), (s2, .inr (1, [.ref bx, .int (-1), .int 3, .int 255])), (bx, .inr (0, [.int 0, .int 0, .int 63, .int 63])), (s3, .inr (0, [.int 0, .int 0, .int 63, .int 63])), (s4, .inr (3, [.ref p1, .ref p2, .ref p3, .ref p4, .int 0, .int 0, .int 0])), (p1, .inl (cI, 48, .inl (fun _ => 0))), (p2, .inl (cI, 48, .inl (fun _ => 0))), (p3, .inl (cI, 48, .inl (fun _ => 0))), (p4, .inl (cI, 48, .inl (fun _ => 0))), (s5, .inr (7, [.ref t1, .ref t2, .ref t3, .ref ol])), (t1, .inl (cI, 3, .inl (fun _ => 0))), (t2, .inl (cI, 3, .inl (fun _ => 0))), (t3, .inl (cI, 3, .inl (fun _ => 0))), (ol, .inr (3, [.ref o1, .ref o2, .ref o3, .ref o4, .int 0, .int 0, .int 0])), (o1, .inl (cI, 48, .inl (fun _ => 0))), (o2, .inl (cI, 48, .inl (fun _ => 0))), (o3, .inl (cI, 48, .inl (fun _ => 0))), (o4, .inl (cI, 48, .inl (fun _ => 0))), (s6, .inr (4, [.ref w1, .ref w2])), (w1, .inl (cI, 256, .inl (fun _ => 0))), (w2, .inl (cI, 64, .inl (fun _ => 0)))] [(cI, .int), (cO, .object "DotBench$Sheet")] t) (va_A [(h0, .inr (8, [.null, .null, .null, .null, .null, .null, .int 0, .null, .null]))] sz)) 21 749 (va_A [(h0, .inr (8, [.null, .null, .null, .null, .null, .null, .int 0, .null, .null]))] sz) := by
  refine Met.ofW (cc := cX8_init) (maxL := 1) (ret := none) (by decide) rfl ?_
  intro p e s m args below meth c s₁ B hml hv
  obtain ⟨rfl, hsz, hP, hK, hD0, hN⟩ := hv
  have hx := B.exec
  have hb := B.bytes
  have hr := B.returns
  have hts0 := atoms_spec (ws := (wB yX8_init cX8_init 1 none)) B.pre
  have hts : ∀ w ∈ bigW, w.before _ s = true := fun w h => hts0 w (List.mem_cons_of_mem _ h)
  have hown : s.vm.findClass RX8 = some m.cls := findClass_of_methodNamed B.named
  have hlocks := B.notSynchronized
  have hin : meth.name = "<init>" := (name_of_methodNamed B.named B.method).1
  subst hsz
  have hD := hD0.self (sz := s.heap.size)
  generalize hAe : va_A [(h0, .inr (8, [.null, .null, .null, .null, .null, .null, .int 0, .null, .null]))] s.heap.size = A at hD ⊢
  have hA : ∀ q : Nat, s.heap.size ≤ q → A q := fun q h => by rw [← hAe]; exact Or.inr h
  have hS : va_S A s.heap s.heap [] := va_S.rf
  have hP : va_P D vwCl [(h0, .inr (8, [.null, .null, .null, .null, .null, .null, .int 0, .null, .null]))] s.heap := hP
  have hl := lv_entry ([.ref h0]) (n := 1) (Nat.le_of_ble_eq_true rfl)
  rw [lg_entry_eq]
  generalize (lg_sl ([.ref h0]) ++ List.replicate (1 - (lg_sl ([.ref h0])).length) Slot.unset).toArray = ls at hl ⊢
  have hl : lv_has ls 1 [(0, .ref h0)] := hl
  clear hts0 hD0 hAe
  refine my_abs (fun R Q hR hQ => ?_)
  refine lv_aload_n hx hb dX8_init_0 rfl (lv_at hl 0 rfl) ?_
  refine W.objInit hx hb hown (hts _ bw_227) (hts _ bw_0) (hts _ bw_1) rfl (by rw [hml]; exact hl.1) rfl dX8_init_1 (by rw [hR]; exact Nat.le_of_ble_eq_true rfl) (by rw [hR]; exact Nat.le_of_ble_eq_true rfl) ?_
  refine W.eq (g2 := F0 m 4 ls []) rfl ?_
  refine lv_aload_n hx hb dX8_init_4 rfl (lv_at hl 0 rfl) ?_
  refine lv_iconst (v := 4) hx hb dX8_init_5 (by decide) ?_
  refine va_newq (C := RX5) (N' := 4) hx hb hown (hts _ bw_228) hN.2.2 hK hP hD hS hA (by decide) (by decide) (by decide) (by rw [hR]; exact Nat.le_of_ble_eq_true rfl) (by rw [hR]; exact Nat.le_of_ble_eq_true rfl) dX8_init_6 (fun q_1 a_2 H hK hP hD hS => ?_)
  have hK : va_K D vwCl [(a_2, .object "DotBench$Sheet")] s := hK
  have hP : va_P D vwCl [(h0, .inr (8, [.null, .null, .null, .null, .null, .null, .int 0, .null, .null])), (q_1, .inl (a_2, 4, .inr (.inr (.inr (.inr (fun _ => none))))))] H := hP
  have hD : va_D A [(h0, .inr (8, [.null, .null, .null, .null, .null, .null, .int 0, .null, .null])), (q_1, .inl (a_2, 4, .inr (.inr (.inr (.inr (fun _ => none))))))] := hD
  refine W.widen (k := 1) (n := 4) (by omega) (by omega) ?_
  refine va_putF (D := D) (ci := 8) (v := .ref q_1) (ty := (.array (.object "DotBench$Sheet"))) (C := RX8) (T := TX8) (N := 9) hx hb hts hi_X8 tyX8 tyX8_ok nmX8 hown hK hP hD hS 0 rfl rfl 0 (by decide) (hts _ bw_229) (fun _ h9 => h9) rfl hin rfl (by decide +kernel) rfl rfl (Nat.le_of_ble_eq_true rfl) dX8_init_9 (fun H locs hP hD hS => ?_)
  have hP : va_P D vwCl [(h0, .inr (8, [.ref q_1, .null, .null, .null, .null, .null, .int 0, .null, .null])), (q_1, .inl (a_2, 4, .inr (.inr (.inr (.inr (fun _ => none))))))] H := hP
  have hD : va_D A [(h0, .inr (8, [.ref q_1, .null, .null, .null, .null, .null, .int 0, .null, .null])), (q_1, .inl (a_2, 4, .inr (.inr (.inr (.inr (fun _ => none))))))] := hD
  refine lv_aload_n hx hb dX8_init_12 rfl (lv_at hl 0 rfl) ?_
  refine va_new (ci := 1) (fs := [.null, .int 0, .int 0, .int 0]) (C := RX1) (T := TX1) (N := 4) hx hb hts hi_X1 tyX1 tyX1_ok hown (hts _ bw_230) (hts _ bw_20) (hts _ bw_19) hK hP hD hS hA rfl z_X1 (by rw [hR]; exact Nat.le_of_ble_eq_true rfl) (by rw [hR]; exact Nat.le_of_ble_eq_true rfl) dX8_init_13 (fun q_3 H hP hD hS => ?_)
  have hP : va_P D vwCl [(h0, .inr (8, [.ref q_1, .null, .null, .null, .null, .null, .int 0, .null, .null])), (q_1, .inl (a_2, 4, .inr (.inr (.inr (.inr (fun _ => none)))))), (q_3, .inr (1, [.null, .int 0, .int 0, .int 0]))] H := hP
  have hD : va_D A [(h0, .inr (8, [.ref q_1, .null, .null, .null, .null, .null, .int 0, .null, .null])), (q_1, .inl (a_2, 4, .inr (.inr (.inr (.inr (fun _ => none)))))), (q_3, .inr (1, [.null, .int 0, .int 0, .int 0]))] := hD
  refine W.widen (k := 2) (n := 8) (by omega) (by omega) ?_
  refine lv_dup hx hb dX8_init_16 rfl ?_
  have hPc := hP.sub (ws' := [(q_3, .inr (1, [.null, .int 0, .int 0, .int 0]))]) [2] rfl
  have hDc := hD.sub (ws' := [(q_3, .inr (1, [.null, .int 0, .int 0, .int 0]))]) [2] (by decide) rfl
  have hKc := hK.sub (tys' := []) [] rfl
  have hFc := va_free (wc := [(q_3, .inr (1, [.null, .int 0, .int 0, .int 0]))]) hD hS hA [2] rfl
  refine va_callv (va_runIN (host := RX8) (As := []) (rest := [.ref q_3, .ref h0]) ⟨hx, hb, hml, hown, hts⟩ (k_X1_init l D H.size q_3) ⟨va_cnB 0 hts (gI bw_21) rfl rfl rfl (hN.2.1 (RX8, 17, yX1_init, RX8) (by decide +kernel)) (hts _ bw_19) (by decide +kernel) ⟨(by rw [hR]; exact Nat.le_of_ble_eq_true rfl), (by rw [hR]; exact Nat.le_of_ble_eq_true rfl)⟩, rfl, (hts _ bw_22)⟩ ⟨cP_blind, cP_at hPc hKc hDc hN⟩ rfl rfl hl.1 rfl (lv_room (Nat.le_of_ble_eq_true rfl)) dX8_init_17 ⟨(by rw [hR]; exact Nat.le_of_ble_eq_true rfl), (by rw [hR]; exact Nat.le_of_ble_eq_true rfl)⟩) hS (fun q _ h => hFc q h) hFc (fun u9 t9 H1 locs ht hvm hr_4 hB hz1 hk1 hS => ?_)
  try dsimp only at hr_4
  obtain ⟨q_5, hP1, hK1, hD1⟩ := hB
  rw [ht] at hP1
  obtain ⟨hP, hD⟩ := va_join (wr := [(h0, .inr (8, [.ref q_1, .null, .null, .null, .null, .null, .int 0, .null, .null])), (q_1, .inl (a_2, 4, .inr (.inr (.inr (.inr (fun _ => none))))))]) (w1 := [(q_3, .inr (1, [.ref q_5, .int (-1), .int 3, .int 255])), (q_5, .inr (0, [.int 0, .int 0, .int 63, .int 63]))]) hP hD [2] [0, 1] rfl rfl (by decide) (by decide) hk1 hFc hP1 hD1
  clear hz1 hk1 hFc hKc hDc hPc
  generalize H1 = H at hP hS ⊢
  have hP : va_P D vwCl [(h0, .inr (8, [.ref q_1, .null, .null, .null, .null, .null, .int 0, .null, .null])), (q_1, .inl (a_2, 4, .inr (.inr (.inr (.inr (fun _ => none)))))), (q_3, .inr (1, [.ref q_5, .int (-1), .int 3, .int 255])), (q_5, .inr (0, [.int 0, .int 0, .int 63, .int 63]))] H := hP
  have hD : va_D A [(h0, .inr (8, [.ref q_1, .null, .null, .null, .null, .null, .int 0, .null, .null])), (q_1, .inl (a_2, 4, .inr (.inr (.inr (.inr (fun _ => none)))))), (q_3, .inr (1, [.ref q_5, .int (-1), .int 3, .int 255])), (q_5, .inr (0, [.int 0, .int 0, .int 63, .int 63]))] := hD
  refine W.widen (k := 3) (n := 12) (by omega) (by omega) ?_
  refine va_putF (D := D) (ci := 8) (v := .ref q_3) (ty := (.object "DotBench$Brush")) (C := RX8) (T := TX8) (N := 9) hx hb hts hi_X8 tyX8 tyX8_ok nmX8 hown hK hP hD hS 0 rfl rfl 1 (by decide) (hts _ bw_231) (fun _ h9 => h9) rfl hin rfl (by decide +kernel) rfl rfl (Nat.le_of_ble_eq_true rfl) dX8_init_20 (fun H locs hP hD hS => ?_)
  have hP : va_P D vwCl [(h0, .inr (8, [.ref q_1, .ref q_3, .null, .null, .null, .null, .int 0, .null, .null])), (q_1, .inl (a_2, 4, .inr (.inr (.inr (.inr (fun _ => none)))))), (q_3, .inr (1, [.ref q_5, .int (-1), .int 3, .int 255])), (q_5, .inr (0, [.int 0, .int 0, .int 63, .int 63]))] H := hP
  have hD : va_D A [(h0, .inr (8, [.ref q_1, .ref q_3, .null, .null, .null, .null, .int 0, .null, .null])), (q_1, .inl (a_2, 4, .inr (.inr (.inr (.inr (fun _ => none)))))), (q_3, .inr (1, [.ref q_5, .int (-1), .int 3, .int 255])), (q_5, .inr (0, [.int 0, .int 0, .int 63, .int 63]))] := hD
  refine lv_aload_n hx hb dX8_init_23 rfl (lv_at hl 0 rfl) ?_
  refine va_new (ci := 0) (fs := [.int 0, .int 0, .int 0, .int 0]) (C := RX0) (T := TX0) (N := 4) hx hb hts hi_X0 tyX0 tyX0_ok hown (hts _ bw_232) (hts _ bw_5) (hts _ bw_4) hK hP hD hS hA rfl z_X0 (by rw [hR]; exact Nat.le_of_ble_eq_true rfl) (by rw [hR]; exact Nat.le_of_ble_eq_true rfl) dX8_init_24 (fun q_6 H hP hD hS => ?_)
  have hP : va_P D vwCl [(h0, .inr (8, [.ref q_1, .ref q_3, .null, .null, .null, .null, .int 0, .null, .null])), (q_1, .inl (a_2, 4, .inr (.inr (.inr (.inr (fun _ => none)))))), (q_3, .inr (1, [.ref q_5, .int (-1), .int 3, .int 255])), (q_5, .inr (0, [.int 0, .int 0, .int 63, .int 63])), (q_6, .inr (0, [.int 0, .int 0, .int 0, .int 0]))] H := hP
  have hD : va_D A [(h0, .inr (8, [.ref q_1, .ref q_3, .null, .null, .null, .null, .int 0, .null, .null])), (q_1, .inl (a_2, 4, .inr (.inr (.inr (.inr (fun _ => none)))))), (q_3, .inr (1, [.ref q_5, .int (-1), .int 3, .int 255])), (q_5, .inr (0, [.int 0, .int 0, .int 63, .int 63])), (q_6, .inr (0, [.int 0, .int 0, .int 0, .int 0]))] := hD
  refine W.widen (k := 4) (n := 16) (by omega) (by omega) ?_
  refine lv_dup hx hb dX8_init_27 rfl ?_
  have hPc := hP.sub (ws' := [(q_6, .inr (0, [.int 0, .int 0, .int 0, .int 0]))]) [4] rfl
  have hDc := hD.sub (ws' := [(q_6, .inr (0, [.int 0, .int 0, .int 0, .int 0]))]) [4] (by decide) rfl
  have hKc := hK.sub (tys' := []) [] rfl
  have hFc := va_free (wc := [(q_6, .inr (0, [.int 0, .int 0, .int 0, .int 0]))]) hD hS hA [4] rfl
  refine va_callv (va_runIN (host := RX8) (As := []) (rest := [.ref q_6, .ref h0]) ⟨hx, hb, hml, hown, hts⟩ (k_X0_init l D H.size q_6) ⟨va_cnB 0 hts (gI bw_6) rfl rfl rfl (hN.2.1 (RX8, 24, yX0_init, RX8) (by decide +kernel)) (hts _ bw_4) (by decide +kernel) ⟨(by rw [hR]; exact Nat.le_of_ble_eq_true rfl), (by rw [hR]; exact Nat.le_of_ble_eq_true rfl)⟩, rfl, (hts _ bw_7)⟩ ⟨cP_blind, cP_at hPc hKc hDc hN⟩ rfl rfl hl.1 rfl (lv_room (Nat.le_of_ble_eq_true rfl)) dX8_init_28 ⟨(by rw [hR]; exact Nat.le_of_ble_eq_true rfl), (by rw [hR]; exact Nat.le_of_ble_eq_true rfl)⟩) hS (fun q _ h => hFc q h) hFc (fun u9 t9 H1 locs ht hvm hr_7 hB hz1 hk1 hS => ?_)
  try dsimp only at hr_7
  obtain ⟨hP1, hK1, hD1⟩ := hB
  rw [ht] at hP1
  obtain ⟨hP, hD⟩ := va_join (wr := [(h0, .inr (8, [.ref q_1, .ref q_3, .null, .null, .null, .null, .int 0, .null, .null])), (q_1, .inl (a_2, 4, .inr (.inr (.inr (.inr (fun _ => none)))))), (q_3, .inr (1, [.ref q_5, .int (-1), .int 3, .int 255])), (q_5, .inr (0, [.int 0, .int 0, .int 63, .int 63]))]) (w1 := [(q_6, .inr (0, [.int 0, .int 0, .int 63, .int 63]))]) hP hD [4] [0, 1, 2, 3] rfl rfl (by decide) (by decide) hk1 hFc hP1 hD1
  clear hz1 hk1 hFc hKc hDc hPc
  generalize H1 = H at hP hS ⊢
  have hP : va_P D vwCl [(h0, .inr (8, [.ref q_1, .ref q_3, .null, .null, .null, .null, .int 0, .null, .null])), (q_1, .inl (a_2, 4, .inr (.inr (.inr (.inr (fun _ => none)))))), (q_3, .inr (1, [.ref q_5, .int (-1), .int 3, .int 255])), (q_5, .inr (0, [.int 0, .int 0, .int 63, .int 63])), (q_6, .inr (0, [.int 0, .int 0, .int 63, .int 63]))] H := hP
  have hD : va_D A [(h0, .inr (8, [.ref q_1, .ref q_3, .null, .null, .null, .null, .int 0, .null, .null])), (q_1, .inl (a_2, 4, .inr (.inr (.inr (.inr (fun _ => none)))))), (q_3, .inr (1, [.ref q_5, .int (-1), .int 3, .int 255])), (q_5, .inr (0, [.int 0, .int 0, .int 63, .int 63])), (q_6, .inr (0, [.int 0, .int 0, .int 63, .int 63]))] := hD
  refine va_putF (D := D) (ci := 8) (v := .ref q_6) (ty := (.object "DotBench$Box")) (C := RX8) (T := TX8) (N := 9) hx hb hts hi_X8 tyX8 tyX8_ok nmX8 hown hK hP hD hS 0 rfl rfl 2 (by decide) (hts _ bw_233) (fun _ h9 => h9) rfl hin rfl (by decide +kernel) rfl rfl (Nat.le_of_ble_eq_true rfl) dX8_init_31 (fun H locs hP hD hS => ?_)
  have hP : va_P D vwCl [(h0, .inr (8, [.ref q_1, .ref q_3, .ref q_6, .null, .null, .null, .int 0, .null, .null])), (q_1, .inl (a_2, 4, .inr (.inr (.inr (.inr (fun _ => none)))))), (q_3, .inr (1, [.ref q_5, .int (-1), .int 3, .int 255])), (q_5, .inr (0, [.int 0, .int 0, .int 63, .int 63])), (q_6, .inr (0, [.int 0, .int 0, .int 63, .int 63]))] H := hP
  have hD : va_D A [(h0, .inr (8, [.ref q_1, .ref q_3, .ref q_6, .null, .null, .null, .int 0, .null, .null])), (q_1, .inl (a_2, 4, .inr (.inr (.inr (.inr (fun _ => none)))))), (q_3, .inr (1, [.ref q_5, .int (-1), .int 3, .int 255])), (q_5, .inr (0, [.int 0, .int 0, .int 63, .int 63])), (q_6, .inr (0, [.int 0, .int 0, .int 63, .int 63]))] := hD
  refine lv_aload_n hx hb dX8_init_34 rfl (lv_at hl 0 rfl) ?_
  refine va_new (ci := 3) (fs := [.null, .null, .null, .null, .int 0, .int 0, .int 0]) (C := RX3) (T := TX3) (N := 7) hx hb hts hi_X3 tyX3 tyX3_ok hown (hts _ bw_234) (hts _ bw_68) (hts _ bw_67) hK hP hD hS hA rfl z_X3 (by rw [hR]; exact Nat.le_of_ble_eq_true rfl) (by rw [hR]; exact Nat.le_of_ble_eq_true rfl) dX8_init_35 (fun q_8 H hP hD hS => ?_)
  have hP : va_P D vwCl [(h0, .inr (8, [.ref q_1, .ref q_3, .ref q_6, .null, .null, .null, .int 0, .null, .null])), (q_1, .inl (a_2, 4, .inr (.inr (.inr (.inr (fun _ => none)))))), (q_3, .inr (1, [.ref q_5, .int (-1), .int 3, .int 255])), (q_5, .inr (0, [.int 0, .int 0, .int 63, .int 63])), (q_6, .inr (0, [.int 0, .int 0, .int 63, .int 63])), (q_8, .inr (3, [.null, .null, .null, .null, .int 0, .int 0, .int 0]))] H := hP
  have hD : va_D A [(h0, .inr (8, [.ref q_1, .ref q_3, .ref q_6, .null, .null, .null, .int 0, .null, .null])), (q_1, .inl (a_2, 4, .inr (.inr (.inr (.inr (fun _ => none)))))), (q_3, .inr (1, [.ref q_5, .int (-1), .int 3, .int 255])), (q_5, .inr (0, [.int 0, .int 0, .int 63, .int 63])), (q_6, .inr (0, [.int 0, .int 0, .int 63, .int 63])), (q_8, .inr (3, [.null, .null, .null, .null, .int 0, .int 0, .int 0]))] := hD
  refine W.widen (k := 5) (n := 23) (by omega) (by omega) ?_
  refine lv_dup hx hb dX8_init_38 rfl ?_
  have hPc := hP.sub (ws' := [(q_8, .inr (3, [.null, .null, .null, .null, .int 0, .int 0, .int 0]))]) [5] rfl
  have hDc := hD.sub (ws' := [(q_8, .inr (3, [.null, .null, .null, .null, .int 0, .int 0, .int 0]))]) [5] (by decide) rfl
  have hKc := hK.sub (tys' := []) [] rfl
  have hFc := va_free (wc := [(q_8, .inr (3, [.null, .null, .null, .null, .int 0, .int 0, .int 0]))]) hD hS hA [5] rfl
  refine va_callv (va_runIN (host := RX8) (As := []) (rest := [.ref q_8, .ref h0]) ⟨hx, hb, hml, hown, hts⟩ (k_X3_init l D H.size q_8) ⟨va_cnB 0 hts (gI bw_69) rfl rfl rfl (hN.2.1 (RX8, 31, yX3_init, RX8) (by decide +kernel)) (hts _ bw_67) (by decide +kernel) ⟨(by rw [hR]; exact Nat.le_of_ble_eq_true rfl), (by rw [hR]; exact Nat.le_of_ble_eq_true rfl)⟩, rfl, (hts _ bw_70)⟩ ⟨cP_blind, cP_at hPc hKc hDc hN⟩ rfl rfl hl.1 rfl (lv_room (Nat.le_of_ble_eq_true rfl)) dX8_init_39 ⟨(by rw [hR]; exact Nat.le_of_ble_eq_true rfl), (by rw [hR]; exact Nat.le_of_ble_eq_true rfl)⟩) hS (fun q _ h => hFc q h) hFc (fun u9 t9 H1 locs ht hvm hr_9 hB hz1 hk1 hS => ?_)
  try dsimp only at hr_9
  obtain ⟨q_10, q_11, q_12, q_13, a_14, hP1, hK1, hD1⟩ := hB
  rw [ht] at hP1
  have hK : va_K D vwCl [(a_2, .object "DotBench$Sheet"), (a_14, .int)] s := hK.app (va_K.moved hvm.symm hK1)
  have hK := hK.sub (tys' := [(a_2, .object "DotBench$Sheet"), (a_14, .int)]) [0, 1] rfl
  obtain ⟨hP, hD⟩ := va_join (wr := [(h0, .inr (8, [.ref q_1, .ref q_3, .ref q_6, .null, .null, .null, .int 0, .null, .null])), (q_1, .inl (a_2, 4, .inr (.inr (.inr (.inr (fun _ => none)))))), (q_3, .inr (1, [.ref q_5, .int (-1), .int 3, .int 255])), (q_5, .inr (0, [.int 0, .int 0, .int 63, .int 63])), (q_6, .inr (0, [.int 0, .int 0, .int 63, .int 63]))]) (w1 := [(q_8, .inr (3, [.ref q_10, .ref q_11, .ref q_12, .ref q_13, .int 0, .int 0, .int 0])), (q_10, .inl (a_14, 48, .inl (fun _ => 0))), (q_11, .inl (a_14, 48, .inl (fun _ => 0))), (q_12, .inl (a_14, 48, .inl (fun _ => 0))), (q_13, .inl (a_14, 48, .inl (fun _ => 0)))]) hP hD [5] [0, 1, 2, 3, 4] rfl rfl (by decide) (by decide) hk1 hFc hP1 hD1
  clear hz1 hk1 hFc hKc hDc hPc
  generalize H1 = H at hP hS ⊢
  have hP : va_P D vwCl [(h0, .inr (8, [.ref q_1, .ref q_3, .ref q_6, .null, .null, .null, .int 0, .null, .null])), (q_1, .inl (a_2, 4, .inr (.inr (.inr (.inr (fun _ => none)))))), (q_3, .inr (1, [.ref q_5, .int (-1), .int 3, .int 255])), (q_5, .inr (0, [.int 0, .int 0, .int 63, .int 63])), (q_6, .inr (0, [.int 0, .int 0, .int 63, .int 63])), (q_8, .inr (3, [.ref q_10, .ref q_11, .ref q_12, .ref q_13, .int 0, .int 0, .int 0])), (q_10, .inl (a_14, 48, .inl (fun _ => 0))), (q_11, .inl (a_14, 48, .inl (fun _ => 0))), (q_12, .inl (a_14, 48, .inl (fun _ => 0))), (q_13, .inl (a_14, 48, .inl (fun _ => 0)))] H := hP
  have hD : va_D A [(h0, .inr (8, [.ref q_1, .ref q_3, .ref q_6, .null, .null, .null, .int 0, .null, .null])), (q_1, .inl (a_2, 4, .inr (.inr (.inr (.inr (fun _ => none)))))), (q_3, .inr (1, [.ref q_5, .int (-1), .int 3, .int 255])), (q_5, .inr (0, [.int 0, .int 0, .int 63, .int 63])), (q_6, .inr (0, [.int 0, .int 0, .int 63, .int 63])), (q_8, .inr (3, [.ref q_10, .ref q_11, .ref q_12, .ref q_13, .int 0, .int 0, .int 0])), (q_10, .inl (a_14, 48, .inl (fun _ => 0))), (q_11, .inl (a_14, 48, .inl (fun _ => 0))), (q_12, .inl (a_14, 48, .inl (fun _ => 0))), (q_13, .inl (a_14, 48, .inl (fun _ => 0)))] := hD
  refine W.widen (k := 9) (n := 215) (by omega) (by omega) ?_
  refine va_putF (D := D) (ci := 8) (v := .ref q_8) (ty := (.object "DotBench$Path")) (C := RX8) (T := TX8) (N := 9) hx hb hts hi_X8 tyX8 tyX8_ok nmX8 hown hK hP hD hS 0 rfl rfl 3 (by decide) (hts _ bw_235) (fun _ h9 => h9) rfl hin rfl (by decide +kernel) rfl rfl (Nat.le_of_ble_eq_true rfl) dX8_init_42 (fun H locs hP hD hS => ?_)
  have hP : va_P D vwCl [(h0, .inr (8, [.ref q_1, .ref q_3, .ref q_6, .ref q_8, .null, .null, .int 0, .null, .null])), (q_1, .inl (a_2, 4, .inr (.inr (.inr (.inr (fun _ => none)))))), (q_3, .inr (1, [.ref q_5, .int (-1), .int 3, .int 255])), (q_5, .inr (0, [.int 0, .int 0, .int 63, .int 63])), (q_6, .inr (0, [.int 0, .int 0, .int 63, .int 63])), (q_8, .inr (3, [.ref q_10, .ref q_11, .ref q_12, .ref q_13, .int 0, .int 0, .int 0])), (q_10, .inl (a_14, 48, .inl (fun _ => 0))), (q_11, .inl (a_14, 48, .inl (fun _ => 0))), (q_12, .inl (a_14, 48, .inl (fun _ => 0))), (q_13, .inl (a_14, 48, .inl (fun _ => 0)))] H := hP
  have hD : va_D A [(h0, .inr (8, [.ref q_1, .ref q_3, .ref q_6, .ref q_8, .null, .null, .int 0, .null, .null])), (q_1, .inl (a_2, 4, .inr (.inr (.inr (.inr (fun _ => none)))))), (q_3, .inr (1, [.ref q_5, .int (-1), .int 3, .int 255])), (q_5, .inr (0, [.int 0, .int 0, .int 63, .int 63])), (q_6, .inr (0, [.int 0, .int 0, .int 63, .int 63])), (q_8, .inr (3, [.ref q_10, .ref q_11, .ref q_12, .ref q_13, .int 0, .int 0, .int 0])), (q_10, .inl (a_14, 48, .inl (fun _ => 0))), (q_11, .inl (a_14, 48, .inl (fun _ => 0))), (q_12, .inl (a_14, 48, .inl (fun _ => 0))), (q_13, .inl (a_14, 48, .inl (fun _ => 0)))] := hD
  refine lv_aload_n hx hb dX8_init_45 rfl (lv_at hl 0 rfl) ?_
  refine va_new (ci := 7) (fs := [.null, .null, .null, .null]) (C := RX7) (T := TX7) (N := 4) hx hb hts hi_X7 tyX7 tyX7_ok hown (hts _ bw_236) (hts _ bw_196) (hts _ bw_195) hK hP hD hS hA rfl z_X7 (by rw [hR]; exact Nat.le_of_ble_eq_true rfl) (by rw [hR]; exact Nat.le_of_ble_eq_true rfl) dX8_init_46 (fun q_15 H hP hD hS => ?_)
  have hP : va_P D vwCl [(h0, .inr (8, [.ref q_1, .ref q_3, .ref q_6, .ref q_8, .null, .null, .int 0, .null, .null])), (q_1, .inl (a_2, 4, .inr (.inr (.inr (.inr (fun _ => none)))))), (q_3, .inr (1, [.ref q_5, .int (-1), .int 3, .int 255])), (q_5, .inr (0, [.int 0, .int 0, .int 63, .int 63])), (q_6, .inr (0, [.int 0, .int 0, .int 63, .int 63])), (q_8, .inr (3, [.ref q_10, .ref q_11, .ref q_12, .ref q_13, .int 0, .int 0, .int 0])), (q_10, .inl (a_14, 48, .inl (fun _ => 0))), (q_11, .inl (a_14, 48, .inl (fun _ => 0))), (q_12, .inl (a_14, 48, .inl (fun _ => 0))), (q_13, .inl (a_14, 48, .inl (fun _ => 0))), (q_15, .inr (7, [.null, .null, .null, .null]))] H := hP
  have hD : va_D A [(h0, .inr (8, [.ref q_1, .ref q_3, .ref q_6, .ref q_8, .null, .null, .int 0, .null, .null])), (q_1, .inl (a_2, 4, .inr (.inr (.inr (.inr (fun _ => none)))))), (q_3, .inr (1, [.ref q_5, .int (-1), .int 3, .int 255])), (q_5, .inr (0, [.int 0, .int 0, .int 63, .int 63])), (q_6, .inr (0, [.int 0, .int 0, .int 63, .int 63])), (q_8, .inr (3, [.ref q_10, .ref q_11, .ref q_12, .ref q_13, .int 0, .int 0, .int 0])), (q_10, .inl (a_14, 48, .inl (fun _ => 0))), (q_11, .inl (a_14, 48, .inl (fun _ => 0))), (q_12, .inl (a_14, 48, .inl (fun _ => 0))), (q_13, .inl (a_14, 48, .inl (fun _ => 0))), (q_15, .inr (7, [.null, .null, .null, .null]))] := hD
  refine W.widen (k := 10) (n := 219) (by omega) (by omega) ?_
  refine lv_dup hx hb dX8_init_49 rfl ?_
  have hPc := hP.sub (ws' := [(q_15, .inr (7, [.null, .null, .null, .null]))]) [10] rfl
  have hDc := hD.sub (ws' := [(q_15, .inr (7, [.null, .null, .null, .null]))]) [10] (by decide) rfl
  have hKc := hK.sub (tys' := []) [] rfl
  have hFc := va_free (wc := [(q_15, .inr (7, [.null, .null, .null, .null]))]) hD hS hA [10] rfl
  refine va_callv (va_runIN (host := RX8) (As := []) (rest := [.ref q_15, .ref h0]) ⟨hx, hb, hml, hown, hts⟩ (k_X7_init l D H.size q_15) ⟨va_cnB 0 hts (gI bw_197) rfl rfl rfl (hN.2.1 (RX8, 38, yX7_init, RX8) (by decide +kernel)) (hts _ bw_195) (by decide +kernel) ⟨(by rw [hR]; exact Nat.le_of_ble_eq_true rfl), (by rw [hR]; exact Nat.le_of_ble_eq_true rfl)⟩, rfl, (hts _ bw_198)⟩ ⟨cP_blind, cP_at hPc hKc hDc hN⟩ rfl rfl hl.1 rfl (lv_room (Nat.le_of_ble_eq_true rfl)) dX8_init_50 ⟨(by rw [hR]; exact Nat.le_of_ble_eq_true rfl), (by rw [hR]; exact Nat.le_of_ble_eq_true rfl)⟩) hS (fun q _ h => hFc q h) hFc (fun u9 t9 H1 locs ht hvm hr_16 hB hz1 hk1 hS => ?_)
  try dsimp only at hr_16
  obtain ⟨q_17, q_18, q_19, q_20, q_21, q_22, q_23, q_24, a_25, hP1, hK1, hD1⟩ := hB
  rw [ht] at hP1
  have hK : va_K D vwCl [(a_2, .object "DotBench$Sheet"), (a_14, .int), (a_25, .int)] s := hK.app (va_K.moved hvm.symm hK1)
  obtain rfl : a_14 = a_25 := my_sameI hK 1 2 rfl rfl
  have hK := hK.sub (tys' := [(a_2, .object "DotBench$Sheet"), (a_14, .int)]) [0, 1] rfl
  obtain ⟨hP, hD⟩ := va_join (wr := [(h0, .inr (8, [.ref q_1, .ref q_3, .ref q_6, .ref q_8, .null, .null, .int 0, .null, .null])), (q_1, .inl (a_2, 4, .inr (.inr (.inr (.inr (fun _ => none)))))), (q_3, .inr (1, [.ref q_5, .int (-1), .int 3, .int 255])), (q_5, .inr (0, [.int 0, .int 0, .int 63, .int 63])), (q_6, .inr (0, [.int 0, .int 0, .int 63, .int 63])), (q_8, .inr (3, [.ref q_10, .ref q_11, .ref q_12, .ref q_13, .int 0, .int 0, .int 0])), (q_10, .inl (a_14, 48, .inl (fun _ => 0))), (q_11, .inl (a_14, 48, .inl (fun _ => 0))), (q_12, .inl (a_14, 48, .inl (fun _ => 0))), (q_13, .inl (a_14, 48, .inl (fun _ => 0)))]) (w1 := [(q_15, .inr (7, [.ref q_17, .ref q_18, .ref q_19, .ref q_20])), (q_17, .inl (a_14, 3, .inl (fun _ => 0))), (q_18, .inl (a_14, 3, .inl (fun _ => 0))), (q_19, .inl (a_14, 3, .inl (fun _ => 0))), (q_20, .inr (3, [.ref q_21, .ref q_22, .ref q_23, .ref q_24, .int 0, .int 0, .int 0])), (q_21, .inl (a_14, 48, .inl (fun _ => 0))), (q_22, .inl (a_14, 48, .inl (fun _ => 0))), (q_23, .inl (a_14, 48, .inl (fun _ => 0))), (q_24, .inl (a_14, 48, .inl (fun _ => 0)))]) hP hD [10] [0, 1, 2, 3, 4, 5, 6, 7, 8, 9] rfl rfl (by decide) (by decide) hk1 hFc hP1 hD1
  clear hz1 hk1 hFc hKc hDc hPc
  generalize H1 = H at hP hS ⊢
  have hP : va_P D vwCl [(h0, .inr (8, [.ref q_1, .ref q_3, .ref q_6, .ref q_8, .null, .null, .int 0, .null, .null])), (q_1, .inl (a_2, 4, .inr (.inr (.inr (.inr (fun _ => none)))))), (q_3, .inr (1, [.ref q_5, .int (-1), .int 3, .int 255])), (q_5, .inr (0, [.int 0, .int 0, .int 63, .int 63])), (q_6, .inr (0, [.int 0, .int 0, .int 63, .int 63])), (q_8, .inr (3, [.ref q_10, .ref q_11, .ref q_12, .ref q_13, .int 0, .int 0, .int 0])), (q_10, .inl (a_14, 48, .inl (fun _ => 0))), (q_11, .inl (a_14, 48, .inl (fun _ => 0))), (q_12, .inl (a_14, 48, .inl (fun _ => 0))), (q_13, .inl (a_14, 48, .inl (fun _ => 0))), (q_15, .inr (7, [.ref q_17, .ref q_18, .ref q_19, .ref q_20])), (q_17, .inl (a_14, 3, .inl (fun _ => 0))), (q_18, .inl (a_14, 3, .inl (fun _ => 0))), (q_19, .inl (a_14, 3, .inl (fun _ => 0))), (q_20, .inr (3, [.ref q_21, .ref q_22, .ref q_23, .ref q_24, .int 0, .int 0, .int 0])), (q_21, .inl (a_14, 48, .inl (fun _ => 0))), (q_22, .inl (a_14, 48, .inl (fun _ => 0))), (q_23, .inl (a_14, 48, .inl (fun _ => 0))), (q_24, .inl (a_14, 48, .inl (fun _ => 0)))] H := hP
  have hD : va_D A [(h0, .inr (8, [.ref q_1, .ref q_3, .ref q_6, .ref q_8, .null, .null, .int 0, .null, .null])), (q_1, .inl (a_2, 4, .inr (.inr (.inr (.inr (fun _ => none)))))), (q_3, .inr (1, [.ref q_5, .int (-1), .int 3, .int 255])), (q_5, .inr (0, [.int 0, .int 0, .int 63, .int 63])), (q_6, .inr (0, [.int 0, .int 0, .int 63, .int 63])), (q_8, .inr (3, [.ref q_10, .ref q_11, .ref q_12, .ref q_13, .int 0, .int 0, .int 0])), (q_10, .inl (a_14, 48, .inl (fun _ => 0))), (q_11, .inl (a_14, 48, .inl (fun _ => 0))), (q_12, .inl (a_14, 48, .inl (fun _ => 0))), (q_13, .inl (a_14, 48, .inl (fun _ => 0))), (q_15, .inr (7, [.ref q_17, .ref q_18, .ref q_19, .ref q_20])), (q_17, .inl (a_14, 3, .inl (fun _ => 0))), (q_18, .inl (a_14, 3, .inl (fun _ => 0))), (q_19, .inl (a_14, 3, .inl (fun _ => 0))), (q_20, .inr (3, [.ref q_21, .ref q_22, .ref q_23, .ref q_24, .int 0, .int 0, .int 0])), (q_21, .inl (a_14, 48, .inl (fun _ => 0))), (q_22, .inl (a_14, 48, .inl (fun _ => 0))), (q_23, .inl (a_14, 48, .inl (fun _ => 0))), (q_24, .inl (a_14, 48, .inl (fun _ => 0)))] := hD
  refine W.widen (k := 18) (n := 427) (by omega) (by omega) ?_
  refine va_putF (D := D) (ci := 8) (v := .ref q_15) (ty := (.object "DotBench$Triangle")) (C := RX8) (T := TX8) (N := 9) hx hb hts hi_X8 tyX8 tyX8_ok nmX8 hown hK hP hD hS 0 rfl rfl 4 (by decide) (hts _ bw_237) (fun _ h9 => h9) rfl hin rfl (by decide +kernel) rfl rfl (Nat.le_of_ble_eq_true rfl) dX8_init_53 (fun H locs hP hD hS => ?_)
  have hP : va_P D vwCl [(h0, .inr (8, [.ref q_1, .ref q_3, .ref q_6, .ref q_8, .ref q_15, .null, .int 0, .null, .null])), (q_1, .inl (a_2, 4, .inr (.inr (.inr (.inr (fun _ => none)))))), (q_3, .inr (1, [.ref q_5, .int (-1), .int 3, .int 255])), (q_5, .inr (0, [.int 0, .int 0, .int 63, .int 63])), (q_6, .inr (0, [.int 0, .int 0, .int 63, .int 63])), (q_8, .inr (3, [.ref q_10, .ref q_11, .ref q_12, .ref q_13, .int 0, .int 0, .int 0])), (q_10, .inl (a_14, 48, .inl (fun _ => 0))), (q_11, .inl (a_14, 48, .inl (fun _ => 0))), (q_12, .inl (a_14, 48, .inl (fun _ => 0))), (q_13, .inl (a_14, 48, .inl (fun _ => 0))), (q_15, .inr (7, [.ref q_17, .ref q_18, .ref q_19, .ref q_20])), (q_17, .inl (a_14, 3, .inl (fun _ => 0))), (q_18, .inl (a_14, 3, .inl (fun _ => 0))), (q_19, .inl (a_14, 3, .inl (fun _ => 0))), (q_20, .inr (3, [.ref q_21, .ref q_22, .ref q_23, .ref q_24, .int 0, .int 0, .int 0])), (q_21, .inl (a_14, 48, .inl (fun _ => 0))), (q_22, .inl (a_14, 48, .inl (fun _ => 0))), (q_23, .inl (a_14, 48, .inl (fun _ => 0))), (q_24, .inl (a_14, 48, .inl (fun _ => 0)))] H := hP
  have hD : va_D A [(h0, .inr (8, [.ref q_1, .ref q_3, .ref q_6, .ref q_8, .ref q_15, .null, .int 0, .null, .null])), (q_1, .inl (a_2, 4, .inr (.inr (.inr (.inr (fun _ => none)))))), (q_3, .inr (1, [.ref q_5, .int (-1), .int 3, .int 255])), (q_5, .inr (0, [.int 0, .int 0, .int 63, .int 63])), (q_6, .inr (0, [.int 0, .int 0, .int 63, .int 63])), (q_8, .inr (3, [.ref q_10, .ref q_11, .ref q_12, .ref q_13, .int 0, .int 0, .int 0])), (q_10, .inl (a_14, 48, .inl (fun _ => 0))), (q_11, .inl (a_14, 48, .inl (fun _ => 0))), (q_12, .inl (a_14, 48, .inl (fun _ => 0))), (q_13, .inl (a_14, 48, .inl (fun _ => 0))), (q_15, .inr (7, [.ref q_17, .ref q_18, .ref q_19, .ref q_20])), (q_17, .inl (a_14, 3, .inl (fun _ => 0))), (q_18, .inl (a_14, 3, .inl (fun _ => 0))), (q_19, .inl (a_14, 3, .inl (fun _ => 0))), (q_20, .inr (3, [.ref q_21, .ref q_22, .ref q_23, .ref q_24, .int 0, .int 0, .int 0])), (q_21, .inl (a_14, 48, .inl (fun _ => 0))), (q_22, .inl (a_14, 48, .inl (fun _ => 0))), (q_23, .inl (a_14, 48, .inl (fun _ => 0))), (q_24, .inl (a_14, 48, .inl (fun _ => 0)))] := hD
  refine lv_aload_n hx hb dX8_init_56 rfl (lv_at hl 0 rfl) ?_
  refine va_new (ci := 4) (fs := [.null, .null]) (C := RX4) (T := TX4) (N := 2) hx hb hts hi_X4 tyX4 tyX4_ok hown (hts _ bw_238) (hts _ bw_112) (hts _ bw_111) hK hP hD hS hA rfl z_X4 (by rw [hR]; exact Nat.le_of_ble_eq_true rfl) (by rw [hR]; exact Nat.le_of_ble_eq_true rfl) dX8_init_57 (fun q_26 H hP hD hS => ?_)
  have hP : va_P D vwCl [(h0, .inr (8, [.ref q_1, .ref q_3, .ref q_6, .ref q_8, .ref q_15, .null, .int 0, .null, .null])), (q_1, .inl (a_2, 4, .inr (.inr (.inr (.inr (fun _ => none)))))), (q_3, .inr (1, [.ref q_5, .int (-1), .int 3, .int 255])), (q_5, .inr (0, [.int 0, .int 0, .int 63, .int 63])), (q_6, .inr (0, [.int 0, .int 0, .int 63, .int 63])), (q_8, .inr (3, [.ref q_10, .ref q_11, .ref q_12, .ref q_13, .int 0, .int 0, .int 0])), (q_10, .inl (a_14, 48, .inl (fun _ => 0))), (q_11, .inl (a_14, 48, .inl (fun _ => 0))), (q_12, .inl (a_14, 48, .inl (fun _ => 0))), (q_13, .inl (a_14, 48, .inl (fun _ => 0))), (q_15, .inr (7, [.ref q_17, .ref q_18, .ref q_19, .ref q_20])), (q_17, .inl (a_14, 3, .inl (fun _ => 0))), (q_18, .inl (a_14, 3, .inl (fun _ => 0))), (q_19, .inl (a_14, 3, .inl (fun _ => 0))), (q_20, .inr (3, [.ref q_21, .ref q_22, .ref q_23, .ref q_24, .int 0, .int 0, .int 0])), (q_21, .inl (a_14, 48, .inl (fun _ => 0))), (q_22, .inl (a_14, 48, .inl (fun _ => 0))), (q_23, .inl (a_14, 48, .inl (fun _ => 0))), (q_24, .inl (a_14, 48, .inl (fun _ => 0))), (q_26, .inr (4, [.null, .null]))] H := hP
  have hD : va_D A [(h0, .inr (8, [.ref q_1, .ref q_3, .ref q_6, .ref q_8, .ref q_15, .null, .int 0, .null, .null])), (q_1, .inl (a_2, 4, .inr (.inr (.inr (.inr (fun _ => none)))))), (q_3, .inr (1, [.ref q_5, .int (-1), .int 3, .int 255])), (q_5, .inr (0, [.int 0, .int 0, .int 63, .int 63])), (q_6, .inr (0, [.int 0, .int 0, .int 63, .int 63])), (q_8, .inr (3, [.ref q_10, .ref q_11, .ref q_12, .ref q_13, .int 0, .int 0, .int 0])), (q_10, .inl (a_14, 48, .inl (fun _ => 0))), (q_11, .inl (a_14, 48, .inl (fun _ => 0))), (q_12, .inl (a_14, 48, .inl (fun _ => 0))), (q_13, .inl (a_14, 48, .inl (fun _ => 0))), (q_15, .inr (7, [.ref q_17, .ref q_18, .ref q_19, .ref q_20])), (q_17, .inl (a_14, 3, .inl (fun _ => 0))), (q_18, .inl (a_14, 3, .inl (fun _ => 0))), (q_19, .inl (a_14, 3, .inl (fun _ => 0))), (q_20, .inr (3, [.ref q_21, .ref q_22, .ref q_23, .ref q_24, .int 0, .int 0, .int 0])), (q_21, .inl (a_14, 48, .inl (fun _ => 0))), (q_22, .inl (a_14, 48, .inl (fun _ => 0))), (q_23, .inl (a_14, 48, .inl (fun _ => 0))), (q_24, .inl (a_14, 48, .inl (fun _ => 0))), (q_26, .inr (4, [.null, .null]))] := hD
  refine W.widen (k := 19) (n := 429) (by omega) (by omega) ?_
  refine lv_dup hx hb dX8_init_60 rfl ?_
  have hPc := hP.sub (ws' := [(q_26, .inr (4, [.null, .null]))]) [19] rfl
  have hDc := hD.sub (ws' := [(q_26, .inr (4, [.null, .null]))]) [19] (by decide) rfl
  have hKc := hK.sub (tys' := []) [] rfl
  have hFc := va_free (wc := [(q_26, .inr (4, [.null, .null]))]) hD hS hA [19] rfl
  refine va_callv (va_runIN (host := RX8) (As := []) (rest := [.ref q_26, .ref h0]) ⟨hx, hb, hml, hown, hts⟩ (k_X4_init l D H.size q_26) ⟨va_cnB 0 hts (gI bw_113) rfl rfl rfl (hN.2.1 (RX8, 45, yX4_init, RX8) (by decide +kernel)) (hts _ bw_111) (by decide +kernel) ⟨(by rw [hR]; exact Nat.le_of_ble_eq_true rfl), (by rw [hR]; exact Nat.le_of_ble_eq_true rfl)⟩, rfl, (hts _ bw_114)⟩ ⟨cP_blind, cP_at hPc hKc hDc hN⟩ rfl rfl hl.1 rfl (lv_room (Nat.le_of_ble_eq_true rfl)) dX8_init_61 ⟨(by rw [hR]; exact Nat.le_of_ble_eq_true rfl), (by rw [hR]; exact Nat.le_of_ble_eq_true rfl)⟩) hS (fun q _ h => hFc q h) hFc (fun u9 t9 H1 locs ht hvm hr_27 hB hz1 hk1 hS => ?_)
  try dsimp only at hr_27
  obtain ⟨q_28, q_29, a_30, hP1, hK1, hD1⟩ := hB
  rw [ht] at hP1
  have hK : va_K D vwCl [(a_2, .object "DotBench$Sheet"), (a_14, .int), (a_30, .int)] s := hK.app (va_K.moved hvm.symm hK1)
  obtain rfl : a_14 = a_30 := my_sameI hK 1 2 rfl rfl
  have hK := hK.sub (tys' := [(a_2, .object "DotBench$Sheet"), (a_14, .int)]) [0, 1] rfl
  obtain ⟨hP, hD⟩ := va_join (wr := [(h0, .inr (8, [.ref q_1, .ref q_3, .ref q_6, .ref q_8, .ref q_15, .null, .int 0, .null, .null])), (q_1, .inl (a_2, 4, .inr (.inr (.inr (.inr (fun _ => none)))))), (q_3, .inr (1, [.ref q_5, .int (-1), .int 3, .int 255])), (q_5, .inr (0, [.int 0, .int 0, .int 63, .int 63])), (q_6, .inr (0, [.int 0, .int 0, .int 63, .int 63])), (q_8, .inr (3, [.ref q_10, .ref q_11, .ref q_12, .ref q_13, .int 0, .int 0, .int 0])), (q_10, .inl (a_14, 48, .inl (fun _ => 0))), (q_11, .inl (a_14, 48, .inl (fun _ => 0))), (q_12, .inl (a_14, 48, .inl (fun _ => 0))), (q_13, .inl (a_14, 48, .inl (fun _ => 0))), (q_15, .inr (7, [.ref q_17, .ref q_18, .ref q_19, .ref q_20])), (q_17, .inl (a_14, 3, .inl (fun _ => 0))), (q_18, .inl (a_14, 3, .inl (fun _ => 0))), (q_19, .inl (a_14, 3, .inl (fun _ => 0))), (q_20, .inr (3, [.ref q_21, .ref q_22, .ref q_23, .ref q_24, .int 0, .int 0, .int 0])), (q_21, .inl (a_14, 48, .inl (fun _ => 0))), (q_22, .inl (a_14, 48, .inl (fun _ => 0))), (q_23, .inl (a_14, 48, .inl (fun _ => 0))), (q_24, .inl (a_14, 48, .inl (fun _ => 0)))]) (w1 := [(q_26, .inr (4, [.ref q_28, .ref q_29])), (q_28, .inl (a_14, 256, .inl (fun _ => 0))), (q_29, .inl (a_14, 64, .inl (fun _ => 0)))]) hP hD [19] [0, 1, 2, 3, 4, 5, 6, 7, 8, 9, 10, 11, 12, 13, 14, 15, 16, 17, 18] rfl rfl (by decide) (by decide) hk1 hFc hP1 hD1
  clear hz1 hk1 hFc hKc hDc hPc
  generalize H1 = H at hP hS ⊢
  have hP : va_P D vwCl [(h0, .inr (8, [.ref q_1, .ref q_3, .ref q_6, .ref q_8, .ref q_15, .null, .int 0, .null, .null])), (q_1, .inl (a_2, 4, .inr (.inr (.inr (.inr (fun _ => none)))))), (q_3, .inr (1, [.ref q_5, .int (-1), .int 3, .int 255])), (q_5, .inr (0, [.int 0, .int 0, .int 63, .int 63])), (q_6, .inr (0, [.int 0, .int 0, .int 63, .int 63])), (q_8, .inr (3, [.ref q_10, .ref q_11, .ref q_12, .ref q_13, .int 0, .int 0, .int 0])), (q_10, .inl (a_14, 48, .inl (fun _ => 0))), (q_11, .inl (a_14, 48, .inl (fun _ => 0))), (q_12, .inl (a_14, 48, .inl (fun _ => 0))), (q_13, .inl (a_14, 48, .inl (fun _ => 0))), (q_15, .inr (7, [.ref q_17, .ref q_18, .ref q_19, .ref q_20])), (q_17, .inl (a_14, 3, .inl (fun _ => 0))), (q_18, .inl (a_14, 3, .inl (fun _ => 0))), (q_19, .inl (a_14, 3, .inl (fun _ => 0))), (q_20, .inr (3, [.ref q_21, .ref q_22, .ref q_23, .ref q_24, .int 0, .int 0, .int 0])), (q_21, .inl (a_14, 48, .inl (fun _ => 0))), (q_22, .inl (a_14, 48, .inl (fun _ => 0))), (q_23, .inl (a_14, 48, .inl (fun _ => 0))), (q_24, .inl (a_14, 48, .inl (fun _ => 0))), (q_26, .inr (4, [.ref q_28, .ref q_29])), (q_28, .inl (a_14, 256, .inl (fun _ => 0))), (q_29, .inl (a_14, 64, .inl (fun _ => 0)))] H := hP
  have hD : va_D A [(h0, .inr (8, [.ref q_1, .ref q_3, .ref q_6, .ref q_8, .ref q_15, .null, .int 0, .null, .null])), (q_1, .inl (a_2, 4, .inr (.inr (.inr (.inr (fun _ => none)))))), (q_3, .inr (1, [.ref q_5, .int (-1), .int 3, .int 255])), (q_5, .inr (0, [.int 0, .int 0, .int 63, .int 63])), (q_6, .inr (0, [.int 0, .int 0, .int 63, .int 63])), (q_8, .inr (3, [.ref q_10, .ref q_11, .ref q_12, .ref q_13, .int 0, .int 0, .int 0])), (q_10, .inl (a_14, 48, .inl (fun _ => 0))), (q_11, .inl (a_14, 48, .inl (fun _ => 0))), (q_12, .inl (a_14, 48, .inl (fun _ => 0))), (q_13, .inl (a_14, 48, .inl (fun _ => 0))), (q_15, .inr (7, [.ref q_17, .ref q_18, .ref q_19, .ref q_20])), (q_17, .inl (a_14, 3, .inl (fun _ => 0))), (q_18, .inl (a_14, 3, .inl (fun _ => 0))), (q_19, .inl (a_14, 3, .inl (fun _ => 0))), (q_20, .inr (3, [.ref q_21, .ref q_22, .ref q_23, .ref q_24, .int 0, .int 0, .int 0])), (q_21, .inl (a_14, 48, .inl (fun _ => 0))), (q_22, .inl (a_14, 48, .inl (fun _ => 0))), (q_23, .inl (a_14, 48, .inl (fun _ => 0))), (q_24, .inl (a_14, 48, .inl (fun _ => 0))), (q_26, .inr (4, [.ref q_28, .ref q_29])), (q_28, .inl (a_14, 256, .inl (fun _ => 0))), (q_29, .inl (a_14, 64, .inl (fun _ => 0)))] := hD
  refine W.widen (k := 21) (n := 749) (by omega) (by omega) ?_
  refine va_putF (D := D) (ci := 8) (v := .ref q_26) (ty := (.object "DotBench$Scan")) (C := RX8) (T := TX8) (N := 9) hx hb hts hi_X8 tyX8 tyX8_ok nmX8 hown hK hP hD hS 0 rfl rfl 5 (by decide) (hts _ bw_239) (fun _ h9 => h9) rfl hin rfl (by decide +kernel) rfl rfl (Nat.le_of_ble_eq_true rfl) dX8_init_64 (fun H locs hP hD hS => ?_)
  have hP : va_P D vwCl [(h0, .inr (8, [.ref q_1, .ref q_3, .ref q_6, .ref q_8, .ref q_15, .ref q_26, .int 0, .null, .null])), (q_1, .inl (a_2, 4, .inr (.inr (.inr (.inr (fun _ => none)))))), (q_3, .inr (1, [.ref q_5, .int (-1), .int 3, .int 255])), (q_5, .inr (0, [.int 0, .int 0, .int 63, .int 63])), (q_6, .inr (0, [.int 0, .int 0, .int 63, .int 63])), (q_8, .inr (3, [.ref q_10, .ref q_11, .ref q_12, .ref q_13, .int 0, .int 0, .int 0])), (q_10, .inl (a_14, 48, .inl (fun _ => 0))), (q_11, .inl (a_14, 48, .inl (fun _ => 0))), (q_12, .inl (a_14, 48, .inl (fun _ => 0))), (q_13, .inl (a_14, 48, .inl (fun _ => 0))), (q_15, .inr (7, [.ref q_17, .ref q_18, .ref q_19, .ref q_20])), (q_17, .inl (a_14, 3, .inl (fun _ => 0))), (q_18, .inl (a_14, 3, .inl (fun _ => 0))), (q_19, .inl (a_14, 3, .inl (fun _ => 0))), (q_20, .inr (3, [.ref q_21, .ref q_22, .ref q_23, .ref q_24, .int 0, .int 0, .int 0])), (q_21, .inl (a_14, 48, .inl (fun _ => 0))), (q_22, .inl (a_14, 48, .inl (fun _ => 0))), (q_23, .inl (a_14, 48, .inl (fun _ => 0))), (q_24, .inl (a_14, 48, .inl (fun _ => 0))), (q_26, .inr (4, [.ref q_28, .ref q_29])), (q_28, .inl (a_14, 256, .inl (fun _ => 0))), (q_29, .inl (a_14, 64, .inl (fun _ => 0)))] H := hP
  have hD : va_D A [(h0, .inr (8, [.ref q_1, .ref q_3, .ref q_6, .ref q_8, .ref q_15, .ref q_26, .int 0, .null, .null])), (q_1, .inl (a_2, 4, .inr (.inr (.inr (.inr (fun _ => none)))))), (q_3, .inr (1, [.ref q_5, .int (-1), .int 3, .int 255])), (q_5, .inr (0, [.int 0, .int 0, .int 63, .int 63])), (q_6, .inr (0, [.int 0, .int 0, .int 63, .int 63])), (q_8, .inr (3, [.ref q_10, .ref q_11, .ref q_12, .ref q_13, .int 0, .int 0, .int 0])), (q_10, .inl (a_14, 48, .inl (fun _ => 0))), (q_11, .inl (a_14, 48, .inl (fun _ => 0))), (q_12, .inl (a_14, 48, .inl (fun _ => 0))), (q_13, .inl (a_14, 48, .inl (fun _ => 0))), (q_15, .inr (7, [.ref q_17, .ref q_18, .ref q_19, .ref q_20])), (q_17, .inl (a_14, 3, .inl (fun _ => 0))), (q_18, .inl (a_14, 3, .inl (fun _ => 0))), (q_19, .inl (a_14, 3, .inl (fun _ => 0))), (q_20, .inr (3, [.ref q_21, .ref q_22, .ref q_23, .ref q_24, .int 0, .int 0, .int 0])), (q_21, .inl (a_14, 48, .inl (fun _ => 0))), (q_22, .inl (a_14, 48, .inl (fun _ => 0))), (q_23, .inl (a_14, 48, .inl (fun _ => 0))), (q_24, .inl (a_14, 48, .inl (fun _ => 0))), (q_26, .inr (4, [.ref q_28, .ref q_29])), (q_28, .inl (a_14, 256, .inl (fun _ => 0))), (q_29, .inl (a_14, 64, .inl (fun _ => 0)))] := hD
  refine lv_aload_n hx hb dX8_init_67 rfl (lv_at hl 0 rfl) ?_
  refine lv_ldc hx hb hown (hts _ bw_240) dX8_init_68 ?_
  refine va_put (D := D) (ci := 8) (v := .int 65535) (ty := .int) (C := RX8) (T := TX8) (N := 9) hx hb hts hi_X8 tyX8 tyX8_ok nmX8 hown hK hP hD hS 0 rfl rfl 6 (by decide) (hts _ bw_241) (fun _ h9 => h9) rfl (by decide +kernel) rfl rfl (Nat.le_of_ble_eq_true rfl) dX8_init_70 (fun H locs hP hD hS => ?_)
  have hP : va_P D vwCl [(h0, .inr (8, [.ref q_1, .ref q_3, .ref q_6, .ref q_8, .ref q_15, .ref q_26, .int 65535, .null, .null])), (q_1, .inl (a_2, 4, .inr (.inr (.inr (.inr (fun _ => none)))))), (q_3, .inr (1, [.ref q_5, .int (-1), .int 3, .int 255])), (q_5, .inr (0, [.int 0, .int 0, .int 63, .int 63])), (q_6, .inr (0, [.int 0, .int 0, .int 63, .int 63])), (q_8, .inr (3, [.ref q_10, .ref q_11, .ref q_12, .ref q_13, .int 0, .int 0, .int 0])), (q_10, .inl (a_14, 48, .inl (fun _ => 0))), (q_11, .inl (a_14, 48, .inl (fun _ => 0))), (q_12, .inl (a_14, 48, .inl (fun _ => 0))), (q_13, .inl (a_14, 48, .inl (fun _ => 0))), (q_15, .inr (7, [.ref q_17, .ref q_18, .ref q_19, .ref q_20])), (q_17, .inl (a_14, 3, .inl (fun _ => 0))), (q_18, .inl (a_14, 3, .inl (fun _ => 0))), (q_19, .inl (a_14, 3, .inl (fun _ => 0))), (q_20, .inr (3, [.ref q_21, .ref q_22, .ref q_23, .ref q_24, .int 0, .int 0, .int 0])), (q_21, .inl (a_14, 48, .inl (fun _ => 0))), (q_22, .inl (a_14, 48, .inl (fun _ => 0))), (q_23, .inl (a_14, 48, .inl (fun _ => 0))), (q_24, .inl (a_14, 48, .inl (fun _ => 0))), (q_26, .inr (4, [.ref q_28, .ref q_29])), (q_28, .inl (a_14, 256, .inl (fun _ => 0))), (q_29, .inl (a_14, 64, .inl (fun _ => 0)))] H := hP
  have hD : va_D A [(h0, .inr (8, [.ref q_1, .ref q_3, .ref q_6, .ref q_8, .ref q_15, .ref q_26, .int 65535, .null, .null])), (q_1, .inl (a_2, 4, .inr (.inr (.inr (.inr (fun _ => none)))))), (q_3, .inr (1, [.ref q_5, .int (-1), .int 3, .int 255])), (q_5, .inr (0, [.int 0, .int 0, .int 63, .int 63])), (q_6, .inr (0, [.int 0, .int 0, .int 63, .int 63])), (q_8, .inr (3, [.ref q_10, .ref q_11, .ref q_12, .ref q_13, .int 0, .int 0, .int 0])), (q_10, .inl (a_14, 48, .inl (fun _ => 0))), (q_11, .inl (a_14, 48, .inl (fun _ => 0))), (q_12, .inl (a_14, 48, .inl (fun _ => 0))), (q_13, .inl (a_14, 48, .inl (fun _ => 0))), (q_15, .inr (7, [.ref q_17, .ref q_18, .ref q_19, .ref q_20])), (q_17, .inl (a_14, 3, .inl (fun _ => 0))), (q_18, .inl (a_14, 3, .inl (fun _ => 0))), (q_19, .inl (a_14, 3, .inl (fun _ => 0))), (q_20, .inr (3, [.ref q_21, .ref q_22, .ref q_23, .ref q_24, .int 0, .int 0, .int 0])), (q_21, .inl (a_14, 48, .inl (fun _ => 0))), (q_22, .inl (a_14, 48, .inl (fun _ => 0))), (q_23, .inl (a_14, 48, .inl (fun _ => 0))), (q_24, .inl (a_14, 48, .inl (fun _ => 0))), (q_26, .inr (4, [.ref q_28, .ref q_29])), (q_28, .inl (a_14, 256, .inl (fun _ => 0))), (q_29, .inl (a_14, 64, .inl (fun _ => 0)))] := hD
  refine lv_aload_n hx hb dX8_init_73 rfl (lv_at hl 0 rfl) ?_
  refine lv_null hx hb dX8_init_74 ?_
  refine va_put (D := D) (ci := 8) (v := .null) (ty := (.object "DotBench$Spread")) (C := RX8) (T := TX8) (N := 9) hx hb hts hi_X8 tyX8 tyX8_ok nmX8 hown hK hP hD hS 0 rfl rfl 7 (by decide) (hts _ bw_242) (fun _ h9 => h9) rfl (by decide +kernel) rfl rfl (Nat.le_of_ble_eq_true rfl) dX8_init_75 (fun H locs hP hD hS => ?_)
  have hP : va_P D vwCl [(h0, .inr (8, [.ref q_1, .ref q_3, .ref q_6, .ref q_8, .ref q_15, .ref q_26, .int 65535, .null, .null])), (q_1, .inl (a_2, 4, .inr (.inr (.inr (.inr (fun _ => none)))))), (q_3, .inr (1, [.ref q_5, .int (-1), .int 3, .int 255])), (q_5, .inr (0, [.int 0, .int 0, .int 63, .int 63])), (q_6, .inr (0, [.int 0, .int 0, .int 63, .int 63])), (q_8, .inr (3, [.ref q_10, .ref q_11, .ref q_12, .ref q_13, .int 0, .int 0, .int 0])), (q_10, .inl (a_14, 48, .inl (fun _ => 0))), (q_11, .inl (a_14, 48, .inl (fun _ => 0))), (q_12, .inl (a_14, 48, .inl (fun _ => 0))), (q_13, .inl (a_14, 48, .inl (fun _ => 0))), (q_15, .inr (7, [.ref q_17, .ref q_18, .ref q_19, .ref q_20])), (q_17, .inl (a_14, 3, .inl (fun _ => 0))), (q_18, .inl (a_14, 3, .inl (fun _ => 0))), (q_19, .inl (a_14, 3, .inl (fun _ => 0))), (q_20, .inr (3, [.ref q_21, .ref q_22, .ref q_23, .ref q_24, .int 0, .int 0, .int 0])), (q_21, .inl (a_14, 48, .inl (fun _ => 0))), (q_22, .inl (a_14, 48, .inl (fun _ => 0))), (q_23, .inl (a_14, 48, .inl (fun _ => 0))), (q_24, .inl (a_14, 48, .inl (fun _ => 0))), (q_26, .inr (4, [.ref q_28, .ref q_29])), (q_28, .inl (a_14, 256, .inl (fun _ => 0))), (q_29, .inl (a_14, 64, .inl (fun _ => 0)))] H := hP
  have hD : va_D A [(h0, .inr (8, [.ref q_1, .ref q_3, .ref q_6, .ref q_8, .ref q_15, .ref q_26, .int 65535, .null, .null])), (q_1, .inl (a_2, 4, .inr (.inr (.inr (.inr (fun _ => none)))))), (q_3, .inr (1, [.ref q_5, .int (-1), .int 3, .int 255])), (q_5, .inr (0, [.int 0, .int 0, .int 63, .int 63])), (q_6, .inr (0, [.int 0, .int 0, .int 63, .int 63])), (q_8, .inr (3, [.ref q_10, .ref q_11, .ref q_12, .ref q_13, .int 0, .int 0, .int 0])), (q_10, .inl (a_14, 48, .inl (fun _ => 0))), (q_11, .inl (a_14, 48, .inl (fun _ => 0))), (q_12, .inl (a_14, 48, .inl (fun _ => 0))), (q_13, .inl (a_14, 48, .inl (fun _ => 0))), (q_15, .inr (7, [.ref q_17, .ref q_18, .ref q_19, .ref q_20])), (q_17, .inl (a_14, 3, .inl (fun _ => 0))), (q_18, .inl (a_14, 3, .inl (fun _ => 0))), (q_19, .inl (a_14, 3, .inl (fun _ => 0))), (q_20, .inr (3, [.ref q_21, .ref q_22, .ref q_23, .ref q_24, .int 0, .int 0, .int 0])), (q_21, .inl (a_14, 48, .inl (fun _ => 0))), (q_22, .inl (a_14, 48, .inl (fun _ => 0))), (q_23, .inl (a_14, 48, .inl (fun _ => 0))), (q_24, .inl (a_14, 48, .inl (fun _ => 0))), (q_26, .inr (4, [.ref q_28, .ref q_29])), (q_28, .inl (a_14, 256, .inl (fun _ => 0))), (q_29, .inl (a_14, 64, .inl (fun _ => 0)))] := hD
  refine lv_aload_n hx hb dX8_init_78 rfl (lv_at hl 0 rfl) ?_
  refine lv_null hx hb dX8_init_79 ?_
  refine va_put (D := D) (ci := 8) (v := .null) (ty := (.object "DotBench$Sheet")) (C := RX8) (T := TX8) (N := 9) hx hb hts hi_X8 tyX8 tyX8_ok nmX8 hown hK hP hD hS 0 rfl rfl 8 (by decide) (hts _ bw_243) (fun _ h9 => h9) rfl (by decide +kernel) rfl rfl (Nat.le_of_ble_eq_true rfl) dX8_init_80 (fun H locs hP hD hS => ?_)
  have hP : va_P D vwCl [(h0, .inr (8, [.ref q_1, .ref q_3, .ref q_6, .ref q_8, .ref q_15, .ref q_26, .int 65535, .null, .null])), (q_1, .inl (a_2, 4, .inr (.inr (.inr (.inr (fun _ => none)))))), (q_3, .inr (1, [.ref q_5, .int (-1), .int 3, .int 255])), (q_5, .inr (0, [.int 0, .int 0, .int 63, .int 63])), (q_6, .inr (0, [.int 0, .int 0, .int 63, .int 63])), (q_8, .inr (3, [.ref q_10, .ref q_11, .ref q_12, .ref q_13, .int 0, .int 0, .int 0])), (q_10, .inl (a_14, 48, .inl (fun _ => 0))), (q_11, .inl (a_14, 48, .inl (fun _ => 0))), (q_12, .inl (a_14, 48, .inl (fun _ => 0))), (q_13, .inl (a_14, 48, .inl (fun _ => 0))), (q_15, .inr (7, [.ref q_17, .ref q_18, .ref q_19, .ref q_20])), (q_17, .inl (a_14, 3, .inl (fun _ => 0))), (q_18, .inl (a_14, 3, .inl (fun _ => 0))), (q_19, .inl (a_14, 3, .inl (fun _ => 0))), (q_20, .inr (3, [.ref q_21, .ref q_22, .ref q_23, .ref q_24, .int 0, .int 0, .int 0])), (q_21, .inl (a_14, 48, .inl (fun _ => 0))), (q_22, .inl (a_14, 48, .inl (fun _ => 0))), (q_23, .inl (a_14, 48, .inl (fun _ => 0))), (q_24, .inl (a_14, 48, .inl (fun _ => 0))), (q_26, .inr (4, [.ref q_28, .ref q_29])), (q_28, .inl (a_14, 256, .inl (fun _ => 0))), (q_29, .inl (a_14, 64, .inl (fun _ => 0)))] H := hP
  have hD : va_D A [(h0, .inr (8, [.ref q_1, .ref q_3, .ref q_6, .ref q_8, .ref q_15, .ref q_26, .int 65535, .null, .null])), (q_1, .inl (a_2, 4, .inr (.inr (.inr (.inr (fun _ => none)))))), (q_3, .inr (1, [.ref q_5, .int (-1), .int 3, .int 255])), (q_5, .inr (0, [.int 0, .int 0, .int 63, .int 63])), (q_6, .inr (0, [.int 0, .int 0, .int 63, .int 63])), (q_8, .inr (3, [.ref q_10, .ref q_11, .ref q_12, .ref q_13, .int 0, .int 0, .int 0])), (q_10, .inl (a_14, 48, .inl (fun _ => 0))), (q_11, .inl (a_14, 48, .inl (fun _ => 0))), (q_12, .inl (a_14, 48, .inl (fun _ => 0))), (q_13, .inl (a_14, 48, .inl (fun _ => 0))), (q_15, .inr (7, [.ref q_17, .ref q_18, .ref q_19, .ref q_20])), (q_17, .inl (a_14, 3, .inl (fun _ => 0))), (q_18, .inl (a_14, 3, .inl (fun _ => 0))), (q_19, .inl (a_14, 3, .inl (fun _ => 0))), (q_20, .inr (3, [.ref q_21, .ref q_22, .ref q_23, .ref q_24, .int 0, .int 0, .int 0])), (q_21, .inl (a_14, 48, .inl (fun _ => 0))), (q_22, .inl (a_14, 48, .inl (fun _ => 0))), (q_23, .inl (a_14, 48, .inl (fun _ => 0))), (q_24, .inl (a_14, 48, .inl (fun _ => 0))), (q_26, .inr (4, [.ref q_28, .ref q_29])), (q_28, .inl (a_14, 256, .inl (fun _ => 0))), (q_29, .inl (a_14, 64, .inl (fun _ => 0)))] := hD
  have hP9 := hP.sub (ws' := [(h0, .inr (8, [.ref q_1, .ref q_3, .ref q_6, .ref q_8, .ref q_15, .ref q_26, .int 65535, .null, .null])), (q_1, .inl (a_2, 4, .inr (.inr (.inr (.inr (fun _ => none)))))), (q_3, .inr (1, [.ref q_5, .int (-1), .int 3, .int 255])), (q_5, .inr (0, [.int 0, .int 0, .int 63, .int 63])), (q_6, .inr (0, [.int 0, .int 0, .int 63, .int 63])), (q_8, .inr (3, [.ref q_10, .ref q_11, .ref q_12, .ref q_13, .int 0, .int 0, .int 0])), (q_10, .inl (a_14, 48, .inl (fun _ => 0))), (q_11, .inl (a_14, 48, .inl (fun _ => 0))), (q_12, .inl (a_14, 48, .inl (fun _ => 0))), (q_13, .inl (a_14, 48, .inl (fun _ => 0))), (q_15, .inr (7, [.ref q_17, .ref q_18, .ref q_19, .ref q_20])), (q_17, .inl (a_14, 3, .inl (fun _ => 0))), (q_18, .inl (a_14, 3, .inl (fun _ => 0))), (q_19, .inl (a_14, 3, .inl (fun _ => 0))), (q_20, .inr (3, [.ref q_21, .ref q_22, .ref q_23, .ref q_24, .int 0, .int 0, .int 0])), (q_21, .inl (a_14, 48, .inl (fun _ => 0))), (q_22, .inl (a_14, 48, .inl (fun _ => 0))), (q_23, .inl (a_14, 48, .inl (fun _ => 0))), (q_24, .inl (a_14, 48, .inl (fun _ => 0))), (q_26, .inr (4, [.ref q_28, .ref q_29])), (q_28, .inl (a_14, 256, .inl (fun _ => 0))), (q_29, .inl (a_14, 64, .inl (fun _ => 0)))]) [0, 1, 2, 3, 4, 5, 6, 7, 8, 9, 10, 11, 12, 13, 14, 15, 16, 17, 18, 19, 20, 21] rfl
  have hD9 := hD.sub (ws' := [(h0, .inr (8, [.ref q_1, .ref q_3, .ref q_6, .ref q_8, .ref q_15, .ref q_26, .int 65535, .null, .null])), (q_1, .inl (a_2, 4, .inr (.inr (.inr (.inr (fun _ => none)))))), (q_3, .inr (1, [.ref q_5, .int (-1), .int 3, .int 255])), (q_5, .inr (0, [.int 0, .int 0, .int 63, .int 63])), (q_6, .inr (0, [.int 0, .int 0, .int 63, .int 63])), (q_8, .inr (3, [.ref q_10, .ref q_11, .ref q_12, .ref q_13, .int 0, .int 0, .int 0])), (q_10, .inl (a_14, 48, .inl (fun _ => 0))), (q_11, .inl (a_14, 48, .inl (fun _ => 0))), (q_12, .inl (a_14, 48, .inl (fun _ => 0))), (q_13, .inl (a_14, 48, .inl (fun _ => 0))), (q_15, .inr (7, [.ref q_17, .ref q_18, .ref q_19, .ref q_20])), (q_17, .inl (a_14, 3, .inl (fun _ => 0))), (q_18, .inl (a_14, 3, .inl (fun _ => 0))), (q_19, .inl (a_14, 3, .inl (fun _ => 0))), (q_20, .inr (3, [.ref q_21, .ref q_22, .ref q_23, .ref q_24, .int 0, .int 0, .int 0])), (q_21, .inl (a_14, 48, .inl (fun _ => 0))), (q_22, .inl (a_14, 48, .inl (fun _ => 0))), (q_23, .inl (a_14, 48, .inl (fun _ => 0))), (q_24, .inl (a_14, 48, .inl (fun _ => 0))), (q_26, .inr (4, [.ref q_28, .ref q_29])), (q_28, .inl (a_14, 256, .inl (fun _ => 0))), (q_29, .inl (a_14, 64, .inl (fun _ => 0)))]) [0, 1, 2, 3, 4, 5, 6, 7, 8, 9, 10, 11, 12, 13, 14, 15, 16, 17, 18, 19, 20, 21] (by decide) rfl
  have hK9 := hK.sub (tys' := [(a_14, .int), (a_2, .object "DotBench$Sheet")]) [1, 0] rfl
  refine hQ _ _ _ _ _ ?_
  exact W.vret hx hb hr (fun t ht hW => ⟨⟨(), rfl, trivial, ⟨q_1, q_3, q_6, q_8, q_15, q_26, q_5, q_10, q_11, q_12, q_13, q_17, q_18, q_19, q_20, q_21, q_22, q_23, q_24, q_28, q_29, a_14, a_2, by rw [ht]; exact hP9, va_K.moved hW.alike hK9, hD9⟩⟩, hS.F ht⟩) hS.2.2 dX8_init_83

set_option maxHeartbeats 4000000 in
set_option maxRecDepth 100000 in
theorem k_X9_init (l : Launch) (D : va_G) (sz : Nat) (h0 : Nat) : Met l yX9_init (wB yX9_init cX9_init 1 none) ({ frames := 1, cells := 13, slots := 32929, locals := 12 }) (cP D [(h0, .inr (9, [.null, .null, .null, .int 0, .int 0, .int 0, .int 0, .int 0, .int 0, .int 0, .int 0, .int 0, .null, .null, .null, .null, .null, .null, .int 0, .null, .null, .null, .null]))] [] sz [.ref h0]) (va_Qv (fun (_ : Unit) => True) (fun (_ : Unit) (t : State) => ∃ (m1 m2 m3 m4 m5 m6 m7 m8 m9 m10 m11 m12 m13 : Nat), ∃ (cI cZ : ClassId), cB D (va_A [(h0, .inr (9, [.null, .null, .null, .int 0, .int 0, .int 0, .int 0, .int 0, .int 0, .int 0, .int 0, .int 0, .null, .null, .null, .null, .null, .null, .int 0, .null, .null, .null, .null]))] sz) [(h0, .inr (9, [.ref m1, .ref m2, .ref m3, .int (-1), .int 3, .int 255, .int 0, .int 0, .int 0, .int 0, .int 0, .int 65535, .ref m4, .ref m5, .ref m6, .ref m7, .ref m8, .ref m9, .int 0, .ref m10, .ref m11, .ref m12, .ref m13])), (m1, .inl (cI, 4, .inl (fun _ => 0))), (m2, .inl (cI, 4, .inl (fun _ => 0))), (m3, .inl (cI, 16384, .inl (fun _ => 0))), (m4, .inl (cZ, 4096, .inl (fun _ => 0))), (m5, .inl (cI, 4096, .inl (fun _ => 0))), (m6, .inl (cI, 4096, .inl (fun _ => 0))), (m7, .inl (cI, 48, .inl (fun _ => 0))), (m8, .inl (cI, 48, .inl (fun _ => 0))), (m9, .inl (cZ, 48, .inl (fun _ => 0))), (m10, .inl (cI, 3, .inl (fun _ => 0))), (m11, .inl (cI, 3, .inl (fun _ => 0))), (m12, .inl (cI, 3, .inl (fun _ => 0))), (m13, .inl (cI, 4096, .inl (fun _ => 0)))] [(cI, .int), (cZ, .boolean)] t) (va_A [(h0, .inr (9, [.null, .null, .null, .int 0, .int 0, .int 0, .int 0, .int 0, .int 0, .int 0, .int 0, .int 0, .null, .null, .null, .null, .null, .null, .int 0, .null, .null, .null, .null]))] sz)) 13 32929 (va_A [(h0, .inr (9, [.null, .null, .null, .int 0, .int 0, .int 0, .int 0, .int 0, .int 0, .int 0, .int 0, .int 0, .null, .null, .null, .null, .null, .null, .int 0, .null, .null, .null, .null]))] sz) := by
  refine Met.ofW (cc := cX9_init) (maxL := 1) (ret := none) (by decide) rfl ?_
  intro p e s m args below meth c s₁ B hml hv
  obtain ⟨rfl, hsz, hP, hK, hD0, hN⟩ := hv
  have hx := B.exec
  have hb := B.bytes
  have hr := B.returns
  have hts0 := atoms_spec (ws := (wB yX9_init cX9_init 1 none)) B.pre
  have hts : ∀ w ∈ bigW, w.before _ s = true := fun w h => hts0 w (List.mem_cons_of_mem _ h)
  have hown : s.vm.findClass RX9 = some m.cls := findClass_of_methodNamed B.named
  have hlocks := B.notSynchronized
  have hin : meth.name = "<init>" := (name_of_methodNamed B.named B.method).1
  subst hsz
  have hD := hD0.self (sz := s.heap.size)
  generalize hAe : va_A [(h0, .inr (9, [.null, .null, .null, .int 0, .int 0, .int 0, .int 0, .int 0, .int 0, .int 0, .int 0, .int 0, .null, .null, .null, .null, .null, .null, .int 0, .null, .null, .null, .null]))] s.heap.size = A at hD ⊢
  have hA : ∀ q : Nat, s.heap.size ≤ q → A q := fun q h => by rw [← hAe]; exact Or.inr h
  have hS : va_S A s.heap s.heap [] := va_S.rf
  have hP : va_P D vwCl [(h0, .inr (9, [.null, .null, .null, .int 0, .int 0, .int 0, .int 0, .int 0, .int 0, .int 0, .int 0, .int 0, .null, .null, .null, .null, .null, .null, .int 0, .null, .null, .null, .null]))] s.heap := hP
  have hl := lv_entry ([.ref h0]) (n := 1) (Nat.le_of_ble_eq_true rfl)
  rw [lg_entry_eq]
  generalize (lg_sl ([.ref h0]) ++ List.replicate (1 - (lg_sl ([.ref h0])).length) Slot.unset).toArray = ls at hl ⊢
  have hl : lv_has ls 1 [(0, .ref h0)] := hl
  clear hts0 hD0 hAe
  refine my_abs (fun R Q hR hQ => ?_)
  refine lv_aload_n hx hb dX9_init_0 rfl (lv_at hl 0 rfl) ?_
  refine W.objInit hx hb hown (hts _ bw_395) (hts _ bw_0) (hts _ bw_1) rfl (by rw [hml]; exact hl.1) rfl dX9_init_1 (by rw [hR]; exact Nat.le_of_ble_eq_true rfl) (by rw [hR]; exact Nat.le_of_ble_eq_true rfl) ?_
  refine W.eq (g2 := F0 m 4 ls []) rfl ?_
  refine lv_aload_n hx hb dX9_init_4 rfl (lv_at hl 0 rfl) ?_
  refine lv_iconst (v := 4) hx hb dX9_init_5 (by decide) ?_
  refine va_newa (atype := .int) (ty := .int) (a0 := (4, .inl (fun _ => 0))) hx hb (hts _ bw_2) rfl hK hP hD hS hA (fun _ => rfl) (by decide) (by decide) (by decide) (by rw [hR]; exact Nat.le_of_ble_eq_true rfl) (by rw [hR]; exact Nat.le_of_ble_eq_true rfl) dX9_init_6 (fun q_1 a_2 H hK hP hD hS => ?_)
  have hK : va_K D vwCl [(a_2, .int)] s := hK
  have hP : va_P D vwCl [(h0, .inr (9, [.null, .null, .null, .int 0, .int 0, .int 0, .int 0, .int 0, .int 0, .int 0, .int 0, .int 0, .null, .null, .null, .null, .null, .null, .int 0, .null, .null, .null, .null])), (q_1, .inl (a_2, 4, .inl (fun _ => 0)))] H := hP
  have hD : va_D A [(h0, .inr (9, [.null, .null, .null, .int 0, .int 0, .int 0, .int 0, .int 0, .int 0, .int 0, .int 0, .int 0, .null, .null, .null, .null, .null, .null, .int 0, .null, .null, .null, .null])), (q_1, .inl (a_2, 4, .inl (fun _ => 0)))] := hD
  refine W.widen (k := 1) (n := 4) (by omega) (by omega) ?_
  refine va_putF (D := D) (ci := 9) (v := .ref q_1) (ty := (.array .int)) (C := RX9) (T := TX9) (N := 23) hx hb hts hi_X9 tyX9 tyX9_ok nmX9 hown hK hP hD hS 0 rfl rfl 0 (by decide) (hts _ bw_396) (fun _ h9 => h9) rfl hin rfl (by decide +kernel) rfl rfl (Nat.le_of_ble_eq_true rfl) dX9_init_8 (fun H locs hP hD hS => ?_)
  have hP : va_P D vwCl [(h0, .inr (9, [.ref q_1, .null, .null, .int 0, .int 0, .int 0, .int 0, .int 0, .int 0, .int 0, .int 0, .int 0, .null, .null, .null, .null, .null, .null, .int 0, .null, .null, .null, .null])), (q_1, .inl (a_2, 4, .inl (fun _ => 0)))] H := hP
  have hD : va_D A [(h0, .inr (9, [.ref q_1, .null, .null, .int 0, .int 0, .int 0, .int 0, .int 0, .int 0, .int 0, .int 0, .int 0, .null, .null, .null, .null, .null, .null, .int 0, .null, .null, .null, .null])), (q_1, .inl (a_2, 4, .inl (fun _ => 0)))] := hD
  refine lv_aload_n hx hb dX9_init_11 rfl (lv_at hl 0 rfl) ?_
  refine lv_iconst (v := 4) hx hb dX9_init_12 (by decide) ?_
  refine va_newa (atype := .int) (ty := .int) (a0 := (4, .inl (fun _ => 0))) hx hb (hts _ bw_2) rfl hK hP hD hS hA (fun _ => rfl) (by decide) (by decide) (by decide) (by rw [hR]; exact Nat.le_of_ble_eq_true rfl) (by rw [hR]; exact Nat.le_of_ble_eq_true rfl) dX9_init_13 (fun q_3 a_4 H hK hP hD hS => ?_)
  obtain rfl : a_2 = a_4 := my_sameI hK 0 1 rfl rfl
  have hK := hK.sub (tys' := [(a_2, .int)]) [0] rfl
  have hP : va_P D vwCl [(h0, .inr (9, [.ref q_1, .null, .null, .int 0, .int 0, .int 0, .int 0, .int 0, .int 0, .int 0, .int 0, .int 0, .null, .null, .null, .null, .null, .null, .int 0, .null, .null, .null, .null])), (q_1, .inl (a_2, 4, .inl (fun _ => 0))), (q_3, .inl (a_2, 4, .inl (fun _ => 0)))] H := hP
  have hD : va_D A [(h0, .inr (9, [.ref q_1, .null, .null, .int 0, .int 0, .int 0, .int 0, .int 0, .int 0, .int 0, .int 0, .int 0, .null, .null, .null, .null, .null, .null, .int 0, .null, .null, .null, .null])), (q_1, .inl (a_2, 4, .inl (fun _ => 0))), (q_3, .inl (a_2, 4, .inl (fun _ => 0)))] := hD
  refine W.widen (k := 2) (n := 8) (by omega) (by omega) ?_
  refine va_putF (D := D) (ci := 9) (v := .ref q_3) (ty := (.array .int)) (C := RX9) (T := TX9) (N := 23) hx hb hts hi_X9 tyX9 tyX9_ok nmX9 hown hK hP hD hS 0 rfl rfl 1 (by decide) (hts _ bw_397) (fun _ h9 => h9) rfl hin rfl (by decide +kernel) rfl rfl (Nat.le_of_ble_eq_true rfl) dX9_init_15 (fun H locs hP hD hS => ?_)
  have hP : va_P D vwCl [(h0, .inr (9, [.ref q_1, .ref q_3, .null, .int 0, .int 0, .int 0, .int 0, .int 0, .int 0, .int 0, .int 0, .int 0, .null, .null, .null, .null, .null, .null, .int 0, .null, .null, .null, .null])), (q_1, .inl (a_2, 4, .inl (fun _ => 0))), (q_3, .inl (a_2, 4, .inl (fun _ => 0)))] H := hP
  have hD : va_D A [(h0, .inr (9, [.ref q_1, .ref q_3, .null, .int 0, .int 0, .int 0, .int 0, .int 0, .int 0, .int 0, .int 0, .int 0, .null, .null, .null, .null, .null, .null, .int 0, .null, .null, .null, .null])), (q_1, .inl (a_2, 4, .inl (fun _ => 0))), (q_3, .inl (a_2, 4, .inl (fun _ => 0)))] := hD
  refine lv_aload_n hx hb dX9_init_18 rfl (lv_at hl 0 rfl) ?_
  refine lv_sipush (v := 16384) hx hb dX9_init_19 (by decide) ?_
  refine va_newa (atype := .int) (ty := .int) (a0 := (16384, .inl (fun _ => 0))) hx hb (hts _ bw_2) rfl hK hP hD hS hA (fun _ => rfl) (by decide) (by decide) (by decide) (by rw [hR]; exact Nat.le_of_ble_eq_true rfl) (by rw [hR]; exact Nat.le_of_ble_eq_true rfl) dX9_init_22 (fun q_5 a_6 H hK hP hD hS => ?_)
  obtain rfl : a_2 = a_6 := my_sameI hK 0 1 rfl rfl
  have hK := hK.sub (tys' := [(a_2, .int)]) [0] rfl
  have hP : va_P D vwCl [(h0, .inr (9, [.ref q_1, .ref q_3, .null, .int 0, .int 0, .int 0, .int 0, .int 0, .int 0, .int 0, .int 0, .int 0, .null, .null, .null, .null, .null, .null, .int 0, .null, .null, .null, .null])), (q_1, .inl (a_2, 4, .inl (fun _ => 0))), (q_3, .inl (a_2, 4, .inl (fun _ => 0))), (q_5, .inl (a_2, 16384, .inl (fun _ => 0)))] H := hP
  have hD : va_D A [(h0, .inr (9, [.ref q_1, .ref q_3, .null, .int 0, .int 0, .int 0, .int 0, .int 0, .int 0, .int 0, .int 0, .int 0, .null, .null, .null, .null, .null, .null, .int 0, .null, .null, .null, .null])), (q_1, .inl (a_2, 4, .inl (fun _ => 0))), (q_3, .inl (a_2, 4, .inl (fun _ => 0))), (q_5, .inl (a_2, 16384, .inl (fun _ => 0)))] := hD
  refine W.widen (k := 3) (n := 16392) (by omega) (by omega) ?_
  refine va_putF (D := D) (ci := 9) (v := .ref q_5) (ty := (.array .int)) (C := RX9) (T := TX9) (N := 23) hx hb hts hi_X9 tyX9 tyX9_ok nmX9 hown hK hP hD hS 0 rfl rfl 2 (by decide) (hts _ bw_398) (fun _ h9 => h9) rfl hin rfl (by decide +kernel) rfl rfl (Nat.le_of_ble_eq_true rfl) dX9_init_24 (fun H locs hP hD hS => ?_)
  have hP : va_P D vwCl [(h0, .inr (9, [.ref q_1, .ref q_3, .ref q_5, .int 0, .int 0, .int 0, .int 0, .int 0, .int 0, .int 0, .int 0, .int 0, .null, .null, .null, .null, .null, .null, .int 0, .null, .null, .null, .null])), (q_1, .inl (a_2, 4, .inl (fun _ => 0))), (q_3, .inl (a_2, 4, .inl (fun _ => 0))), (q_5, .inl (a_2, 16384, .inl (fun _ => 0)))] H := hP
  have hD : va_D A [(h0, .inr (9, [.ref q_1, .ref q_3, .ref q_5, .int 0, .int 0, .int 0, .int 0, .int 0, .int 0, .int 0, .int 0, .int 0, .null, .null, .null, .null, .null, .null, .int 0, .null, .null, .null, .null])), (q_1, .inl (a_2, 4, .inl (fun _ => 0))), (q_3, .inl (a_2, 4, .inl (fun _ => 0))), (q_5, .inl (a_2, 16384, .inl (fun _ => 0)))] := hD
  refine lv_aload_n hx hb dX9_init_27 rfl (lv_at hl 0 rfl) ?_
  refine lv_iconst (v := (-1)) hx hb dX9_init_28 (by decide) ?_
  refine va_put (D := D) (ci := 9) (v := .int (-1)) (ty := .int) (C := RX9) (T := TX9) (N := 23) hx hb hts hi_X9 tyX9 tyX9_ok nmX9 hown hK hP hD hS 0 rfl rfl 3 (by decide) (hts _ bw_399) (fun _ h9 => h9) rfl (by decide +kernel) rfl rfl (Nat.le_of_ble_eq_true rfl) dX9_init_29 (fun H locs hP hD hS => ?_)
  have hP : va_P D vwCl [(h0, .inr (9, [.ref q_1, .ref q_3, .ref q_5, .int (-1), .int 0, .int 0, .int 0, .int 0, .int 0, .int 0, .int 0, .int 0, .null, .null, .null, .null, .null, .null, .int 0, .null, .null, .null, .null])), (q_1, .inl (a_2, 4, .inl (fun _ => 0))), (q_3, .inl (a_2, 4, .inl (fun _ => 0))), (q_5, .inl (a_2, 16384, .inl (fun _ => 0)))] H := hP
  have hD : va_D A [(h0, .inr (9, [.ref q_1, .ref q_3, .ref q_5, .int (-1), .int 0, .int 0, .int 0, .int 0, .int 0, .int 0, .int 0, .int 0, .null, .null, .null, .null, .null, .null, .int 0, .null, .null, .null, .null])), (q_1, .inl (a_2, 4, .inl (fun _ => 0))), (q_3, .inl (a_2, 4, .inl (fun _ => 0))), (q_5, .inl (a_2, 16384, .inl (fun _ => 0)))] := hD
  refine lv_aload_n hx hb dX9_init_32 rfl (lv_at hl 0 rfl) ?_
  refine lv_iconst (v := 3) hx hb dX9_init_33 (by decide) ?_
  refine va_put (D := D) (ci := 9) (v := .int 3) (ty := .int) (C := RX9) (T := TX9) (N := 23) hx hb hts hi_X9 tyX9 tyX9_ok nmX9 hown hK hP hD hS 0 rfl rfl 4 (by decide) (hts _ bw_400) (fun _ h9 => h9) rfl (by decide +kernel) rfl rfl (Nat.le_of_ble_eq_true rfl) dX9_init_34 (fun H locs hP hD hS => ?_)
  have hP : va_P D vwCl [(h0, .inr (9, [.ref q_1, .ref q_3, .ref q_5, .int (-1), .int 3, .int 0, .int 0, .int 0, .int 0, .int 0, .int 0, .int 0, .null, .null, .null, .null, .null, .null, .int 0, .null, .null, .null, .null])), (q_1, .inl (a_2, 4, .inl (fun _ => 0))), (q_3, .inl (a_2, 4, .inl (fun _ => 0))), (q_5, .inl (a_2, 16384, .inl (fun _ => 0)))] H := hP
  have hD : va_D A [(h0, .inr (9, [.ref q_1, .ref q_3, .ref q_5, .int (-1), .int 3, .int 0, .int 0, .int 0, .int 0, .int 0, .int 0, .int 0, .null, .null, .null, .null, .null, .null, .int 0, .null, .null, .null, .null])), (q_1, .inl (a_2, 4, .inl (fun _ => 0))), (q_3, .inl (a_2, 4, .inl (fun _ => 0))), (q_5, .inl (a_2, 16384, .inl (fun _ => 0)))] := hD
  refine lv_aload_n hx hb dX9_init_37 rfl (lv_at hl 0 rfl) ?_
  refine lv_sipush (v := 255) hx hb dX9_init_38 (by decide) ?_
  refine va_put (D := D) (ci := 9) (v := .int 255) (ty := .int) (C := RX9) (T := TX9) (N := 23) hx hb hts hi_X9 tyX9 tyX9_ok nmX9 hown hK hP hD hS 0 rfl rfl 5 (by decide) (hts _ bw_401) (fun _ h9 => h9) rfl (by decide +kernel) rfl rfl (Nat.le_of_ble_eq_true rfl) dX9_init_41 (fun H locs hP hD hS => ?_)
  have hP : va_P D vwCl [(h0, .inr (9, [.ref q_1, .ref q_3, .ref q_5, .int (-1), .int 3, .int 255, .int 0, .int 0, .int 0, .int 0, .int 0, .int 0, .null, .null, .null, .null, .null, .null, .int 0, .null, .null, .null, .null])), (q_1, .inl (a_2, 4, .inl (fun _ => 0))), (q_3, .inl (a_2, 4, .inl (fun _ => 0))), (q_5, .inl (a_2, 16384, .inl (fun _ => 0)))] H := hP
  have hD : va_D A [(h0, .inr (9, [.ref q_1, .ref q_3, .ref q_5, .int (-1), .int 3, .int 255, .int 0, .int 0, .int 0, .int 0, .int 0, .int 0, .null, .null, .null, .null, .null, .null, .int 0, .null, .null, .null, .null])), (q_1, .inl (a_2, 4, .inl (fun _ => 0))), (q_3, .inl (a_2, 4, .inl (fun _ => 0))), (q_5, .inl (a_2, 16384, .inl (fun _ => 0)))] := hD
  refine lv_aload_n hx hb dX9_init_44 rfl (lv_at hl 0 rfl) ?_
  refine lv_ldc hx hb hown (hts _ bw_402) dX9_init_45 ?_
  refine va_put (D := D) (ci := 9) (v := .int 65535) (ty := .int) (C := RX9) (T := TX9) (N := 23) hx hb hts hi_X9 tyX9 tyX9_ok nmX9 hown hK hP hD hS 0 rfl rfl 11 (by decide) (hts _ bw_403) (fun _ h9 => h9) rfl (by decide +kernel) rfl rfl (Nat.le_of_ble_eq_true rfl) dX9_init_47 (fun H locs hP hD hS => ?_)
  have hP : va_P D vwCl [(h0, .inr (9, [.ref q_1, .ref q_3, .ref q_5, .int (-1), .int 3, .int 255, .int 0, .int 0, .int 0, .int 0, .int 0, .int 65535, .null, .null, .null, .null, .null, .null, .int 0, .null, .null, .null, .null])), (q_1, .inl (a_2, 4, .inl (fun _ => 0))), (q_3, .inl (a_2, 4, .inl (fun _ => 0))), (q_5, .inl (a_2, 16384, .inl (fun _ => 0)))] H := hP
  have hD : va_D A [(h0, .inr (9, [.ref q_1, .ref q_3, .ref q_5, .int (-1), .int 3, .int 255, .int 0, .int 0, .int 0, .int 0, .int 0, .int 65535, .null, .null, .null, .null, .null, .null, .int 0, .null, .null, .null, .null])), (q_1, .inl (a_2, 4, .inl (fun _ => 0))), (q_3, .inl (a_2, 4, .inl (fun _ => 0))), (q_5, .inl (a_2, 16384, .inl (fun _ => 0)))] := hD
  refine lv_aload_n hx hb dX9_init_50 rfl (lv_at hl 0 rfl) ?_
  refine lv_sipush (v := 4096) hx hb dX9_init_51 (by decide) ?_
  refine va_newa (atype := .boolean) (ty := .boolean) (a0 := (4096, .inl (fun _ => 0))) hx hb (hts _ bw_3) rfl hK hP hD hS hA (fun _ => rfl) (by decide) (by decide) (by decide) (by rw [hR]; exact Nat.le_of_ble_eq_true rfl) (by rw [hR]; exact Nat.le_of_ble_eq_true rfl) dX9_init_54 (fun q_7 a_8 H hK hP hD hS => ?_)
  have hK : va_K D vwCl [(a_2, .int), (a_8, .boolean)] s := hK
  have hP : va_P D vwCl [(h0, .inr (9, [.ref q_1, .ref q_3, .ref q_5, .int (-1), .int 3, .int 255, .int 0, .int 0, .int 0, .int 0, .int 0, .int 65535, .null, .null, .null, .null, .null, .null, .int 0, .null, .null, .null, .null])), (q_1, .inl (a_2, 4, .inl (fun _ => 0))), (q_3, .inl (a_2, 4, .inl (fun _ => 0))), (q_5, .inl (a_2, 16384, .inl (fun _ => 0))), (q_7, .inl (a_8, 4096, .inl (fun _ => 0)))] H := hP
  have hD : va_D A [(h0, .inr (9, [.ref q_1, .ref q_3, .ref q_5, .int (-1), .int 3, .int 255, .int 0, .int 0, .int 0, .int 0, .int 0, .int 65535, .null, .null, .null, .null, .null, .null, .int 0, .null, .null, .null, .null])), (q_1, .inl (a_2, 4, .inl (fun _ => 0))), (q_3, .inl (a_2, 4, .inl (fun _ => 0))), (q_5, .inl (a_2, 16384, .inl (fun _ => 0))), (q_7, .inl (a_8, 4096, .inl (fun _ => 0)))] := hD
  refine W.widen (k := 4) (n := 20488) (by omega) (by omega) ?_
  refine va_putF (D := D) (ci := 9) (v := .ref q_7) (ty := (.array .boolean)) (C := RX9) (T := TX9) (N := 23) hx hb hts hi_X9 tyX9 tyX9_ok nmX9 hown hK hP hD hS 0 rfl rfl 12 (by decide) (hts _ bw_404) (fun _ h9 => h9) rfl hin rfl (by decide +kernel) rfl rfl (Nat.le_of_ble_eq_true rfl) dX9_init_56 (fun H locs hP hD hS => ?_)
  have hP : va_P D vwCl [(h0, .inr (9, [.ref q_1, .ref q_3, .ref q_5, .int (-1), .int 3, .int 255, .int 0, .int 0, .int 0, .int 0, .int 0, .int 65535, .ref q_7, .null, .null, .null, .null, .null, .int 0, .null, .null, .null, .null])), (q_1, .inl (a_2, 4, .inl (fun _ => 0))), (q_3, .inl (a_2, 4, .inl (fun _ => 0))), (q_5, .inl (a_2, 16384, .inl (fun _ => 0))), (q_7, .inl (a_8, 4096, .inl (fun _ => 0)))] H := hP
  have hD : va_D A [(h0, .inr (9, [.ref q_1, .ref q_3, .ref q_5, .int (-1), .int 3, .int 255, .int 0, .int 0, .int 0, .int 0, .int 0, .int 65535, .ref q_7, .null, .null, .null, .null, .null, .int 0, .null, .null, .null, .null])), (q_1, .inl (a_2, 4, .inl (fun _ => 0))), (q_3, .inl (a_2, 4, .inl (fun _ => 0))), (q_5, .inl (a_2, 16384, .inl (fun _ => 0))), (q_7, .inl (a_8, 4096, .inl (fun _ => 0)))] := hD
  refine lv_aload_n hx hb dX9_init_59 rfl (lv_at hl 0 rfl) ?_
  refine lv_sipush (v := 4096) hx hb dX9_init_60 (by decide) ?_
  refine va_newa (atype := .int) (ty := .int) (a0 := (4096, .inl (fun _ => 0))) hx hb (hts _ bw_2) rfl hK hP hD hS hA (fun _ => rfl) (by decide) (by decide) (by decide) (by rw [hR]; exact Nat.le_of_ble_eq_true rfl) (by rw [hR]; exact Nat.le_of_ble_eq_true rfl) dX9_init_63 (fun q_9 a_10 H hK hP hD hS => ?_)
  obtain rfl : a_2 = a_10 := my_sameI hK 0 2 rfl rfl
  have hK := hK.sub (tys' := [(a_2, .int), (a_8, .boolean)]) [0, 1] rfl
  have hP : va_P D vwCl [(h0, .inr (9, [.ref q_1, .ref q_3, .ref q_5, .int (-1), .int 3, .int 255, .int 0, .int 0, .int 0, .int 0, .int 0, .int 65535, .ref q_7, .null, .null, .null, .null, .null, .int 0, .null, .null, .null, .null])), (q_1, .inl (a_2, 4, .inl (fun _ => 0))), (q_3, .inl (a_2, 4, .inl (fun _ => 0))), (q_5, .inl (a_2, 16384, .inl (fun _ => 0))), (q_7, .inl (a_8, 4096, .inl (fun _ => 0))), (q_9, .inl (a_2, 4096, .inl (fun _ => 0)))] H := hP
  have hD : va_D A [(h0, .inr (9, [.ref q_1, .ref q_3, .ref q_5, .int (-1), .int 3, .int 255, .int 0, .int 0, .int 0, .int 0, .int 0, .int 65535, .ref q_7, .null, .null, .null, .null, .null, .int 0, .null, .null, .null, .null])), (q_1, .inl (a_2, 4, .inl (fun _ => 0))), (q_3, .inl (a_2, 4, .inl (fun _ => 0))), (q_5, .inl (a_2, 16384, .inl (fun _ => 0))), (q_7, .inl (a_8, 4096, .inl (fun _ => 0))), (q_9, .inl (a_2, 4096, .inl (fun _ => 0)))] := hD
  refine W.widen (k := 5) (n := 24584) (by omega) (by omega) ?_
  refine va_putF (D := D) (ci := 9) (v := .ref q_9) (ty := (.array .int)) (C := RX9) (T := TX9) (N := 23) hx hb hts hi_X9 tyX9 tyX9_ok nmX9 hown hK hP hD hS 0 rfl rfl 13 (by decide) (hts _ bw_405) (fun _ h9 => h9) rfl hin rfl (by decide +kernel) rfl rfl (Nat.le_of_ble_eq_true rfl) dX9_init_65 (fun H locs hP hD hS => ?_)
  have hP : va_P D vwCl [(h0, .inr (9, [.ref q_1, .ref q_3, .ref q_5, .int (-1), .int 3, .int 255, .int 0, .int 0, .int 0, .int 0, .int 0, .int 65535, .ref q_7, .ref q_9, .null, .null, .null, .null, .int 0, .null, .null, .null, .null])), (q_1, .inl (a_2, 4, .inl (fun _ => 0))), (q_3, .inl (a_2, 4, .inl (fun _ => 0))), (q_5, .inl (a_2, 16384, .inl (fun _ => 0))), (q_7, .inl (a_8, 4096, .inl (fun _ => 0))), (q_9, .inl (a_2, 4096, .inl (fun _ => 0)))] H := hP
  have hD : va_D A [(h0, .inr (9, [.ref q_1, .ref q_3, .ref q_5, .int (-1), .int 3, .int 255, .int 0, .int 0, .int 0, .int 0, .int 0, .int 65535, .ref q_7, .ref q_9, .null, .null, .null, .null, .int 0, .null, .null, .null, .null])), (q_1, .inl (a_2, 4, .inl (fun _ => 0))), (q_3, .inl (a_2, 4, .inl (fun _ => 0))), (q_5, .inl (a_2, 16384, .inl (fun _ => 0))), (q_7, .inl (a_8, 4096, .inl (fun _ => 0))), (q_9, .inl (a_2, 4096, .inl (fun _ => 0)))] := hD
  refine lv_aload_n hx hb dX9_init_68 rfl (lv_at hl 0 rfl) ?_
  refine lv_sipush (v := 4096) hx hb dX9_init_69 (by decide) ?_
  refine va_newa (atype := .int) (ty := .int) (a0 := (4096, .inl (fun _ => 0))) hx hb (hts _ bw_2) rfl hK hP hD hS hA (fun _ => rfl) (by decide) (by decide) (by decide) (by rw [hR]; exact Nat.le_of_ble_eq_true rfl) (by rw [hR]; exact Nat.le_of_ble_eq_true rfl) dX9_init_72 (fun q_11 a_12 H hK hP hD hS => ?_)
  obtain rfl : a_2 = a_12 := my_sameI hK 0 2 rfl rfl
  have hK := hK.sub (tys' := [(a_2, .int), (a_8, .boolean)]) [0, 1] rfl
  have hP : va_P D vwCl [(h0, .inr (9, [.ref q_1, .ref q_3, .ref q_5, .int (-1), .int 3, .int 255, .int 0, .int 0, .int 0, .int 0, .int 0, .int 65535, .ref q_7, .ref q_9, .null, .null, .null, .null, .int 0, .null, .null, .null, .null])), (q_1, .inl (a_2, 4, .inl (fun _ => 0))), (q_3, .inl (a_2, 4, .inl (fun _ => 0))), (q_5, .inl (a_2, 16384, .inl (fun _ => 0))), (q_7, .inl (a_8, 4096, .inl (fun _ => 0))), (q_9, .inl (a_2, 4096, .inl (fun _ => 0))), (q_11, .inl (a_2, 4096, .inl (fun _ => 0)))] H := hP
  have hD : va_D A [(h0, .inr (9, [.ref q_1, .ref q_3, .ref q_5, .int (-1), .int 3, .int 255, .int 0, .int 0, .int 0, .int 0, .int 0, .int 65535, .ref q_7, .ref q_9, .null, .null, .null, .null, .int 0, .null, .null, .null, .null])), (q_1, .inl (a_2, 4, .inl (fun _ => 0))), (q_3, .inl (a_2, 4, .inl (fun _ => 0))), (q_5, .inl (a_2, 16384, .inl (fun _ => 0))), (q_7, .inl (a_8, 4096, .inl (fun _ => 0))), (q_9, .inl (a_2, 4096, .inl (fun _ => 0))), (q_11, .inl (a_2, 4096, .inl (fun _ => 0)))] := hD
  refine W.widen (k := 6) (n := 28680) (by omega) (by omega) ?_
  refine va_putF (D := D) (ci := 9) (v := .ref q_11) (ty := (.array .int)) (C := RX9) (T := TX9) (N := 23) hx hb hts hi_X9 tyX9 tyX9_ok nmX9 hown hK hP hD hS 0 rfl rfl 14 (by decide) (hts _ bw_406) (fun _ h9 => h9) rfl hin rfl (by decide +kernel) rfl rfl (Nat.le_of_ble_eq_true rfl) dX9_init_74 (fun H locs hP hD hS => ?_)
  have hP : va_P D vwCl [(h0, .inr (9, [.ref q_1, .ref q_3, .ref q_5, .int (-1), .int 3, .int 255, .int 0, .int 0, .int 0, .int 0, .int 0, .int 65535, .ref q_7, .ref q_9, .ref q_11, .null, .null, .null, .int 0, .null, .null, .null, .null])), (q_1, .inl (a_2, 4, .inl (fun _ => 0))), (q_3, .inl (a_2, 4, .inl (fun _ => 0))), (q_5, .inl (a_2, 16384, .inl (fun _ => 0))), (q_7, .inl (a_8, 4096, .inl (fun _ => 0))), (q_9, .inl (a_2, 4096, .inl (fun _ => 0))), (q_11, .inl (a_2, 4096, .inl (fun _ => 0)))] H := hP
  have hD : va_D A [(h0, .inr (9, [.ref q_1, .ref q_3, .ref q_5, .int (-1), .int 3, .int 255, .int 0, .int 0, .int 0, .int 0, .int 0, .int 65535, .ref q_7, .ref q_9, .ref q_11, .null, .null, .null, .int 0, .null, .null, .null, .null])), (q_1, .inl (a_2, 4, .inl (fun _ => 0))), (q_3, .inl (a_2, 4, .inl (fun _ => 0))), (q_5, .inl (a_2, 16384, .inl (fun _ => 0))), (q_7, .inl (a_8, 4096, .inl (fun _ => 0))), (q_9, .inl (a_2, 4096, .inl (fun _ => 0))), (q_11, .inl (a_2, 4096, .inl (fun _ => 0)))] := hD
  refine lv_aload_n hx hb dX9_init_77 rfl (lv_at hl 0 rfl) ?_
  refine lv_bipush (v := 48) hx hb dX9_init_78 (by decide) ?_
  refine va_newa (atype := .int) (ty := .int) (a0 := (48, .inl (fun _ => 0))) hx hb (hts _ bw_2) rfl hK hP hD hS hA (fun _ => rfl) (by decide) (by decide) (by decide) (by rw [hR]; exact Nat.le_of_ble_eq_true rfl) (by rw [hR]; exact Nat.le_of_ble_eq_true rfl) dX9_init_80 (fun q_13 a_14 H hK hP hD hS => ?_)
  obtain rfl : a_2 = a_14 := my_sameI hK 0 2 rfl rfl
  have hK := hK.sub (tys' := [(a_2, .int), (a_8, .boolean)]) [0, 1] rfl
  have hP : va_P D vwCl [(h0, .inr (9, [.ref q_1, .ref q_3, .ref q_5, .int (-1), .int 3, .int 255, .int 0, .int 0, .int 0, .int 0, .int 0, .int 65535, .ref q_7, .ref q_9, .ref q_11, .null, .null, .null, .int 0, .null, .null, .null, .null])), (q_1, .inl (a_2, 4, .inl (fun _ => 0))), (q_3, .inl (a_2, 4, .inl (fun _ => 0))), (q_5, .inl (a_2, 16384, .inl (fun _ => 0))), (q_7, .inl (a_8, 4096, .inl (fun _ => 0))), (q_9, .inl (a_2, 4096, .inl (fun _ => 0))), (q_11, .inl (a_2, 4096, .inl (fun _ => 0))), (q_13, .inl (a_2, 48, .inl (fun _ => 0)))] H := hP
  have hD : va_D A [(h0, .inr (9, [.ref q_1, .ref q_3, .ref q_5, .int (-1), .int 3, .int 255, .int 0, .int 0, .int 0, .int 0, .int 0, .int 65535, .ref q_7, .ref q_9, .ref q_11, .null, .null, .null, .int 0, .null, .null, .null, .null])), (q_1, .inl (a_2, 4, .inl (fun _ => 0))), (q_3, .inl (a_2, 4, .inl (fun _ => 0))), (q_5, .inl (a_2, 16384, .inl (fun _ => 0))), (q_7, .inl (a_8, 4096, .inl (fun _ => 0))), (q_9, .inl (a_2, 4096, .inl (fun _ => 0))), (q_11, .inl (a_2, 4096, .inl (fun _ => 0))), (q_13, .inl (a_2, 48, .inl (fun _ => 0)))] := hD
  refine W.widen (k := 7) (n := 28728) (by omega) (by omega) ?_
  refine va_putF (D := D) (ci := 9) (v := .ref q_13) (ty := (.array .int)) (C := RX9) (T := TX9) (N := 23) hx hb hts hi_X9 tyX9 tyX9_ok nmX9 hown hK hP hD hS 0 rfl rfl 15 (by decide) (hts _ bw_407) (fun _ h9 => h9) rfl hin rfl (by decide +kernel) rfl rfl (Nat.le_of_ble_eq_true rfl) dX9_init_82 (fun H locs hP hD hS => ?_)
  have hP : va_P D vwCl [(h0, .inr (9, [.ref q_1, .ref q_3, .ref q_5, .int (-1), .int 3, .int 255, .int 0, .int 0, .int 0, .int 0, .int 0, .int 65535, .ref q_7, .ref q_9, .ref q_11, .ref q_13, .null, .null, .int 0, .null, .null, .null, .null])), (q_1, .inl (a_2, 4, .inl (fun _ => 0))), (q_3, .inl (a_2, 4, .inl (fun _ => 0))), (q_5, .inl (a_2, 16384, .inl (fun _ => 0))), (q_7, .inl (a_8, 4096, .inl (fun _ => 0))), (q_9, .inl (a_2, 4096, .inl (fun _ => 0))), (q_11, .inl (a_2, 4096, .inl (fun _ => 0))), (q_13, .inl (a_2, 48, .inl (fun _ => 0)))] H := hP
  have hD : va_D A [(h0, .inr (9, [.ref q_1, .ref q_3, .ref q_5, .int (-1), .int 3, .int 255, .int 0, .int 0, .int 0, .int 0, .int 0, .int 65535, .ref q_7, .ref q_9, .ref q_11, .ref q_13, .null, .null, .int 0, .null, .null, .null, .null])), (q_1, .inl (a_2, 4, .inl (fun _ => 0))), (q_3, .inl (a_2, 4, .inl (fun _ => 0))), (q_5, .inl (a_2, 16384, .inl (fun _ => 0))), (q_7, .inl (a_8, 4096, .inl (fun _ => 0))), (q_9, .inl (a_2, 4096, .inl (fun _ => 0))), (q_11, .inl (a_2, 4096, .inl (fun _ => 0))), (q_13, .inl (a_2, 48, .inl (fun _ => 0)))] := hD
  refine lv_aload_n hx hb dX9_init_85 rfl (lv_at hl 0 rfl) ?_
  refine lv_bipush (v := 48) hx hb dX9_init_86 (by decide) ?_
  refine va_newa (atype := .int) (ty := .int) (a0 := (48, .inl (fun _ => 0))) hx hb (hts _ bw_2) rfl hK hP hD hS hA (fun _ => rfl) (by decide) (by decide) (by decide) (by rw [hR]; exact Nat.le_of_ble_eq_true rfl) (by rw [hR]; exact Nat.le_of_ble_eq_true rfl) dX9_init_88 (fun q_15 a_16 H hK hP hD hS => ?_)
  obtain rfl : a_2 = a_16 := my_sameI hK 0 2 rfl rfl
  have hK := hK.sub (tys' := [(a_2, .int), (a_8, .boolean)]) [0, 1] rfl
  have hP : va_P D vwCl [(h0, .inr (9, [.ref q_1, .ref q_3, .ref q_5, .int (-1), .int 3, .int 255, .int 0, .int 0, .int 0, .int 0, .int 0, .int 65535, .ref q_7, .ref q_9, .ref q_11, .ref q_13, .null, .null, .int 0, .null, .null, .null, .null])), (q_1, .inl (a_2, 4, .inl (fun _ => 0))), (q_3, .inl (a_2, 4, .inl (fun _ => 0))), (q_5, .inl (a_2, 16384, .inl (fun _ => 0))), (q_7, .inl (a_8, 4096, .inl (fun _ => 0))), (q_9, .inl (a_2, 4096, .inl (fun _ => 0))), (q_11, .inl (a_2, 4096, .inl (fun _ => 0))), (q_13, .inl (a_2, 48, .inl (fun _ => 0))), (q_15, .inl (a_2, 48, .inl (fun _ => 0)))] H := hP
  have hD : va_D A [(h0, .inr (9, [.ref q_1, .ref q_3, .ref q_5, .int (-1), .int 3, .int 255, .int 0, .int 0, .int 0, .int 0, .int 0, .int 65535, .ref q_7, .ref q_9, .ref q_11, .ref q_13, .null, .null, .int 0, .null, .null, .null, .null])), (q_1, .inl (a_2, 4, .inl (fun _ => 0))), (q_3, .inl (a_2, 4, .inl (fun _ => 0))), (q_5, .inl (a_2, 16384, .inl (fun _ => 0))), (q_7, .inl (a_8, 4096, .inl (fun _ => 0))), (q_9, .inl (a_2, 4096, .inl (fun _ => 0))), (q_11, .inl (a_2, 4096, .inl (fun _ => 0))), (q_13, .inl (a_2, 48, .inl (fun _ => 0))), (q_15, .inl (a_2, 48, .inl (fun _ => 0)))] := hD
  refine W.widen (k := 8) (n := 28776) (by omega) (by omega) ?_
  refine va_putF (D := D) (ci := 9) (v := .ref q_15) (ty := (.array .int)) (C := RX9) (T := TX9) (N := 23) hx hb hts hi_X9 tyX9 tyX9_ok nmX9 hown hK hP hD hS 0 rfl rfl 16 (by decide) (hts _ bw_408) (fun _ h9 => h9) rfl hin rfl (by decide +kernel) rfl rfl (Nat.le_of_ble_eq_true rfl) dX9_init_90 (fun H locs hP hD hS => ?_)
  have hP : va_P D vwCl [(h0, .inr (9, [.ref q_1, .ref q_3, .ref q_5, .int (-1), .int 3, .int 255, .int 0, .int 0, .int 0, .int 0, .int 0, .int 65535, .ref q_7, .ref q_9, .ref q_11, .ref q_13, .ref q_15, .null, .int 0, .null, .null, .null, .null])), (q_1, .inl (a_2, 4, .inl (fun _ => 0))), (q_3, .inl (a_2, 4, .inl (fun _ => 0))), (q_5, .inl (a_2, 16384, .inl (fun _ => 0))), (q_7, .inl (a_8, 4096, .inl (fun _ => 0))), (q_9, .inl (a_2, 4096, .inl (fun _ => 0))), (q_11, .inl (a_2, 4096, .inl (fun _ => 0))), (q_13, .inl (a_2, 48, .inl (fun _ => 0))), (q_15, .inl (a_2, 48, .inl (fun _ => 0)))] H := hP
  have hD : va_D A [(h0, .inr (9, [.ref q_1, .ref q_3, .ref q_5, .int (-1), .int 3, .int 255, .int 0, .int 0, .int 0, .int 0, .int 0, .int 65535, .ref q_7, .ref q_9, .ref q_11, .ref q_13, .ref q_15, .null, .int 0, .null, .null, .null, .null])), (q_1, .inl (a_2, 4, .inl (fun _ => 0))), (q_3, .inl (a_2, 4, .inl (fun _ => 0))), (q_5, .inl (a_2, 16384, .inl (fun _ => 0))), (q_7, .inl (a_8, 4096, .inl (fun _ => 0))), (q_9, .inl (a_2, 4096, .inl (fun _ => 0))), (q_11, .inl (a_2, 4096, .inl (fun _ => 0))), (q_13, .inl (a_2, 48, .inl (fun _ => 0))), (q_15, .inl (a_2, 48, .inl (fun _ => 0)))] := hD
  refine lv_aload_n hx hb dX9_init_93 rfl (lv_at hl 0 rfl) ?_
  refine lv_bipush (v := 48) hx hb dX9_init_94 (by decide) ?_
  refine va_newa (atype := .boolean) (ty := .boolean) (a0 := (48, .inl (fun _ => 0))) hx hb (hts _ bw_3) rfl hK hP hD hS hA (fun _ => rfl) (by decide) (by decide) (by decide) (by rw [hR]; exact Nat.le_of_ble_eq_true rfl) (by rw [hR]; exact Nat.le_of_ble_eq_true rfl) dX9_init_96 (fun q_17 a_18 H hK hP hD hS => ?_)
  obtain rfl : a_8 = a_18 := my_sameZ hK 1 2 rfl rfl
  have hK := hK.sub (tys' := [(a_2, .int), (a_8, .boolean)]) [0, 1] rfl
  have hP : va_P D vwCl [(h0, .inr (9, [.ref q_1, .ref q_3, .ref q_5, .int (-1), .int 3, .int 255, .int 0, .int 0, .int 0, .int 0, .int 0, .int 65535, .ref q_7, .ref q_9, .ref q_11, .ref q_13, .ref q_15, .null, .int 0, .null, .null, .null, .null])), (q_1, .inl (a_2, 4, .inl (fun _ => 0))), (q_3, .inl (a_2, 4, .inl (fun _ => 0))), (q_5, .inl (a_2, 16384, .inl (fun _ => 0))), (q_7, .inl (a_8, 4096, .inl (fun _ => 0))), (q_9, .inl (a_2, 4096, .inl (fun _ => 0))), (q_11, .inl (a_2, 4096, .inl (fun _ => 0))), (q_13, .inl (a_2, 48, .inl (fun _ => 0))), (q_15, .inl (a_2, 48, .inl (fun _ => 0))), (q_17, .inl (a_8, 48, .inl (fun _ => 0)))] H := hP
  have hD : va_D A [(h0, .inr (9, [.ref q_1, .ref q_3, .ref q_5, .int (-1), .int 3, .int 255, .int 0, .int 0, .int 0, .int 0, .int 0, .int 65535, .ref q_7, .ref q_9, .ref q_11, .ref q_13, .ref q_15, .null, .int 0, .null, .null, .null, .null])), (q_1, .inl (a_2, 4, .inl (fun _ => 0))), (q_3, .inl (a_2, 4, .inl (fun _ => 0))), (q_5, .inl (a_2, 16384, .inl (fun _ => 0))), (q_7, .inl (a_8, 4096, .inl (fun _ => 0))), (q_9, .inl (a_2, 4096, .inl (fun _ => 0))), (q_11, .inl (a_2, 4096, .inl (fun _ => 0))), (q_13, .inl (a_2, 48, .inl (fun _ => 0))), (q_15, .inl (a_2, 48, .inl (fun _ => 0))), (q_17, .inl (a_8, 48, .inl (fun _ => 0)))] := hD
  refine W.widen (k := 9) (n := 28824) (by omega) (by omega) ?_
  refine va_putF (D := D) (ci := 9) (v := .ref q_17) (ty := (.array .boolean)) (C := RX9) (T := TX9) (N := 23) hx hb hts hi_X9 tyX9 tyX9_ok nmX9 hown hK hP hD hS 0 rfl rfl 17 (by decide) (hts _ bw_409) (fun _ h9 => h9) rfl hin rfl (by decide +kernel) rfl rfl (Nat.le_of_ble_eq_true rfl) dX9_init_98 (fun H locs hP hD hS => ?_)
  have hP : va_P D vwCl [(h0, .inr (9, [.ref q_1, .ref q_3, .ref q_5, .int (-1), .int 3, .int 255, .int 0, .int 0, .int 0, .int 0, .int 0, .int 65535, .ref q_7, .ref q_9, .ref q_11, .ref q_13, .ref q_15, .ref q_17, .int 0, .null, .null, .null, .null])), (q_1, .inl (a_2, 4, .inl (fun _ => 0))), (q_3, .inl (a_2, 4, .inl (fun _ => 0))), (q_5, .inl (a_2, 16384, .inl (fun _ => 0))), (q_7, .inl (a_8, 4096, .inl (fun _ => 0))), (q_9, .inl (a_2, 4096, .inl (fun _ => 0))), (q_11, .inl (a_2, 4096, .inl (fun _ => 0))), (q_13, .inl (a_2, 48, .inl (fun _ => 0))), (q_15, .inl (a_2, 48, .inl (fun _ => 0))), (q_17, .inl (a_8, 48, .inl (fun _ => 0)))] H := hP
  have hD : va_D A [(h0, .inr (9, [.ref q_1, .ref q_3, .ref q_5, .int (-1), .int 3, .int 255, .int 0, .int 0, .int 0, .int 0, .int 0, .int 65535, .ref q_7, .ref q_9, .ref q_11, .ref q_13, .ref q_15, .ref q_17, .int 0, .null, .null, .null, .null])), (q_1, .inl (a_2, 4, .inl (fun _ => 0))), (q_3, .inl (a_2, 4, .inl (fun _ => 0))), (q_5, .inl (a_2, 16384, .inl (fun _ => 0))), (q_7, .inl (a_8, 4096, .inl (fun _ => 0))), (q_9, .inl (a_2, 4096, .inl (fun _ => 0))), (q_11, .inl (a_2, 4096, .inl (fun _ => 0))), (q_13, .inl (a_2, 48, .inl (fun _ => 0))), (q_15, .inl (a_2, 48, .inl (fun _ => 0))), (q_17, .inl (a_8, 48, .inl (fun _ => 0)))] := hD
  refine lv_aload_n hx hb dX9_init_101 rfl (lv_at hl 0 rfl) ?_
  refine lv_iconst (v := 3) hx hb dX9_init_102 (by decide) ?_
  refine va_newa (atype := .int) (ty := .int) (a0 := (3, .inl (fun _ => 0))) hx hb (hts _ bw_2) rfl hK hP hD hS hA (fun _ => rfl) (by decide) (by decide) (by decide) (by rw [hR]; exact Nat.le_of_ble_eq_true rfl) (by rw [hR]; exact Nat.le_of_ble_eq_true rfl) dX9_init_103 (fun q_19 a_20 H hK hP hD hS => ?_)
  obtain rfl : a_2 = a_20 := my_sameI hK 0 2 rfl rfl
  have hK := hK.sub (tys' := [(a_2, .int), (a_8, .boolean)]) [0, 1] rfl
  have hP : va_P D vwCl [(h0, .inr (9, [.ref q_1, .ref q_3, .ref q_5, .int (-1), .int 3, .int 255, .int 0, .int 0, .int 0, .int 0, .int 0, .int 65535, .ref q_7, .ref q_9, .ref q_11, .ref q_13, .ref q_15, .ref q_17, .int 0, .null, .null, .null, .null])), (q_1, .inl (a_2, 4, .inl (fun _ => 0))), (q_3, .inl (a_2, 4, .inl (fun _ => 0))), (q_5, .inl (a_2, 16384, .inl (fun _ => 0))), (q_7, .inl (a_8, 4096, .inl (fun _ => 0))), (q_9, .inl (a_2, 4096, .inl (fun _ => 0))), (q_11, .inl (a_2, 4096, .inl (fun _ => 0))), (q_13, .inl (a_2, 48, .inl (fun _ => 0))), (q_15, .inl (a_2, 48, .inl (fun _ => 0))), (q_17, .inl (a_8, 48, .inl (fun _ => 0))), (q_19, .inl (a_2, 3, .inl (fun _ => 0)))] H := hP
  have hD : va_D A [(h0, .inr (9, [.ref q_1, .ref q_3, .ref q_5, .int (-1), .int 3, .int 255, .int 0, .int 0, .int 0, .int 0, .int 0, .int 65535, .ref q_7, .ref q_9, .ref q_11, .ref q_13, .ref q_15, .ref q_17, .int 0, .null, .null, .null, .null])), (q_1, .inl (a_2, 4, .inl (fun _ => 0))), (q_3, .inl (a_2, 4, .inl (fun _ => 0))), (q_5, .inl (a_2, 16384, .inl (fun _ => 0))), (q_7, .inl (a_8, 4096, .inl (fun _ => 0))), (q_9, .inl (a_2, 4096, .inl (fun _ => 0))), (q_11, .inl (a_2, 4096, .inl (fun _ => 0))), (q_13, .inl (a_2, 48, .inl (fun _ => 0))), (q_15, .inl (a_2, 48, .inl (fun _ => 0))), (q_17, .inl (a_8, 48, .inl (fun _ => 0))), (q_19, .inl (a_2, 3, .inl (fun _ => 0)))] := hD
  refine W.widen (k := 10) (n := 28827) (by omega) (by omega) ?_
  refine va_putF (D := D) (ci := 9) (v := .ref q_19) (ty := (.array .int)) (C := RX9) (T := TX9) (N := 23) hx hb hts hi_X9 tyX9 tyX9_ok nmX9 hown hK hP hD hS 0 rfl rfl 19 (by decide) (hts _ bw_410) (fun _ h9 => h9) rfl hin rfl (by decide +kernel) rfl rfl (Nat.le_of_ble_eq_true rfl) dX9_init_105 (fun H locs hP hD hS => ?_)
  have hP : va_P D vwCl [(h0, .inr (9, [.ref q_1, .ref q_3, .ref q_5, .int (-1), .int 3, .int 255, .int 0, .int 0, .int 0, .int 0, .int 0, .int 65535, .ref q_7, .ref q_9, .ref q_11, .ref q_13, .ref q_15, .ref q_17, .int 0, .ref q_19, .null, .null, .null])), (q_1, .inl (a_2, 4, .inl (fun _ => 0))), (q_3, .inl (a_2, 4, .inl (fun _ => 0))), (q_5, .inl (a_2, 16384, .inl (fun _ => 0))), (q_7, .inl (a_8, 4096, .inl (fun _ => 0))), (q_9, .inl (a_2, 4096, .inl (fun _ => 0))), (q_11, .inl (a_2, 4096, .inl (fun _ => 0))), (q_13, .inl (a_2, 48, .inl (fun _ => 0))), (q_15, .inl (a_2, 48, .inl (fun _ => 0))), (q_17, .inl (a_8, 48, .inl (fun _ => 0))), (q_19, .inl (a_2, 3, .inl (fun _ => 0)))] H := hP
  have hD : va_D A [(h0, .inr (9, [.ref q_1, .ref q_3, .ref q_5, .int (-1), .int 3, .int 255, .int 0, .int 0, .int 0, .int 0, .int 0, .int 65535, .ref q_7, .ref q_9, .ref q_11, .ref q_13, .ref q_15, .ref q_17, .int 0, .ref q_19, .null, .null, .null])), (q_1, .inl (a_2, 4, .inl (fun _ => 0))), (q_3, .inl (a_2, 4, .inl (fun _ => 0))), (q_5, .inl (a_2, 16384, .inl (fun _ => 0))), (q_7, .inl (a_8, 4096, .inl (fun _ => 0))), (q_9, .inl (a_2, 4096, .inl (fun _ => 0))), (q_11, .inl (a_2, 4096, .inl (fun _ => 0))), (q_13, .inl (a_2, 48, .inl (fun _ => 0))), (q_15, .inl (a_2, 48, .inl (fun _ => 0))), (q_17, .inl (a_8, 48, .inl (fun _ => 0))), (q_19, .inl (a_2, 3, .inl (fun _ => 0)))] := hD
  refine lv_aload_n hx hb dX9_init_108 rfl (lv_at hl 0 rfl) ?_
  refine lv_iconst (v := 3) hx hb dX9_init_109 (by decide) ?_
  refine va_newa (atype := .int) (ty := .int) (a0 := (3, .inl (fun _ => 0))) hx hb (hts _ bw_2) rfl hK hP hD hS hA (fun _ => rfl) (by decide) (by decide) (by decide) (by rw [hR]; exact Nat.le_of_ble_eq_true rfl) (by rw [hR]; exact Nat.le_of_ble_eq_true rfl) dX9_init_110 (fun q_21 a_22 H hK hP hD hS => ?_)
  obtain rfl : a_2 = a_22 := my_sameI hK 0 2 rfl rfl
  have hK := hK.sub (tys' := [(a_2, .int), (a_8, .boolean)]) [0, 1] rfl
  have hP : va_P D vwCl [(h0, .inr (9, [.ref q_1, .ref q_3, .ref q_5, .int (-1), .int 3, .int 255, .int 0, .int 0, .int 0, .int 0, .int 0, .int 65535, .ref q_7, .ref q_9, .ref q_11, .ref q_13, .ref q_15, .ref q_17, .int 0, .ref q_19, .null, .null, .null])), (q_1, .inl (a_2, 4, .inl (fun _ => 0))), (q_3, .inl (a_2, 4, .inl (fun _ => 0))), (q_5, .inl (a_2, 16384, .inl (fun _ => 0))), (q_7, .inl (a_8, 4096, .inl (fun _ => 0))), (q_9, .inl (a_2, 4096, .inl (fun _ => 0))), (q_11, .inl (a_2, 4096, .inl (fun _ => 0))), (q_13, .inl (a_2, 48, .inl (fun _ => 0))), (q_15, .inl (a_2, 48, .inl (fun _ => 0))), (q_17, .inl (a_8, 48, .inl (fun _ => 0))), (q_19, .inl (a_2, 3, .inl (fun _ => 0))), (q_21, .inl (a_2, 3, .inl (fun _ => 0)))] H := hP
  have hD : va_D A [(h0, .inr (9, [.ref q_1, .ref q_3, .ref q_5, .int (-1), .int 3, .int 255, .int 0, .int 0, .int 0, .int 0, .int 0, .int 65535, .ref q_7, .ref q_9, .ref q_11, .ref q_13, .ref q_15, .ref q_17, .int 0, .ref q_19, .null, .null, .null])), (q_1, .inl (a_2, 4, .inl (fun _ => 0))), (q_3, .inl (a_2, 4, .inl (fun _ => 0))), (q_5, .inl (a_2, 16384, .inl (fun _ => 0))), (q_7, .inl (a_8, 4096, .inl (fun _ => 0))), (q_9, .inl (a_2, 4096, .inl (fun _ => 0))), (q_11, .inl (a_2, 4096, .inl (fun _ => 0))), (q_13, .inl (a_2, 48, .inl (fun _ => 0))), (q_15, .inl (a_2, 48, .inl (fun _ => 0))), (q_17, .inl (a_8, 48, .inl (fun _ => 0))), (q_19, .inl (a_2, 3, .inl (fun _ => 0))), (q_21, .inl (a_2, 3, .inl (fun _ => 0)))] := hD
  refine W.widen (k := 11) (n := 28830) (by omega) (by omega) ?_
  refine va_putF (D := D) (ci := 9) (v := .ref q_21) (ty := (.array .int)) (C := RX9) (T := TX9) (N := 23) hx hb hts hi_X9 tyX9 tyX9_ok nmX9 hown hK hP hD hS 0 rfl rfl 20 (by decide) (hts _ bw_411) (fun _ h9 => h9) rfl hin rfl (by decide +kernel) rfl rfl (Nat.le_of_ble_eq_true rfl) dX9_init_112 (fun H locs hP hD hS => ?_)
  have hP : va_P D vwCl [(h0, .inr (9, [.ref q_1, .ref q_3, .ref q_5, .int (-1), .int 3, .int 255, .int 0, .int 0, .int 0, .int 0, .int 0, .int 65535, .ref q_7, .ref q_9, .ref q_11, .ref q_13, .ref q_15, .ref q_17, .int 0, .ref q_19, .ref q_21, .null, .null])), (q_1, .inl (a_2, 4, .inl (fun _ => 0))), (q_3, .inl (a_2, 4, .inl (fun _ => 0))), (q_5, .inl (a_2, 16384, .inl (fun _ => 0))), (q_7, .inl (a_8, 4096, .inl (fun _ => 0))), (q_9, .inl (a_2, 4096, .inl (fun _ => 0))), (q_11, .inl (a_2, 4096, .inl (fun _ => 0))), (q_13, .inl (a_2, 48, .inl (fun _ => 0))), (q_15, .inl (a_2, 48, .inl (fun _ => 0))), (q_17, .inl (a_8, 48, .inl (fun _ => 0))), (q_19, .inl (a_2, 3, .inl (fun _ => 0))), (q_21, .inl (a_2, 3, .inl (fun _ => 0)))] H := hP
  have hD : va_D A [(h0, .inr (9, [.ref q_1, .ref q_3, .ref q_5, .int (-1), .int 3, .int 255, .int 0, .int 0, .int 0, .int 0, .int 0, .int 65535, .ref q_7, .ref q_9, .ref q_11, .ref q_13, .ref q_15, .ref q_17, .int 0, .ref q_19, .ref q_21, .null, .null])), (q_1, .inl (a_2, 4, .inl (fun _ => 0))), (q_3, .inl (a_2, 4, .inl (fun _ => 0))), (q_5, .inl (a_2, 16384, .inl (fun _ => 0))), (q_7, .inl (a_8, 4096, .inl (fun _ => 0))), (q_9, .inl (a_2, 4096, .inl (fun _ => 0))), (q_11, .inl (a_2, 4096, .inl (fun _ => 0))), (q_13, .inl (a_2, 48, .inl (fun _ => 0))), (q_15, .inl (a_2, 48, .inl (fun _ => 0))), (q_17, .inl (a_8, 48, .inl (fun _ => 0))), (q_19, .inl (a_2, 3, .inl (fun _ => 0))), (q_21, .inl (a_2, 3, .inl (fun _ => 0)))] := hD
  refine lv_aload_n hx hb dX9_init_115 rfl (lv_at hl 0 rfl) ?_
  refine lv_iconst (v := 3) hx hb dX9_init_116 (by decide) ?_
  refine va_newa (atype := .int) (ty := .int) (a0 := (3, .inl (fun _ => 0))) hx hb (hts _ bw_2) rfl hK hP hD hS hA (fun _ => rfl) (by decide) (by decide) (by decide) (by rw [hR]; exact Nat.le_of_ble_eq_true rfl) (by rw [hR]; exact Nat.le_of_ble_eq_true rfl) dX9_init_117 (fun q_23 a_24 H hK hP hD hS => ?_)
  obtain rfl : a_2 = a_24 := my_sameI hK 0 2 rfl rfl
  have hK := hK.sub (tys' := [(a_2, .int), (a_8, .boolean)]) [0, 1] rfl
  have hP : va_P D vwCl [(h0, .inr (9, [.ref q_1, .ref q_3, .ref q_5, .int (-1), .int 3, .int 255, .int 0, .int 0, .int 0, .int 0, .int 0, .int 65535, .ref q_7, .ref q_9, .ref q_11, .ref q_13, .ref q_15, .ref q_17, .int 0, .ref q_19, .ref q_21, .null, .null])), (q_1, .inl (a_2, 4, .inl (fun _ => 0))), (q_3, .inl (a_2, 4, .inl (fun _ => 0))), (q_5, .inl (a_2, 16384, .inl (fun _ => 0))), (q_7, .inl (a_8, 4096, .inl (fun _ => 0))), (q_9, .inl (a_2, 4096, .inl (fun _ => 0))), (q_11, .inl (a_2, 4096, .inl (fun _ => 0))), (q_13, .inl (a_2, 48, .inl (fun _ => 0))), (q_15, .inl (a_2, 48, .inl (fun _ => 0))), (q_17, .inl (a_8, 48, .inl (fun _ => 0))), (q_19, .inl (a_2, 3, .inl (fun _ => 0))), (q_21, .inl (a_2, 3, .inl (fun _ => 0))), (q_23, .inl (a_2, 3, .inl (fun _ => 0)))] H := hP
  have hD : va_D A [(h0, .inr (9, [.ref q_1, .ref q_3, .ref q_5, .int (-1), .int 3, .int 255, .int 0, .int 0, .int 0, .int 0, .int 0, .int 65535, .ref q_7, .ref q_9, .ref q_11, .ref q_13, .ref q_15, .ref q_17, .int 0, .ref q_19, .ref q_21, .null, .null])), (q_1, .inl (a_2, 4, .inl (fun _ => 0))), (q_3, .inl (a_2, 4, .inl (fun _ => 0))), (q_5, .inl (a_2, 16384, .inl (fun _ => 0))), (q_7, .inl (a_8, 4096, .inl (fun _ => 0))), (q_9, .inl (a_2, 4096, .inl (fun _ => 0))), (q_11, .inl (a_2, 4096, .inl (fun _ => 0))), (q_13, .inl (a_2, 48, .inl (fun _ => 0))), (q_15, .inl (a_2, 48, .inl (fun _ => 0))), (q_17, .inl (a_8, 48, .inl (fun _ => 0))), (q_19, .inl (a_2, 3, .inl (fun _ => 0))), (q_21, .inl (a_2, 3, .inl (fun _ => 0))), (q_23, .inl (a_2, 3, .inl (fun _ => 0)))] := hD
  refine W.widen (k := 12) (n := 28833) (by omega) (by omega) ?_
  refine va_putF (D := D) (ci := 9) (v := .ref q_23) (ty := (.array .int)) (C := RX9) (T := TX9) (N := 23) hx hb hts hi_X9 tyX9 tyX9_ok nmX9 hown hK hP hD hS 0 rfl rfl 21 (by decide) (hts _ bw_412) (fun _ h9 => h9) rfl hin rfl (by decide +kernel) rfl rfl (Nat.le_of_ble_eq_true rfl) dX9_init_119 (fun H locs hP hD hS => ?_)
  have hP : va_P D vwCl [(h0, .inr (9, [.ref q_1, .ref q_3, .ref q_5, .int (-1), .int 3, .int 255, .int 0, .int 0, .int 0, .int 0, .int 0, .int 65535, .ref q_7, .ref q_9, .ref q_11, .ref q_13, .ref q_15, .ref q_17, .int 0, .ref q_19, .ref q_21, .ref q_23, .null])), (q_1, .inl (a_2, 4, .inl (fun _ => 0))), (q_3, .inl (a_2, 4, .inl (fun _ => 0))), (q_5, .inl (a_2, 16384, .inl (fun _ => 0))), (q_7, .inl (a_8, 4096, .inl (fun _ => 0))), (q_9, .inl (a_2, 4096, .inl (fun _ => 0))), (q_11, .inl (a_2, 4096, .inl (fun _ => 0))), (q_13, .inl (a_2, 48, .inl (fun _ => 0))), (q_15, .inl (a_2, 48, .inl (fun _ => 0))), (q_17, .inl (a_8, 48, .inl (fun _ => 0))), (q_19, .inl (a_2, 3, .inl (fun _ => 0))), (q_21, .inl (a_2, 3, .inl (fun _ => 0))), (q_23, .inl (a_2, 3, .inl (fun _ => 0)))] H := hP
  have hD : va_D A [(h0, .inr (9, [.ref q_1, .ref q_3, .ref q_5, .int (-1), .int 3, .int 255, .int 0, .int 0, .int 0, .int 0, .int 0, .int 65535, .ref q_7, .ref q_9, .ref q_11, .ref q_13, .ref q_15, .ref q_17, .int 0, .ref q_19, .ref q_21, .ref q_23, .null])), (q_1, .inl (a_2, 4, .inl (fun _ => 0))), (q_3, .inl (a_2, 4, .inl (fun _ => 0))), (q_5, .inl (a_2, 16384, .inl (fun _ => 0))), (q_7, .inl (a_8, 4096, .inl (fun _ => 0))), (q_9, .inl (a_2, 4096, .inl (fun _ => 0))), (q_11, .inl (a_2, 4096, .inl (fun _ => 0))), (q_13, .inl (a_2, 48, .inl (fun _ => 0))), (q_15, .inl (a_2, 48, .inl (fun _ => 0))), (q_17, .inl (a_8, 48, .inl (fun _ => 0))), (q_19, .inl (a_2, 3, .inl (fun _ => 0))), (q_21, .inl (a_2, 3, .inl (fun _ => 0))), (q_23, .inl (a_2, 3, .inl (fun _ => 0)))] := hD
  refine lv_aload_n hx hb dX9_init_122 rfl (lv_at hl 0 rfl) ?_
  refine lv_sipush (v := 4096) hx hb dX9_init_123 (by decide) ?_
  refine va_newa (atype := .int) (ty := .int) (a0 := (4096, .inl (fun _ => 0))) hx hb (hts _ bw_2) rfl hK hP hD hS hA (fun _ => rfl) (by decide) (by decide) (by decide) (by rw [hR]; exact Nat.le_of_ble_eq_true rfl) (by rw [hR]; exact Nat.le_of_ble_eq_true rfl) dX9_init_126 (fun q_25 a_26 H hK hP hD hS => ?_)
  obtain rfl : a_2 = a_26 := my_sameI hK 0 2 rfl rfl
  have hK := hK.sub (tys' := [(a_2, .int), (a_8, .boolean)]) [0, 1] rfl
  have hP : va_P D vwCl [(h0, .inr (9, [.ref q_1, .ref q_3, .ref q_5, .int (-1), .int 3, .int 255, .int 0, .int 0, .int 0, .int 0, .int 0, .int 65535, .ref q_7, .ref q_9, .ref q_11, .ref q_13, .ref q_15, .ref q_17, .int 0, .ref q_19, .ref q_21, .ref q_23, .null])), (q_1, .inl (a_2, 4, .inl (fun _ => 0))), (q_3, .inl (a_2, 4, .inl (fun _ => 0))), (q_5, .inl (a_2, 16384, .inl (fun _ => 0))), (q_7, .inl (a_8, 4096, .inl (fun _ => 0))), (q_9, .inl (a_2, 4096, .inl (fun _ => 0))), (q_11, .inl (a_2, 4096, .inl (fun _ => 0))), (q_13, .inl (a_2, 48, .inl (fun _ => 0))), (q_15, .inl (a_2, 48, .inl (fun _ => 0))), (q_17, .inl (a_8, 48, .inl (fun _ => 0))), (q_19, .inl (a_2, 3, .inl (fun _ => 0))), (q_21, .inl (a_2, 3, .inl (fun _ => 0))), (q_23, .inl (a_2, 3, .inl (fun _ => 0))), (q_25, .inl (a_2, 4096, .inl (fun _ => 0)))] H := hP
  have hD : va_D A [(h0, .inr (9, [.ref q_1, .ref q_3, .ref q_5, .int (-1), .int 3, .int 255, .int 0, .int 0, .int 0, .int 0, .int 0, .int 65535, .ref q_7, .ref q_9, .ref q_11, .ref q_13, .ref q_15, .ref q_17, .int 0, .ref q_19, .ref q_21, .ref q_23, .null])), (q_1, .inl (a_2, 4, .inl (fun _ => 0))), (q_3, .inl (a_2, 4, .inl (fun _ => 0))), (q_5, .inl (a_2, 16384, .inl (fun _ => 0))), (q_7, .inl (a_8, 4096, .inl (fun _ => 0))), (q_9, .inl (a_2, 4096, .inl (fun _ => 0))), (q_11, .inl (a_2, 4096, .inl (fun _ => 0))), (q_13, .inl (a_2, 48, .inl (fun _ => 0))), (q_15, .inl (a_2, 48, .inl (fun _ => 0))), (q_17, .inl (a_8, 48, .inl (fun _ => 0))), (q_19, .inl (a_2, 3, .inl (fun _ => 0))), (q_21, .inl (a_2, 3, .inl (fun _ => 0))), (q_23, .inl (a_2, 3, .inl (fun _ => 0))), (q_25, .inl (a_2, 4096, .inl (fun _ => 0)))] := hD
  refine W.widen (k := 13) (n := 32929) (by omega) (by omega) ?_
  refine va_putF (D := D) (ci := 9) (v := .ref q_25) (ty := (.array .int)) (C := RX9) (T := TX9) (N := 23) hx hb hts hi_X9 tyX9 tyX9_ok nmX9 hown hK hP hD hS 0 rfl rfl 22 (by decide) (hts _ bw_413) (fun _ h9 => h9) rfl hin rfl (by decide +kernel) rfl rfl (Nat.le_of_ble_eq_true rfl) dX9_init_128 (fun H locs hP hD hS => ?_)
  have hP : va_P D vwCl [(h0, .inr (9, [.ref q_1, .ref q_3, .ref q_5, .int (-1), .int 3, .int 255, .int 0, .int 0, .int 0, .int 0, .int 0, .int 65535, .ref q_7, .ref q_9, .ref q_11, .ref q_13, .ref q_15, .ref q_17, .int 0, .ref q_19, .ref q_21, .ref q_23, .ref q_25])), (q_1, .inl (a_2, 4, .inl (fun _ => 0))), (q_3, .inl (a_2, 4, .inl (fun _ => 0))), (q_5, .inl (a_2, 16384, .inl (fun _ => 0))), (q_7, .inl (a_8, 4096, .inl (fun _ => 0))), (q_9, .inl (a_2, 4096, .inl (fun _ => 0))), (q_11, .inl (a_2, 4096, .inl (fun _ => 0))), (q_13, .inl (a_2, 48, .inl (fun _ => 0))), (q_15, .inl (a_2, 48, .inl (fun _ => 0))), (q_17, .inl (a_8, 48, .inl (fun _ => 0))), (q_19, .inl (a_2, 3, .inl (fun _ => 0))), (q_21, .inl (a_2, 3, .inl (fun _ => 0))), (q_23, .inl (a_2, 3, .inl (fun _ => 0))), (q_25, .inl (a_2, 4096, .inl (fun _ => 0)))] H := hP
  have hD : va_D A [(h0, .inr (9, [.ref q_1, .ref q_3, .ref q_5, .int (-1), .int 3, .int 255, .int 0, .int 0, .int 0, .int 0, .int 0, .int 65535, .ref q_7, .ref q_9, .ref q_11, .ref q_13, .ref q_15, .ref q_17, .int 0, .ref q_19, .ref q_21, .ref q_23, .ref q_25])), (q_1, .inl (a_2, 4, .inl (fun _ => 0))), (q_3, .inl (a_2, 4, .inl (fun _ => 0))), (q_5, .inl (a_2, 16384, .inl (fun _ => 0))), (q_7, .inl (a_8, 4096, .inl (fun _ => 0))), (q_9, .inl (a_2, 4096, .inl (fun _ => 0))), (q_11, .inl (a_2, 4096, .inl (fun _ => 0))), (q_13, .inl (a_2, 48, .inl (fun _ => 0))), (q_15, .inl (a_2, 48, .inl (fun _ => 0))), (q_17, .inl (a_8, 48, .inl (fun _ => 0))), (q_19, .inl (a_2, 3, .inl (fun _ => 0))), (q_21, .inl (a_2, 3, .inl (fun _ => 0))), (q_23, .inl (a_2, 3, .inl (fun _ => 0))), (q_25, .inl (a_2, 4096, .inl (fun _ => 0)))] := hD
  have hP9 := hP.sub (ws' := [(h0, .inr (9, [.ref q_1, .ref q_3, .ref q_5, .int (-1), .int 3, .int 255, .int 0, .int 0, .int 0, .int 0, .int 0, .int 65535, .ref q_7, .ref q_9, .ref q_11, .ref q_13, .ref q_15, .ref q_17, .int 0, .ref q_19, .ref q_21, .ref q_23, .ref q_25])), (q_1, .inl (a_2, 4, .inl (fun _ => 0))), (q_3, .inl (a_2, 4, .inl (fun _ => 0))), (q_5, .inl (a_2, 16384, .inl (fun _ => 0))), (q_7, .inl (a_8, 4096, .inl (fun _ => 0))), (q_9, .inl (a_2, 4096, .inl (fun _ => 0))), (q_11, .inl (a_2, 4096, .inl (fun _ => 0))), (q_13, .inl (a_2, 48, .inl (fun _ => 0))), (q_15, .inl (a_2, 48, .inl (fun _ => 0))), (q_17, .inl (a_8, 48, .inl (fun _ => 0))), (q_19, .inl (a_2, 3, .inl (fun _ => 0))), (q_21, .inl (a_2, 3, .inl (fun _ => 0))), (q_23, .inl (a_2, 3, .inl (fun _ => 0))), (q_25, .inl (a_2, 4096, .inl (fun _ => 0)))]) [0, 1, 2, 3, 4, 5, 6, 7, 8, 9, 10, 11, 12, 13] rfl
  have hD9 := hD.sub (ws' := [(h0, .inr (9, [.ref q_1, .ref q_3, .ref q_5, .int (-1), .int 3, .int 255, .int 0, .int 0, .int 0, .int 0, .int 0, .int 65535, .ref q_7, .ref q_9, .ref q_11, .ref q_13, .ref q_15, .ref q_17, .int 0, .ref q_19, .ref q_21, .ref q_23, .ref q_25])), (q_1, .inl (a_2, 4, .inl (fun _ => 0))), (q_3, .inl (a_2, 4, .inl (fun _ => 0))), (q_5, .inl (a_2, 16384, .inl (fun _ => 0))), (q_7, .inl (a_8, 4096, .inl (fun _ => 0))), (q_9, .inl (a_2, 4096, .inl (fun _ => 0))), (q_11, .inl (a_2, 4096, .inl (fun _ => 0))), (q_13, .inl (a_2, 48, .inl (fun _ => 0))), (q_15, .inl (a_2, 48, .inl (fun _ => 0))), (q_17, .inl (a_8, 48, .inl (fun _ => 0))), (q_19, .inl (a_2, 3, .inl (fun _ => 0))), (q_21, .inl (a_2, 3, .inl (fun _ => 0))), (q_23, .inl (a_2, 3, .inl (fun _ => 0))), (q_25, .inl (a_2, 4096, .inl (fun _ => 0)))]) [0, 1, 2, 3, 4, 5, 6, 7, 8, 9, 10, 11, 12, 13] (by decide) rfl
  have hK9 := hK.sub (tys' := [(a_2, .int), (a_8, .boolean)]) [0, 1] rfl
  refine hQ _ _ _ _ _ ?_
  exact W.vret hx hb hr (fun t ht hW => ⟨⟨(), rfl, trivial, ⟨q_1, q_3, q_5, q_7, q_9, q_11, q_13, q_15, q_17, q_19, q_21, q_23, q_25, a_2, a_8, by rw [ht]; exact hP9, va_K.moved hW.alike hK9, hD9⟩⟩, hS.F ht⟩) hS.2.2 dX9_init_131
