set_option maxHeartbeats 4000000 in
set_option maxRecDepth 100000 in
theorem k_X8_sheetAt (l : Launch) (D : va_G) (sz : Nat) (h0 s1 s2 s3 s4 s5 s6 : Nat) (ca : ClassId) (k : Int32) : Met l yX8_sheetAt (wB yX8_sheetAt cX8_sheetAt 2 (some (.object "DotBench$Sheet"))) ({ frames := 0, cells := 0, slots := 0, locals := 0 }) (cP D [(h0, .inr (8, [.ref s1, .ref s2, .ref s3, .ref s4, .ref s5, .ref s6, .int 65535, .null, .null])), (s1, .inl (ca, 4, .inr (.inr (.inr (.inr (fun _ => none))))))] [(ca, .object "DotBench$Sheet")] sz [.ref h0, .int k]) (va_Qq (fun (r : Option Nat) (_ : Unit) => r = none) (fun (_ : Unit) (t : State) => cB D (va_A [(h0, .inr (8, [.ref s1, .ref s2, .ref s3, .ref s4, .ref s5, .ref s6, .int 65535, .null, .null])), (s1, .inl (ca, 4, .inr (.inr (.inr (.inr (fun _ => none))))))] sz) [(h0, .inr (8, [.ref s1, .ref s2, .ref s3, .ref s4, .ref s5, .ref s6, .int 65535, .null, .null])), (s1, .inl (ca, 4, .inr (.inr (.inr (.inr (fun _ => none))))))] [] t) (va_A [(h0, .inr (8, [.ref s1, .ref s2, .ref s3, .ref s4, .ref s5, .ref s6, .int 65535, .null, .null])), (s1, .inl (ca, 4, .inr (.inr (.inr (.inr (fun _ => none))))))] sz)) 0 0 (va_A [(h0, .inr (8, [.ref s1, .ref s2, .ref s3, .ref s4, .ref s5, .ref s6, .int 65535, .null, .null])), (s1, .inl (ca, 4, .inr (.inr (.inr (.inr (fun _ => none))))))] sz) := by
  refine Met.ofW (cc := cX8_sheetAt) (maxL := 2) (ret := (some (.object "DotBench$Sheet"))) (by decide) rfl ?_
  intro p e s m args below meth c s₁ B hml hv
  obtain ⟨rfl, hsz, hP, hK, hD0, hN⟩ := hv
  have hx := B.exec
  have hb := B.bytes
  have hr := B.returns
  have hts0 := atoms_spec (ws := (wB yX8_sheetAt cX8_sheetAt 2 (some (.object "DotBench$Sheet")))) B.pre
  have hts : ∀ w ∈ bigW, w.before _ s = true := fun w h => hts0 w (List.mem_cons_of_mem _ h)
  have hown : s.vm.findClass RX8 = some m.cls := findClass_of_methodNamed B.named
  have hlocks := B.notSynchronized
  subst hsz
  have hD := hD0.self (sz := s.heap.size)
  generalize hAe : va_A [(h0, .inr (8, [.ref s1, .ref s2, .ref s3, .ref s4, .ref s5, .ref s6, .int 65535, .null, .null])), (s1, .inl (ca, 4, .inr (.inr (.inr (.inr (fun _ => none))))))] s.heap.size = A at hD ⊢
  have hA : ∀ q : Nat, s.heap.size ≤ q → A q := fun q h => by rw [← hAe]; exact Or.inr h
  have hS : va_S A s.heap s.heap [] := va_S.rf
  have hP : va_P D vwCl [(h0, .inr (8, [.ref s1, .ref s2, .ref s3, .ref s4, .ref s5, .ref s6, .int 65535, .null, .null])), (s1, .inl (ca, 4, .inr (.inr (.inr (.inr (fun _ => none))))))] s.heap := hP
  have hl := lv_entry ([.ref h0, .int k]) (n := 2) (Nat.le_of_ble_eq_true rfl)
  rw [lg_entry_eq]
  generalize (lg_sl ([.ref h0, .int k]) ++ List.replicate (2 - (lg_sl ([.ref h0, .int k])).length) Slot.unset).toArray = ls at hl ⊢
  have hl : lv_has ls 2 [(0, .ref h0), (1, .int k)] := hl
  refine lv_iload_n hx hb dX8_sheetAt_0 rfl (lv_at hl 1 rfl) ?_
  refine lv_if_lt (tgt := 18) hx hb dX8_sheetAt_1 (by decide) (fun c_1 => ?_) (fun c_1 => ?_)
  · skip
    have f_2 : k.toInt < 0 := f_lt rfl (by decide) c_1
    refine lv_null hx hb dX8_sheetAt_18 ?_
    have hP9 := hP.sub (ws' := [(h0, .inr (8, [.ref s1, .ref s2, .ref s3, .ref s4, .ref s5, .ref s6, .int 65535, .null, .null])), (s1, .inl (ca, 4, .inr (.inr (.inr (.inr (fun _ => none))))))]) [0, 1] rfl
    have hD9 := hD.sub (ws' := [(h0, .inr (8, [.ref s1, .ref s2, .ref s3, .ref s4, .ref s5, .ref s6, .int 65535, .null, .null])), (s1, .inl (ca, 4, .inr (.inr (.inr (.inr (fun _ => none))))))]) [0, 1] (by decide) rfl
    have hK9 := hK.sub (tys' := []) [] rfl
    exact W.aret hx hb hr (Or.inl ⟨_, rfl⟩) (Or.inl rfl) (fun t ht hW => ⟨⟨none, (), rfl, rfl, ⟨by rw [ht]; exact hP9, va_K.moved hW.alike hK9, hD9⟩⟩, hS.F ht⟩) hS.2.2 dX8_sheetAt_19
  · skip
    have f_2 : ¬ (k.toInt < 0) := fn_lt rfl (by decide) c_1
    refine lv_iload_n hx hb dX8_sheetAt_4 rfl (lv_at hl 1 rfl) ?_
    refine lv_iconst (v := 4) hx hb dX8_sheetAt_5 (by decide) ?_
    refine lv_icmp_ge (tgt := 18) hx hb dX8_sheetAt_6 (by decide) (fun c_3 => ?_) (fun c_3 => ?_)
    · skip
      have f_4 : 4 ≤ k.toInt := f_le (by decide) rfl c_3
      refine lv_null hx hb dX8_sheetAt_18 ?_
      have hP9 := hP.sub (ws' := [(h0, .inr (8, [.ref s1, .ref s2, .ref s3, .ref s4, .ref s5, .ref s6, .int 65535, .null, .null])), (s1, .inl (ca, 4, .inr (.inr (.inr (.inr (fun _ => none))))))]) [0, 1] rfl
      have hD9 := hD.sub (ws' := [(h0, .inr (8, [.ref s1, .ref s2, .ref s3, .ref s4, .ref s5, .ref s6, .int 65535, .null, .null])), (s1, .inl (ca, 4, .inr (.inr (.inr (.inr (fun _ => none))))))]) [0, 1] (by decide) rfl
      have hK9 := hK.sub (tys' := []) [] rfl
      exact W.aret hx hb hr (Or.inl ⟨_, rfl⟩) (Or.inl rfl) (fun t ht hW => ⟨⟨none, (), rfl, rfl, ⟨by rw [ht]; exact hP9, va_K.moved hW.alike hK9, hD9⟩⟩, hS.F ht⟩) hS.2.2 dX8_sheetAt_19
    · skip
      have f_4 : ¬ (4 ≤ k.toInt) := fn_le (by decide) rfl c_3
      refine lv_aload_n hx hb dX8_sheetAt_9 rfl (lv_at hl 0 rfl) ?_
      refine va_get (D := D) (ci := 8) (v := .ref s1) (C := RX8) (T := TX8) (N := 9) hx hb hts hi_X8 hown hK hP 0 rfl rfl 0 (by decide) (hts _ bw_67) (fun _ h9 => h9) rfl dX8_sheetAt_10 ?_
      refine lv_iload_n hx hb dX8_sheetAt_13 rfl (lv_at hl 1 rfl) ?_
      refine va_aldq hx hb hK hP 1 0 rfl rfl (vp_in_iff.mpr ⟨by omega, by omega⟩) dX8_sheetAt_14 ?_
      refine my_topv (v := .null) rfl ?_
      refine lv_goto (tgt := 19) hx hb dX8_sheetAt_15 (by decide) ?_
      have hP9 := hP.sub (ws' := [(h0, .inr (8, [.ref s1, .ref s2, .ref s3, .ref s4, .ref s5, .ref s6, .int 65535, .null, .null])), (s1, .inl (ca, 4, .inr (.inr (.inr (.inr (fun _ => none))))))]) [0, 1] rfl
      have hD9 := hD.sub (ws' := [(h0, .inr (8, [.ref s1, .ref s2, .ref s3, .ref s4, .ref s5, .ref s6, .int 65535, .null, .null])), (s1, .inl (ca, 4, .inr (.inr (.inr (.inr (fun _ => none))))))]) [0, 1] (by decide) rfl
      have hK9 := hK.sub (tys' := []) [] rfl
      exact W.aret hx hb hr (Or.inl ⟨_, rfl⟩) (Or.inl rfl) (fun t ht hW => ⟨⟨none, (), rfl, rfl, ⟨by rw [ht]; exact hP9, va_K.moved hW.alike hK9, hD9⟩⟩, hS.F ht⟩) hS.2.2 dX8_sheetAt_19

set_option maxHeartbeats 4000000 in
set_option maxRecDepth 100000 in
theorem k_X8_carry (l : Launch) (D : va_G) (sz : Nat) (h0 s1 s2 s3 s4 s5 s6 : Nat) (ca : ClassId) (f1 f2 : Nat) (k q : Int32) : Met l yX8_carry (wB yX8_carry cX8_carry 12 (some .int)) ({ frames := 1, cells := 0, slots := 0, locals := 21 }) (cP D [(h0, .inr (8, [.ref s1, .ref s2, .ref s3, .ref s4, .ref s5, .ref s6, .int 65535, .null, .null])), (s1, .inl (ca, 4, .inr (.inr (.inr (.inr (fun _ => none))))))] [(ca, .object "DotBench$Sheet")] sz [.ref h0, .int k, .ref f1, .int q, .ref f2]) (va_Qi (fun (r : Int32) (_ : Unit) => r = -1) (fun (_ : Unit) (_ : State) => True) (va_A [(h0, .inr (8, [.ref s1, .ref s2, .ref s3, .ref s4, .ref s5, .ref s6, .int 65535, .null, .null])), (s1, .inl (ca, 4, .inr (.inr (.inr (.inr (fun _ => none))))))] sz)) 0 0 (va_A [(h0, .inr (8, [.ref s1, .ref s2, .ref s3, .ref s4, .ref s5, .ref s6, .int 65535, .null, .null])), (s1, .inl (ca, 4, .inr (.inr (.inr (.inr (fun _ => none))))))] sz) := by
  refine Met.ofW (cc := cX8_carry) (maxL := 12) (ret := (some .int)) (by decide) rfl ?_
  intro p e s m args below meth c s₁ B hml hv
  obtain ⟨rfl, hsz, hP, hK, hD0, hN⟩ := hv
  have hx := B.exec
  have hb := B.bytes
  have hr := B.returns
  have hts0 := atoms_spec (ws := (wB yX8_carry cX8_carry 12 (some .int))) B.pre
  have hts : ∀ w ∈ bigW, w.before _ s = true := fun w h => hts0 w (List.mem_cons_of_mem _ h)
  have hown : s.vm.findClass RX8 = some m.cls := findClass_of_methodNamed B.named
  have hlocks := B.notSynchronized
  subst hsz
  have hD := hD0.self (sz := s.heap.size)
  generalize hAe : va_A [(h0, .inr (8, [.ref s1, .ref s2, .ref s3, .ref s4, .ref s5, .ref s6, .int 65535, .null, .null])), (s1, .inl (ca, 4, .inr (.inr (.inr (.inr (fun _ => none))))))] s.heap.size = A at hD ⊢
  have hA : ∀ q : Nat, s.heap.size ≤ q → A q := fun q h => by rw [← hAe]; exact Or.inr h
  have hS : va_S A s.heap s.heap [] := va_S.rf
  have hP : va_P D vwCl [(h0, .inr (8, [.ref s1, .ref s2, .ref s3, .ref s4, .ref s5, .ref s6, .int 65535, .null, .null])), (s1, .inl (ca, 4, .inr (.inr (.inr (.inr (fun _ => none))))))] s.heap := hP
  have hl := lv_entry ([.ref h0, .int k, .ref f1, .int q, .ref f2]) (n := 12) (Nat.le_of_ble_eq_true rfl)
  rw [lg_entry_eq]
  generalize (lg_sl ([.ref h0, .int k, .ref f1, .int q, .ref f2]) ++ List.replicate (12 - (lg_sl ([.ref h0, .int k, .ref f1, .int q, .ref f2])).length) Slot.unset).toArray = ls at hl ⊢
  have hl : lv_has ls 12 [(0, .ref h0), (1, .int k), (2, .ref f1), (3, .int q), (4, .ref f2)] := hl
  refine lv_aload_n hx hb dX8_carry_0 rfl (lv_at hl 0 rfl) ?_
  refine lv_iload_n hx hb dX8_carry_1 rfl (lv_at hl 1 rfl) ?_
  have hPc := hP.sub (ws' := [(h0, .inr (8, [.ref s1, .ref s2, .ref s3, .ref s4, .ref s5, .ref s6, .int 65535, .null, .null])), (s1, .inl (ca, 4, .inr (.inr (.inr (.inr (fun _ => none))))))]) [0, 1] rfl
  have hDc := hD.sub (ws' := [(h0, .inr (8, [.ref s1, .ref s2, .ref s3, .ref s4, .ref s5, .ref s6, .int 65535, .null, .null])), (s1, .inl (ca, 4, .inr (.inr (.inr (.inr (fun _ => none))))))]) [0, 1] (by decide) rfl
  have hKc := hK.sub (tys' := [(ca, .object "DotBench$Sheet")]) [0] rfl
  have hFc := va_free (wc := [(h0, .inr (8, [.ref s1, .ref s2, .ref s3, .ref s4, .ref s5, .ref s6, .int 65535, .null, .null])), (s1, .inl (ca, 4, .inr (.inr (.inr (.inr (fun _ => none))))))]) hD hS hA [0, 1] rfl
  refine va_callq (va_runV (As := [.int k]) (rest := []) ⟨hx, hb, hml, hown, hts⟩ (k_X8_sheetAt l D s.heap.size h0 s1 s2 s3 s4 s5 s6 ca k) (cwV 1 hts (gV bw_115 bw_116 bw_117 bw_1 bw_114) rfl rfl rfl (by decide +kernel) ⟨Nat.le_of_ble_eq_true rfl, Nat.le_of_ble_eq_true rfl⟩) ⟨cP_blind, va_recv hKc hPc (ci := 8) (q0 := 0) rfl rfl, cP_at hPc hKc hDc hN⟩ rfl rfl hl.1 rfl (lv_room (Nat.le_of_ble_eq_true rfl)) dX8_carry_2 ⟨Nat.le_of_ble_eq_true rfl, Nat.le_of_ble_eq_true rfl⟩) hS (fun q _ h => hFc q h) hFc (fun r_1 u9 t9 H1 locs ht hvm hr_1 hB hz1 hk1 hS => ?_)
  try dsimp only at hr_1
  obtain ⟨hP1, hK1, hD1⟩ := hB
  rw [ht] at hP1
  obtain ⟨hP, hD⟩ := va_join (wr := []) (w1 := [(h0, .inr (8, [.ref s1, .ref s2, .ref s3, .ref s4, .ref s5, .ref s6, .int 65535, .null, .null])), (s1, .inl (ca, 4, .inr (.inr (.inr (.inr (fun _ => none))))))]) hP hD [0, 1] [] rfl rfl (by decide) (by decide) hk1 hFc hP1 hD1
  clear hz1 hk1 hFc hKc hDc hPc
  generalize H1 = H at hP hS ⊢
  have hP : va_P D vwCl [(h0, .inr (8, [.ref s1, .ref s2, .ref s3, .ref s4, .ref s5, .ref s6, .int 65535, .null, .null])), (s1, .inl (ca, 4, .inr (.inr (.inr (.inr (fun _ => none))))))] H := hP
  have hD : va_D A [(h0, .inr (8, [.ref s1, .ref s2, .ref s3, .ref s4, .ref s5, .ref s6, .int 65535, .null, .null])), (s1, .inl (ca, 4, .inr (.inr (.inr (.inr (fun _ => none))))))] := hD
  subst hr_1
  refine my_topv (v := .null) rfl ?_
  refine lv_astoreN (lv' := [(5, .null), (0, .ref h0), (1, .int k), (2, .ref f1), (3, .int q), (4, .ref f2)]) hx hb dX8_carry_5 hl (by decide) rfl (fun ls hl => ?_)
  refine lv_aload_n hx hb dX8_carry_7 rfl (lv_at hl 1 rfl) ?_
  refine lv_iload_n hx hb dX8_carry_8 rfl (lv_at hl 4 rfl) ?_
  have hPc := hP.sub (ws' := [(h0, .inr (8, [.ref s1, .ref s2, .ref s3, .ref s4, .ref s5, .ref s6, .int 65535, .null, .null])), (s1, .inl (ca, 4, .inr (.inr (.inr (.inr (fun _ => none))))))]) [0, 1] rfl
  have hDc := hD.sub (ws' := [(h0, .inr (8, [.ref s1, .ref s2, .ref s3, .ref s4, .ref s5, .ref s6, .int 65535, .null, .null])), (s1, .inl (ca, 4, .inr (.inr (.inr (.inr (fun _ => none))))))]) [0, 1] (by decide) rfl
  have hKc := hK.sub (tys' := [(ca, .object "DotBench$Sheet")]) [0] rfl
  have hFc := va_free (wc := [(h0, .inr (8, [.ref s1, .ref s2, .ref s3, .ref s4, .ref s5, .ref s6, .int 65535, .null, .null])), (s1, .inl (ca, 4, .inr (.inr (.inr (.inr (fun _ => none))))))]) hD hS hA [0, 1] rfl
  refine va_callq (va_runV (As := [.int q]) (rest := []) ⟨hx, hb, hml, hown, hts⟩ (k_X8_sheetAt l D H.size h0 s1 s2 s3 s4 s5 s6 ca q) (cwV 1 hts (gV bw_115 bw_116 bw_117 bw_1 bw_114) rfl rfl rfl (by decide +kernel) ⟨Nat.le_of_ble_eq_true rfl, Nat.le_of_ble_eq_true rfl⟩) ⟨cP_blind, va_recv hKc hPc (ci := 8) (q0 := 0) rfl rfl, cP_at hPc hKc hDc hN⟩ rfl rfl hl.1 rfl (lv_room (Nat.le_of_ble_eq_true rfl)) dX8_carry_9 ⟨Nat.le_of_ble_eq_true rfl, Nat.le_of_ble_eq_true rfl⟩) hS (fun q _ h => hFc q h) hFc (fun r_2 u9 t9 H1 locs ht hvm hr_2 hB hz1 hk1 hS => ?_)
  try dsimp only at hr_2
  obtain ⟨hP1, hK1, hD1⟩ := hB
  rw [ht] at hP1
  obtain ⟨hP, hD⟩ := va_join (wr := []) (w1 := [(h0, .inr (8, [.ref s1, .ref s2, .ref s3, .ref s4, .ref s5, .ref s6, .int 65535, .null, .null])), (s1, .inl (ca, 4, .inr (.inr (.inr (.inr (fun _ => none))))))]) hP hD [0, 1] [] rfl rfl (by decide) (by decide) hk1 hFc hP1 hD1
  clear hz1 hk1 hFc hKc hDc hPc
  generalize H1 = H at hP hS ⊢
  have hP : va_P D vwCl [(h0, .inr (8, [.ref s1, .ref s2, .ref s3, .ref s4, .ref s5, .ref s6, .int 65535, .null, .null])), (s1, .inl (ca, 4, .inr (.inr (.inr (.inr (fun _ => none))))))] H := hP
  have hD : va_D A [(h0, .inr (8, [.ref s1, .ref s2, .ref s3, .ref s4, .ref s5, .ref s6, .int 65535, .null, .null])), (s1, .inl (ca, 4, .inr (.inr (.inr (.inr (fun _ => none))))))] := hD
  subst hr_2
  refine my_topv (v := .null) rfl ?_
  refine lv_astoreN (lv' := [(6, .null), (5, .null), (0, .ref h0), (1, .int k), (2, .ref f1), (3, .int q), (4, .ref f2)]) hx hb dX8_carry_12 hl (by decide) rfl (fun ls hl => ?_)
  refine lv_aloadN hx hb dX8_carry_14 (lv_at hl 1 rfl) ?_
  refine lv_ifnullN (tgt := 39) hx hb dX8_carry_16 (by decide) ?_
  refine lv_iconst (v := (-1)) hx hb dX8_carry_39 (by decide) ?_
  exact W.iret (v := (-1)) hx hb hr (fun t ht hW => ⟨⟨(-1), (), rfl, rfl, trivial⟩, hS.F ht⟩) hS.2.2 dX8_carry_40

set_option maxHeartbeats 4000000 in
set_option maxRecDepth 100000 in
theorem k_X5_begin (l : Launch) (D : va_G) (sz : Nat) (h0 b1 : Nat) (d1 : ClassId) (w h : Int32) : Met l yX5_begin (wB yX5_begin cX5_begin 3 none) ({ frames := 1, cells := 0, slots := 0, locals := 23 }) (cP D [(h0, .inr (5, [.ref b1, .int 0, .int 0])), (b1, .inl (d1, 4096, .inl (fun _ => 0)))] [(d1, .int)] sz [.ref h0, .int w, .int h]) (va_Qv (fun (_ : Unit) => True) (fun (_ : Unit) (_ : State) => True) (va_A [(h0, .inr (5, [.ref b1, .int 0, .int 0])), (b1, .inl (d1, 4096, .inl (fun _ => 0)))] sz)) 0 0 (va_A [(h0, .inr (5, [.ref b1, .int 0, .int 0])), (b1, .inl (d1, 4096, .inl (fun _ => 0)))] sz) := by
  refine Met.ofW (cc := cX5_begin) (maxL := 3) (ret := none) (by decide) rfl ?_
  intro p e s m args below meth c s₁ B hml hv
  obtain ⟨rfl, hsz, hP, hK, hD0, hN⟩ := hv
  have hx := B.exec
  have hb := B.bytes
  have hr := B.returns
  have hts0 := atoms_spec (ws := (wB yX5_begin cX5_begin 3 none)) B.pre
  have hts : ∀ w ∈ bigW, w.before _ s = true := fun w h => hts0 w (List.mem_cons_of_mem _ h)
  have hown : s.vm.findClass RX5 = some m.cls := findClass_of_methodNamed B.named
  have hlocks := B.notSynchronized
  subst hsz
  have hD := hD0.self (sz := s.heap.size)
  generalize hAe : va_A [(h0, .inr (5, [.ref b1, .int 0, .int 0])), (b1, .inl (d1, 4096, .inl (fun _ => 0)))] s.heap.size = A at hD ⊢
  have hA : ∀ q : Nat, s.heap.size ≤ q → A q := fun q h => by rw [← hAe]; exact Or.inr h
  have hS : va_S A s.heap s.heap [] := va_S.rf
  have hP : va_P D vwCl [(h0, .inr (5, [.ref b1, .int 0, .int 0])), (b1, .inl (d1, 4096, .inl (fun _ => 0)))] s.heap := hP
  have hl := lv_entry ([.ref h0, .int w, .int h]) (n := 3) (Nat.le_of_ble_eq_true rfl)
  rw [lg_entry_eq]
  generalize (lg_sl ([.ref h0, .int w, .int h]) ++ List.replicate (3 - (lg_sl ([.ref h0, .int w, .int h])).length) Slot.unset).toArray = ls at hl ⊢
  have hl : lv_has ls 3 [(0, .ref h0), (1, .int w), (2, .int h)] := hl
  refine lv_aload_n hx hb dX5_begin_0 rfl (lv_at hl 0 rfl) ?_
  refine lv_iload_n hx hb dX5_begin_1 rfl (lv_at hl 1 rfl) ?_
  refine va_put (D := D) (ci := 5) (v := .int w) (ty := .int) (C := RX5) (T := TX5) (N := 3) hx hb hts hi_X5 tyX5 tyX5_ok nmX5 hown hK hP hD hS 0 rfl rfl 1 (by decide) (hts _ bw_58) (fun _ h9 => h9) rfl (by decide +kernel) rfl rfl (Nat.le_of_ble_eq_true rfl) dX5_begin_2 (fun H locs hP hD hS => ?_)
  have hP : va_P D vwCl [(h0, .inr (5, [.ref b1, .int w, .int 0])), (b1, .inl (d1, 4096, .inl (fun _ => 0)))] H := hP
  have hD : va_D A [(h0, .inr (5, [.ref b1, .int w, .int 0])), (b1, .inl (d1, 4096, .inl (fun _ => 0)))] := hD
  refine lv_aload_n hx hb dX5_begin_5 rfl (lv_at hl 0 rfl) ?_
  refine lv_iload_n hx hb dX5_begin_6 rfl (lv_at hl 2 rfl) ?_
  refine va_put (D := D) (ci := 5) (v := .int h) (ty := .int) (C := RX5) (T := TX5) (N := 3) hx hb hts hi_X5 tyX5 tyX5_ok nmX5 hown hK hP hD hS 0 rfl rfl 2 (by decide) (hts _ bw_59) (fun _ h9 => h9) rfl (by decide +kernel) rfl rfl (Nat.le_of_ble_eq_true rfl) dX5_begin_7 (fun H locs hP hD hS => ?_)
  have hP : va_P D vwCl [(h0, .inr (5, [.ref b1, .int w, .int h])), (b1, .inl (d1, 4096, .inl (fun _ => 0)))] H := hP
  have hD : va_D A [(h0, .inr (5, [.ref b1, .int w, .int h])), (b1, .inl (d1, 4096, .inl (fun _ => 0)))] := hD
  refine lv_aload_n hx hb dX5_begin_10 rfl (lv_at hl 0 rfl) ?_
  refine va_get (D := D) (ci := 5) (v := .ref b1) (C := RX5) (T := TX5) (N := 3) hx hb hts hi_X5 hown hK hP 0 rfl rfl 0 (by decide) (hts _ bw_57) (fun _ h9 => h9) rfl dX5_begin_11 ?_
  refine lv_iconst (v := 0) hx hb dX5_begin_14 (by decide) ?_
  have hPc := hP.sub (ws' := [(b1, .inl (d1, 4096, .inl (fun _ => 0)))]) [1] rfl
  have hDc := hD.sub (ws' := [(b1, .inl (d1, 4096, .inl (fun _ => 0)))]) [1] (by decide) rfl
  have hKc := hK.sub (tys' := [(d1, .int)]) [0] rfl
  have hFc := va_free (wc := [(b1, .inl (d1, 4096, .inl (fun _ => 0)))]) hD hS hA [1] rfl
  refine va_callv (va_runS (As := [.ref b1, .int 0]) (rest := []) ⟨hx, hb, hml, hown, hts⟩ (k_J7_fill_53178 l D H.size b1 d1 (fun _ => 0) 0) (va_cwS 2 hts (gS bw_120 bw_121 bw_119 bw_118) rfl rfl rfl (by decide +kernel) ⟨Nat.le_of_ble_eq_true rfl, Nat.le_of_ble_eq_true rfl⟩) ⟨cP_blind, cP_at hPc hKc hDc hN⟩ rfl rfl hl.1 rfl (lv_room (Nat.le_of_ble_eq_true rfl)) dX5_begin_15 ⟨Nat.le_of_ble_eq_true rfl, Nat.le_of_ble_eq_true rfl⟩) hS (fun q _ h => hFc q h) hFc (fun u9 t9 H1 locs ht hvm hr_1 hB hz1 hk1 hS => ?_)
  try dsimp only at hr_1
  have hP1 : va_P D vwCl [] H1 := vP_nil
  have hD1 : va_D (va_A [(b1, .inl (d1, 4096, .inl (fun _ => 0)))] H.size) [] := vD_nil
  obtain ⟨hP, hD⟩ := va_join (wr := [(h0, .inr (5, [.ref b1, .int w, .int h]))]) (w1 := []) hP hD [1] [0] rfl rfl (by decide) (by decide) hk1 hFc hP1 hD1
  clear hz1 hk1 hFc hKc hDc hPc
  generalize H1 = H at hP hS ⊢
  have hP : va_P D vwCl [(h0, .inr (5, [.ref b1, .int w, .int h]))] H := hP
  have hD : va_D A [(h0, .inr (5, [.ref b1, .int w, .int h]))] := hD
  exact W.vret hx hb hr (fun t ht hW => ⟨⟨(), rfl, trivial, trivial⟩, hS.F ht⟩) hS.2.2 dX5_begin_18

set_option maxHeartbeats 4000000 in
set_option maxRecDepth 100000 in
theorem k_X0_bound (l : Launch) (D : va_G) (sz : Nat) (h0 : Nat) (x y z w : Int32) : Met l yX0_bound (wB yX0_bound cX0_bound 5 none) ({ frames := 0, cells := 0, slots := 0, locals := 0 }) (cP D [(h0, .inr (0, [.int 0, .int 0, .int 63, .int 63]))] [] sz [.ref h0, .int x, .int y, .int z, .int w]) (va_Qv (fun (_ : Unit) => True) (fun (_ : Unit) (_ : State) => True) (va_A [(h0, .inr (0, [.int 0, .int 0, .int 63, .int 63]))] sz)) 0 0 (va_A [(h0, .inr (0, [.int 0, .int 0, .int 63, .int 63]))] sz) := by
  refine Met.ofW (cc := cX0_bound) (maxL := 5) (ret := none) (by decide) rfl ?_
  intro p e s m args below meth c s₁ B hml hv
  obtain ⟨rfl, hsz, hP, hK, hD0, hN⟩ := hv
  have hx := B.exec
  have hb := B.bytes
  have hr := B.returns
  have hts0 := atoms_spec (ws := (wB yX0_bound cX0_bound 5 none)) B.pre
  have hts : ∀ w ∈ bigW, w.before _ s = true := fun w h => hts0 w (List.mem_cons_of_mem _ h)
  have hown : s.vm.findClass RX0 = some m.cls := findClass_of_methodNamed B.named
  have hlocks := B.notSynchronized
  subst hsz
  have hD := hD0.self (sz := s.heap.size)
  generalize hAe : va_A [(h0, .inr (0, [.int 0, .int 0, .int 63, .int 63]))] s.heap.size = A at hD ⊢
  have hA : ∀ q : Nat, s.heap.size ≤ q → A q := fun q h => by rw [← hAe]; exact Or.inr h
  have hS : va_S A s.heap s.heap [] := va_S.rf
  have hP : va_P D vwCl [(h0, .inr (0, [.int 0, .int 0, .int 63, .int 63]))] s.heap := hP
  have hl := lv_entry ([.ref h0, .int x, .int y, .int z, .int w]) (n := 5) (Nat.le_of_ble_eq_true rfl)
  rw [lg_entry_eq]
  generalize (lg_sl ([.ref h0, .int x, .int y, .int z, .int w]) ++ List.replicate (5 - (lg_sl ([.ref h0, .int x, .int y, .int z, .int w])).length) Slot.unset).toArray = ls at hl ⊢
  have hl : lv_has ls 5 [(0, .ref h0), (1, .int x), (2, .int y), (3, .int z), (4, .int w)] := hl
  refine lv_aload_n hx hb dX0_bound_0 rfl (lv_at hl 0 rfl) ?_
  refine lv_iload_n hx hb dX0_bound_1 rfl (lv_at hl 1 rfl) ?_
  refine va_put (D := D) (ci := 0) (v := .int x) (ty := .int) (C := RX0) (T := TX0) (N := 4) hx hb hts hi_X0 tyX0 tyX0_ok nmX0 hown hK hP hD hS 0 rfl rfl 0 (by decide) (hts _ bw_20) (fun _ h9 => h9) rfl (by decide +kernel) rfl rfl (Nat.le_of_ble_eq_true rfl) dX0_bound_2 (fun H locs hP hD hS => ?_)
  have hP : va_P D vwCl [(h0, .inr (0, [.int x, .int 0, .int 63, .int 63]))] H := hP
  have hD : va_D A [(h0, .inr (0, [.int x, .int 0, .int 63, .int 63]))] := hD
  refine lv_aload_n hx hb dX0_bound_5 rfl (lv_at hl 0 rfl) ?_
  refine lv_iload_n hx hb dX0_bound_6 rfl (lv_at hl 2 rfl) ?_
  refine va_put (D := D) (ci := 0) (v := .int y) (ty := .int) (C := RX0) (T := TX0) (N := 4) hx hb hts hi_X0 tyX0 tyX0_ok nmX0 hown hK hP hD hS 0 rfl rfl 1 (by decide) (hts _ bw_21) (fun _ h9 => h9) rfl (by decide +kernel) rfl rfl (Nat.le_of_ble_eq_true rfl) dX0_bound_7 (fun H locs hP hD hS => ?_)
  have hP : va_P D vwCl [(h0, .inr (0, [.int x, .int y, .int 63, .int 63]))] H := hP
  have hD : va_D A [(h0, .inr (0, [.int x, .int y, .int 63, .int 63]))] := hD
  refine lv_aload_n hx hb dX0_bound_10 rfl (lv_at hl 0 rfl) ?_
  refine lv_iload_n hx hb dX0_bound_11 rfl (lv_at hl 3 rfl) ?_
  refine va_put (D := D) (ci := 0) (v := .int z) (ty := .int) (C := RX0) (T := TX0) (N := 4) hx hb hts hi_X0 tyX0 tyX0_ok nmX0 hown hK hP hD hS 0 rfl rfl 2 (by decide) (hts _ bw_22) (fun _ h9 => h9) rfl (by decide +kernel) rfl rfl (Nat.le_of_ble_eq_true rfl) dX0_bound_12 (fun H locs hP hD hS => ?_)
  have hP : va_P D vwCl [(h0, .inr (0, [.int x, .int y, .int z, .int 63]))] H := hP
  have hD : va_D A [(h0, .inr (0, [.int x, .int y, .int z, .int 63]))] := hD
  refine lv_aload_n hx hb dX0_bound_15 rfl (lv_at hl 0 rfl) ?_
  refine lv_iload hx hb dX0_bound_16 (lv_at hl 4 rfl) ?_
  refine va_put (D := D) (ci := 0) (v := .int w) (ty := .int) (C := RX0) (T := TX0) (N := 4) hx hb hts hi_X0 tyX0 tyX0_ok nmX0 hown hK hP hD hS 0 rfl rfl 3 (by decide) (hts _ bw_23) (fun _ h9 => h9) rfl (by decide +kernel) rfl rfl (Nat.le_of_ble_eq_true rfl) dX0_bound_18 (fun H locs hP hD hS => ?_)
  have hP : va_P D vwCl [(h0, .inr (0, [.int x, .int y, .int z, .int w]))] H := hP
  have hD : va_D A [(h0, .inr (0, [.int x, .int y, .int z, .int w]))] := hD
  exact W.vret hx hb hr (fun t ht hW => ⟨⟨(), rfl, trivial, trivial⟩, hS.F ht⟩) hS.2.2 dX0_bound_21

set_option maxHeartbeats 4000000 in
set_option maxRecDepth 100000 in
theorem k_X3_empty (l : Launch) (D : va_G) (sz : Nat) (h0 b1 b2 b3 b4 : Nat) : Met l yX3_empty (wB yX3_empty cX3_empty 1 none) ({ frames := 0, cells := 0, slots := 0, locals := 0 }) (cP D [(h0, .inr (3, [.ref b1, .ref b2, .ref b3, .ref b4, .int 0, .int 0, .int 0]))] [] sz [.ref h0]) (va_Qv (fun (_ : Unit) => True) (fun (_ : Unit) (_ : State) => True) (va_A [(h0, .inr (3, [.ref b1, .ref b2, .ref b3, .ref b4, .int 0, .int 0, .int 0]))] sz)) 0 0 (va_A [(h0, .inr (3, [.ref b1, .ref b2, .ref b3, .ref b4, .int 0, .int 0, .int 0]))] sz) := by
  refine Met.ofW (cc := cX3_empty) (maxL := 1) (ret := none) (by decide) rfl ?_
  intro p e s m args below meth c s₁ B hml hv
  obtain ⟨rfl, hsz, hP, hK, hD0, hN⟩ := hv
  have hx := B.exec
  have hb := B.bytes
  have hr := B.returns
  have hts0 := atoms_spec (ws := (wB yX3_empty cX3_empty 1 none)) B.pre
  have hts : ∀ w ∈ bigW, w.before _ s = true := fun w h => hts0 w (List.mem_cons_of_mem _ h)
  have hown : s.vm.findClass RX3 = some m.cls := findClass_of_methodNamed B.named
  have hlocks := B.notSynchronized
  subst hsz
  have hD := hD0.self (sz := s.heap.size)
  generalize hAe : va_A [(h0, .inr (3, [.ref b1, .ref b2, .ref b3, .ref b4, .int 0, .int 0, .int 0]))] s.heap.size = A at hD ⊢
  have hA : ∀ q : Nat, s.heap.size ≤ q → A q := fun q h => by rw [← hAe]; exact Or.inr h
  have hS : va_S A s.heap s.heap [] := va_S.rf
  have hP : va_P D vwCl [(h0, .inr (3, [.ref b1, .ref b2, .ref b3, .ref b4, .int 0, .int 0, .int 0]))] s.heap := hP
  have hl := lv_entry ([.ref h0]) (n := 1) (Nat.le_of_ble_eq_true rfl)
  rw [lg_entry_eq]
  generalize (lg_sl ([.ref h0]) ++ List.replicate (1 - (lg_sl ([.ref h0])).length) Slot.unset).toArray = ls at hl ⊢
  have hl : lv_has ls 1 [(0, .ref h0)] := hl
  refine lv_aload_n hx hb dX3_empty_0 rfl (lv_at hl 0 rfl) ?_
  refine lv_iconst (v := 0) hx hb dX3_empty_1 (by decide) ?_
  refine va_put (D := D) (ci := 3) (v := .int 0) (ty := .int) (C := RX3) (T := TX3) (N := 7) hx hb hts hi_X3 tyX3 tyX3_ok nmX3 hown hK hP hD hS 0 rfl rfl 4 (by decide) (hts _ bw_40) (fun _ h9 => h9) rfl (by decide +kernel) rfl rfl (Nat.le_of_ble_eq_true rfl) dX3_empty_2 (fun H locs hP hD hS => ?_)
  have hP : va_P D vwCl [(h0, .inr (3, [.ref b1, .ref b2, .ref b3, .ref b4, .int 0, .int 0, .int 0]))] H := hP
  have hD : va_D A [(h0, .inr (3, [.ref b1, .ref b2, .ref b3, .ref b4, .int 0, .int 0, .int 0]))] := hD
  exact W.vret hx hb hr (fun t ht hW => ⟨⟨(), rfl, trivial, trivial⟩, hS.F ht⟩) hS.2.2 dX3_empty_5

set_option maxHeartbeats 4000000 in
set_option maxRecDepth 100000 in
theorem k_X3_add (l : Launch) (D : va_G) (sz : Nat) (h0 b1 b2 b3 b4 : Nat) (d1 d2 d3 d4 : ClassId) (u v n : Int32) : Met l yX3_add (wB yX3_add cX3_add 4 (some .boolean)) ({ frames := 0, cells := 0, slots := 0, locals := 0 }) (cP D [(h0, .inr (3, [.ref b1, .ref b2, .ref b3, .ref b4, .int 0, .int 0, .int 0])), (b1, .inl (d1, 48, .inl (fun _ => 0))), (b2, .inl (d2, 48, .inl (fun _ => 0))), (b3, .inl (d3, 48, .inl (fun _ => 0))), (b4, .inl (d4, 48, .inl (fun _ => 0)))] [(d1, .int), (d2, .int), (d3, .int), (d4, .int)] sz [.ref h0, .int u, .int v, .int n]) (va_Qi (fun (r : Int32) (_ : Unit) => r = 1) (fun (_ : Unit) (t : State) => ∃ (g1 g2 g3 g4 : Nat → Int32), cB D (va_A [(h0, .inr (3, [.ref b1, .ref b2, .ref b3, .ref b4, .int 0, .int 0, .int 0])), (b1, .inl (d1, 48, .inl (fun _ => 0))), (b2, .inl (d2, 48, .inl (fun _ => 0))), (b3, .inl (d3, 48, .inl (fun _ => 0))), (b4, .inl (d4, 48, .inl (fun _ => 0)))] sz) [(h0, .inr (3, [.ref b1, .ref b2, .ref b3, .ref b4, .int 1, .int u, .int v])), (b1, .inl (d1, 48, .inl g1)), (b2, .inl (d2, 48, .inl g2)), (b3, .inl (d3, 48, .inl g3)), (b4, .inl (d4, 48, .inl g4))] [] t) (va_A [(h0, .inr (3, [.ref b1, .ref b2, .ref b3, .ref b4, .int 0, .int 0, .int 0])), (b1, .inl (d1, 48, .inl (fun _ => 0))), (b2, .inl (d2, 48, .inl (fun _ => 0))), (b3, .inl (d3, 48, .inl (fun _ => 0))), (b4, .inl (d4, 48, .inl (fun _ => 0)))] sz)) 0 0 (va_A [(h0, .inr (3, [.ref b1, .ref b2, .ref b3, .ref b4, .int 0, .int 0, .int 0])), (b1, .inl (d1, 48, .inl (fun _ => 0))), (b2, .inl (d2, 48, .inl (fun _ => 0))), (b3, .inl (d3, 48, .inl (fun _ => 0))), (b4, .inl (d4, 48, .inl (fun _ => 0)))] sz) := by
  refine Met.ofW (cc := cX3_add) (maxL := 4) (ret := (some .boolean)) (by decide) rfl ?_
  intro p e s m args below meth c s₁ B hml hv
  obtain ⟨rfl, hsz, hP, hK, hD0, hN⟩ := hv
  have hx := B.exec
  have hb := B.bytes
  have hr := B.returns
  have hts0 := atoms_spec (ws := (wB yX3_add cX3_add 4 (some .boolean))) B.pre
  have hts : ∀ w ∈ bigW, w.before _ s = true := fun w h => hts0 w (List.mem_cons_of_mem _ h)
  have hown : s.vm.findClass RX3 = some m.cls := findClass_of_methodNamed B.named
  have hlocks := B.notSynchronized
  subst hsz
  have hD := hD0.self (sz := s.heap.size)
  generalize hAe : va_A [(h0, .inr (3, [.ref b1, .ref b2, .ref b3, .ref b4, .int 0, .int 0, .int 0])), (b1, .inl (d1, 48, .inl (fun _ => 0))), (b2, .inl (d2, 48, .inl (fun _ => 0))), (b3, .inl (d3, 48, .inl (fun _ => 0))), (b4, .inl (d4, 48, .inl (fun _ => 0)))] s.heap.size = A at hD ⊢
  have hA : ∀ q : Nat, s.heap.size ≤ q → A q := fun q h => by rw [← hAe]; exact Or.inr h
  have hS : va_S A s.heap s.heap [] := va_S.rf
  have hP : va_P D vwCl [(h0, .inr (3, [.ref b1, .ref b2, .ref b3, .ref b4, .int 0, .int 0, .int 0])), (b1, .inl (d1, 48, .inl (fun _ => 0))), (b2, .inl (d2, 48, .inl (fun _ => 0))), (b3, .inl (d3, 48, .inl (fun _ => 0))), (b4, .inl (d4, 48, .inl (fun _ => 0)))] s.heap := hP
  have hl := lv_entry ([.ref h0, .int u, .int v, .int n]) (n := 4) (Nat.le_of_ble_eq_true rfl)
  rw [lg_entry_eq]
  generalize (lg_sl ([.ref h0, .int u, .int v, .int n]) ++ List.replicate (4 - (lg_sl ([.ref h0, .int u, .int v, .int n])).length) Slot.unset).toArray = ls at hl ⊢
  have hl : lv_has ls 4 [(0, .ref h0), (1, .int u), (2, .int v), (3, .int n)] := hl
  refine lv_aload_n hx hb dX3_add_0 rfl (lv_at hl 0 rfl) ?_
  refine va_get (D := D) (ci := 3) (v := .int 0) (C := RX3) (T := TX3) (N := 7) hx hb hts hi_X3 hown hK hP 0 rfl rfl 4 (by decide) (hts _ bw_40) (fun _ h9 => h9) rfl dX3_add_1 ?_
  refine lv_bipush (v := 48) hx hb dX3_add_4 (by decide) ?_
  refine lv_icmp_lt (tgt := 11) hx hb dX3_add_6 (by decide) (fun c_1 => ?_) (fun c_1 => ?_)
  · skip
    refine lv_iload_n hx hb dX3_add_11 rfl (lv_at hl 3 rfl) ?_
    refine lv_if_ne (tgt := 22) hx hb dX3_add_12 (by decide) (fun c_3 => ?_) (fun c_3 => ?_)
    · skip
      have f_4 : ¬ (n.toInt = 0) := fn_eq rfl (by decide) c_3
      refine lv_aload_n hx hb dX3_add_22 rfl (lv_at hl 0 rfl) ?_
      refine lv_iload_n hx hb dX3_add_23 rfl (lv_at hl 1 rfl) ?_
      refine va_put (D := D) (ci := 3) (v := .int u) (ty := .int) (C := RX3) (T := TX3) (N := 7) hx hb hts hi_X3 tyX3 tyX3_ok nmX3 hown hK hP hD hS 0 rfl rfl 5 (by decide) (hts _ bw_41) (fun _ h9 => h9) rfl (by decide +kernel) rfl rfl (Nat.le_of_ble_eq_true rfl) dX3_add_24 (fun H locs hP hD hS => ?_)
      have hP : va_P D vwCl [(h0, .inr (3, [.ref b1, .ref b2, .ref b3, .ref b4, .int 0, .int u, .int 0])), (b1, .inl (d1, 48, .inl (fun _ => 0))), (b2, .inl (d2, 48, .inl (fun _ => 0))), (b3, .inl (d3, 48, .inl (fun _ => 0))), (b4, .inl (d4, 48, .inl (fun _ => 0)))] H := hP
      have hD : va_D A [(h0, .inr (3, [.ref b1, .ref b2, .ref b3, .ref b4, .int 0, .int u, .int 0])), (b1, .inl (d1, 48, .inl (fun _ => 0))), (b2, .inl (d2, 48, .inl (fun _ => 0))), (b3, .inl (d3, 48, .inl (fun _ => 0))), (b4, .inl (d4, 48, .inl (fun _ => 0)))] := hD
      refine lv_aload_n hx hb dX3_add_27 rfl (lv_at hl 0 rfl) ?_
      refine lv_iload_n hx hb dX3_add_28 rfl (lv_at hl 2 rfl) ?_
      refine va_put (D := D) (ci := 3) (v := .int v) (ty := .int) (C := RX3) (T := TX3) (N := 7) hx hb hts hi_X3 tyX3 tyX3_ok nmX3 hown hK hP hD hS 0 rfl rfl 6 (by decide) (hts _ bw_42) (fun _ h9 => h9) rfl (by decide +kernel) rfl rfl (Nat.le_of_ble_eq_true rfl) dX3_add_29 (fun H locs hP hD hS => ?_)
      have hP : va_P D vwCl [(h0, .inr (3, [.ref b1, .ref b2, .ref b3, .ref b4, .int 0, .int u, .int v])), (b1, .inl (d1, 48, .inl (fun _ => 0))), (b2, .inl (d2, 48, .inl (fun _ => 0))), (b3, .inl (d3, 48, .inl (fun _ => 0))), (b4, .inl (d4, 48, .inl (fun _ => 0)))] H := hP
      have hD : va_D A [(h0, .inr (3, [.ref b1, .ref b2, .ref b3, .ref b4, .int 0, .int u, .int v])), (b1, .inl (d1, 48, .inl (fun _ => 0))), (b2, .inl (d2, 48, .inl (fun _ => 0))), (b3, .inl (d3, 48, .inl (fun _ => 0))), (b4, .inl (d4, 48, .inl (fun _ => 0)))] := hD
      refine lv_goto (tgt := 59) hx hb dX3_add_32 (by decide) ?_
      refine lv_aload_n hx hb dX3_add_59 rfl (lv_at hl 0 rfl) ?_
      refine va_get (D := D) (ci := 3) (v := .ref b1) (C := RX3) (T := TX3) (N := 7) hx hb hts hi_X3 hown hK hP 0 rfl rfl 0 (by decide) (hts _ bw_36) (fun _ h9 => h9) rfl dX3_add_60 ?_
      refine lv_aload_n hx hb dX3_add_63 rfl (lv_at hl 0 rfl) ?_
      refine va_get (D := D) (ci := 3) (v := .int 0) (C := RX3) (T := TX3) (N := 7) hx hb hts hi_X3 hown hK hP 0 rfl rfl 4 (by decide) (hts _ bw_40) (fun _ h9 => h9) rfl dX3_add_64 ?_
      refine lv_iload_n hx hb dX3_add_67 rfl (lv_at hl 1 rfl) ?_
      refine va_iast hx hb hK hP hD hS 1 0 rfl rfl (my_in (by decide) (by decide)) dX3_add_68 (fun H locs hP hD hS => ?_)
      have hP : va_P D vwCl [(h0, .inr (3, [.ref b1, .ref b2, .ref b3, .ref b4, .int 0, .int u, .int v])), (b1, .inl (d1, 48, .inl (upd (fun _ => 0) (0 : Int32).toNatClampNeg u))), (b2, .inl (d2, 48, .inl (fun _ => 0))), (b3, .inl (d3, 48, .inl (fun _ => 0))), (b4, .inl (d4, 48, .inl (fun _ => 0)))] H := hP
      have hD : va_D A [(h0, .inr (3, [.ref b1, .ref b2, .ref b3, .ref b4, .int 0, .int u, .int v])), (b1, .inl (d1, 48, .inl (upd (fun _ => 0) (0 : Int32).toNatClampNeg u))), (b2, .inl (d2, 48, .inl (fun _ => 0))), (b3, .inl (d3, 48, .inl (fun _ => 0))), (b4, .inl (d4, 48, .inl (fun _ => 0)))] := hD
      generalize upd (fun _ => 0) (0 : Int32).toNatClampNeg u = g_5 at hP hD
      have hP : va_P D vwCl [(h0, .inr (3, [.ref b1, .ref b2, .ref b3, .ref b4, .int 0, .int u, .int v])), (b1, .inl (d1, 48, .inl g_5)), (b2, .inl (d2, 48, .inl (fun _ => 0))), (b3, .inl (d3, 48, .inl (fun _ => 0))), (b4, .inl (d4, 48, .inl (fun _ => 0)))] H := hP
      have hD : va_D A [(h0, .inr (3, [.ref b1, .ref b2, .ref b3, .ref b4, .int 0, .int u, .int v])), (b1, .inl (d1, 48, .inl g_5)), (b2, .inl (d2, 48, .inl (fun _ => 0))), (b3, .inl (d3, 48, .inl (fun _ => 0))), (b4, .inl (d4, 48, .inl (fun _ => 0)))] := hD
      refine lv_aload_n hx hb dX3_add_69 rfl (lv_at hl 0 rfl) ?_
      refine va_get (D := D) (ci := 3) (v := .ref b2) (C := RX3) (T := TX3) (N := 7) hx hb hts hi_X3 hown hK hP 0 rfl rfl 1 (by decide) (hts _ bw_37) (fun _ h9 => h9) rfl dX3_add_70 ?_
      refine lv_aload_n hx hb dX3_add_73 rfl (lv_at hl 0 rfl) ?_
      refine va_get (D := D) (ci := 3) (v := .int 0) (C := RX3) (T := TX3) (N := 7) hx hb hts hi_X3 hown hK hP 0 rfl rfl 4 (by decide) (hts _ bw_40) (fun _ h9 => h9) rfl dX3_add_74 ?_
      refine lv_iload_n hx hb dX3_add_77 rfl (lv_at hl 2 rfl) ?_
      refine va_iast hx hb hK hP hD hS 2 1 rfl rfl (my_in (by decide) (by decide)) dX3_add_78 (fun H locs hP hD hS => ?_)
      have hP : va_P D vwCl [(h0, .inr (3, [.ref b1, .ref b2, .ref b3, .ref b4, .int 0, .int u, .int v])), (b1, .inl (d1, 48, .inl g_5)), (b2, .inl (d2, 48, .inl (upd (fun _ => 0) (0 : Int32).toNatClampNeg v))), (b3, .inl (d3, 48, .inl (fun _ => 0))), (b4, .inl (d4, 48, .inl (fun _ => 0)))] H := hP
      have hD : va_D A [(h0, .inr (3, [.ref b1, .ref b2, .ref b3, .ref b4, .int 0, .int u, .int v])), (b1, .inl (d1, 48, .inl g_5)), (b2, .inl (d2, 48, .inl (upd (fun _ => 0) (0 : Int32).toNatClampNeg v))), (b3, .inl (d3, 48, .inl (fun _ => 0))), (b4, .inl (d4, 48, .inl (fun _ => 0)))] := hD
      generalize upd (fun _ => 0) (0 : Int32).toNatClampNeg v = g_6 at hP hD
      have hP : va_P D vwCl [(h0, .inr (3, [.ref b1, .ref b2, .ref b3, .ref b4, .int 0, .int u, .int v])), (b1, .inl (d1, 48, .inl g_5)), (b2, .inl (d2, 48, .inl g_6)), (b3, .inl (d3, 48, .inl (fun _ => 0))), (b4, .inl (d4, 48, .inl (fun _ => 0)))] H := hP
      have hD : va_D A [(h0, .inr (3, [.ref b1, .ref b2, .ref b3, .ref b4, .int 0, .int u, .int v])), (b1, .inl (d1, 48, .inl g_5)), (b2, .inl (d2, 48, .inl g_6)), (b3, .inl (d3, 48, .inl (fun _ => 0))), (b4, .inl (d4, 48, .inl (fun _ => 0)))] := hD
      refine lv_aload_n hx hb dX3_add_79 rfl (lv_at hl 0 rfl) ?_
      refine va_get (D := D) (ci := 3) (v := .ref b3) (C := RX3) (T := TX3) (N := 7) hx hb hts hi_X3 hown hK hP 0 rfl rfl 2 (by decide) (hts _ bw_38) (fun _ h9 => h9) rfl dX3_add_80 ?_
      refine lv_aload_n hx hb dX3_add_83 rfl (lv_at hl 0 rfl) ?_
      refine va_get (D := D) (ci := 3) (v := .int 0) (C := RX3) (T := TX3) (N := 7) hx hb hts hi_X3 hown hK hP 0 rfl rfl 4 (by decide) (hts _ bw_40) (fun _ h9 => h9) rfl dX3_add_84 ?_
      refine lv_aload_n hx hb dX3_add_87 rfl (lv_at hl 0 rfl) ?_
      refine va_get (D := D) (ci := 3) (v := .int u) (C := RX3) (T := TX3) (N := 7) hx hb hts hi_X3 hown hK hP 0 rfl rfl 5 (by decide) (hts _ bw_41) (fun _ h9 => h9) rfl dX3_add_88 ?_
      refine va_iast hx hb hK hP hD hS 3 2 rfl rfl (my_in (by decide) (by decide)) dX3_add_91 (fun H locs hP hD hS => ?_)
      have hP : va_P D vwCl [(h0, .inr (3, [.ref b1, .ref b2, .ref b3, .ref b4, .int 0, .int u, .int v])), (b1, .inl (d1, 48, .inl g_5)), (b2, .inl (d2, 48, .inl g_6)), (b3, .inl (d3, 48, .inl (upd (fun _ => 0) (0 : Int32).toNatClampNeg u))), (b4, .inl (d4, 48, .inl (fun _ => 0)))] H := hP
      have hD : va_D A [(h0, .inr (3, [.ref b1, .ref b2, .ref b3, .ref b4, .int 0, .int u, .int v])), (b1, .inl (d1, 48, .inl g_5)), (b2, .inl (d2, 48, .inl g_6)), (b3, .inl (d3, 48, .inl (upd (fun _ => 0) (0 : Int32).toNatClampNeg u))), (b4, .inl (d4, 48, .inl (fun _ => 0)))] := hD
      generalize upd (fun _ => 0) (0 : Int32).toNatClampNeg u = g_7 at hP hD
      have hP : va_P D vwCl [(h0, .inr (3, [.ref b1, .ref b2, .ref b3, .ref b4, .int 0, .int u, .int v])), (b1, .inl (d1, 48, .inl g_5)), (b2, .inl (d2, 48, .inl g_6)), (b3, .inl (d3, 48, .inl g_7)), (b4, .inl (d4, 48, .inl (fun _ => 0)))] H := hP
      have hD : va_D A [(h0, .inr (3, [.ref b1, .ref b2, .ref b3, .ref b4, .int 0, .int u, .int v])), (b1, .inl (d1, 48, .inl g_5)), (b2, .inl (d2, 48, .inl g_6)), (b3, .inl (d3, 48, .inl g_7)), (b4, .inl (d4, 48, .inl (fun _ => 0)))] := hD
      refine lv_aload_n hx hb dX3_add_92 rfl (lv_at hl 0 rfl) ?_
      refine va_get (D := D) (ci := 3) (v := .ref b4) (C := RX3) (T := TX3) (N := 7) hx hb hts hi_X3 hown hK hP 0 rfl rfl 3 (by decide) (hts _ bw_39) (fun _ h9 => h9) rfl dX3_add_93 ?_
      refine lv_aload_n hx hb dX3_add_96 rfl (lv_at hl 0 rfl) ?_
      refine va_get (D := D) (ci := 3) (v := .int 0) (C := RX3) (T := TX3) (N := 7) hx hb hts hi_X3 hown hK hP 0 rfl rfl 4 (by decide) (hts _ bw_40) (fun _ h9 => h9) rfl dX3_add_97 ?_
      refine lv_aload_n hx hb dX3_add_100 rfl (lv_at hl 0 rfl) ?_
      refine va_get (D := D) (ci := 3) (v := .int v) (C := RX3) (T := TX3) (N := 7) hx hb hts hi_X3 hown hK hP 0 rfl rfl 6 (by decide) (hts _ bw_42) (fun _ h9 => h9) rfl dX3_add_101 ?_
      refine va_iast hx hb hK hP hD hS 4 3 rfl rfl (my_in (by decide) (by decide)) dX3_add_104 (fun H locs hP hD hS => ?_)
      have hP : va_P D vwCl [(h0, .inr (3, [.ref b1, .ref b2, .ref b3, .ref b4, .int 0, .int u, .int v])), (b1, .inl (d1, 48, .inl g_5)), (b2, .inl (d2, 48, .inl g_6)), (b3, .inl (d3, 48, .inl g_7)), (b4, .inl (d4, 48, .inl (upd (fun _ => 0) (0 : Int32).toNatClampNeg v)))] H := hP
      have hD : va_D A [(h0, .inr (3, [.ref b1, .ref b2, .ref b3, .ref b4, .int 0, .int u, .int v])), (b1, .inl (d1, 48, .inl g_5)), (b2, .inl (d2, 48, .inl g_6)), (b3, .inl (d3, 48, .inl g_7)), (b4, .inl (d4, 48, .inl (upd (fun _ => 0) (0 : Int32).toNatClampNeg v)))] := hD
      generalize upd (fun _ => 0) (0 : Int32).toNatClampNeg v = g_8 at hP hD
      have hP : va_P D vwCl [(h0, .inr (3, [.ref b1, .ref b2, .ref b3, .ref b4, .int 0, .int u, .int v])), (b1, .inl (d1, 48, .inl g_5)), (b2, .inl (d2, 48, .inl g_6)), (b3, .inl (d3, 48, .inl g_7)), (b4, .inl (d4, 48, .inl g_8))] H := hP
      have hD : va_D A [(h0, .inr (3, [.ref b1, .ref b2, .ref b3, .ref b4, .int 0, .int u, .int v])), (b1, .inl (d1, 48, .inl g_5)), (b2, .inl (d2, 48, .inl g_6)), (b3, .inl (d3, 48, .inl g_7)), (b4, .inl (d4, 48, .inl g_8))] := hD
      refine lv_aload_n hx hb dX3_add_105 rfl (lv_at hl 0 rfl) ?_
      refine lv_dup hx hb dX3_add_106 rfl ?_
      refine va_get (D := D) (ci := 3) (v := .int 0) (C := RX3) (T := TX3) (N := 7) hx hb hts hi_X3 hown hK hP 0 rfl rfl 4 (by decide) (hts _ bw_40) (fun _ h9 => h9) rfl dX3_add_107 ?_
      refine lv_iconst (v := 1) hx hb dX3_add_110 (by decide) ?_
      refine lv_iadd hx hb dX3_add_111 ?_
      refine my_fold (v := 1) (by decide) ?_
      refine va_put (D := D) (ci := 3) (v := .int 1) (ty := .int) (C := RX3) (T := TX3) (N := 7) hx hb hts hi_X3 tyX3 tyX3_ok nmX3 hown hK hP hD hS 0 rfl rfl 4 (by decide) (hts _ bw_40) (fun _ h9 => h9) rfl (by decide +kernel) rfl rfl (Nat.le_of_ble_eq_true rfl) dX3_add_112 (fun H locs hP hD hS => ?_)
      have hP : va_P D vwCl [(h0, .inr (3, [.ref b1, .ref b2, .ref b3, .ref b4, .int 1, .int u, .int v])), (b1, .inl (d1, 48, .inl g_5)), (b2, .inl (d2, 48, .inl g_6)), (b3, .inl (d3, 48, .inl g_7)), (b4, .inl (d4, 48, .inl g_8))] H := hP
      have hD : va_D A [(h0, .inr (3, [.ref b1, .ref b2, .ref b3, .ref b4, .int 1, .int u, .int v])), (b1, .inl (d1, 48, .inl g_5)), (b2, .inl (d2, 48, .inl g_6)), (b3, .inl (d3, 48, .inl g_7)), (b4, .inl (d4, 48, .inl g_8))] := hD
      refine lv_iconst (v := 1) hx hb dX3_add_115 (by decide) ?_
      have hP9 := hP.sub (ws' := [(h0, .inr (3, [.ref b1, .ref b2, .ref b3, .ref b4, .int 1, .int u, .int v])), (b1, .inl (d1, 48, .inl g_5)), (b2, .inl (d2, 48, .inl g_6)), (b3, .inl (d3, 48, .inl g_7)), (b4, .inl (d4, 48, .inl g_8))]) [0, 1, 2, 3, 4] rfl
      have hD9 := hD.sub (ws' := [(h0, .inr (3, [.ref b1, .ref b2, .ref b3, .ref b4, .int 1, .int u, .int v])), (b1, .inl (d1, 48, .inl g_5)), (b2, .inl (d2, 48, .inl g_6)), (b3, .inl (d3, 48, .inl g_7)), (b4, .inl (d4, 48, .inl g_8))]) [0, 1, 2, 3, 4] (by decide) rfl
      have hK9 := hK.sub (tys' := []) [] rfl
      exact W.zret (v := 1) hx hb hr rfl (fun t ht hW => ⟨⟨1, (), rfl, rfl, ⟨g_5, g_6, g_7, g_8, by rw [ht]; exact hP9, va_K.moved hW.alike hK9, hD9⟩⟩, hS.F ht⟩) hS.2.2 dX3_add_116
    · skip
      have f_4 : n.toInt = 0 := f_eq rfl (by decide) c_3
      refine lv_aload_n hx hb dX3_add_15 rfl (lv_at hl 0 rfl) ?_
      refine va_get (D := D) (ci := 3) (v := .int 0) (C := RX3) (T := TX3) (N := 7) hx hb hts hi_X3 hown hK hP 0 rfl rfl 4 (by decide) (hts _ bw_40) (fun _ h9 => h9) rfl dX3_add_16 ?_
      refine lv_if_ne (tgt := 35) hx hb dX3_add_19 (by decide) (fun c_9 => ?_) (fun c_9 => ?_)
      · skip
        exact absurd c_9 (by decide)
      · skip
        refine lv_aload_n hx hb dX3_add_22 rfl (lv_at hl 0 rfl) ?_
        refine lv_iload_n hx hb dX3_add_23 rfl (lv_at hl 1 rfl) ?_
        refine va_put (D := D) (ci := 3) (v := .int u) (ty := .int) (C := RX3) (T := TX3) (N := 7) hx hb hts hi_X3 tyX3 tyX3_ok nmX3 hown hK hP hD hS 0 rfl rfl 5 (by decide) (hts _ bw_41) (fun _ h9 => h9) rfl (by decide +kernel) rfl rfl (Nat.le_of_ble_eq_true rfl) dX3_add_24 (fun H locs hP hD hS => ?_)
        have hP : va_P D vwCl [(h0, .inr (3, [.ref b1, .ref b2, .ref b3, .ref b4, .int 0, .int u, .int 0])), (b1, .inl (d1, 48, .inl (fun _ => 0))), (b2, .inl (d2, 48, .inl (fun _ => 0))), (b3, .inl (d3, 48, .inl (fun _ => 0))), (b4, .inl (d4, 48, .inl (fun _ => 0)))] H := hP
        have hD : va_D A [(h0, .inr (3, [.ref b1, .ref b2, .ref b3, .ref b4, .int 0, .int u, .int 0])), (b1, .inl (d1, 48, .inl (fun _ => 0))), (b2, .inl (d2, 48, .inl (fun _ => 0))), (b3, .inl (d3, 48, .inl (fun _ => 0))), (b4, .inl (d4, 48, .inl (fun _ => 0)))] := hD
        refine lv_aload_n hx hb dX3_add_27 rfl (lv_at hl 0 rfl) ?_
        refine lv_iload_n hx hb dX3_add_28 rfl (lv_at hl 2 rfl) ?_
        refine va_put (D := D) (ci := 3) (v := .int v) (ty := .int) (C := RX3) (T := TX3) (N := 7) hx hb hts hi_X3 tyX3 tyX3_ok nmX3 hown hK hP hD hS 0 rfl rfl 6 (by decide) (hts _ bw_42) (fun _ h9 => h9) rfl (by decide +kernel) rfl rfl (Nat.le_of_ble_eq_true rfl) dX3_add_29 (fun H locs hP hD hS => ?_)
        have hP : va_P D vwCl [(h0, .inr (3, [.ref b1, .ref b2, .ref b3, .ref b4, .int 0, .int u, .int v])), (b1, .inl (d1, 48, .inl (fun _ => 0))), (b2, .inl (d2, 48, .inl (fun _ => 0))), (b3, .inl (d3, 48, .inl (fun _ => 0))), (b4, .inl (d4, 48, .inl (fun _ => 0)))] H := hP
        have hD : va_D A [(h0, .inr (3, [.ref b1, .ref b2, .ref b3, .ref b4, .int 0, .int u, .int v])), (b1, .inl (d1, 48, .inl (fun _ => 0))), (b2, .inl (d2, 48, .inl (fun _ => 0))), (b3, .inl (d3, 48, .inl (fun _ => 0))), (b4, .inl (d4, 48, .inl (fun _ => 0)))] := hD
        refine lv_goto (tgt := 59) hx hb dX3_add_32 (by decide) ?_
        refine lv_aload_n hx hb dX3_add_59 rfl (lv_at hl 0 rfl) ?_
        refine va_get (D := D) (ci := 3) (v := .ref b1) (C := RX3) (T := TX3) (N := 7) hx hb hts hi_X3 hown hK hP 0 rfl rfl 0 (by decide) (hts _ bw_36) (fun _ h9 => h9) rfl dX3_add_60 ?_
        refine lv_aload_n hx hb dX3_add_63 rfl (lv_at hl 0 rfl) ?_
        refine va_get (D := D) (ci := 3) (v := .int 0) (C := RX3) (T := TX3) (N := 7) hx hb hts hi_X3 hown hK hP 0 rfl rfl 4 (by decide) (hts _ bw_40) (fun _ h9 => h9) rfl dX3_add_64 ?_
        refine lv_iload_n hx hb dX3_add_67 rfl (lv_at hl 1 rfl) ?_
        refine va_iast hx hb hK hP hD hS 1 0 rfl rfl (my_in (by decide) (by decide)) dX3_add_68 (fun H locs hP hD hS => ?_)
        have hP : va_P D vwCl [(h0, .inr (3, [.ref b1, .ref b2, .ref b3, .ref b4, .int 0, .int u, .int v])), (b1, .inl (d1, 48, .inl (upd (fun _ => 0) (0 : Int32).toNatClampNeg u))), (b2, .inl (d2, 48, .inl (fun _ => 0))), (b3, .inl (d3, 48, .inl (fun _ => 0))), (b4, .inl (d4, 48, .inl (fun _ => 0)))] H := hP
        have hD : va_D A [(h0, .inr (3, [.ref b1, .ref b2, .ref b3, .ref b4, .int 0, .int u, .int v])), (b1, .inl (d1, 48, .inl (upd (fun _ => 0) (0 : Int32).toNatClampNeg u))), (b2, .inl (d2, 48, .inl (fun _ => 0))), (b3, .inl (d3, 48, .inl (fun _ => 0))), (b4, .inl (d4, 48, .inl (fun _ => 0)))] := hD
        generalize upd (fun _ => 0) (0 : Int32).toNatClampNeg u = g_11 at hP hD
        have hP : va_P D vwCl [(h0, .inr (3, [.ref b1, .ref b2, .ref b3, .ref b4, .int 0, .int u, .int v])), (b1, .inl (d1, 48, .inl g_11)), (b2, .inl (d2, 48, .inl (fun _ => 0))), (b3, .inl (d3, 48, .inl (fun _ => 0))), (b4, .inl (d4, 48, .inl (fun _ => 0)))] H := hP
        have hD : va_D A [(h0, .inr (3, [.ref b1, .ref b2, .ref b3, .ref b4, .int 0, .int u, .int v])), (b1, .inl (d1, 48, .inl g_11)), (b2, .inl (d2, 48, .inl (fun _ => 0))), (b3, .inl (d3, 48, .inl (fun _ => 0))), (b4, .inl (d4, 48, .inl (fun _ => 0)))] := hD
        refine lv_aload_n hx hb dX3_add_69 rfl (lv_at hl 0 rfl) ?_
        refine va_get (D := D) (ci := 3) (v := .ref b2) (C := RX3) (T := TX3) (N := 7) hx hb hts hi_X3 hown hK hP 0 rfl rfl 1 (by decide) (hts _ bw_37) (fun _ h9 => h9) rfl dX3_add_70 ?_
        refine lv_aload_n hx hb dX3_add_73 rfl (lv_at hl 0 rfl) ?_
        refine va_get (D := D) (ci := 3) (v := .int 0) (C := RX3) (T := TX3) (N := 7) hx hb hts hi_X3 hown hK hP 0 rfl rfl 4 (by decide) (hts _ bw_40) (fun _ h9 => h9) rfl dX3_add_74 ?_
        refine lv_iload_n hx hb dX3_add_77 rfl (lv_at hl 2 rfl) ?_
        refine va_iast hx hb hK hP hD hS 2 1 rfl rfl (my_in (by decide) (by decide)) dX3_add_78 (fun H locs hP hD hS => ?_)
        have hP : va_P D vwCl [(h0, .inr (3, [.ref b1, .ref b2, .ref b3, .ref b4, .int 0, .int u, .int v])), (b1, .inl (d1, 48, .inl g_11)), (b2, .inl (d2, 48, .inl (upd (fun _ => 0) (0 : Int32).toNatClampNeg v))), (b3, .inl (d3, 48, .inl (fun _ => 0))), (b4, .inl (d4, 48, .inl (fun _ => 0)))] H := hP
        have hD : va_D A [(h0, .inr (3, [.ref b1, .ref b2, .ref b3, .ref b4, .int 0, .int u, .int v])), (b1, .inl (d1, 48, .inl g_11)), (b2, .inl (d2, 48, .inl (upd (fun _ => 0) (0 : Int32).toNatClampNeg v))), (b3, .inl (d3, 48, .inl (fun _ => 0))), (b4, .inl (d4, 48, .inl (fun _ => 0)))] := hD
        generalize upd (fun _ => 0) (0 : Int32).toNatClampNeg v = g_12 at hP hD
        have hP : va_P D vwCl [(h0, .inr (3, [.ref b1, .ref b2, .ref b3, .ref b4, .int 0, .int u, .int v])), (b1, .inl (d1, 48, .inl g_11)), (b2, .inl (d2, 48, .inl g_12)), (b3, .inl (d3, 48, .inl (fun _ => 0))), (b4, .inl (d4, 48, .inl (fun _ => 0)))] H := hP
        have hD : va_D A [(h0, .inr (3, [.ref b1, .ref b2, .ref b3, .ref b4, .int 0, .int u, .int v])), (b1, .inl (d1, 48, .inl g_11)), (b2, .inl (d2, 48, .inl g_12)), (b3, .inl (d3, 48, .inl (fun _ => 0))), (b4, .inl (d4, 48, .inl (fun _ => 0)))] := hD
        refine lv_aload_n hx hb dX3_add_79 rfl (lv_at hl 0 rfl) ?_
        refine va_get (D := D) (ci := 3) (v := .ref b3) (C := RX3) (T := TX3) (N := 7) hx hb hts hi_X3 hown hK hP 0 rfl rfl 2 (by decide) (hts _ bw_38) (fun _ h9 => h9) rfl dX3_add_80 ?_
        refine lv_aload_n hx hb dX3_add_83 rfl (lv_at hl 0 rfl) ?_
        refine va_get (D := D) (ci := 3) (v := .int 0) (C := RX3) (T := TX3) (N := 7) hx hb hts hi_X3 hown hK hP 0 rfl rfl 4 (by decide) (hts _ bw_40) (fun _ h9 => h9) rfl dX3_add_84 ?_
        refine lv_aload_n hx hb dX3_add_87 rfl (lv_at hl 0 rfl) ?_
        refine va_get (D := D) (ci := 3) (v := .int u) (C := RX3) (T := TX3) (N := 7) hx hb hts hi_X3 hown hK hP 0 rfl rfl 5 (by decide) (hts _ bw_41) (fun _ h9 => h9) rfl dX3_add_88 ?_
        refine va_iast hx hb hK hP hD hS 3 2 rfl rfl (my_in (by decide) (by decide)) dX3_add_91 (fun H locs hP hD hS => ?_)
        have hP : va_P D vwCl [(h0, .inr (3, [.ref b1, .ref b2, .ref b3, .ref b4, .int 0, .int u, .int v])), (b1, .inl (d1, 48, .inl g_11)), (b2, .inl (d2, 48, .inl g_12)), (b3, .inl (d3, 48, .inl (upd (fun _ => 0) (0 : Int32).toNatClampNeg u))), (b4, .inl (d4, 48, .inl (fun _ => 0)))] H := hP
        have hD : va_D A [(h0, .inr (3, [.ref b1, .ref b2, .ref b3, .ref b4, .int 0, .int u, .int v])), (b1, .inl (d1, 48, .inl g_11)), (b2, .inl (d2, 48, .inl g_12)), (b3, .inl (d3, 48, .inl (upd (fun _ => 0) (0 : Int32).toNatClampNeg u))), (b4, .inl (d4, 48, .inl (fun _ => 0)))] := hD
        generalize upd (fun _ => 0) (0 : Int32).toNatClampNeg u = g_13 at hP hD
        have hP : va_P D vwCl [(h0, .inr (3, [.ref b1, .ref b2, .ref b3, .ref b4, .int 0, .int u, .int v])), (b1, .inl (d1, 48, .inl g_11)), (b2, .inl (d2, 48, .inl g_12)), (b3, .inl (d3, 48, .inl g_13)), (b4, .inl (d4, 48, .inl (fun _ => 0)))] H := hP
        have hD : va_D A [(h0, .inr (3, [.ref b1, .ref b2, .ref b3, .ref b4, .int 0, .int u, .int v])), (b1, .inl (d1, 48, .inl g_11)), (b2, .inl (d2, 48, .inl g_12)), (b3, .inl (d3, 48, .inl g_13)), (b4, .inl (d4, 48, .inl (fun _ => 0)))] := hD
        refine lv_aload_n hx hb dX3_add_92 rfl (lv_at hl 0 rfl) ?_
        refine va_get (D := D) (ci := 3) (v := .ref b4) (C := RX3) (T := TX3) (N := 7) hx hb hts hi_X3 hown hK hP 0 rfl rfl 3 (by decide) (hts _ bw_39) (fun _ h9 => h9) rfl dX3_add_93 ?_
        refine lv_aload_n hx hb dX3_add_96 rfl (lv_at hl 0 rfl) ?_
        refine va_get (D := D) (ci := 3) (v := .int 0) (C := RX3) (T := TX3) (N := 7) hx hb hts hi_X3 hown hK hP 0 rfl rfl 4 (by decide) (hts _ bw_40) (fun _ h9 => h9) rfl dX3_add_97 ?_
        refine lv_aload_n hx hb dX3_add_100 rfl (lv_at hl 0 rfl) ?_
        refine va_get (D := D) (ci := 3) (v := .int v) (C := RX3) (T := TX3) (N := 7) hx hb hts hi_X3 hown hK hP 0 rfl rfl 6 (by decide) (hts _ bw_42) (fun _ h9 => h9) rfl dX3_add_101 ?_
        refine va_iast hx hb hK hP hD hS 4 3 rfl rfl (my_in (by decide) (by decide)) dX3_add_104 (fun H locs hP hD hS => ?_)
        have hP : va_P D vwCl [(h0, .inr (3, [.ref b1, .ref b2, .ref b3, .ref b4, .int 0, .int u, .int v])), (b1, .inl (d1, 48, .inl g_11)), (b2, .inl (d2, 48, .inl g_12)), (b3, .inl (d3, 48, .inl g_13)), (b4, .inl (d4, 48, .inl (upd (fun _ => 0) (0 : Int32).toNatClampNeg v)))] H := hP
        have hD : va_D A [(h0, .inr (3, [.ref b1, .ref b2, .ref b3, .ref b4, .int 0, .int u, .int v])), (b1, .inl (d1, 48, .inl g_11)), (b2, .inl (d2, 48, .inl g_12)), (b3, .inl (d3, 48, .inl g_13)), (b4, .inl (d4, 48, .inl (upd (fun _ => 0) (0 : Int32).toNatClampNeg v)))] := hD
        generalize upd (fun _ => 0) (0 : Int32).toNatClampNeg v = g_14 at hP hD
        have hP : va_P D vwCl [(h0, .inr (3, [.ref b1, .ref b2, .ref b3, .ref b4, .int 0, .int u, .int v])), (b1, .inl (d1, 48, .inl g_11)), (b2, .inl (d2, 48, .inl g_12)), (b3, .inl (d3, 48, .inl g_13)), (b4, .inl (d4, 48, .inl g_14))] H := hP
        have hD : va_D A [(h0, .inr (3, [.ref b1, .ref b2, .ref b3, .ref b4, .int 0, .int u, .int v])), (b1, .inl (d1, 48, .inl g_11)), (b2, .inl (d2, 48, .inl g_12)), (b3, .inl (d3, 48, .inl g_13)), (b4, .inl (d4, 48, .inl g_14))] := hD
        refine lv_aload_n hx hb dX3_add_105 rfl (lv_at hl 0 rfl) ?_
        refine lv_dup hx hb dX3_add_106 rfl ?_
        refine va_get (D := D) (ci := 3) (v := .int 0) (C := RX3) (T := TX3) (N := 7) hx hb hts hi_X3 hown hK hP 0 rfl rfl 4 (by decide) (hts _ bw_40) (fun _ h9 => h9) rfl dX3_add_107 ?_
        refine lv_iconst (v := 1) hx hb dX3_add_110 (by decide) ?_
        refine lv_iadd hx hb dX3_add_111 ?_
        refine my_fold (v := 1) (by decide) ?_
        refine va_put (D := D) (ci := 3) (v := .int 1) (ty := .int) (C := RX3) (T := TX3) (N := 7) hx hb hts hi_X3 tyX3 tyX3_ok nmX3 hown hK hP hD hS 0 rfl rfl 4 (by decide) (hts _ bw_40) (fun _ h9 => h9) rfl (by decide +kernel) rfl rfl (Nat.le_of_ble_eq_true rfl) dX3_add_112 (fun H locs hP hD hS => ?_)
        have hP : va_P D vwCl [(h0, .inr (3, [.ref b1, .ref b2, .ref b3, .ref b4, .int 1, .int u, .int v])), (b1, .inl (d1, 48, .inl g_11)), (b2, .inl (d2, 48, .inl g_12)), (b3, .inl (d3, 48, .inl g_13)), (b4, .inl (d4, 48, .inl g_14))] H := hP
        have hD : va_D A [(h0, .inr (3, [.ref b1, .ref b2, .ref b3, .ref b4, .int 1, .int u, .int v])), (b1, .inl (d1, 48, .inl g_11)), (b2, .inl (d2, 48, .inl g_12)), (b3, .inl (d3, 48, .inl g_13)), (b4, .inl (d4, 48, .inl g_14))] := hD
        refine lv_iconst (v := 1) hx hb dX3_add_115 (by decide) ?_
        have hP9 := hP.sub (ws' := [(h0, .inr (3, [.ref b1, .ref b2, .ref b3, .ref b4, .int 1, .int u, .int v])), (b1, .inl (d1, 48, .inl g_11)), (b2, .inl (d2, 48, .inl g_12)), (b3, .inl (d3, 48, .inl g_13)), (b4, .inl (d4, 48, .inl g_14))]) [0, 1, 2, 3, 4] rfl
        have hD9 := hD.sub (ws' := [(h0, .inr (3, [.ref b1, .ref b2, .ref b3, .ref b4, .int 1, .int u, .int v])), (b1, .inl (d1, 48, .inl g_11)), (b2, .inl (d2, 48, .inl g_12)), (b3, .inl (d3, 48, .inl g_13)), (b4, .inl (d4, 48, .inl g_14))]) [0, 1, 2, 3, 4] (by decide) rfl
        have hK9 := hK.sub (tys' := []) [] rfl
        exact W.zret (v := 1) hx hb hr rfl (fun t ht hW => ⟨⟨1, (), rfl, rfl, ⟨g_11, g_12, g_13, g_14, by rw [ht]; exact hP9, va_K.moved hW.alike hK9, hD9⟩⟩, hS.F ht⟩) hS.2.2 dX3_add_116
  · skip
    exact absurd c_1 (by decide)

set_option maxHeartbeats 4000000 in
set_option maxRecDepth 100000 in
theorem k_X3_windingAt (l : Launch) (D : va_G) (sz : Nat) (h0 b1 b2 b3 b4 : Nat) (u v : Int32) : Met l yX3_windingAt (wB yX3_windingAt cX3_windingAt 6 (some .int)) ({ frames := 0, cells := 0, slots := 0, locals := 0 }) (cP D [(h0, .inr (3, [.ref b1, .ref b2, .ref b3, .ref b4, .int 0, .int 0, .int 0]))] [] sz [.ref h0, .int u, .int v]) (va_Qi (fun (r : Int32) (_ : Unit) => r = 0) (fun (_ : Unit) (_ : State) => True) (va_A [(h0, .inr (3, [.ref b1, .ref b2, .ref b3, .ref b4, .int 0, .int 0, .int 0]))] sz)) 0 0 (va_A [(h0, .inr (3, [.ref b1, .ref b2, .ref b3, .ref b4, .int 0, .int 0, .int 0]))] sz) := by
  refine Met.ofW (cc := cX3_windingAt) (maxL := 6) (ret := (some .int)) (by decide) rfl ?_
  intro p e s m args below meth c s₁ B hml hv
  obtain ⟨rfl, hsz, hP, hK, hD0, hN⟩ := hv
  have hx := B.exec
  have hb := B.bytes
  have hr := B.returns
  have hts0 := atoms_spec (ws := (wB yX3_windingAt cX3_windingAt 6 (some .int))) B.pre
  have hts : ∀ w ∈ bigW, w.before _ s = true := fun w h => hts0 w (List.mem_cons_of_mem _ h)
  have hown : s.vm.findClass RX3 = some m.cls := findClass_of_methodNamed B.named
  have hlocks := B.notSynchronized
  subst hsz
  have hD := hD0.self (sz := s.heap.size)
  generalize hAe : va_A [(h0, .inr (3, [.ref b1, .ref b2, .ref b3, .ref b4, .int 0, .int 0, .int 0]))] s.heap.size = A at hD ⊢
  have hA : ∀ q : Nat, s.heap.size ≤ q → A q := fun q h => by rw [← hAe]; exact Or.inr h
  have hS : va_S A s.heap s.heap [] := va_S.rf
  have hP : va_P D vwCl [(h0, .inr (3, [.ref b1, .ref b2, .ref b3, .ref b4, .int 0, .int 0, .int 0]))] s.heap := hP
  have hl := lv_entry ([.ref h0, .int u, .int v]) (n := 6) (Nat.le_of_ble_eq_true rfl)
  rw [lg_entry_eq]
  generalize (lg_sl ([.ref h0, .int u, .int v]) ++ List.replicate (6 - (lg_sl ([.ref h0, .int u, .int v])).length) Slot.unset).toArray = ls at hl ⊢
  have hl : lv_has ls 6 [(0, .ref h0), (1, .int u), (2, .int v)] := hl
  refine lv_iconst (v := 0) hx hb dX3_windingAt_0 (by decide) ?_
  refine lv_istore_n (lv' := [(3, .int 0), (0, .ref h0), (1, .int u), (2, .int v)]) hx hb dX3_windingAt_1 rfl hl (by decide) rfl (fun ls hl => ?_)
  refine lv_iconst (v := 0) hx hb dX3_windingAt_2 (by decide) ?_
  refine lv_istore (lv' := [(4, .int 0), (3, .int 0), (0, .ref h0), (1, .int u), (2, .int v)]) hx hb dX3_windingAt_3 hl (by decide) rfl (fun ls hl => ?_)
  refine lv_iload hx hb dX3_windingAt_5 (lv_at hl 0 rfl) ?_
  refine lv_aload_n hx hb dX3_windingAt_7 rfl (lv_at hl 2 rfl) ?_
  refine va_get (D := D) (ci := 3) (v := .int 0) (C := RX3) (T := TX3) (N := 7) hx hb hts hi_X3 hown hK hP 0 rfl rfl 4 (by decide) (hts _ bw_40) (fun _ h9 => h9) rfl dX3_windingAt_8 ?_
  refine lv_icmp_ge (tgt := 50) hx hb dX3_windingAt_11 (by decide) (fun c_1 => ?_) (fun c_1 => ?_)
  · skip
    refine lv_iload_n hx hb dX3_windingAt_50 rfl (lv_at hl 1 rfl) ?_
    exact W.iret (v := 0) hx hb hr (fun t ht hW => ⟨⟨0, (), rfl, rfl, trivial⟩, hS.F ht⟩) hS.2.2 dX3_windingAt_51
  · skip
    exact absurd c_1 (by decide)

set_option maxHeartbeats 4000000 in
set_option maxRecDepth 100000 in
theorem k_X7_place (l : Launch) (D : va_G) (sz : Nat) (h0 b1 b2 b3 b4 : Nat) (d1 d2 d3 : ClassId) (i x y n : Int32) : Met l yX7_place (wB yX7_place cX7_place 5 none) ({ frames := 0, cells := 0, slots := 0, locals := 0 }) (cP D [(h0, .inr (7, [.ref b1, .ref b2, .ref b3, .ref b4])), (b1, .inl (d1, 3, .inl (fun _ => 0))), (b2, .inl (d2, 3, .inl (fun _ => 0))), (b3, .inl (d3, 3, .inl (fun _ => 0)))] [(d1, .int), (d2, .int), (d3, .int)] sz [.ref h0, .int i, .int x, .int y, .int n]) (va_Qv (fun (_ : Unit) => True) (fun (_ : Unit) (_ : State) => True) (va_A [(h0, .inr (7, [.ref b1, .ref b2, .ref b3, .ref b4])), (b1, .inl (d1, 3, .inl (fun _ => 0))), (b2, .inl (d2, 3, .inl (fun _ => 0))), (b3, .inl (d3, 3, .inl (fun _ => 0)))] sz)) 0 0 (va_A [(h0, .inr (7, [.ref b1, .ref b2, .ref b3, .ref b4])), (b1, .inl (d1, 3, .inl (fun _ => 0))), (b2, .inl (d2, 3, .inl (fun _ => 0))), (b3, .inl (d3, 3, .inl (fun _ => 0)))] sz) := by
  refine Met.ofW (cc := cX7_place) (maxL := 5) (ret := none) (by decide) rfl ?_
  intro p e s m args below meth c s₁ B hml hv
  obtain ⟨rfl, hsz, hP, hK, hD0, hN⟩ := hv
  have hx := B.exec
  have hb := B.bytes
  have hr := B.returns
  have hts0 := atoms_spec (ws := (wB yX7_place cX7_place 5 none)) B.pre
  have hts : ∀ w ∈ bigW, w.before _ s = true := fun w h => hts0 w (List.mem_cons_of_mem _ h)
  have hown : s.vm.findClass RX7 = some m.cls := findClass_of_methodNamed B.named
  have hlocks := B.notSynchronized
  subst hsz
  have hD := hD0.self (sz := s.heap.size)
  generalize hAe : va_A [(h0, .inr (7, [.ref b1, .ref b2, .ref b3, .ref b4])), (b1, .inl (d1, 3, .inl (fun _ => 0))), (b2, .inl (d2, 3, .inl (fun _ => 0))), (b3, .inl (d3, 3, .inl (fun _ => 0)))] s.heap.size = A at hD ⊢
  have hA : ∀ q : Nat, s.heap.size ≤ q → A q := fun q h => by rw [← hAe]; exact Or.inr h
  have hS : va_S A s.heap s.heap [] := va_S.rf
  have hP : va_P D vwCl [(h0, .inr (7, [.ref b1, .ref b2, .ref b3, .ref b4])), (b1, .inl (d1, 3, .inl (fun _ => 0))), (b2, .inl (d2, 3, .inl (fun _ => 0))), (b3, .inl (d3, 3, .inl (fun _ => 0)))] s.heap := hP
  have hl := lv_entry ([.ref h0, .int i, .int x, .int y, .int n]) (n := 5) (Nat.le_of_ble_eq_true rfl)
  rw [lg_entry_eq]
  generalize (lg_sl ([.ref h0, .int i, .int x, .int y, .int n]) ++ List.replicate (5 - (lg_sl ([.ref h0, .int i, .int x, .int y, .int n])).length) Slot.unset).toArray = ls at hl ⊢
  have hl : lv_has ls 5 [(0, .ref h0), (1, .int i), (2, .int x), (3, .int y), (4, .int n)] := hl
  refine lv_iload_n hx hb dX7_place_0 rfl (lv_at hl 1 rfl) ?_
  refine lv_if_lt (tgt := 31) hx hb dX7_place_1 (by decide) (fun c_1 => ?_) (fun c_1 => ?_)
  · skip
    have f_2 : i.toInt < 0 := f_lt rfl (by decide) c_1
    exact W.vret hx hb hr (fun t ht hW => ⟨⟨(), rfl, trivial, trivial⟩, hS.F ht⟩) hS.2.2 dX7_place_31
  · skip
    have f_2 : ¬ (i.toInt < 0) := fn_lt rfl (by decide) c_1
    refine lv_iload_n hx hb dX7_place_4 rfl (lv_at hl 1 rfl) ?_
    refine lv_iconst (v := 3) hx hb dX7_place_5 (by decide) ?_
    refine lv_icmp_ge (tgt := 31) hx hb dX7_place_6 (by decide) (fun c_3 => ?_) (fun c_3 => ?_)
    · skip
      have f_4 : 3 ≤ i.toInt := f_le (by decide) rfl c_3
      exact W.vret hx hb hr (fun t ht hW => ⟨⟨(), rfl, trivial, trivial⟩, hS.F ht⟩) hS.2.2 dX7_place_31
    · skip
      have f_4 : ¬ (3 ≤ i.toInt) := fn_le (by decide) rfl c_3
      refine lv_aload_n hx hb dX7_place_9 rfl (lv_at hl 0 rfl) ?_
      refine va_get (D := D) (ci := 7) (v := .ref b1) (C := RX7) (T := TX7) (N := 4) hx hb hts hi_X7 hown hK hP 0 rfl rfl 0 (by decide) (hts _ bw_44) (fun _ h9 => h9) rfl dX7_place_10 ?_
      refine lv_iload_n hx hb dX7_place_13 rfl (lv_at hl 1 rfl) ?_
      refine lv_iload_n hx hb dX7_place_14 rfl (lv_at hl 2 rfl) ?_
      refine va_iast hx hb hK hP hD hS 1 0 rfl rfl (vp_in_iff.mpr ⟨by omega, by omega⟩) dX7_place_15 (fun H locs hP hD hS => ?_)
      have hP : va_P D vwCl [(h0, .inr (7, [.ref b1, .ref b2, .ref b3, .ref b4])), (b1, .inl (d1, 3, .inl (upd (fun _ => 0) i.toNatClampNeg x))), (b2, .inl (d2, 3, .inl (fun _ => 0))), (b3, .inl (d3, 3, .inl (fun _ => 0)))] H := hP
      have hD : va_D A [(h0, .inr (7, [.ref b1, .ref b2, .ref b3, .ref b4])), (b1, .inl (d1, 3, .inl (upd (fun _ => 0) i.toNatClampNeg x))), (b2, .inl (d2, 3, .inl (fun _ => 0))), (b3, .inl (d3, 3, .inl (fun _ => 0)))] := hD
      generalize upd (fun _ => 0) i.toNatClampNeg x = g_5 at hP hD
      have hP : va_P D vwCl [(h0, .inr (7, [.ref b1, .ref b2, .ref b3, .ref b4])), (b1, .inl (d1, 3, .inl g_5)), (b2, .inl (d2, 3, .inl (fun _ => 0))), (b3, .inl (d3, 3, .inl (fun _ => 0)))] H := hP
      have hD : va_D A [(h0, .inr (7, [.ref b1, .ref b2, .ref b3, .ref b4])), (b1, .inl (d1, 3, .inl g_5)), (b2, .inl (d2, 3, .inl (fun _ => 0))), (b3, .inl (d3, 3, .inl (fun _ => 0)))] := hD
      refine lv_aload_n hx hb dX7_place_16 rfl (lv_at hl 0 rfl) ?_
      refine va_get (D := D) (ci := 7) (v := .ref b2) (C := RX7) (T := TX7) (N := 4) hx hb hts hi_X7 hown hK hP 0 rfl rfl 1 (by decide) (hts _ bw_45) (fun _ h9 => h9) rfl dX7_place_17 ?_
      refine lv_iload_n hx hb dX7_place_20 rfl (lv_at hl 1 rfl) ?_
      refine lv_iload_n hx hb dX7_place_21 rfl (lv_at hl 3 rfl) ?_
      refine va_iast hx hb hK hP hD hS 2 1 rfl rfl (vp_in_iff.mpr ⟨by omega, by omega⟩) dX7_place_22 (fun H locs hP hD hS => ?_)
      have hP : va_P D vwCl [(h0, .inr (7, [.ref b1, .ref b2, .ref b3, .ref b4])), (b1, .inl (d1, 3, .inl g_5)), (b2, .inl (d2, 3, .inl (upd (fun _ => 0) i.toNatClampNeg y))), (b3, .inl (d3, 3, .inl (fun _ => 0)))] H := hP
      have hD : va_D A [(h0, .inr (7, [.ref b1, .ref b2, .ref b3, .ref b4])), (b1, .inl (d1, 3, .inl g_5)), (b2, .inl (d2, 3, .inl (upd (fun _ => 0) i.toNatClampNeg y))), (b3, .inl (d3, 3, .inl (fun _ => 0)))] := hD
      generalize upd (fun _ => 0) i.toNatClampNeg y = g_6 at hP hD
      have hP : va_P D vwCl [(h0, .inr (7, [.ref b1, .ref b2, .ref b3, .ref b4])), (b1, .inl (d1, 3, .inl g_5)), (b2, .inl (d2, 3, .inl g_6)), (b3, .inl (d3, 3, .inl (fun _ => 0)))] H := hP
      have hD : va_D A [(h0, .inr (7, [.ref b1, .ref b2, .ref b3, .ref b4])), (b1, .inl (d1, 3, .inl g_5)), (b2, .inl (d2, 3, .inl g_6)), (b3, .inl (d3, 3, .inl (fun _ => 0)))] := hD
      refine lv_aload_n hx hb dX7_place_23 rfl (lv_at hl 0 rfl) ?_
      refine va_get (D := D) (ci := 7) (v := .ref b3) (C := RX7) (T := TX7) (N := 4) hx hb hts hi_X7 hown hK hP 0 rfl rfl 2 (by decide) (hts _ bw_46) (fun _ h9 => h9) rfl dX7_place_24 ?_
      refine lv_iload_n hx hb dX7_place_27 rfl (lv_at hl 1 rfl) ?_
      refine lv_iload hx hb dX7_place_28 (lv_at hl 4 rfl) ?_
      refine va_iast hx hb hK hP hD hS 3 2 rfl rfl (vp_in_iff.mpr ⟨by omega, by omega⟩) dX7_place_30 (fun H locs hP hD hS => ?_)
      have hP : va_P D vwCl [(h0, .inr (7, [.ref b1, .ref b2, .ref b3, .ref b4])), (b1, .inl (d1, 3, .inl g_5)), (b2, .inl (d2, 3, .inl g_6)), (b3, .inl (d3, 3, .inl (upd (fun _ => 0) i.toNatClampNeg n)))] H := hP
      have hD : va_D A [(h0, .inr (7, [.ref b1, .ref b2, .ref b3, .ref b4])), (b1, .inl (d1, 3, .inl g_5)), (b2, .inl (d2, 3, .inl g_6)), (b3, .inl (d3, 3, .inl (upd (fun _ => 0) i.toNatClampNeg n)))] := hD
      generalize upd (fun _ => 0) i.toNatClampNeg n = g_7 at hP hD
      have hP : va_P D vwCl [(h0, .inr (7, [.ref b1, .ref b2, .ref b3, .ref b4])), (b1, .inl (d1, 3, .inl g_5)), (b2, .inl (d2, 3, .inl g_6)), (b3, .inl (d3, 3, .inl g_7))] H := hP
      have hD : va_D A [(h0, .inr (7, [.ref b1, .ref b2, .ref b3, .ref b4])), (b1, .inl (d1, 3, .inl g_5)), (b2, .inl (d2, 3, .inl g_6)), (b3, .inl (d3, 3, .inl g_7))] := hD
      exact W.vret hx hb hr (fun t ht hW => ⟨⟨(), rfl, trivial, trivial⟩, hS.F ht⟩) hS.2.2 dX7_place_31
