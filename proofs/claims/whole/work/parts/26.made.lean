set_option maxHeartbeats 4000000 in
set_option maxRecDepth 100000 in
theorem k_X2_init (l : Launch) (D : va_G) (sz : Nat) (h0 : Nat) (x y w h : Int32) : Met l yX2_init (wB yX2_init cX2_init 5 none) ({ frames := 1, cells := 0, slots := 0, locals := 12 }) (cP D [(h0, .inr (2, [.int 0, .int 0, .int 0, .int 0]))] [] sz [.ref h0, .int x, .int y, .int w, .int h]) (va_Qv (fun (_ : Unit) => True) (fun (_ : Unit) (t : State) => cB D (va_A [(h0, .inr (2, [.int 0, .int 0, .int 0, .int 0]))] sz) [(h0, .inr (2, [.int x, .int y, .int w, .int h]))] [] t) (va_A [(h0, .inr (2, [.int 0, .int 0, .int 0, .int 0]))] sz)) 0 0 (va_A [(h0, .inr (2, [.int 0, .int 0, .int 0, .int 0]))] sz) := by
  refine Met.ofW (cc := cX2_init) (maxL := 5) (ret := none) (by decide) rfl ?_
  intro p e s m args below meth c s₁ B hml hv
  obtain ⟨rfl, hsz, hP, hK, hD0, hN⟩ := hv
  have hx := B.exec
  have hb := B.bytes
  have hr := B.returns
  have hts0 := atoms_spec (ws := (wB yX2_init cX2_init 5 none)) B.pre
  have hts : ∀ w ∈ bigW, w.before _ s = true := fun w h => hts0 w (List.mem_cons_of_mem _ h)
  have hown : s.vm.findClass RX2 = some m.cls := findClass_of_methodNamed B.named
  have hlocks := B.notSynchronized
  have hin : meth.name = "<init>" := (name_of_methodNamed B.named B.method).1
  subst hsz
  have hD := hD0.self (sz := s.heap.size)
  generalize hAe : va_A [(h0, .inr (2, [.int 0, .int 0, .int 0, .int 0]))] s.heap.size = A at hD ⊢
  have hA : ∀ q : Nat, s.heap.size ≤ q → A q := fun q h => by rw [← hAe]; exact Or.inr h
  have hS : va_S A s.heap s.heap [] := va_S.rf
  have hP : va_P D vwCl [(h0, .inr (2, [.int 0, .int 0, .int 0, .int 0]))] s.heap := hP
  have hl := lv_entry ([.ref h0, .int x, .int y, .int w, .int h]) (n := 5) (Nat.le_of_ble_eq_true rfl)
  rw [lg_entry_eq]
  generalize (lg_sl ([.ref h0, .int x, .int y, .int w, .int h]) ++ List.replicate (5 - (lg_sl ([.ref h0, .int x, .int y, .int w, .int h])).length) Slot.unset).toArray = ls at hl ⊢
  have hl : lv_has ls 5 [(0, .ref h0), (1, .int x), (2, .int y), (3, .int w), (4, .int h)] := hl
  clear hts0 hD0 hAe
  refine my_abs (fun R Q hR hQ => ?_)
  refine lv_aload_n hx hb dX2_init_0 rfl (lv_at hl 0 rfl) ?_
  refine W.objInit hx hb hown (hts _ bw_59) (hts _ bw_0) (hts _ bw_1) rfl (by rw [hml]; exact hl.1) rfl dX2_init_1 (by rw [hR]; exact Nat.le_of_ble_eq_true rfl) (by rw [hR]; exact Nat.le_of_ble_eq_true rfl) ?_
  refine W.eq (g2 := F0 m 4 ls []) rfl ?_
  refine lv_aload_n hx hb dX2_init_4 rfl (lv_at hl 0 rfl) ?_
  refine lv_iload_n hx hb dX2_init_5 rfl (lv_at hl 1 rfl) ?_
  refine va_putF (D := D) (ci := 2) (v := .int x) (ty := .int) (C := RX2) (T := TX2) (N := 4) hx hb hts hi_X2 tyX2 tyX2_ok nmX2 hown hK hP hD hS 0 rfl rfl 0 (by decide) (hts _ bw_60) (fun _ h9 => h9) rfl hin rfl (by decide +kernel) rfl rfl (Nat.le_of_ble_eq_true rfl) dX2_init_6 (fun H locs hP hD hS => ?_)
  have hP : va_P D vwCl [(h0, .inr (2, [.int x, .int 0, .int 0, .int 0]))] H := hP
  have hD : va_D A [(h0, .inr (2, [.int x, .int 0, .int 0, .int 0]))] := hD
  refine lv_aload_n hx hb dX2_init_9 rfl (lv_at hl 0 rfl) ?_
  refine lv_iload_n hx hb dX2_init_10 rfl (lv_at hl 2 rfl) ?_
  refine va_putF (D := D) (ci := 2) (v := .int y) (ty := .int) (C := RX2) (T := TX2) (N := 4) hx hb hts hi_X2 tyX2 tyX2_ok nmX2 hown hK hP hD hS 0 rfl rfl 1 (by decide) (hts _ bw_61) (fun _ h9 => h9) rfl hin rfl (by decide +kernel) rfl rfl (Nat.le_of_ble_eq_true rfl) dX2_init_11 (fun H locs hP hD hS => ?_)
  have hP : va_P D vwCl [(h0, .inr (2, [.int x, .int y, .int 0, .int 0]))] H := hP
  have hD : va_D A [(h0, .inr (2, [.int x, .int y, .int 0, .int 0]))] := hD
  refine lv_aload_n hx hb dX2_init_14 rfl (lv_at hl 0 rfl) ?_
  refine lv_iload_n hx hb dX2_init_15 rfl (lv_at hl 3 rfl) ?_
  refine va_putF (D := D) (ci := 2) (v := .int w) (ty := .int) (C := RX2) (T := TX2) (N := 4) hx hb hts hi_X2 tyX2 tyX2_ok nmX2 hown hK hP hD hS 0 rfl rfl 2 (by decide) (hts _ bw_62) (fun _ h9 => h9) rfl hin rfl (by decide +kernel) rfl rfl (Nat.le_of_ble_eq_true rfl) dX2_init_16 (fun H locs hP hD hS => ?_)
  have hP : va_P D vwCl [(h0, .inr (2, [.int x, .int y, .int w, .int 0]))] H := hP
  have hD : va_D A [(h0, .inr (2, [.int x, .int y, .int w, .int 0]))] := hD
  refine lv_aload_n hx hb dX2_init_19 rfl (lv_at hl 0 rfl) ?_
  refine lv_iload hx hb dX2_init_20 (lv_at hl 4 rfl) ?_
  refine va_putF (D := D) (ci := 2) (v := .int h) (ty := .int) (C := RX2) (T := TX2) (N := 4) hx hb hts hi_X2 tyX2 tyX2_ok nmX2 hown hK hP hD hS 0 rfl rfl 3 (by decide) (hts _ bw_63) (fun _ h9 => h9) rfl hin rfl (by decide +kernel) rfl rfl (Nat.le_of_ble_eq_true rfl) dX2_init_22 (fun H locs hP hD hS => ?_)
  have hP : va_P D vwCl [(h0, .inr (2, [.int x, .int y, .int w, .int h]))] H := hP
  have hD : va_D A [(h0, .inr (2, [.int x, .int y, .int w, .int h]))] := hD
  have hP9 := hP.sub (ws' := [(h0, .inr (2, [.int x, .int y, .int w, .int h]))]) [0] rfl
  have hD9 := hD.sub (ws' := [(h0, .inr (2, [.int x, .int y, .int w, .int h]))]) [0] (by decide) rfl
  have hK9 := hK.sub (tys' := []) [] rfl
  refine hQ _ _ _ _ _ ?_
  exact W.vret hx hb hr (fun t ht hW => ⟨⟨(), rfl, trivial, ⟨by rw [ht]; exact hP9, va_K.moved hW.alike hK9, hD9⟩⟩, hS.F ht⟩) hS.2.2 dX2_init_25

set_option maxHeartbeats 4000000 in
set_option maxRecDepth 100000 in
theorem k_X5_init (l : Launch) (D : va_G) (sz : Nat) (h0 : Nat) (cI : ClassId) : Met l yX5_init (wB yX5_init cX5_init 1 none) ({ frames := 1, cells := 1, slots := 4096, locals := 12 }) (cP D [(h0, .inr (5, [.null, .int 0, .int 0]))] [(cI, .int)] sz [.ref h0]) (va_Qv (fun (_ : Unit) => True) (fun (_ : Unit) (t : State) => ∃ (d0 : Nat), cB D (va_A [(h0, .inr (5, [.null, .int 0, .int 0]))] sz) [(h0, .inr (5, [.ref d0, .int 0, .int 0])), (d0, .inl (cI, 4096, .inl (fun _ => 0)))] [(cI, .int)] t) (va_A [(h0, .inr (5, [.null, .int 0, .int 0]))] sz)) 1 4096 (va_A [(h0, .inr (5, [.null, .int 0, .int 0]))] sz) := by
  refine Met.ofW (cc := cX5_init) (maxL := 1) (ret := none) (by decide) rfl ?_
  intro p e s m args below meth c s₁ B hml hv
  obtain ⟨rfl, hsz, hP, hK, hD0, hN⟩ := hv
  have hx := B.exec
  have hb := B.bytes
  have hr := B.returns
  have hts0 := atoms_spec (ws := (wB yX5_init cX5_init 1 none)) B.pre
  have hts : ∀ w ∈ bigW, w.before _ s = true := fun w h => hts0 w (List.mem_cons_of_mem _ h)
  have hown : s.vm.findClass RX5 = some m.cls := findClass_of_methodNamed B.named
  have hlocks := B.notSynchronized
  have hin : meth.name = "<init>" := (name_of_methodNamed B.named B.method).1
  subst hsz
  have hD := hD0.self (sz := s.heap.size)
  generalize hAe : va_A [(h0, .inr (5, [.null, .int 0, .int 0]))] s.heap.size = A at hD ⊢
  have hA : ∀ q : Nat, s.heap.size ≤ q → A q := fun q h => by rw [← hAe]; exact Or.inr h
  have hS : va_S A s.heap s.heap [] := va_S.rf
  have hP : va_P D vwCl [(h0, .inr (5, [.null, .int 0, .int 0]))] s.heap := hP
  have hl := lv_entry ([.ref h0]) (n := 1) (Nat.le_of_ble_eq_true rfl)
  rw [lg_entry_eq]
  generalize (lg_sl ([.ref h0]) ++ List.replicate (1 - (lg_sl ([.ref h0])).length) Slot.unset).toArray = ls at hl ⊢
  have hl : lv_has ls 1 [(0, .ref h0)] := hl
  clear hts0 hD0 hAe
  refine my_abs (fun R Q hR hQ => ?_)
  refine lv_aload_n hx hb dX5_init_0 rfl (lv_at hl 0 rfl) ?_
  refine W.objInit hx hb hown (hts _ bw_134) (hts _ bw_0) (hts _ bw_1) rfl (by rw [hml]; exact hl.1) rfl dX5_init_1 (by rw [hR]; exact Nat.le_of_ble_eq_true rfl) (by rw [hR]; exact Nat.le_of_ble_eq_true rfl) ?_
  refine W.eq (g2 := F0 m 4 ls []) rfl ?_
  refine lv_aload_n hx hb dX5_init_4 rfl (lv_at hl 0 rfl) ?_
  refine lv_sipush (v := 4096) hx hb dX5_init_5 (by decide) ?_
  refine va_newa (atype := .int) (ty := .int) (a0 := (4096, .inl (fun _ => 0))) hx hb (hts _ bw_2) rfl hK hP hD hS hA (fun _ => rfl) (by decide) (by decide) (by decide) (by rw [hR]; exact Nat.le_of_ble_eq_true rfl) (by rw [hR]; exact Nat.le_of_ble_eq_true rfl) dX5_init_8 (fun q_1 a_2 H hK hP hD hS => ?_)
  obtain rfl : cI = a_2 := my_sameI hK 0 1 rfl rfl
  have hK := hK.sub (tys' := [(cI, .int)]) [0] rfl
  have hP : va_P D vwCl [(h0, .inr (5, [.null, .int 0, .int 0])), (q_1, .inl (cI, 4096, .inl (fun _ => 0)))] H := hP
  have hD : va_D A [(h0, .inr (5, [.null, .int 0, .int 0])), (q_1, .inl (cI, 4096, .inl (fun _ => 0)))] := hD
  refine W.widen (k := 1) (n := 4096) (by omega) (by omega) ?_
  refine va_putF (D := D) (ci := 5) (v := .ref q_1) (ty := (.array .int)) (C := RX5) (T := TX5) (N := 3) hx hb hts hi_X5 tyX5 tyX5_ok nmX5 hown hK hP hD hS 0 rfl rfl 0 (by decide) (hts _ bw_135) (fun _ h9 => h9) rfl hin rfl (by decide +kernel) rfl rfl (Nat.le_of_ble_eq_true rfl) dX5_init_10 (fun H locs hP hD hS => ?_)
  have hP : va_P D vwCl [(h0, .inr (5, [.ref q_1, .int 0, .int 0])), (q_1, .inl (cI, 4096, .inl (fun _ => 0)))] H := hP
  have hD : va_D A [(h0, .inr (5, [.ref q_1, .int 0, .int 0])), (q_1, .inl (cI, 4096, .inl (fun _ => 0)))] := hD
  refine lv_aload_n hx hb dX5_init_13 rfl (lv_at hl 0 rfl) ?_
  refine lv_iconst (v := 0) hx hb dX5_init_14 (by decide) ?_
  refine va_put (D := D) (ci := 5) (v := .int 0) (ty := .int) (C := RX5) (T := TX5) (N := 3) hx hb hts hi_X5 tyX5 tyX5_ok nmX5 hown hK hP hD hS 0 rfl rfl 1 (by decide) (hts _ bw_136) (fun _ h9 => h9) rfl (by decide +kernel) rfl rfl (Nat.le_of_ble_eq_true rfl) dX5_init_15 (fun H locs hP hD hS => ?_)
  have hP : va_P D vwCl [(h0, .inr (5, [.ref q_1, .int 0, .int 0])), (q_1, .inl (cI, 4096, .inl (fun _ => 0)))] H := hP
  have hD : va_D A [(h0, .inr (5, [.ref q_1, .int 0, .int 0])), (q_1, .inl (cI, 4096, .inl (fun _ => 0)))] := hD
  refine lv_aload_n hx hb dX5_init_18 rfl (lv_at hl 0 rfl) ?_
  refine lv_iconst (v := 0) hx hb dX5_init_19 (by decide) ?_
  refine va_put (D := D) (ci := 5) (v := .int 0) (ty := .int) (C := RX5) (T := TX5) (N := 3) hx hb hts hi_X5 tyX5 tyX5_ok nmX5 hown hK hP hD hS 0 rfl rfl 2 (by decide) (hts _ bw_137) (fun _ h9 => h9) rfl (by decide +kernel) rfl rfl (Nat.le_of_ble_eq_true rfl) dX5_init_20 (fun H locs hP hD hS => ?_)
  have hP : va_P D vwCl [(h0, .inr (5, [.ref q_1, .int 0, .int 0])), (q_1, .inl (cI, 4096, .inl (fun _ => 0)))] H := hP
  have hD : va_D A [(h0, .inr (5, [.ref q_1, .int 0, .int 0])), (q_1, .inl (cI, 4096, .inl (fun _ => 0)))] := hD
  have hP9 := hP.sub (ws' := [(h0, .inr (5, [.ref q_1, .int 0, .int 0])), (q_1, .inl (cI, 4096, .inl (fun _ => 0)))]) [0, 1] rfl
  have hD9 := hD.sub (ws' := [(h0, .inr (5, [.ref q_1, .int 0, .int 0])), (q_1, .inl (cI, 4096, .inl (fun _ => 0)))]) [0, 1] (by decide) rfl
  have hK9 := hK.sub (tys' := [(cI, .int)]) [0] rfl
  refine hQ _ _ _ _ _ ?_
  exact W.vret hx hb hr (fun t ht hW => ⟨⟨(), rfl, trivial, ⟨q_1, by rw [ht]; exact hP9, va_K.moved hW.alike hK9, hD9⟩⟩, hS.F ht⟩) hS.2.2 dX5_init_23

set_option maxHeartbeats 4000000 in
set_option maxRecDepth 100000 in
theorem k_X6_init (l : Launch) (D : va_G) (sz : Nat) (h0 : Nat) (cI : ClassId) : Met l yX6_init (wB yX6_init cX6_init 1 none) ({ frames := 1, cells := 2, slots := 8192, locals := 12 }) (cP D [(h0, .inr (6, [.null, .null, .int 0]))] [(cI, .int)] sz [.ref h0]) (va_Qv (fun (_ : Unit) => True) (fun (_ : Unit) (t : State) => ∃ (v1 v2 : Nat), cB D (va_A [(h0, .inr (6, [.null, .null, .int 0]))] sz) [(h0, .inr (6, [.ref v1, .ref v2, .int 0])), (v1, .inl (cI, 4096, .inl (fun _ => 0))), (v2, .inl (cI, 4096, .inl (fun _ => 0)))] [(cI, .int)] t) (va_A [(h0, .inr (6, [.null, .null, .int 0]))] sz)) 2 8192 (va_A [(h0, .inr (6, [.null, .null, .int 0]))] sz) := by
  refine Met.ofW (cc := cX6_init) (maxL := 1) (ret := none) (by decide) rfl ?_
  intro p e s m args below meth c s₁ B hml hv
  obtain ⟨rfl, hsz, hP, hK, hD0, hN⟩ := hv
  have hx := B.exec
  have hb := B.bytes
  have hr := B.returns
  have hts0 := atoms_spec (ws := (wB yX6_init cX6_init 1 none)) B.pre
  have hts : ∀ w ∈ bigW, w.before _ s = true := fun w h => hts0 w (List.mem_cons_of_mem _ h)
  have hown : s.vm.findClass RX6 = some m.cls := findClass_of_methodNamed B.named
  have hlocks := B.notSynchronized
  have hin : meth.name = "<init>" := (name_of_methodNamed B.named B.method).1
  subst hsz
  have hD := hD0.self (sz := s.heap.size)
  generalize hAe : va_A [(h0, .inr (6, [.null, .null, .int 0]))] s.heap.size = A at hD ⊢
  have hA : ∀ q : Nat, s.heap.size ≤ q → A q := fun q h => by rw [← hAe]; exact Or.inr h
  have hS : va_S A s.heap s.heap [] := va_S.rf
  have hP : va_P D vwCl [(h0, .inr (6, [.null, .null, .int 0]))] s.heap := hP
  have hl := lv_entry ([.ref h0]) (n := 1) (Nat.le_of_ble_eq_true rfl)
  rw [lg_entry_eq]
  generalize (lg_sl ([.ref h0]) ++ List.replicate (1 - (lg_sl ([.ref h0])).length) Slot.unset).toArray = ls at hl ⊢
  have hl : lv_has ls 1 [(0, .ref h0)] := hl
  clear hts0 hD0 hAe
  refine my_abs (fun R Q hR hQ => ?_)
  refine lv_aload_n hx hb dX6_init_0 rfl (lv_at hl 0 rfl) ?_
  refine W.objInit hx hb hown (hts _ bw_172) (hts _ bw_0) (hts _ bw_1) rfl (by rw [hml]; exact hl.1) rfl dX6_init_1 (by rw [hR]; exact Nat.le_of_ble_eq_true rfl) (by rw [hR]; exact Nat.le_of_ble_eq_true rfl) ?_
  refine W.eq (g2 := F0 m 4 ls []) rfl ?_
  refine lv_aload_n hx hb dX6_init_4 rfl (lv_at hl 0 rfl) ?_
  refine lv_sipush (v := 4096) hx hb dX6_init_5 (by decide) ?_
  refine va_newa (atype := .int) (ty := .int) (a0 := (4096, .inl (fun _ => 0))) hx hb (hts _ bw_2) rfl hK hP hD hS hA (fun _ => rfl) (by decide) (by decide) (by decide) (by rw [hR]; exact Nat.le_of_ble_eq_true rfl) (by rw [hR]; exact Nat.le_of_ble_eq_true rfl) dX6_init_8 (fun q_1 a_2 H hK hP hD hS => ?_)
  obtain rfl : cI = a_2 := my_sameI hK 0 1 rfl rfl
  have hK := hK.sub (tys' := [(cI, .int)]) [0] rfl
  have hP : va_P D vwCl [(h0, .inr (6, [.null, .null, .int 0])), (q_1, .inl (cI, 4096, .inl (fun _ => 0)))] H := hP
  have hD : va_D A [(h0, .inr (6, [.null, .null, .int 0])), (q_1, .inl (cI, 4096, .inl (fun _ => 0)))] := hD
  refine W.widen (k := 1) (n := 4096) (by omega) (by omega) ?_
  refine va_putF (D := D) (ci := 6) (v := .ref q_1) (ty := (.array .int)) (C := RX6) (T := TX6) (N := 3) hx hb hts hi_X6 tyX6 tyX6_ok nmX6 hown hK hP hD hS 0 rfl rfl 0 (by decide) (hts _ bw_173) (fun _ h9 => h9) rfl hin rfl (by decide +kernel) rfl rfl (Nat.le_of_ble_eq_true rfl) dX6_init_10 (fun H locs hP hD hS => ?_)
  have hP : va_P D vwCl [(h0, .inr (6, [.ref q_1, .null, .int 0])), (q_1, .inl (cI, 4096, .inl (fun _ => 0)))] H := hP
  have hD : va_D A [(h0, .inr (6, [.ref q_1, .null, .int 0])), (q_1, .inl (cI, 4096, .inl (fun _ => 0)))] := hD
  refine lv_aload_n hx hb dX6_init_13 rfl (lv_at hl 0 rfl) ?_
  refine lv_sipush (v := 4096) hx hb dX6_init_14 (by decide) ?_
  refine va_newa (atype := .int) (ty := .int) (a0 := (4096, .inl (fun _ => 0))) hx hb (hts _ bw_2) rfl hK hP hD hS hA (fun _ => rfl) (by decide) (by decide) (by decide) (by rw [hR]; exact Nat.le_of_ble_eq_true rfl) (by rw [hR]; exact Nat.le_of_ble_eq_true rfl) dX6_init_17 (fun q_3 a_4 H hK hP hD hS => ?_)
  obtain rfl : cI = a_4 := my_sameI hK 0 1 rfl rfl
  have hK := hK.sub (tys' := [(cI, .int)]) [0] rfl
  have hP : va_P D vwCl [(h0, .inr (6, [.ref q_1, .null, .int 0])), (q_1, .inl (cI, 4096, .inl (fun _ => 0))), (q_3, .inl (cI, 4096, .inl (fun _ => 0)))] H := hP
  have hD : va_D A [(h0, .inr (6, [.ref q_1, .null, .int 0])), (q_1, .inl (cI, 4096, .inl (fun _ => 0))), (q_3, .inl (cI, 4096, .inl (fun _ => 0)))] := hD
  refine W.widen (k := 2) (n := 8192) (by omega) (by omega) ?_
  refine va_putF (D := D) (ci := 6) (v := .ref q_3) (ty := (.array .int)) (C := RX6) (T := TX6) (N := 3) hx hb hts hi_X6 tyX6 tyX6_ok nmX6 hown hK hP hD hS 0 rfl rfl 1 (by decide) (hts _ bw_174) (fun _ h9 => h9) rfl hin rfl (by decide +kernel) rfl rfl (Nat.le_of_ble_eq_true rfl) dX6_init_19 (fun H locs hP hD hS => ?_)
  have hP : va_P D vwCl [(h0, .inr (6, [.ref q_1, .ref q_3, .int 0])), (q_1, .inl (cI, 4096, .inl (fun _ => 0))), (q_3, .inl (cI, 4096, .inl (fun _ => 0)))] H := hP
  have hD : va_D A [(h0, .inr (6, [.ref q_1, .ref q_3, .int 0])), (q_1, .inl (cI, 4096, .inl (fun _ => 0))), (q_3, .inl (cI, 4096, .inl (fun _ => 0)))] := hD
  refine lv_aload_n hx hb dX6_init_22 rfl (lv_at hl 0 rfl) ?_
  refine lv_iconst (v := 0) hx hb dX6_init_23 (by decide) ?_
  refine va_put (D := D) (ci := 6) (v := .int 0) (ty := .int) (C := RX6) (T := TX6) (N := 3) hx hb hts hi_X6 tyX6 tyX6_ok nmX6 hown hK hP hD hS 0 rfl rfl 2 (by decide) (hts _ bw_175) (fun _ h9 => h9) rfl (by decide +kernel) rfl rfl (Nat.le_of_ble_eq_true rfl) dX6_init_24 (fun H locs hP hD hS => ?_)
  have hP : va_P D vwCl [(h0, .inr (6, [.ref q_1, .ref q_3, .int 0])), (q_1, .inl (cI, 4096, .inl (fun _ => 0))), (q_3, .inl (cI, 4096, .inl (fun _ => 0)))] H := hP
  have hD : va_D A [(h0, .inr (6, [.ref q_1, .ref q_3, .int 0])), (q_1, .inl (cI, 4096, .inl (fun _ => 0))), (q_3, .inl (cI, 4096, .inl (fun _ => 0)))] := hD
  have hP9 := hP.sub (ws' := [(h0, .inr (6, [.ref q_1, .ref q_3, .int 0])), (q_1, .inl (cI, 4096, .inl (fun _ => 0))), (q_3, .inl (cI, 4096, .inl (fun _ => 0)))]) [0, 1, 2] rfl
  have hD9 := hD.sub (ws' := [(h0, .inr (6, [.ref q_1, .ref q_3, .int 0])), (q_1, .inl (cI, 4096, .inl (fun _ => 0))), (q_3, .inl (cI, 4096, .inl (fun _ => 0)))]) [0, 1, 2] (by decide) rfl
  have hK9 := hK.sub (tys' := [(cI, .int)]) [0] rfl
  refine hQ _ _ _ _ _ ?_
  exact W.vret hx hb hr (fun t ht hW => ⟨⟨(), rfl, trivial, ⟨q_1, q_3, by rw [ht]; exact hP9, va_K.moved hW.alike hK9, hD9⟩⟩, hS.F ht⟩) hS.2.2 dX6_init_27

set_option maxHeartbeats 4000000 in
set_option maxRecDepth 100000 in
theorem k_X2_isNearby (l : Launch) (D : va_G) (sz : Nat) (h0 : Nat) (x y w h : Int32) : Met l yX2_isNearby (wB yX2_isNearby cX2_isNearby 1 (some .boolean)) ({ frames := 2, cells := 0, slots := 0, locals := 43 }) (cP D [(h0, .inr (2, [.int x, .int y, .int w, .int h]))] [] sz [.ref h0]) (va_Qi (fun (r : Int32) (_ : Unit) => r = if (-200 ≤ x.toInt ∧ x.toInt ≤ 200) ∧ (-200 ≤ y.toInt ∧ y.toInt ≤ 200) then 1 else 0) (fun (_ : Unit) (t : State) => cB D (va_A [(h0, .inr (2, [.int x, .int y, .int w, .int h]))] sz) [(h0, .inr (2, [.int x, .int y, .int w, .int h]))] [] t) (va_A [(h0, .inr (2, [.int x, .int y, .int w, .int h]))] sz)) 0 0 (va_A [(h0, .inr (2, [.int x, .int y, .int w, .int h]))] sz) := by
  refine Met.ofW (cc := cX2_isNearby) (maxL := 1) (ret := (some .boolean)) (by decide) rfl ?_
  intro p e s m args below meth c s₁ B hml hv
  obtain ⟨rfl, hsz, hP, hK, hD0, hN⟩ := hv
  have hx := B.exec
  have hb := B.bytes
  have hr := B.returns
  have hts0 := atoms_spec (ws := (wB yX2_isNearby cX2_isNearby 1 (some .boolean))) B.pre
  have hts : ∀ w ∈ bigW, w.before _ s = true := fun w h => hts0 w (List.mem_cons_of_mem _ h)
  have hown : s.vm.findClass RX2 = some m.cls := findClass_of_methodNamed B.named
  have hlocks := B.notSynchronized
  subst hsz
  have hD := hD0.self (sz := s.heap.size)
  generalize hAe : va_A [(h0, .inr (2, [.int x, .int y, .int w, .int h]))] s.heap.size = A at hD ⊢
  have hA : ∀ q : Nat, s.heap.size ≤ q → A q := fun q h => by rw [← hAe]; exact Or.inr h
  have hS : va_S A s.heap s.heap [] := va_S.rf
  have hP : va_P D vwCl [(h0, .inr (2, [.int x, .int y, .int w, .int h]))] s.heap := hP
  have hl := lv_entry ([.ref h0]) (n := 1) (Nat.le_of_ble_eq_true rfl)
  rw [lg_entry_eq]
  generalize (lg_sl ([.ref h0]) ++ List.replicate (1 - (lg_sl ([.ref h0])).length) Slot.unset).toArray = ls at hl ⊢
  have hl : lv_has ls 1 [(0, .ref h0)] := hl
  clear hts0 hD0 hAe
  refine my_abs (fun R Q hR hQ => ?_)
  refine lv_aload_n hx hb dX2_isNearby_0 rfl (lv_at hl 0 rfl) ?_
  refine va_get (D := D) (ci := 2) (v := .int x) (C := RX2) (T := TX2) (N := 4) hx hb hts hi_X2 hown hK hP 0 rfl rfl 0 (by decide) (hts _ bw_60) (fun _ h9 => h9) rfl dX2_isNearby_1 ?_
  refine lv_sipush (v := 200) hx hb dX2_isNearby_4 (by decide) ?_
  have hPc := hP.sub (ws' := []) [] rfl
  have hDc := hD.sub (ws' := []) [] (by decide) rfl
  have hKc := hK.sub (tys' := []) [] rfl
  have hFc := va_free (wc := []) hD hS hA [] rfl
  refine va_calli (va_runSN (host := RX8) (As := [.int x, .int 200]) (rest := []) ⟨hx, hb, hml, hown, hts⟩ (k_X8_isNear l D s.heap.size x 200 (-200) 200 (by decide) (by decide)) ⟨va_cnB 2 hts (gI bw_350) rfl rfl rfl (hN.2.1 (RX2, 24, yX8_isNear, RX8) (by decide +kernel)) (hts _ bw_223) (by decide +kernel) ⟨(by rw [hR]; exact Nat.le_of_ble_eq_true rfl), (by rw [hR]; exact Nat.le_of_ble_eq_true rfl)⟩, (hts _ bw_351), trivial⟩ ⟨cP_blind, cP_at hPc hKc hDc hN⟩ rfl rfl hl.1 rfl (lv_room (Nat.le_of_ble_eq_true rfl)) dX2_isNearby_7 ⟨(by rw [hR]; exact Nat.le_of_ble_eq_true rfl), (by rw [hR]; exact Nat.le_of_ble_eq_true rfl)⟩) hS (fun q _ h => hFc q h) hFc (fun r_1 u9 t9 H1 locs ht hvm hr_1 hB hz1 hk1 hS => ?_)
  try dsimp only at hr_1
  have hP1 : va_P D vwCl [] H1 := vP_nil
  have hD1 : va_D (va_A [] s.heap.size) [] := vD_nil
  obtain ⟨hP, hD⟩ := va_join (wr := [(h0, .inr (2, [.int x, .int y, .int w, .int h]))]) (w1 := []) hP hD [] [0] rfl rfl (by decide) (by decide) hk1 hFc hP1 hD1
  clear hz1 hk1 hFc hKc hDc hPc
  generalize H1 = H at hP hS ⊢
  have hP : va_P D vwCl [(h0, .inr (2, [.int x, .int y, .int w, .int h]))] H := hP
  have hD : va_D A [(h0, .inr (2, [.int x, .int y, .int w, .int h]))] := hD
  refine lv_if_eq (tgt := 30) hx hb dX2_isNearby_10 (by decide) (fun c_2 => ?_) (fun c_2 => ?_)
  · skip
    have f_3 := bz0 hr_1 c_2
    refine lv_iconst (v := 0) hx hb dX2_isNearby_30 (by decide) ?_
    have hP9 := hP.sub (ws' := [(h0, .inr (2, [.int x, .int y, .int w, .int h]))]) [0] rfl
    have hD9 := hD.sub (ws' := [(h0, .inr (2, [.int x, .int y, .int w, .int h]))]) [0] (by decide) rfl
    have hK9 := hK.sub (tys' := []) [] rfl
    refine hQ _ _ _ _ _ ?_
    exact W.zret (v := 0) hx hb hr rfl (fun t ht hW => ⟨⟨0, (), rfl, (if_neg (by omega)).symm, ⟨by rw [ht]; exact hP9, va_K.moved hW.alike hK9, hD9⟩⟩, hS.F ht⟩) hS.2.2 dX2_isNearby_31
  · skip
    have f_3 := bz1 hr_1 c_2
    refine lv_aload_n hx hb dX2_isNearby_13 rfl (lv_at hl 0 rfl) ?_
    refine va_get (D := D) (ci := 2) (v := .int y) (C := RX2) (T := TX2) (N := 4) hx hb hts hi_X2 hown hK hP 0 rfl rfl 1 (by decide) (hts _ bw_61) (fun _ h9 => h9) rfl dX2_isNearby_14 ?_
    refine lv_sipush (v := 200) hx hb dX2_isNearby_17 (by decide) ?_
    have hPc := hP.sub (ws' := []) [] rfl
    have hDc := hD.sub (ws' := []) [] (by decide) rfl
    have hKc := hK.sub (tys' := []) [] rfl
    have hFc := va_free (wc := []) hD hS hA [] rfl
    refine va_calli (va_runSN (host := RX8) (As := [.int y, .int 200]) (rest := []) ⟨hx, hb, hml, hown, hts⟩ (k_X8_isNear l D H.size y 200 (-200) 200 (by decide) (by decide)) ⟨va_cnB 2 hts (gI bw_350) rfl rfl rfl (hN.2.1 (RX2, 24, yX8_isNear, RX8) (by decide +kernel)) (hts _ bw_223) (by decide +kernel) ⟨(by rw [hR]; exact Nat.le_of_ble_eq_true rfl), (by rw [hR]; exact Nat.le_of_ble_eq_true rfl)⟩, (hts _ bw_351), trivial⟩ ⟨cP_blind, cP_at hPc hKc hDc hN⟩ rfl rfl hl.1 rfl (lv_room (Nat.le_of_ble_eq_true rfl)) dX2_isNearby_20 ⟨(by rw [hR]; exact Nat.le_of_ble_eq_true rfl), (by rw [hR]; exact Nat.le_of_ble_eq_true rfl)⟩) hS (fun q _ h => hFc q h) hFc (fun r_4 u9 t9 H1 locs ht hvm hr_4 hB hz1 hk1 hS => ?_)
    try dsimp only at hr_4
    have hP1 : va_P D vwCl [] H1 := vP_nil
    have hD1 : va_D (va_A [] H.size) [] := vD_nil
    obtain ⟨hP, hD⟩ := va_join (wr := [(h0, .inr (2, [.int x, .int y, .int w, .int h]))]) (w1 := []) hP hD [] [0] rfl rfl (by decide) (by decide) hk1 hFc hP1 hD1
    clear hz1 hk1 hFc hKc hDc hPc
    generalize H1 = H at hP hS ⊢
    have hP : va_P D vwCl [(h0, .inr (2, [.int x, .int y, .int w, .int h]))] H := hP
    have hD : va_D A [(h0, .inr (2, [.int x, .int y, .int w, .int h]))] := hD
    refine lv_if_eq (tgt := 30) hx hb dX2_isNearby_23 (by decide) (fun c_5 => ?_) (fun c_5 => ?_)
    · skip
      have f_6 := bz0 hr_4 c_5
      refine lv_iconst (v := 0) hx hb dX2_isNearby_30 (by decide) ?_
      have hP9 := hP.sub (ws' := [(h0, .inr (2, [.int x, .int y, .int w, .int h]))]) [0] rfl
      have hD9 := hD.sub (ws' := [(h0, .inr (2, [.int x, .int y, .int w, .int h]))]) [0] (by decide) rfl
      have hK9 := hK.sub (tys' := []) [] rfl
      refine hQ _ _ _ _ _ ?_
      exact W.zret (v := 0) hx hb hr rfl (fun t ht hW => ⟨⟨0, (), rfl, (if_neg (by omega)).symm, ⟨by rw [ht]; exact hP9, va_K.moved hW.alike hK9, hD9⟩⟩, hS.F ht⟩) hS.2.2 dX2_isNearby_31
    · skip
      have f_6 := bz1 hr_4 c_5
      refine lv_iconst (v := 1) hx hb dX2_isNearby_26 (by decide) ?_
      refine lv_goto (tgt := 31) hx hb dX2_isNearby_27 (by decide) ?_
      have hP9 := hP.sub (ws' := [(h0, .inr (2, [.int x, .int y, .int w, .int h]))]) [0] rfl
      have hD9 := hD.sub (ws' := [(h0, .inr (2, [.int x, .int y, .int w, .int h]))]) [0] (by decide) rfl
      have hK9 := hK.sub (tys' := []) [] rfl
      refine hQ _ _ _ _ _ ?_
      exact W.zret (v := 1) hx hb hr rfl (fun t ht hW => ⟨⟨1, (), rfl, (if_pos (by omega)).symm, ⟨by rw [ht]; exact hP9, va_K.moved hW.alike hK9, hD9⟩⟩, hS.F ht⟩) hS.2.2 dX2_isNearby_31

set_option maxHeartbeats 4000000 in
set_option maxRecDepth 100000 in
theorem k_X5_become (l : Launch) (D : va_G) (sz : Nat) (h0 d0 : Nat) (w h : Int32) (g : Nat → Int32) (u0 e0 : Nat) (w2 h2 : Int32) (gs : Nat → Int32) (cI : ClassId) : Met l yX5_become (wB yX5_become cX5_become 2 none) ({ frames := 1, cells := 0, slots := 0, locals := 18 }) (cP D [(h0, .inr (5, [.ref d0, .int w, .int h])), (d0, .inl (cI, 4096, .inl g)), (u0, .inr (5, [.ref e0, .int w2, .int h2])), (e0, .inl (cI, 4096, .inl gs))] [(cI, .int)] sz [.ref h0, .ref u0]) (va_Qv (fun (_ : Unit) => True) (fun (_ : Unit) (t : State) => ∃ (g2 : Nat → Int32), (∀ j : Nat, j < 4096 → g2 j = gs j) ∧ cB D (va_A [(h0, .inr (5, [.ref d0, .int w, .int h])), (d0, .inl (cI, 4096, .inl g)), (u0, .inr (5, [.ref e0, .int w2, .int h2])), (e0, .inl (cI, 4096, .inl gs))] sz) [(h0, .inr (5, [.ref d0, .int w2, .int h2])), (d0, .inl (cI, 4096, .inl g2)), (u0, .inr (5, [.ref e0, .int w2, .int h2])), (e0, .inl (cI, 4096, .inl gs))] [(cI, .int)] t) (va_A [(h0, .inr (5, [.ref d0, .int w, .int h])), (d0, .inl (cI, 4096, .inl g)), (u0, .inr (5, [.ref e0, .int w2, .int h2])), (e0, .inl (cI, 4096, .inl gs))] sz)) 0 0 (va_A [(h0, .inr (5, [.ref d0, .int w, .int h])), (d0, .inl (cI, 4096, .inl g)), (u0, .inr (5, [.ref e0, .int w2, .int h2])), (e0, .inl (cI, 4096, .inl gs))] sz) := by
  refine Met.ofW (cc := cX5_become) (maxL := 2) (ret := none) (by decide) rfl ?_
  intro p e s m args below meth c s₁ B hml hv
  obtain ⟨rfl, hsz, hP, hK, hD0, hN⟩ := hv
  have hx := B.exec
  have hb := B.bytes
  have hr := B.returns
  have hts0 := atoms_spec (ws := (wB yX5_become cX5_become 2 none)) B.pre
  have hts : ∀ w ∈ bigW, w.before _ s = true := fun w h => hts0 w (List.mem_cons_of_mem _ h)
  have hown : s.vm.findClass RX5 = some m.cls := findClass_of_methodNamed B.named
  have hlocks := B.notSynchronized
  subst hsz
  have hD := hD0.self (sz := s.heap.size)
  generalize hAe : va_A [(h0, .inr (5, [.ref d0, .int w, .int h])), (d0, .inl (cI, 4096, .inl g)), (u0, .inr (5, [.ref e0, .int w2, .int h2])), (e0, .inl (cI, 4096, .inl gs))] s.heap.size = A at hD ⊢
  have hA : ∀ q : Nat, s.heap.size ≤ q → A q := fun q h => by rw [← hAe]; exact Or.inr h
  have hS : va_S A s.heap s.heap [] := va_S.rf
  have hP : va_P D vwCl [(h0, .inr (5, [.ref d0, .int w, .int h])), (d0, .inl (cI, 4096, .inl g)), (u0, .inr (5, [.ref e0, .int w2, .int h2])), (e0, .inl (cI, 4096, .inl gs))] s.heap := hP
  have hl := lv_entry ([.ref h0, .ref u0]) (n := 2) (Nat.le_of_ble_eq_true rfl)
  rw [lg_entry_eq]
  generalize (lg_sl ([.ref h0, .ref u0]) ++ List.replicate (2 - (lg_sl ([.ref h0, .ref u0])).length) Slot.unset).toArray = ls at hl ⊢
  have hl : lv_has ls 2 [(0, .ref h0), (1, .ref u0)] := hl
  clear hts0 hD0 hAe
  refine my_abs (fun R Q hR hQ => ?_)
  refine lv_aload_n hx hb dX5_become_0 rfl (lv_at hl 0 rfl) ?_
  refine lv_aload_n hx hb dX5_become_1 rfl (lv_at hl 1 rfl) ?_
  refine va_get (D := D) (ci := 5) (v := .int w2) (C := RX5) (T := TX5) (N := 3) hx hb hts hi_X5 hown hK hP 2 rfl rfl 1 (by decide) (hts _ bw_136) (fun _ h9 => h9) rfl dX5_become_2 ?_
  refine va_put (D := D) (ci := 5) (v := .int w2) (ty := .int) (C := RX5) (T := TX5) (N := 3) hx hb hts hi_X5 tyX5 tyX5_ok nmX5 hown hK hP hD hS 0 rfl rfl 1 (by decide) (hts _ bw_136) (fun _ h9 => h9) rfl (by decide +kernel) rfl rfl (Nat.le_of_ble_eq_true rfl) dX5_become_5 (fun H locs hP hD hS => ?_)
  have hP : va_P D vwCl [(h0, .inr (5, [.ref d0, .int w2, .int h])), (d0, .inl (cI, 4096, .inl g)), (u0, .inr (5, [.ref e0, .int w2, .int h2])), (e0, .inl (cI, 4096, .inl gs))] H := hP
  have hD : va_D A [(h0, .inr (5, [.ref d0, .int w2, .int h])), (d0, .inl (cI, 4096, .inl g)), (u0, .inr (5, [.ref e0, .int w2, .int h2])), (e0, .inl (cI, 4096, .inl gs))] := hD
  refine lv_aload_n hx hb dX5_become_8 rfl (lv_at hl 0 rfl) ?_
  refine lv_aload_n hx hb dX5_become_9 rfl (lv_at hl 1 rfl) ?_
  refine va_get (D := D) (ci := 5) (v := .int h2) (C := RX5) (T := TX5) (N := 3) hx hb hts hi_X5 hown hK hP 2 rfl rfl 2 (by decide) (hts _ bw_137) (fun _ h9 => h9) rfl dX5_become_10 ?_
  refine va_put (D := D) (ci := 5) (v := .int h2) (ty := .int) (C := RX5) (T := TX5) (N := 3) hx hb hts hi_X5 tyX5 tyX5_ok nmX5 hown hK hP hD hS 0 rfl rfl 2 (by decide) (hts _ bw_137) (fun _ h9 => h9) rfl (by decide +kernel) rfl rfl (Nat.le_of_ble_eq_true rfl) dX5_become_13 (fun H locs hP hD hS => ?_)
  have hP : va_P D vwCl [(h0, .inr (5, [.ref d0, .int w2, .int h2])), (d0, .inl (cI, 4096, .inl g)), (u0, .inr (5, [.ref e0, .int w2, .int h2])), (e0, .inl (cI, 4096, .inl gs))] H := hP
  have hD : va_D A [(h0, .inr (5, [.ref d0, .int w2, .int h2])), (d0, .inl (cI, 4096, .inl g)), (u0, .inr (5, [.ref e0, .int w2, .int h2])), (e0, .inl (cI, 4096, .inl gs))] := hD
  refine lv_aload_n hx hb dX5_become_16 rfl (lv_at hl 1 rfl) ?_
  refine va_get (D := D) (ci := 5) (v := .ref e0) (C := RX5) (T := TX5) (N := 3) hx hb hts hi_X5 hown hK hP 2 rfl rfl 0 (by decide) (hts _ bw_135) (fun _ h9 => h9) rfl dX5_become_17 ?_
  refine lv_iconst (v := 0) hx hb dX5_become_20 (by decide) ?_
  refine lv_aload_n hx hb dX5_become_21 rfl (lv_at hl 0 rfl) ?_
  refine va_get (D := D) (ci := 5) (v := .ref d0) (C := RX5) (T := TX5) (N := 3) hx hb hts hi_X5 hown hK hP 0 rfl rfl 0 (by decide) (hts _ bw_135) (fun _ h9 => h9) rfl dX5_become_22 ?_
  refine lv_iconst (v := 0) hx hb dX5_become_25 (by decide) ?_
  refine lv_sipush (v := 4096) hx hb dX5_become_26 (by decide) ?_
  refine va_copyi hx hb (by rw [hml]; exact hl.1.symm) hown (hts _ bw_145) (hts _ bw_146) (hts _ bw_147) (hts _ bw_148) hK hP hD hS 3 1 0 0 rfl rfl rfl rfl rfl (by decide) (by decide) (by decide) (by decide) (by decide) (fun _ _ => rfl) (by rw [hR]; exact Nat.le_of_ble_eq_true rfl) (by rw [hR]; exact Nat.le_of_ble_eq_true rfl) dX5_become_29 (fun H locs hP hD hS => ?_)
  have hP : va_P D vwCl [(h0, .inr (5, [.ref d0, .int w2, .int h2])), (d0, .inl (cI, 4096, .inl (va_cpy gs g (0 : Int32).toNatClampNeg (0 : Int32).toNatClampNeg (4096 : Int32).toNatClampNeg))), (u0, .inr (5, [.ref e0, .int w2, .int h2])), (e0, .inl (cI, 4096, .inl gs))] H := hP
  have hD : va_D A [(h0, .inr (5, [.ref d0, .int w2, .int h2])), (d0, .inl (cI, 4096, .inl (va_cpy gs g (0 : Int32).toNatClampNeg (0 : Int32).toNatClampNeg (4096 : Int32).toNatClampNeg))), (u0, .inr (5, [.ref e0, .int w2, .int h2])), (e0, .inl (cI, 4096, .inl gs))] := hD
  have hP9 := hP.sub (ws' := [(h0, .inr (5, [.ref d0, .int w2, .int h2])), (d0, .inl (cI, 4096, .inl (va_cpy gs g (0 : Int32).toNatClampNeg (0 : Int32).toNatClampNeg (4096 : Int32).toNatClampNeg))), (u0, .inr (5, [.ref e0, .int w2, .int h2])), (e0, .inl (cI, 4096, .inl gs))]) [0, 1, 2, 3] rfl
  have hD9 := hD.sub (ws' := [(h0, .inr (5, [.ref d0, .int w2, .int h2])), (d0, .inl (cI, 4096, .inl (va_cpy gs g (0 : Int32).toNatClampNeg (0 : Int32).toNatClampNeg (4096 : Int32).toNatClampNeg))), (u0, .inr (5, [.ref e0, .int w2, .int h2])), (e0, .inl (cI, 4096, .inl gs))]) [0, 1, 2, 3] (by decide) rfl
  have hK9 := hK.sub (tys' := [(cI, .int)]) [0] rfl
  refine hQ _ _ _ _ _ ?_
  exact W.vret hx hb hr (fun t ht hW => ⟨⟨(), rfl, trivial, ⟨(va_cpy gs g (0 : Int32).toNatClampNeg (0 : Int32).toNatClampNeg (4096 : Int32).toNatClampNeg), (fun j hj => cpy_all hj), by rw [ht]; exact hP9, va_K.moved hW.alike hK9, hD9⟩⟩, hS.F ht⟩) hS.2.2 dX5_become_32

set_option maxHeartbeats 4000000 in
set_option maxRecDepth 100000 in
theorem k_X8_likenessOf_1 (l : Launch) (D : va_G) (sz : Nat) (h0 s1 s2 s3 s4 s5 s6 : Nat) (ds : Int32) (sp : Option Nat) (bq bd : Nat) (bw bh : Int32) (gb : Nat → Int32) (u0 e0 : Nat) (w2 h2 : Int32) (gs : Nat → Int32) (cI : ClassId) : Met l yX8_likenessOf (wB yX8_likenessOf cX8_likenessOf 2 (some (.object "DotBench$Sheet"))) ({ frames := 2, cells := 0, slots := 0, locals := 39 }) (cP D [(h0, .inr (8, [.ref s1, .ref s2, .ref s3, .ref s4, .ref s5, .ref s6, .int ds, va_rf sp, .ref bq])), (bq, .inr (5, [.ref bd, .int bw, .int bh])), (bd, .inl (cI, 4096, .inl gb)), (u0, .inr (5, [.ref e0, .int w2, .int h2])), (e0, .inl (cI, 4096, .inl gs))] [(cI, .int)] sz [.ref h0, .ref u0]) (va_Qq (fun (r : Option Nat) (_ : Unit) => r = some bq) (fun (_ : Unit) (t : State) => ∃ (g2 : Nat → Int32), (∀ j : Nat, j < 4096 → g2 j = gs j) ∧ cB D (va_A [(h0, .inr (8, [.ref s1, .ref s2, .ref s3, .ref s4, .ref s5, .ref s6, .int ds, va_rf sp, .ref bq])), (bq, .inr (5, [.ref bd, .int bw, .int bh])), (bd, .inl (cI, 4096, .inl gb)), (u0, .inr (5, [.ref e0, .int w2, .int h2])), (e0, .inl (cI, 4096, .inl gs))] sz) [(h0, .inr (8, [.ref s1, .ref s2, .ref s3, .ref s4, .ref s5, .ref s6, .int ds, va_rf sp, .ref bq])), (bq, .inr (5, [.ref bd, .int w2, .int h2])), (bd, .inl (cI, 4096, .inl g2)), (u0, .inr (5, [.ref e0, .int w2, .int h2])), (e0, .inl (cI, 4096, .inl gs))] [(cI, .int)] t) (va_A [(h0, .inr (8, [.ref s1, .ref s2, .ref s3, .ref s4, .ref s5, .ref s6, .int ds, va_rf sp, .ref bq])), (bq, .inr (5, [.ref bd, .int bw, .int bh])), (bd, .inl (cI, 4096, .inl gb)), (u0, .inr (5, [.ref e0, .int w2, .int h2])), (e0, .inl (cI, 4096, .inl gs))] sz)) 0 0 (va_A [(h0, .inr (8, [.ref s1, .ref s2, .ref s3, .ref s4, .ref s5, .ref s6, .int ds, va_rf sp, .ref bq])), (bq, .inr (5, [.ref bd, .int bw, .int bh])), (bd, .inl (cI, 4096, .inl gb)), (u0, .inr (5, [.ref e0, .int w2, .int h2])), (e0, .inl (cI, 4096, .inl gs))] sz) := by
  refine Met.ofW (cc := cX8_likenessOf) (maxL := 2) (ret := (some (.object "DotBench$Sheet"))) (by decide) rfl ?_
  intro p e s m args below meth c s₁ B hml hv
  obtain ⟨rfl, hsz, hP, hK, hD0, hN⟩ := hv
  have hx := B.exec
  have hb := B.bytes
  have hr := B.returns
  have hts0 := atoms_spec (ws := (wB yX8_likenessOf cX8_likenessOf 2 (some (.object "DotBench$Sheet")))) B.pre
  have hts : ∀ w ∈ bigW, w.before _ s = true := fun w h => hts0 w (List.mem_cons_of_mem _ h)
  have hown : s.vm.findClass RX8 = some m.cls := findClass_of_methodNamed B.named
  have hlocks := B.notSynchronized
  subst hsz
  have hD := hD0.self (sz := s.heap.size)
  generalize hAe : va_A [(h0, .inr (8, [.ref s1, .ref s2, .ref s3, .ref s4, .ref s5, .ref s6, .int ds, va_rf sp, .ref bq])), (bq, .inr (5, [.ref bd, .int bw, .int bh])), (bd, .inl (cI, 4096, .inl gb)), (u0, .inr (5, [.ref e0, .int w2, .int h2])), (e0, .inl (cI, 4096, .inl gs))] s.heap.size = A at hD ⊢
  have hA : ∀ q : Nat, s.heap.size ≤ q → A q := fun q h => by rw [← hAe]; exact Or.inr h
  have hS : va_S A s.heap s.heap [] := va_S.rf
  have hP : va_P D vwCl [(h0, .inr (8, [.ref s1, .ref s2, .ref s3, .ref s4, .ref s5, .ref s6, .int ds, va_rf sp, .ref bq])), (bq, .inr (5, [.ref bd, .int bw, .int bh])), (bd, .inl (cI, 4096, .inl gb)), (u0, .inr (5, [.ref e0, .int w2, .int h2])), (e0, .inl (cI, 4096, .inl gs))] s.heap := hP
  have hl := lv_entry ([.ref h0, .ref u0]) (n := 2) (Nat.le_of_ble_eq_true rfl)
  rw [lg_entry_eq]
  generalize (lg_sl ([.ref h0, .ref u0]) ++ List.replicate (2 - (lg_sl ([.ref h0, .ref u0])).length) Slot.unset).toArray = ls at hl ⊢
  have hl : lv_has ls 2 [(0, .ref h0), (1, .ref u0)] := hl
  clear hts0 hD0 hAe
  refine my_abs (fun R Q hR hQ => ?_)
  refine lv_aload_n hx hb dX8_likenessOf_0 rfl (lv_at hl 0 rfl) ?_
  refine va_get (D := D) (ci := 8) (v := .ref bq) (C := RX8) (T := TX8) (N := 9) hx hb hts hi_X8 hown hK hP 0 rfl rfl 8 (by decide) (hts _ bw_243) (fun _ h9 => h9) rfl dX8_likenessOf_1 ?_
  refine lv_ifnonnull (tgt := 18) hx hb dX8_likenessOf_4 (by decide) ?_
  refine lv_aload_n hx hb dX8_likenessOf_18 rfl (lv_at hl 0 rfl) ?_
  refine va_get (D := D) (ci := 8) (v := .ref bq) (C := RX8) (T := TX8) (N := 9) hx hb hts hi_X8 hown hK hP 0 rfl rfl 8 (by decide) (hts _ bw_243) (fun _ h9 => h9) rfl dX8_likenessOf_19 ?_
  refine lv_aload_n hx hb dX8_likenessOf_22 rfl (lv_at hl 1 rfl) ?_
  have hPc := hP.sub (ws' := [(bq, .inr (5, [.ref bd, .int bw, .int bh])), (bd, .inl (cI, 4096, .inl gb)), (u0, .inr (5, [.ref e0, .int w2, .int h2])), (e0, .inl (cI, 4096, .inl gs))]) [1, 2, 3, 4] rfl
  have hDc := hD.sub (ws' := [(bq, .inr (5, [.ref bd, .int bw, .int bh])), (bd, .inl (cI, 4096, .inl gb)), (u0, .inr (5, [.ref e0, .int w2, .int h2])), (e0, .inl (cI, 4096, .inl gs))]) [1, 2, 3, 4] (by decide) rfl
  have hKc := hK.sub (tys' := [(cI, .int)]) [0] rfl
  have hFc := va_free (wc := [(bq, .inr (5, [.ref bd, .int bw, .int bh])), (bd, .inl (cI, 4096, .inl gb)), (u0, .inr (5, [.ref e0, .int w2, .int h2])), (e0, .inl (cI, 4096, .inl gs))]) hD hS hA [1, 2, 3, 4] rfl
  refine va_callv (va_runV (As := [.ref u0]) (rest := []) ⟨hx, hb, hml, hown, hts⟩ (k_X5_become l D s.heap.size bq bd bw bh gb u0 e0 w2 h2 gs cI) (cwV 1 hts (gV bw_390 bw_143 bw_144 bw_130 bw_142) rfl rfl rfl (by decide +kernel) ⟨(by rw [hR]; exact Nat.le_of_ble_eq_true rfl), (by rw [hR]; exact Nat.le_of_ble_eq_true rfl)⟩) ⟨cP_blind, va_recv hKc hPc (ci := 5) (q0 := 0) rfl rfl, cP_at hPc hKc hDc hN⟩ rfl rfl hl.1 rfl (lv_room (Nat.le_of_ble_eq_true rfl)) dX8_likenessOf_23 ⟨(by rw [hR]; exact Nat.le_of_ble_eq_true rfl), (by rw [hR]; exact Nat.le_of_ble_eq_true rfl)⟩) hS (fun q _ h => hFc q h) hFc (fun u9 t9 H1 locs ht hvm hr_1 hB hz1 hk1 hS => ?_)
  try dsimp only at hr_1
  obtain ⟨g_2, b_3, hP1, hK1, hD1⟩ := hB
  rw [ht] at hP1
  obtain ⟨hP, hD⟩ := va_join (wr := [(h0, .inr (8, [.ref s1, .ref s2, .ref s3, .ref s4, .ref s5, .ref s6, .int ds, va_rf sp, .ref bq]))]) (w1 := [(bq, .inr (5, [.ref bd, .int w2, .int h2])), (bd, .inl (cI, 4096, .inl g_2)), (u0, .inr (5, [.ref e0, .int w2, .int h2])), (e0, .inl (cI, 4096, .inl gs))]) hP hD [1, 2, 3, 4] [0] rfl rfl (by decide) (by decide) hk1 hFc hP1 hD1
  clear hz1 hk1 hFc hKc hDc hPc
  generalize H1 = H at hP hS ⊢
  have hP : va_P D vwCl [(h0, .inr (8, [.ref s1, .ref s2, .ref s3, .ref s4, .ref s5, .ref s6, .int ds, va_rf sp, .ref bq])), (bq, .inr (5, [.ref bd, .int w2, .int h2])), (bd, .inl (cI, 4096, .inl g_2)), (u0, .inr (5, [.ref e0, .int w2, .int h2])), (e0, .inl (cI, 4096, .inl gs))] H := hP
  have hD : va_D A [(h0, .inr (8, [.ref s1, .ref s2, .ref s3, .ref s4, .ref s5, .ref s6, .int ds, va_rf sp, .ref bq])), (bq, .inr (5, [.ref bd, .int w2, .int h2])), (bd, .inl (cI, 4096, .inl g_2)), (u0, .inr (5, [.ref e0, .int w2, .int h2])), (e0, .inl (cI, 4096, .inl gs))] := hD
  refine lv_aload_n hx hb dX8_likenessOf_26 rfl (lv_at hl 0 rfl) ?_
  refine va_get (D := D) (ci := 8) (v := .ref bq) (C := RX8) (T := TX8) (N := 9) hx hb hts hi_X8 hown hK hP 0 rfl rfl 8 (by decide) (hts _ bw_243) (fun _ h9 => h9) rfl dX8_likenessOf_27 ?_
  have hP9 := hP.sub (ws' := [(h0, .inr (8, [.ref s1, .ref s2, .ref s3, .ref s4, .ref s5, .ref s6, .int ds, va_rf sp, .ref bq])), (bq, .inr (5, [.ref bd, .int w2, .int h2])), (bd, .inl (cI, 4096, .inl g_2)), (u0, .inr (5, [.ref e0, .int w2, .int h2])), (e0, .inl (cI, 4096, .inl gs))]) [0, 1, 2, 3, 4] rfl
  have hD9 := hD.sub (ws' := [(h0, .inr (8, [.ref s1, .ref s2, .ref s3, .ref s4, .ref s5, .ref s6, .int ds, va_rf sp, .ref bq])), (bq, .inr (5, [.ref bd, .int w2, .int h2])), (bd, .inl (cI, 4096, .inl g_2)), (u0, .inr (5, [.ref e0, .int w2, .int h2])), (e0, .inl (cI, 4096, .inl gs))]) [0, 1, 2, 3, 4] (by decide) rfl
  have hK9 := hK.sub (tys' := [(cI, .int)]) [0] rfl
  refine hQ _ _ _ _ _ ?_
  exact W.aret hx hb hr (Or.inl ⟨_, rfl⟩) (Or.inr ⟨_, rfl⟩) (fun t ht hW => ⟨⟨(some bq), (), rfl, rfl, ⟨g_2, b_3, by rw [ht]; exact hP9, va_K.moved hW.alike hK9, hD9⟩⟩, hS.F ht⟩) hS.2.2 dX8_likenessOf_30

set_option maxHeartbeats 4000000 in
set_option maxRecDepth 100000 in
theorem k_X8_likenessOf_0 (l : Launch) (D : va_G) (sz : Nat) (h0 s1 s2 s3 s4 s5 s6 : Nat) (ds : Int32) (sp : Option Nat) (u0 e0 : Nat) (w2 h2 : Int32) (gs : Nat → Int32) (cI : ClassId) : Met l yX8_likenessOf (wB yX8_likenessOf cX8_likenessOf 2 (some (.object "DotBench$Sheet"))) ({ frames := 2, cells := 2, slots := 4099, locals := 39 }) (cP D [(h0, .inr (8, [.ref s1, .ref s2, .ref s3, .ref s4, .ref s5, .ref s6, .int ds, va_rf sp, .null])), (u0, .inr (5, [.ref e0, .int w2, .int h2])), (e0, .inl (cI, 4096, .inl gs))] [(cI, .int)] sz [.ref h0, .ref u0]) (va_Qq (fun (r : Option Nat) (bq : Nat) => r = some bq) (fun (bq : Nat) (t : State) => ∃ (bd : Nat), ∃ (g2 : Nat → Int32), (∀ j : Nat, j < 4096 → g2 j = gs j) ∧ cB D (va_A [(h0, .inr (8, [.ref s1, .ref s2, .ref s3, .ref s4, .ref s5, .ref s6, .int ds, va_rf sp, .null])), (u0, .inr (5, [.ref e0, .int w2, .int h2])), (e0, .inl (cI, 4096, .inl gs))] sz) [(h0, .inr (8, [.ref s1, .ref s2, .ref s3, .ref s4, .ref s5, .ref s6, .int ds, va_rf sp, .ref bq])), (bq, .inr (5, [.ref bd, .int w2, .int h2])), (bd, .inl (cI, 4096, .inl g2)), (u0, .inr (5, [.ref e0, .int w2, .int h2])), (e0, .inl (cI, 4096, .inl gs))] [(cI, .int)] t) (va_A [(h0, .inr (8, [.ref s1, .ref s2, .ref s3, .ref s4, .ref s5, .ref s6, .int ds, va_rf sp, .null])), (u0, .inr (5, [.ref e0, .int w2, .int h2])), (e0, .inl (cI, 4096, .inl gs))] sz)) 2 4099 (va_A [(h0, .inr (8, [.ref s1, .ref s2, .ref s3, .ref s4, .ref s5, .ref s6, .int ds, va_rf sp, .null])), (u0, .inr (5, [.ref e0, .int w2, .int h2])), (e0, .inl (cI, 4096, .inl gs))] sz) := by
  refine Met.ofW (cc := cX8_likenessOf) (maxL := 2) (ret := (some (.object "DotBench$Sheet"))) (by decide) rfl ?_
  intro p e s m args below meth c s₁ B hml hv
  obtain ⟨rfl, hsz, hP, hK, hD0, hN⟩ := hv
  have hx := B.exec
  have hb := B.bytes
  have hr := B.returns
  have hts0 := atoms_spec (ws := (wB yX8_likenessOf cX8_likenessOf 2 (some (.object "DotBench$Sheet")))) B.pre
  have hts : ∀ w ∈ bigW, w.before _ s = true := fun w h => hts0 w (List.mem_cons_of_mem _ h)
  have hown : s.vm.findClass RX8 = some m.cls := findClass_of_methodNamed B.named
  have hlocks := B.notSynchronized
  subst hsz
  have hD := hD0.self (sz := s.heap.size)
  generalize hAe : va_A [(h0, .inr (8, [.ref s1, .ref s2, .ref s3, .ref s4, .ref s5, .ref s6, .int ds, va_rf sp, .null])), (u0, .inr (5, [.ref e0, .int w2, .int h2])), (e0, .inl (cI, 4096, .inl gs))] s.heap.size = A at hD ⊢
  have hA : ∀ q : Nat, s.heap.size ≤ q → A q := fun q h => by rw [← hAe]; exact Or.inr h
  have hS : va_S A s.heap s.heap [] := va_S.rf
  have hP : va_P D vwCl [(h0, .inr (8, [.ref s1, .ref s2, .ref s3, .ref s4, .ref s5, .ref s6, .int ds, va_rf sp, .null])), (u0, .inr (5, [.ref e0, .int w2, .int h2])), (e0, .inl (cI, 4096, .inl gs))] s.heap := hP
  have hl := lv_entry ([.ref h0, .ref u0]) (n := 2) (Nat.le_of_ble_eq_true rfl)
  rw [lg_entry_eq]
  generalize (lg_sl ([.ref h0, .ref u0]) ++ List.replicate (2 - (lg_sl ([.ref h0, .ref u0])).length) Slot.unset).toArray = ls at hl ⊢
  have hl : lv_has ls 2 [(0, .ref h0), (1, .ref u0)] := hl
  clear hts0 hD0 hAe
  refine my_abs (fun R Q hR hQ => ?_)
  refine lv_aload_n hx hb dX8_likenessOf_0 rfl (lv_at hl 0 rfl) ?_
  refine va_get (D := D) (ci := 8) (v := .null) (C := RX8) (T := TX8) (N := 9) hx hb hts hi_X8 hown hK hP 0 rfl rfl 8 (by decide) (hts _ bw_243) (fun _ h9 => h9) rfl dX8_likenessOf_1 ?_
  refine lv_ifnonnullN hx hb dX8_likenessOf_4 ?_
  refine lv_aload_n hx hb dX8_likenessOf_7 rfl (lv_at hl 0 rfl) ?_
  refine va_new (ci := 5) (fs := [.null, .int 0, .int 0]) (C := RX5) (T := TX5) (N := 3) hx hb hts hi_X5 tyX5 tyX5_ok hown (hts _ bw_228) (hts _ bw_131) (hts _ bw_130) hK hP hD hS hA rfl z_X5 (by rw [hR]; exact Nat.le_of_ble_eq_true rfl) (by rw [hR]; exact Nat.le_of_ble_eq_true rfl) dX8_likenessOf_8 (fun q_1 H hP hD hS => ?_)
  have hP : va_P D vwCl [(h0, .inr (8, [.ref s1, .ref s2, .ref s3, .ref s4, .ref s5, .ref s6, .int ds, va_rf sp, .null])), (u0, .inr (5, [.ref e0, .int w2, .int h2])), (e0, .inl (cI, 4096, .inl gs)), (q_1, .inr (5, [.null, .int 0, .int 0]))] H := hP
  have hD : va_D A [(h0, .inr (8, [.ref s1, .ref s2, .ref s3, .ref s4, .ref s5, .ref s6, .int ds, va_rf sp, .null])), (u0, .inr (5, [.ref e0, .int w2, .int h2])), (e0, .inl (cI, 4096, .inl gs)), (q_1, .inr (5, [.null, .int 0, .int 0]))] := hD
  refine W.widen (k := 1) (n := 3) (by omega) (by omega) ?_
  refine lv_dup hx hb dX8_likenessOf_11 rfl ?_
  have hPc := hP.sub (ws' := [(q_1, .inr (5, [.null, .int 0, .int 0]))]) [3] rfl
  have hDc := hD.sub (ws' := [(q_1, .inr (5, [.null, .int 0, .int 0]))]) [3] (by decide) rfl
  have hKc := hK.sub (tys' := [(cI, .int)]) [0] rfl
  have hFc := va_free (wc := [(q_1, .inr (5, [.null, .int 0, .int 0]))]) hD hS hA [3] rfl
  refine va_callv (va_runIN (host := RX8) (As := []) (rest := [.ref q_1, .ref h0]) ⟨hx, hb, hml, hown, hts⟩ (k_X5_init l D H.size q_1 cI) ⟨va_cnB 0 hts (gI bw_132) rfl rfl rfl (hN.2.1 (RX8, 67, yX5_init, RX8) (by decide +kernel)) (hts _ bw_130) (by decide +kernel) ⟨(by rw [hR]; exact Nat.le_of_ble_eq_true rfl), (by rw [hR]; exact Nat.le_of_ble_eq_true rfl)⟩, rfl, (hts _ bw_133)⟩ ⟨cP_blind, cP_at hPc hKc hDc hN⟩ rfl rfl hl.1 rfl (lv_room (Nat.le_of_ble_eq_true rfl)) dX8_likenessOf_12 ⟨(by rw [hR]; exact Nat.le_of_ble_eq_true rfl), (by rw [hR]; exact Nat.le_of_ble_eq_true rfl)⟩) hS (fun q _ h => hFc q h) hFc (fun u9 t9 H1 locs ht hvm hr_2 hB hz1 hk1 hS => ?_)
  try dsimp only at hr_2
  obtain ⟨q_3, hP1, hK1, hD1⟩ := hB
  rw [ht] at hP1
  obtain ⟨hP, hD⟩ := va_join (wr := [(h0, .inr (8, [.ref s1, .ref s2, .ref s3, .ref s4, .ref s5, .ref s6, .int ds, va_rf sp, .null])), (u0, .inr (5, [.ref e0, .int w2, .int h2])), (e0, .inl (cI, 4096, .inl gs))]) (w1 := [(q_1, .inr (5, [.ref q_3, .int 0, .int 0])), (q_3, .inl (cI, 4096, .inl (fun _ => 0)))]) hP hD [3] [0, 1, 2] rfl rfl (by decide) (by decide) hk1 hFc hP1 hD1
  clear hz1 hk1 hFc hKc hDc hPc
  generalize H1 = H at hP hS ⊢
  have hP : va_P D vwCl [(h0, .inr (8, [.ref s1, .ref s2, .ref s3, .ref s4, .ref s5, .ref s6, .int ds, va_rf sp, .null])), (u0, .inr (5, [.ref e0, .int w2, .int h2])), (e0, .inl (cI, 4096, .inl gs)), (q_1, .inr (5, [.ref q_3, .int 0, .int 0])), (q_3, .inl (cI, 4096, .inl (fun _ => 0)))] H := hP
  have hD : va_D A [(h0, .inr (8, [.ref s1, .ref s2, .ref s3, .ref s4, .ref s5, .ref s6, .int ds, va_rf sp, .null])), (u0, .inr (5, [.ref e0, .int w2, .int h2])), (e0, .inl (cI, 4096, .inl gs)), (q_1, .inr (5, [.ref q_3, .int 0, .int 0])), (q_3, .inl (cI, 4096, .inl (fun _ => 0)))] := hD
  refine W.widen (k := 2) (n := 4099) (by omega) (by omega) ?_
  refine va_put (D := D) (ci := 8) (v := .ref q_1) (ty := (.object "DotBench$Sheet")) (C := RX8) (T := TX8) (N := 9) hx hb hts hi_X8 tyX8 tyX8_ok nmX8 hown hK hP hD hS 0 rfl rfl 8 (by decide) (hts _ bw_243) (fun _ h9 => h9) rfl (by decide +kernel) rfl rfl (Nat.le_of_ble_eq_true rfl) dX8_likenessOf_15 (fun H locs hP hD hS => ?_)
  have hP : va_P D vwCl [(h0, .inr (8, [.ref s1, .ref s2, .ref s3, .ref s4, .ref s5, .ref s6, .int ds, va_rf sp, .ref q_1])), (u0, .inr (5, [.ref e0, .int w2, .int h2])), (e0, .inl (cI, 4096, .inl gs)), (q_1, .inr (5, [.ref q_3, .int 0, .int 0])), (q_3, .inl (cI, 4096, .inl (fun _ => 0)))] H := hP
  have hD : va_D A [(h0, .inr (8, [.ref s1, .ref s2, .ref s3, .ref s4, .ref s5, .ref s6, .int ds, va_rf sp, .ref q_1])), (u0, .inr (5, [.ref e0, .int w2, .int h2])), (e0, .inl (cI, 4096, .inl gs)), (q_1, .inr (5, [.ref q_3, .int 0, .int 0])), (q_3, .inl (cI, 4096, .inl (fun _ => 0)))] := hD
  refine lv_aload_n hx hb dX8_likenessOf_18 rfl (lv_at hl 0 rfl) ?_
  refine va_get (D := D) (ci := 8) (v := .ref q_1) (C := RX8) (T := TX8) (N := 9) hx hb hts hi_X8 hown hK hP 0 rfl rfl 8 (by decide) (hts _ bw_243) (fun _ h9 => h9) rfl dX8_likenessOf_19 ?_
  refine lv_aload_n hx hb dX8_likenessOf_22 rfl (lv_at hl 1 rfl) ?_
  have hPc := hP.sub (ws' := [(q_1, .inr (5, [.ref q_3, .int 0, .int 0])), (q_3, .inl (cI, 4096, .inl (fun _ => 0))), (u0, .inr (5, [.ref e0, .int w2, .int h2])), (e0, .inl (cI, 4096, .inl gs))]) [3, 4, 1, 2] rfl
  have hDc := hD.sub (ws' := [(q_1, .inr (5, [.ref q_3, .int 0, .int 0])), (q_3, .inl (cI, 4096, .inl (fun _ => 0))), (u0, .inr (5, [.ref e0, .int w2, .int h2])), (e0, .inl (cI, 4096, .inl gs))]) [3, 4, 1, 2] (by decide) rfl
  have hKc := hK.sub (tys' := [(cI, .int)]) [0] rfl
  have hFc := va_free (wc := [(q_1, .inr (5, [.ref q_3, .int 0, .int 0])), (q_3, .inl (cI, 4096, .inl (fun _ => 0))), (u0, .inr (5, [.ref e0, .int w2, .int h2])), (e0, .inl (cI, 4096, .inl gs))]) hD hS hA [3, 4, 1, 2] rfl
  refine va_callv (va_runV (As := [.ref u0]) (rest := []) ⟨hx, hb, hml, hown, hts⟩ (k_X5_become l D H.size q_1 q_3 0 0 (fun _ => 0) u0 e0 w2 h2 gs cI) (cwV 1 hts (gV bw_390 bw_143 bw_144 bw_130 bw_142) rfl rfl rfl (by decide +kernel) ⟨(by rw [hR]; exact Nat.le_of_ble_eq_true rfl), (by rw [hR]; exact Nat.le_of_ble_eq_true rfl)⟩) ⟨cP_blind, va_recv hKc hPc (ci := 5) (q0 := 0) rfl rfl, cP_at hPc hKc hDc hN⟩ rfl rfl hl.1 rfl (lv_room (Nat.le_of_ble_eq_true rfl)) dX8_likenessOf_23 ⟨(by rw [hR]; exact Nat.le_of_ble_eq_true rfl), (by rw [hR]; exact Nat.le_of_ble_eq_true rfl)⟩) hS (fun q _ h => hFc q h) hFc (fun u9 t9 H1 locs ht hvm hr_4 hB hz1 hk1 hS => ?_)
  try dsimp only at hr_4
  obtain ⟨g_5, b_6, hP1, hK1, hD1⟩ := hB
  rw [ht] at hP1
  obtain ⟨hP, hD⟩ := va_join (wr := [(h0, .inr (8, [.ref s1, .ref s2, .ref s3, .ref s4, .ref s5, .ref s6, .int ds, va_rf sp, .ref q_1]))]) (w1 := [(q_1, .inr (5, [.ref q_3, .int w2, .int h2])), (q_3, .inl (cI, 4096, .inl g_5)), (u0, .inr (5, [.ref e0, .int w2, .int h2])), (e0, .inl (cI, 4096, .inl gs))]) hP hD [3, 4, 1, 2] [0] rfl rfl (by decide) (by decide) hk1 hFc hP1 hD1
  clear hz1 hk1 hFc hKc hDc hPc
  generalize H1 = H at hP hS ⊢
  have hP : va_P D vwCl [(h0, .inr (8, [.ref s1, .ref s2, .ref s3, .ref s4, .ref s5, .ref s6, .int ds, va_rf sp, .ref q_1])), (q_1, .inr (5, [.ref q_3, .int w2, .int h2])), (q_3, .inl (cI, 4096, .inl g_5)), (u0, .inr (5, [.ref e0, .int w2, .int h2])), (e0, .inl (cI, 4096, .inl gs))] H := hP
  have hD : va_D A [(h0, .inr (8, [.ref s1, .ref s2, .ref s3, .ref s4, .ref s5, .ref s6, .int ds, va_rf sp, .ref q_1])), (q_1, .inr (5, [.ref q_3, .int w2, .int h2])), (q_3, .inl (cI, 4096, .inl g_5)), (u0, .inr (5, [.ref e0, .int w2, .int h2])), (e0, .inl (cI, 4096, .inl gs))] := hD
  refine lv_aload_n hx hb dX8_likenessOf_26 rfl (lv_at hl 0 rfl) ?_
  refine va_get (D := D) (ci := 8) (v := .ref q_1) (C := RX8) (T := TX8) (N := 9) hx hb hts hi_X8 hown hK hP 0 rfl rfl 8 (by decide) (hts _ bw_243) (fun _ h9 => h9) rfl dX8_likenessOf_27 ?_
  have hP9 := hP.sub (ws' := [(h0, .inr (8, [.ref s1, .ref s2, .ref s3, .ref s4, .ref s5, .ref s6, .int ds, va_rf sp, .ref q_1])), (q_1, .inr (5, [.ref q_3, .int w2, .int h2])), (q_3, .inl (cI, 4096, .inl g_5)), (u0, .inr (5, [.ref e0, .int w2, .int h2])), (e0, .inl (cI, 4096, .inl gs))]) [0, 1, 2, 3, 4] rfl
  have hD9 := hD.sub (ws' := [(h0, .inr (8, [.ref s1, .ref s2, .ref s3, .ref s4, .ref s5, .ref s6, .int ds, va_rf sp, .ref q_1])), (q_1, .inr (5, [.ref q_3, .int w2, .int h2])), (q_3, .inl (cI, 4096, .inl g_5)), (u0, .inr (5, [.ref e0, .int w2, .int h2])), (e0, .inl (cI, 4096, .inl gs))]) [0, 1, 2, 3, 4] (by decide) rfl
  have hK9 := hK.sub (tys' := [(cI, .int)]) [0] rfl
  refine hQ _ _ _ _ _ ?_
  exact W.aret hx hb hr (Or.inl ⟨_, rfl⟩) (Or.inr ⟨_, rfl⟩) (fun t ht hW => ⟨⟨(some q_1), q_1, rfl, rfl, ⟨q_3, g_5, b_6, by rw [ht]; exact hP9, va_K.moved hW.alike hK9, hD9⟩⟩, hS.F ht⟩) hS.2.2 dX8_likenessOf_30
