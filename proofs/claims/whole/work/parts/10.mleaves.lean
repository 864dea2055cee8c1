set_option maxHeartbeats 4000000 in
set_option maxRecDepth 100000 in
theorem k_X9_channel_0 (l : Launch) (D : va_G) (sz : Nat) (v : Int32) : Met l yX9_channel (wB yX9_channel cX9_channel 2 (some .int)) ({ frames := 0, cells := 0, slots := 0, locals := 0 }) (cP D [] [] sz [.int v, .int 0]) (va_Qi (fun (r : Int32) (_ : Unit) => r = chS v 24) (fun (_ : Unit) (_ : State) => True) (va_A [] sz)) 0 0 (va_A [] sz) := by
  refine Met.ofW (cc := cX9_channel) (maxL := 2) (ret := (some .int)) (by decide) rfl ?_
  intro p e s m args below meth c s₁ B hml hv
  obtain ⟨rfl, hsz, hP, hK, hD0, hN⟩ := hv
  have hx := B.exec
  have hb := B.bytes
  have hr := B.returns
  have hts0 := atoms_spec (ws := (wB yX9_channel cX9_channel 2 (some .int))) B.pre
  have hts : ∀ w ∈ bigW, w.before _ s = true := fun w h => hts0 w (List.mem_cons_of_mem _ h)
  have hown : s.vm.findClass RX9 = some m.cls := findClass_of_methodNamed B.named
  have hlocks := B.notSynchronized
  subst hsz
  have hD := hD0.self (sz := s.heap.size)
  generalize hAe : va_A [] s.heap.size = A at hD ⊢
  have hA : ∀ q : Nat, s.heap.size ≤ q → A q := fun q h => by rw [← hAe]; exact Or.inr h
  have hS : va_S A s.heap s.heap [] := va_S.rf
  have hP : va_P D vwCl [] s.heap := hP
  have hl := lv_entry ([.int v, .int 0]) (n := 2) (Nat.le_of_ble_eq_true rfl)
  rw [lg_entry_eq]
  generalize (lg_sl ([.int v, .int 0]) ++ List.replicate (2 - (lg_sl ([.int v, .int 0])).length) Slot.unset).toArray = ls at hl ⊢
  have hl : lv_has ls 2 [(0, .int v), (1, .int 0)] := hl
  clear hts0 hD0 hAe
  refine my_abs (fun R Q hR hQ => ?_)
  refine lv_iload_n hx hb dX9_channel_0 rfl (lv_at hl 0 rfl) ?_
  refine lv_bipush (v := 24) hx hb dX9_channel_1 (by decide) ?_
  refine lv_bipush (v := 8) hx hb dX9_channel_3 (by decide) ?_
  refine lv_iload_n hx hb dX9_channel_5 rfl (lv_at hl 1 rfl) ?_
  refine lv_imul hx hb dX9_channel_6 ?_
  refine my_fold (v := 0) (by decide) ?_
  refine lv_isub hx hb dX9_channel_7 ?_
  refine my_fold (v := 24) (by decide) ?_
  refine lv_ishr hx hb dX9_channel_8 ?_
  refine lv_topi (fun y_1 ey_1 => ?_)
  refine lv_sipush (v := 255) hx hb dX9_channel_9 (by decide) ?_
  refine lv_iand hx hb dX9_channel_12 ?_
  refine lv_topi (fun y_2 ey_2 => ?_)
  refine hQ _ _ _ _ _ ?_
  exact W.iret (v := y_2) hx hb hr (fun t ht hW => ⟨⟨y_2, (), rfl, (by subst_vars; exact chM24 v), trivial⟩, hS.F ht⟩) hS.2.2 dX9_channel_13

set_option maxHeartbeats 4000000 in
set_option maxRecDepth 100000 in
theorem k_X9_channel_1 (l : Launch) (D : va_G) (sz : Nat) (v : Int32) : Met l yX9_channel (wB yX9_channel cX9_channel 2 (some .int)) ({ frames := 0, cells := 0, slots := 0, locals := 0 }) (cP D [] [] sz [.int v, .int 1]) (va_Qi (fun (r : Int32) (_ : Unit) => r = chS v 16) (fun (_ : Unit) (_ : State) => True) (va_A [] sz)) 0 0 (va_A [] sz) := by
  refine Met.ofW (cc := cX9_channel) (maxL := 2) (ret := (some .int)) (by decide) rfl ?_
  intro p e s m args below meth c s₁ B hml hv
  obtain ⟨rfl, hsz, hP, hK, hD0, hN⟩ := hv
  have hx := B.exec
  have hb := B.bytes
  have hr := B.returns
  have hts0 := atoms_spec (ws := (wB yX9_channel cX9_channel 2 (some .int))) B.pre
  have hts : ∀ w ∈ bigW, w.before _ s = true := fun w h => hts0 w (List.mem_cons_of_mem _ h)
  have hown : s.vm.findClass RX9 = some m.cls := findClass_of_methodNamed B.named
  have hlocks := B.notSynchronized
  subst hsz
  have hD := hD0.self (sz := s.heap.size)
  generalize hAe : va_A [] s.heap.size = A at hD ⊢
  have hA : ∀ q : Nat, s.heap.size ≤ q → A q := fun q h => by rw [← hAe]; exact Or.inr h
  have hS : va_S A s.heap s.heap [] := va_S.rf
  have hP : va_P D vwCl [] s.heap := hP
  have hl := lv_entry ([.int v, .int 1]) (n := 2) (Nat.le_of_ble_eq_true rfl)
  rw [lg_entry_eq]
  generalize (lg_sl ([.int v, .int 1]) ++ List.replicate (2 - (lg_sl ([.int v, .int 1])).length) Slot.unset).toArray = ls at hl ⊢
  have hl : lv_has ls 2 [(0, .int v), (1, .int 1)] := hl
  clear hts0 hD0 hAe
  refine my_abs (fun R Q hR hQ => ?_)
  refine lv_iload_n hx hb dX9_channel_0 rfl (lv_at hl 0 rfl) ?_
  refine lv_bipush (v := 24) hx hb dX9_channel_1 (by decide) ?_
  refine lv_bipush (v := 8) hx hb dX9_channel_3 (by decide) ?_
  refine lv_iload_n hx hb dX9_channel_5 rfl (lv_at hl 1 rfl) ?_
  refine lv_imul hx hb dX9_channel_6 ?_
  refine my_fold (v := 8) (by decide) ?_
  refine lv_isub hx hb dX9_channel_7 ?_
  refine my_fold (v := 16) (by decide) ?_
  refine lv_ishr hx hb dX9_channel_8 ?_
  refine lv_topi (fun y_1 ey_1 => ?_)
  refine lv_sipush (v := 255) hx hb dX9_channel_9 (by decide) ?_
  refine lv_iand hx hb dX9_channel_12 ?_
  refine lv_topi (fun y_2 ey_2 => ?_)
  refine hQ _ _ _ _ _ ?_
  exact W.iret (v := y_2) hx hb hr (fun t ht hW => ⟨⟨y_2, (), rfl, (by subst_vars; exact chM16 v), trivial⟩, hS.F ht⟩) hS.2.2 dX9_channel_13

set_option maxHeartbeats 4000000 in
set_option maxRecDepth 100000 in
theorem k_X9_channel_2 (l : Launch) (D : va_G) (sz : Nat) (v : Int32) : Met l yX9_channel (wB yX9_channel cX9_channel 2 (some .int)) ({ frames := 0, cells := 0, slots := 0, locals := 0 }) (cP D [] [] sz [.int v, .int 2]) (va_Qi (fun (r : Int32) (_ : Unit) => r = chS v 8) (fun (_ : Unit) (_ : State) => True) (va_A [] sz)) 0 0 (va_A [] sz) := by
  refine Met.ofW (cc := cX9_channel) (maxL := 2) (ret := (some .int)) (by decide) rfl ?_
  intro p e s m args below meth c s₁ B hml hv
  obtain ⟨rfl, hsz, hP, hK, hD0, hN⟩ := hv
  have hx := B.exec
  have hb := B.bytes
  have hr := B.returns
  have hts0 := atoms_spec (ws := (wB yX9_channel cX9_channel 2 (some .int))) B.pre
  have hts : ∀ w ∈ bigW, w.before _ s = true := fun w h => hts0 w (List.mem_cons_of_mem _ h)
  have hown : s.vm.findClass RX9 = some m.cls := findClass_of_methodNamed B.named
  have hlocks := B.notSynchronized
  subst hsz
  have hD := hD0.self (sz := s.heap.size)
  generalize hAe : va_A [] s.heap.size = A at hD ⊢
  have hA : ∀ q : Nat, s.heap.size ≤ q → A q := fun q h => by rw [← hAe]; exact Or.inr h
  have hS : va_S A s.heap s.heap [] := va_S.rf
  have hP : va_P D vwCl [] s.heap := hP
  have hl := lv_entry ([.int v, .int 2]) (n := 2) (Nat.le_of_ble_eq_true rfl)
  rw [lg_entry_eq]
  generalize (lg_sl ([.int v, .int 2]) ++ List.replicate (2 - (lg_sl ([.int v, .int 2])).length) Slot.unset).toArray = ls at hl ⊢
  have hl : lv_has ls 2 [(0, .int v), (1, .int 2)] := hl
  clear hts0 hD0 hAe
  refine my_abs (fun R Q hR hQ => ?_)
  refine lv_iload_n hx hb dX9_channel_0 rfl (lv_at hl 0 rfl) ?_
  refine lv_bipush (v := 24) hx hb dX9_channel_1 (by decide) ?_
  refine lv_bipush (v := 8) hx hb dX9_channel_3 (by decide) ?_
  refine lv_iload_n hx hb dX9_channel_5 rfl (lv_at hl 1 rfl) ?_
  refine lv_imul hx hb dX9_channel_6 ?_
  refine my_fold (v := 16) (by decide) ?_
  refine lv_isub hx hb dX9_channel_7 ?_
  refine my_fold (v := 8) (by decide) ?_
  refine lv_ishr hx hb dX9_channel_8 ?_
  refine lv_topi (fun y_1 ey_1 => ?_)
  refine lv_sipush (v := 255) hx hb dX9_channel_9 (by decide) ?_
  refine lv_iand hx hb dX9_channel_12 ?_
  refine lv_topi (fun y_2 ey_2 => ?_)
  refine hQ _ _ _ _ _ ?_
  exact W.iret (v := y_2) hx hb hr (fun t ht hW => ⟨⟨y_2, (), rfl, (by subst_vars; exact chM8 v), trivial⟩, hS.F ht⟩) hS.2.2 dX9_channel_13

set_option maxHeartbeats 4000000 in
set_option maxRecDepth 100000 in
theorem k_X9_channel_3 (l : Launch) (D : va_G) (sz : Nat) (v : Int32) : Met l yX9_channel (wB yX9_channel cX9_channel 2 (some .int)) ({ frames := 0, cells := 0, slots := 0, locals := 0 }) (cP D [] [] sz [.int v, .int 3]) (va_Qi (fun (r : Int32) (_ : Unit) => r = chS v 0) (fun (_ : Unit) (_ : State) => True) (va_A [] sz)) 0 0 (va_A [] sz) := by
  refine Met.ofW (cc := cX9_channel) (maxL := 2) (ret := (some .int)) (by decide) rfl ?_
  intro p e s m args below meth c s₁ B hml hv
  obtain ⟨rfl, hsz, hP, hK, hD0, hN⟩ := hv
  have hx := B.exec
  have hb := B.bytes
  have hr := B.returns
  have hts0 := atoms_spec (ws := (wB yX9_channel cX9_channel 2 (some .int))) B.pre
  have hts : ∀ w ∈ bigW, w.before _ s = true := fun w h => hts0 w (List.mem_cons_of_mem _ h)
  have hown : s.vm.findClass RX9 = some m.cls := findClass_of_methodNamed B.named
  have hlocks := B.notSynchronized
  subst hsz
  have hD := hD0.self (sz := s.heap.size)
  generalize hAe : va_A [] s.heap.size = A at hD ⊢
  have hA : ∀ q : Nat, s.heap.size ≤ q → A q := fun q h => by rw [← hAe]; exact Or.inr h
  have hS : va_S A s.heap s.heap [] := va_S.rf
  have hP : va_P D vwCl [] s.heap := hP
  have hl := lv_entry ([.int v, .int 3]) (n := 2) (Nat.le_of_ble_eq_true rfl)
  rw [lg_entry_eq]
  generalize (lg_sl ([.int v, .int 3]) ++ List.replicate (2 - (lg_sl ([.int v, .int 3])).length) Slot.unset).toArray = ls at hl ⊢
  have hl : lv_has ls 2 [(0, .int v), (1, .int 3)] := hl
  clear hts0 hD0 hAe
  refine my_abs (fun R Q hR hQ => ?_)
  refine lv_iload_n hx hb dX9_channel_0 rfl (lv_at hl 0 rfl) ?_
  refine lv_bipush (v := 24) hx hb dX9_channel_1 (by decide) ?_
  refine lv_bipush (v := 8) hx hb dX9_channel_3 (by decide) ?_
  refine lv_iload_n hx hb dX9_channel_5 rfl (lv_at hl 1 rfl) ?_
  refine lv_imul hx hb dX9_channel_6 ?_
  refine my_fold (v := 24) (by decide) ?_
  refine lv_isub hx hb dX9_channel_7 ?_
  refine my_fold (v := 0) (by decide) ?_
  refine lv_ishr hx hb dX9_channel_8 ?_
  refine lv_topi (fun y_1 ey_1 => ?_)
  refine lv_sipush (v := 255) hx hb dX9_channel_9 (by decide) ?_
  refine lv_iand hx hb dX9_channel_12 ?_
  refine lv_topi (fun y_2 ey_2 => ?_)
  refine hQ _ _ _ _ _ ?_
  exact W.iret (v := y_2) hx hb hr (fun t ht hW => ⟨⟨y_2, (), rfl, (by subst_vars; exact chM0 v), trivial⟩, hS.F ht⟩) hS.2.2 dX9_channel_13

set_option maxHeartbeats 4000000 in
set_option maxRecDepth 100000 in
theorem k_X9_nearest_255 (l : Launch) (D : va_G) (sz : Nat) (n : Int32) : Met l yX9_nearest (wB yX9_nearest cX9_nearest 2 (some .int)) ({ frames := 0, cells := 0, slots := 0, locals := 0 }) (cP D [] [] sz [.int n, .int 255]) (va_Qi (fun (r : Int32) (_ : Unit) => r = shP n) (fun (_ : Unit) (_ : State) => True) (va_A [] sz)) 0 0 (va_A [] sz) := by
  refine Met.ofW (cc := cX9_nearest) (maxL := 2) (ret := (some .int)) (by decide) rfl ?_
  intro p e s m args below meth c s₁ B hml hv
  obtain ⟨rfl, hsz, hP, hK, hD0, hN⟩ := hv
  have hx := B.exec
  have hb := B.bytes
  have hr := B.returns
  have hts0 := atoms_spec (ws := (wB yX9_nearest cX9_nearest 2 (some .int))) B.pre
  have hts : ∀ w ∈ bigW, w.before _ s = true := fun w h => hts0 w (List.mem_cons_of_mem _ h)
  have hown : s.vm.findClass RX9 = some m.cls := findClass_of_methodNamed B.named
  have hlocks := B.notSynchronized
  subst hsz
  have hD := hD0.self (sz := s.heap.size)
  generalize hAe : va_A [] s.heap.size = A at hD ⊢
  have hA : ∀ q : Nat, s.heap.size ≤ q → A q := fun q h => by rw [← hAe]; exact Or.inr h
  have hS : va_S A s.heap s.heap [] := va_S.rf
  have hP : va_P D vwCl [] s.heap := hP
  have hl := lv_entry ([.int n, .int 255]) (n := 2) (Nat.le_of_ble_eq_true rfl)
  rw [lg_entry_eq]
  generalize (lg_sl ([.int n, .int 255]) ++ List.replicate (2 - (lg_sl ([.int n, .int 255])).length) Slot.unset).toArray = ls at hl ⊢
  have hl : lv_has ls 2 [(0, .int n), (1, .int 255)] := hl
  clear hts0 hD0 hAe
  refine my_abs (fun R Q hR hQ => ?_)
  refine lv_iconst (v := 2) hx hb dX9_nearest_0 (by decide) ?_
  refine lv_iload_n hx hb dX9_nearest_1 rfl (lv_at hl 0 rfl) ?_
  refine lv_imul hx hb dX9_nearest_2 ?_
  refine lv_topi (fun y_1 ey_1 => ?_)
  refine lv_iload_n hx hb dX9_nearest_3 rfl (lv_at hl 1 rfl) ?_
  refine lv_iadd hx hb dX9_nearest_4 ?_
  refine lv_topi (fun y_2 ey_2 => ?_)
  refine lv_iconst (v := 2) hx hb dX9_nearest_5 (by decide) ?_
  refine lv_iload_n hx hb dX9_nearest_6 rfl (lv_at hl 1 rfl) ?_
  refine lv_imul hx hb dX9_nearest_7 ?_
  refine my_fold (v := 510) (by decide) ?_
  refine lv_idiv hx hb dX9_nearest_8 (by decide) ?_
  refine lv_topi (fun y_3 ey_3 => ?_)
  refine hQ _ _ _ _ _ ?_
  exact W.iret (v := y_3) hx hb hr (fun t ht hW => ⟨⟨y_3, (), rfl, (by subst_vars; rfl), trivial⟩, hS.F ht⟩) hS.2.2 dX9_nearest_9

set_option maxHeartbeats 4000000 in
set_option maxRecDepth 100000 in
theorem k_X9_nearest_16 (l : Launch) (D : va_G) (sz : Nat) (n : Int32) : Met l yX9_nearest (wB yX9_nearest cX9_nearest 2 (some .int)) ({ frames := 0, cells := 0, slots := 0, locals := 0 }) (cP D [] [] sz [.int n, .int 16]) (va_Qi (fun (r : Int32) (_ : Unit) => r = (2 * n + 16) / 32) (fun (_ : Unit) (_ : State) => True) (va_A [] sz)) 0 0 (va_A [] sz) := by
  refine Met.ofW (cc := cX9_nearest) (maxL := 2) (ret := (some .int)) (by decide) rfl ?_
  intro p e s m args below meth c s₁ B hml hv
  obtain ⟨rfl, hsz, hP, hK, hD0, hN⟩ := hv
  have hx := B.exec
  have hb := B.bytes
  have hr := B.returns
  have hts0 := atoms_spec (ws := (wB yX9_nearest cX9_nearest 2 (some .int))) B.pre
  have hts : ∀ w ∈ bigW, w.before _ s = true := fun w h => hts0 w (List.mem_cons_of_mem _ h)
  have hown : s.vm.findClass RX9 = some m.cls := findClass_of_methodNamed B.named
  have hlocks := B.notSynchronized
  subst hsz
  have hD := hD0.self (sz := s.heap.size)
  generalize hAe : va_A [] s.heap.size = A at hD ⊢
  have hA : ∀ q : Nat, s.heap.size ≤ q → A q := fun q h => by rw [← hAe]; exact Or.inr h
  have hS : va_S A s.heap s.heap [] := va_S.rf
  have hP : va_P D vwCl [] s.heap := hP
  have hl := lv_entry ([.int n, .int 16]) (n := 2) (Nat.le_of_ble_eq_true rfl)
  rw [lg_entry_eq]
  generalize (lg_sl ([.int n, .int 16]) ++ List.replicate (2 - (lg_sl ([.int n, .int 16])).length) Slot.unset).toArray = ls at hl ⊢
  have hl : lv_has ls 2 [(0, .int n), (1, .int 16)] := hl
  clear hts0 hD0 hAe
  refine my_abs (fun R Q hR hQ => ?_)
  refine lv_iconst (v := 2) hx hb dX9_nearest_0 (by decide) ?_
  refine lv_iload_n hx hb dX9_nearest_1 rfl (lv_at hl 0 rfl) ?_
  refine lv_imul hx hb dX9_nearest_2 ?_
  refine lv_topi (fun y_1 ey_1 => ?_)
  refine lv_iload_n hx hb dX9_nearest_3 rfl (lv_at hl 1 rfl) ?_
  refine lv_iadd hx hb dX9_nearest_4 ?_
  refine lv_topi (fun y_2 ey_2 => ?_)
  refine lv_iconst (v := 2) hx hb dX9_nearest_5 (by decide) ?_
  refine lv_iload_n hx hb dX9_nearest_6 rfl (lv_at hl 1 rfl) ?_
  refine lv_imul hx hb dX9_nearest_7 ?_
  refine my_fold (v := 32) (by decide) ?_
  refine lv_idiv hx hb dX9_nearest_8 (by decide) ?_
  refine lv_topi (fun y_3 ey_3 => ?_)
  refine hQ _ _ _ _ _ ?_
  exact W.iret (v := y_3) hx hb hr (fun t ht hW => ⟨⟨y_3, (), rfl, (by subst_vars; rfl), trivial⟩, hS.F ht⟩) hS.2.2 dX9_nearest_9

set_option maxHeartbeats 4000000 in
set_option maxRecDepth 100000 in
theorem k_X9_inkOf (l : Launch) (D : va_G) (sz : Nat) (n : Int32) : Met l yX9_inkOf (wB yX9_inkOf cX9_inkOf 4 (some .int)) ({ frames := 1, cells := 0, slots := 0, locals := 21 }) (cP D [] [] sz [.int n]) (va_Qi (fun (r : Int32) (_ : Unit) => r = inkP n) (fun (_ : Unit) (_ : State) => True) (va_A [] sz)) 0 0 (va_A [] sz) := by
  refine Met.ofW (cc := cX9_inkOf) (maxL := 4) (ret := (some .int)) (by decide) rfl ?_
  intro p e s m args below meth c s₁ B hml hv
  obtain ⟨rfl, hsz, hP, hK, hD0, hN⟩ := hv
  have hx := B.exec
  have hb := B.bytes
  have hr := B.returns
  have hts0 := atoms_spec (ws := (wB yX9_inkOf cX9_inkOf 4 (some .int))) B.pre
  have hts : ∀ w ∈ bigW, w.before _ s = true := fun w h => hts0 w (List.mem_cons_of_mem _ h)
  have hown : s.vm.findClass RX9 = some m.cls := findClass_of_methodNamed B.named
  have hlocks := B.notSynchronized
  subst hsz
  have hD := hD0.self (sz := s.heap.size)
  generalize hAe : va_A [] s.heap.size = A at hD ⊢
  have hA : ∀ q : Nat, s.heap.size ≤ q → A q := fun q h => by rw [← hAe]; exact Or.inr h
  have hS : va_S A s.heap s.heap [] := va_S.rf
  have hP : va_P D vwCl [] s.heap := hP
  have hl := lv_entry ([.int n]) (n := 4) (Nat.le_of_ble_eq_true rfl)
  rw [lg_entry_eq]
  generalize (lg_sl ([.int n]) ++ List.replicate (4 - (lg_sl ([.int n])).length) Slot.unset).toArray = ls at hl ⊢
  have hl : lv_has ls 4 [(0, .int n)] := hl
  clear hts0 hD0 hAe
  refine my_abs (fun R Q hR hQ => ?_)
  refine lv_iload_n hx hb dX9_inkOf_0 rfl (lv_at hl 0 rfl) ?_
  refine lv_iconst (v := 0) hx hb dX9_inkOf_1 (by decide) ?_
  have hPc := hP.sub (ws' := []) [] rfl
  have hDc := hD.sub (ws' := []) [] (by decide) rfl
  have hKc := hK.sub (tys' := []) [] rfl
  have hFc := va_free (wc := []) hD hS hA [] rfl
  refine va_calli (va_runS (As := [.int n, .int 0]) (rest := []) ⟨hx, hb, hml, hown, hts⟩ (k_X9_channel_0 l D s.heap.size n) (va_cwS 2 hts (gS bw_441 bw_438 bw_391 bw_437) rfl rfl rfl (by decide +kernel) ⟨(by rw [hR]; exact Nat.le_of_ble_eq_true rfl), (by rw [hR]; exact Nat.le_of_ble_eq_true rfl)⟩) ⟨cP_blind, cP_at hPc hKc hDc hN⟩ rfl rfl hl.1 rfl (lv_room (Nat.le_of_ble_eq_true rfl)) dX9_inkOf_2 ⟨(by rw [hR]; exact Nat.le_of_ble_eq_true rfl), (by rw [hR]; exact Nat.le_of_ble_eq_true rfl)⟩) hS (fun q _ h => hFc q h) hFc (fun r_1 u9 t9 H1 locs ht hvm hr_1 hB hz1 hk1 hS => ?_)
  try dsimp only at hr_1
  have hP1 : va_P D vwCl [] H1 := vP_nil
  have hD1 : va_D (va_A [] s.heap.size) [] := vD_nil
  obtain ⟨hP, hD⟩ := va_join (wr := []) (w1 := []) hP hD [] [] rfl rfl (by decide) (by decide) hk1 hFc hP1 hD1
  clear hz1 hk1 hFc hKc hDc hPc
  generalize H1 = H at hP hS ⊢
  have hP : va_P D vwCl [] H := hP
  have hD : va_D A [] := hD
  refine lv_istore_n (lv' := [(1, .int r_1), (0, .int n)]) hx hb dX9_inkOf_5 rfl hl (by decide) rfl (fun ls hl => ?_)
  refine lv_iload_n hx hb dX9_inkOf_6 rfl (lv_at hl 0 rfl) ?_
  refine lv_istore_n (lv' := [(2, .int r_1), (1, .int r_1), (0, .int n)]) hx hb dX9_inkOf_7 rfl hl (by decide) rfl (fun ls hl => ?_)
  refine lv_iconst (v := 1) hx hb dX9_inkOf_8 (by decide) ?_
  refine lv_istore_n (lv' := [(3, .int 1), (2, .int r_1), (1, .int r_1), (0, .int n)]) hx hb dX9_inkOf_9 rfl hl (by decide) rfl (fun ls hl => ?_)
  refine lv_iload_n hx hb dX9_inkOf_10 rfl (lv_at hl 0 rfl) ?_
  refine lv_iconst (v := 4) hx hb dX9_inkOf_11 (by decide) ?_
  refine lv_icmp_ge (tgt := 40) hx hb dX9_inkOf_12 (by decide) (fun c_2 => ?_) (fun c_2 => ?_)
  · skip
    exact absurd c_2 (by decide)
  · skip
    refine lv_iload_n hx hb dX9_inkOf_15 rfl (lv_at hl 1 rfl) ?_
    refine lv_bipush (v := 8) hx hb dX9_inkOf_16 (by decide) ?_
    refine lv_ishl hx hb dX9_inkOf_18 ?_
    refine lv_topi (fun y_4 ey_4 => ?_)
    refine lv_iload_n hx hb dX9_inkOf_19 rfl (lv_at hl 3 rfl) ?_
    refine lv_iload_n hx hb dX9_inkOf_20 rfl (lv_at hl 0 rfl) ?_
    have hPc := hP.sub (ws' := []) [] rfl
    have hDc := hD.sub (ws' := []) [] (by decide) rfl
    have hKc := hK.sub (tys' := []) [] rfl
    have hFc := va_free (wc := []) hD hS hA [] rfl
    refine va_calli (va_runS (As := [.int n, .int 1]) (rest := [.int y_4]) ⟨hx, hb, hml, hown, hts⟩ (k_X9_channel_1 l D H.size n) (va_cwS 2 hts (gS bw_441 bw_438 bw_391 bw_437) rfl rfl rfl (by decide +kernel) ⟨(by rw [hR]; exact Nat.le_of_ble_eq_true rfl), (by rw [hR]; exact Nat.le_of_ble_eq_true rfl)⟩) ⟨cP_blind, cP_at hPc hKc hDc hN⟩ rfl rfl hl.1 rfl (lv_room (Nat.le_of_ble_eq_true rfl)) dX9_inkOf_21 ⟨(by rw [hR]; exact Nat.le_of_ble_eq_true rfl), (by rw [hR]; exact Nat.le_of_ble_eq_true rfl)⟩) hS (fun q _ h => hFc q h) hFc (fun r_5 u9 t9 H1 locs ht hvm hr_5 hB hz1 hk1 hS => ?_)
    try dsimp only at hr_5
    have hP1 : va_P D vwCl [] H1 := vP_nil
    have hD1 : va_D (va_A [] H.size) [] := vD_nil
    obtain ⟨hP, hD⟩ := va_join (wr := []) (w1 := []) hP hD [] [] rfl rfl (by decide) (by decide) hk1 hFc hP1 hD1
    clear hz1 hk1 hFc hKc hDc hPc
    generalize H1 = H at hP hS ⊢
    have hP : va_P D vwCl [] H := hP
    have hD : va_D A [] := hD
    refine lv_iload_n hx hb dX9_inkOf_24 rfl (lv_at hl 2 rfl) ?_
    refine lv_imul hx hb dX9_inkOf_25 ?_
    refine lv_topi (fun y_6 ey_6 => ?_)
    refine lv_sipush (v := 255) hx hb dX9_inkOf_26 (by decide) ?_
    have hPc := hP.sub (ws' := []) [] rfl
    have hDc := hD.sub (ws' := []) [] (by decide) rfl
    have hKc := hK.sub (tys' := []) [] rfl
    have hFc := va_free (wc := []) hD hS hA [] rfl
    refine va_calli (va_runS (As := [.int y_6, .int 255]) (rest := [.int y_4]) ⟨hx, hb, hml, hown, hts⟩ (k_X9_nearest_255 l D H.size y_6) (va_cwS 2 hts (gS bw_442 bw_436 bw_391 bw_435) rfl rfl rfl (by decide +kernel) ⟨(by rw [hR]; exact Nat.le_of_ble_eq_true rfl), (by rw [hR]; exact Nat.le_of_ble_eq_true rfl)⟩) ⟨cP_blind, cP_at hPc hKc hDc hN⟩ rfl rfl hl.1 rfl (lv_room (Nat.le_of_ble_eq_true rfl)) dX9_inkOf_29 ⟨(by rw [hR]; exact Nat.le_of_ble_eq_true rfl), (by rw [hR]; exact Nat.le_of_ble_eq_true rfl)⟩) hS (fun q _ h => hFc q h) hFc (fun r_7 u9 t9 H1 locs ht hvm hr_7 hB hz1 hk1 hS => ?_)
    try dsimp only at hr_7
    have hP1 : va_P D vwCl [] H1 := vP_nil
    have hD1 : va_D (va_A [] H.size) [] := vD_nil
    obtain ⟨hP, hD⟩ := va_join (wr := []) (w1 := []) hP hD [] [] rfl rfl (by decide) (by decide) hk1 hFc hP1 hD1
    clear hz1 hk1 hFc hKc hDc hPc
    generalize H1 = H at hP hS ⊢
    have hP : va_P D vwCl [] H := hP
    have hD : va_D A [] := hD
    refine lv_ior hx hb dX9_inkOf_32 ?_
    refine lv_topi (fun y_8 ey_8 => ?_)
    refine lv_istore_n (lv' := [(2, .int y_8), (3, .int 1), (1, .int r_1), (0, .int n)]) hx hb dX9_inkOf_33 rfl hl (by decide) rfl (fun ls hl => ?_)
    refine lv_iinc (v := 2) (lv' := [(3, .int 2), (2, .int y_8), (1, .int r_1), (0, .int n)]) hx hb dX9_inkOf_34 hl (k := 1) rfl (by decide) (by decide) rfl (fun ls hl => ?_)
    refine lv_goto (tgt := 10) hx hb dX9_inkOf_37 (by decide) ?_
    refine lv_iload_n hx hb dX9_inkOf_10 rfl (lv_at hl 0 rfl) ?_
    refine lv_iconst (v := 4) hx hb dX9_inkOf_11 (by decide) ?_
    refine lv_icmp_ge (tgt := 40) hx hb dX9_inkOf_12 (by decide) (fun c_9 => ?_) (fun c_9 => ?_)
    · skip
      exact absurd c_9 (by decide)
    · skip
      refine lv_iload_n hx hb dX9_inkOf_15 rfl (lv_at hl 1 rfl) ?_
      refine lv_bipush (v := 8) hx hb dX9_inkOf_16 (by decide) ?_
      refine lv_ishl hx hb dX9_inkOf_18 ?_
      refine lv_topi (fun y_11 ey_11 => ?_)
      refine lv_iload_n hx hb dX9_inkOf_19 rfl (lv_at hl 3 rfl) ?_
      refine lv_iload_n hx hb dX9_inkOf_20 rfl (lv_at hl 0 rfl) ?_
      have hPc := hP.sub (ws' := []) [] rfl
      have hDc := hD.sub (ws' := []) [] (by decide) rfl
      have hKc := hK.sub (tys' := []) [] rfl
      have hFc := va_free (wc := []) hD hS hA [] rfl
      refine va_calli (va_runS (As := [.int n, .int 2]) (rest := [.int y_11]) ⟨hx, hb, hml, hown, hts⟩ (k_X9_channel_2 l D H.size n) (va_cwS 2 hts (gS bw_441 bw_438 bw_391 bw_437) rfl rfl rfl (by decide +kernel) ⟨(by rw [hR]; exact Nat.le_of_ble_eq_true rfl), (by rw [hR]; exact Nat.le_of_ble_eq_true rfl)⟩) ⟨cP_blind, cP_at hPc hKc hDc hN⟩ rfl rfl hl.1 rfl (lv_room (Nat.le_of_ble_eq_true rfl)) dX9_inkOf_21 ⟨(by rw [hR]; exact Nat.le_of_ble_eq_true rfl), (by rw [hR]; exact Nat.le_of_ble_eq_true rfl)⟩) hS (fun q _ h => hFc q h) hFc (fun r_12 u9 t9 H1 locs ht hvm hr_12 hB hz1 hk1 hS => ?_)
      try dsimp only at hr_12
      have hP1 : va_P D vwCl [] H1 := vP_nil
      have hD1 : va_D (va_A [] H.size) [] := vD_nil
      obtain ⟨hP, hD⟩ := va_join (wr := []) (w1 := []) hP hD [] [] rfl rfl (by decide) (by decide) hk1 hFc hP1 hD1
      clear hz1 hk1 hFc hKc hDc hPc
      generalize H1 = H at hP hS ⊢
      have hP : va_P D vwCl [] H := hP
      have hD : va_D A [] := hD
      refine lv_iload_n hx hb dX9_inkOf_24 rfl (lv_at hl 2 rfl) ?_
      refine lv_imul hx hb dX9_inkOf_25 ?_
      refine lv_topi (fun y_13 ey_13 => ?_)
      refine lv_sipush (v := 255) hx hb dX9_inkOf_26 (by decide) ?_
      have hPc := hP.sub (ws' := []) [] rfl
      have hDc := hD.sub (ws' := []) [] (by decide) rfl
      have hKc := hK.sub (tys' := []) [] rfl
      have hFc := va_free (wc := []) hD hS hA [] rfl
      refine va_calli (va_runS (As := [.int y_13, .int 255]) (rest := [.int y_11]) ⟨hx, hb, hml, hown, hts⟩ (k_X9_nearest_255 l D H.size y_13) (va_cwS 2 hts (gS bw_442 bw_436 bw_391 bw_435) rfl rfl rfl (by decide +kernel) ⟨(by rw [hR]; exact Nat.le_of_ble_eq_true rfl), (by rw [hR]; exact Nat.le_of_ble_eq_true rfl)⟩) ⟨cP_blind, cP_at hPc hKc hDc hN⟩ rfl rfl hl.1 rfl (lv_room (Nat.le_of_ble_eq_true rfl)) dX9_inkOf_29 ⟨(by rw [hR]; exact Nat.le_of_ble_eq_true rfl), (by rw [hR]; exact Nat.le_of_ble_eq_true rfl)⟩) hS (fun q _ h => hFc q h) hFc (fun r_14 u9 t9 H1 locs ht hvm hr_14 hB hz1 hk1 hS => ?_)
      try dsimp only at hr_14
      have hP1 : va_P D vwCl [] H1 := vP_nil
      have hD1 : va_D (va_A [] H.size) [] := vD_nil
      obtain ⟨hP, hD⟩ := va_join (wr := []) (w1 := []) hP hD [] [] rfl rfl (by decide) (by decide) hk1 hFc hP1 hD1
      clear hz1 hk1 hFc hKc hDc hPc
      generalize H1 = H at hP hS ⊢
      have hP : va_P D vwCl [] H := hP
      have hD : va_D A [] := hD
      refine lv_ior hx hb dX9_inkOf_32 ?_
      refine lv_topi (fun y_15 ey_15 => ?_)
      refine lv_istore_n (lv' := [(2, .int y_15), (3, .int 2), (1, .int r_1), (0, .int n)]) hx hb dX9_inkOf_33 rfl hl (by decide) rfl (fun ls hl => ?_)
      refine lv_iinc (v := 3) (lv' := [(3, .int 3), (2, .int y_15), (1, .int r_1), (0, .int n)]) hx hb dX9_inkOf_34 hl (k := 1) rfl (by decide) (by decide) rfl (fun ls hl => ?_)
      refine lv_goto (tgt := 10) hx hb dX9_inkOf_37 (by decide) ?_
      refine lv_iload_n hx hb dX9_inkOf_10 rfl (lv_at hl 0 rfl) ?_
      refine lv_iconst (v := 4) hx hb dX9_inkOf_11 (by decide) ?_
      refine lv_icmp_ge (tgt := 40) hx hb dX9_inkOf_12 (by decide) (fun c_16 => ?_) (fun c_16 => ?_)
      · skip
        exact absurd c_16 (by decide)
      · skip
        refine lv_iload_n hx hb dX9_inkOf_15 rfl (lv_at hl 1 rfl) ?_
        refine lv_bipush (v := 8) hx hb dX9_inkOf_16 (by decide) ?_
        refine lv_ishl hx hb dX9_inkOf_18 ?_
        refine lv_topi (fun y_18 ey_18 => ?_)
        refine lv_iload_n hx hb dX9_inkOf_19 rfl (lv_at hl 3 rfl) ?_
        refine lv_iload_n hx hb dX9_inkOf_20 rfl (lv_at hl 0 rfl) ?_
        have hPc := hP.sub (ws' := []) [] rfl
        have hDc := hD.sub (ws' := []) [] (by decide) rfl
        have hKc := hK.sub (tys' := []) [] rfl
        have hFc := va_free (wc := []) hD hS hA [] rfl
        refine va_calli (va_runS (As := [.int n, .int 3]) (rest := [.int y_18]) ⟨hx, hb, hml, hown, hts⟩ (k_X9_channel_3 l D H.size n) (va_cwS 2 hts (gS bw_441 bw_438 bw_391 bw_437) rfl rfl rfl (by decide +kernel) ⟨(by rw [hR]; exact Nat.le_of_ble_eq_true rfl), (by rw [hR]; exact Nat.le_of_ble_eq_true rfl)⟩) ⟨cP_blind, cP_at hPc hKc hDc hN⟩ rfl rfl hl.1 rfl (lv_room (Nat.le_of_ble_eq_true rfl)) dX9_inkOf_21 ⟨(by rw [hR]; exact Nat.le_of_ble_eq_true rfl), (by rw [hR]; exact Nat.le_of_ble_eq_true rfl)⟩) hS (fun q _ h => hFc q h) hFc (fun r_19 u9 t9 H1 locs ht hvm hr_19 hB hz1 hk1 hS => ?_)
        try dsimp only at hr_19
        have hP1 : va_P D vwCl [] H1 := vP_nil
        have hD1 : va_D (va_A [] H.size) [] := vD_nil
        obtain ⟨hP, hD⟩ := va_join (wr := []) (w1 := []) hP hD [] [] rfl rfl (by decide) (by decide) hk1 hFc hP1 hD1
        clear hz1 hk1 hFc hKc hDc hPc
        generalize H1 = H at hP hS ⊢
        have hP : va_P D vwCl [] H := hP
        have hD : va_D A [] := hD
        refine lv_iload_n hx hb dX9_inkOf_24 rfl (lv_at hl 2 rfl) ?_
        refine lv_imul hx hb dX9_inkOf_25 ?_
        refine lv_topi (fun y_20 ey_20 => ?_)
        refine lv_sipush (v := 255) hx hb dX9_inkOf_26 (by decide) ?_
        have hPc := hP.sub (ws' := []) [] rfl
        have hDc := hD.sub (ws' := []) [] (by decide) rfl
        have hKc := hK.sub (tys' := []) [] rfl
        have hFc := va_free (wc := []) hD hS hA [] rfl
        refine va_calli (va_runS (As := [.int y_20, .int 255]) (rest := [.int y_18]) ⟨hx, hb, hml, hown, hts⟩ (k_X9_nearest_255 l D H.size y_20) (va_cwS 2 hts (gS bw_442 bw_436 bw_391 bw_435) rfl rfl rfl (by decide +kernel) ⟨(by rw [hR]; exact Nat.le_of_ble_eq_true rfl), (by rw [hR]; exact Nat.le_of_ble_eq_true rfl)⟩) ⟨cP_blind, cP_at hPc hKc hDc hN⟩ rfl rfl hl.1 rfl (lv_room (Nat.le_of_ble_eq_true rfl)) dX9_inkOf_29 ⟨(by rw [hR]; exact Nat.le_of_ble_eq_true rfl), (by rw [hR]; exact Nat.le_of_ble_eq_true rfl)⟩) hS (fun q _ h => hFc q h) hFc (fun r_21 u9 t9 H1 locs ht hvm hr_21 hB hz1 hk1 hS => ?_)
        try dsimp only at hr_21
        have hP1 : va_P D vwCl [] H1 := vP_nil
        have hD1 : va_D (va_A [] H.size) [] := vD_nil
        obtain ⟨hP, hD⟩ := va_join (wr := []) (w1 := []) hP hD [] [] rfl rfl (by decide) (by decide) hk1 hFc hP1 hD1
        clear hz1 hk1 hFc hKc hDc hPc
        generalize H1 = H at hP hS ⊢
        have hP : va_P D vwCl [] H := hP
        have hD : va_D A [] := hD
        refine lv_ior hx hb dX9_inkOf_32 ?_
        refine lv_topi (fun y_22 ey_22 => ?_)
        refine lv_istore_n (lv' := [(2, .int y_22), (3, .int 3), (1, .int r_1), (0, .int n)]) hx hb dX9_inkOf_33 rfl hl (by decide) rfl (fun ls hl => ?_)
        refine lv_iinc (v := 4) (lv' := [(3, .int 4), (2, .int y_22), (1, .int r_1), (0, .int n)]) hx hb dX9_inkOf_34 hl (k := 1) rfl (by decide) (by decide) rfl (fun ls hl => ?_)
        refine lv_goto (tgt := 10) hx hb dX9_inkOf_37 (by decide) ?_
        refine lv_iload_n hx hb dX9_inkOf_10 rfl (lv_at hl 0 rfl) ?_
        refine lv_iconst (v := 4) hx hb dX9_inkOf_11 (by decide) ?_
        refine lv_icmp_ge (tgt := 40) hx hb dX9_inkOf_12 (by decide) (fun c_23 => ?_) (fun c_23 => ?_)
        · skip
          refine lv_iload_n hx hb dX9_inkOf_40 rfl (lv_at hl 1 rfl) ?_
          refine hQ _ _ _ _ _ ?_
          exact W.iret (v := y_22) hx hb hr (fun t ht hW => ⟨⟨y_22, (), rfl, (by subst_vars; rfl), trivial⟩, hS.F ht⟩) hS.2.2 dX9_inkOf_41
        · skip
          exact absurd c_23 (by decide)

set_option maxHeartbeats 4000000 in
set_option maxRecDepth 100000 in
theorem k_X9_isNear (l : Launch) (D : va_G) (sz : Nat) (n far : Int32) (A0 B0 : Int) (hA0 : (-far).toInt = A0) (hB0 : far.toInt = B0) : Met l yX9_isNear (wB yX9_isNear cX9_isNear 2 (some .boolean)) ({ frames := 0, cells := 0, slots := 0, locals := 0 }) (cP D [] [] sz [.int n, .int far]) (va_Qi (fun (r : Int32) (_ : Unit) => r = if A0 ≤ n.toInt ∧ n.toInt ≤ B0 then 1 else 0) (fun (_ : Unit) (_ : State) => True) (va_A [] sz)) 0 0 (va_A [] sz) := by
  refine Met.ofW (cc := cX9_isNear) (maxL := 2) (ret := (some .boolean)) (by decide) rfl ?_
  intro p e s m args below meth c s₁ B hml hv
  obtain ⟨rfl, hsz, hP, hK, hD0, hN⟩ := hv
  have hx := B.exec
  have hb := B.bytes
  have hr := B.returns
  have hts0 := atoms_spec (ws := (wB yX9_isNear cX9_isNear 2 (some .boolean))) B.pre
  have hts : ∀ w ∈ bigW, w.before _ s = true := fun w h => hts0 w (List.mem_cons_of_mem _ h)
  have hown : s.vm.findClass RX9 = some m.cls := findClass_of_methodNamed B.named
  have hlocks := B.notSynchronized
  subst hsz
  have hD := hD0.self (sz := s.heap.size)
  generalize hAe : va_A [] s.heap.size = A at hD ⊢
  have hA : ∀ q : Nat, s.heap.size ≤ q → A q := fun q h => by rw [← hAe]; exact Or.inr h
  have hS : va_S A s.heap s.heap [] := va_S.rf
  have hP : va_P D vwCl [] s.heap := hP
  have hl := lv_entry ([.int n, .int far]) (n := 2) (Nat.le_of_ble_eq_true rfl)
  rw [lg_entry_eq]
  generalize (lg_sl ([.int n, .int far]) ++ List.replicate (2 - (lg_sl ([.int n, .int far])).length) Slot.unset).toArray = ls at hl ⊢
  have hl : lv_has ls 2 [(0, .int n), (1, .int far)] := hl
  clear hts0 hD0 hAe
  refine my_abs (fun R Q hR hQ => ?_)
  refine lv_iload_n hx hb dX9_isNear_0 rfl (lv_at hl 0 rfl) ?_
  refine lv_iload_n hx hb dX9_isNear_1 rfl (lv_at hl 1 rfl) ?_
  refine lv_ineg hx hb dX9_isNear_2 ?_
  refine lv_icmp_lt (tgt := 15) hx hb dX9_isNear_3 (by decide) (fun c_1 => ?_) (fun c_1 => ?_)
  · skip
    have f_2 : n.toInt < A0 := f_lt rfl hA0 c_1
    refine lv_iconst (v := 0) hx hb dX9_isNear_15 (by decide) ?_
    refine hQ _ _ _ _ _ ?_
    exact W.zret (v := 0) hx hb hr rfl (fun t ht hW => ⟨⟨0, (), rfl, (if_neg (by omega)).symm, trivial⟩, hS.F ht⟩) hS.2.2 dX9_isNear_16
  · skip
    have f_2 : ¬ (n.toInt < A0) := fn_lt rfl hA0 c_1
    refine lv_iload_n hx hb dX9_isNear_6 rfl (lv_at hl 0 rfl) ?_
    refine lv_iload_n hx hb dX9_isNear_7 rfl (lv_at hl 1 rfl) ?_
    refine lv_icmp_gt (tgt := 15) hx hb dX9_isNear_8 (by decide) (fun c_3 => ?_) (fun c_3 => ?_)
    · skip
      have f_4 : B0 < n.toInt := f_lt hB0 rfl c_3
      refine lv_iconst (v := 0) hx hb dX9_isNear_15 (by decide) ?_
      refine hQ _ _ _ _ _ ?_
      exact W.zret (v := 0) hx hb hr rfl (fun t ht hW => ⟨⟨0, (), rfl, (if_neg (by omega)).symm, trivial⟩, hS.F ht⟩) hS.2.2 dX9_isNear_16
    · skip
      have f_4 : ¬ (B0 < n.toInt) := fn_lt hB0 rfl c_3
      refine lv_iconst (v := 1) hx hb dX9_isNear_11 (by decide) ?_
      refine lv_goto (tgt := 16) hx hb dX9_isNear_12 (by decide) ?_
      refine hQ _ _ _ _ _ ?_
      exact W.zret (v := 1) hx hb hr rfl (fun t ht hW => ⟨⟨1, (), rfl, (if_pos (by omega)).symm, trivial⟩, hS.F ht⟩) hS.2.2 dX9_isNear_16

set_option maxHeartbeats 4000000 in
set_option maxRecDepth 100000 in
theorem k_X9_isSheet (l : Launch) (D : va_G) (sz : Nat) (h0 m1 m2 m3 m4 m5 m6 m7 m8 m9 m10 m11 m12 m13 : Nat) (ik wy op cl cx0 cx1 cy0 cy1 ds pn : Int32) (gw : Nat → Int32) (k : Int32) (cI : ClassId) : Met l yX9_isSheet (wB yX9_isSheet cX9_isSheet 2 (some .boolean)) ({ frames := 0, cells := 0, slots := 0, locals := 0 }) (cP D [(h0, .inr (9, [.ref m1, .ref m2, .ref m3, .int ik, .int wy, .int op, .int cl, .int cx0, .int cx1, .int cy0, .int cy1, .int ds, .ref m4, .ref m5, .ref m6, .ref m7, .ref m8, .ref m9, .int pn, .ref m10, .ref m11, .ref m12, .ref m13])), (m1, .inl (cI, 4, .inl gw))] [(cI, .int)] sz [.ref h0, .int k]) (va_Qi (fun (r : Int32) (_ : Unit) => r = if 0 ≤ k.toInt ∧ k.toInt ≤ 3 ∧ 0 < (gw k.toNatClampNeg).toInt then 1 else 0) (fun (_ : Unit) (t : State) => cB D (va_A [(h0, .inr (9, [.ref m1, .ref m2, .ref m3, .int ik, .int wy, .int op, .int cl, .int cx0, .int cx1, .int cy0, .int cy1, .int ds, .ref m4, .ref m5, .ref m6, .ref m7, .ref m8, .ref m9, .int pn, .ref m10, .ref m11, .ref m12, .ref m13])), (m1, .inl (cI, 4, .inl gw))] sz) [(h0, .inr (9, [.ref m1, .ref m2, .ref m3, .int ik, .int wy, .int op, .int cl, .int cx0, .int cx1, .int cy0, .int cy1, .int ds, .ref m4, .ref m5, .ref m6, .ref m7, .ref m8, .ref m9, .int pn, .ref m10, .ref m11, .ref m12, .ref m13])), (m1, .inl (cI, 4, .inl gw))] [(cI, .int)] t) (va_A [(h0, .inr (9, [.ref m1, .ref m2, .ref m3, .int ik, .int wy, .int op, .int cl, .int cx0, .int cx1, .int cy0, .int cy1, .int ds, .ref m4, .ref m5, .ref m6, .ref m7, .ref m8, .ref m9, .int pn, .ref m10, .ref m11, .ref m12, .ref m13])), (m1, .inl (cI, 4, .inl gw))] sz)) 0 0 (va_A [(h0, .inr (9, [.ref m1, .ref m2, .ref m3, .int ik, .int wy, .int op, .int cl, .int cx0, .int cx1, .int cy0, .int cy1, .int ds, .ref m4, .ref m5, .ref m6, .ref m7, .ref m8, .ref m9, .int pn, .ref m10, .ref m11, .ref m12, .ref m13])), (m1, .inl (cI, 4, .inl gw))] sz) := by
  refine Met.ofW (cc := cX9_isSheet) (maxL := 2) (ret := (some .boolean)) (by decide) rfl ?_
  intro p e s m args below meth c s₁ B hml hv
  obtain ⟨rfl, hsz, hP, hK, hD0, hN⟩ := hv
  have hx := B.exec
  have hb := B.bytes
  have hr := B.returns
  have hts0 := atoms_spec (ws := (wB yX9_isSheet cX9_isSheet 2 (some .boolean))) B.pre
  have hts : ∀ w ∈ bigW, w.before _ s = true := fun w h => hts0 w (List.mem_cons_of_mem _ h)
  have hown : s.vm.findClass RX9 = some m.cls := findClass_of_methodNamed B.named
  have hlocks := B.notSynchronized
  subst hsz
  have hD := hD0.self (sz := s.heap.size)
  generalize hAe : va_A [(h0, .inr (9, [.ref m1, .ref m2, .ref m3, .int ik, .int wy, .int op, .int cl, .int cx0, .int cx1, .int cy0, .int cy1, .int ds, .ref m4, .ref m5, .ref m6, .ref m7, .ref m8, .ref m9, .int pn, .ref m10, .ref m11, .ref m12, .ref m13])), (m1, .inl (cI, 4, .inl gw))] s.heap.size = A at hD ⊢
  have hA : ∀ q : Nat, s.heap.size ≤ q → A q := fun q h => by rw [← hAe]; exact Or.inr h
  have hS : va_S A s.heap s.heap [] := va_S.rf
  have hP : va_P D vwCl [(h0, .inr (9, [.ref m1, .ref m2, .ref m3, .int ik, .int wy, .int op, .int cl, .int cx0, .int cx1, .int cy0, .int cy1, .int ds, .ref m4, .ref m5, .ref m6, .ref m7, .ref m8, .ref m9, .int pn, .ref m10, .ref m11, .ref m12, .ref m13])), (m1, .inl (cI, 4, .inl gw))] s.heap := hP
  have hl := lv_entry ([.ref h0, .int k]) (n := 2) (Nat.le_of_ble_eq_true rfl)
  rw [lg_entry_eq]
  generalize (lg_sl ([.ref h0, .int k]) ++ List.replicate (2 - (lg_sl ([.ref h0, .int k])).length) Slot.unset).toArray = ls at hl ⊢
  have hl : lv_has ls 2 [(0, .ref h0), (1, .int k)] := hl
  clear hts0 hD0 hAe
  refine my_abs (fun R Q hR hQ => ?_)
  refine lv_iload_n hx hb dX9_isSheet_0 rfl (lv_at hl 1 rfl) ?_
  refine lv_if_lt (tgt := 22) hx hb dX9_isSheet_1 (by decide) (fun c_1 => ?_) (fun c_1 => ?_)
  · skip
    have f_2 : k.toInt < 0 := f_lt rfl (by decide) c_1
    refine lv_iconst (v := 0) hx hb dX9_isSheet_22 (by decide) ?_
    have hP9 := hP.sub (ws' := [(h0, .inr (9, [.ref m1, .ref m2, .ref m3, .int ik, .int wy, .int op, .int cl, .int cx0, .int cx1, .int cy0, .int cy1, .int ds, .ref m4, .ref m5, .ref m6, .ref m7, .ref m8, .ref m9, .int pn, .ref m10, .ref m11, .ref m12, .ref m13])), (m1, .inl (cI, 4, .inl gw))]) [0, 1] rfl
    have hD9 := hD.sub (ws' := [(h0, .inr (9, [.ref m1, .ref m2, .ref m3, .int ik, .int wy, .int op, .int cl, .int cx0, .int cx1, .int cy0, .int cy1, .int ds, .ref m4, .ref m5, .ref m6, .ref m7, .ref m8, .ref m9, .int pn, .ref m10, .ref m11, .ref m12, .ref m13])), (m1, .inl (cI, 4, .inl gw))]) [0, 1] (by decide) rfl
    have hK9 := hK.sub (tys' := [(cI, .int)]) [0] rfl
    refine hQ _ _ _ _ _ ?_
    exact W.zret (v := 0) hx hb hr rfl (fun t ht hW => ⟨⟨0, (), rfl, (if_neg (by omega)).symm, ⟨by rw [ht]; exact hP9, va_K.moved hW.alike hK9, hD9⟩⟩, hS.F ht⟩) hS.2.2 dX9_isSheet_23
  · skip
    have f_2 : ¬ (k.toInt < 0) := fn_lt rfl (by decide) c_1
    refine lv_iload_n hx hb dX9_isSheet_4 rfl (lv_at hl 1 rfl) ?_
    refine lv_iconst (v := 4) hx hb dX9_isSheet_5 (by decide) ?_
    refine lv_icmp_ge (tgt := 22) hx hb dX9_isSheet_6 (by decide) (fun c_3 => ?_) (fun c_3 => ?_)
    · skip
      have f_4 : 4 ≤ k.toInt := f_le (by decide) rfl c_3
      refine lv_iconst (v := 0) hx hb dX9_isSheet_22 (by decide) ?_
      have hP9 := hP.sub (ws' := [(h0, .inr (9, [.ref m1, .ref m2, .ref m3, .int ik, .int wy, .int op, .int cl, .int cx0, .int cx1, .int cy0, .int cy1, .int ds, .ref m4, .ref m5, .ref m6, .ref m7, .ref m8, .ref m9, .int pn, .ref m10, .ref m11, .ref m12, .ref m13])), (m1, .inl (cI, 4, .inl gw))]) [0, 1] rfl
      have hD9 := hD.sub (ws' := [(h0, .inr (9, [.ref m1, .ref m2, .ref m3, .int ik, .int wy, .int op, .int cl, .int cx0, .int cx1, .int cy0, .int cy1, .int ds, .ref m4, .ref m5, .ref m6, .ref m7, .ref m8, .ref m9, .int pn, .ref m10, .ref m11, .ref m12, .ref m13])), (m1, .inl (cI, 4, .inl gw))]) [0, 1] (by decide) rfl
      have hK9 := hK.sub (tys' := [(cI, .int)]) [0] rfl
      refine hQ _ _ _ _ _ ?_
      exact W.zret (v := 0) hx hb hr rfl (fun t ht hW => ⟨⟨0, (), rfl, (if_neg (by omega)).symm, ⟨by rw [ht]; exact hP9, va_K.moved hW.alike hK9, hD9⟩⟩, hS.F ht⟩) hS.2.2 dX9_isSheet_23
    · skip
      have f_4 : ¬ (4 ≤ k.toInt) := fn_le (by decide) rfl c_3
      refine lv_aload_n hx hb dX9_isSheet_9 rfl (lv_at hl 0 rfl) ?_
      refine va_get (D := D) (ci := 9) (v := .ref m1) (C := RX9) (T := TX9) (N := 23) hx hb hts hi_X9 hown hK hP 0 rfl rfl 0 (by decide) (hts _ bw_396) (fun _ h9 => h9) rfl dX9_isSheet_10 ?_
      refine lv_iload_n hx hb dX9_isSheet_13 rfl (lv_at hl 1 rfl) ?_
      refine va_iald hx hb hK hP 1 0 rfl rfl (vp_in_iff.mpr ⟨by omega, by omega⟩) dX9_isSheet_14 ?_
      refine lv_if_le (tgt := 22) hx hb dX9_isSheet_15 (by decide) (fun c_5 => ?_) (fun c_5 => ?_)
      · skip
        have f_6 : (gw k.toNatClampNeg).toInt ≤ 0 := f_le rfl (by decide) c_5
        refine lv_iconst (v := 0) hx hb dX9_isSheet_22 (by decide) ?_
        have hP9 := hP.sub (ws' := [(h0, .inr (9, [.ref m1, .ref m2, .ref m3, .int ik, .int wy, .int op, .int cl, .int cx0, .int cx1, .int cy0, .int cy1, .int ds, .ref m4, .ref m5, .ref m6, .ref m7, .ref m8, .ref m9, .int pn, .ref m10, .ref m11, .ref m12, .ref m13])), (m1, .inl (cI, 4, .inl gw))]) [0, 1] rfl
        have hD9 := hD.sub (ws' := [(h0, .inr (9, [.ref m1, .ref m2, .ref m3, .int ik, .int wy, .int op, .int cl, .int cx0, .int cx1, .int cy0, .int cy1, .int ds, .ref m4, .ref m5, .ref m6, .ref m7, .ref m8, .ref m9, .int pn, .ref m10, .ref m11, .ref m12, .ref m13])), (m1, .inl (cI, 4, .inl gw))]) [0, 1] (by decide) rfl
        have hK9 := hK.sub (tys' := [(cI, .int)]) [0] rfl
        refine hQ _ _ _ _ _ ?_
        exact W.zret (v := 0) hx hb hr rfl (fun t ht hW => ⟨⟨0, (), rfl, (if_neg (by omega)).symm, ⟨by rw [ht]; exact hP9, va_K.moved hW.alike hK9, hD9⟩⟩, hS.F ht⟩) hS.2.2 dX9_isSheet_23
      · skip
        have f_6 : ¬ ((gw k.toNatClampNeg).toInt ≤ 0) := fn_le rfl (by decide) c_5
        refine lv_iconst (v := 1) hx hb dX9_isSheet_18 (by decide) ?_
        refine lv_goto (tgt := 23) hx hb dX9_isSheet_19 (by decide) ?_
        have hP9 := hP.sub (ws' := [(h0, .inr (9, [.ref m1, .ref m2, .ref m3, .int ik, .int wy, .int op, .int cl, .int cx0, .int cx1, .int cy0, .int cy1, .int ds, .ref m4, .ref m5, .ref m6, .ref m7, .ref m8, .ref m9, .int pn, .ref m10, .ref m11, .ref m12, .ref m13])), (m1, .inl (cI, 4, .inl gw))]) [0, 1] rfl
        have hD9 := hD.sub (ws' := [(h0, .inr (9, [.ref m1, .ref m2, .ref m3, .int ik, .int wy, .int op, .int cl, .int cx0, .int cx1, .int cy0, .int cy1, .int ds, .ref m4, .ref m5, .ref m6, .ref m7, .ref m8, .ref m9, .int pn, .ref m10, .ref m11, .ref m12, .ref m13])), (m1, .inl (cI, 4, .inl gw))]) [0, 1] (by decide) rfl
        have hK9 := hK.sub (tys' := [(cI, .int)]) [0] rfl
        refine hQ _ _ _ _ _ ?_
        exact W.zret (v := 1) hx hb hr rfl (fun t ht hW => ⟨⟨1, (), rfl, (if_pos (by omega)).symm, ⟨by rw [ht]; exact hP9, va_K.moved hW.alike hK9, hD9⟩⟩, hS.F ht⟩) hS.2.2 dX9_isSheet_23

set_option maxHeartbeats 4000000 in
set_option maxRecDepth 100000 in
theorem k_X9_isOn (l : Launch) (D : va_G) (sz : Nat) (h0 m1 m2 m3 m4 m5 m6 m7 m8 m9 m10 m11 m12 m13 : Nat) (ik wy op cl cx0 cx1 cy0 cy1 ds pn : Int32) (gw : Nat → Int32) (gh : Nat → Int32) (k x y : Int32) (cI : ClassId) (hk : 0 ≤ k.toInt ∧ k.toInt ≤ 3) : Met l yX9_isOn (wB yX9_isOn cX9_isOn 4 (some .boolean)) ({ frames := 0, cells := 0, slots := 0, locals := 0 }) (cP D [(h0, .inr (9, [.ref m1, .ref m2, .ref m3, .int ik, .int wy, .int op, .int cl, .int cx0, .int cx1, .int cy0, .int cy1, .int ds, .ref m4, .ref m5, .ref m6, .ref m7, .ref m8, .ref m9, .int pn, .ref m10, .ref m11, .ref m12, .ref m13])), (m1, .inl (cI, 4, .inl gw)), (m2, .inl (cI, 4, .inl gh))] [(cI, .int)] sz [.ref h0, .int k, .int x, .int y]) (va_Qi (fun (r : Int32) (_ : Unit) => r = if 0 ≤ x.toInt ∧ x.toInt < (gw k.toNatClampNeg).toInt ∧ 0 ≤ y.toInt ∧ y.toInt < (gh k.toNatClampNeg).toInt then 1 else 0) (fun (_ : Unit) (t : State) => cB D (va_A [(h0, .inr (9, [.ref m1, .ref m2, .ref m3, .int ik, .int wy, .int op, .int cl, .int cx0, .int cx1, .int cy0, .int cy1, .int ds, .ref m4, .ref m5, .ref m6, .ref m7, .ref m8, .ref m9, .int pn, .ref m10, .ref m11, .ref m12, .ref m13])), (m1, .inl (cI, 4, .inl gw)), (m2, .inl (cI, 4, .inl gh))] sz) [(h0, .inr (9, [.ref m1, .ref m2, .ref m3, .int ik, .int wy, .int op, .int cl, .int cx0, .int cx1, .int cy0, .int cy1, .int ds, .ref m4, .ref m5, .ref m6, .ref m7, .ref m8, .ref m9, .int pn, .ref m10, .ref m11, .ref m12, .ref m13])), (m1, .inl (cI, 4, .inl gw)), (m2, .inl (cI, 4, .inl gh))] [(cI, .int)] t) (va_A [(h0, .inr (9, [.ref m1, .ref m2, .ref m3, .int ik, .int wy, .int op, .int cl, .int cx0, .int cx1, .int cy0, .int cy1, .int ds, .ref m4, .ref m5, .ref m6, .ref m7, .ref m8, .ref m9, .int pn, .ref m10, .ref m11, .ref m12, .ref m13])), (m1, .inl (cI, 4, .inl gw)), (m2, .inl (cI, 4, .inl gh))] sz)) 0 0 (va_A [(h0, .inr (9, [.ref m1, .ref m2, .ref m3, .int ik, .int wy, .int op, .int cl, .int cx0, .int cx1, .int cy0, .int cy1, .int ds, .ref m4, .ref m5, .ref m6, .ref m7, .ref m8, .ref m9, .int pn, .ref m10, .ref m11, .ref m12, .ref m13])), (m1, .inl (cI, 4, .inl gw)), (m2, .inl (cI, 4, .inl gh))] sz) := by
  refine Met.ofW (cc := cX9_isOn) (maxL := 4) (ret := (some .boolean)) (by decide) rfl ?_
  intro p e s m args below meth c s₁ B hml hv
  obtain ⟨rfl, hsz, hP, hK, hD0, hN⟩ := hv
  have hx := B.exec
  have hb := B.bytes
  have hr := B.returns
  have hts0 := atoms_spec (ws := (wB yX9_isOn cX9_isOn 4 (some .boolean))) B.pre
  have hts : ∀ w ∈ bigW, w.before _ s = true := fun w h => hts0 w (List.mem_cons_of_mem _ h)
  have hown : s.vm.findClass RX9 = some m.cls := findClass_of_methodNamed B.named
  have hlocks := B.notSynchronized
  subst hsz
  have hD := hD0.self (sz := s.heap.size)
  generalize hAe : va_A [(h0, .inr (9, [.ref m1, .ref m2, .ref m3, .int ik, .int wy, .int op, .int cl, .int cx0, .int cx1, .int cy0, .int cy1, .int ds, .ref m4, .ref m5, .ref m6, .ref m7, .ref m8, .ref m9, .int pn, .ref m10, .ref m11, .ref m12, .ref m13])), (m1, .inl (cI, 4, .inl gw)), (m2, .inl (cI, 4, .inl gh))] s.heap.size = A at hD ⊢
  have hA : ∀ q : Nat, s.heap.size ≤ q → A q := fun q h => by rw [← hAe]; exact Or.inr h
  have hS : va_S A s.heap s.heap [] := va_S.rf
  have hP : va_P D vwCl [(h0, .inr (9, [.ref m1, .ref m2, .ref m3, .int ik, .int wy, .int op, .int cl, .int cx0, .int cx1, .int cy0, .int cy1, .int ds, .ref m4, .ref m5, .ref m6, .ref m7, .ref m8, .ref m9, .int pn, .ref m10, .ref m11, .ref m12, .ref m13])), (m1, .inl (cI, 4, .inl gw)), (m2, .inl (cI, 4, .inl gh))] s.heap := hP
  have hl := lv_entry ([.ref h0, .int k, .int x, .int y]) (n := 4) (Nat.le_of_ble_eq_true rfl)
  rw [lg_entry_eq]
  generalize (lg_sl ([.ref h0, .int k, .int x, .int y]) ++ List.replicate (4 - (lg_sl ([.ref h0, .int k, .int x, .int y])).length) Slot.unset).toArray = ls at hl ⊢
  have hl : lv_has ls 4 [(0, .ref h0), (1, .int k), (2, .int x), (3, .int y)] := hl
  clear hts0 hD0 hAe
  refine my_abs (fun R Q hR hQ => ?_)
  refine lv_iload_n hx hb dX9_isOn_0 rfl (lv_at hl 2 rfl) ?_
  refine lv_if_lt (tgt := 32) hx hb dX9_isOn_1 (by decide) (fun c_1 => ?_) (fun c_1 => ?_)
  · skip
    have f_2 : x.toInt < 0 := f_lt rfl (by decide) c_1
    refine lv_iconst (v := 0) hx hb dX9_isOn_32 (by decide) ?_
    have hP9 := hP.sub (ws' := [(h0, .inr (9, [.ref m1, .ref m2, .ref m3, .int ik, .int wy, .int op, .int cl, .int cx0, .int cx1, .int cy0, .int cy1, .int ds, .ref m4, .ref m5, .ref m6, .ref m7, .ref m8, .ref m9, .int pn, .ref m10, .ref m11, .ref m12, .ref m13])), (m1, .inl (cI, 4, .inl gw)), (m2, .inl (cI, 4, .inl gh))]) [0, 1, 2] rfl
    have hD9 := hD.sub (ws' := [(h0, .inr (9, [.ref m1, .ref m2, .ref m3, .int ik, .int wy, .int op, .int cl, .int cx0, .int cx1, .int cy0, .int cy1, .int ds, .ref m4, .ref m5, .ref m6, .ref m7, .ref m8, .ref m9, .int pn, .ref m10, .ref m11, .ref m12, .ref m13])), (m1, .inl (cI, 4, .inl gw)), (m2, .inl (cI, 4, .inl gh))]) [0, 1, 2] (by decide) rfl
    have hK9 := hK.sub (tys' := [(cI, .int)]) [0] rfl
    refine hQ _ _ _ _ _ ?_
    exact W.zret (v := 0) hx hb hr rfl (fun t ht hW => ⟨⟨0, (), rfl, (if_neg (by omega)).symm, ⟨by rw [ht]; exact hP9, va_K.moved hW.alike hK9, hD9⟩⟩, hS.F ht⟩) hS.2.2 dX9_isOn_33
  · skip
    have f_2 : ¬ (x.toInt < 0) := fn_lt rfl (by decide) c_1
    refine lv_iload_n hx hb dX9_isOn_4 rfl (lv_at hl 2 rfl) ?_
    refine lv_aload_n hx hb dX9_isOn_5 rfl (lv_at hl 0 rfl) ?_
    refine va_get (D := D) (ci := 9) (v := .ref m1) (C := RX9) (T := TX9) (N := 23) hx hb hts hi_X9 hown hK hP 0 rfl rfl 0 (by decide) (hts _ bw_396) (fun _ h9 => h9) rfl dX9_isOn_6 ?_
    refine lv_iload_n hx hb dX9_isOn_9 rfl (lv_at hl 1 rfl) ?_
    refine va_iald hx hb hK hP 1 0 rfl rfl (vp_in_iff.mpr ⟨by omega, by omega⟩) dX9_isOn_10 ?_
    refine lv_icmp_ge (tgt := 32) hx hb dX9_isOn_11 (by decide) (fun c_3 => ?_) (fun c_3 => ?_)
    · skip
      have f_4 : (gw k.toNatClampNeg).toInt ≤ x.toInt := f_le rfl rfl c_3
      refine lv_iconst (v := 0) hx hb dX9_isOn_32 (by decide) ?_
      have hP9 := hP.sub (ws' := [(h0, .inr (9, [.ref m1, .ref m2, .ref m3, .int ik, .int wy, .int op, .int cl, .int cx0, .int cx1, .int cy0, .int cy1, .int ds, .ref m4, .ref m5, .ref m6, .ref m7, .ref m8, .ref m9, .int pn, .ref m10, .ref m11, .ref m12, .ref m13])), (m1, .inl (cI, 4, .inl gw)), (m2, .inl (cI, 4, .inl gh))]) [0, 1, 2] rfl
      have hD9 := hD.sub (ws' := [(h0, .inr (9, [.ref m1, .ref m2, .ref m3, .int ik, .int wy, .int op, .int cl, .int cx0, .int cx1, .int cy0, .int cy1, .int ds, .ref m4, .ref m5, .ref m6, .ref m7, .ref m8, .ref m9, .int pn, .ref m10, .ref m11, .ref m12, .ref m13])), (m1, .inl (cI, 4, .inl gw)), (m2, .inl (cI, 4, .inl gh))]) [0, 1, 2] (by decide) rfl
      have hK9 := hK.sub (tys' := [(cI, .int)]) [0] rfl
      refine hQ _ _ _ _ _ ?_
      exact W.zret (v := 0) hx hb hr rfl (fun t ht hW => ⟨⟨0, (), rfl, (if_neg (by omega)).symm, ⟨by rw [ht]; exact hP9, va_K.moved hW.alike hK9, hD9⟩⟩, hS.F ht⟩) hS.2.2 dX9_isOn_33
    · skip
      have f_4 : ¬ ((gw k.toNatClampNeg).toInt ≤ x.toInt) := fn_le rfl rfl c_3
      refine lv_iload_n hx hb dX9_isOn_14 rfl (lv_at hl 3 rfl) ?_
      refine lv_if_lt (tgt := 32) hx hb dX9_isOn_15 (by decide) (fun c_5 => ?_) (fun c_5 => ?_)
      · skip
        have f_6 : y.toInt < 0 := f_lt rfl (by decide) c_5
        refine lv_iconst (v := 0) hx hb dX9_isOn_32 (by decide) ?_
        have hP9 := hP.sub (ws' := [(h0, .inr (9, [.ref m1, .ref m2, .ref m3, .int ik, .int wy, .int op, .int cl, .int cx0, .int cx1, .int cy0, .int cy1, .int ds, .ref m4, .ref m5, .ref m6, .ref m7, .ref m8, .ref m9, .int pn, .ref m10, .ref m11, .ref m12, .ref m13])), (m1, .inl (cI, 4, .inl gw)), (m2, .inl (cI, 4, .inl gh))]) [0, 1, 2] rfl
        have hD9 := hD.sub (ws' := [(h0, .inr (9, [.ref m1, .ref m2, .ref m3, .int ik, .int wy, .int op, .int cl, .int cx0, .int cx1, .int cy0, .int cy1, .int ds, .ref m4, .ref m5, .ref m6, .ref m7, .ref m8, .ref m9, .int pn, .ref m10, .ref m11, .ref m12, .ref m13])), (m1, .inl (cI, 4, .inl gw)), (m2, .inl (cI, 4, .inl gh))]) [0, 1, 2] (by decide) rfl
        have hK9 := hK.sub (tys' := [(cI, .int)]) [0] rfl
        refine hQ _ _ _ _ _ ?_
        exact W.zret (v := 0) hx hb hr rfl (fun t ht hW => ⟨⟨0, (), rfl, (if_neg (by omega)).symm, ⟨by rw [ht]; exact hP9, va_K.moved hW.alike hK9, hD9⟩⟩, hS.F ht⟩) hS.2.2 dX9_isOn_33
      · skip
        have f_6 : ¬ (y.toInt < 0) := fn_lt rfl (by decide) c_5
        refine lv_iload_n hx hb dX9_isOn_18 rfl (lv_at hl 3 rfl) ?_
        refine lv_aload_n hx hb dX9_isOn_19 rfl (lv_at hl 0 rfl) ?_
        refine va_get (D := D) (ci := 9) (v := .ref m2) (C := RX9) (T := TX9) (N := 23) hx hb hts hi_X9 hown hK hP 0 rfl rfl 1 (by decide) (hts _ bw_397) (fun _ h9 => h9) rfl dX9_isOn_20 ?_
        refine lv_iload_n hx hb dX9_isOn_23 rfl (lv_at hl 1 rfl) ?_
        refine va_iald hx hb hK hP 2 0 rfl rfl (vp_in_iff.mpr ⟨by omega, by omega⟩) dX9_isOn_24 ?_
        refine lv_icmp_ge (tgt := 32) hx hb dX9_isOn_25 (by decide) (fun c_7 => ?_) (fun c_7 => ?_)
        · skip
          have f_8 : (gh k.toNatClampNeg).toInt ≤ y.toInt := f_le rfl rfl c_7
          refine lv_iconst (v := 0) hx hb dX9_isOn_32 (by decide) ?_
          have hP9 := hP.sub (ws' := [(h0, .inr (9, [.ref m1, .ref m2, .ref m3, .int ik, .int wy, .int op, .int cl, .int cx0, .int cx1, .int cy0, .int cy1, .int ds, .ref m4, .ref m5, .ref m6, .ref m7, .ref m8, .ref m9, .int pn, .ref m10, .ref m11, .ref m12, .ref m13])), (m1, .inl (cI, 4, .inl gw)), (m2, .inl (cI, 4, .inl gh))]) [0, 1, 2] rfl
          have hD9 := hD.sub (ws' := [(h0, .inr (9, [.ref m1, .ref m2, .ref m3, .int ik, .int wy, .int op, .int cl, .int cx0, .int cx1, .int cy0, .int cy1, .int ds, .ref m4, .ref m5, .ref m6, .ref m7, .ref m8, .ref m9, .int pn, .ref m10, .ref m11, .ref m12, .ref m13])), (m1, .inl (cI, 4, .inl gw)), (m2, .inl (cI, 4, .inl gh))]) [0, 1, 2] (by decide) rfl
          have hK9 := hK.sub (tys' := [(cI, .int)]) [0] rfl
          refine hQ _ _ _ _ _ ?_
          exact W.zret (v := 0) hx hb hr rfl (fun t ht hW => ⟨⟨0, (), rfl, (if_neg (by omega)).symm, ⟨by rw [ht]; exact hP9, va_K.moved hW.alike hK9, hD9⟩⟩, hS.F ht⟩) hS.2.2 dX9_isOn_33
        · skip
          have f_8 : ¬ ((gh k.toNatClampNeg).toInt ≤ y.toInt) := fn_le rfl rfl c_7
          refine lv_iconst (v := 1) hx hb dX9_isOn_28 (by decide) ?_
          refine lv_goto (tgt := 33) hx hb dX9_isOn_29 (by decide) ?_
          have hP9 := hP.sub (ws' := [(h0, .inr (9, [.ref m1, .ref m2, .ref m3, .int ik, .int wy, .int op, .int cl, .int cx0, .int cx1, .int cy0, .int cy1, .int ds, .ref m4, .ref m5, .ref m6, .ref m7, .ref m8, .ref m9, .int pn, .ref m10, .ref m11, .ref m12, .ref m13])), (m1, .inl (cI, 4, .inl gw)), (m2, .inl (cI, 4, .inl gh))]) [0, 1, 2] rfl
          have hD9 := hD.sub (ws' := [(h0, .inr (9, [.ref m1, .ref m2, .ref m3, .int ik, .int wy, .int op, .int cl, .int cx0, .int cx1, .int cy0, .int cy1, .int ds, .ref m4, .ref m5, .ref m6, .ref m7, .ref m8, .ref m9, .int pn, .ref m10, .ref m11, .ref m12, .ref m13])), (m1, .inl (cI, 4, .inl gw)), (m2, .inl (cI, 4, .inl gh))]) [0, 1, 2] (by decide) rfl
          have hK9 := hK.sub (tys' := [(cI, .int)]) [0] rfl
          refine hQ _ _ _ _ _ ?_
          exact W.zret (v := 1) hx hb hr rfl (fun t ht hW => ⟨⟨1, (), rfl, (if_pos (by omega)).symm, ⟨by rw [ht]; exact hP9, va_K.moved hW.alike hK9, hD9⟩⟩, hS.F ht⟩) hS.2.2 dX9_isOn_33

set_option maxHeartbeats 4000000 in
set_option maxRecDepth 100000 in
theorem k_X9_isInClip (l : Launch) (D : va_G) (sz : Nat) (h0 m1 m2 m3 m4 m5 m6 m7 m8 m9 m10 m11 m12 m13 : Nat) (ik wy op cl cx0 cx1 cy0 cy1 ds pn : Int32) (x y : Int32) : Met l yX9_isInClip (wB yX9_isInClip cX9_isInClip 3 (some .boolean)) ({ frames := 0, cells := 0, slots := 0, locals := 0 }) (cP D [(h0, .inr (9, [.ref m1, .ref m2, .ref m3, .int ik, .int wy, .int op, .int cl, .int cx0, .int cx1, .int cy0, .int cy1, .int ds, .ref m4, .ref m5, .ref m6, .ref m7, .ref m8, .ref m9, .int pn, .ref m10, .ref m11, .ref m12, .ref m13]))] [] sz [.ref h0, .int x, .int y]) (va_Qi (fun (r : Int32) (_ : Unit) => r = if (cl.toInt = 0 ∨ (cx0.toInt ≤ x.toInt ∧ x.toInt ≤ cx1.toInt ∧ cy0.toInt ≤ y.toInt ∧ y.toInt ≤ cy1.toInt)) then 1 else 0) (fun (_ : Unit) (t : State) => cB D (va_A [(h0, .inr (9, [.ref m1, .ref m2, .ref m3, .int ik, .int wy, .int op, .int cl, .int cx0, .int cx1, .int cy0, .int cy1, .int ds, .ref m4, .ref m5, .ref m6, .ref m7, .ref m8, .ref m9, .int pn, .ref m10, .ref m11, .ref m12, .ref m13]))] sz) [(h0, .inr (9, [.ref m1, .ref m2, .ref m3, .int ik, .int wy, .int op, .int cl, .int cx0, .int cx1, .int cy0, .int cy1, .int ds, .ref m4, .ref m5, .ref m6, .ref m7, .ref m8, .ref m9, .int pn, .ref m10, .ref m11, .ref m12, .ref m13]))] [] t) (va_A [(h0, .inr (9, [.ref m1, .ref m2, .ref m3, .int ik, .int wy, .int op, .int cl, .int cx0, .int cx1, .int cy0, .int cy1, .int ds, .ref m4, .ref m5, .ref m6, .ref m7, .ref m8, .ref m9, .int pn, .ref m10, .ref m11, .ref m12, .ref m13]))] sz)) 0 0 (va_A [(h0, .inr (9, [.ref m1, .ref m2, .ref m3, .int ik, .int wy, .int op, .int cl, .int cx0, .int cx1, .int cy0, .int cy1, .int ds, .ref m4, .ref m5, .ref m6, .ref m7, .ref m8, .ref m9, .int pn, .ref m10, .ref m11, .ref m12, .ref m13]))] sz) := by
  refine Met.ofW (cc := cX9_isInClip) (maxL := 3) (ret := (some .boolean)) (by decide) rfl ?_
  intro p e s m args below meth c s₁ B hml hv
  obtain ⟨rfl, hsz, hP, hK, hD0, hN⟩ := hv
  have hx := B.exec
  have hb := B.bytes
  have hr := B.returns
  have hts0 := atoms_spec (ws := (wB yX9_isInClip cX9_isInClip 3 (some .boolean))) B.pre
  have hts : ∀ w ∈ bigW, w.before _ s = true := fun w h => hts0 w (List.mem_cons_of_mem _ h)
  have hown : s.vm.findClass RX9 = some m.cls := findClass_of_methodNamed B.named
  have hlocks := B.notSynchronized
  subst hsz
  have hD := hD0.self (sz := s.heap.size)
  generalize hAe : va_A [(h0, .inr (9, [.ref m1, .ref m2, .ref m3, .int ik, .int wy, .int op, .int cl, .int cx0, .int cx1, .int cy0, .int cy1, .int ds, .ref m4, .ref m5, .ref m6, .ref m7, .ref m8, .ref m9, .int pn, .ref m10, .ref m11, .ref m12, .ref m13]))] s.heap.size = A at hD ⊢
  have hA : ∀ q : Nat, s.heap.size ≤ q → A q := fun q h => by rw [← hAe]; exact Or.inr h
  have hS : va_S A s.heap s.heap [] := va_S.rf
  have hP : va_P D vwCl [(h0, .inr (9, [.ref m1, .ref m2, .ref m3, .int ik, .int wy, .int op, .int cl, .int cx0, .int cx1, .int cy0, .int cy1, .int ds, .ref m4, .ref m5, .ref m6, .ref m7, .ref m8, .ref m9, .int pn, .ref m10, .ref m11, .ref m12, .ref m13]))] s.heap := hP
  have hl := lv_entry ([.ref h0, .int x, .int y]) (n := 3) (Nat.le_of_ble_eq_true rfl)
  rw [lg_entry_eq]
  generalize (lg_sl ([.ref h0, .int x, .int y]) ++ List.replicate (3 - (lg_sl ([.ref h0, .int x, .int y])).length) Slot.unset).toArray = ls at hl ⊢
  have hl : lv_has ls 3 [(0, .ref h0), (1, .int x), (2, .int y)] := hl
  clear hts0 hD0 hAe
  refine my_abs (fun R Q hR hQ => ?_)
  refine lv_aload_n hx hb dX9_isInClip_0 rfl (lv_at hl 0 rfl) ?_
  refine va_get (D := D) (ci := 9) (v := .int cl) (C := RX9) (T := TX9) (N := 23) hx hb hts hi_X9 hown hK hP 0 rfl rfl 6 (by decide) (hts _ bw_425) (fun _ h9 => h9) rfl dX9_isInClip_1 ?_
  refine lv_if_eq (tgt := 39) hx hb dX9_isInClip_4 (by decide) (fun c_1 => ?_) (fun c_1 => ?_)
  · skip
    have f_2 : cl.toInt = 0 := f_eq rfl (by decide) c_1
    refine lv_iconst (v := 1) hx hb dX9_isInClip_39 (by decide) ?_
    refine lv_goto (tgt := 44) hx hb dX9_isInClip_40 (by decide) ?_
    have hP9 := hP.sub (ws' := [(h0, .inr (9, [.ref m1, .ref m2, .ref m3, .int ik, .int wy, .int op, .int cl, .int cx0, .int cx1, .int cy0, .int cy1, .int ds, .ref m4, .ref m5, .ref m6, .ref m7, .ref m8, .ref m9, .int pn, .ref m10, .ref m11, .ref m12, .ref m13]))]) [0] rfl
    have hD9 := hD.sub (ws' := [(h0, .inr (9, [.ref m1, .ref m2, .ref m3, .int ik, .int wy, .int op, .int cl, .int cx0, .int cx1, .int cy0, .int cy1, .int ds, .ref m4, .ref m5, .ref m6, .ref m7, .ref m8, .ref m9, .int pn, .ref m10, .ref m11, .ref m12, .ref m13]))]) [0] (by decide) rfl
    have hK9 := hK.sub (tys' := []) [] rfl
    refine hQ _ _ _ _ _ ?_
    exact W.zret (v := 1) hx hb hr rfl (fun t ht hW => ⟨⟨1, (), rfl, (if_pos (by omega)).symm, ⟨by rw [ht]; exact hP9, va_K.moved hW.alike hK9, hD9⟩⟩, hS.F ht⟩) hS.2.2 dX9_isInClip_44
  · skip
    have f_2 : ¬ (cl.toInt = 0) := fn_eq rfl (by decide) c_1
    refine lv_iload_n hx hb dX9_isInClip_7 rfl (lv_at hl 1 rfl) ?_
    refine lv_aload_n hx hb dX9_isInClip_8 rfl (lv_at hl 0 rfl) ?_
    refine va_get (D := D) (ci := 9) (v := .int cx0) (C := RX9) (T := TX9) (N := 23) hx hb hts hi_X9 hown hK hP 0 rfl rfl 7 (by decide) (hts _ bw_426) (fun _ h9 => h9) rfl dX9_isInClip_9 ?_
    refine lv_icmp_lt (tgt := 43) hx hb dX9_isInClip_12 (by decide) (fun c_3 => ?_) (fun c_3 => ?_)
    · skip
      have f_4 : x.toInt < cx0.toInt := f_lt rfl rfl c_3
      refine lv_iconst (v := 0) hx hb dX9_isInClip_43 (by decide) ?_
      have hP9 := hP.sub (ws' := [(h0, .inr (9, [.ref m1, .ref m2, .ref m3, .int ik, .int wy, .int op, .int cl, .int cx0, .int cx1, .int cy0, .int cy1, .int ds, .ref m4, .ref m5, .ref m6, .ref m7, .ref m8, .ref m9, .int pn, .ref m10, .ref m11, .ref m12, .ref m13]))]) [0] rfl
      have hD9 := hD.sub (ws' := [(h0, .inr (9, [.ref m1, .ref m2, .ref m3, .int ik, .int wy, .int op, .int cl, .int cx0, .int cx1, .int cy0, .int cy1, .int ds, .ref m4, .ref m5, .ref m6, .ref m7, .ref m8, .ref m9, .int pn, .ref m10, .ref m11, .ref m12, .ref m13]))]) [0] (by decide) rfl
      have hK9 := hK.sub (tys' := []) [] rfl
      refine hQ _ _ _ _ _ ?_
      exact W.zret (v := 0) hx hb hr rfl (fun t ht hW => ⟨⟨0, (), rfl, (if_neg (by omega)).symm, ⟨by rw [ht]; exact hP9, va_K.moved hW.alike hK9, hD9⟩⟩, hS.F ht⟩) hS.2.2 dX9_isInClip_44
    · skip
      have f_4 : ¬ (x.toInt < cx0.toInt) := fn_lt rfl rfl c_3
      refine lv_iload_n hx hb dX9_isInClip_15 rfl (lv_at hl 1 rfl) ?_
      refine lv_aload_n hx hb dX9_isInClip_16 rfl (lv_at hl 0 rfl) ?_
      refine va_get (D := D) (ci := 9) (v := .int cx1) (C := RX9) (T := TX9) (N := 23) hx hb hts hi_X9 hown hK hP 0 rfl rfl 8 (by decide) (hts _ bw_427) (fun _ h9 => h9) rfl dX9_isInClip_17 ?_
      refine lv_icmp_gt (tgt := 43) hx hb dX9_isInClip_20 (by decide) (fun c_5 => ?_) (fun c_5 => ?_)
      · skip
        have f_6 : cx1.toInt < x.toInt := f_lt rfl rfl c_5
        refine lv_iconst (v := 0) hx hb dX9_isInClip_43 (by decide) ?_
        have hP9 := hP.sub (ws' := [(h0, .inr (9, [.ref m1, .ref m2, .ref m3, .int ik, .int wy, .int op, .int cl, .int cx0, .int cx1, .int cy0, .int cy1, .int ds, .ref m4, .ref m5, .ref m6, .ref m7, .ref m8, .ref m9, .int pn, .ref m10, .ref m11, .ref m12, .ref m13]))]) [0] rfl
        have hD9 := hD.sub (ws' := [(h0, .inr (9, [.ref m1, .ref m2, .ref m3, .int ik, .int wy, .int op, .int cl, .int cx0, .int cx1, .int cy0, .int cy1, .int ds, .ref m4, .ref m5, .ref m6, .ref m7, .ref m8, .ref m9, .int pn, .ref m10, .ref m11, .ref m12, .ref m13]))]) [0] (by decide) rfl
        have hK9 := hK.sub (tys' := []) [] rfl
        refine hQ _ _ _ _ _ ?_
        exact W.zret (v := 0) hx hb hr rfl (fun t ht hW => ⟨⟨0, (), rfl, (if_neg (by omega)).symm, ⟨by rw [ht]; exact hP9, va_K.moved hW.alike hK9, hD9⟩⟩, hS.F ht⟩) hS.2.2 dX9_isInClip_44
      · skip
        have f_6 : ¬ (cx1.toInt < x.toInt) := fn_lt rfl rfl c_5
        refine lv_iload_n hx hb dX9_isInClip_23 rfl (lv_at hl 2 rfl) ?_
        refine lv_aload_n hx hb dX9_isInClip_24 rfl (lv_at hl 0 rfl) ?_
        refine va_get (D := D) (ci := 9) (v := .int cy0) (C := RX9) (T := TX9) (N := 23) hx hb hts hi_X9 hown hK hP 0 rfl rfl 9 (by decide) (hts _ bw_428) (fun _ h9 => h9) rfl dX9_isInClip_25 ?_
        refine lv_icmp_lt (tgt := 43) hx hb dX9_isInClip_28 (by decide) (fun c_7 => ?_) (fun c_7 => ?_)
        · skip
          have f_8 : y.toInt < cy0.toInt := f_lt rfl rfl c_7
          refine lv_iconst (v := 0) hx hb dX9_isInClip_43 (by decide) ?_
          have hP9 := hP.sub (ws' := [(h0, .inr (9, [.ref m1, .ref m2, .ref m3, .int ik, .int wy, .int op, .int cl, .int cx0, .int cx1, .int cy0, .int cy1, .int ds, .ref m4, .ref m5, .ref m6, .ref m7, .ref m8, .ref m9, .int pn, .ref m10, .ref m11, .ref m12, .ref m13]))]) [0] rfl
          have hD9 := hD.sub (ws' := [(h0, .inr (9, [.ref m1, .ref m2, .ref m3, .int ik, .int wy, .int op, .int cl, .int cx0, .int cx1, .int cy0, .int cy1, .int ds, .ref m4, .ref m5, .ref m6, .ref m7, .ref m8, .ref m9, .int pn, .ref m10, .ref m11, .ref m12, .ref m13]))]) [0] (by decide) rfl
          have hK9 := hK.sub (tys' := []) [] rfl
          refine hQ _ _ _ _ _ ?_
          exact W.zret (v := 0) hx hb hr rfl (fun t ht hW => ⟨⟨0, (), rfl, (if_neg (by omega)).symm, ⟨by rw [ht]; exact hP9, va_K.moved hW.alike hK9, hD9⟩⟩, hS.F ht⟩) hS.2.2 dX9_isInClip_44
        · skip
          have f_8 : ¬ (y.toInt < cy0.toInt) := fn_lt rfl rfl c_7
          refine lv_iload_n hx hb dX9_isInClip_31 rfl (lv_at hl 2 rfl) ?_
          refine lv_aload_n hx hb dX9_isInClip_32 rfl (lv_at hl 0 rfl) ?_
          refine va_get (D := D) (ci := 9) (v := .int cy1) (C := RX9) (T := TX9) (N := 23) hx hb hts hi_X9 hown hK hP 0 rfl rfl 10 (by decide) (hts _ bw_429) (fun _ h9 => h9) rfl dX9_isInClip_33 ?_
          refine lv_icmp_gt (tgt := 43) hx hb dX9_isInClip_36 (by decide) (fun c_9 => ?_) (fun c_9 => ?_)
          · skip
            have f_10 : cy1.toInt < y.toInt := f_lt rfl rfl c_9
            refine lv_iconst (v := 0) hx hb dX9_isInClip_43 (by decide) ?_
            have hP9 := hP.sub (ws' := [(h0, .inr (9, [.ref m1, .ref m2, .ref m3, .int ik, .int wy, .int op, .int cl, .int cx0, .int cx1, .int cy0, .int cy1, .int ds, .ref m4, .ref m5, .ref m6, .ref m7, .ref m8, .ref m9, .int pn, .ref m10, .ref m11, .ref m12, .ref m13]))]) [0] rfl
            have hD9 := hD.sub (ws' := [(h0, .inr (9, [.ref m1, .ref m2, .ref m3, .int ik, .int wy, .int op, .int cl, .int cx0, .int cx1, .int cy0, .int cy1, .int ds, .ref m4, .ref m5, .ref m6, .ref m7, .ref m8, .ref m9, .int pn, .ref m10, .ref m11, .ref m12, .ref m13]))]) [0] (by decide) rfl
            have hK9 := hK.sub (tys' := []) [] rfl
            refine hQ _ _ _ _ _ ?_
            exact W.zret (v := 0) hx hb hr rfl (fun t ht hW => ⟨⟨0, (), rfl, (if_neg (by omega)).symm, ⟨by rw [ht]; exact hP9, va_K.moved hW.alike hK9, hD9⟩⟩, hS.F ht⟩) hS.2.2 dX9_isInClip_44
          · skip
            have f_10 : ¬ (cy1.toInt < y.toInt) := fn_lt rfl rfl c_9
            refine lv_iconst (v := 1) hx hb dX9_isInClip_39 (by decide) ?_
            refine lv_goto (tgt := 44) hx hb dX9_isInClip_40 (by decide) ?_
            have hP9 := hP.sub (ws' := [(h0, .inr (9, [.ref m1, .ref m2, .ref m3, .int ik, .int wy, .int op, .int cl, .int cx0, .int cx1, .int cy0, .int cy1, .int ds, .ref m4, .ref m5, .ref m6, .ref m7, .ref m8, .ref m9, .int pn, .ref m10, .ref m11, .ref m12, .ref m13]))]) [0] rfl
            have hD9 := hD.sub (ws' := [(h0, .inr (9, [.ref m1, .ref m2, .ref m3, .int ik, .int wy, .int op, .int cl, .int cx0, .int cx1, .int cy0, .int cy1, .int ds, .ref m4, .ref m5, .ref m6, .ref m7, .ref m8, .ref m9, .int pn, .ref m10, .ref m11, .ref m12, .ref m13]))]) [0] (by decide) rfl
            have hK9 := hK.sub (tys' := []) [] rfl
            refine hQ _ _ _ _ _ ?_
            exact W.zret (v := 1) hx hb hr rfl (fun t ht hW => ⟨⟨1, (), rfl, (if_pos (by omega)).symm, ⟨by rw [ht]; exact hP9, va_K.moved hW.alike hK9, hD9⟩⟩, hS.F ht⟩) hS.2.2 dX9_isInClip_44

set_option maxHeartbeats 4000000 in
set_option maxRecDepth 100000 in
theorem k_X9_isOpen (l : Launch) (D : va_G) (sz : Nat) (h0 m1 m2 m3 m4 m5 m6 m7 m8 m9 m10 m11 m12 m13 : Nat) (ik wy op cl cx0 cx1 cy0 cy1 ds pn : Int32) (gw : Nat → Int32) (gh : Nat → Int32) (k x y : Int32) (cI : ClassId) (hk : 0 ≤ k.toInt ∧ k.toInt ≤ 3) : Met l yX9_isOpen (wB yX9_isOpen cX9_isOpen 4 (some .boolean)) ({ frames := 1, cells := 0, slots := 0, locals := 23 }) (cP D [(h0, .inr (9, [.ref m1, .ref m2, .ref m3, .int ik, .int wy, .int op, .int cl, .int cx0, .int cx1, .int cy0, .int cy1, .int ds, .ref m4, .ref m5, .ref m6, .ref m7, .ref m8, .ref m9, .int pn, .ref m10, .ref m11, .ref m12, .ref m13])), (m1, .inl (cI, 4, .inl gw)), (m2, .inl (cI, 4, .inl gh))] [(cI, .int)] sz [.ref h0, .int k, .int x, .int y]) (va_Qi (fun (r : Int32) (_ : Unit) => r = if (0 ≤ x.toInt ∧ x.toInt < (gw k.toNatClampNeg).toInt ∧ 0 ≤ y.toInt ∧ y.toInt < (gh k.toNatClampNeg).toInt) ∧ (cl.toInt = 0 ∨ (cx0.toInt ≤ x.toInt ∧ x.toInt ≤ cx1.toInt ∧ cy0.toInt ≤ y.toInt ∧ y.toInt ≤ cy1.toInt)) then 1 else 0) (fun (_ : Unit) (t : State) => cB D (va_A [(h0, .inr (9, [.ref m1, .ref m2, .ref m3, .int ik, .int wy, .int op, .int cl, .int cx0, .int cx1, .int cy0, .int cy1, .int ds, .ref m4, .ref m5, .ref m6, .ref m7, .ref m8, .ref m9, .int pn, .ref m10, .ref m11, .ref m12, .ref m13])), (m1, .inl (cI, 4, .inl gw)), (m2, .inl (cI, 4, .inl gh))] sz) [(h0, .inr (9, [.ref m1, .ref m2, .ref m3, .int ik, .int wy, .int op, .int cl, .int cx0, .int cx1, .int cy0, .int cy1, .int ds, .ref m4, .ref m5, .ref m6, .ref m7, .ref m8, .ref m9, .int pn, .ref m10, .ref m11, .ref m12, .ref m13])), (m1, .inl (cI, 4, .inl gw)), (m2, .inl (cI, 4, .inl gh))] [(cI, .int)] t) (va_A [(h0, .inr (9, [.ref m1, .ref m2, .ref m3, .int ik, .int wy, .int op, .int cl, .int cx0, .int cx1, .int cy0, .int cy1, .int ds, .ref m4, .ref m5, .ref m6, .ref m7, .ref m8, .ref m9, .int pn, .ref m10, .ref m11, .ref m12, .ref m13])), (m1, .inl (cI, 4, .inl gw)), (m2, .inl (cI, 4, .inl gh))] sz)) 0 0 (va_A [(h0, .inr (9, [.ref m1, .ref m2, .ref m3, .int ik, .int wy, .int op, .int cl, .int cx0, .int cx1, .int cy0, .int cy1, .int ds, .ref m4, .ref m5, .ref m6, .ref m7, .ref m8, .ref m9, .int pn, .ref m10, .ref m11, .ref m12, .ref m13])), (m1, .inl (cI, 4, .inl gw)), (m2, .inl (cI, 4, .inl gh))] sz) := by
  refine Met.ofW (cc := cX9_isOpen) (maxL := 4) (ret := (some .boolean)) (by decide) rfl ?_
  intro p e s m args below meth c s₁ B hml hv
  obtain ⟨rfl, hsz, hP, hK, hD0, hN⟩ := hv
  have hx := B.exec
  have hb := B.bytes
  have hr := B.returns
  have hts0 := atoms_spec (ws := (wB yX9_isOpen cX9_isOpen 4 (some .boolean))) B.pre
  have hts : ∀ w ∈ bigW, w.before _ s = true := fun w h => hts0 w (List.mem_cons_of_mem _ h)
  have hown : s.vm.findClass RX9 = some m.cls := findClass_of_methodNamed B.named
  have hlocks := B.notSynchronized
  subst hsz
  have hD := hD0.self (sz := s.heap.size)
  generalize hAe : va_A [(h0, .inr (9, [.ref m1, .ref m2, .ref m3, .int ik, .int wy, .int op, .int cl, .int cx0, .int cx1, .int cy0, .int cy1, .int ds, .ref m4, .ref m5, .ref m6, .ref m7, .ref m8, .ref m9, .int pn, .ref m10, .ref m11, .ref m12, .ref m13])), (m1, .inl (cI, 4, .inl gw)), (m2, .inl (cI, 4, .inl gh))] s.heap.size = A at hD ⊢
  have hA : ∀ q : Nat, s.heap.size ≤ q → A q := fun q h => by rw [← hAe]; exact Or.inr h
  have hS : va_S A s.heap s.heap [] := va_S.rf
  have hP : va_P D vwCl [(h0, .inr (9, [.ref m1, .ref m2, .ref m3, .int ik, .int wy, .int op, .int cl, .int cx0, .int cx1, .int cy0, .int cy1, .int ds, .ref m4, .ref m5, .ref m6, .ref m7, .ref m8, .ref m9, .int pn, .ref m10, .ref m11, .ref m12, .ref m13])), (m1, .inl (cI, 4, .inl gw)), (m2, .inl (cI, 4, .inl gh))] s.heap := hP
  have hl := lv_entry ([.ref h0, .int k, .int x, .int y]) (n := 4) (Nat.le_of_ble_eq_true rfl)
  rw [lg_entry_eq]
  generalize (lg_sl ([.ref h0, .int k, .int x, .int y]) ++ List.replicate (4 - (lg_sl ([.ref h0, .int k, .int x, .int y])).length) Slot.unset).toArray = ls at hl ⊢
  have hl : lv_has ls 4 [(0, .ref h0), (1, .int k), (2, .int x), (3, .int y)] := hl
  clear hts0 hD0 hAe
  refine my_abs (fun R Q hR hQ => ?_)
  refine lv_aload_n hx hb dX9_isOpen_0 rfl (lv_at hl 0 rfl) ?_
  refine lv_iload_n hx hb dX9_isOpen_1 rfl (lv_at hl 1 rfl) ?_
  refine lv_iload_n hx hb dX9_isOpen_2 rfl (lv_at hl 2 rfl) ?_
  refine lv_iload_n hx hb dX9_isOpen_3 rfl (lv_at hl 3 rfl) ?_
  have hPc := hP.sub (ws' := [(h0, .inr (9, [.ref m1, .ref m2, .ref m3, .int ik, .int wy, .int op, .int cl, .int cx0, .int cx1, .int cy0, .int cy1, .int ds, .ref m4, .ref m5, .ref m6, .ref m7, .ref m8, .ref m9, .int pn, .ref m10, .ref m11, .ref m12, .ref m13])), (m1, .inl (cI, 4, .inl gw)), (m2, .inl (cI, 4, .inl gh))]) [0, 1, 2] rfl
  have hDc := hD.sub (ws' := [(h0, .inr (9, [.ref m1, .ref m2, .ref m3, .int ik, .int wy, .int op, .int cl, .int cx0, .int cx1, .int cy0, .int cy1, .int ds, .ref m4, .ref m5, .ref m6, .ref m7, .ref m8, .ref m9, .int pn, .ref m10, .ref m11, .ref m12, .ref m13])), (m1, .inl (cI, 4, .inl gw)), (m2, .inl (cI, 4, .inl gh))]) [0, 1, 2] (by decide) rfl
  have hKc := hK.sub (tys' := [(cI, .int)]) [0] rfl
  have hFc := va_free (wc := [(h0, .inr (9, [.ref m1, .ref m2, .ref m3, .int ik, .int wy, .int op, .int cl, .int cx0, .int cx1, .int cy0, .int cy1, .int ds, .ref m4, .ref m5, .ref m6, .ref m7, .ref m8, .ref m9, .int pn, .ref m10, .ref m11, .ref m12, .ref m13])), (m1, .inl (cI, 4, .inl gw)), (m2, .inl (cI, 4, .inl gh))]) hD hS hA [0, 1, 2] rfl
  refine va_calli (va_runV (As := [.int k, .int x, .int y]) (rest := []) ⟨hx, hb, hml, hown, hts⟩ (k_X9_isOn l D s.heap.size h0 m1 m2 m3 m4 m5 m6 m7 m8 m9 m10 m11 m12 m13 ik wy op cl cx0 cx1 cy0 cy1 ds pn gw gh k x y cI (by first | assumption | omega | decide)) (cwV 3 hts (gV bw_433 bw_418 bw_419 bw_391 bw_417) rfl rfl rfl (by decide +kernel) ⟨(by rw [hR]; exact Nat.le_of_ble_eq_true rfl), (by rw [hR]; exact Nat.le_of_ble_eq_true rfl)⟩) ⟨cP_blind, va_recv hKc hPc (ci := 9) (q0 := 0) rfl rfl, cP_at hPc hKc hDc hN⟩ rfl rfl hl.1 rfl (lv_room (Nat.le_of_ble_eq_true rfl)) dX9_isOpen_4 ⟨(by rw [hR]; exact Nat.le_of_ble_eq_true rfl), (by rw [hR]; exact Nat.le_of_ble_eq_true rfl)⟩) hS (fun q _ h => hFc q h) hFc (fun r_1 u9 t9 H1 locs ht hvm hr_1 hB hz1 hk1 hS => ?_)
  try dsimp only at hr_1
  obtain ⟨hP1, hK1, hD1⟩ := hB
  rw [ht] at hP1
  obtain ⟨hP, hD⟩ := va_join (wr := []) (w1 := [(h0, .inr (9, [.ref m1, .ref m2, .ref m3, .int ik, .int wy, .int op, .int cl, .int cx0, .int cx1, .int cy0, .int cy1, .int ds, .ref m4, .ref m5, .ref m6, .ref m7, .ref m8, .ref m9, .int pn, .ref m10, .ref m11, .ref m12, .ref m13])), (m1, .inl (cI, 4, .inl gw)), (m2, .inl (cI, 4, .inl gh))]) hP hD [0, 1, 2] [] rfl rfl (by decide) (by decide) hk1 hFc hP1 hD1
  clear hz1 hk1 hFc hKc hDc hPc
  generalize H1 = H at hP hS ⊢
  have hP : va_P D vwCl [(h0, .inr (9, [.ref m1, .ref m2, .ref m3, .int ik, .int wy, .int op, .int cl, .int cx0, .int cx1, .int cy0, .int cy1, .int ds, .ref m4, .ref m5, .ref m6, .ref m7, .ref m8, .ref m9, .int pn, .ref m10, .ref m11, .ref m12, .ref m13])), (m1, .inl (cI, 4, .inl gw)), (m2, .inl (cI, 4, .inl gh))] H := hP
  have hD : va_D A [(h0, .inr (9, [.ref m1, .ref m2, .ref m3, .int ik, .int wy, .int op, .int cl, .int cx0, .int cx1, .int cy0, .int cy1, .int ds, .ref m4, .ref m5, .ref m6, .ref m7, .ref m8, .ref m9, .int pn, .ref m10, .ref m11, .ref m12, .ref m13])), (m1, .inl (cI, 4, .inl gw)), (m2, .inl (cI, 4, .inl gh))] := hD
  refine lv_if_eq (tgt := 23) hx hb dX9_isOpen_7 (by decide) (fun c_2 => ?_) (fun c_2 => ?_)
  · skip
    have f_3 := bz0 hr_1 c_2
    refine lv_iconst (v := 0) hx hb dX9_isOpen_23 (by decide) ?_
    have hP9 := hP.sub (ws' := [(h0, .inr (9, [.ref m1, .ref m2, .ref m3, .int ik, .int wy, .int op, .int cl, .int cx0, .int cx1, .int cy0, .int cy1, .int ds, .ref m4, .ref m5, .ref m6, .ref m7, .ref m8, .ref m9, .int pn, .ref m10, .ref m11, .ref m12, .ref m13])), (m1, .inl (cI, 4, .inl gw)), (m2, .inl (cI, 4, .inl gh))]) [0, 1, 2] rfl
    have hD9 := hD.sub (ws' := [(h0, .inr (9, [.ref m1, .ref m2, .ref m3, .int ik, .int wy, .int op, .int cl, .int cx0, .int cx1, .int cy0, .int cy1, .int ds, .ref m4, .ref m5, .ref m6, .ref m7, .ref m8, .ref m9, .int pn, .ref m10, .ref m11, .ref m12, .ref m13])), (m1, .inl (cI, 4, .inl gw)), (m2, .inl (cI, 4, .inl gh))]) [0, 1, 2] (by decide) rfl
    have hK9 := hK.sub (tys' := [(cI, .int)]) [0] rfl
    refine hQ _ _ _ _ _ ?_
    exact W.zret (v := 0) hx hb hr rfl (fun t ht hW => ⟨⟨0, (), rfl, (if_neg (by omega)).symm, ⟨by rw [ht]; exact hP9, va_K.moved hW.alike hK9, hD9⟩⟩, hS.F ht⟩) hS.2.2 dX9_isOpen_24
  · skip
    have f_3 := bz1 hr_1 c_2
    refine lv_aload_n hx hb dX9_isOpen_10 rfl (lv_at hl 0 rfl) ?_
    refine lv_iload_n hx hb dX9_isOpen_11 rfl (lv_at hl 2 rfl) ?_
    refine lv_iload_n hx hb dX9_isOpen_12 rfl (lv_at hl 3 rfl) ?_
    have hPc := hP.sub (ws' := [(h0, .inr (9, [.ref m1, .ref m2, .ref m3, .int ik, .int wy, .int op, .int cl, .int cx0, .int cx1, .int cy0, .int cy1, .int ds, .ref m4, .ref m5, .ref m6, .ref m7, .ref m8, .ref m9, .int pn, .ref m10, .ref m11, .ref m12, .ref m13]))]) [0] rfl
    have hDc := hD.sub (ws' := [(h0, .inr (9, [.ref m1, .ref m2, .ref m3, .int ik, .int wy, .int op, .int cl, .int cx0, .int cx1, .int cy0, .int cy1, .int ds, .ref m4, .ref m5, .ref m6, .ref m7, .ref m8, .ref m9, .int pn, .ref m10, .ref m11, .ref m12, .ref m13]))]) [0] (by decide) rfl
    have hKc := hK.sub (tys' := []) [] rfl
    have hFc := va_free (wc := [(h0, .inr (9, [.ref m1, .ref m2, .ref m3, .int ik, .int wy, .int op, .int cl, .int cx0, .int cx1, .int cy0, .int cy1, .int ds, .ref m4, .ref m5, .ref m6, .ref m7, .ref m8, .ref m9, .int pn, .ref m10, .ref m11, .ref m12, .ref m13]))]) hD hS hA [0] rfl
    refine va_calli (va_runV (As := [.int x, .int y]) (rest := []) ⟨hx, hb, hml, hown, hts⟩ (k_X9_isInClip l D H.size h0 m1 m2 m3 m4 m5 m6 m7 m8 m9 m10 m11 m12 m13 ik wy op cl cx0 cx1 cy0 cy1 ds pn x y) (cwV 2 hts (gV bw_434 bw_423 bw_424 bw_391 bw_422) rfl rfl rfl (by decide +kernel) ⟨(by rw [hR]; exact Nat.le_of_ble_eq_true rfl), (by rw [hR]; exact Nat.le_of_ble_eq_true rfl)⟩) ⟨cP_blind, va_recv hKc hPc (ci := 9) (q0 := 0) rfl rfl, cP_at hPc hKc hDc hN⟩ rfl rfl hl.1 rfl (lv_room (Nat.le_of_ble_eq_true rfl)) dX9_isOpen_13 ⟨(by rw [hR]; exact Nat.le_of_ble_eq_true rfl), (by rw [hR]; exact Nat.le_of_ble_eq_true rfl)⟩) hS (fun q _ h => hFc q h) hFc (fun r_4 u9 t9 H1 locs ht hvm hr_4 hB hz1 hk1 hS => ?_)
    try dsimp only at hr_4
    obtain ⟨hP1, hK1, hD1⟩ := hB
    rw [ht] at hP1
    obtain ⟨hP, hD⟩ := va_join (wr := [(m1, .inl (cI, 4, .inl gw)), (m2, .inl (cI, 4, .inl gh))]) (w1 := [(h0, .inr (9, [.ref m1, .ref m2, .ref m3, .int ik, .int wy, .int op, .int cl, .int cx0, .int cx1, .int cy0, .int cy1, .int ds, .ref m4, .ref m5, .ref m6, .ref m7, .ref m8, .ref m9, .int pn, .ref m10, .ref m11, .ref m12, .ref m13]))]) hP hD [0] [1, 2] rfl rfl (by decide) (by decide) hk1 hFc hP1 hD1
    clear hz1 hk1 hFc hKc hDc hPc
    generalize H1 = H at hP hS ⊢
    have hP : va_P D vwCl [(m1, .inl (cI, 4, .inl gw)), (m2, .inl (cI, 4, .inl gh)), (h0, .inr (9, [.ref m1, .ref m2, .ref m3, .int ik, .int wy, .int op, .int cl, .int cx0, .int cx1, .int cy0, .int cy1, .int ds, .ref m4, .ref m5, .ref m6, .ref m7, .ref m8, .ref m9, .int pn, .ref m10, .ref m11, .ref m12, .ref m13]))] H := hP
    have hD : va_D A [(m1, .inl (cI, 4, .inl gw)), (m2, .inl (cI, 4, .inl gh)), (h0, .inr (9, [.ref m1, .ref m2, .ref m3, .int ik, .int wy, .int op, .int cl, .int cx0, .int cx1, .int cy0, .int cy1, .int ds, .ref m4, .ref m5, .ref m6, .ref m7, .ref m8, .ref m9, .int pn, .ref m10, .ref m11, .ref m12, .ref m13]))] := hD
    refine lv_if_eq (tgt := 23) hx hb dX9_isOpen_16 (by decide) (fun c_5 => ?_) (fun c_5 => ?_)
    · skip
      have f_6 := bz0 hr_4 c_5
      refine lv_iconst (v := 0) hx hb dX9_isOpen_23 (by decide) ?_
      have hP9 := hP.sub (ws' := [(h0, .inr (9, [.ref m1, .ref m2, .ref m3, .int ik, .int wy, .int op, .int cl, .int cx0, .int cx1, .int cy0, .int cy1, .int ds, .ref m4, .ref m5, .ref m6, .ref m7, .ref m8, .ref m9, .int pn, .ref m10, .ref m11, .ref m12, .ref m13])), (m1, .inl (cI, 4, .inl gw)), (m2, .inl (cI, 4, .inl gh))]) [2, 0, 1] rfl
      have hD9 := hD.sub (ws' := [(h0, .inr (9, [.ref m1, .ref m2, .ref m3, .int ik, .int wy, .int op, .int cl, .int cx0, .int cx1, .int cy0, .int cy1, .int ds, .ref m4, .ref m5, .ref m6, .ref m7, .ref m8, .ref m9, .int pn, .ref m10, .ref m11, .ref m12, .ref m13])), (m1, .inl (cI, 4, .inl gw)), (m2, .inl (cI, 4, .inl gh))]) [2, 0, 1] (by decide) rfl
      have hK9 := hK.sub (tys' := [(cI, .int)]) [0] rfl
      refine hQ _ _ _ _ _ ?_
      exact W.zret (v := 0) hx hb hr rfl (fun t ht hW => ⟨⟨0, (), rfl, (if_neg (by omega)).symm, ⟨by rw [ht]; exact hP9, va_K.moved hW.alike hK9, hD9⟩⟩, hS.F ht⟩) hS.2.2 dX9_isOpen_24
    · skip
      have f_6 := bz1 hr_4 c_5
      refine lv_iconst (v := 1) hx hb dX9_isOpen_19 (by decide) ?_
      refine lv_goto (tgt := 24) hx hb dX9_isOpen_20 (by decide) ?_
      have hP9 := hP.sub (ws' := [(h0, .inr (9, [.ref m1, .ref m2, .ref m3, .int ik, .int wy, .int op, .int cl, .int cx0, .int cx1, .int cy0, .int cy1, .int ds, .ref m4, .ref m5, .ref m6, .ref m7, .ref m8, .ref m9, .int pn, .ref m10, .ref m11, .ref m12, .ref m13])), (m1, .inl (cI, 4, .inl gw)), (m2, .inl (cI, 4, .inl gh))]) [2, 0, 1] rfl
      have hD9 := hD.sub (ws' := [(h0, .inr (9, [.ref m1, .ref m2, .ref m3, .int ik, .int wy, .int op, .int cl, .int cx0, .int cx1, .int cy0, .int cy1, .int ds, .ref m4, .ref m5, .ref m6, .ref m7, .ref m8, .ref m9, .int pn, .ref m10, .ref m11, .ref m12, .ref m13])), (m1, .inl (cI, 4, .inl gw)), (m2, .inl (cI, 4, .inl gh))]) [2, 0, 1] (by decide) rfl
      have hK9 := hK.sub (tys' := [(cI, .int)]) [0] rfl
      refine hQ _ _ _ _ _ ?_
      exact W.zret (v := 1) hx hb hr rfl (fun t ht hW => ⟨⟨1, (), rfl, (if_pos (by omega)).symm, ⟨by rw [ht]; exact hP9, va_K.moved hW.alike hK9, hD9⟩⟩, hS.F ht⟩) hS.2.2 dX9_isOpen_24

set_option maxHeartbeats 4000000 in
set_option maxRecDepth 100000 in
theorem k_X9_sourcePart (l : Launch) (D : va_G) (sz : Nat) (h0 m1 m2 m3 m4 m5 m6 m7 m8 m9 m10 m11 m12 m13 : Nat) (ik wy op cl cx0 cx1 cy0 cy1 ds pn : Int32) (n d : Int32) (hwy : 0 ≤ wy.toInt ∧ wy.toInt ≤ 12) : Met l yX9_sourcePart (wB yX9_sourcePart cX9_sourcePart 3 (some .int)) ({ frames := 0, cells := 0, slots := 0, locals := 0 }) (cP D [(h0, .inr (9, [.ref m1, .ref m2, .ref m3, .int ik, .int wy, .int op, .int cl, .int cx0, .int cx1, .int cy0, .int cy1, .int ds, .ref m4, .ref m5, .ref m6, .ref m7, .ref m8, .ref m9, .int pn, .ref m10, .ref m11, .ref m12, .ref m13]))] [] sz [.ref h0, .int n, .int d]) (va_Qi (fun (r : Int32) (_ : Unit) => r = wSP wy d) (fun (_ : Unit) (t : State) => cB D (va_A [(h0, .inr (9, [.ref m1, .ref m2, .ref m3, .int ik, .int wy, .int op, .int cl, .int cx0, .int cx1, .int cy0, .int cy1, .int ds, .ref m4, .ref m5, .ref m6, .ref m7, .ref m8, .ref m9, .int pn, .ref m10, .ref m11, .ref m12, .ref m13]))] sz) [(h0, .inr (9, [.ref m1, .ref m2, .ref m3, .int ik, .int wy, .int op, .int cl, .int cx0, .int cx1, .int cy0, .int cy1, .int ds, .ref m4, .ref m5, .ref m6, .ref m7, .ref m8, .ref m9, .int pn, .ref m10, .ref m11, .ref m12, .ref m13]))] [] t) (va_A [(h0, .inr (9, [.ref m1, .ref m2, .ref m3, .int ik, .int wy, .int op, .int cl, .int cx0, .int cx1, .int cy0, .int cy1, .int ds, .ref m4, .ref m5, .ref m6, .ref m7, .ref m8, .ref m9, .int pn, .ref m10, .ref m11, .ref m12, .ref m13]))] sz)) 0 0 (va_A [(h0, .inr (9, [.ref m1, .ref m2, .ref m3, .int ik, .int wy, .int op, .int cl, .int cx0, .int cx1, .int cy0, .int cy1, .int ds, .ref m4, .ref m5, .ref m6, .ref m7, .ref m8, .ref m9, .int pn, .ref m10, .ref m11, .ref m12, .ref m13]))] sz) := by
  refine Met.ofW (cc := cX9_sourcePart) (maxL := 3) (ret := (some .int)) (by decide) rfl ?_
  intro p e s m args below meth c s₁ B hml hv
  obtain ⟨rfl, hsz, hP, hK, hD0, hN⟩ := hv
  have hx := B.exec
  have hb := B.bytes
  have hr := B.returns
  have hts0 := atoms_spec (ws := (wB yX9_sourcePart cX9_sourcePart 3 (some .int))) B.pre
  have hts : ∀ w ∈ bigW, w.before _ s = true := fun w h => hts0 w (List.mem_cons_of_mem _ h)
  have hown : s.vm.findClass RX9 = some m.cls := findClass_of_methodNamed B.named
  have hlocks := B.notSynchronized
  subst hsz
  have hD := hD0.self (sz := s.heap.size)
  generalize hAe : va_A [(h0, .inr (9, [.ref m1, .ref m2, .ref m3, .int ik, .int wy, .int op, .int cl, .int cx0, .int cx1, .int cy0, .int cy1, .int ds, .ref m4, .ref m5, .ref m6, .ref m7, .ref m8, .ref m9, .int pn, .ref m10, .ref m11, .ref m12, .ref m13]))] s.heap.size = A at hD ⊢
  have hA : ∀ q : Nat, s.heap.size ≤ q → A q := fun q h => by rw [← hAe]; exact Or.inr h
  have hS : va_S A s.heap s.heap [] := va_S.rf
  have hP : va_P D vwCl [(h0, .inr (9, [.ref m1, .ref m2, .ref m3, .int ik, .int wy, .int op, .int cl, .int cx0, .int cx1, .int cy0, .int cy1, .int ds, .ref m4, .ref m5, .ref m6, .ref m7, .ref m8, .ref m9, .int pn, .ref m10, .ref m11, .ref m12, .ref m13]))] s.heap := hP
  have hl := lv_entry ([.ref h0, .int n, .int d]) (n := 3) (Nat.le_of_ble_eq_true rfl)
  rw [lg_entry_eq]
  generalize (lg_sl ([.ref h0, .int n, .int d]) ++ List.replicate (3 - (lg_sl ([.ref h0, .int n, .int d])).length) Slot.unset).toArray = ls at hl ⊢
  have hl : lv_has ls 3 [(0, .ref h0), (1, .int n), (2, .int d)] := hl
  clear hts0 hD0 hAe
  refine my_abs (fun R Q hR hQ => ?_)
  refine lv_aload_n hx hb dX9_sourcePart_0 rfl (lv_at hl 0 rfl) ?_
  refine va_get (D := D) (ci := 9) (v := .int wy) (C := RX9) (T := TX9) (N := 23) hx hb hts hi_X9 hown hK hP 0 rfl rfl 4 (by decide) (hts _ bw_400) (fun _ h9 => h9) rfl dX9_sourcePart_1 ?_
  obtain ⟨j, hj, ej⟩ := i_of (x := wy) (N := 13) (by omega) (by omega) (by decide)
  subst ej
  rcases (show j = 0 ∨ j = 1 ∨ j = 2 ∨ j = 3 ∨ j = 4 ∨ j = 5 ∨ j = 6 ∨ j = 7 ∨ j = 8 ∨ j = 9 ∨ j = 10 ∨ j = 11 ∨ j = 12 by omega) with rfl | rfl | rfl | rfl | rfl | rfl | rfl | rfl | rfl | rfl | rfl | rfl | rfl
  · skip
    refine lv_tableOut (tgt := 80) hx hb dX9_sourcePart_4 (by decide) (by decide) ?_
    refine lv_iconst (v := 0) hx hb dX9_sourcePart_80 (by decide) ?_
    have hP9 := hP.sub (ws' := [(h0, .inr (9, [.ref m1, .ref m2, .ref m3, .int ik, .int (nI 0), .int op, .int cl, .int cx0, .int cx1, .int cy0, .int cy1, .int ds, .ref m4, .ref m5, .ref m6, .ref m7, .ref m8, .ref m9, .int pn, .ref m10, .ref m11, .ref m12, .ref m13]))]) [0] rfl
    have hD9 := hD.sub (ws' := [(h0, .inr (9, [.ref m1, .ref m2, .ref m3, .int ik, .int (nI 0), .int op, .int cl, .int cx0, .int cx1, .int cy0, .int cy1, .int ds, .ref m4, .ref m5, .ref m6, .ref m7, .ref m8, .ref m9, .int pn, .ref m10, .ref m11, .ref m12, .ref m13]))]) [0] (by decide) rfl
    have hK9 := hK.sub (tys' := []) [] rfl
    refine hQ _ _ _ _ _ ?_
    exact W.iret (v := 0) hx hb hr (fun t ht hW => ⟨⟨0, (), rfl, (by subst_vars; rfl), ⟨by rw [ht]; exact hP9, va_K.moved hW.alike hK9, hD9⟩⟩, hS.F ht⟩) hS.2.2 dX9_sourcePart_81
  · skip
    refine lv_tableIn (off := 64) (tgt := 68) hx hb dX9_sourcePart_4 (by decide) (by decide) rfl (by decide) ?_
    refine lv_sipush (v := 255) hx hb dX9_sourcePart_68 (by decide) ?_
    have hP9 := hP.sub (ws' := [(h0, .inr (9, [.ref m1, .ref m2, .ref m3, .int ik, .int (nI 1), .int op, .int cl, .int cx0, .int cx1, .int cy0, .int cy1, .int ds, .ref m4, .ref m5, .ref m6, .ref m7, .ref m8, .ref m9, .int pn, .ref m10, .ref m11, .ref m12, .ref m13]))]) [0] rfl
    have hD9 := hD.sub (ws' := [(h0, .inr (9, [.ref m1, .ref m2, .ref m3, .int ik, .int (nI 1), .int op, .int cl, .int cx0, .int cx1, .int cy0, .int cy1, .int ds, .ref m4, .ref m5, .ref m6, .ref m7, .ref m8, .ref m9, .int pn, .ref m10, .ref m11, .ref m12, .ref m13]))]) [0] (by decide) rfl
    have hK9 := hK.sub (tys' := []) [] rfl
    refine hQ _ _ _ _ _ ?_
    exact W.iret (v := 255) hx hb hr (fun t ht hW => ⟨⟨255, (), rfl, (by subst_vars; rfl), ⟨by rw [ht]; exact hP9, va_K.moved hW.alike hK9, hD9⟩⟩, hS.F ht⟩) hS.2.2 dX9_sourcePart_71
  · skip
    refine lv_tableIn (off := 76) (tgt := 80) hx hb dX9_sourcePart_4 (by decide) (by decide) rfl (by decide) ?_
    refine lv_iconst (v := 0) hx hb dX9_sourcePart_80 (by decide) ?_
    have hP9 := hP.sub (ws' := [(h0, .inr (9, [.ref m1, .ref m2, .ref m3, .int ik, .int (nI 2), .int op, .int cl, .int cx0, .int cx1, .int cy0, .int cy1, .int ds, .ref m4, .ref m5, .ref m6, .ref m7, .ref m8, .ref m9, .int pn, .ref m10, .ref m11, .ref m12, .ref m13]))]) [0] rfl
    have hD9 := hD.sub (ws' := [(h0, .inr (9, [.ref m1, .ref m2, .ref m3, .int ik, .int (nI 2), .int op, .int cl, .int cx0, .int cx1, .int cy0, .int cy1, .int ds, .ref m4, .ref m5, .ref m6, .ref m7, .ref m8, .ref m9, .int pn, .ref m10, .ref m11, .ref m12, .ref m13]))]) [0] (by decide) rfl
    have hK9 := hK.sub (tys' := []) [] rfl
    refine hQ _ _ _ _ _ ?_
    exact W.iret (v := 0) hx hb hr (fun t ht hW => ⟨⟨0, (), rfl, (by subst_vars; rfl), ⟨by rw [ht]; exact hP9, va_K.moved hW.alike hK9, hD9⟩⟩, hS.F ht⟩) hS.2.2 dX9_sourcePart_81
  · skip
    refine lv_tableIn (off := 64) (tgt := 68) hx hb dX9_sourcePart_4 (by decide) (by decide) rfl (by decide) ?_
    refine lv_sipush (v := 255) hx hb dX9_sourcePart_68 (by decide) ?_
    have hP9 := hP.sub (ws' := [(h0, .inr (9, [.ref m1, .ref m2, .ref m3, .int ik, .int (nI 3), .int op, .int cl, .int cx0, .int cx1, .int cy0, .int cy1, .int ds, .ref m4, .ref m5, .ref m6, .ref m7, .ref m8, .ref m9, .int pn, .ref m10, .ref m11, .ref m12, .ref m13]))]) [0] rfl
    have hD9 := hD.sub (ws' := [(h0, .inr (9, [.ref m1, .ref m2, .ref m3, .int ik, .int (nI 3), .int op, .int cl, .int cx0, .int cx1, .int cy0, .int cy1, .int ds, .ref m4, .ref m5, .ref m6, .ref m7, .ref m8, .ref m9, .int pn, .ref m10, .ref m11, .ref m12, .ref m13]))]) [0] (by decide) rfl
    have hK9 := hK.sub (tys' := []) [] rfl
    refine hQ _ _ _ _ _ ?_
    exact W.iret (v := 255) hx hb hr (fun t ht hW => ⟨⟨255, (), rfl, (by subst_vars; rfl), ⟨by rw [ht]; exact hP9, va_K.moved hW.alike hK9, hD9⟩⟩, hS.F ht⟩) hS.2.2 dX9_sourcePart_71
  · skip
    refine lv_tableIn (off := 68) (tgt := 72) hx hb dX9_sourcePart_4 (by decide) (by decide) rfl (by decide) ?_
    refine lv_sipush (v := 255) hx hb dX9_sourcePart_72 (by decide) ?_
    refine lv_iload_n hx hb dX9_sourcePart_75 rfl (lv_at hl 2 rfl) ?_
    refine lv_isub hx hb dX9_sourcePart_76 ?_
    refine lv_topi (fun y_1 ey_1 => ?_)
    have hP9 := hP.sub (ws' := [(h0, .inr (9, [.ref m1, .ref m2, .ref m3, .int ik, .int (nI 4), .int op, .int cl, .int cx0, .int cx1, .int cy0, .int cy1, .int ds, .ref m4, .ref m5, .ref m6, .ref m7, .ref m8, .ref m9, .int pn, .ref m10, .ref m11, .ref m12, .ref m13]))]) [0] rfl
    have hD9 := hD.sub (ws' := [(h0, .inr (9, [.ref m1, .ref m2, .ref m3, .int ik, .int (nI 4), .int op, .int cl, .int cx0, .int cx1, .int cy0, .int cy1, .int ds, .ref m4, .ref m5, .ref m6, .ref m7, .ref m8, .ref m9, .int pn, .ref m10, .ref m11, .ref m12, .ref m13]))]) [0] (by decide) rfl
    have hK9 := hK.sub (tys' := []) [] rfl
    refine hQ _ _ _ _ _ ?_
    exact W.iret (v := y_1) hx hb hr (fun t ht hW => ⟨⟨y_1, (), rfl, (by subst_vars; rfl), ⟨by rw [ht]; exact hP9, va_K.moved hW.alike hK9, hD9⟩⟩, hS.F ht⟩) hS.2.2 dX9_sourcePart_77
  · skip
    refine lv_tableIn (off := 74) (tgt := 78) hx hb dX9_sourcePart_4 (by decide) (by decide) rfl (by decide) ?_
    refine lv_iload_n hx hb dX9_sourcePart_78 rfl (lv_at hl 2 rfl) ?_
    have hP9 := hP.sub (ws' := [(h0, .inr (9, [.ref m1, .ref m2, .ref m3, .int ik, .int (nI 5), .int op, .int cl, .int cx0, .int cx1, .int cy0, .int cy1, .int ds, .ref m4, .ref m5, .ref m6, .ref m7, .ref m8, .ref m9, .int pn, .ref m10, .ref m11, .ref m12, .ref m13]))]) [0] rfl
    have hD9 := hD.sub (ws' := [(h0, .inr (9, [.ref m1, .ref m2, .ref m3, .int ik, .int (nI 5), .int op, .int cl, .int cx0, .int cx1, .int cy0, .int cy1, .int ds, .ref m4, .ref m5, .ref m6, .ref m7, .ref m8, .ref m9, .int pn, .ref m10, .ref m11, .ref m12, .ref m13]))]) [0] (by decide) rfl
    have hK9 := hK.sub (tys' := []) [] rfl
    refine hQ _ _ _ _ _ ?_
    exact W.iret (v := d) hx hb hr (fun t ht hW => ⟨⟨d, (), rfl, (by subst_vars; rfl), ⟨by rw [ht]; exact hP9, va_K.moved hW.alike hK9, hD9⟩⟩, hS.F ht⟩) hS.2.2 dX9_sourcePart_79
  · skip
    refine lv_tableIn (off := 76) (tgt := 80) hx hb dX9_sourcePart_4 (by decide) (by decide) rfl (by decide) ?_
    refine lv_iconst (v := 0) hx hb dX9_sourcePart_80 (by decide) ?_
    have hP9 := hP.sub (ws' := [(h0, .inr (9, [.ref m1, .ref m2, .ref m3, .int ik, .int (nI 6), .int op, .int cl, .int cx0, .int cx1, .int cy0, .int cy1, .int ds, .ref m4, .ref m5, .ref m6, .ref m7, .ref m8, .ref m9, .int pn, .ref m10, .ref m11, .ref m12, .ref m13]))]) [0] rfl
    have hD9 := hD.sub (ws' := [(h0, .inr (9, [.ref m1, .ref m2, .ref m3, .int ik, .int (nI 6), .int op, .int cl, .int cx0, .int cx1, .int cy0, .int cy1, .int ds, .ref m4, .ref m5, .ref m6, .ref m7, .ref m8, .ref m9, .int pn, .ref m10, .ref m11, .ref m12, .ref m13]))]) [0] (by decide) rfl
    have hK9 := hK.sub (tys' := []) [] rfl
    refine hQ _ _ _ _ _ ?_
    exact W.iret (v := 0) hx hb hr (fun t ht hW => ⟨⟨0, (), rfl, (by subst_vars; rfl), ⟨by rw [ht]; exact hP9, va_K.moved hW.alike hK9, hD9⟩⟩, hS.F ht⟩) hS.2.2 dX9_sourcePart_81
  · skip
    refine lv_tableIn (off := 68) (tgt := 72) hx hb dX9_sourcePart_4 (by decide) (by decide) rfl (by decide) ?_
    refine lv_sipush (v := 255) hx hb dX9_sourcePart_72 (by decide) ?_
    refine lv_iload_n hx hb dX9_sourcePart_75 rfl (lv_at hl 2 rfl) ?_
    refine lv_isub hx hb dX9_sourcePart_76 ?_
    refine lv_topi (fun y_2 ey_2 => ?_)
    have hP9 := hP.sub (ws' := [(h0, .inr (9, [.ref m1, .ref m2, .ref m3, .int ik, .int (nI 7), .int op, .int cl, .int cx0, .int cx1, .int cy0, .int cy1, .int ds, .ref m4, .ref m5, .ref m6, .ref m7, .ref m8, .ref m9, .int pn, .ref m10, .ref m11, .ref m12, .ref m13]))]) [0] rfl
    have hD9 := hD.sub (ws' := [(h0, .inr (9, [.ref m1, .ref m2, .ref m3, .int ik, .int (nI 7), .int op, .int cl, .int cx0, .int cx1, .int cy0, .int cy1, .int ds, .ref m4, .ref m5, .ref m6, .ref m7, .ref m8, .ref m9, .int pn, .ref m10, .ref m11, .ref m12, .ref m13]))]) [0] (by decide) rfl
    have hK9 := hK.sub (tys' := []) [] rfl
    refine hQ _ _ _ _ _ ?_
    exact W.iret (v := y_2) hx hb hr (fun t ht hW => ⟨⟨y_2, (), rfl, (by subst_vars; rfl), ⟨by rw [ht]; exact hP9, va_K.moved hW.alike hK9, hD9⟩⟩, hS.F ht⟩) hS.2.2 dX9_sourcePart_77
  · skip
    refine lv_tableIn (off := 76) (tgt := 80) hx hb dX9_sourcePart_4 (by decide) (by decide) rfl (by decide) ?_
    refine lv_iconst (v := 0) hx hb dX9_sourcePart_80 (by decide) ?_
    have hP9 := hP.sub (ws' := [(h0, .inr (9, [.ref m1, .ref m2, .ref m3, .int ik, .int (nI 8), .int op, .int cl, .int cx0, .int cx1, .int cy0, .int cy1, .int ds, .ref m4, .ref m5, .ref m6, .ref m7, .ref m8, .ref m9, .int pn, .ref m10, .ref m11, .ref m12, .ref m13]))]) [0] rfl
    have hD9 := hD.sub (ws' := [(h0, .inr (9, [.ref m1, .ref m2, .ref m3, .int ik, .int (nI 8), .int op, .int cl, .int cx0, .int cx1, .int cy0, .int cy1, .int ds, .ref m4, .ref m5, .ref m6, .ref m7, .ref m8, .ref m9, .int pn, .ref m10, .ref m11, .ref m12, .ref m13]))]) [0] (by decide) rfl
    have hK9 := hK.sub (tys' := []) [] rfl
    refine hQ _ _ _ _ _ ?_
    exact W.iret (v := 0) hx hb hr (fun t ht hW => ⟨⟨0, (), rfl, (by subst_vars; rfl), ⟨by rw [ht]; exact hP9, va_K.moved hW.alike hK9, hD9⟩⟩, hS.F ht⟩) hS.2.2 dX9_sourcePart_81
  · skip
    refine lv_tableIn (off := 74) (tgt := 78) hx hb dX9_sourcePart_4 (by decide) (by decide) rfl (by decide) ?_
    refine lv_iload_n hx hb dX9_sourcePart_78 rfl (lv_at hl 2 rfl) ?_
    have hP9 := hP.sub (ws' := [(h0, .inr (9, [.ref m1, .ref m2, .ref m3, .int ik, .int (nI 9), .int op, .int cl, .int cx0, .int cx1, .int cy0, .int cy1, .int ds, .ref m4, .ref m5, .ref m6, .ref m7, .ref m8, .ref m9, .int pn, .ref m10, .ref m11, .ref m12, .ref m13]))]) [0] rfl
    have hD9 := hD.sub (ws' := [(h0, .inr (9, [.ref m1, .ref m2, .ref m3, .int ik, .int (nI 9), .int op, .int cl, .int cx0, .int cx1, .int cy0, .int cy1, .int ds, .ref m4, .ref m5, .ref m6, .ref m7, .ref m8, .ref m9, .int pn, .ref m10, .ref m11, .ref m12, .ref m13]))]) [0] (by decide) rfl
    have hK9 := hK.sub (tys' := []) [] rfl
    refine hQ _ _ _ _ _ ?_
    exact W.iret (v := d) hx hb hr (fun t ht hW => ⟨⟨d, (), rfl, (by subst_vars; rfl), ⟨by rw [ht]; exact hP9, va_K.moved hW.alike hK9, hD9⟩⟩, hS.F ht⟩) hS.2.2 dX9_sourcePart_79
  · skip
    refine lv_tableIn (off := 68) (tgt := 72) hx hb dX9_sourcePart_4 (by decide) (by decide) rfl (by decide) ?_
    refine lv_sipush (v := 255) hx hb dX9_sourcePart_72 (by decide) ?_
    refine lv_iload_n hx hb dX9_sourcePart_75 rfl (lv_at hl 2 rfl) ?_
    refine lv_isub hx hb dX9_sourcePart_76 ?_
    refine lv_topi (fun y_3 ey_3 => ?_)
    have hP9 := hP.sub (ws' := [(h0, .inr (9, [.ref m1, .ref m2, .ref m3, .int ik, .int (nI 10), .int op, .int cl, .int cx0, .int cx1, .int cy0, .int cy1, .int ds, .ref m4, .ref m5, .ref m6, .ref m7, .ref m8, .ref m9, .int pn, .ref m10, .ref m11, .ref m12, .ref m13]))]) [0] rfl
    have hD9 := hD.sub (ws' := [(h0, .inr (9, [.ref m1, .ref m2, .ref m3, .int ik, .int (nI 10), .int op, .int cl, .int cx0, .int cx1, .int cy0, .int cy1, .int ds, .ref m4, .ref m5, .ref m6, .ref m7, .ref m8, .ref m9, .int pn, .ref m10, .ref m11, .ref m12, .ref m13]))]) [0] (by decide) rfl
    have hK9 := hK.sub (tys' := []) [] rfl
    refine hQ _ _ _ _ _ ?_
    exact W.iret (v := y_3) hx hb hr (fun t ht hW => ⟨⟨y_3, (), rfl, (by subst_vars; rfl), ⟨by rw [ht]; exact hP9, va_K.moved hW.alike hK9, hD9⟩⟩, hS.F ht⟩) hS.2.2 dX9_sourcePart_77
  · skip
    refine lv_tableIn (off := 68) (tgt := 72) hx hb dX9_sourcePart_4 (by decide) (by decide) rfl (by decide) ?_
    refine lv_sipush (v := 255) hx hb dX9_sourcePart_72 (by decide) ?_
    refine lv_iload_n hx hb dX9_sourcePart_75 rfl (lv_at hl 2 rfl) ?_
    refine lv_isub hx hb dX9_sourcePart_76 ?_
    refine lv_topi (fun y_4 ey_4 => ?_)
    have hP9 := hP.sub (ws' := [(h0, .inr (9, [.ref m1, .ref m2, .ref m3, .int ik, .int (nI 11), .int op, .int cl, .int cx0, .int cx1, .int cy0, .int cy1, .int ds, .ref m4, .ref m5, .ref m6, .ref m7, .ref m8, .ref m9, .int pn, .ref m10, .ref m11, .ref m12, .ref m13]))]) [0] rfl
    have hD9 := hD.sub (ws' := [(h0, .inr (9, [.ref m1, .ref m2, .ref m3, .int ik, .int (nI 11), .int op, .int cl, .int cx0, .int cx1, .int cy0, .int cy1, .int ds, .ref m4, .ref m5, .ref m6, .ref m7, .ref m8, .ref m9, .int pn, .ref m10, .ref m11, .ref m12, .ref m13]))]) [0] (by decide) rfl
    have hK9 := hK.sub (tys' := []) [] rfl
    refine hQ _ _ _ _ _ ?_
    exact W.iret (v := y_4) hx hb hr (fun t ht hW => ⟨⟨y_4, (), rfl, (by subst_vars; rfl), ⟨by rw [ht]; exact hP9, va_K.moved hW.alike hK9, hD9⟩⟩, hS.F ht⟩) hS.2.2 dX9_sourcePart_77
  · skip
    refine lv_tableIn (off := 64) (tgt := 68) hx hb dX9_sourcePart_4 (by decide) (by decide) rfl (by decide) ?_
    refine lv_sipush (v := 255) hx hb dX9_sourcePart_68 (by decide) ?_
    have hP9 := hP.sub (ws' := [(h0, .inr (9, [.ref m1, .ref m2, .ref m3, .int ik, .int (nI 12), .int op, .int cl, .int cx0, .int cx1, .int cy0, .int cy1, .int ds, .ref m4, .ref m5, .ref m6, .ref m7, .ref m8, .ref m9, .int pn, .ref m10, .ref m11, .ref m12, .ref m13]))]) [0] rfl
    have hD9 := hD.sub (ws' := [(h0, .inr (9, [.ref m1, .ref m2, .ref m3, .int ik, .int (nI 12), .int op, .int cl, .int cx0, .int cx1, .int cy0, .int cy1, .int ds, .ref m4, .ref m5, .ref m6, .ref m7, .ref m8, .ref m9, .int pn, .ref m10, .ref m11, .ref m12, .ref m13]))]) [0] (by decide) rfl
    have hK9 := hK.sub (tys' := []) [] rfl
    refine hQ _ _ _ _ _ ?_
    exact W.iret (v := 255) hx hb hr (fun t ht hW => ⟨⟨255, (), rfl, (by subst_vars; rfl), ⟨by rw [ht]; exact hP9, va_K.moved hW.alike hK9, hD9⟩⟩, hS.F ht⟩) hS.2.2 dX9_sourcePart_71

set_option maxHeartbeats 4000000 in
set_option maxRecDepth 100000 in
theorem k_X9_otherPart (l : Launch) (D : va_G) (sz : Nat) (h0 m1 m2 m3 m4 m5 m6 m7 m8 m9 m10 m11 m12 m13 : Nat) (ik wy op cl cx0 cx1 cy0 cy1 ds pn : Int32) (n d : Int32) (hwy : 0 ≤ wy.toInt ∧ wy.toInt ≤ 12) : Met l yX9_otherPart (wB yX9_otherPart cX9_otherPart 3 (some .int)) ({ frames := 0, cells := 0, slots := 0, locals := 0 }) (cP D [(h0, .inr (9, [.ref m1, .ref m2, .ref m3, .int ik, .int wy, .int op, .int cl, .int cx0, .int cx1, .int cy0, .int cy1, .int ds, .ref m4, .ref m5, .ref m6, .ref m7, .ref m8, .ref m9, .int pn, .ref m10, .ref m11, .ref m12, .ref m13]))] [] sz [.ref h0, .int n, .int d]) (va_Qi (fun (r : Int32) (_ : Unit) => r = wTP wy n) (fun (_ : Unit) (t : State) => cB D (va_A [(h0, .inr (9, [.ref m1, .ref m2, .ref m3, .int ik, .int wy, .int op, .int cl, .int cx0, .int cx1, .int cy0, .int cy1, .int ds, .ref m4, .ref m5, .ref m6, .ref m7, .ref m8, .ref m9, .int pn, .ref m10, .ref m11, .ref m12, .ref m13]))] sz) [(h0, .inr (9, [.ref m1, .ref m2, .ref m3, .int ik, .int wy, .int op, .int cl, .int cx0, .int cx1, .int cy0, .int cy1, .int ds, .ref m4, .ref m5, .ref m6, .ref m7, .ref m8, .ref m9, .int pn, .ref m10, .ref m11, .ref m12, .ref m13]))] [] t) (va_A [(h0, .inr (9, [.ref m1, .ref m2, .ref m3, .int ik, .int wy, .int op, .int cl, .int cx0, .int cx1, .int cy0, .int cy1, .int ds, .ref m4, .ref m5, .ref m6, .ref m7, .ref m8, .ref m9, .int pn, .ref m10, .ref m11, .ref m12, .ref m13]))] sz)) 0 0 (va_A [(h0, .inr (9, [.ref m1, .ref m2, .ref m3, .int ik, .int wy, .int op, .int cl, .int cx0, .int cx1, .int cy0, .int cy1, .int ds, .ref m4, .ref m5, .ref m6, .ref m7, .ref m8, .ref m9, .int pn, .ref m10, .ref m11, .ref m12, .ref m13]))] sz) := by
  refine Met.ofW (cc := cX9_otherPart) (maxL := 3) (ret := (some .int)) (by decide) rfl ?_
  intro p e s m args below meth c s₁ B hml hv
  obtain ⟨rfl, hsz, hP, hK, hD0, hN⟩ := hv
  have hx := B.exec
  have hb := B.bytes
  have hr := B.returns
  have hts0 := atoms_spec (ws := (wB yX9_otherPart cX9_otherPart 3 (some .int))) B.pre
  have hts : ∀ w ∈ bigW, w.before _ s = true := fun w h => hts0 w (List.mem_cons_of_mem _ h)
  have hown : s.vm.findClass RX9 = some m.cls := findClass_of_methodNamed B.named
  have hlocks := B.notSynchronized
  subst hsz
  have hD := hD0.self (sz := s.heap.size)
  generalize hAe : va_A [(h0, .inr (9, [.ref m1, .ref m2, .ref m3, .int ik, .int wy, .int op, .int cl, .int cx0, .int cx1, .int cy0, .int cy1, .int ds, .ref m4, .ref m5, .ref m6, .ref m7, .ref m8, .ref m9, .int pn, .ref m10, .ref m11, .ref m12, .ref m13]))] s.heap.size = A at hD ⊢
  have hA : ∀ q : Nat, s.heap.size ≤ q → A q := fun q h => by rw [← hAe]; exact Or.inr h
  have hS : va_S A s.heap s.heap [] := va_S.rf
  have hP : va_P D vwCl [(h0, .inr (9, [.ref m1, .ref m2, .ref m3, .int ik, .int wy, .int op, .int cl, .int cx0, .int cx1, .int cy0, .int cy1, .int ds, .ref m4, .ref m5, .ref m6, .ref m7, .ref m8, .ref m9, .int pn, .ref m10, .ref m11, .ref m12, .ref m13]))] s.heap := hP
  have hl := lv_entry ([.ref h0, .int n, .int d]) (n := 3) (Nat.le_of_ble_eq_true rfl)
  rw [lg_entry_eq]
  generalize (lg_sl ([.ref h0, .int n, .int d]) ++ List.replicate (3 - (lg_sl ([.ref h0, .int n, .int d])).length) Slot.unset).toArray = ls at hl ⊢
  have hl : lv_has ls 3 [(0, .ref h0), (1, .int n), (2, .int d)] := hl
  clear hts0 hD0 hAe
  refine my_abs (fun R Q hR hQ => ?_)
  refine lv_aload_n hx hb dX9_otherPart_0 rfl (lv_at hl 0 rfl) ?_
  refine va_get (D := D) (ci := 9) (v := .int wy) (C := RX9) (T := TX9) (N := 23) hx hb hts hi_X9 hown hK hP 0 rfl rfl 4 (by decide) (hts _ bw_400) (fun _ h9 => h9) rfl dX9_otherPart_1 ?_
  obtain ⟨j, hj, ej⟩ := i_of (x := wy) (N := 13) (by omega) (by omega) (by decide)
  subst ej
  rcases (show j = 0 ∨ j = 1 ∨ j = 2 ∨ j = 3 ∨ j = 4 ∨ j = 5 ∨ j = 6 ∨ j = 7 ∨ j = 8 ∨ j = 9 ∨ j = 10 ∨ j = 11 ∨ j = 12 by omega) with rfl | rfl | rfl | rfl | rfl | rfl | rfl | rfl | rfl | rfl | rfl | rfl | rfl
  · skip
    refine lv_tableOut (tgt := 76) hx hb dX9_otherPart_4 (by decide) (by decide) ?_
    refine lv_iconst (v := 0) hx hb dX9_otherPart_76 (by decide) ?_
    have hP9 := hP.sub (ws' := [(h0, .inr (9, [.ref m1, .ref m2, .ref m3, .int ik, .int (nI 0), .int op, .int cl, .int cx0, .int cx1, .int cy0, .int cy1, .int ds, .ref m4, .ref m5, .ref m6, .ref m7, .ref m8, .ref m9, .int pn, .ref m10, .ref m11, .ref m12, .ref m13]))]) [0] rfl
    have hD9 := hD.sub (ws' := [(h0, .inr (9, [.ref m1, .ref m2, .ref m3, .int ik, .int (nI 0), .int op, .int cl, .int cx0, .int cx1, .int cy0, .int cy1, .int ds, .ref m4, .ref m5, .ref m6, .ref m7, .ref m8, .ref m9, .int pn, .ref m10, .ref m11, .ref m12, .ref m13]))]) [0] (by decide) rfl
    have hK9 := hK.sub (tys' := []) [] rfl
    refine hQ _ _ _ _ _ ?_
    exact W.iret (v := 0) hx hb hr (fun t ht hW => ⟨⟨0, (), rfl, (by subst_vars; rfl), ⟨by rw [ht]; exact hP9, va_K.moved hW.alike hK9, hD9⟩⟩, hS.F ht⟩) hS.2.2 dX9_otherPart_77
  · skip
    refine lv_tableOut (tgt := 76) hx hb dX9_otherPart_4 (by decide) (by decide) ?_
    refine lv_iconst (v := 0) hx hb dX9_otherPart_76 (by decide) ?_
    have hP9 := hP.sub (ws' := [(h0, .inr (9, [.ref m1, .ref m2, .ref m3, .int ik, .int (nI 1), .int op, .int cl, .int cx0, .int cx1, .int cy0, .int cy1, .int ds, .ref m4, .ref m5, .ref m6, .ref m7, .ref m8, .ref m9, .int pn, .ref m10, .ref m11, .ref m12, .ref m13]))]) [0] rfl
    have hD9 := hD.sub (ws' := [(h0, .inr (9, [.ref m1, .ref m2, .ref m3, .int ik, .int (nI 1), .int op, .int cl, .int cx0, .int cx1, .int cy0, .int cy1, .int ds, .ref m4, .ref m5, .ref m6, .ref m7, .ref m8, .ref m9, .int pn, .ref m10, .ref m11, .ref m12, .ref m13]))]) [0] (by decide) rfl
    have hK9 := hK.sub (tys' := []) [] rfl
    refine hQ _ _ _ _ _ ?_
    exact W.iret (v := 0) hx hb hr (fun t ht hW => ⟨⟨0, (), rfl, (by subst_vars; rfl), ⟨by rw [ht]; exact hP9, va_K.moved hW.alike hK9, hD9⟩⟩, hS.F ht⟩) hS.2.2 dX9_otherPart_77
  · skip
    refine lv_tableIn (off := 60) (tgt := 64) hx hb dX9_otherPart_4 (by decide) (by decide) rfl (by decide) ?_
    refine lv_sipush (v := 255) hx hb dX9_otherPart_64 (by decide) ?_
    have hP9 := hP.sub (ws' := [(h0, .inr (9, [.ref m1, .ref m2, .ref m3, .int ik, .int (nI 2), .int op, .int cl, .int cx0, .int cx1, .int cy0, .int cy1, .int ds, .ref m4, .ref m5, .ref m6, .ref m7, .ref m8, .ref m9, .int pn, .ref m10, .ref m11, .ref m12, .ref m13]))]) [0] rfl
    have hD9 := hD.sub (ws' := [(h0, .inr (9, [.ref m1, .ref m2, .ref m3, .int ik, .int (nI 2), .int op, .int cl, .int cx0, .int cx1, .int cy0, .int cy1, .int ds, .ref m4, .ref m5, .ref m6, .ref m7, .ref m8, .ref m9, .int pn, .ref m10, .ref m11, .ref m12, .ref m13]))]) [0] (by decide) rfl
    have hK9 := hK.sub (tys' := []) [] rfl
    refine hQ _ _ _ _ _ ?_
    exact W.iret (v := 255) hx hb hr (fun t ht hW => ⟨⟨255, (), rfl, (by subst_vars; rfl), ⟨by rw [ht]; exact hP9, va_K.moved hW.alike hK9, hD9⟩⟩, hS.F ht⟩) hS.2.2 dX9_otherPart_67
  · skip
    refine lv_tableIn (off := 64) (tgt := 68) hx hb dX9_otherPart_4 (by decide) (by decide) rfl (by decide) ?_
    refine lv_sipush (v := 255) hx hb dX9_otherPart_68 (by decide) ?_
    refine lv_iload_n hx hb dX9_otherPart_71 rfl (lv_at hl 1 rfl) ?_
    refine lv_isub hx hb dX9_otherPart_72 ?_
    refine lv_topi (fun y_1 ey_1 => ?_)
    have hP9 := hP.sub (ws' := [(h0, .inr (9, [.ref m1, .ref m2, .ref m3, .int ik, .int (nI 3), .int op, .int cl, .int cx0, .int cx1, .int cy0, .int cy1, .int ds, .ref m4, .ref m5, .ref m6, .ref m7, .ref m8, .ref m9, .int pn, .ref m10, .ref m11, .ref m12, .ref m13]))]) [0] rfl
    have hD9 := hD.sub (ws' := [(h0, .inr (9, [.ref m1, .ref m2, .ref m3, .int ik, .int (nI 3), .int op, .int cl, .int cx0, .int cx1, .int cy0, .int cy1, .int ds, .ref m4, .ref m5, .ref m6, .ref m7, .ref m8, .ref m9, .int pn, .ref m10, .ref m11, .ref m12, .ref m13]))]) [0] (by decide) rfl
    have hK9 := hK.sub (tys' := []) [] rfl
    refine hQ _ _ _ _ _ ?_
    exact W.iret (v := y_1) hx hb hr (fun t ht hW => ⟨⟨y_1, (), rfl, (by subst_vars; rfl), ⟨by rw [ht]; exact hP9, va_K.moved hW.alike hK9, hD9⟩⟩, hS.F ht⟩) hS.2.2 dX9_otherPart_73
  · skip
    refine lv_tableIn (off := 60) (tgt := 64) hx hb dX9_otherPart_4 (by decide) (by decide) rfl (by decide) ?_
    refine lv_sipush (v := 255) hx hb dX9_otherPart_64 (by decide) ?_
    have hP9 := hP.sub (ws' := [(h0, .inr (9, [.ref m1, .ref m2, .ref m3, .int ik, .int (nI 4), .int op, .int cl, .int cx0, .int cx1, .int cy0, .int cy1, .int ds, .ref m4, .ref m5, .ref m6, .ref m7, .ref m8, .ref m9, .int pn, .ref m10, .ref m11, .ref m12, .ref m13]))]) [0] rfl
    have hD9 := hD.sub (ws' := [(h0, .inr (9, [.ref m1, .ref m2, .ref m3, .int ik, .int (nI 4), .int op, .int cl, .int cx0, .int cx1, .int cy0, .int cy1, .int ds, .ref m4, .ref m5, .ref m6, .ref m7, .ref m8, .ref m9, .int pn, .ref m10, .ref m11, .ref m12, .ref m13]))]) [0] (by decide) rfl
    have hK9 := hK.sub (tys' := []) [] rfl
    refine hQ _ _ _ _ _ ?_
    exact W.iret (v := 255) hx hb hr (fun t ht hW => ⟨⟨255, (), rfl, (by subst_vars; rfl), ⟨by rw [ht]; exact hP9, va_K.moved hW.alike hK9, hD9⟩⟩, hS.F ht⟩) hS.2.2 dX9_otherPart_67
  · skip
    refine lv_tableIn (off := 72) (tgt := 76) hx hb dX9_otherPart_4 (by decide) (by decide) rfl (by decide) ?_
    refine lv_iconst (v := 0) hx hb dX9_otherPart_76 (by decide) ?_
    have hP9 := hP.sub (ws' := [(h0, .inr (9, [.ref m1, .ref m2, .ref m3, .int ik, .int (nI 5), .int op, .int cl, .int cx0, .int cx1, .int cy0, .int cy1, .int ds, .ref m4, .ref m5, .ref m6, .ref m7, .ref m8, .ref m9, .int pn, .ref m10, .ref m11, .ref m12, .ref m13]))]) [0] rfl
    have hD9 := hD.sub (ws' := [(h0, .inr (9, [.ref m1, .ref m2, .ref m3, .int ik, .int (nI 5), .int op, .int cl, .int cx0, .int cx1, .int cy0, .int cy1, .int ds, .ref m4, .ref m5, .ref m6, .ref m7, .ref m8, .ref m9, .int pn, .ref m10, .ref m11, .ref m12, .ref m13]))]) [0] (by decide) rfl
    have hK9 := hK.sub (tys' := []) [] rfl
    refine hQ _ _ _ _ _ ?_
    exact W.iret (v := 0) hx hb hr (fun t ht hW => ⟨⟨0, (), rfl, (by subst_vars; rfl), ⟨by rw [ht]; exact hP9, va_K.moved hW.alike hK9, hD9⟩⟩, hS.F ht⟩) hS.2.2 dX9_otherPart_77
  · skip
    refine lv_tableIn (off := 70) (tgt := 74) hx hb dX9_otherPart_4 (by decide) (by decide) rfl (by decide) ?_
    refine lv_iload_n hx hb dX9_otherPart_74 rfl (lv_at hl 1 rfl) ?_
    have hP9 := hP.sub (ws' := [(h0, .inr (9, [.ref m1, .ref m2, .ref m3, .int ik, .int (nI 6), .int op, .int cl, .int cx0, .int cx1, .int cy0, .int cy1, .int ds, .ref m4, .ref m5, .ref m6, .ref m7, .ref m8, .ref m9, .int pn, .ref m10, .ref m11, .ref m12, .ref m13]))]) [0] rfl
    have hD9 := hD.sub (ws' := [(h0, .inr (9, [.ref m1, .ref m2, .ref m3, .int ik, .int (nI 6), .int op, .int cl, .int cx0, .int cx1, .int cy0, .int cy1, .int ds, .ref m4, .ref m5, .ref m6, .ref m7, .ref m8, .ref m9, .int pn, .ref m10, .ref m11, .ref m12, .ref m13]))]) [0] (by decide) rfl
    have hK9 := hK.sub (tys' := []) [] rfl
    refine hQ _ _ _ _ _ ?_
    exact W.iret (v := n) hx hb hr (fun t ht hW => ⟨⟨n, (), rfl, (by subst_vars; rfl), ⟨by rw [ht]; exact hP9, va_K.moved hW.alike hK9, hD9⟩⟩, hS.F ht⟩) hS.2.2 dX9_otherPart_75
  · skip
    refine lv_tableIn (off := 72) (tgt := 76) hx hb dX9_otherPart_4 (by decide) (by decide) rfl (by decide) ?_
    refine lv_iconst (v := 0) hx hb dX9_otherPart_76 (by decide) ?_
    have hP9 := hP.sub (ws' := [(h0, .inr (9, [.ref m1, .ref m2, .ref m3, .int ik, .int (nI 7), .int op, .int cl, .int cx0, .int cx1, .int cy0, .int cy1, .int ds, .ref m4, .ref m5, .ref m6, .ref m7, .ref m8, .ref m9, .int pn, .ref m10, .ref m11, .ref m12, .ref m13]))]) [0] rfl
    have hD9 := hD.sub (ws' := [(h0, .inr (9, [.ref m1, .ref m2, .ref m3, .int ik, .int (nI 7), .int op, .int cl, .int cx0, .int cx1, .int cy0, .int cy1, .int ds, .ref m4, .ref m5, .ref m6, .ref m7, .ref m8, .ref m9, .int pn, .ref m10, .ref m11, .ref m12, .ref m13]))]) [0] (by decide) rfl
    have hK9 := hK.sub (tys' := []) [] rfl
    refine hQ _ _ _ _ _ ?_
    exact W.iret (v := 0) hx hb hr (fun t ht hW => ⟨⟨0, (), rfl, (by subst_vars; rfl), ⟨by rw [ht]; exact hP9, va_K.moved hW.alike hK9, hD9⟩⟩, hS.F ht⟩) hS.2.2 dX9_otherPart_77
  · skip
    refine lv_tableIn (off := 64) (tgt := 68) hx hb dX9_otherPart_4 (by decide) (by decide) rfl (by decide) ?_
    refine lv_sipush (v := 255) hx hb dX9_otherPart_68 (by decide) ?_
    refine lv_iload_n hx hb dX9_otherPart_71 rfl (lv_at hl 1 rfl) ?_
    refine lv_isub hx hb dX9_otherPart_72 ?_
    refine lv_topi (fun y_2 ey_2 => ?_)
    have hP9 := hP.sub (ws' := [(h0, .inr (9, [.ref m1, .ref m2, .ref m3, .int ik, .int (nI 8), .int op, .int cl, .int cx0, .int cx1, .int cy0, .int cy1, .int ds, .ref m4, .ref m5, .ref m6, .ref m7, .ref m8, .ref m9, .int pn, .ref m10, .ref m11, .ref m12, .ref m13]))]) [0] rfl
    have hD9 := hD.sub (ws' := [(h0, .inr (9, [.ref m1, .ref m2, .ref m3, .int ik, .int (nI 8), .int op, .int cl, .int cx0, .int cx1, .int cy0, .int cy1, .int ds, .ref m4, .ref m5, .ref m6, .ref m7, .ref m8, .ref m9, .int pn, .ref m10, .ref m11, .ref m12, .ref m13]))]) [0] (by decide) rfl
    have hK9 := hK.sub (tys' := []) [] rfl
    refine hQ _ _ _ _ _ ?_
    exact W.iret (v := y_2) hx hb hr (fun t ht hW => ⟨⟨y_2, (), rfl, (by subst_vars; rfl), ⟨by rw [ht]; exact hP9, va_K.moved hW.alike hK9, hD9⟩⟩, hS.F ht⟩) hS.2.2 dX9_otherPart_73
  · skip
    refine lv_tableIn (off := 64) (tgt := 68) hx hb dX9_otherPart_4 (by decide) (by decide) rfl (by decide) ?_
    refine lv_sipush (v := 255) hx hb dX9_otherPart_68 (by decide) ?_
    refine lv_iload_n hx hb dX9_otherPart_71 rfl (lv_at hl 1 rfl) ?_
    refine lv_isub hx hb dX9_otherPart_72 ?_
    refine lv_topi (fun y_3 ey_3 => ?_)
    have hP9 := hP.sub (ws' := [(h0, .inr (9, [.ref m1, .ref m2, .ref m3, .int ik, .int (nI 9), .int op, .int cl, .int cx0, .int cx1, .int cy0, .int cy1, .int ds, .ref m4, .ref m5, .ref m6, .ref m7, .ref m8, .ref m9, .int pn, .ref m10, .ref m11, .ref m12, .ref m13]))]) [0] rfl
    have hD9 := hD.sub (ws' := [(h0, .inr (9, [.ref m1, .ref m2, .ref m3, .int ik, .int (nI 9), .int op, .int cl, .int cx0, .int cx1, .int cy0, .int cy1, .int ds, .ref m4, .ref m5, .ref m6, .ref m7, .ref m8, .ref m9, .int pn, .ref m10, .ref m11, .ref m12, .ref m13]))]) [0] (by decide) rfl
    have hK9 := hK.sub (tys' := []) [] rfl
    refine hQ _ _ _ _ _ ?_
    exact W.iret (v := y_3) hx hb hr (fun t ht hW => ⟨⟨y_3, (), rfl, (by subst_vars; rfl), ⟨by rw [ht]; exact hP9, va_K.moved hW.alike hK9, hD9⟩⟩, hS.F ht⟩) hS.2.2 dX9_otherPart_73
  · skip
    refine lv_tableIn (off := 70) (tgt := 74) hx hb dX9_otherPart_4 (by decide) (by decide) rfl (by decide) ?_
    refine lv_iload_n hx hb dX9_otherPart_74 rfl (lv_at hl 1 rfl) ?_
    have hP9 := hP.sub (ws' := [(h0, .inr (9, [.ref m1, .ref m2, .ref m3, .int ik, .int (nI 10), .int op, .int cl, .int cx0, .int cx1, .int cy0, .int cy1, .int ds, .ref m4, .ref m5, .ref m6, .ref m7, .ref m8, .ref m9, .int pn, .ref m10, .ref m11, .ref m12, .ref m13]))]) [0] rfl
    have hD9 := hD.sub (ws' := [(h0, .inr (9, [.ref m1, .ref m2, .ref m3, .int ik, .int (nI 10), .int op, .int cl, .int cx0, .int cx1, .int cy0, .int cy1, .int ds, .ref m4, .ref m5, .ref m6, .ref m7, .ref m8, .ref m9, .int pn, .ref m10, .ref m11, .ref m12, .ref m13]))]) [0] (by decide) rfl
    have hK9 := hK.sub (tys' := []) [] rfl
    refine hQ _ _ _ _ _ ?_
    exact W.iret (v := n) hx hb hr (fun t ht hW => ⟨⟨n, (), rfl, (by subst_vars; rfl), ⟨by rw [ht]; exact hP9, va_K.moved hW.alike hK9, hD9⟩⟩, hS.F ht⟩) hS.2.2 dX9_otherPart_75
  · skip
    refine lv_tableIn (off := 64) (tgt := 68) hx hb dX9_otherPart_4 (by decide) (by decide) rfl (by decide) ?_
    refine lv_sipush (v := 255) hx hb dX9_otherPart_68 (by decide) ?_
    refine lv_iload_n hx hb dX9_otherPart_71 rfl (lv_at hl 1 rfl) ?_
    refine lv_isub hx hb dX9_otherPart_72 ?_
    refine lv_topi (fun y_4 ey_4 => ?_)
    have hP9 := hP.sub (ws' := [(h0, .inr (9, [.ref m1, .ref m2, .ref m3, .int ik, .int (nI 11), .int op, .int cl, .int cx0, .int cx1, .int cy0, .int cy1, .int ds, .ref m4, .ref m5, .ref m6, .ref m7, .ref m8, .ref m9, .int pn, .ref m10, .ref m11, .ref m12, .ref m13]))]) [0] rfl
    have hD9 := hD.sub (ws' := [(h0, .inr (9, [.ref m1, .ref m2, .ref m3, .int ik, .int (nI 11), .int op, .int cl, .int cx0, .int cx1, .int cy0, .int cy1, .int ds, .ref m4, .ref m5, .ref m6, .ref m7, .ref m8, .ref m9, .int pn, .ref m10, .ref m11, .ref m12, .ref m13]))]) [0] (by decide) rfl
    have hK9 := hK.sub (tys' := []) [] rfl
    refine hQ _ _ _ _ _ ?_
    exact W.iret (v := y_4) hx hb hr (fun t ht hW => ⟨⟨y_4, (), rfl, (by subst_vars; rfl), ⟨by rw [ht]; exact hP9, va_K.moved hW.alike hK9, hD9⟩⟩, hS.F ht⟩) hS.2.2 dX9_otherPart_73
  · skip
    refine lv_tableIn (off := 60) (tgt := 64) hx hb dX9_otherPart_4 (by decide) (by decide) rfl (by decide) ?_
    refine lv_sipush (v := 255) hx hb dX9_otherPart_64 (by decide) ?_
    have hP9 := hP.sub (ws' := [(h0, .inr (9, [.ref m1, .ref m2, .ref m3, .int ik, .int (nI 12), .int op, .int cl, .int cx0, .int cx1, .int cy0, .int cy1, .int ds, .ref m4, .ref m5, .ref m6, .ref m7, .ref m8, .ref m9, .int pn, .ref m10, .ref m11, .ref m12, .ref m13]))]) [0] rfl
    have hD9 := hD.sub (ws' := [(h0, .inr (9, [.ref m1, .ref m2, .ref m3, .int ik, .int (nI 12), .int op, .int cl, .int cx0, .int cx1, .int cy0, .int cy1, .int ds, .ref m4, .ref m5, .ref m6, .ref m7, .ref m8, .ref m9, .int pn, .ref m10, .ref m11, .ref m12, .ref m13]))]) [0] (by decide) rfl
    have hK9 := hK.sub (tys' := []) [] rfl
    refine hQ _ _ _ _ _ ?_
    exact W.iret (v := 255) hx hb hr (fun t ht hW => ⟨⟨255, (), rfl, (by subst_vars; rfl), ⟨by rw [ht]; exact hP9, va_K.moved hW.alike hK9, hD9⟩⟩, hS.F ht⟩) hS.2.2 dX9_otherPart_67

set_option maxHeartbeats 4000000 in
set_option maxRecDepth 100000 in
theorem k_X9_laid (l : Launch) (D : va_G) (sz : Nat) (h0 m1 m2 m3 m4 m5 m6 m7 m8 m9 m10 m11 m12 m13 : Nat) (ik wy op cl cx0 cx1 cy0 cy1 ds pn : Int32) (n d v : Int32) (hwy : 0 ≤ wy.toInt ∧ wy.toInt ≤ 12) : Met l yX9_laid (wB yX9_laid cX9_laid 9 (some .int)) ({ frames := 1, cells := 0, slots := 0, locals := 22 }) (cP D [(h0, .inr (9, [.ref m1, .ref m2, .ref m3, .int ik, .int wy, .int op, .int cl, .int cx0, .int cx1, .int cy0, .int cy1, .int ds, .ref m4, .ref m5, .ref m6, .ref m7, .ref m8, .ref m9, .int pn, .ref m10, .ref m11, .ref m12, .ref m13]))] [] sz [.ref h0, .int n, .int d, .int v]) (va_Qi (fun (r : Int32) (_ : Unit) => r = laidP wy n d v) (fun (_ : Unit) (t : State) => cB D (va_A [(h0, .inr (9, [.ref m1, .ref m2, .ref m3, .int ik, .int wy, .int op, .int cl, .int cx0, .int cx1, .int cy0, .int cy1, .int ds, .ref m4, .ref m5, .ref m6, .ref m7, .ref m8, .ref m9, .int pn, .ref m10, .ref m11, .ref m12, .ref m13]))] sz) [(h0, .inr (9, [.ref m1, .ref m2, .ref m3, .int ik, .int wy, .int op, .int cl, .int cx0, .int cx1, .int cy0, .int cy1, .int ds, .ref m4, .ref m5, .ref m6, .ref m7, .ref m8, .ref m9, .int pn, .ref m10, .ref m11, .ref m12, .ref m13]))] [] t) (va_A [(h0, .inr (9, [.ref m1, .ref m2, .ref m3, .int ik, .int wy, .int op, .int cl, .int cx0, .int cx1, .int cy0, .int cy1, .int ds, .ref m4, .ref m5, .ref m6, .ref m7, .ref m8, .ref m9, .int pn, .ref m10, .ref m11, .ref m12, .ref m13]))] sz)) 0 0 (va_A [(h0, .inr (9, [.ref m1, .ref m2, .ref m3, .int ik, .int wy, .int op, .int cl, .int cx0, .int cx1, .int cy0, .int cy1, .int ds, .ref m4, .ref m5, .ref m6, .ref m7, .ref m8, .ref m9, .int pn, .ref m10, .ref m11, .ref m12, .ref m13]))] sz) := by
  refine Met.ofW (cc := cX9_laid) (maxL := 9) (ret := (some .int)) (by decide) rfl ?_
  intro p e s m args below meth c s₁ B hml hv
  obtain ⟨rfl, hsz, hP, hK, hD0, hN⟩ := hv
  have hx := B.exec
  have hb := B.bytes
  have hr := B.returns
  have hts0 := atoms_spec (ws := (wB yX9_laid cX9_laid 9 (some .int))) B.pre
  have hts : ∀ w ∈ bigW, w.before _ s = true := fun w h => hts0 w (List.mem_cons_of_mem _ h)
  have hown : s.vm.findClass RX9 = some m.cls := findClass_of_methodNamed B.named
  have hlocks := B.notSynchronized
  subst hsz
  have hD := hD0.self (sz := s.heap.size)
  generalize hAe : va_A [(h0, .inr (9, [.ref m1, .ref m2, .ref m3, .int ik, .int wy, .int op, .int cl, .int cx0, .int cx1, .int cy0, .int cy1, .int ds, .ref m4, .ref m5, .ref m6, .ref m7, .ref m8, .ref m9, .int pn, .ref m10, .ref m11, .ref m12, .ref m13]))] s.heap.size = A at hD ⊢
  have hA : ∀ q : Nat, s.heap.size ≤ q → A q := fun q h => by rw [← hAe]; exact Or.inr h
  have hS : va_S A s.heap s.heap [] := va_S.rf
  have hP : va_P D vwCl [(h0, .inr (9, [.ref m1, .ref m2, .ref m3, .int ik, .int wy, .int op, .int cl, .int cx0, .int cx1, .int cy0, .int cy1, .int ds, .ref m4, .ref m5, .ref m6, .ref m7, .ref m8, .ref m9, .int pn, .ref m10, .ref m11, .ref m12, .ref m13]))] s.heap := hP
  have hl := lv_entry ([.ref h0, .int n, .int d, .int v]) (n := 9) (Nat.le_of_ble_eq_true rfl)
  rw [lg_entry_eq]
  generalize (lg_sl ([.ref h0, .int n, .int d, .int v]) ++ List.replicate (9 - (lg_sl ([.ref h0, .int n, .int d, .int v])).length) Slot.unset).toArray = ls at hl ⊢
  have hl : lv_has ls 9 [(0, .ref h0), (1, .int n), (2, .int d), (3, .int v)] := hl
  clear hts0 hD0 hAe
  refine my_abs (fun R Q hR hQ => ?_)
  refine lv_aload_n hx hb dX9_laid_0 rfl (lv_at hl 0 rfl) ?_
  refine lv_iload_n hx hb dX9_laid_1 rfl (lv_at hl 1 rfl) ?_
  refine lv_iconst (v := 0) hx hb dX9_laid_2 (by decide) ?_
  have hPc := hP.sub (ws' := []) [] rfl
  have hDc := hD.sub (ws' := []) [] (by decide) rfl
  have hKc := hK.sub (tys' := []) [] rfl
  have hFc := va_free (wc := []) hD hS hA [] rfl
  refine va_calli (va_runS (As := [.int n, .int 0]) (rest := [.ref h0]) ⟨hx, hb, hml, hown, hts⟩ (k_X9_channel_0 l D s.heap.size n) (va_cwS 2 hts (gS bw_441 bw_438 bw_391 bw_437) rfl rfl rfl (by decide +kernel) ⟨(by rw [hR]; exact Nat.le_of_ble_eq_true rfl), (by rw [hR]; exact Nat.le_of_ble_eq_true rfl)⟩) ⟨cP_blind, cP_at hPc hKc hDc hN⟩ rfl rfl hl.1 rfl (lv_room (Nat.le_of_ble_eq_true rfl)) dX9_laid_3 ⟨(by rw [hR]; exact Nat.le_of_ble_eq_true rfl), (by rw [hR]; exact Nat.le_of_ble_eq_true rfl)⟩) hS (fun q _ h => hFc q h) hFc (fun r_1 u9 t9 H1 locs ht hvm hr_1 hB hz1 hk1 hS => ?_)
  try dsimp only at hr_1
  have hP1 : va_P D vwCl [] H1 := vP_nil
  have hD1 : va_D (va_A [] s.heap.size) [] := vD_nil
  obtain ⟨hP, hD⟩ := va_join (wr := [(h0, .inr (9, [.ref m1, .ref m2, .ref m3, .int ik, .int wy, .int op, .int cl, .int cx0, .int cx1, .int cy0, .int cy1, .int ds, .ref m4, .ref m5, .ref m6, .ref m7, .ref m8, .ref m9, .int pn, .ref m10, .ref m11, .ref m12, .ref m13]))]) (w1 := []) hP hD [] [0] rfl rfl (by decide) (by decide) hk1 hFc hP1 hD1
  clear hz1 hk1 hFc hKc hDc hPc
  generalize H1 = H at hP hS ⊢
  have hP : va_P D vwCl [(h0, .inr (9, [.ref m1, .ref m2, .ref m3, .int ik, .int wy, .int op, .int cl, .int cx0, .int cx1, .int cy0, .int cy1, .int ds, .ref m4, .ref m5, .ref m6, .ref m7, .ref m8, .ref m9, .int pn, .ref m10, .ref m11, .ref m12, .ref m13]))] H := hP
  have hD : va_D A [(h0, .inr (9, [.ref m1, .ref m2, .ref m3, .int ik, .int wy, .int op, .int cl, .int cx0, .int cx1, .int cy0, .int cy1, .int ds, .ref m4, .ref m5, .ref m6, .ref m7, .ref m8, .ref m9, .int pn, .ref m10, .ref m11, .ref m12, .ref m13]))] := hD
  refine lv_iload_n hx hb dX9_laid_6 rfl (lv_at hl 2 rfl) ?_
  refine lv_iconst (v := 0) hx hb dX9_laid_7 (by decide) ?_
  have hPc := hP.sub (ws' := []) [] rfl
  have hDc := hD.sub (ws' := []) [] (by decide) rfl
  have hKc := hK.sub (tys' := []) [] rfl
  have hFc := va_free (wc := []) hD hS hA [] rfl
  refine va_calli (va_runS (As := [.int d, .int 0]) (rest := [.int r_1, .ref h0]) ⟨hx, hb, hml, hown, hts⟩ (k_X9_channel_0 l D H.size d) (va_cwS 2 hts (gS bw_441 bw_438 bw_391 bw_437) rfl rfl rfl (by decide +kernel) ⟨(by rw [hR]; exact Nat.le_of_ble_eq_true rfl), (by rw [hR]; exact Nat.le_of_ble_eq_true rfl)⟩) ⟨cP_blind, cP_at hPc hKc hDc hN⟩ rfl rfl hl.1 rfl (lv_room (Nat.le_of_ble_eq_true rfl)) dX9_laid_8 ⟨(by rw [hR]; exact Nat.le_of_ble_eq_true rfl), (by rw [hR]; exact Nat.le_of_ble_eq_true rfl)⟩) hS (fun q _ h => hFc q h) hFc (fun r_2 u9 t9 H1 locs ht hvm hr_2 hB hz1 hk1 hS => ?_)
  try dsimp only at hr_2
  have hP1 : va_P D vwCl [] H1 := vP_nil
  have hD1 : va_D (va_A [] H.size) [] := vD_nil
  obtain ⟨hP, hD⟩ := va_join (wr := [(h0, .inr (9, [.ref m1, .ref m2, .ref m3, .int ik, .int wy, .int op, .int cl, .int cx0, .int cx1, .int cy0, .int cy1, .int ds, .ref m4, .ref m5, .ref m6, .ref m7, .ref m8, .ref m9, .int pn, .ref m10, .ref m11, .ref m12, .ref m13]))]) (w1 := []) hP hD [] [0] rfl rfl (by decide) (by decide) hk1 hFc hP1 hD1
  clear hz1 hk1 hFc hKc hDc hPc
  generalize H1 = H at hP hS ⊢
  have hP : va_P D vwCl [(h0, .inr (9, [.ref m1, .ref m2, .ref m3, .int ik, .int wy, .int op, .int cl, .int cx0, .int cx1, .int cy0, .int cy1, .int ds, .ref m4, .ref m5, .ref m6, .ref m7, .ref m8, .ref m9, .int pn, .ref m10, .ref m11, .ref m12, .ref m13]))] H := hP
  have hD : va_D A [(h0, .inr (9, [.ref m1, .ref m2, .ref m3, .int ik, .int wy, .int op, .int cl, .int cx0, .int cx1, .int cy0, .int cy1, .int ds, .ref m4, .ref m5, .ref m6, .ref m7, .ref m8, .ref m9, .int pn, .ref m10, .ref m11, .ref m12, .ref m13]))] := hD
  have hPc := hP.sub (ws' := [(h0, .inr (9, [.ref m1, .ref m2, .ref m3, .int ik, .int wy, .int op, .int cl, .int cx0, .int cx1, .int cy0, .int cy1, .int ds, .ref m4, .ref m5, .ref m6, .ref m7, .ref m8, .ref m9, .int pn, .ref m10, .ref m11, .ref m12, .ref m13]))]) [0] rfl
  have hDc := hD.sub (ws' := [(h0, .inr (9, [.ref m1, .ref m2, .ref m3, .int ik, .int wy, .int op, .int cl, .int cx0, .int cx1, .int cy0, .int cy1, .int ds, .ref m4, .ref m5, .ref m6, .ref m7, .ref m8, .ref m9, .int pn, .ref m10, .ref m11, .ref m12, .ref m13]))]) [0] (by decide) rfl
  have hKc := hK.sub (tys' := []) [] rfl
  have hFc := va_free (wc := [(h0, .inr (9, [.ref m1, .ref m2, .ref m3, .int ik, .int wy, .int op, .int cl, .int cx0, .int cx1, .int cy0, .int cy1, .int ds, .ref m4, .ref m5, .ref m6, .ref m7, .ref m8, .ref m9, .int pn, .ref m10, .ref m11, .ref m12, .ref m13]))]) hD hS hA [0] rfl
  refine va_calli (va_runV (As := [.int r_1, .int r_2]) (rest := []) ⟨hx, hb, hml, hown, hts⟩ (k_X9_sourcePart l D H.size h0 m1 m2 m3 m4 m5 m6 m7 m8 m9 m10 m11 m12 m13 ik wy op cl cx0 cx1 cy0 cy1 ds pn r_1 r_2 (by first | assumption | omega | decide)) (cwV 2 hts (gV bw_452 bw_444 bw_445 bw_391 bw_443) rfl rfl rfl (by decide +kernel) ⟨(by rw [hR]; exact Nat.le_of_ble_eq_true rfl), (by rw [hR]; exact Nat.le_of_ble_eq_true rfl)⟩) ⟨cP_blind, va_recv hKc hPc (ci := 9) (q0 := 0) rfl rfl, cP_at hPc hKc hDc hN⟩ rfl rfl hl.1 rfl (lv_room (Nat.le_of_ble_eq_true rfl)) dX9_laid_11 ⟨(by rw [hR]; exact Nat.le_of_ble_eq_true rfl), (by rw [hR]; exact Nat.le_of_ble_eq_true rfl)⟩) hS (fun q _ h => hFc q h) hFc (fun r_3 u9 t9 H1 locs ht hvm hr_3 hB hz1 hk1 hS => ?_)
  try dsimp only at hr_3
  obtain ⟨hP1, hK1, hD1⟩ := hB
  rw [ht] at hP1
  obtain ⟨hP, hD⟩ := va_join (wr := []) (w1 := [(h0, .inr (9, [.ref m1, .ref m2, .ref m3, .int ik, .int wy, .int op, .int cl, .int cx0, .int cx1, .int cy0, .int cy1, .int ds, .ref m4, .ref m5, .ref m6, .ref m7, .ref m8, .ref m9, .int pn, .ref m10, .ref m11, .ref m12, .ref m13]))]) hP hD [0] [] rfl rfl (by decide) (by decide) hk1 hFc hP1 hD1
  clear hz1 hk1 hFc hKc hDc hPc
  generalize H1 = H at hP hS ⊢
  have hP : va_P D vwCl [(h0, .inr (9, [.ref m1, .ref m2, .ref m3, .int ik, .int wy, .int op, .int cl, .int cx0, .int cx1, .int cy0, .int cy1, .int ds, .ref m4, .ref m5, .ref m6, .ref m7, .ref m8, .ref m9, .int pn, .ref m10, .ref m11, .ref m12, .ref m13]))] H := hP
  have hD : va_D A [(h0, .inr (9, [.ref m1, .ref m2, .ref m3, .int ik, .int wy, .int op, .int cl, .int cx0, .int cx1, .int cy0, .int cy1, .int ds, .ref m4, .ref m5, .ref m6, .ref m7, .ref m8, .ref m9, .int pn, .ref m10, .ref m11, .ref m12, .ref m13]))] := hD
  refine lv_istore (lv' := [(4, .int r_3), (0, .ref h0), (1, .int n), (2, .int d), (3, .int v)]) hx hb dX9_laid_14 hl (by decide) rfl (fun ls hl => ?_)
  refine lv_aload_n hx hb dX9_laid_16 rfl (lv_at hl 1 rfl) ?_
  refine lv_iload_n hx hb dX9_laid_17 rfl (lv_at hl 2 rfl) ?_
  refine lv_iconst (v := 0) hx hb dX9_laid_18 (by decide) ?_
  have hPc := hP.sub (ws' := []) [] rfl
  have hDc := hD.sub (ws' := []) [] (by decide) rfl
  have hKc := hK.sub (tys' := []) [] rfl
  have hFc := va_free (wc := []) hD hS hA [] rfl
  refine va_calli (va_runS (As := [.int n, .int 0]) (rest := [.ref h0]) ⟨hx, hb, hml, hown, hts⟩ (k_X9_channel_0 l D H.size n) (va_cwS 2 hts (gS bw_441 bw_438 bw_391 bw_437) rfl rfl rfl (by decide +kernel) ⟨(by rw [hR]; exact Nat.le_of_ble_eq_true rfl), (by rw [hR]; exact Nat.le_of_ble_eq_true rfl)⟩) ⟨cP_blind, cP_at hPc hKc hDc hN⟩ rfl rfl hl.1 rfl (lv_room (Nat.le_of_ble_eq_true rfl)) dX9_laid_19 ⟨(by rw [hR]; exact Nat.le_of_ble_eq_true rfl), (by rw [hR]; exact Nat.le_of_ble_eq_true rfl)⟩) hS (fun q _ h => hFc q h) hFc (fun r_4 u9 t9 H1 locs ht hvm hr_4 hB hz1 hk1 hS => ?_)
  try dsimp only at hr_4
  have hP1 : va_P D vwCl [] H1 := vP_nil
  have hD1 : va_D (va_A [] H.size) [] := vD_nil
  obtain ⟨hP, hD⟩ := va_join (wr := [(h0, .inr (9, [.ref m1, .ref m2, .ref m3, .int ik, .int wy, .int op, .int cl, .int cx0, .int cx1, .int cy0, .int cy1, .int ds, .ref m4, .ref m5, .ref m6, .ref m7, .ref m8, .ref m9, .int pn, .ref m10, .ref m11, .ref m12, .ref m13]))]) (w1 := []) hP hD [] [0] rfl rfl (by decide) (by decide) hk1 hFc hP1 hD1
  clear hz1 hk1 hFc hKc hDc hPc
  generalize H1 = H at hP hS ⊢
  have hP : va_P D vwCl [(h0, .inr (9, [.ref m1, .ref m2, .ref m3, .int ik, .int wy, .int op, .int cl, .int cx0, .int cx1, .int cy0, .int cy1, .int ds, .ref m4, .ref m5, .ref m6, .ref m7, .ref m8, .ref m9, .int pn, .ref m10, .ref m11, .ref m12, .ref m13]))] H := hP
  have hD : va_D A [(h0, .inr (9, [.ref m1, .ref m2, .ref m3, .int ik, .int wy, .int op, .int cl, .int cx0, .int cx1, .int cy0, .int cy1, .int ds, .ref m4, .ref m5, .ref m6, .ref m7, .ref m8, .ref m9, .int pn, .ref m10, .ref m11, .ref m12, .ref m13]))] := hD
  refine lv_iload_n hx hb dX9_laid_22 rfl (lv_at hl 3 rfl) ?_
  refine lv_iconst (v := 0) hx hb dX9_laid_23 (by decide) ?_
  have hPc := hP.sub (ws' := []) [] rfl
  have hDc := hD.sub (ws' := []) [] (by decide) rfl
  have hKc := hK.sub (tys' := []) [] rfl
  have hFc := va_free (wc := []) hD hS hA [] rfl
  refine va_calli (va_runS (As := [.int d, .int 0]) (rest := [.int r_4, .ref h0]) ⟨hx, hb, hml, hown, hts⟩ (k_X9_channel_0 l D H.size d) (va_cwS 2 hts (gS bw_441 bw_438 bw_391 bw_437) rfl rfl rfl (by decide +kernel) ⟨(by rw [hR]; exact Nat.le_of_ble_eq_true rfl), (by rw [hR]; exact Nat.le_of_ble_eq_true rfl)⟩) ⟨cP_blind, cP_at hPc hKc hDc hN⟩ rfl rfl hl.1 rfl (lv_room (Nat.le_of_ble_eq_true rfl)) dX9_laid_24 ⟨(by rw [hR]; exact Nat.le_of_ble_eq_true rfl), (by rw [hR]; exact Nat.le_of_ble_eq_true rfl)⟩) hS (fun q _ h => hFc q h) hFc (fun r_5 u9 t9 H1 locs ht hvm hr_5 hB hz1 hk1 hS => ?_)
  try dsimp only at hr_5
  have hP1 : va_P D vwCl [] H1 := vP_nil
  have hD1 : va_D (va_A [] H.size) [] := vD_nil
  obtain ⟨hP, hD⟩ := va_join (wr := [(h0, .inr (9, [.ref m1, .ref m2, .ref m3, .int ik, .int wy, .int op, .int cl, .int cx0, .int cx1, .int cy0, .int cy1, .int ds, .ref m4, .ref m5, .ref m6, .ref m7, .ref m8, .ref m9, .int pn, .ref m10, .ref m11, .ref m12, .ref m13]))]) (w1 := []) hP hD [] [0] rfl rfl (by decide) (by decide) hk1 hFc hP1 hD1
  clear hz1 hk1 hFc hKc hDc hPc
  generalize H1 = H at hP hS ⊢
  have hP : va_P D vwCl [(h0, .inr (9, [.ref m1, .ref m2, .ref m3, .int ik, .int wy, .int op, .int cl, .int cx0, .int cx1, .int cy0, .int cy1, .int ds, .ref m4, .ref m5, .ref m6, .ref m7, .ref m8, .ref m9, .int pn, .ref m10, .ref m11, .ref m12, .ref m13]))] H := hP
  have hD : va_D A [(h0, .inr (9, [.ref m1, .ref m2, .ref m3, .int ik, .int wy, .int op, .int cl, .int cx0, .int cx1, .int cy0, .int cy1, .int ds, .ref m4, .ref m5, .ref m6, .ref m7, .ref m8, .ref m9, .int pn, .ref m10, .ref m11, .ref m12, .ref m13]))] := hD
  have hPc := hP.sub (ws' := [(h0, .inr (9, [.ref m1, .ref m2, .ref m3, .int ik, .int wy, .int op, .int cl, .int cx0, .int cx1, .int cy0, .int cy1, .int ds, .ref m4, .ref m5, .ref m6, .ref m7, .ref m8, .ref m9, .int pn, .ref m10, .ref m11, .ref m12, .ref m13]))]) [0] rfl
  have hDc := hD.sub (ws' := [(h0, .inr (9, [.ref m1, .ref m2, .ref m3, .int ik, .int wy, .int op, .int cl, .int cx0, .int cx1, .int cy0, .int cy1, .int ds, .ref m4, .ref m5, .ref m6, .ref m7, .ref m8, .ref m9, .int pn, .ref m10, .ref m11, .ref m12, .ref m13]))]) [0] (by decide) rfl
  have hKc := hK.sub (tys' := []) [] rfl
  have hFc := va_free (wc := [(h0, .inr (9, [.ref m1, .ref m2, .ref m3, .int ik, .int wy, .int op, .int cl, .int cx0, .int cx1, .int cy0, .int cy1, .int ds, .ref m4, .ref m5, .ref m6, .ref m7, .ref m8, .ref m9, .int pn, .ref m10, .ref m11, .ref m12, .ref m13]))]) hD hS hA [0] rfl
  refine va_calli (va_runV (As := [.int r_4, .int r_5]) (rest := []) ⟨hx, hb, hml, hown, hts⟩ (k_X9_otherPart l D H.size h0 m1 m2 m3 m4 m5 m6 m7 m8 m9 m10 m11 m12 m13 ik wy op cl cx0 cx1 cy0 cy1 ds pn r_4 r_5 (by first | assumption | omega | decide)) (cwV 2 hts (gV bw_453 bw_447 bw_448 bw_391 bw_446) rfl rfl rfl (by decide +kernel) ⟨(by rw [hR]; exact Nat.le_of_ble_eq_true rfl), (by rw [hR]; exact Nat.le_of_ble_eq_true rfl)⟩) ⟨cP_blind, va_recv hKc hPc (ci := 9) (q0 := 0) rfl rfl, cP_at hPc hKc hDc hN⟩ rfl rfl hl.1 rfl (lv_room (Nat.le_of_ble_eq_true rfl)) dX9_laid_27 ⟨(by rw [hR]; exact Nat.le_of_ble_eq_true rfl), (by rw [hR]; exact Nat.le_of_ble_eq_true rfl)⟩) hS (fun q _ h => hFc q h) hFc (fun r_6 u9 t9 H1 locs ht hvm hr_6 hB hz1 hk1 hS => ?_)
  try dsimp only at hr_6
  obtain ⟨hP1, hK1, hD1⟩ := hB
  rw [ht] at hP1
  obtain ⟨hP, hD⟩ := va_join (wr := []) (w1 := [(h0, .inr (9, [.ref m1, .ref m2, .ref m3, .int ik, .int wy, .int op, .int cl, .int cx0, .int cx1, .int cy0, .int cy1, .int ds, .ref m4, .ref m5, .ref m6, .ref m7, .ref m8, .ref m9, .int pn, .ref m10, .ref m11, .ref m12, .ref m13]))]) hP hD [0] [] rfl rfl (by decide) (by decide) hk1 hFc hP1 hD1
  clear hz1 hk1 hFc hKc hDc hPc
  generalize H1 = H at hP hS ⊢
  have hP : va_P D vwCl [(h0, .inr (9, [.ref m1, .ref m2, .ref m3, .int ik, .int wy, .int op, .int cl, .int cx0, .int cx1, .int cy0, .int cy1, .int ds, .ref m4, .ref m5, .ref m6, .ref m7, .ref m8, .ref m9, .int pn, .ref m10, .ref m11, .ref m12, .ref m13]))] H := hP
  have hD : va_D A [(h0, .inr (9, [.ref m1, .ref m2, .ref m3, .int ik, .int wy, .int op, .int cl, .int cx0, .int cx1, .int cy0, .int cy1, .int ds, .ref m4, .ref m5, .ref m6, .ref m7, .ref m8, .ref m9, .int pn, .ref m10, .ref m11, .ref m12, .ref m13]))] := hD
  refine lv_istore (lv' := [(5, .int r_6), (4, .int r_3), (0, .ref h0), (1, .int n), (2, .int d), (3, .int v)]) hx hb dX9_laid_30 hl (by decide) rfl (fun ls hl => ?_)
  refine lv_iconst (v := 0) hx hb dX9_laid_32 (by decide) ?_
  refine lv_istore (lv' := [(6, .int 0), (5, .int r_6), (4, .int r_3), (0, .ref h0), (1, .int n), (2, .int d), (3, .int v)]) hx hb dX9_laid_33 hl (by decide) rfl (fun ls hl => ?_)
  refine lv_iconst (v := 0) hx hb dX9_laid_35 (by decide) ?_
  refine lv_istore (lv' := [(7, .int 0), (6, .int 0), (5, .int r_6), (4, .int r_3), (0, .ref h0), (1, .int n), (2, .int d), (3, .int v)]) hx hb dX9_laid_36 hl (by decide) rfl (fun ls hl => ?_)
  refine lv_iload hx hb dX9_laid_38 (lv_at hl 0 rfl) ?_
  refine lv_iconst (v := 4) hx hb dX9_laid_40 (by decide) ?_
  refine lv_icmp_ge (tgt := 121) hx hb dX9_laid_41 (by decide) (fun c_7 => ?_) (fun c_7 => ?_)
  · skip
    exact absurd c_7 (by decide)
  · skip
    refine lv_iload_n hx hb dX9_laid_44 rfl (lv_at hl 5 rfl) ?_
    refine lv_iload hx hb dX9_laid_45 (lv_at hl 0 rfl) ?_
    have hPc := hP.sub (ws' := []) [] rfl
    have hDc := hD.sub (ws' := []) [] (by decide) rfl
    have hKc := hK.sub (tys' := []) [] rfl
    have hFc := va_free (wc := []) hD hS hA [] rfl
    refine va_calli (va_runS (As := [.int n, .int 0]) (rest := []) ⟨hx, hb, hml, hown, hts⟩ (k_X9_channel_0 l D H.size n) (va_cwS 2 hts (gS bw_441 bw_438 bw_391 bw_437) rfl rfl rfl (by decide +kernel) ⟨(by rw [hR]; exact Nat.le_of_ble_eq_true rfl), (by rw [hR]; exact Nat.le_of_ble_eq_true rfl)⟩) ⟨cP_blind, cP_at hPc hKc hDc hN⟩ rfl rfl hl.1 rfl (lv_room (Nat.le_of_ble_eq_true rfl)) dX9_laid_47 ⟨(by rw [hR]; exact Nat.le_of_ble_eq_true rfl), (by rw [hR]; exact Nat.le_of_ble_eq_true rfl)⟩) hS (fun q _ h => hFc q h) hFc (fun r_9 u9 t9 H1 locs ht hvm hr_9 hB hz1 hk1 hS => ?_)
    try dsimp only at hr_9
    have hP1 : va_P D vwCl [] H1 := vP_nil
    have hD1 : va_D (va_A [] H.size) [] := vD_nil
    obtain ⟨hP, hD⟩ := va_join (wr := [(h0, .inr (9, [.ref m1, .ref m2, .ref m3, .int ik, .int wy, .int op, .int cl, .int cx0, .int cx1, .int cy0, .int cy1, .int ds, .ref m4, .ref m5, .ref m6, .ref m7, .ref m8, .ref m9, .int pn, .ref m10, .ref m11, .ref m12, .ref m13]))]) (w1 := []) hP hD [] [0] rfl rfl (by decide) (by decide) hk1 hFc hP1 hD1
    clear hz1 hk1 hFc hKc hDc hPc
    generalize H1 = H at hP hS ⊢
    have hP : va_P D vwCl [(h0, .inr (9, [.ref m1, .ref m2, .ref m3, .int ik, .int wy, .int op, .int cl, .int cx0, .int cx1, .int cy0, .int cy1, .int ds, .ref m4, .ref m5, .ref m6, .ref m7, .ref m8, .ref m9, .int pn, .ref m10, .ref m11, .ref m12, .ref m13]))] H := hP
    have hD : va_D A [(h0, .inr (9, [.ref m1, .ref m2, .ref m3, .int ik, .int wy, .int op, .int cl, .int cx0, .int cx1, .int cy0, .int cy1, .int ds, .ref m4, .ref m5, .ref m6, .ref m7, .ref m8, .ref m9, .int pn, .ref m10, .ref m11, .ref m12, .ref m13]))] := hD
    refine lv_iload hx hb dX9_laid_50 (lv_at hl 3 rfl) ?_
    refine lv_imul hx hb dX9_laid_52 ?_
    refine lv_topi (fun y_10 ey_10 => ?_)
    refine lv_iload_n hx hb dX9_laid_53 rfl (lv_at hl 6 rfl) ?_
    refine lv_iload hx hb dX9_laid_54 (lv_at hl 0 rfl) ?_
    have hPc := hP.sub (ws' := []) [] rfl
    have hDc := hD.sub (ws' := []) [] (by decide) rfl
    have hKc := hK.sub (tys' := []) [] rfl
    have hFc := va_free (wc := []) hD hS hA [] rfl
    refine va_calli (va_runS (As := [.int d, .int 0]) (rest := [.int y_10]) ⟨hx, hb, hml, hown, hts⟩ (k_X9_channel_0 l D H.size d) (va_cwS 2 hts (gS bw_441 bw_438 bw_391 bw_437) rfl rfl rfl (by decide +kernel) ⟨(by rw [hR]; exact Nat.le_of_ble_eq_true rfl), (by rw [hR]; exact Nat.le_of_ble_eq_true rfl)⟩) ⟨cP_blind, cP_at hPc hKc hDc hN⟩ rfl rfl hl.1 rfl (lv_room (Nat.le_of_ble_eq_true rfl)) dX9_laid_56 ⟨(by rw [hR]; exact Nat.le_of_ble_eq_true rfl), (by rw [hR]; exact Nat.le_of_ble_eq_true rfl)⟩) hS (fun q _ h => hFc q h) hFc (fun r_11 u9 t9 H1 locs ht hvm hr_11 hB hz1 hk1 hS => ?_)
    try dsimp only at hr_11
    have hP1 : va_P D vwCl [] H1 := vP_nil
    have hD1 : va_D (va_A [] H.size) [] := vD_nil
    obtain ⟨hP, hD⟩ := va_join (wr := [(h0, .inr (9, [.ref m1, .ref m2, .ref m3, .int ik, .int wy, .int op, .int cl, .int cx0, .int cx1, .int cy0, .int cy1, .int ds, .ref m4, .ref m5, .ref m6, .ref m7, .ref m8, .ref m9, .int pn, .ref m10, .ref m11, .ref m12, .ref m13]))]) (w1 := []) hP hD [] [0] rfl rfl (by decide) (by decide) hk1 hFc hP1 hD1
    clear hz1 hk1 hFc hKc hDc hPc
    generalize H1 = H at hP hS ⊢
    have hP : va_P D vwCl [(h0, .inr (9, [.ref m1, .ref m2, .ref m3, .int ik, .int wy, .int op, .int cl, .int cx0, .int cx1, .int cy0, .int cy1, .int ds, .ref m4, .ref m5, .ref m6, .ref m7, .ref m8, .ref m9, .int pn, .ref m10, .ref m11, .ref m12, .ref m13]))] H := hP
    have hD : va_D A [(h0, .inr (9, [.ref m1, .ref m2, .ref m3, .int ik, .int wy, .int op, .int cl, .int cx0, .int cx1, .int cy0, .int cy1, .int ds, .ref m4, .ref m5, .ref m6, .ref m7, .ref m8, .ref m9, .int pn, .ref m10, .ref m11, .ref m12, .ref m13]))] := hD
    refine lv_iload hx hb dX9_laid_59 (lv_at hl 2 rfl) ?_
    refine lv_imul hx hb dX9_laid_61 ?_
    refine lv_topi (fun y_12 ey_12 => ?_)
    refine lv_iadd hx hb dX9_laid_62 ?_
    refine lv_topi (fun y_13 ey_13 => ?_)
    refine lv_sipush (v := 255) hx hb dX9_laid_63 (by decide) ?_
    have hPc := hP.sub (ws' := []) [] rfl
    have hDc := hD.sub (ws' := []) [] (by decide) rfl
    have hKc := hK.sub (tys' := []) [] rfl
    have hFc := va_free (wc := []) hD hS hA [] rfl
    refine va_calli (va_runS (As := [.int y_13, .int 255]) (rest := []) ⟨hx, hb, hml, hown, hts⟩ (k_X9_nearest_255 l D H.size y_13) (va_cwS 2 hts (gS bw_442 bw_436 bw_391 bw_435) rfl rfl rfl (by decide +kernel) ⟨(by rw [hR]; exact Nat.le_of_ble_eq_true rfl), (by rw [hR]; exact Nat.le_of_ble_eq_true rfl)⟩) ⟨cP_blind, cP_at hPc hKc hDc hN⟩ rfl rfl hl.1 rfl (lv_room (Nat.le_of_ble_eq_true rfl)) dX9_laid_66 ⟨(by rw [hR]; exact Nat.le_of_ble_eq_true rfl), (by rw [hR]; exact Nat.le_of_ble_eq_true rfl)⟩) hS (fun q _ h => hFc q h) hFc (fun r_14 u9 t9 H1 locs ht hvm hr_14 hB hz1 hk1 hS => ?_)
    try dsimp only at hr_14
    have hP1 : va_P D vwCl [] H1 := vP_nil
    have hD1 : va_D (va_A [] H.size) [] := vD_nil
    obtain ⟨hP, hD⟩ := va_join (wr := [(h0, .inr (9, [.ref m1, .ref m2, .ref m3, .int ik, .int wy, .int op, .int cl, .int cx0, .int cx1, .int cy0, .int cy1, .int ds, .ref m4, .ref m5, .ref m6, .ref m7, .ref m8, .ref m9, .int pn, .ref m10, .ref m11, .ref m12, .ref m13]))]) (w1 := []) hP hD [] [0] rfl rfl (by decide) (by decide) hk1 hFc hP1 hD1
    clear hz1 hk1 hFc hKc hDc hPc
    generalize H1 = H at hP hS ⊢
    have hP : va_P D vwCl [(h0, .inr (9, [.ref m1, .ref m2, .ref m3, .int ik, .int wy, .int op, .int cl, .int cx0, .int cx1, .int cy0, .int cy1, .int ds, .ref m4, .ref m5, .ref m6, .ref m7, .ref m8, .ref m9, .int pn, .ref m10, .ref m11, .ref m12, .ref m13]))] H := hP
    have hD : va_D A [(h0, .inr (9, [.ref m1, .ref m2, .ref m3, .int ik, .int wy, .int op, .int cl, .int cx0, .int cx1, .int cy0, .int cy1, .int ds, .ref m4, .ref m5, .ref m6, .ref m7, .ref m8, .ref m9, .int pn, .ref m10, .ref m11, .ref m12, .ref m13]))] := hD
    refine lv_istore (lv' := [(8, .int r_14), (7, .int 0), (6, .int 0), (5, .int r_6), (4, .int r_3), (0, .ref h0), (1, .int n), (2, .int d), (3, .int v)]) hx hb dX9_laid_69 hl (by decide) rfl (fun ls hl => ?_)
    have join_15 : ∀ (u_16 : Int32) (ls : Array Slot), (u_16 = mnP r_14) → lv_has ls 9 [(8, .int u_16), (7, .int 0), (6, .int 0), (5, .int r_6), (4, .int r_3), (0, .ref h0), (1, .int n), (2, .int d), (3, .int v)] → W p l e R s m ([.ref h0, .int n, .int d, .int v] : List Value).toArray below meth c H locs 0 0 Q (F0 m 84 ls []) := by
      intro u_16 ls hu_16 hl
      refine lv_iload hx hb dX9_laid_84 (lv_at hl 2 rfl) ?_
      refine lv_bipush (v := 8) hx hb dX9_laid_86 (by decide) ?_
      refine lv_ishl hx hb dX9_laid_88 ?_
      refine my_fold (v := 0) (by decide) ?_
      refine lv_iload hx hb dX9_laid_89 (lv_at hl 0 rfl) ?_
      refine lv_iload_n hx hb dX9_laid_91 rfl (lv_at hl 8 rfl) ?_
      refine lv_imul hx hb dX9_laid_92 ?_
      refine lv_topi (fun y_17 ey_17 => ?_)
      refine lv_iload_n hx hb dX9_laid_93 rfl (lv_at hl 7 rfl) ?_
      refine lv_iload hx hb dX9_laid_94 (lv_at hl 1 rfl) ?_
      have hPc := hP.sub (ws' := []) [] rfl
      have hDc := hD.sub (ws' := []) [] (by decide) rfl
      have hKc := hK.sub (tys' := []) [] rfl
      have hFc := va_free (wc := []) hD hS hA [] rfl
      refine va_calli (va_runS (As := [.int d, .int 0]) (rest := [.int y_17, .int 0]) ⟨hx, hb, hml, hown, hts⟩ (k_X9_channel_0 l D H.size d) (va_cwS 2 hts (gS bw_441 bw_438 bw_391 bw_437) rfl rfl rfl (by decide +kernel) ⟨(by rw [hR]; exact Nat.le_of_ble_eq_true rfl), (by rw [hR]; exact Nat.le_of_ble_eq_true rfl)⟩) ⟨cP_blind, cP_at hPc hKc hDc hN⟩ rfl rfl hl.1 rfl (lv_room (Nat.le_of_ble_eq_true rfl)) dX9_laid_96 ⟨(by rw [hR]; exact Nat.le_of_ble_eq_true rfl), (by rw [hR]; exact Nat.le_of_ble_eq_true rfl)⟩) hS (fun q _ h => hFc q h) hFc (fun r_18 u9 t9 H1 locs ht hvm hr_18 hB hz1 hk1 hS => ?_)
      try dsimp only at hr_18
      have hP1 : va_P D vwCl [] H1 := vP_nil
      have hD1 : va_D (va_A [] H.size) [] := vD_nil
      obtain ⟨hP, hD⟩ := va_join (wr := [(h0, .inr (9, [.ref m1, .ref m2, .ref m3, .int ik, .int wy, .int op, .int cl, .int cx0, .int cx1, .int cy0, .int cy1, .int ds, .ref m4, .ref m5, .ref m6, .ref m7, .ref m8, .ref m9, .int pn, .ref m10, .ref m11, .ref m12, .ref m13]))]) (w1 := []) hP hD [] [0] rfl rfl (by decide) (by decide) hk1 hFc hP1 hD1
      clear hz1 hk1 hFc hKc hDc hPc
      generalize H1 = H at hP hS ⊢
      have hP : va_P D vwCl [(h0, .inr (9, [.ref m1, .ref m2, .ref m3, .int ik, .int wy, .int op, .int cl, .int cx0, .int cx1, .int cy0, .int cy1, .int ds, .ref m4, .ref m5, .ref m6, .ref m7, .ref m8, .ref m9, .int pn, .ref m10, .ref m11, .ref m12, .ref m13]))] H := hP
      have hD : va_D A [(h0, .inr (9, [.ref m1, .ref m2, .ref m3, .int ik, .int wy, .int op, .int cl, .int cx0, .int cx1, .int cy0, .int cy1, .int ds, .ref m4, .ref m5, .ref m6, .ref m7, .ref m8, .ref m9, .int pn, .ref m10, .ref m11, .ref m12, .ref m13]))] := hD
      refine lv_sipush (v := 255) hx hb dX9_laid_99 (by decide) ?_
      refine lv_iload_n hx hb dX9_laid_102 rfl (lv_at hl 8 rfl) ?_
      refine lv_isub hx hb dX9_laid_103 ?_
      refine lv_topi (fun y_19 ey_19 => ?_)
      refine lv_imul hx hb dX9_laid_104 ?_
      refine lv_topi (fun y_20 ey_20 => ?_)
      refine lv_iadd hx hb dX9_laid_105 ?_
      refine lv_topi (fun y_21 ey_21 => ?_)
      refine lv_sipush (v := 255) hx hb dX9_laid_106 (by decide) ?_
      have hPc := hP.sub (ws' := []) [] rfl
      have hDc := hD.sub (ws' := []) [] (by decide) rfl
      have hKc := hK.sub (tys' := []) [] rfl
      have hFc := va_free (wc := []) hD hS hA [] rfl
      refine va_calli (va_runS (As := [.int y_21, .int 255]) (rest := [.int 0]) ⟨hx, hb, hml, hown, hts⟩ (k_X9_nearest_255 l D H.size y_21) (va_cwS 2 hts (gS bw_442 bw_436 bw_391 bw_435) rfl rfl rfl (by decide +kernel) ⟨(by rw [hR]; exact Nat.le_of_ble_eq_true rfl), (by rw [hR]; exact Nat.le_of_ble_eq_true rfl)⟩) ⟨cP_blind, cP_at hPc hKc hDc hN⟩ rfl rfl hl.1 rfl (lv_room (Nat.le_of_ble_eq_true rfl)) dX9_laid_109 ⟨(by rw [hR]; exact Nat.le_of_ble_eq_true rfl), (by rw [hR]; exact Nat.le_of_ble_eq_true rfl)⟩) hS (fun q _ h => hFc q h) hFc (fun r_22 u9 t9 H1 locs ht hvm hr_22 hB hz1 hk1 hS => ?_)
      try dsimp only at hr_22
      have hP1 : va_P D vwCl [] H1 := vP_nil
      have hD1 : va_D (va_A [] H.size) [] := vD_nil
      obtain ⟨hP, hD⟩ := va_join (wr := [(h0, .inr (9, [.ref m1, .ref m2, .ref m3, .int ik, .int wy, .int op, .int cl, .int cx0, .int cx1, .int cy0, .int cy1, .int ds, .ref m4, .ref m5, .ref m6, .ref m7, .ref m8, .ref m9, .int pn, .ref m10, .ref m11, .ref m12, .ref m13]))]) (w1 := []) hP hD [] [0] rfl rfl (by decide) (by decide) hk1 hFc hP1 hD1
      clear hz1 hk1 hFc hKc hDc hPc
      generalize H1 = H at hP hS ⊢
      have hP : va_P D vwCl [(h0, .inr (9, [.ref m1, .ref m2, .ref m3, .int ik, .int wy, .int op, .int cl, .int cx0, .int cx1, .int cy0, .int cy1, .int ds, .ref m4, .ref m5, .ref m6, .ref m7, .ref m8, .ref m9, .int pn, .ref m10, .ref m11, .ref m12, .ref m13]))] H := hP
      have hD : va_D A [(h0, .inr (9, [.ref m1, .ref m2, .ref m3, .int ik, .int wy, .int op, .int cl, .int cx0, .int cx1, .int cy0, .int cy1, .int ds, .ref m4, .ref m5, .ref m6, .ref m7, .ref m8, .ref m9, .int pn, .ref m10, .ref m11, .ref m12, .ref m13]))] := hD
      refine lv_ior hx hb dX9_laid_112 ?_
      refine lv_topi (fun y_23 ey_23 => ?_)
      refine lv_istore (lv' := [(6, .int y_23), (8, .int u_16), (7, .int 0), (5, .int r_6), (4, .int r_3), (0, .ref h0), (1, .int n), (2, .int d), (3, .int v)]) hx hb dX9_laid_113 hl (by decide) rfl (fun ls hl => ?_)
      refine lv_iinc (v := 1) (lv' := [(7, .int 1), (6, .int y_23), (8, .int u_16), (5, .int r_6), (4, .int r_3), (0, .ref h0), (1, .int n), (2, .int d), (3, .int v)]) hx hb dX9_laid_115 hl (k := 2) rfl (by decide) (by decide) rfl (fun ls hl => ?_)
      refine lv_goto (tgt := 38) hx hb dX9_laid_118 (by decide) ?_
      refine lv_iload hx hb dX9_laid_38 (lv_at hl 0 rfl) ?_
      refine lv_iconst (v := 4) hx hb dX9_laid_40 (by decide) ?_
      refine lv_icmp_ge (tgt := 121) hx hb dX9_laid_41 (by decide) (fun c_24 => ?_) (fun c_24 => ?_)
      · skip
        exact absurd c_24 (by decide)
      · skip
        refine lv_iload_n hx hb dX9_laid_44 rfl (lv_at hl 6 rfl) ?_
        refine lv_iload hx hb dX9_laid_45 (lv_at hl 0 rfl) ?_
        have hPc := hP.sub (ws' := []) [] rfl
        have hDc := hD.sub (ws' := []) [] (by decide) rfl
        have hKc := hK.sub (tys' := []) [] rfl
        have hFc := va_free (wc := []) hD hS hA [] rfl
        refine va_calli (va_runS (As := [.int n, .int 1]) (rest := []) ⟨hx, hb, hml, hown, hts⟩ (k_X9_channel_1 l D H.size n) (va_cwS 2 hts (gS bw_441 bw_438 bw_391 bw_437) rfl rfl rfl (by decide +kernel) ⟨(by rw [hR]; exact Nat.le_of_ble_eq_true rfl), (by rw [hR]; exact Nat.le_of_ble_eq_true rfl)⟩) ⟨cP_blind, cP_at hPc hKc hDc hN⟩ rfl rfl hl.1 rfl (lv_room (Nat.le_of_ble_eq_true rfl)) dX9_laid_47 ⟨(by rw [hR]; exact Nat.le_of_ble_eq_true rfl), (by rw [hR]; exact Nat.le_of_ble_eq_true rfl)⟩) hS (fun q _ h => hFc q h) hFc (fun r_26 u9 t9 H1 locs ht hvm hr_26 hB hz1 hk1 hS => ?_)
        try dsimp only at hr_26
        have hP1 : va_P D vwCl [] H1 := vP_nil
        have hD1 : va_D (va_A [] H.size) [] := vD_nil
        obtain ⟨hP, hD⟩ := va_join (wr := [(h0, .inr (9, [.ref m1, .ref m2, .ref m3, .int ik, .int wy, .int op, .int cl, .int cx0, .int cx1, .int cy0, .int cy1, .int ds, .ref m4, .ref m5, .ref m6, .ref m7, .ref m8, .ref m9, .int pn, .ref m10, .ref m11, .ref m12, .ref m13]))]) (w1 := []) hP hD [] [0] rfl rfl (by decide) (by decide) hk1 hFc hP1 hD1
        clear hz1 hk1 hFc hKc hDc hPc
        generalize H1 = H at hP hS ⊢
        have hP : va_P D vwCl [(h0, .inr (9, [.ref m1, .ref m2, .ref m3, .int ik, .int wy, .int op, .int cl, .int cx0, .int cx1, .int cy0, .int cy1, .int ds, .ref m4, .ref m5, .ref m6, .ref m7, .ref m8, .ref m9, .int pn, .ref m10, .ref m11, .ref m12, .ref m13]))] H := hP
        have hD : va_D A [(h0, .inr (9, [.ref m1, .ref m2, .ref m3, .int ik, .int wy, .int op, .int cl, .int cx0, .int cx1, .int cy0, .int cy1, .int ds, .ref m4, .ref m5, .ref m6, .ref m7, .ref m8, .ref m9, .int pn, .ref m10, .ref m11, .ref m12, .ref m13]))] := hD
        refine lv_iload hx hb dX9_laid_50 (lv_at hl 4 rfl) ?_
        refine lv_imul hx hb dX9_laid_52 ?_
        refine lv_topi (fun y_27 ey_27 => ?_)
        refine lv_iload_n hx hb dX9_laid_53 rfl (lv_at hl 7 rfl) ?_
        refine lv_iload hx hb dX9_laid_54 (lv_at hl 0 rfl) ?_
        have hPc := hP.sub (ws' := []) [] rfl
        have hDc := hD.sub (ws' := []) [] (by decide) rfl
        have hKc := hK.sub (tys' := []) [] rfl
        have hFc := va_free (wc := []) hD hS hA [] rfl
        refine va_calli (va_runS (As := [.int d, .int 1]) (rest := [.int y_27]) ⟨hx, hb, hml, hown, hts⟩ (k_X9_channel_1 l D H.size d) (va_cwS 2 hts (gS bw_441 bw_438 bw_391 bw_437) rfl rfl rfl (by decide +kernel) ⟨(by rw [hR]; exact Nat.le_of_ble_eq_true rfl), (by rw [hR]; exact Nat.le_of_ble_eq_true rfl)⟩) ⟨cP_blind, cP_at hPc hKc hDc hN⟩ rfl rfl hl.1 rfl (lv_room (Nat.le_of_ble_eq_true rfl)) dX9_laid_56 ⟨(by rw [hR]; exact Nat.le_of_ble_eq_true rfl), (by rw [hR]; exact Nat.le_of_ble_eq_true rfl)⟩) hS (fun q _ h => hFc q h) hFc (fun r_28 u9 t9 H1 locs ht hvm hr_28 hB hz1 hk1 hS => ?_)
        try dsimp only at hr_28
        have hP1 : va_P D vwCl [] H1 := vP_nil
        have hD1 : va_D (va_A [] H.size) [] := vD_nil
        obtain ⟨hP, hD⟩ := va_join (wr := [(h0, .inr (9, [.ref m1, .ref m2, .ref m3, .int ik, .int wy, .int op, .int cl, .int cx0, .int cx1, .int cy0, .int cy1, .int ds, .ref m4, .ref m5, .ref m6, .ref m7, .ref m8, .ref m9, .int pn, .ref m10, .ref m11, .ref m12, .ref m13]))]) (w1 := []) hP hD [] [0] rfl rfl (by decide) (by decide) hk1 hFc hP1 hD1
        clear hz1 hk1 hFc hKc hDc hPc
        generalize H1 = H at hP hS ⊢
        have hP : va_P D vwCl [(h0, .inr (9, [.ref m1, .ref m2, .ref m3, .int ik, .int wy, .int op, .int cl, .int cx0, .int cx1, .int cy0, .int cy1, .int ds, .ref m4, .ref m5, .ref m6, .ref m7, .ref m8, .ref m9, .int pn, .ref m10, .ref m11, .ref m12, .ref m13]))] H := hP
        have hD : va_D A [(h0, .inr (9, [.ref m1, .ref m2, .ref m3, .int ik, .int wy, .int op, .int cl, .int cx0, .int cx1, .int cy0, .int cy1, .int ds, .ref m4, .ref m5, .ref m6, .ref m7, .ref m8, .ref m9, .int pn, .ref m10, .ref m11, .ref m12, .ref m13]))] := hD
        refine lv_iload hx hb dX9_laid_59 (lv_at hl 3 rfl) ?_
        refine lv_imul hx hb dX9_laid_61 ?_
        refine lv_topi (fun y_29 ey_29 => ?_)
        refine lv_iadd hx hb dX9_laid_62 ?_
        refine lv_topi (fun y_30 ey_30 => ?_)
        refine lv_sipush (v := 255) hx hb dX9_laid_63 (by decide) ?_
        have hPc := hP.sub (ws' := []) [] rfl
        have hDc := hD.sub (ws' := []) [] (by decide) rfl
        have hKc := hK.sub (tys' := []) [] rfl
        have hFc := va_free (wc := []) hD hS hA [] rfl
        refine va_calli (va_runS (As := [.int y_30, .int 255]) (rest := []) ⟨hx, hb, hml, hown, hts⟩ (k_X9_nearest_255 l D H.size y_30) (va_cwS 2 hts (gS bw_442 bw_436 bw_391 bw_435) rfl rfl rfl (by decide +kernel) ⟨(by rw [hR]; exact Nat.le_of_ble_eq_true rfl), (by rw [hR]; exact Nat.le_of_ble_eq_true rfl)⟩) ⟨cP_blind, cP_at hPc hKc hDc hN⟩ rfl rfl hl.1 rfl (lv_room (Nat.le_of_ble_eq_true rfl)) dX9_laid_66 ⟨(by rw [hR]; exact Nat.le_of_ble_eq_true rfl), (by rw [hR]; exact Nat.le_of_ble_eq_true rfl)⟩) hS (fun q _ h => hFc q h) hFc (fun r_31 u9 t9 H1 locs ht hvm hr_31 hB hz1 hk1 hS => ?_)
        try dsimp only at hr_31
        have hP1 : va_P D vwCl [] H1 := vP_nil
        have hD1 : va_D (va_A [] H.size) [] := vD_nil
        obtain ⟨hP, hD⟩ := va_join (wr := [(h0, .inr (9, [.ref m1, .ref m2, .ref m3, .int ik, .int wy, .int op, .int cl, .int cx0, .int cx1, .int cy0, .int cy1, .int ds, .ref m4, .ref m5, .ref m6, .ref m7, .ref m8, .ref m9, .int pn, .ref m10, .ref m11, .ref m12, .ref m13]))]) (w1 := []) hP hD [] [0] rfl rfl (by decide) (by decide) hk1 hFc hP1 hD1
        clear hz1 hk1 hFc hKc hDc hPc
        generalize H1 = H at hP hS ⊢
        have hP : va_P D vwCl [(h0, .inr (9, [.ref m1, .ref m2, .ref m3, .int ik, .int wy, .int op, .int cl, .int cx0, .int cx1, .int cy0, .int cy1, .int ds, .ref m4, .ref m5, .ref m6, .ref m7, .ref m8, .ref m9, .int pn, .ref m10, .ref m11, .ref m12, .ref m13]))] H := hP
        have hD : va_D A [(h0, .inr (9, [.ref m1, .ref m2, .ref m3, .int ik, .int wy, .int op, .int cl, .int cx0, .int cx1, .int cy0, .int cy1, .int ds, .ref m4, .ref m5, .ref m6, .ref m7, .ref m8, .ref m9, .int pn, .ref m10, .ref m11, .ref m12, .ref m13]))] := hD
        refine lv_istore (lv' := [(8, .int r_31), (7, .int 1), (6, .int y_23), (5, .int r_6), (4, .int r_3), (0, .ref h0), (1, .int n), (2, .int d), (3, .int v)]) hx hb dX9_laid_69 hl (by decide) rfl (fun ls hl => ?_)
        have join_32 : ∀ (u_33 : Int32) (ls : Array Slot), (u_33 = mnP r_31) → lv_has ls 9 [(8, .int u_33), (7, .int 1), (6, .int y_23), (5, .int r_6), (4, .int r_3), (0, .ref h0), (1, .int n), (2, .int d), (3, .int v)] → W p l e R s m ([.ref h0, .int n, .int d, .int v] : List Value).toArray below meth c H locs 0 0 Q (F0 m 84 ls []) := by
          intro u_33 ls hu_33 hl
          refine lv_iload hx hb dX9_laid_84 (lv_at hl 2 rfl) ?_
          refine lv_bipush (v := 8) hx hb dX9_laid_86 (by decide) ?_
          refine lv_ishl hx hb dX9_laid_88 ?_
          refine lv_topi (fun y_34 ey_34 => ?_)
          refine lv_iload hx hb dX9_laid_89 (lv_at hl 0 rfl) ?_
          refine lv_iload_n hx hb dX9_laid_91 rfl (lv_at hl 8 rfl) ?_
          refine lv_imul hx hb dX9_laid_92 ?_
          refine lv_topi (fun y_35 ey_35 => ?_)
          refine lv_iload_n hx hb dX9_laid_93 rfl (lv_at hl 7 rfl) ?_
          refine lv_iload hx hb dX9_laid_94 (lv_at hl 1 rfl) ?_
          have hPc := hP.sub (ws' := []) [] rfl
          have hDc := hD.sub (ws' := []) [] (by decide) rfl
          have hKc := hK.sub (tys' := []) [] rfl
          have hFc := va_free (wc := []) hD hS hA [] rfl
          refine va_calli (va_runS (As := [.int d, .int 1]) (rest := [.int y_35, .int y_34]) ⟨hx, hb, hml, hown, hts⟩ (k_X9_channel_1 l D H.size d) (va_cwS 2 hts (gS bw_441 bw_438 bw_391 bw_437) rfl rfl rfl (by decide +kernel) ⟨(by rw [hR]; exact Nat.le_of_ble_eq_true rfl), (by rw [hR]; exact Nat.le_of_ble_eq_true rfl)⟩) ⟨cP_blind, cP_at hPc hKc hDc hN⟩ rfl rfl hl.1 rfl (lv_room (Nat.le_of_ble_eq_true rfl)) dX9_laid_96 ⟨(by rw [hR]; exact Nat.le_of_ble_eq_true rfl), (by rw [hR]; exact Nat.le_of_ble_eq_true rfl)⟩) hS (fun q _ h => hFc q h) hFc (fun r_36 u9 t9 H1 locs ht hvm hr_36 hB hz1 hk1 hS => ?_)
          try dsimp only at hr_36
          have hP1 : va_P D vwCl [] H1 := vP_nil
          have hD1 : va_D (va_A [] H.size) [] := vD_nil
          obtain ⟨hP, hD⟩ := va_join (wr := [(h0, .inr (9, [.ref m1, .ref m2, .ref m3, .int ik, .int wy, .int op, .int cl, .int cx0, .int cx1, .int cy0, .int cy1, .int ds, .ref m4, .ref m5, .ref m6, .ref m7, .ref m8, .ref m9, .int pn, .ref m10, .ref m11, .ref m12, .ref m13]))]) (w1 := []) hP hD [] [0] rfl rfl (by decide) (by decide) hk1 hFc hP1 hD1
          clear hz1 hk1 hFc hKc hDc hPc
          generalize H1 = H at hP hS ⊢
          have hP : va_P D vwCl [(h0, .inr (9, [.ref m1, .ref m2, .ref m3, .int ik, .int wy, .int op, .int cl, .int cx0, .int cx1, .int cy0, .int cy1, .int ds, .ref m4, .ref m5, .ref m6, .ref m7, .ref m8, .ref m9, .int pn, .ref m10, .ref m11, .ref m12, .ref m13]))] H := hP
          have hD : va_D A [(h0, .inr (9, [.ref m1, .ref m2, .ref m3, .int ik, .int wy, .int op, .int cl, .int cx0, .int cx1, .int cy0, .int cy1, .int ds, .ref m4, .ref m5, .ref m6, .ref m7, .ref m8, .ref m9, .int pn, .ref m10, .ref m11, .ref m12, .ref m13]))] := hD
          refine lv_sipush (v := 255) hx hb dX9_laid_99 (by decide) ?_
          refine lv_iload_n hx hb dX9_laid_102 rfl (lv_at hl 8 rfl) ?_
          refine lv_isub hx hb dX9_laid_103 ?_
          refine lv_topi (fun y_37 ey_37 => ?_)
          refine lv_imul hx hb dX9_laid_104 ?_
          refine lv_topi (fun y_38 ey_38 => ?_)
          refine lv_iadd hx hb dX9_laid_105 ?_
          refine lv_topi (fun y_39 ey_39 => ?_)
          refine lv_sipush (v := 255) hx hb dX9_laid_106 (by decide) ?_
          have hPc := hP.sub (ws' := []) [] rfl
          have hDc := hD.sub (ws' := []) [] (by decide) rfl
          have hKc := hK.sub (tys' := []) [] rfl
          have hFc := va_free (wc := []) hD hS hA [] rfl
          refine va_calli (va_runS (As := [.int y_39, .int 255]) (rest := [.int y_34]) ⟨hx, hb, hml, hown, hts⟩ (k_X9_nearest_255 l D H.size y_39) (va_cwS 2 hts (gS bw_442 bw_436 bw_391 bw_435) rfl rfl rfl (by decide +kernel) ⟨(by rw [hR]; exact Nat.le_of_ble_eq_true rfl), (by rw [hR]; exact Nat.le_of_ble_eq_true rfl)⟩) ⟨cP_blind, cP_at hPc hKc hDc hN⟩ rfl rfl hl.1 rfl (lv_room (Nat.le_of_ble_eq_true rfl)) dX9_laid_109 ⟨(by rw [hR]; exact Nat.le_of_ble_eq_true rfl), (by rw [hR]; exact Nat.le_of_ble_eq_true rfl)⟩) hS (fun q _ h => hFc q h) hFc (fun r_40 u9 t9 H1 locs ht hvm hr_40 hB hz1 hk1 hS => ?_)
          try dsimp only at hr_40
          have hP1 : va_P D vwCl [] H1 := vP_nil
          have hD1 : va_D (va_A [] H.size) [] := vD_nil
          obtain ⟨hP, hD⟩ := va_join (wr := [(h0, .inr (9, [.ref m1, .ref m2, .ref m3, .int ik, .int wy, .int op, .int cl, .int cx0, .int cx1, .int cy0, .int cy1, .int ds, .ref m4, .ref m5, .ref m6, .ref m7, .ref m8, .ref m9, .int pn, .ref m10, .ref m11, .ref m12, .ref m13]))]) (w1 := []) hP hD [] [0] rfl rfl (by decide) (by decide) hk1 hFc hP1 hD1
          clear hz1 hk1 hFc hKc hDc hPc
          generalize H1 = H at hP hS ⊢
          have hP : va_P D vwCl [(h0, .inr (9, [.ref m1, .ref m2, .ref m3, .int ik, .int wy, .int op, .int cl, .int cx0, .int cx1, .int cy0, .int cy1, .int ds, .ref m4, .ref m5, .ref m6, .ref m7, .ref m8, .ref m9, .int pn, .ref m10, .ref m11, .ref m12, .ref m13]))] H := hP
          have hD : va_D A [(h0, .inr (9, [.ref m1, .ref m2, .ref m3, .int ik, .int wy, .int op, .int cl, .int cx0, .int cx1, .int cy0, .int cy1, .int ds, .ref m4, .ref m5, .ref m6, .ref m7, .ref m8, .ref m9, .int pn, .ref m10, .ref m11, .ref m12, .ref m13]))] := hD
          refine lv_ior hx hb dX9_laid_112 ?_
          refine lv_topi (fun y_41 ey_41 => ?_)
          refine lv_istore (lv' := [(6, .int y_41), (8, .int u_33), (7, .int 1), (5, .int r_6), (4, .int r_3), (0, .ref h0), (1, .int n), (2, .int d), (3, .int v)]) hx hb dX9_laid_113 hl (by decide) rfl (fun ls hl => ?_)
          refine lv_iinc (v := 2) (lv' := [(7, .int 2), (6, .int y_41), (8, .int u_33), (5, .int r_6), (4, .int r_3), (0, .ref h0), (1, .int n), (2, .int d), (3, .int v)]) hx hb dX9_laid_115 hl (k := 2) rfl (by decide) (by decide) rfl (fun ls hl => ?_)
          refine lv_goto (tgt := 38) hx hb dX9_laid_118 (by decide) ?_
          refine lv_iload hx hb dX9_laid_38 (lv_at hl 0 rfl) ?_
          refine lv_iconst (v := 4) hx hb dX9_laid_40 (by decide) ?_
          refine lv_icmp_ge (tgt := 121) hx hb dX9_laid_41 (by decide) (fun c_42 => ?_) (fun c_42 => ?_)
          · skip
            exact absurd c_42 (by decide)
          · skip
            refine lv_iload_n hx hb dX9_laid_44 rfl (lv_at hl 6 rfl) ?_
            refine lv_iload hx hb dX9_laid_45 (lv_at hl 0 rfl) ?_
            have hPc := hP.sub (ws' := []) [] rfl
            have hDc := hD.sub (ws' := []) [] (by decide) rfl
            have hKc := hK.sub (tys' := []) [] rfl
            have hFc := va_free (wc := []) hD hS hA [] rfl
            refine va_calli (va_runS (As := [.int n, .int 2]) (rest := []) ⟨hx, hb, hml, hown, hts⟩ (k_X9_channel_2 l D H.size n) (va_cwS 2 hts (gS bw_441 bw_438 bw_391 bw_437) rfl rfl rfl (by decide +kernel) ⟨(by rw [hR]; exact Nat.le_of_ble_eq_true rfl), (by rw [hR]; exact Nat.le_of_ble_eq_true rfl)⟩) ⟨cP_blind, cP_at hPc hKc hDc hN⟩ rfl rfl hl.1 rfl (lv_room (Nat.le_of_ble_eq_true rfl)) dX9_laid_47 ⟨(by rw [hR]; exact Nat.le_of_ble_eq_true rfl), (by rw [hR]; exact Nat.le_of_ble_eq_true rfl)⟩) hS (fun q _ h => hFc q h) hFc (fun r_44 u9 t9 H1 locs ht hvm hr_44 hB hz1 hk1 hS => ?_)
            try dsimp only at hr_44
            have hP1 : va_P D vwCl [] H1 := vP_nil
            have hD1 : va_D (va_A [] H.size) [] := vD_nil
            obtain ⟨hP, hD⟩ := va_join (wr := [(h0, .inr (9, [.ref m1, .ref m2, .ref m3, .int ik, .int wy, .int op, .int cl, .int cx0, .int cx1, .int cy0, .int cy1, .int ds, .ref m4, .ref m5, .ref m6, .ref m7, .ref m8, .ref m9, .int pn, .ref m10, .ref m11, .ref m12, .ref m13]))]) (w1 := []) hP hD [] [0] rfl rfl (by decide) (by decide) hk1 hFc hP1 hD1
            clear hz1 hk1 hFc hKc hDc hPc
            generalize H1 = H at hP hS ⊢
            have hP : va_P D vwCl [(h0, .inr (9, [.ref m1, .ref m2, .ref m3, .int ik, .int wy, .int op, .int cl, .int cx0, .int cx1, .int cy0, .int cy1, .int ds, .ref m4, .ref m5, .ref m6, .ref m7, .ref m8, .ref m9, .int pn, .ref m10, .ref m11, .ref m12, .ref m13]))] H := hP
            have hD : va_D A [(h0, .inr (9, [.ref m1, .ref m2, .ref m3, .int ik, .int wy, .int op, .int cl, .int cx0, .int cx1, .int cy0, .int cy1, .int ds, .ref m4, .ref m5, .ref m6, .ref m7, .ref m8, .ref m9, .int pn, .ref m10, .ref m11, .ref m12, .ref m13]))] := hD
            refine lv_iload hx hb dX9_laid_50 (lv_at hl 4 rfl) ?_
            refine lv_imul hx hb dX9_laid_52 ?_
            refine lv_topi (fun y_45 ey_45 => ?_)
            refine lv_iload_n hx hb dX9_laid_53 rfl (lv_at hl 7 rfl) ?_
            refine lv_iload hx hb dX9_laid_54 (lv_at hl 0 rfl) ?_
            have hPc := hP.sub (ws' := []) [] rfl
            have hDc := hD.sub (ws' := []) [] (by decide) rfl
            have hKc := hK.sub (tys' := []) [] rfl
            have hFc := va_free (wc := []) hD hS hA [] rfl
            refine va_calli (va_runS (As := [.int d, .int 2]) (rest := [.int y_45]) ⟨hx, hb, hml, hown, hts⟩ (k_X9_channel_2 l D H.size d) (va_cwS 2 hts (gS bw_441 bw_438 bw_391 bw_437) rfl rfl rfl (by decide +kernel) ⟨(by rw [hR]; exact Nat.le_of_ble_eq_true rfl), (by rw [hR]; exact Nat.le_of_ble_eq_true rfl)⟩) ⟨cP_blind, cP_at hPc hKc hDc hN⟩ rfl rfl hl.1 rfl (lv_room (Nat.le_of_ble_eq_true rfl)) dX9_laid_56 ⟨(by rw [hR]; exact Nat.le_of_ble_eq_true rfl), (by rw [hR]; exact Nat.le_of_ble_eq_true rfl)⟩) hS (fun q _ h => hFc q h) hFc (fun r_46 u9 t9 H1 locs ht hvm hr_46 hB hz1 hk1 hS => ?_)
            try dsimp only at hr_46
            have hP1 : va_P D vwCl [] H1 := vP_nil
            have hD1 : va_D (va_A [] H.size) [] := vD_nil
            obtain ⟨hP, hD⟩ := va_join (wr := [(h0, .inr (9, [.ref m1, .ref m2, .ref m3, .int ik, .int wy, .int op, .int cl, .int cx0, .int cx1, .int cy0, .int cy1, .int ds, .ref m4, .ref m5, .ref m6, .ref m7, .ref m8, .ref m9, .int pn, .ref m10, .ref m11, .ref m12, .ref m13]))]) (w1 := []) hP hD [] [0] rfl rfl (by decide) (by decide) hk1 hFc hP1 hD1
            clear hz1 hk1 hFc hKc hDc hPc
            generalize H1 = H at hP hS ⊢
            have hP : va_P D vwCl [(h0, .inr (9, [.ref m1, .ref m2, .ref m3, .int ik, .int wy, .int op, .int cl, .int cx0, .int cx1, .int cy0, .int cy1, .int ds, .ref m4, .ref m5, .ref m6, .ref m7, .ref m8, .ref m9, .int pn, .ref m10, .ref m11, .ref m12, .ref m13]))] H := hP
            have hD : va_D A [(h0, .inr (9, [.ref m1, .ref m2, .ref m3, .int ik, .int wy, .int op, .int cl, .int cx0, .int cx1, .int cy0, .int cy1, .int ds, .ref m4, .ref m5, .ref m6, .ref m7, .ref m8, .ref m9, .int pn, .ref m10, .ref m11, .ref m12, .ref m13]))] := hD
            refine lv_iload hx hb dX9_laid_59 (lv_at hl 3 rfl) ?_
            refine lv_imul hx hb dX9_laid_61 ?_
            refine lv_topi (fun y_47 ey_47 => ?_)
            refine lv_iadd hx hb dX9_laid_62 ?_
            refine lv_topi (fun y_48 ey_48 => ?_)
            refine lv_sipush (v := 255) hx hb dX9_laid_63 (by decide) ?_
            have hPc := hP.sub (ws' := []) [] rfl
            have hDc := hD.sub (ws' := []) [] (by decide) rfl
            have hKc := hK.sub (tys' := []) [] rfl
            have hFc := va_free (wc := []) hD hS hA [] rfl
            refine va_calli (va_runS (As := [.int y_48, .int 255]) (rest := []) ⟨hx, hb, hml, hown, hts⟩ (k_X9_nearest_255 l D H.size y_48) (va_cwS 2 hts (gS bw_442 bw_436 bw_391 bw_435) rfl rfl rfl (by decide +kernel) ⟨(by rw [hR]; exact Nat.le_of_ble_eq_true rfl), (by rw [hR]; exact Nat.le_of_ble_eq_true rfl)⟩) ⟨cP_blind, cP_at hPc hKc hDc hN⟩ rfl rfl hl.1 rfl (lv_room (Nat.le_of_ble_eq_true rfl)) dX9_laid_66 ⟨(by rw [hR]; exact Nat.le_of_ble_eq_true rfl), (by rw [hR]; exact Nat.le_of_ble_eq_true rfl)⟩) hS (fun q _ h => hFc q h) hFc (fun r_49 u9 t9 H1 locs ht hvm hr_49 hB hz1 hk1 hS => ?_)
            try dsimp only at hr_49
            have hP1 : va_P D vwCl [] H1 := vP_nil
            have hD1 : va_D (va_A [] H.size) [] := vD_nil
            obtain ⟨hP, hD⟩ := va_join (wr := [(h0, .inr (9, [.ref m1, .ref m2, .ref m3, .int ik, .int wy, .int op, .int cl, .int cx0, .int cx1, .int cy0, .int cy1, .int ds, .ref m4, .ref m5, .ref m6, .ref m7, .ref m8, .ref m9, .int pn, .ref m10, .ref m11, .ref m12, .ref m13]))]) (w1 := []) hP hD [] [0] rfl rfl (by decide) (by decide) hk1 hFc hP1 hD1
            clear hz1 hk1 hFc hKc hDc hPc
            generalize H1 = H at hP hS ⊢
            have hP : va_P D vwCl [(h0, .inr (9, [.ref m1, .ref m2, .ref m3, .int ik, .int wy, .int op, .int cl, .int cx0, .int cx1, .int cy0, .int cy1, .int ds, .ref m4, .ref m5, .ref m6, .ref m7, .ref m8, .ref m9, .int pn, .ref m10, .ref m11, .ref m12, .ref m13]))] H := hP
            have hD : va_D A [(h0, .inr (9, [.ref m1, .ref m2, .ref m3, .int ik, .int wy, .int op, .int cl, .int cx0, .int cx1, .int cy0, .int cy1, .int ds, .ref m4, .ref m5, .ref m6, .ref m7, .ref m8, .ref m9, .int pn, .ref m10, .ref m11, .ref m12, .ref m13]))] := hD
            refine lv_istore (lv' := [(8, .int r_49), (7, .int 2), (6, .int y_41), (5, .int r_6), (4, .int r_3), (0, .ref h0), (1, .int n), (2, .int d), (3, .int v)]) hx hb dX9_laid_69 hl (by decide) rfl (fun ls hl => ?_)
            have join_50 : ∀ (u_51 : Int32) (ls : Array Slot), (u_51 = mnP r_49) → lv_has ls 9 [(8, .int u_51), (7, .int 2), (6, .int y_41), (5, .int r_6), (4, .int r_3), (0, .ref h0), (1, .int n), (2, .int d), (3, .int v)] → W p l e R s m ([.ref h0, .int n, .int d, .int v] : List Value).toArray below meth c H locs 0 0 Q (F0 m 84 ls []) := by
              intro u_51 ls hu_51 hl
              refine lv_iload hx hb dX9_laid_84 (lv_at hl 2 rfl) ?_
              refine lv_bipush (v := 8) hx hb dX9_laid_86 (by decide) ?_
              refine lv_ishl hx hb dX9_laid_88 ?_
              refine lv_topi (fun y_52 ey_52 => ?_)
              refine lv_iload hx hb dX9_laid_89 (lv_at hl 0 rfl) ?_
              refine lv_iload_n hx hb dX9_laid_91 rfl (lv_at hl 8 rfl) ?_
              refine lv_imul hx hb dX9_laid_92 ?_
              refine lv_topi (fun y_53 ey_53 => ?_)
              refine lv_iload_n hx hb dX9_laid_93 rfl (lv_at hl 7 rfl) ?_
              refine lv_iload hx hb dX9_laid_94 (lv_at hl 1 rfl) ?_
              have hPc := hP.sub (ws' := []) [] rfl
              have hDc := hD.sub (ws' := []) [] (by decide) rfl
              have hKc := hK.sub (tys' := []) [] rfl
              have hFc := va_free (wc := []) hD hS hA [] rfl
              refine va_calli (va_runS (As := [.int d, .int 2]) (rest := [.int y_53, .int y_52]) ⟨hx, hb, hml, hown, hts⟩ (k_X9_channel_2 l D H.size d) (va_cwS 2 hts (gS bw_441 bw_438 bw_391 bw_437) rfl rfl rfl (by decide +kernel) ⟨(by rw [hR]; exact Nat.le_of_ble_eq_true rfl), (by rw [hR]; exact Nat.le_of_ble_eq_true rfl)⟩) ⟨cP_blind, cP_at hPc hKc hDc hN⟩ rfl rfl hl.1 rfl (lv_room (Nat.le_of_ble_eq_true rfl)) dX9_laid_96 ⟨(by rw [hR]; exact Nat.le_of_ble_eq_true rfl), (by rw [hR]; exact Nat.le_of_ble_eq_true rfl)⟩) hS (fun q _ h => hFc q h) hFc (fun r_54 u9 t9 H1 locs ht hvm hr_54 hB hz1 hk1 hS => ?_)
              try dsimp only at hr_54
              have hP1 : va_P D vwCl [] H1 := vP_nil
              have hD1 : va_D (va_A [] H.size) [] := vD_nil
              obtain ⟨hP, hD⟩ := va_join (wr := [(h0, .inr (9, [.ref m1, .ref m2, .ref m3, .int ik, .int wy, .int op, .int cl, .int cx0, .int cx1, .int cy0, .int cy1, .int ds, .ref m4, .ref m5, .ref m6, .ref m7, .ref m8, .ref m9, .int pn, .ref m10, .ref m11, .ref m12, .ref m13]))]) (w1 := []) hP hD [] [0] rfl rfl (by decide) (by decide) hk1 hFc hP1 hD1
              clear hz1 hk1 hFc hKc hDc hPc
              generalize H1 = H at hP hS ⊢
              have hP : va_P D vwCl [(h0, .inr (9, [.ref m1, .ref m2, .ref m3, .int ik, .int wy, .int op, .int cl, .int cx0, .int cx1, .int cy0, .int cy1, .int ds, .ref m4, .ref m5, .ref m6, .ref m7, .ref m8, .ref m9, .int pn, .ref m10, .ref m11, .ref m12, .ref m13]))] H := hP
              have hD : va_D A [(h0, .inr (9, [.ref m1, .ref m2, .ref m3, .int ik, .int wy, .int op, .int cl, .int cx0, .int cx1, .int cy0, .int cy1, .int ds, .ref m4, .ref m5, .ref m6, .ref m7, .ref m8, .ref m9, .int pn, .ref m10, .ref m11, .ref m12, .ref m13]))] := hD
              refine lv_sipush (v := 255) hx hb dX9_laid_99 (by decide) ?_
              refine lv_iload_n hx hb dX9_laid_102 rfl (lv_at hl 8 rfl) ?_
              refine lv_isub hx hb dX9_laid_103 ?_
              refine lv_topi (fun y_55 ey_55 => ?_)
              refine lv_imul hx hb dX9_laid_104 ?_
              refine lv_topi (fun y_56 ey_56 => ?_)
              refine lv_iadd hx hb dX9_laid_105 ?_
              refine lv_topi (fun y_57 ey_57 => ?_)
              refine lv_sipush (v := 255) hx hb dX9_laid_106 (by decide) ?_
              have hPc := hP.sub (ws' := []) [] rfl
              have hDc := hD.sub (ws' := []) [] (by decide) rfl
              have hKc := hK.sub (tys' := []) [] rfl
              have hFc := va_free (wc := []) hD hS hA [] rfl
              refine va_calli (va_runS (As := [.int y_57, .int 255]) (rest := [.int y_52]) ⟨hx, hb, hml, hown, hts⟩ (k_X9_nearest_255 l D H.size y_57) (va_cwS 2 hts (gS bw_442 bw_436 bw_391 bw_435) rfl rfl rfl (by decide +kernel) ⟨(by rw [hR]; exact Nat.le_of_ble_eq_true rfl), (by rw [hR]; exact Nat.le_of_ble_eq_true rfl)⟩) ⟨cP_blind, cP_at hPc hKc hDc hN⟩ rfl rfl hl.1 rfl (lv_room (Nat.le_of_ble_eq_true rfl)) dX9_laid_109 ⟨(by rw [hR]; exact Nat.le_of_ble_eq_true rfl), (by rw [hR]; exact Nat.le_of_ble_eq_true rfl)⟩) hS (fun q _ h => hFc q h) hFc (fun r_58 u9 t9 H1 locs ht hvm hr_58 hB hz1 hk1 hS => ?_)
              try dsimp only at hr_58
              have hP1 : va_P D vwCl [] H1 := vP_nil
              have hD1 : va_D (va_A [] H.size) [] := vD_nil
              obtain ⟨hP, hD⟩ := va_join (wr := [(h0, .inr (9, [.ref m1, .ref m2, .ref m3, .int ik, .int wy, .int op, .int cl, .int cx0, .int cx1, .int cy0, .int cy1, .int ds, .ref m4, .ref m5, .ref m6, .ref m7, .ref m8, .ref m9, .int pn, .ref m10, .ref m11, .ref m12, .ref m13]))]) (w1 := []) hP hD [] [0] rfl rfl (by decide) (by decide) hk1 hFc hP1 hD1
              clear hz1 hk1 hFc hKc hDc hPc
              generalize H1 = H at hP hS ⊢
              have hP : va_P D vwCl [(h0, .inr (9, [.ref m1, .ref m2, .ref m3, .int ik, .int wy, .int op, .int cl, .int cx0, .int cx1, .int cy0, .int cy1, .int ds, .ref m4, .ref m5, .ref m6, .ref m7, .ref m8, .ref m9, .int pn, .ref m10, .ref m11, .ref m12, .ref m13]))] H := hP
              have hD : va_D A [(h0, .inr (9, [.ref m1, .ref m2, .ref m3, .int ik, .int wy, .int op, .int cl, .int cx0, .int cx1, .int cy0, .int cy1, .int ds, .ref m4, .ref m5, .ref m6, .ref m7, .ref m8, .ref m9, .int pn, .ref m10, .ref m11, .ref m12, .ref m13]))] := hD
              refine lv_ior hx hb dX9_laid_112 ?_
              refine lv_topi (fun y_59 ey_59 => ?_)
              refine lv_istore (lv' := [(6, .int y_59), (8, .int u_51), (7, .int 2), (5, .int r_6), (4, .int r_3), (0, .ref h0), (1, .int n), (2, .int d), (3, .int v)]) hx hb dX9_laid_113 hl (by decide) rfl (fun ls hl => ?_)
              refine lv_iinc (v := 3) (lv' := [(7, .int 3), (6, .int y_59), (8, .int u_51), (5, .int r_6), (4, .int r_3), (0, .ref h0), (1, .int n), (2, .int d), (3, .int v)]) hx hb dX9_laid_115 hl (k := 2) rfl (by decide) (by decide) rfl (fun ls hl => ?_)
              refine lv_goto (tgt := 38) hx hb dX9_laid_118 (by decide) ?_
              refine lv_iload hx hb dX9_laid_38 (lv_at hl 0 rfl) ?_
              refine lv_iconst (v := 4) hx hb dX9_laid_40 (by decide) ?_
              refine lv_icmp_ge (tgt := 121) hx hb dX9_laid_41 (by decide) (fun c_60 => ?_) (fun c_60 => ?_)
              · skip
                exact absurd c_60 (by decide)
              · skip
                refine lv_iload_n hx hb dX9_laid_44 rfl (lv_at hl 6 rfl) ?_
                refine lv_iload hx hb dX9_laid_45 (lv_at hl 0 rfl) ?_
                have hPc := hP.sub (ws' := []) [] rfl
                have hDc := hD.sub (ws' := []) [] (by decide) rfl
                have hKc := hK.sub (tys' := []) [] rfl
                have hFc := va_free (wc := []) hD hS hA [] rfl
                refine va_calli (va_runS (As := [.int n, .int 3]) (rest := []) ⟨hx, hb, hml, hown, hts⟩ (k_X9_channel_3 l D H.size n) (va_cwS 2 hts (gS bw_441 bw_438 bw_391 bw_437) rfl rfl rfl (by decide +kernel) ⟨(by rw [hR]; exact Nat.le_of_ble_eq_true rfl), (by rw [hR]; exact Nat.le_of_ble_eq_true rfl)⟩) ⟨cP_blind, cP_at hPc hKc hDc hN⟩ rfl rfl hl.1 rfl (lv_room (Nat.le_of_ble_eq_true rfl)) dX9_laid_47 ⟨(by rw [hR]; exact Nat.le_of_ble_eq_true rfl), (by rw [hR]; exact Nat.le_of_ble_eq_true rfl)⟩) hS (fun q _ h => hFc q h) hFc (fun r_62 u9 t9 H1 locs ht hvm hr_62 hB hz1 hk1 hS => ?_)
                try dsimp only at hr_62
                have hP1 : va_P D vwCl [] H1 := vP_nil
                have hD1 : va_D (va_A [] H.size) [] := vD_nil
                obtain ⟨hP, hD⟩ := va_join (wr := [(h0, .inr (9, [.ref m1, .ref m2, .ref m3, .int ik, .int wy, .int op, .int cl, .int cx0, .int cx1, .int cy0, .int cy1, .int ds, .ref m4, .ref m5, .ref m6, .ref m7, .ref m8, .ref m9, .int pn, .ref m10, .ref m11, .ref m12, .ref m13]))]) (w1 := []) hP hD [] [0] rfl rfl (by decide) (by decide) hk1 hFc hP1 hD1
                clear hz1 hk1 hFc hKc hDc hPc
                generalize H1 = H at hP hS ⊢
                have hP : va_P D vwCl [(h0, .inr (9, [.ref m1, .ref m2, .ref m3, .int ik, .int wy, .int op, .int cl, .int cx0, .int cx1, .int cy0, .int cy1, .int ds, .ref m4, .ref m5, .ref m6, .ref m7, .ref m8, .ref m9, .int pn, .ref m10, .ref m11, .ref m12, .ref m13]))] H := hP
                have hD : va_D A [(h0, .inr (9, [.ref m1, .ref m2, .ref m3, .int ik, .int wy, .int op, .int cl, .int cx0, .int cx1, .int cy0, .int cy1, .int ds, .ref m4, .ref m5, .ref m6, .ref m7, .ref m8, .ref m9, .int pn, .ref m10, .ref m11, .ref m12, .ref m13]))] := hD
                refine lv_iload hx hb dX9_laid_50 (lv_at hl 4 rfl) ?_
                refine lv_imul hx hb dX9_laid_52 ?_
                refine lv_topi (fun y_63 ey_63 => ?_)
                refine lv_iload_n hx hb dX9_laid_53 rfl (lv_at hl 7 rfl) ?_
                refine lv_iload hx hb dX9_laid_54 (lv_at hl 0 rfl) ?_
                have hPc := hP.sub (ws' := []) [] rfl
                have hDc := hD.sub (ws' := []) [] (by decide) rfl
                have hKc := hK.sub (tys' := []) [] rfl
                have hFc := va_free (wc := []) hD hS hA [] rfl
                refine va_calli (va_runS (As := [.int d, .int 3]) (rest := [.int y_63]) ⟨hx, hb, hml, hown, hts⟩ (k_X9_channel_3 l D H.size d) (va_cwS 2 hts (gS bw_441 bw_438 bw_391 bw_437) rfl rfl rfl (by decide +kernel) ⟨(by rw [hR]; exact Nat.le_of_ble_eq_true rfl), (by rw [hR]; exact Nat.le_of_ble_eq_true rfl)⟩) ⟨cP_blind, cP_at hPc hKc hDc hN⟩ rfl rfl hl.1 rfl (lv_room (Nat.le_of_ble_eq_true rfl)) dX9_laid_56 ⟨(by rw [hR]; exact Nat.le_of_ble_eq_true rfl), (by rw [hR]; exact Nat.le_of_ble_eq_true rfl)⟩) hS (fun q _ h => hFc q h) hFc (fun r_64 u9 t9 H1 locs ht hvm hr_64 hB hz1 hk1 hS => ?_)
                try dsimp only at hr_64
                have hP1 : va_P D vwCl [] H1 := vP_nil
                have hD1 : va_D (va_A [] H.size) [] := vD_nil
                obtain ⟨hP, hD⟩ := va_join (wr := [(h0, .inr (9, [.ref m1, .ref m2, .ref m3, .int ik, .int wy, .int op, .int cl, .int cx0, .int cx1, .int cy0, .int cy1, .int ds, .ref m4, .ref m5, .ref m6, .ref m7, .ref m8, .ref m9, .int pn, .ref m10, .ref m11, .ref m12, .ref m13]))]) (w1 := []) hP hD [] [0] rfl rfl (by decide) (by decide) hk1 hFc hP1 hD1
                clear hz1 hk1 hFc hKc hDc hPc
                generalize H1 = H at hP hS ⊢
                have hP : va_P D vwCl [(h0, .inr (9, [.ref m1, .ref m2, .ref m3, .int ik, .int wy, .int op, .int cl, .int cx0, .int cx1, .int cy0, .int cy1, .int ds, .ref m4, .ref m5, .ref m6, .ref m7, .ref m8, .ref m9, .int pn, .ref m10, .ref m11, .ref m12, .ref m13]))] H := hP
                have hD : va_D A [(h0, .inr (9, [.ref m1, .ref m2, .ref m3, .int ik, .int wy, .int op, .int cl, .int cx0, .int cx1, .int cy0, .int cy1, .int ds, .ref m4, .ref m5, .ref m6, .ref m7, .ref m8, .ref m9, .int pn, .ref m10, .ref m11, .ref m12, .ref m13]))] := hD
                refine lv_iload hx hb dX9_laid_59 (lv_at hl 3 rfl) ?_
                refine lv_imul hx hb dX9_laid_61 ?_
                refine lv_topi (fun y_65 ey_65 => ?_)
                refine lv_iadd hx hb dX9_laid_62 ?_
                refine lv_topi (fun y_66 ey_66 => ?_)
                refine lv_sipush (v := 255) hx hb dX9_laid_63 (by decide) ?_
                have hPc := hP.sub (ws' := []) [] rfl
                have hDc := hD.sub (ws' := []) [] (by decide) rfl
                have hKc := hK.sub (tys' := []) [] rfl
                have hFc := va_free (wc := []) hD hS hA [] rfl
                refine va_calli (va_runS (As := [.int y_66, .int 255]) (rest := []) ⟨hx, hb, hml, hown, hts⟩ (k_X9_nearest_255 l D H.size y_66) (va_cwS 2 hts (gS bw_442 bw_436 bw_391 bw_435) rfl rfl rfl (by decide +kernel) ⟨(by rw [hR]; exact Nat.le_of_ble_eq_true rfl), (by rw [hR]; exact Nat.le_of_ble_eq_true rfl)⟩) ⟨cP_blind, cP_at hPc hKc hDc hN⟩ rfl rfl hl.1 rfl (lv_room (Nat.le_of_ble_eq_true rfl)) dX9_laid_66 ⟨(by rw [hR]; exact Nat.le_of_ble_eq_true rfl), (by rw [hR]; exact Nat.le_of_ble_eq_true rfl)⟩) hS (fun q _ h => hFc q h) hFc (fun r_67 u9 t9 H1 locs ht hvm hr_67 hB hz1 hk1 hS => ?_)
                try dsimp only at hr_67
                have hP1 : va_P D vwCl [] H1 := vP_nil
                have hD1 : va_D (va_A [] H.size) [] := vD_nil
                obtain ⟨hP, hD⟩ := va_join (wr := [(h0, .inr (9, [.ref m1, .ref m2, .ref m3, .int ik, .int wy, .int op, .int cl, .int cx0, .int cx1, .int cy0, .int cy1, .int ds, .ref m4, .ref m5, .ref m6, .ref m7, .ref m8, .ref m9, .int pn, .ref m10, .ref m11, .ref m12, .ref m13]))]) (w1 := []) hP hD [] [0] rfl rfl (by decide) (by decide) hk1 hFc hP1 hD1
                clear hz1 hk1 hFc hKc hDc hPc
                generalize H1 = H at hP hS ⊢
                have hP : va_P D vwCl [(h0, .inr (9, [.ref m1, .ref m2, .ref m3, .int ik, .int wy, .int op, .int cl, .int cx0, .int cx1, .int cy0, .int cy1, .int ds, .ref m4, .ref m5, .ref m6, .ref m7, .ref m8, .ref m9, .int pn, .ref m10, .ref m11, .ref m12, .ref m13]))] H := hP
                have hD : va_D A [(h0, .inr (9, [.ref m1, .ref m2, .ref m3, .int ik, .int wy, .int op, .int cl, .int cx0, .int cx1, .int cy0, .int cy1, .int ds, .ref m4, .ref m5, .ref m6, .ref m7, .ref m8, .ref m9, .int pn, .ref m10, .ref m11, .ref m12, .ref m13]))] := hD
                refine lv_istore (lv' := [(8, .int r_67), (7, .int 3), (6, .int y_59), (5, .int r_6), (4, .int r_3), (0, .ref h0), (1, .int n), (2, .int d), (3, .int v)]) hx hb dX9_laid_69 hl (by decide) rfl (fun ls hl => ?_)
                have join_68 : ∀ (u_69 : Int32) (ls : Array Slot), (u_69 = mnP r_67) → lv_has ls 9 [(8, .int u_69), (7, .int 3), (6, .int y_59), (5, .int r_6), (4, .int r_3), (0, .ref h0), (1, .int n), (2, .int d), (3, .int v)] → W p l e R s m ([.ref h0, .int n, .int d, .int v] : List Value).toArray below meth c H locs 0 0 Q (F0 m 84 ls []) := by
                  intro u_69 ls hu_69 hl
                  refine lv_iload hx hb dX9_laid_84 (lv_at hl 2 rfl) ?_
                  refine lv_bipush (v := 8) hx hb dX9_laid_86 (by decide) ?_
                  refine lv_ishl hx hb dX9_laid_88 ?_
                  refine lv_topi (fun y_70 ey_70 => ?_)
                  refine lv_iload hx hb dX9_laid_89 (lv_at hl 0 rfl) ?_
                  refine lv_iload_n hx hb dX9_laid_91 rfl (lv_at hl 8 rfl) ?_
                  refine lv_imul hx hb dX9_laid_92 ?_
                  refine lv_topi (fun y_71 ey_71 => ?_)
                  refine lv_iload_n hx hb dX9_laid_93 rfl (lv_at hl 7 rfl) ?_
                  refine lv_iload hx hb dX9_laid_94 (lv_at hl 1 rfl) ?_
                  have hPc := hP.sub (ws' := []) [] rfl
                  have hDc := hD.sub (ws' := []) [] (by decide) rfl
                  have hKc := hK.sub (tys' := []) [] rfl
                  have hFc := va_free (wc := []) hD hS hA [] rfl
                  refine va_calli (va_runS (As := [.int d, .int 3]) (rest := [.int y_71, .int y_70]) ⟨hx, hb, hml, hown, hts⟩ (k_X9_channel_3 l D H.size d) (va_cwS 2 hts (gS bw_441 bw_438 bw_391 bw_437) rfl rfl rfl (by decide +kernel) ⟨(by rw [hR]; exact Nat.le_of_ble_eq_true rfl), (by rw [hR]; exact Nat.le_of_ble_eq_true rfl)⟩) ⟨cP_blind, cP_at hPc hKc hDc hN⟩ rfl rfl hl.1 rfl (lv_room (Nat.le_of_ble_eq_true rfl)) dX9_laid_96 ⟨(by rw [hR]; exact Nat.le_of_ble_eq_true rfl), (by rw [hR]; exact Nat.le_of_ble_eq_true rfl)⟩) hS (fun q _ h => hFc q h) hFc (fun r_72 u9 t9 H1 locs ht hvm hr_72 hB hz1 hk1 hS => ?_)
                  try dsimp only at hr_72
                  have hP1 : va_P D vwCl [] H1 := vP_nil
                  have hD1 : va_D (va_A [] H.size) [] := vD_nil
                  obtain ⟨hP, hD⟩ := va_join (wr := [(h0, .inr (9, [.ref m1, .ref m2, .ref m3, .int ik, .int wy, .int op, .int cl, .int cx0, .int cx1, .int cy0, .int cy1, .int ds, .ref m4, .ref m5, .ref m6, .ref m7, .ref m8, .ref m9, .int pn, .ref m10, .ref m11, .ref m12, .ref m13]))]) (w1 := []) hP hD [] [0] rfl rfl (by decide) (by decide) hk1 hFc hP1 hD1
                  clear hz1 hk1 hFc hKc hDc hPc
                  generalize H1 = H at hP hS ⊢
                  have hP : va_P D vwCl [(h0, .inr (9, [.ref m1, .ref m2, .ref m3, .int ik, .int wy, .int op, .int cl, .int cx0, .int cx1, .int cy0, .int cy1, .int ds, .ref m4, .ref m5, .ref m6, .ref m7, .ref m8, .ref m9, .int pn, .ref m10, .ref m11, .ref m12, .ref m13]))] H := hP
                  have hD : va_D A [(h0, .inr (9, [.ref m1, .ref m2, .ref m3, .int ik, .int wy, .int op, .int cl, .int cx0, .int cx1, .int cy0, .int cy1, .int ds, .ref m4, .ref m5, .ref m6, .ref m7, .ref m8, .ref m9, .int pn, .ref m10, .ref m11, .ref m12, .ref m13]))] := hD
                  refine lv_sipush (v := 255) hx hb dX9_laid_99 (by decide) ?_
                  refine lv_iload_n hx hb dX9_laid_102 rfl (lv_at hl 8 rfl) ?_
                  refine lv_isub hx hb dX9_laid_103 ?_
                  refine lv_topi (fun y_73 ey_73 => ?_)
                  refine lv_imul hx hb dX9_laid_104 ?_
                  refine lv_topi (fun y_74 ey_74 => ?_)
                  refine lv_iadd hx hb dX9_laid_105 ?_
                  refine lv_topi (fun y_75 ey_75 => ?_)
                  refine lv_sipush (v := 255) hx hb dX9_laid_106 (by decide) ?_
                  have hPc := hP.sub (ws' := []) [] rfl
                  have hDc := hD.sub (ws' := []) [] (by decide) rfl
                  have hKc := hK.sub (tys' := []) [] rfl
                  have hFc := va_free (wc := []) hD hS hA [] rfl
                  refine va_calli (va_runS (As := [.int y_75, .int 255]) (rest := [.int y_70]) ⟨hx, hb, hml, hown, hts⟩ (k_X9_nearest_255 l D H.size y_75) (va_cwS 2 hts (gS bw_442 bw_436 bw_391 bw_435) rfl rfl rfl (by decide +kernel) ⟨(by rw [hR]; exact Nat.le_of_ble_eq_true rfl), (by rw [hR]; exact Nat.le_of_ble_eq_true rfl)⟩) ⟨cP_blind, cP_at hPc hKc hDc hN⟩ rfl rfl hl.1 rfl (lv_room (Nat.le_of_ble_eq_true rfl)) dX9_laid_109 ⟨(by rw [hR]; exact Nat.le_of_ble_eq_true rfl), (by rw [hR]; exact Nat.le_of_ble_eq_true rfl)⟩) hS (fun q _ h => hFc q h) hFc (fun r_76 u9 t9 H1 locs ht hvm hr_76 hB hz1 hk1 hS => ?_)
                  try dsimp only at hr_76
                  have hP1 : va_P D vwCl [] H1 := vP_nil
                  have hD1 : va_D (va_A [] H.size) [] := vD_nil
                  obtain ⟨hP, hD⟩ := va_join (wr := [(h0, .inr (9, [.ref m1, .ref m2, .ref m3, .int ik, .int wy, .int op, .int cl, .int cx0, .int cx1, .int cy0, .int cy1, .int ds, .ref m4, .ref m5, .ref m6, .ref m7, .ref m8, .ref m9, .int pn, .ref m10, .ref m11, .ref m12, .ref m13]))]) (w1 := []) hP hD [] [0] rfl rfl (by decide) (by decide) hk1 hFc hP1 hD1
                  clear hz1 hk1 hFc hKc hDc hPc
                  generalize H1 = H at hP hS ⊢
                  have hP : va_P D vwCl [(h0, .inr (9, [.ref m1, .ref m2, .ref m3, .int ik, .int wy, .int op, .int cl, .int cx0, .int cx1, .int cy0, .int cy1, .int ds, .ref m4, .ref m5, .ref m6, .ref m7, .ref m8, .ref m9, .int pn, .ref m10, .ref m11, .ref m12, .ref m13]))] H := hP
                  have hD : va_D A [(h0, .inr (9, [.ref m1, .ref m2, .ref m3, .int ik, .int wy, .int op, .int cl, .int cx0, .int cx1, .int cy0, .int cy1, .int ds, .ref m4, .ref m5, .ref m6, .ref m7, .ref m8, .ref m9, .int pn, .ref m10, .ref m11, .ref m12, .ref m13]))] := hD
                  refine lv_ior hx hb dX9_laid_112 ?_
                  refine lv_topi (fun y_77 ey_77 => ?_)
                  refine lv_istore (lv' := [(6, .int y_77), (8, .int u_69), (7, .int 3), (5, .int r_6), (4, .int r_3), (0, .ref h0), (1, .int n), (2, .int d), (3, .int v)]) hx hb dX9_laid_113 hl (by decide) rfl (fun ls hl => ?_)
                  refine lv_iinc (v := 4) (lv' := [(7, .int 4), (6, .int y_77), (8, .int u_69), (5, .int r_6), (4, .int r_3), (0, .ref h0), (1, .int n), (2, .int d), (3, .int v)]) hx hb dX9_laid_115 hl (k := 2) rfl (by decide) (by decide) rfl (fun ls hl => ?_)
                  refine lv_goto (tgt := 38) hx hb dX9_laid_118 (by decide) ?_
                  refine lv_iload hx hb dX9_laid_38 (lv_at hl 0 rfl) ?_
                  refine lv_iconst (v := 4) hx hb dX9_laid_40 (by decide) ?_
                  refine lv_icmp_ge (tgt := 121) hx hb dX9_laid_41 (by decide) (fun c_78 => ?_) (fun c_78 => ?_)
                  · skip
                    refine lv_iload hx hb dX9_laid_121 (lv_at hl 1 rfl) ?_
                    have hP9 := hP.sub (ws' := [(h0, .inr (9, [.ref m1, .ref m2, .ref m3, .int ik, .int wy, .int op, .int cl, .int cx0, .int cx1, .int cy0, .int cy1, .int ds, .ref m4, .ref m5, .ref m6, .ref m7, .ref m8, .ref m9, .int pn, .ref m10, .ref m11, .ref m12, .ref m13]))]) [0] rfl
                    have hD9 := hD.sub (ws' := [(h0, .inr (9, [.ref m1, .ref m2, .ref m3, .int ik, .int wy, .int op, .int cl, .int cx0, .int cx1, .int cy0, .int cy1, .int ds, .ref m4, .ref m5, .ref m6, .ref m7, .ref m8, .ref m9, .int pn, .ref m10, .ref m11, .ref m12, .ref m13]))]) [0] (by decide) rfl
                    have hK9 := hK.sub (tys' := []) [] rfl
                    refine hQ _ _ _ _ _ ?_
                    exact W.iret (v := y_77) hx hb hr (fun t ht hW => ⟨⟨y_77, (), rfl, (by subst_vars; rfl), ⟨by rw [ht]; exact hP9, va_K.moved hW.alike hK9, hD9⟩⟩, hS.F ht⟩) hS.2.2 dX9_laid_123
                  · skip
                    exact absurd c_78 (by decide)
                refine lv_iload hx hb dX9_laid_71 (lv_at hl 0 rfl) ?_
                refine lv_sipush (v := 255) hx hb dX9_laid_73 (by decide) ?_
                refine lv_icmp_le (tgt := 84) hx hb dX9_laid_76 (by decide) (fun c_80 => ?_) (fun c_80 => ?_)
                · skip
                  have f_81 : r_67.toInt ≤ 255 := f_le rfl (by decide) c_80
                  exact join_68 r_67 _ (mnP_le (by omega)).symm (lv_sub hl [0, 1, 2, 3, 4, 5, 6, 7, 8] rfl)
                · skip
                  have f_81 : ¬ (r_67.toInt ≤ 255) := fn_le rfl (by decide) c_80
                  refine lv_sipush (v := 255) hx hb dX9_laid_79 (by decide) ?_
                  refine lv_istore (lv' := [(8, .int 255), (7, .int 3), (6, .int y_59), (5, .int r_6), (4, .int r_3), (0, .ref h0), (1, .int n), (2, .int d), (3, .int v)]) hx hb dX9_laid_82 hl (by decide) rfl (fun ls hl => ?_)
                  exact join_68 255 _ (by subst_vars; exact (mnP_gt (by omega)).symm) (lv_sub hl [0, 1, 2, 3, 4, 5, 6, 7, 8] rfl)
            refine lv_iload hx hb dX9_laid_71 (lv_at hl 0 rfl) ?_
            refine lv_sipush (v := 255) hx hb dX9_laid_73 (by decide) ?_
            refine lv_icmp_le (tgt := 84) hx hb dX9_laid_76 (by decide) (fun c_82 => ?_) (fun c_82 => ?_)
            · skip
              have f_83 : r_49.toInt ≤ 255 := f_le rfl (by decide) c_82
              exact join_50 r_49 _ (mnP_le (by omega)).symm (lv_sub hl [0, 1, 2, 3, 4, 5, 6, 7, 8] rfl)
            · skip
              have f_83 : ¬ (r_49.toInt ≤ 255) := fn_le rfl (by decide) c_82
              refine lv_sipush (v := 255) hx hb dX9_laid_79 (by decide) ?_
              refine lv_istore (lv' := [(8, .int 255), (7, .int 2), (6, .int y_41), (5, .int r_6), (4, .int r_3), (0, .ref h0), (1, .int n), (2, .int d), (3, .int v)]) hx hb dX9_laid_82 hl (by decide) rfl (fun ls hl => ?_)
              exact join_50 255 _ (by subst_vars; exact (mnP_gt (by omega)).symm) (lv_sub hl [0, 1, 2, 3, 4, 5, 6, 7, 8] rfl)
        refine lv_iload hx hb dX9_laid_71 (lv_at hl 0 rfl) ?_
        refine lv_sipush (v := 255) hx hb dX9_laid_73 (by decide) ?_
        refine lv_icmp_le (tgt := 84) hx hb dX9_laid_76 (by decide) (fun c_84 => ?_) (fun c_84 => ?_)
        · skip
          have f_85 : r_31.toInt ≤ 255 := f_le rfl (by decide) c_84
          exact join_32 r_31 _ (mnP_le (by omega)).symm (lv_sub hl [0, 1, 2, 3, 4, 5, 6, 7, 8] rfl)
        · skip
          have f_85 : ¬ (r_31.toInt ≤ 255) := fn_le rfl (by decide) c_84
          refine lv_sipush (v := 255) hx hb dX9_laid_79 (by decide) ?_
          refine lv_istore (lv' := [(8, .int 255), (7, .int 1), (6, .int y_23), (5, .int r_6), (4, .int r_3), (0, .ref h0), (1, .int n), (2, .int d), (3, .int v)]) hx hb dX9_laid_82 hl (by decide) rfl (fun ls hl => ?_)
          exact join_32 255 _ (by subst_vars; exact (mnP_gt (by omega)).symm) (lv_sub hl [0, 1, 2, 3, 4, 5, 6, 7, 8] rfl)
    refine lv_iload hx hb dX9_laid_71 (lv_at hl 0 rfl) ?_
    refine lv_sipush (v := 255) hx hb dX9_laid_73 (by decide) ?_
    refine lv_icmp_le (tgt := 84) hx hb dX9_laid_76 (by decide) (fun c_86 => ?_) (fun c_86 => ?_)
    · skip
      have f_87 : r_14.toInt ≤ 255 := f_le rfl (by decide) c_86
      exact join_15 r_14 _ (mnP_le (by omega)).symm (lv_sub hl [0, 1, 2, 3, 4, 5, 6, 7, 8] rfl)
    · skip
      have f_87 : ¬ (r_14.toInt ≤ 255) := fn_le rfl (by decide) c_86
      refine lv_sipush (v := 255) hx hb dX9_laid_79 (by decide) ?_
      refine lv_istore (lv' := [(8, .int 255), (7, .int 0), (6, .int 0), (5, .int r_6), (4, .int r_3), (0, .ref h0), (1, .int n), (2, .int d), (3, .int v)]) hx hb dX9_laid_82 hl (by decide) rfl (fun ls hl => ?_)
      exact join_15 255 _ (by subst_vars; exact (mnP_gt (by omega)).symm) (lv_sub hl [0, 1, 2, 3, 4, 5, 6, 7, 8] rfl)
