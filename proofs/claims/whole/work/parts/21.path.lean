set_option maxHeartbeats 4000000 in
set_option maxRecDepth 100000 in
theorem k_J9_floorDiv_7cf53 (l : Launch) (D : va_G) (sz : Nat) (x y : Int32) (hy : ¬ y = 0) : Met l yJ9_floorDiv_7cf53 (wB yJ9_floorDiv_7cf53 cJ9_floorDiv_7cf53 3 (some .int)) ({ frames := 0, cells := 0, slots := 0, locals := 0 }) (cP D [] [] sz [.int x, .int y]) (va_Qi (fun (r : Int32) (_ : Unit) => r = fdP x y) (fun (_ : Unit) (_ : State) => True) (va_A [] sz)) 0 0 (va_A [] sz) := by
  refine my_ofWF (cc := cJ9_floorDiv_7cf53) (maxL := 3) (ret := (some .int)) (by decide +kernel) rfl ?_
  intro p e s m args below meth c s₁ B hml hv
  obtain ⟨rfl, hsz, hP, hK, hD0, hN⟩ := hv
  have hx := B.exec
  have hb := B.bytes
  have hr := B.returns
  have hts0 := atoms_spec (ws := (wB yJ9_floorDiv_7cf53 cJ9_floorDiv_7cf53 3 (some .int))) B.pre
  have hts : ∀ w ∈ bigW, w.before _ s = true := fun w h => hts0 w (List.mem_cons_of_mem _ h)
  have hown : s.vm.findClass RJ9 = some m.cls := findClass_of_methodNamed B.named
  have hlocks := B.notSynchronized
  subst hsz
  have hD := hD0.self (sz := s.heap.size)
  generalize hAe : va_A [] s.heap.size = A at hD ⊢
  have hA : ∀ q : Nat, s.heap.size ≤ q → A q := fun q h => by rw [← hAe]; exact Or.inr h
  have hS : va_S A s.heap s.heap [] := va_S.rf
  have hP : va_P D vwCl [] s.heap := hP
  have hl := lv_entry ([.int x, .int y]) (n := 3) (Nat.le_of_ble_eq_true rfl)
  rw [lg_entry_eq]
  generalize (lg_sl ([.int x, .int y]) ++ List.replicate (3 - (lg_sl ([.int x, .int y])).length) Slot.unset).toArray = ls at hl ⊢
  have hl : lv_has ls 3 [(0, .int x), (1, .int y)] := hl
  clear hts0 hD0 hAe
  refine my_abs (fun R Q hR hQ => ?_)
  refine lv_iload_n hx hb dJ9_floorDiv_7cf53_0 rfl (lv_at hl 0 rfl) ?_
  refine lv_iload_n hx hb dJ9_floorDiv_7cf53_1 rfl (lv_at hl 1 rfl) ?_
  refine lv_idiv hx hb dJ9_floorDiv_7cf53_2 hy ?_
  refine lv_topi (fun y_1 ey_1 => ?_)
  refine lv_istore_n (lv' := [(2, .int y_1), (0, .int x), (1, .int y)]) hx hb dJ9_floorDiv_7cf53_3 rfl hl (by decide) rfl (fun ls hl => ?_)
  refine lv_iload_n hx hb dJ9_floorDiv_7cf53_4 rfl (lv_at hl 1 rfl) ?_
  refine lv_iload_n hx hb dJ9_floorDiv_7cf53_5 rfl (lv_at hl 2 rfl) ?_
  refine lv_ixor hx hb dJ9_floorDiv_7cf53_6 ?_
  refine lv_topi (fun y_2 ey_2 => ?_)
  refine lv_if_ge (tgt := 21) hx hb dJ9_floorDiv_7cf53_7 (by decide) (fun c_3 => ?_) (fun c_3 => ?_)
  · skip
    have f_4 : 0 ≤ y_2.toInt := f_le (by decide) rfl c_3
    have hq1 : 0 ≤ x ^^^ y := by rw [← ey_2]; exact c_3
    refine lv_iload_n hx hb dJ9_floorDiv_7cf53_21 rfl (lv_at hl 0 rfl) ?_
    refine hQ _ _ _ _ _ ?_
    exact W.iret (v := y_1) hx hb hr (fun t ht hW => ⟨⟨y_1, (), rfl, (by rw [ey_1]; exact (if_neg (fun q => q.1 hq1)).symm), trivial⟩, hS.F ht⟩) hS.2.2 dJ9_floorDiv_7cf53_22
  · skip
    have f_4 : ¬ (0 ≤ y_2.toInt) := fn_le (by decide) rfl c_3
    have hq1 : ¬ 0 ≤ x ^^^ y := by rw [← ey_2]; exact c_3
    refine lv_iload_n hx hb dJ9_floorDiv_7cf53_10 rfl (lv_at hl 0 rfl) ?_
    refine lv_iload_n hx hb dJ9_floorDiv_7cf53_11 rfl (lv_at hl 2 rfl) ?_
    refine lv_imul hx hb dJ9_floorDiv_7cf53_12 ?_
    refine lv_topi (fun y_5 ey_5 => ?_)
    refine lv_iload_n hx hb dJ9_floorDiv_7cf53_13 rfl (lv_at hl 1 rfl) ?_
    refine lv_icmp_eq (tgt := 21) hx hb dJ9_floorDiv_7cf53_14 (by decide) (fun c_6 => ?_) (fun c_6 => ?_)
    · skip
      have f_7 : y_5.toInt = x.toInt := f_eq rfl rfl c_6
      have hq2 : x / y * y = x := by rw [← ey_1, ← ey_5]; exact c_6
      refine lv_iload_n hx hb dJ9_floorDiv_7cf53_21 rfl (lv_at hl 0 rfl) ?_
      refine hQ _ _ _ _ _ ?_
      exact W.iret (v := y_1) hx hb hr (fun t ht hW => ⟨⟨y_1, (), rfl, (by rw [ey_1]; exact (if_neg (fun q => q.2 hq2)).symm), trivial⟩, hS.F ht⟩) hS.2.2 dJ9_floorDiv_7cf53_22
    · skip
      have f_7 : ¬ (y_5.toInt = x.toInt) := fn_eq rfl rfl c_6
      have hq2 : ¬ x / y * y = x := by rw [← ey_1, ← ey_5]; exact c_6
      refine lv_iload_n hx hb dJ9_floorDiv_7cf53_17 rfl (lv_at hl 0 rfl) ?_
      refine lv_iconst (v := 1) hx hb dJ9_floorDiv_7cf53_18 (by decide) ?_
      refine lv_isub hx hb dJ9_floorDiv_7cf53_19 ?_
      refine lv_topi (fun y_8 ey_8 => ?_)
      refine hQ _ _ _ _ _ ?_
      exact W.iret (v := y_8) hx hb hr (fun t ht hW => ⟨⟨y_8, (), rfl, (by rw [ey_8, ey_1]; exact (if_pos ⟨hq1, hq2⟩).symm), trivial⟩, hS.F ht⟩) hS.2.2 dJ9_floorDiv_7cf53_20

set_option maxHeartbeats 4000000 in
set_option maxRecDepth 100000 in
theorem k_X3_empty (l : Launch) (D : va_G) (sz : Nat) (h0 : Nat) (p1 p2 p3 p4 : Nat) (pn fx fy : Int32) : Met l yX3_empty (wB yX3_empty cX3_empty 1 none) ({ frames := 0, cells := 0, slots := 0, locals := 0 }) (cP D [(h0, .inr (3, [.ref p1, .ref p2, .ref p3, .ref p4, .int pn, .int fx, .int fy]))] [] sz [.ref h0]) (va_Qv (fun (_ : Unit) => True) (fun (_ : Unit) (t : State) => cB D (va_A [(h0, .inr (3, [.ref p1, .ref p2, .ref p3, .ref p4, .int pn, .int fx, .int fy]))] sz) [(h0, .inr (3, [.ref p1, .ref p2, .ref p3, .ref p4, .int 0, .int fx, .int fy]))] [] t) (va_A [(h0, .inr (3, [.ref p1, .ref p2, .ref p3, .ref p4, .int pn, .int fx, .int fy]))] sz)) 0 0 (va_A [(h0, .inr (3, [.ref p1, .ref p2, .ref p3, .ref p4, .int pn, .int fx, .int fy]))] sz) := by
  refine Met.ofW (cc := cX3_empty) (maxL := 1) (ret := none) (by decide) rfl ?_
  intro p e s m args below meth c s₁ B hml hv
  obtain ⟨rfl, hsz, hP, hK, hD0, hN⟩ := hv
  have hx := B.exec
  have hb := B.bytes
  have hr := B.returns
  have hts0 := atoms_spec (ws := (wB yX3_empty cX3_empty 1 none)) B.pre
  have hts : ∀ w ∈ bigW, w.before _ s = true := fun w h => hts0 w (List.mem_cons_of_mem _ h)
  have hown : s.vm.findClass RX3 = some m.cls := findClass_of_methodNamed B.named
  have hlocks := B.notSynchronized
  subst hsz
  have hD := hD0.self (sz := s.heap.size)
  generalize hAe : va_A [(h0, .inr (3, [.ref p1, .ref p2, .ref p3, .ref p4, .int pn, .int fx, .int fy]))] s.heap.size = A at hD ⊢
  have hA : ∀ q : Nat, s.heap.size ≤ q → A q := fun q h => by rw [← hAe]; exact Or.inr h
  have hS : va_S A s.heap s.heap [] := va_S.rf
  have hP : va_P D vwCl [(h0, .inr (3, [.ref p1, .ref p2, .ref p3, .ref p4, .int pn, .int fx, .int fy]))] s.heap := hP
  have hl := lv_entry ([.ref h0]) (n := 1) (Nat.le_of_ble_eq_true rfl)
  rw [lg_entry_eq]
  generalize (lg_sl ([.ref h0]) ++ List.replicate (1 - (lg_sl ([.ref h0])).length) Slot.unset).toArray = ls at hl ⊢
  have hl : lv_has ls 1 [(0, .ref h0)] := hl
  clear hts0 hD0 hAe
  refine my_abs (fun R Q hR hQ => ?_)
  refine lv_aload_n hx hb dX3_empty_0 rfl (lv_at hl 0 rfl) ?_
  refine lv_iconst (v := 0) hx hb dX3_empty_1 (by decide) ?_
  refine va_put (D := D) (ci := 3) (v := .int 0) (ty := .int) (C := RX3) (T := TX3) (N := 7) hx hb hts hi_X3 tyX3 tyX3_ok nmX3 hown hK hP hD hS 0 rfl rfl 4 (by decide) (hts _ bw_76) (fun _ h9 => h9) rfl (by decide +kernel) rfl rfl (Nat.le_of_ble_eq_true rfl) dX3_empty_2 (fun H locs hP hD hS => ?_)
  have hP : va_P D vwCl [(h0, .inr (3, [.ref p1, .ref p2, .ref p3, .ref p4, .int 0, .int fx, .int fy]))] H := hP
  have hD : va_D A [(h0, .inr (3, [.ref p1, .ref p2, .ref p3, .ref p4, .int 0, .int fx, .int fy]))] := hD
  have hP9 := hP.sub (ws' := [(h0, .inr (3, [.ref p1, .ref p2, .ref p3, .ref p4, .int 0, .int fx, .int fy]))]) [0] rfl
  have hD9 := hD.sub (ws' := [(h0, .inr (3, [.ref p1, .ref p2, .ref p3, .ref p4, .int 0, .int fx, .int fy]))]) [0] (by decide) rfl
  have hK9 := hK.sub (tys' := []) [] rfl
  refine hQ _ _ _ _ _ ?_
  exact W.vret hx hb hr (fun t ht hW => ⟨⟨(), rfl, trivial, ⟨by rw [ht]; exact hP9, va_K.moved hW.alike hK9, hD9⟩⟩, hS.F ht⟩) hS.2.2 dX3_empty_5

set_option maxHeartbeats 4000000 in
set_option maxRecDepth 100000 in
theorem k_X3_add (l : Launch) (D : va_G) (sz : Nat) (h0 : Nat) (p1 p2 p3 p4 : Nat) (pn fx fy : Int32) (qa : Nat → Int32) (qb : Nat → Int32) (qc : Nat → Int32) (qd : Nat → Int32) (u v b9 : Int32) (cI : ClassId) (hpn : 0 ≤ pn.toInt ∧ pn.toInt < 48) : Met l yX3_add (wB yX3_add cX3_add 4 (some .boolean)) ({ frames := 0, cells := 0, slots := 0, locals := 0 }) (cP D [(h0, .inr (3, [.ref p1, .ref p2, .ref p3, .ref p4, .int pn, .int fx, .int fy])), (p1, .inl (cI, 48, .inl qa)), (p2, .inl (cI, 48, .inl qb)), (p3, .inl (cI, 48, .inl qc)), (p4, .inl (cI, 48, .inl qd))] [(cI, .int)] sz [.ref h0, .int u, .int v, .int b9]) (va_Qi (fun (r : Int32) (_ : Unit) => r = 1) (fun (_ : Unit) (t : State) => cB D (va_A [(h0, .inr (3, [.ref p1, .ref p2, .ref p3, .ref p4, .int pn, .int fx, .int fy])), (p1, .inl (cI, 48, .inl qa)), (p2, .inl (cI, 48, .inl qb)), (p3, .inl (cI, 48, .inl qc)), (p4, .inl (cI, 48, .inl qd))] sz) [(h0, .inr (3, [.ref p1, .ref p2, .ref p3, .ref p4, .int (pn + 1), .int (adF b9 pn u fx), .int (adF b9 pn v fy)])), (p1, .inl (cI, 48, .inl (upd qa pn.toNatClampNeg u))), (p2, .inl (cI, 48, .inl (upd qb pn.toNatClampNeg v))), (p3, .inl (cI, 48, .inl (adT b9 pn u fx qc))), (p4, .inl (cI, 48, .inl (adT b9 pn v fy qd)))] [(cI, .int)] t) (va_A [(h0, .inr (3, [.ref p1, .ref p2, .ref p3, .ref p4, .int pn, .int fx, .int fy])), (p1, .inl (cI, 48, .inl qa)), (p2, .inl (cI, 48, .inl qb)), (p3, .inl (cI, 48, .inl qc)), (p4, .inl (cI, 48, .inl qd))] sz)) 0 0 (va_A [(h0, .inr (3, [.ref p1, .ref p2, .ref p3, .ref p4, .int pn, .int fx, .int fy])), (p1, .inl (cI, 48, .inl qa)), (p2, .inl (cI, 48, .inl qb)), (p3, .inl (cI, 48, .inl qc)), (p4, .inl (cI, 48, .inl qd))] sz) := by
  refine Met.ofW (cc := cX3_add) (maxL := 4) (ret := (some .boolean)) (by decide) rfl ?_
  intro p e s m args below meth c s₁ B hml hv
  obtain ⟨rfl, hsz, hP, hK, hD0, hN⟩ := hv
  have hx := B.exec
  have hb := B.bytes
  have hr := B.returns
  have hts0 := atoms_spec (ws := (wB yX3_add cX3_add 4 (some .boolean))) B.pre
  have hts : ∀ w ∈ bigW, w.before _ s = true := fun w h => hts0 w (List.mem_cons_of_mem _ h)
  have hown : s.vm.findClass RX3 = some m.cls := findClass_of_methodNamed B.named
  have hlocks := B.notSynchronized
  subst hsz
  have hD := hD0.self (sz := s.heap.size)
  generalize hAe : va_A [(h0, .inr (3, [.ref p1, .ref p2, .ref p3, .ref p4, .int pn, .int fx, .int fy])), (p1, .inl (cI, 48, .inl qa)), (p2, .inl (cI, 48, .inl qb)), (p3, .inl (cI, 48, .inl qc)), (p4, .inl (cI, 48, .inl qd))] s.heap.size = A at hD ⊢
  have hA : ∀ q : Nat, s.heap.size ≤ q → A q := fun q h => by rw [← hAe]; exact Or.inr h
  have hS : va_S A s.heap s.heap [] := va_S.rf
  have hP : va_P D vwCl [(h0, .inr (3, [.ref p1, .ref p2, .ref p3, .ref p4, .int pn, .int fx, .int fy])), (p1, .inl (cI, 48, .inl qa)), (p2, .inl (cI, 48, .inl qb)), (p3, .inl (cI, 48, .inl qc)), (p4, .inl (cI, 48, .inl qd))] s.heap := hP
  have hl := lv_entry ([.ref h0, .int u, .int v, .int b9]) (n := 4) (Nat.le_of_ble_eq_true rfl)
  rw [lg_entry_eq]
  generalize (lg_sl ([.ref h0, .int u, .int v, .int b9]) ++ List.replicate (4 - (lg_sl ([.ref h0, .int u, .int v, .int b9])).length) Slot.unset).toArray = ls at hl ⊢
  have hl : lv_has ls 4 [(0, .ref h0), (1, .int u), (2, .int v), (3, .int b9)] := hl
  clear hts0 hD0 hAe
  refine my_abs (fun R Q hR hQ => ?_)
  refine lv_aload_n hx hb dX3_add_0 rfl (lv_at hl 0 rfl) ?_
  refine va_get (D := D) (ci := 3) (v := .int pn) (C := RX3) (T := TX3) (N := 7) hx hb hts hi_X3 hown hK hP 0 rfl rfl 4 (by decide) (hts _ bw_76) (fun _ h9 => h9) rfl dX3_add_1 ?_
  refine lv_bipush (v := 48) hx hb dX3_add_4 (by decide) ?_
  refine lv_icmp_lt (tgt := 11) hx hb dX3_add_6 (by decide) (fun c_1 => ?_) (fun c_1 => ?_)
  · skip
    have f_2 : pn.toInt < 48 := f_lt rfl (by decide) c_1
    refine lv_iload_n hx hb dX3_add_11 rfl (lv_at hl 3 rfl) ?_
    refine lv_if_ne (tgt := 22) hx hb dX3_add_12 (by decide) (fun c_3 => ?_) (fun c_3 => ?_)
    · skip
      have f_4 : ¬ (b9.toInt = 0) := fn_eq rfl (by decide) c_3
      refine lv_aload_n hx hb dX3_add_22 rfl (lv_at hl 0 rfl) ?_
      refine lv_iload_n hx hb dX3_add_23 rfl (lv_at hl 1 rfl) ?_
      refine va_put (D := D) (ci := 3) (v := .int u) (ty := .int) (C := RX3) (T := TX3) (N := 7) hx hb hts hi_X3 tyX3 tyX3_ok nmX3 hown hK hP hD hS 0 rfl rfl 5 (by decide) (hts _ bw_77) (fun _ h9 => h9) rfl (by decide +kernel) rfl rfl (Nat.le_of_ble_eq_true rfl) dX3_add_24 (fun H locs hP hD hS => ?_)
      have hP : va_P D vwCl [(h0, .inr (3, [.ref p1, .ref p2, .ref p3, .ref p4, .int pn, .int u, .int fy])), (p1, .inl (cI, 48, .inl qa)), (p2, .inl (cI, 48, .inl qb)), (p3, .inl (cI, 48, .inl qc)), (p4, .inl (cI, 48, .inl qd))] H := hP
      have hD : va_D A [(h0, .inr (3, [.ref p1, .ref p2, .ref p3, .ref p4, .int pn, .int u, .int fy])), (p1, .inl (cI, 48, .inl qa)), (p2, .inl (cI, 48, .inl qb)), (p3, .inl (cI, 48, .inl qc)), (p4, .inl (cI, 48, .inl qd))] := hD
      refine lv_aload_n hx hb dX3_add_27 rfl (lv_at hl 0 rfl) ?_
      refine lv_iload_n hx hb dX3_add_28 rfl (lv_at hl 2 rfl) ?_
      refine va_put (D := D) (ci := 3) (v := .int v) (ty := .int) (C := RX3) (T := TX3) (N := 7) hx hb hts hi_X3 tyX3 tyX3_ok nmX3 hown hK hP hD hS 0 rfl rfl 6 (by decide) (hts _ bw_78) (fun _ h9 => h9) rfl (by decide +kernel) rfl rfl (Nat.le_of_ble_eq_true rfl) dX3_add_29 (fun H locs hP hD hS => ?_)
      have hP : va_P D vwCl [(h0, .inr (3, [.ref p1, .ref p2, .ref p3, .ref p4, .int pn, .int u, .int v])), (p1, .inl (cI, 48, .inl qa)), (p2, .inl (cI, 48, .inl qb)), (p3, .inl (cI, 48, .inl qc)), (p4, .inl (cI, 48, .inl qd))] H := hP
      have hD : va_D A [(h0, .inr (3, [.ref p1, .ref p2, .ref p3, .ref p4, .int pn, .int u, .int v])), (p1, .inl (cI, 48, .inl qa)), (p2, .inl (cI, 48, .inl qb)), (p3, .inl (cI, 48, .inl qc)), (p4, .inl (cI, 48, .inl qd))] := hD
      refine lv_goto (tgt := 59) hx hb dX3_add_32 (by decide) ?_
      refine lv_aload_n hx hb dX3_add_59 rfl (lv_at hl 0 rfl) ?_
      refine va_get (D := D) (ci := 3) (v := .ref p1) (C := RX3) (T := TX3) (N := 7) hx hb hts hi_X3 hown hK hP 0 rfl rfl 0 (by decide) (hts _ bw_72) (fun _ h9 => h9) rfl dX3_add_60 ?_
      refine lv_aload_n hx hb dX3_add_63 rfl (lv_at hl 0 rfl) ?_
      refine va_get (D := D) (ci := 3) (v := .int pn) (C := RX3) (T := TX3) (N := 7) hx hb hts hi_X3 hown hK hP 0 rfl rfl 4 (by decide) (hts _ bw_76) (fun _ h9 => h9) rfl dX3_add_64 ?_
      refine lv_iload_n hx hb dX3_add_67 rfl (lv_at hl 1 rfl) ?_
      refine va_iast hx hb hK hP hD hS 1 0 rfl rfl (vp_in_iff.mpr ⟨by omega, by omega⟩) dX3_add_68 (fun H locs hP hD hS => ?_)
      have hP : va_P D vwCl [(h0, .inr (3, [.ref p1, .ref p2, .ref p3, .ref p4, .int pn, .int u, .int v])), (p1, .inl (cI, 48, .inl (upd qa pn.toNatClampNeg u))), (p2, .inl (cI, 48, .inl qb)), (p3, .inl (cI, 48, .inl qc)), (p4, .inl (cI, 48, .inl qd))] H := hP
      have hD : va_D A [(h0, .inr (3, [.ref p1, .ref p2, .ref p3, .ref p4, .int pn, .int u, .int v])), (p1, .inl (cI, 48, .inl (upd qa pn.toNatClampNeg u))), (p2, .inl (cI, 48, .inl qb)), (p3, .inl (cI, 48, .inl qc)), (p4, .inl (cI, 48, .inl qd))] := hD
      generalize eg_5 : upd qa pn.toNatClampNeg u = g_5 at hP hD
      have hP : va_P D vwCl [(h0, .inr (3, [.ref p1, .ref p2, .ref p3, .ref p4, .int pn, .int u, .int v])), (p1, .inl (cI, 48, .inl g_5)), (p2, .inl (cI, 48, .inl qb)), (p3, .inl (cI, 48, .inl qc)), (p4, .inl (cI, 48, .inl qd))] H := hP
      have hD : va_D A [(h0, .inr (3, [.ref p1, .ref p2, .ref p3, .ref p4, .int pn, .int u, .int v])), (p1, .inl (cI, 48, .inl g_5)), (p2, .inl (cI, 48, .inl qb)), (p3, .inl (cI, 48, .inl qc)), (p4, .inl (cI, 48, .inl qd))] := hD
      refine lv_aload_n hx hb dX3_add_69 rfl (lv_at hl 0 rfl) ?_
      refine va_get (D := D) (ci := 3) (v := .ref p2) (C := RX3) (T := TX3) (N := 7) hx hb hts hi_X3 hown hK hP 0 rfl rfl 1 (by decide) (hts _ bw_73) (fun _ h9 => h9) rfl dX3_add_70 ?_
      refine lv_aload_n hx hb dX3_add_73 rfl (lv_at hl 0 rfl) ?_
      refine va_get (D := D) (ci := 3) (v := .int pn) (C := RX3) (T := TX3) (N := 7) hx hb hts hi_X3 hown hK hP 0 rfl rfl 4 (by decide) (hts _ bw_76) (fun _ h9 => h9) rfl dX3_add_74 ?_
      refine lv_iload_n hx hb dX3_add_77 rfl (lv_at hl 2 rfl) ?_
      refine va_iast hx hb hK hP hD hS 2 0 rfl rfl (vp_in_iff.mpr ⟨by omega, by omega⟩) dX3_add_78 (fun H locs hP hD hS => ?_)
      have hP : va_P D vwCl [(h0, .inr (3, [.ref p1, .ref p2, .ref p3, .ref p4, .int pn, .int u, .int v])), (p1, .inl (cI, 48, .inl g_5)), (p2, .inl (cI, 48, .inl (upd qb pn.toNatClampNeg v))), (p3, .inl (cI, 48, .inl qc)), (p4, .inl (cI, 48, .inl qd))] H := hP
      have hD : va_D A [(h0, .inr (3, [.ref p1, .ref p2, .ref p3, .ref p4, .int pn, .int u, .int v])), (p1, .inl (cI, 48, .inl g_5)), (p2, .inl (cI, 48, .inl (upd qb pn.toNatClampNeg v))), (p3, .inl (cI, 48, .inl qc)), (p4, .inl (cI, 48, .inl qd))] := hD
      generalize eg_6 : upd qb pn.toNatClampNeg v = g_6 at hP hD
      have hP : va_P D vwCl [(h0, .inr (3, [.ref p1, .ref p2, .ref p3, .ref p4, .int pn, .int u, .int v])), (p1, .inl (cI, 48, .inl g_5)), (p2, .inl (cI, 48, .inl g_6)), (p3, .inl (cI, 48, .inl qc)), (p4, .inl (cI, 48, .inl qd))] H := hP
      have hD : va_D A [(h0, .inr (3, [.ref p1, .ref p2, .ref p3, .ref p4, .int pn, .int u, .int v])), (p1, .inl (cI, 48, .inl g_5)), (p2, .inl (cI, 48, .inl g_6)), (p3, .inl (cI, 48, .inl qc)), (p4, .inl (cI, 48, .inl qd))] := hD
      refine lv_aload_n hx hb dX3_add_79 rfl (lv_at hl 0 rfl) ?_
      refine va_get (D := D) (ci := 3) (v := .ref p3) (C := RX3) (T := TX3) (N := 7) hx hb hts hi_X3 hown hK hP 0 rfl rfl 2 (by decide) (hts _ bw_74) (fun _ h9 => h9) rfl dX3_add_80 ?_
      refine lv_aload_n hx hb dX3_add_83 rfl (lv_at hl 0 rfl) ?_
      refine va_get (D := D) (ci := 3) (v := .int pn) (C := RX3) (T := TX3) (N := 7) hx hb hts hi_X3 hown hK hP 0 rfl rfl 4 (by decide) (hts _ bw_76) (fun _ h9 => h9) rfl dX3_add_84 ?_
      refine lv_aload_n hx hb dX3_add_87 rfl (lv_at hl 0 rfl) ?_
      refine va_get (D := D) (ci := 3) (v := .int u) (C := RX3) (T := TX3) (N := 7) hx hb hts hi_X3 hown hK hP 0 rfl rfl 5 (by decide) (hts _ bw_77) (fun _ h9 => h9) rfl dX3_add_88 ?_
      refine va_iast hx hb hK hP hD hS 3 0 rfl rfl (vp_in_iff.mpr ⟨by omega, by omega⟩) dX3_add_91 (fun H locs hP hD hS => ?_)
      have hP : va_P D vwCl [(h0, .inr (3, [.ref p1, .ref p2, .ref p3, .ref p4, .int pn, .int u, .int v])), (p1, .inl (cI, 48, .inl g_5)), (p2, .inl (cI, 48, .inl g_6)), (p3, .inl (cI, 48, .inl (upd qc pn.toNatClampNeg u))), (p4, .inl (cI, 48, .inl qd))] H := hP
      have hD : va_D A [(h0, .inr (3, [.ref p1, .ref p2, .ref p3, .ref p4, .int pn, .int u, .int v])), (p1, .inl (cI, 48, .inl g_5)), (p2, .inl (cI, 48, .inl g_6)), (p3, .inl (cI, 48, .inl (upd qc pn.toNatClampNeg u))), (p4, .inl (cI, 48, .inl qd))] := hD
      generalize eg_7 : upd qc pn.toNatClampNeg u = g_7 at hP hD
      have hP : va_P D vwCl [(h0, .inr (3, [.ref p1, .ref p2, .ref p3, .ref p4, .int pn, .int u, .int v])), (p1, .inl (cI, 48, .inl g_5)), (p2, .inl (cI, 48, .inl g_6)), (p3, .inl (cI, 48, .inl g_7)), (p4, .inl (cI, 48, .inl qd))] H := hP
      have hD : va_D A [(h0, .inr (3, [.ref p1, .ref p2, .ref p3, .ref p4, .int pn, .int u, .int v])), (p1, .inl (cI, 48, .inl g_5)), (p2, .inl (cI, 48, .inl g_6)), (p3, .inl (cI, 48, .inl g_7)), (p4, .inl (cI, 48, .inl qd))] := hD
      refine lv_aload_n hx hb dX3_add_92 rfl (lv_at hl 0 rfl) ?_
      refine va_get (D := D) (ci := 3) (v := .ref p4) (C := RX3) (T := TX3) (N := 7) hx hb hts hi_X3 hown hK hP 0 rfl rfl 3 (by decide) (hts _ bw_75) (fun _ h9 => h9) rfl dX3_add_93 ?_
      refine lv_aload_n hx hb dX3_add_96 rfl (lv_at hl 0 rfl) ?_
      refine va_get (D := D) (ci := 3) (v := .int pn) (C := RX3) (T := TX3) (N := 7) hx hb hts hi_X3 hown hK hP 0 rfl rfl 4 (by decide) (hts _ bw_76) (fun _ h9 => h9) rfl dX3_add_97 ?_
      refine lv_aload_n hx hb dX3_add_100 rfl (lv_at hl 0 rfl) ?_
      refine va_get (D := D) (ci := 3) (v := .int v) (C := RX3) (T := TX3) (N := 7) hx hb hts hi_X3 hown hK hP 0 rfl rfl 6 (by decide) (hts _ bw_78) (fun _ h9 => h9) rfl dX3_add_101 ?_
      refine va_iast hx hb hK hP hD hS 4 0 rfl rfl (vp_in_iff.mpr ⟨by omega, by omega⟩) dX3_add_104 (fun H locs hP hD hS => ?_)
      have hP : va_P D vwCl [(h0, .inr (3, [.ref p1, .ref p2, .ref p3, .ref p4, .int pn, .int u, .int v])), (p1, .inl (cI, 48, .inl g_5)), (p2, .inl (cI, 48, .inl g_6)), (p3, .inl (cI, 48, .inl g_7)), (p4, .inl (cI, 48, .inl (upd qd pn.toNatClampNeg v)))] H := hP
      have hD : va_D A [(h0, .inr (3, [.ref p1, .ref p2, .ref p3, .ref p4, .int pn, .int u, .int v])), (p1, .inl (cI, 48, .inl g_5)), (p2, .inl (cI, 48, .inl g_6)), (p3, .inl (cI, 48, .inl g_7)), (p4, .inl (cI, 48, .inl (upd qd pn.toNatClampNeg v)))] := hD
      generalize eg_8 : upd qd pn.toNatClampNeg v = g_8 at hP hD
      have hP : va_P D vwCl [(h0, .inr (3, [.ref p1, .ref p2, .ref p3, .ref p4, .int pn, .int u, .int v])), (p1, .inl (cI, 48, .inl g_5)), (p2, .inl (cI, 48, .inl g_6)), (p3, .inl (cI, 48, .inl g_7)), (p4, .inl (cI, 48, .inl g_8))] H := hP
      have hD : va_D A [(h0, .inr (3, [.ref p1, .ref p2, .ref p3, .ref p4, .int pn, .int u, .int v])), (p1, .inl (cI, 48, .inl g_5)), (p2, .inl (cI, 48, .inl g_6)), (p3, .inl (cI, 48, .inl g_7)), (p4, .inl (cI, 48, .inl g_8))] := hD
      refine lv_aload_n hx hb dX3_add_105 rfl (lv_at hl 0 rfl) ?_
      refine lv_dup hx hb dX3_add_106 rfl ?_
      refine va_get (D := D) (ci := 3) (v := .int pn) (C := RX3) (T := TX3) (N := 7) hx hb hts hi_X3 hown hK hP 0 rfl rfl 4 (by decide) (hts _ bw_76) (fun _ h9 => h9) rfl dX3_add_107 ?_
      refine lv_iconst (v := 1) hx hb dX3_add_110 (by decide) ?_
      refine lv_iadd hx hb dX3_add_111 ?_
      refine lv_topi (fun y_9 ey_9 => ?_)
      refine va_put (D := D) (ci := 3) (v := .int y_9) (ty := .int) (C := RX3) (T := TX3) (N := 7) hx hb hts hi_X3 tyX3 tyX3_ok nmX3 hown hK hP hD hS 0 rfl rfl 4 (by decide) (hts _ bw_76) (fun _ h9 => h9) rfl (by decide +kernel) rfl rfl (Nat.le_of_ble_eq_true rfl) dX3_add_112 (fun H locs hP hD hS => ?_)
      have hP : va_P D vwCl [(h0, .inr (3, [.ref p1, .ref p2, .ref p3, .ref p4, .int y_9, .int u, .int v])), (p1, .inl (cI, 48, .inl g_5)), (p2, .inl (cI, 48, .inl g_6)), (p3, .inl (cI, 48, .inl g_7)), (p4, .inl (cI, 48, .inl g_8))] H := hP
      have hD : va_D A [(h0, .inr (3, [.ref p1, .ref p2, .ref p3, .ref p4, .int y_9, .int u, .int v])), (p1, .inl (cI, 48, .inl g_5)), (p2, .inl (cI, 48, .inl g_6)), (p3, .inl (cI, 48, .inl g_7)), (p4, .inl (cI, 48, .inl g_8))] := hD
      refine lv_iconst (v := 1) hx hb dX3_add_115 (by decide) ?_
      have hF1 : adF b9 pn u fx = u := if_pos (Or.inl c_3)
      have hF2 : adF b9 pn v fy = v := if_pos (Or.inl c_3)
      have hT1 : adT b9 pn u fx qc = upd (qc) pn.toNatClampNeg u := by unfold adT; rw [hF1]; exact congrArg (fun t => upd t pn.toNatClampNeg _) (if_pos (Or.inl c_3))
      have hT2 : adT b9 pn v fy qd = upd (qd) pn.toNatClampNeg v := by unfold adT; rw [hF2]; exact congrArg (fun t => upd t pn.toNatClampNeg _) (if_pos (Or.inl c_3))
      have hP : va_P D vwCl [(h0, .inr (3, [.ref p1, .ref p2, .ref p3, .ref p4, .int (pn + 1), .int (adF b9 pn u fx), .int (adF b9 pn v fy)])), (p1, .inl (cI, 48, .inl (upd qa pn.toNatClampNeg u))), (p2, .inl (cI, 48, .inl (upd qb pn.toNatClampNeg v))), (p3, .inl (cI, 48, .inl (adT b9 pn u fx qc))), (p4, .inl (cI, 48, .inl (adT b9 pn v fy qd)))] H := by rw [hF1, hF2, hT1, hT2]; subst_vars; exact hP
      have hD : va_D A [(h0, .inr (3, [.ref p1, .ref p2, .ref p3, .ref p4, .int (pn + 1), .int (adF b9 pn u fx), .int (adF b9 pn v fy)])), (p1, .inl (cI, 48, .inl (upd qa pn.toNatClampNeg u))), (p2, .inl (cI, 48, .inl (upd qb pn.toNatClampNeg v))), (p3, .inl (cI, 48, .inl (adT b9 pn u fx qc))), (p4, .inl (cI, 48, .inl (adT b9 pn v fy qd)))] := by rw [hF1, hF2, hT1, hT2]; subst_vars; exact hD
      have hP9 := hP.sub (ws' := [(h0, .inr (3, [.ref p1, .ref p2, .ref p3, .ref p4, .int (pn + 1), .int (adF b9 pn u fx), .int (adF b9 pn v fy)])), (p1, .inl (cI, 48, .inl (upd qa pn.toNatClampNeg u))), (p2, .inl (cI, 48, .inl (upd qb pn.toNatClampNeg v))), (p3, .inl (cI, 48, .inl (adT b9 pn u fx qc))), (p4, .inl (cI, 48, .inl (adT b9 pn v fy qd)))]) [0, 1, 2, 3, 4] rfl
      have hD9 := hD.sub (ws' := [(h0, .inr (3, [.ref p1, .ref p2, .ref p3, .ref p4, .int (pn + 1), .int (adF b9 pn u fx), .int (adF b9 pn v fy)])), (p1, .inl (cI, 48, .inl (upd qa pn.toNatClampNeg u))), (p2, .inl (cI, 48, .inl (upd qb pn.toNatClampNeg v))), (p3, .inl (cI, 48, .inl (adT b9 pn u fx qc))), (p4, .inl (cI, 48, .inl (adT b9 pn v fy qd)))]) [0, 1, 2, 3, 4] (by decide) rfl
      have hK9 := hK.sub (tys' := [(cI, .int)]) [0] rfl
      refine hQ _ _ _ _ _ ?_
      exact W.zret (v := 1) hx hb hr rfl (fun t ht hW => ⟨⟨1, (), rfl, rfl, ⟨by rw [ht]; exact hP9, va_K.moved hW.alike hK9, hD9⟩⟩, hS.F ht⟩) hS.2.2 dX3_add_116
    · skip
      have f_4 : b9.toInt = 0 := f_eq rfl (by decide) c_3
      refine lv_aload_n hx hb dX3_add_15 rfl (lv_at hl 0 rfl) ?_
      refine va_get (D := D) (ci := 3) (v := .int pn) (C := RX3) (T := TX3) (N := 7) hx hb hts hi_X3 hown hK hP 0 rfl rfl 4 (by decide) (hts _ bw_76) (fun _ h9 => h9) rfl dX3_add_16 ?_
      refine lv_if_ne (tgt := 35) hx hb dX3_add_19 (by decide) (fun c_10 => ?_) (fun c_10 => ?_)
      · skip
        have f_11 : ¬ (pn.toInt = 0) := fn_eq rfl (by decide) c_10
        refine lv_aload_n hx hb dX3_add_35 rfl (lv_at hl 0 rfl) ?_
        refine va_get (D := D) (ci := 3) (v := .ref p3) (C := RX3) (T := TX3) (N := 7) hx hb hts hi_X3 hown hK hP 0 rfl rfl 2 (by decide) (hts _ bw_74) (fun _ h9 => h9) rfl dX3_add_36 ?_
        refine lv_aload_n hx hb dX3_add_39 rfl (lv_at hl 0 rfl) ?_
        refine va_get (D := D) (ci := 3) (v := .int pn) (C := RX3) (T := TX3) (N := 7) hx hb hts hi_X3 hown hK hP 0 rfl rfl 4 (by decide) (hts _ bw_76) (fun _ h9 => h9) rfl dX3_add_40 ?_
        refine lv_iconst (v := 1) hx hb dX3_add_43 (by decide) ?_
        refine lv_isub hx hb dX3_add_44 ?_
        refine lv_topi (fun y_12 ey_12 => ?_)
        have hty_12 : y_12.toInt = pn.toInt - 1 := by rw [ey_12]; exact m1_ti (by omega)
        refine lv_iload_n hx hb dX3_add_45 rfl (lv_at hl 1 rfl) ?_
        refine va_iast hx hb hK hP hD hS 3 0 rfl rfl (vp_in_iff.mpr ⟨by rw [hty_12]; omega, by rw [hty_12]; omega⟩) dX3_add_46 (fun H locs hP hD hS => ?_)
        have hP : va_P D vwCl [(h0, .inr (3, [.ref p1, .ref p2, .ref p3, .ref p4, .int pn, .int fx, .int fy])), (p1, .inl (cI, 48, .inl qa)), (p2, .inl (cI, 48, .inl qb)), (p3, .inl (cI, 48, .inl (upd qc y_12.toNatClampNeg u))), (p4, .inl (cI, 48, .inl qd))] H := hP
        have hD : va_D A [(h0, .inr (3, [.ref p1, .ref p2, .ref p3, .ref p4, .int pn, .int fx, .int fy])), (p1, .inl (cI, 48, .inl qa)), (p2, .inl (cI, 48, .inl qb)), (p3, .inl (cI, 48, .inl (upd qc y_12.toNatClampNeg u))), (p4, .inl (cI, 48, .inl qd))] := hD
        generalize eg_13 : upd qc y_12.toNatClampNeg u = g_13 at hP hD
        have hP : va_P D vwCl [(h0, .inr (3, [.ref p1, .ref p2, .ref p3, .ref p4, .int pn, .int fx, .int fy])), (p1, .inl (cI, 48, .inl qa)), (p2, .inl (cI, 48, .inl qb)), (p3, .inl (cI, 48, .inl g_13)), (p4, .inl (cI, 48, .inl qd))] H := hP
        have hD : va_D A [(h0, .inr (3, [.ref p1, .ref p2, .ref p3, .ref p4, .int pn, .int fx, .int fy])), (p1, .inl (cI, 48, .inl qa)), (p2, .inl (cI, 48, .inl qb)), (p3, .inl (cI, 48, .inl g_13)), (p4, .inl (cI, 48, .inl qd))] := hD
        refine lv_aload_n hx hb dX3_add_47 rfl (lv_at hl 0 rfl) ?_
        refine va_get (D := D) (ci := 3) (v := .ref p4) (C := RX3) (T := TX3) (N := 7) hx hb hts hi_X3 hown hK hP 0 rfl rfl 3 (by decide) (hts _ bw_75) (fun _ h9 => h9) rfl dX3_add_48 ?_
        refine lv_aload_n hx hb dX3_add_51 rfl (lv_at hl 0 rfl) ?_
        refine va_get (D := D) (ci := 3) (v := .int pn) (C := RX3) (T := TX3) (N := 7) hx hb hts hi_X3 hown hK hP 0 rfl rfl 4 (by decide) (hts _ bw_76) (fun _ h9 => h9) rfl dX3_add_52 ?_
        refine lv_iconst (v := 1) hx hb dX3_add_55 (by decide) ?_
        refine lv_isub hx hb dX3_add_56 ?_
        refine lv_topi (fun y_14 ey_14 => ?_)
        have hty_14 : y_14.toInt = pn.toInt - 1 := by rw [ey_14]; exact m1_ti (by omega)
        refine lv_iload_n hx hb dX3_add_57 rfl (lv_at hl 2 rfl) ?_
        refine va_iast hx hb hK hP hD hS 4 0 rfl rfl (vp_in_iff.mpr ⟨by rw [hty_14]; omega, by rw [hty_14]; omega⟩) dX3_add_58 (fun H locs hP hD hS => ?_)
        have hP : va_P D vwCl [(h0, .inr (3, [.ref p1, .ref p2, .ref p3, .ref p4, .int pn, .int fx, .int fy])), (p1, .inl (cI, 48, .inl qa)), (p2, .inl (cI, 48, .inl qb)), (p3, .inl (cI, 48, .inl g_13)), (p4, .inl (cI, 48, .inl (upd qd y_14.toNatClampNeg v)))] H := hP
        have hD : va_D A [(h0, .inr (3, [.ref p1, .ref p2, .ref p3, .ref p4, .int pn, .int fx, .int fy])), (p1, .inl (cI, 48, .inl qa)), (p2, .inl (cI, 48, .inl qb)), (p3, .inl (cI, 48, .inl g_13)), (p4, .inl (cI, 48, .inl (upd qd y_14.toNatClampNeg v)))] := hD
        generalize eg_15 : upd qd y_14.toNatClampNeg v = g_15 at hP hD
        have hP : va_P D vwCl [(h0, .inr (3, [.ref p1, .ref p2, .ref p3, .ref p4, .int pn, .int fx, .int fy])), (p1, .inl (cI, 48, .inl qa)), (p2, .inl (cI, 48, .inl qb)), (p3, .inl (cI, 48, .inl g_13)), (p4, .inl (cI, 48, .inl g_15))] H := hP
        have hD : va_D A [(h0, .inr (3, [.ref p1, .ref p2, .ref p3, .ref p4, .int pn, .int fx, .int fy])), (p1, .inl (cI, 48, .inl qa)), (p2, .inl (cI, 48, .inl qb)), (p3, .inl (cI, 48, .inl g_13)), (p4, .inl (cI, 48, .inl g_15))] := hD
        refine lv_aload_n hx hb dX3_add_59 rfl (lv_at hl 0 rfl) ?_
        refine va_get (D := D) (ci := 3) (v := .ref p1) (C := RX3) (T := TX3) (N := 7) hx hb hts hi_X3 hown hK hP 0 rfl rfl 0 (by decide) (hts _ bw_72) (fun _ h9 => h9) rfl dX3_add_60 ?_
        refine lv_aload_n hx hb dX3_add_63 rfl (lv_at hl 0 rfl) ?_
        refine va_get (D := D) (ci := 3) (v := .int pn) (C := RX3) (T := TX3) (N := 7) hx hb hts hi_X3 hown hK hP 0 rfl rfl 4 (by decide) (hts _ bw_76) (fun _ h9 => h9) rfl dX3_add_64 ?_
        refine lv_iload_n hx hb dX3_add_67 rfl (lv_at hl 1 rfl) ?_
        refine va_iast hx hb hK hP hD hS 1 0 rfl rfl (vp_in_iff.mpr ⟨by omega, by omega⟩) dX3_add_68 (fun H locs hP hD hS => ?_)
        have hP : va_P D vwCl [(h0, .inr (3, [.ref p1, .ref p2, .ref p3, .ref p4, .int pn, .int fx, .int fy])), (p1, .inl (cI, 48, .inl (upd qa pn.toNatClampNeg u))), (p2, .inl (cI, 48, .inl qb)), (p3, .inl (cI, 48, .inl g_13)), (p4, .inl (cI, 48, .inl g_15))] H := hP
        have hD : va_D A [(h0, .inr (3, [.ref p1, .ref p2, .ref p3, .ref p4, .int pn, .int fx, .int fy])), (p1, .inl (cI, 48, .inl (upd qa pn.toNatClampNeg u))), (p2, .inl (cI, 48, .inl qb)), (p3, .inl (cI, 48, .inl g_13)), (p4, .inl (cI, 48, .inl g_15))] := hD
        generalize eg_16 : upd qa pn.toNatClampNeg u = g_16 at hP hD
        have hP : va_P D vwCl [(h0, .inr (3, [.ref p1, .ref p2, .ref p3, .ref p4, .int pn, .int fx, .int fy])), (p1, .inl (cI, 48, .inl g_16)), (p2, .inl (cI, 48, .inl qb)), (p3, .inl (cI, 48, .inl g_13)), (p4, .inl (cI, 48, .inl g_15))] H := hP
        have hD : va_D A [(h0, .inr (3, [.ref p1, .ref p2, .ref p3, .ref p4, .int pn, .int fx, .int fy])), (p1, .inl (cI, 48, .inl g_16)), (p2, .inl (cI, 48, .inl qb)), (p3, .inl (cI, 48, .inl g_13)), (p4, .inl (cI, 48, .inl g_15))] := hD
        refine lv_aload_n hx hb dX3_add_69 rfl (lv_at hl 0 rfl) ?_
        refine va_get (D := D) (ci := 3) (v := .ref p2) (C := RX3) (T := TX3) (N := 7) hx hb hts hi_X3 hown hK hP 0 rfl rfl 1 (by decide) (hts _ bw_73) (fun _ h9 => h9) rfl dX3_add_70 ?_
        refine lv_aload_n hx hb dX3_add_73 rfl (lv_at hl 0 rfl) ?_
        refine va_get (D := D) (ci := 3) (v := .int pn) (C := RX3) (T := TX3) (N := 7) hx hb hts hi_X3 hown hK hP 0 rfl rfl 4 (by decide) (hts _ bw_76) (fun _ h9 => h9) rfl dX3_add_74 ?_
        refine lv_iload_n hx hb dX3_add_77 rfl (lv_at hl 2 rfl) ?_
        refine va_iast hx hb hK hP hD hS 2 0 rfl rfl (vp_in_iff.mpr ⟨by omega, by omega⟩) dX3_add_78 (fun H locs hP hD hS => ?_)
        have hP : va_P D vwCl [(h0, .inr (3, [.ref p1, .ref p2, .ref p3, .ref p4, .int pn, .int fx, .int fy])), (p1, .inl (cI, 48, .inl g_16)), (p2, .inl (cI, 48, .inl (upd qb pn.toNatClampNeg v))), (p3, .inl (cI, 48, .inl g_13)), (p4, .inl (cI, 48, .inl g_15))] H := hP
        have hD : va_D A [(h0, .inr (3, [.ref p1, .ref p2, .ref p3, .ref p4, .int pn, .int fx, .int fy])), (p1, .inl (cI, 48, .inl g_16)), (p2, .inl (cI, 48, .inl (upd qb pn.toNatClampNeg v))), (p3, .inl (cI, 48, .inl g_13)), (p4, .inl (cI, 48, .inl g_15))] := hD
        generalize eg_17 : upd qb pn.toNatClampNeg v = g_17 at hP hD
        have hP : va_P D vwCl [(h0, .inr (3, [.ref p1, .ref p2, .ref p3, .ref p4, .int pn, .int fx, .int fy])), (p1, .inl (cI, 48, .inl g_16)), (p2, .inl (cI, 48, .inl g_17)), (p3, .inl (cI, 48, .inl g_13)), (p4, .inl (cI, 48, .inl g_15))] H := hP
        have hD : va_D A [(h0, .inr (3, [.ref p1, .ref p2, .ref p3, .ref p4, .int pn, .int fx, .int fy])), (p1, .inl (cI, 48, .inl g_16)), (p2, .inl (cI, 48, .inl g_17)), (p3, .inl (cI, 48, .inl g_13)), (p4, .inl (cI, 48, .inl g_15))] := hD
        refine lv_aload_n hx hb dX3_add_79 rfl (lv_at hl 0 rfl) ?_
        refine va_get (D := D) (ci := 3) (v := .ref p3) (C := RX3) (T := TX3) (N := 7) hx hb hts hi_X3 hown hK hP 0 rfl rfl 2 (by decide) (hts _ bw_74) (fun _ h9 => h9) rfl dX3_add_80 ?_
        refine lv_aload_n hx hb dX3_add_83 rfl (lv_at hl 0 rfl) ?_
        refine va_get (D := D) (ci := 3) (v := .int pn) (C := RX3) (T := TX3) (N := 7) hx hb hts hi_X3 hown hK hP 0 rfl rfl 4 (by decide) (hts _ bw_76) (fun _ h9 => h9) rfl dX3_add_84 ?_
        refine lv_aload_n hx hb dX3_add_87 rfl (lv_at hl 0 rfl) ?_
        refine va_get (D := D) (ci := 3) (v := .int fx) (C := RX3) (T := TX3) (N := 7) hx hb hts hi_X3 hown hK hP 0 rfl rfl 5 (by decide) (hts _ bw_77) (fun _ h9 => h9) rfl dX3_add_88 ?_
        refine va_iast hx hb hK hP hD hS 3 0 rfl rfl (vp_in_iff.mpr ⟨by omega, by omega⟩) dX3_add_91 (fun H locs hP hD hS => ?_)
        have hP : va_P D vwCl [(h0, .inr (3, [.ref p1, .ref p2, .ref p3, .ref p4, .int pn, .int fx, .int fy])), (p1, .inl (cI, 48, .inl g_16)), (p2, .inl (cI, 48, .inl g_17)), (p3, .inl (cI, 48, .inl (upd g_13 pn.toNatClampNeg fx))), (p4, .inl (cI, 48, .inl g_15))] H := hP
        have hD : va_D A [(h0, .inr (3, [.ref p1, .ref p2, .ref p3, .ref p4, .int pn, .int fx, .int fy])), (p1, .inl (cI, 48, .inl g_16)), (p2, .inl (cI, 48, .inl g_17)), (p3, .inl (cI, 48, .inl (upd g_13 pn.toNatClampNeg fx))), (p4, .inl (cI, 48, .inl g_15))] := hD
        generalize eg_18 : upd g_13 pn.toNatClampNeg fx = g_18 at hP hD
        have hP : va_P D vwCl [(h0, .inr (3, [.ref p1, .ref p2, .ref p3, .ref p4, .int pn, .int fx, .int fy])), (p1, .inl (cI, 48, .inl g_16)), (p2, .inl (cI, 48, .inl g_17)), (p3, .inl (cI, 48, .inl g_18)), (p4, .inl (cI, 48, .inl g_15))] H := hP
        have hD : va_D A [(h0, .inr (3, [.ref p1, .ref p2, .ref p3, .ref p4, .int pn, .int fx, .int fy])), (p1, .inl (cI, 48, .inl g_16)), (p2, .inl (cI, 48, .inl g_17)), (p3, .inl (cI, 48, .inl g_18)), (p4, .inl (cI, 48, .inl g_15))] := hD
        refine lv_aload_n hx hb dX3_add_92 rfl (lv_at hl 0 rfl) ?_
        refine va_get (D := D) (ci := 3) (v := .ref p4) (C := RX3) (T := TX3) (N := 7) hx hb hts hi_X3 hown hK hP 0 rfl rfl 3 (by decide) (hts _ bw_75) (fun _ h9 => h9) rfl dX3_add_93 ?_
        refine lv_aload_n hx hb dX3_add_96 rfl (lv_at hl 0 rfl) ?_
        refine va_get (D := D) (ci := 3) (v := .int pn) (C := RX3) (T := TX3) (N := 7) hx hb hts hi_X3 hown hK hP 0 rfl rfl 4 (by decide) (hts _ bw_76) (fun _ h9 => h9) rfl dX3_add_97 ?_
        refine lv_aload_n hx hb dX3_add_100 rfl (lv_at hl 0 rfl) ?_
        refine va_get (D := D) (ci := 3) (v := .int fy) (C := RX3) (T := TX3) (N := 7) hx hb hts hi_X3 hown hK hP 0 rfl rfl 6 (by decide) (hts _ bw_78) (fun _ h9 => h9) rfl dX3_add_101 ?_
        refine va_iast hx hb hK hP hD hS 4 0 rfl rfl (vp_in_iff.mpr ⟨by omega, by omega⟩) dX3_add_104 (fun H locs hP hD hS => ?_)
        have hP : va_P D vwCl [(h0, .inr (3, [.ref p1, .ref p2, .ref p3, .ref p4, .int pn, .int fx, .int fy])), (p1, .inl (cI, 48, .inl g_16)), (p2, .inl (cI, 48, .inl g_17)), (p3, .inl (cI, 48, .inl g_18)), (p4, .inl (cI, 48, .inl (upd g_15 pn.toNatClampNeg fy)))] H := hP
        have hD : va_D A [(h0, .inr (3, [.ref p1, .ref p2, .ref p3, .ref p4, .int pn, .int fx, .int fy])), (p1, .inl (cI, 48, .inl g_16)), (p2, .inl (cI, 48, .inl g_17)), (p3, .inl (cI, 48, .inl g_18)), (p4, .inl (cI, 48, .inl (upd g_15 pn.toNatClampNeg fy)))] := hD
        generalize eg_19 : upd g_15 pn.toNatClampNeg fy = g_19 at hP hD
        have hP : va_P D vwCl [(h0, .inr (3, [.ref p1, .ref p2, .ref p3, .ref p4, .int pn, .int fx, .int fy])), (p1, .inl (cI, 48, .inl g_16)), (p2, .inl (cI, 48, .inl g_17)), (p3, .inl (cI, 48, .inl g_18)), (p4, .inl (cI, 48, .inl g_19))] H := hP
        have hD : va_D A [(h0, .inr (3, [.ref p1, .ref p2, .ref p3, .ref p4, .int pn, .int fx, .int fy])), (p1, .inl (cI, 48, .inl g_16)), (p2, .inl (cI, 48, .inl g_17)), (p3, .inl (cI, 48, .inl g_18)), (p4, .inl (cI, 48, .inl g_19))] := hD
        refine lv_aload_n hx hb dX3_add_105 rfl (lv_at hl 0 rfl) ?_
        refine lv_dup hx hb dX3_add_106 rfl ?_
        refine va_get (D := D) (ci := 3) (v := .int pn) (C := RX3) (T := TX3) (N := 7) hx hb hts hi_X3 hown hK hP 0 rfl rfl 4 (by decide) (hts _ bw_76) (fun _ h9 => h9) rfl dX3_add_107 ?_
        refine lv_iconst (v := 1) hx hb dX3_add_110 (by decide) ?_
        refine lv_iadd hx hb dX3_add_111 ?_
        refine lv_topi (fun y_20 ey_20 => ?_)
        refine va_put (D := D) (ci := 3) (v := .int y_20) (ty := .int) (C := RX3) (T := TX3) (N := 7) hx hb hts hi_X3 tyX3 tyX3_ok nmX3 hown hK hP hD hS 0 rfl rfl 4 (by decide) (hts _ bw_76) (fun _ h9 => h9) rfl (by decide +kernel) rfl rfl (Nat.le_of_ble_eq_true rfl) dX3_add_112 (fun H locs hP hD hS => ?_)
        have hP : va_P D vwCl [(h0, .inr (3, [.ref p1, .ref p2, .ref p3, .ref p4, .int y_20, .int fx, .int fy])), (p1, .inl (cI, 48, .inl g_16)), (p2, .inl (cI, 48, .inl g_17)), (p3, .inl (cI, 48, .inl g_18)), (p4, .inl (cI, 48, .inl g_19))] H := hP
        have hD : va_D A [(h0, .inr (3, [.ref p1, .ref p2, .ref p3, .ref p4, .int y_20, .int fx, .int fy])), (p1, .inl (cI, 48, .inl g_16)), (p2, .inl (cI, 48, .inl g_17)), (p3, .inl (cI, 48, .inl g_18)), (p4, .inl (cI, 48, .inl g_19))] := hD
        refine lv_iconst (v := 1) hx hb dX3_add_115 (by decide) ?_
        have hF1 : adF b9 pn u fx = fx := if_neg (fun q => q.elim (fun q => q c_3) c_10)
        have hF2 : adF b9 pn v fy = fy := if_neg (fun q => q.elim (fun q => q c_3) c_10)
        have hT1 : adT b9 pn u fx qc = upd (upd qc (pn - 1).toNatClampNeg u) pn.toNatClampNeg fx := by unfold adT; rw [hF1]; exact congrArg (fun t => upd t pn.toNatClampNeg _) (if_neg (fun q => q.elim (fun q => q c_3) c_10))
        have hT2 : adT b9 pn v fy qd = upd (upd qd (pn - 1).toNatClampNeg v) pn.toNatClampNeg fy := by unfold adT; rw [hF2]; exact congrArg (fun t => upd t pn.toNatClampNeg _) (if_neg (fun q => q.elim (fun q => q c_3) c_10))
        have hP : va_P D vwCl [(h0, .inr (3, [.ref p1, .ref p2, .ref p3, .ref p4, .int (pn + 1), .int (adF b9 pn u fx), .int (adF b9 pn v fy)])), (p1, .inl (cI, 48, .inl (upd qa pn.toNatClampNeg u))), (p2, .inl (cI, 48, .inl (upd qb pn.toNatClampNeg v))), (p3, .inl (cI, 48, .inl (adT b9 pn u fx qc))), (p4, .inl (cI, 48, .inl (adT b9 pn v fy qd)))] H := by rw [hF1, hF2, hT1, hT2]; subst_vars; exact hP
        have hD : va_D A [(h0, .inr (3, [.ref p1, .ref p2, .ref p3, .ref p4, .int (pn + 1), .int (adF b9 pn u fx), .int (adF b9 pn v fy)])), (p1, .inl (cI, 48, .inl (upd qa pn.toNatClampNeg u))), (p2, .inl (cI, 48, .inl (upd qb pn.toNatClampNeg v))), (p3, .inl (cI, 48, .inl (adT b9 pn u fx qc))), (p4, .inl (cI, 48, .inl (adT b9 pn v fy qd)))] := by rw [hF1, hF2, hT1, hT2]; subst_vars; exact hD
        have hP9 := hP.sub (ws' := [(h0, .inr (3, [.ref p1, .ref p2, .ref p3, .ref p4, .int (pn + 1), .int (adF b9 pn u fx), .int (adF b9 pn v fy)])), (p1, .inl (cI, 48, .inl (upd qa pn.toNatClampNeg u))), (p2, .inl (cI, 48, .inl (upd qb pn.toNatClampNeg v))), (p3, .inl (cI, 48, .inl (adT b9 pn u fx qc))), (p4, .inl (cI, 48, .inl (adT b9 pn v fy qd)))]) [0, 1, 2, 3, 4] rfl
        have hD9 := hD.sub (ws' := [(h0, .inr (3, [.ref p1, .ref p2, .ref p3, .ref p4, .int (pn + 1), .int (adF b9 pn u fx), .int (adF b9 pn v fy)])), (p1, .inl (cI, 48, .inl (upd qa pn.toNatClampNeg u))), (p2, .inl (cI, 48, .inl (upd qb pn.toNatClampNeg v))), (p3, .inl (cI, 48, .inl (adT b9 pn u fx qc))), (p4, .inl (cI, 48, .inl (adT b9 pn v fy qd)))]) [0, 1, 2, 3, 4] (by decide) rfl
        have hK9 := hK.sub (tys' := [(cI, .int)]) [0] rfl
        refine hQ _ _ _ _ _ ?_
        exact W.zret (v := 1) hx hb hr rfl (fun t ht hW => ⟨⟨1, (), rfl, rfl, ⟨by rw [ht]; exact hP9, va_K.moved hW.alike hK9, hD9⟩⟩, hS.F ht⟩) hS.2.2 dX3_add_116
      · skip
        have f_11 : pn.toInt = 0 := f_eq rfl (by decide) c_10
        refine lv_aload_n hx hb dX3_add_22 rfl (lv_at hl 0 rfl) ?_
        refine lv_iload_n hx hb dX3_add_23 rfl (lv_at hl 1 rfl) ?_
        refine va_put (D := D) (ci := 3) (v := .int u) (ty := .int) (C := RX3) (T := TX3) (N := 7) hx hb hts hi_X3 tyX3 tyX3_ok nmX3 hown hK hP hD hS 0 rfl rfl 5 (by decide) (hts _ bw_77) (fun _ h9 => h9) rfl (by decide +kernel) rfl rfl (Nat.le_of_ble_eq_true rfl) dX3_add_24 (fun H locs hP hD hS => ?_)
        have hP : va_P D vwCl [(h0, .inr (3, [.ref p1, .ref p2, .ref p3, .ref p4, .int pn, .int u, .int fy])), (p1, .inl (cI, 48, .inl qa)), (p2, .inl (cI, 48, .inl qb)), (p3, .inl (cI, 48, .inl qc)), (p4, .inl (cI, 48, .inl qd))] H := hP
        have hD : va_D A [(h0, .inr (3, [.ref p1, .ref p2, .ref p3, .ref p4, .int pn, .int u, .int fy])), (p1, .inl (cI, 48, .inl qa)), (p2, .inl (cI, 48, .inl qb)), (p3, .inl (cI, 48, .inl qc)), (p4, .inl (cI, 48, .inl qd))] := hD
        refine lv_aload_n hx hb dX3_add_27 rfl (lv_at hl 0 rfl) ?_
        refine lv_iload_n hx hb dX3_add_28 rfl (lv_at hl 2 rfl) ?_
        refine va_put (D := D) (ci := 3) (v := .int v) (ty := .int) (C := RX3) (T := TX3) (N := 7) hx hb hts hi_X3 tyX3 tyX3_ok nmX3 hown hK hP hD hS 0 rfl rfl 6 (by decide) (hts _ bw_78) (fun _ h9 => h9) rfl (by decide +kernel) rfl rfl (Nat.le_of_ble_eq_true rfl) dX3_add_29 (fun H locs hP hD hS => ?_)
        have hP : va_P D vwCl [(h0, .inr (3, [.ref p1, .ref p2, .ref p3, .ref p4, .int pn, .int u, .int v])), (p1, .inl (cI, 48, .inl qa)), (p2, .inl (cI, 48, .inl qb)), (p3, .inl (cI, 48, .inl qc)), (p4, .inl (cI, 48, .inl qd))] H := hP
        have hD : va_D A [(h0, .inr (3, [.ref p1, .ref p2, .ref p3, .ref p4, .int pn, .int u, .int v])), (p1, .inl (cI, 48, .inl qa)), (p2, .inl (cI, 48, .inl qb)), (p3, .inl (cI, 48, .inl qc)), (p4, .inl (cI, 48, .inl qd))] := hD
        refine lv_goto (tgt := 59) hx hb dX3_add_32 (by decide) ?_
        refine lv_aload_n hx hb dX3_add_59 rfl (lv_at hl 0 rfl) ?_
        refine va_get (D := D) (ci := 3) (v := .ref p1) (C := RX3) (T := TX3) (N := 7) hx hb hts hi_X3 hown hK hP 0 rfl rfl 0 (by decide) (hts _ bw_72) (fun _ h9 => h9) rfl dX3_add_60 ?_
        refine lv_aload_n hx hb dX3_add_63 rfl (lv_at hl 0 rfl) ?_
        refine va_get (D := D) (ci := 3) (v := .int pn) (C := RX3) (T := TX3) (N := 7) hx hb hts hi_X3 hown hK hP 0 rfl rfl 4 (by decide) (hts _ bw_76) (fun _ h9 => h9) rfl dX3_add_64 ?_
        refine lv_iload_n hx hb dX3_add_67 rfl (lv_at hl 1 rfl) ?_
        refine va_iast hx hb hK hP hD hS 1 0 rfl rfl (vp_in_iff.mpr ⟨by omega, by omega⟩) dX3_add_68 (fun H locs hP hD hS => ?_)
        have hP : va_P D vwCl [(h0, .inr (3, [.ref p1, .ref p2, .ref p3, .ref p4, .int pn, .int u, .int v])), (p1, .inl (cI, 48, .inl (upd qa pn.toNatClampNeg u))), (p2, .inl (cI, 48, .inl qb)), (p3, .inl (cI, 48, .inl qc)), (p4, .inl (cI, 48, .inl qd))] H := hP
        have hD : va_D A [(h0, .inr (3, [.ref p1, .ref p2, .ref p3, .ref p4, .int pn, .int u, .int v])), (p1, .inl (cI, 48, .inl (upd qa pn.toNatClampNeg u))), (p2, .inl (cI, 48, .inl qb)), (p3, .inl (cI, 48, .inl qc)), (p4, .inl (cI, 48, .inl qd))] := hD
        generalize eg_21 : upd qa pn.toNatClampNeg u = g_21 at hP hD
        have hP : va_P D vwCl [(h0, .inr (3, [.ref p1, .ref p2, .ref p3, .ref p4, .int pn, .int u, .int v])), (p1, .inl (cI, 48, .inl g_21)), (p2, .inl (cI, 48, .inl qb)), (p3, .inl (cI, 48, .inl qc)), (p4, .inl (cI, 48, .inl qd))] H := hP
        have hD : va_D A [(h0, .inr (3, [.ref p1, .ref p2, .ref p3, .ref p4, .int pn, .int u, .int v])), (p1, .inl (cI, 48, .inl g_21)), (p2, .inl (cI, 48, .inl qb)), (p3, .inl (cI, 48, .inl qc)), (p4, .inl (cI, 48, .inl qd))] := hD
        refine lv_aload_n hx hb dX3_add_69 rfl (lv_at hl 0 rfl) ?_
        refine va_get (D := D) (ci := 3) (v := .ref p2) (C := RX3) (T := TX3) (N := 7) hx hb hts hi_X3 hown hK hP 0 rfl rfl 1 (by decide) (hts _ bw_73) (fun _ h9 => h9) rfl dX3_add_70 ?_
        refine lv_aload_n hx hb dX3_add_73 rfl (lv_at hl 0 rfl) ?_
        refine va_get (D := D) (ci := 3) (v := .int pn) (C := RX3) (T := TX3) (N := 7) hx hb hts hi_X3 hown hK hP 0 rfl rfl 4 (by decide) (hts _ bw_76) (fun _ h9 => h9) rfl dX3_add_74 ?_
        refine lv_iload_n hx hb dX3_add_77 rfl (lv_at hl 2 rfl) ?_
        refine va_iast hx hb hK hP hD hS 2 0 rfl rfl (vp_in_iff.mpr ⟨by omega, by omega⟩) dX3_add_78 (fun H locs hP hD hS => ?_)
        have hP : va_P D vwCl [(h0, .inr (3, [.ref p1, .ref p2, .ref p3, .ref p4, .int pn, .int u, .int v])), (p1, .inl (cI, 48, .inl g_21)), (p2, .inl (cI, 48, .inl (upd qb pn.toNatClampNeg v))), (p3, .inl (cI, 48, .inl qc)), (p4, .inl (cI, 48, .inl qd))] H := hP
        have hD : va_D A [(h0, .inr (3, [.ref p1, .ref p2, .ref p3, .ref p4, .int pn, .int u, .int v])), (p1, .inl (cI, 48, .inl g_21)), (p2, .inl (cI, 48, .inl (upd qb pn.toNatClampNeg v))), (p3, .inl (cI, 48, .inl qc)), (p4, .inl (cI, 48, .inl qd))] := hD
        generalize eg_22 : upd qb pn.toNatClampNeg v = g_22 at hP hD
        have hP : va_P D vwCl [(h0, .inr (3, [.ref p1, .ref p2, .ref p3, .ref p4, .int pn, .int u, .int v])), (p1, .inl (cI, 48, .inl g_21)), (p2, .inl (cI, 48, .inl g_22)), (p3, .inl (cI, 48, .inl qc)), (p4, .inl (cI, 48, .inl qd))] H := hP
        have hD : va_D A [(h0, .inr (3, [.ref p1, .ref p2, .ref p3, .ref p4, .int pn, .int u, .int v])), (p1, .inl (cI, 48, .inl g_21)), (p2, .inl (cI, 48, .inl g_22)), (p3, .inl (cI, 48, .inl qc)), (p4, .inl (cI, 48, .inl qd))] := hD
        refine lv_aload_n hx hb dX3_add_79 rfl (lv_at hl 0 rfl) ?_
        refine va_get (D := D) (ci := 3) (v := .ref p3) (C := RX3) (T := TX3) (N := 7) hx hb hts hi_X3 hown hK hP 0 rfl rfl 2 (by decide) (hts _ bw_74) (fun _ h9 => h9) rfl dX3_add_80 ?_
        refine lv_aload_n hx hb dX3_add_83 rfl (lv_at hl 0 rfl) ?_
        refine va_get (D := D) (ci := 3) (v := .int pn) (C := RX3) (T := TX3) (N := 7) hx hb hts hi_X3 hown hK hP 0 rfl rfl 4 (by decide) (hts _ bw_76) (fun _ h9 => h9) rfl dX3_add_84 ?_
        refine lv_aload_n hx hb dX3_add_87 rfl (lv_at hl 0 rfl) ?_
        refine va_get (D := D) (ci := 3) (v := .int u) (C := RX3) (T := TX3) (N := 7) hx hb hts hi_X3 hown hK hP 0 rfl rfl 5 (by decide) (hts _ bw_77) (fun _ h9 => h9) rfl dX3_add_88 ?_
        refine va_iast hx hb hK hP hD hS 3 0 rfl rfl (vp_in_iff.mpr ⟨by omega, by omega⟩) dX3_add_91 (fun H locs hP hD hS => ?_)
        have hP : va_P D vwCl [(h0, .inr (3, [.ref p1, .ref p2, .ref p3, .ref p4, .int pn, .int u, .int v])), (p1, .inl (cI, 48, .inl g_21)), (p2, .inl (cI, 48, .inl g_22)), (p3, .inl (cI, 48, .inl (upd qc pn.toNatClampNeg u))), (p4, .inl (cI, 48, .inl qd))] H := hP
        have hD : va_D A [(h0, .inr (3, [.ref p1, .ref p2, .ref p3, .ref p4, .int pn, .int u, .int v])), (p1, .inl (cI, 48, .inl g_21)), (p2, .inl (cI, 48, .inl g_22)), (p3, .inl (cI, 48, .inl (upd qc pn.toNatClampNeg u))), (p4, .inl (cI, 48, .inl qd))] := hD
        generalize eg_23 : upd qc pn.toNatClampNeg u = g_23 at hP hD
        have hP : va_P D vwCl [(h0, .inr (3, [.ref p1, .ref p2, .ref p3, .ref p4, .int pn, .int u, .int v])), (p1, .inl (cI, 48, .inl g_21)), (p2, .inl (cI, 48, .inl g_22)), (p3, .inl (cI, 48, .inl g_23)), (p4, .inl (cI, 48, .inl qd))] H := hP
        have hD : va_D A [(h0, .inr (3, [.ref p1, .ref p2, .ref p3, .ref p4, .int pn, .int u, .int v])), (p1, .inl (cI, 48, .inl g_21)), (p2, .inl (cI, 48, .inl g_22)), (p3, .inl (cI, 48, .inl g_23)), (p4, .inl (cI, 48, .inl qd))] := hD
        refine lv_aload_n hx hb dX3_add_92 rfl (lv_at hl 0 rfl) ?_
        refine va_get (D := D) (ci := 3) (v := .ref p4) (C := RX3) (T := TX3) (N := 7) hx hb hts hi_X3 hown hK hP 0 rfl rfl 3 (by decide) (hts _ bw_75) (fun _ h9 => h9) rfl dX3_add_93 ?_
        refine lv_aload_n hx hb dX3_add_96 rfl (lv_at hl 0 rfl) ?_
        refine va_get (D := D) (ci := 3) (v := .int pn) (C := RX3) (T := TX3) (N := 7) hx hb hts hi_X3 hown hK hP 0 rfl rfl 4 (by decide) (hts _ bw_76) (fun _ h9 => h9) rfl dX3_add_97 ?_
        refine lv_aload_n hx hb dX3_add_100 rfl (lv_at hl 0 rfl) ?_
        refine va_get (D := D) (ci := 3) (v := .int v) (C := RX3) (T := TX3) (N := 7) hx hb hts hi_X3 hown hK hP 0 rfl rfl 6 (by decide) (hts _ bw_78) (fun _ h9 => h9) rfl dX3_add_101 ?_
        refine va_iast hx hb hK hP hD hS 4 0 rfl rfl (vp_in_iff.mpr ⟨by omega, by omega⟩) dX3_add_104 (fun H locs hP hD hS => ?_)
        have hP : va_P D vwCl [(h0, .inr (3, [.ref p1, .ref p2, .ref p3, .ref p4, .int pn, .int u, .int v])), (p1, .inl (cI, 48, .inl g_21)), (p2, .inl (cI, 48, .inl g_22)), (p3, .inl (cI, 48, .inl g_23)), (p4, .inl (cI, 48, .inl (upd qd pn.toNatClampNeg v)))] H := hP
        have hD : va_D A [(h0, .inr (3, [.ref p1, .ref p2, .ref p3, .ref p4, .int pn, .int u, .int v])), (p1, .inl (cI, 48, .inl g_21)), (p2, .inl (cI, 48, .inl g_22)), (p3, .inl (cI, 48, .inl g_23)), (p4, .inl (cI, 48, .inl (upd qd pn.toNatClampNeg v)))] := hD
        generalize eg_24 : upd qd pn.toNatClampNeg v = g_24 at hP hD
        have hP : va_P D vwCl [(h0, .inr (3, [.ref p1, .ref p2, .ref p3, .ref p4, .int pn, .int u, .int v])), (p1, .inl (cI, 48, .inl g_21)), (p2, .inl (cI, 48, .inl g_22)), (p3, .inl (cI, 48, .inl g_23)), (p4, .inl (cI, 48, .inl g_24))] H := hP
        have hD : va_D A [(h0, .inr (3, [.ref p1, .ref p2, .ref p3, .ref p4, .int pn, .int u, .int v])), (p1, .inl (cI, 48, .inl g_21)), (p2, .inl (cI, 48, .inl g_22)), (p3, .inl (cI, 48, .inl g_23)), (p4, .inl (cI, 48, .inl g_24))] := hD
        refine lv_aload_n hx hb dX3_add_105 rfl (lv_at hl 0 rfl) ?_
        refine lv_dup hx hb dX3_add_106 rfl ?_
        refine va_get (D := D) (ci := 3) (v := .int pn) (C := RX3) (T := TX3) (N := 7) hx hb hts hi_X3 hown hK hP 0 rfl rfl 4 (by decide) (hts _ bw_76) (fun _ h9 => h9) rfl dX3_add_107 ?_
        refine lv_iconst (v := 1) hx hb dX3_add_110 (by decide) ?_
        refine lv_iadd hx hb dX3_add_111 ?_
        refine lv_topi (fun y_25 ey_25 => ?_)
        refine va_put (D := D) (ci := 3) (v := .int y_25) (ty := .int) (C := RX3) (T := TX3) (N := 7) hx hb hts hi_X3 tyX3 tyX3_ok nmX3 hown hK hP hD hS 0 rfl rfl 4 (by decide) (hts _ bw_76) (fun _ h9 => h9) rfl (by decide +kernel) rfl rfl (Nat.le_of_ble_eq_true rfl) dX3_add_112 (fun H locs hP hD hS => ?_)
        have hP : va_P D vwCl [(h0, .inr (3, [.ref p1, .ref p2, .ref p3, .ref p4, .int y_25, .int u, .int v])), (p1, .inl (cI, 48, .inl g_21)), (p2, .inl (cI, 48, .inl g_22)), (p3, .inl (cI, 48, .inl g_23)), (p4, .inl (cI, 48, .inl g_24))] H := hP
        have hD : va_D A [(h0, .inr (3, [.ref p1, .ref p2, .ref p3, .ref p4, .int y_25, .int u, .int v])), (p1, .inl (cI, 48, .inl g_21)), (p2, .inl (cI, 48, .inl g_22)), (p3, .inl (cI, 48, .inl g_23)), (p4, .inl (cI, 48, .inl g_24))] := hD
        refine lv_iconst (v := 1) hx hb dX3_add_115 (by decide) ?_
        have hF1 : adF b9 pn u fx = u := if_pos (Or.inr c_10)
        have hF2 : adF b9 pn v fy = v := if_pos (Or.inr c_10)
        have hT1 : adT b9 pn u fx qc = upd (qc) pn.toNatClampNeg u := by unfold adT; rw [hF1]; exact congrArg (fun t => upd t pn.toNatClampNeg _) (if_pos (Or.inr c_10))
        have hT2 : adT b9 pn v fy qd = upd (qd) pn.toNatClampNeg v := by unfold adT; rw [hF2]; exact congrArg (fun t => upd t pn.toNatClampNeg _) (if_pos (Or.inr c_10))
        have hP : va_P D vwCl [(h0, .inr (3, [.ref p1, .ref p2, .ref p3, .ref p4, .int (pn + 1), .int (adF b9 pn u fx), .int (adF b9 pn v fy)])), (p1, .inl (cI, 48, .inl (upd qa pn.toNatClampNeg u))), (p2, .inl (cI, 48, .inl (upd qb pn.toNatClampNeg v))), (p3, .inl (cI, 48, .inl (adT b9 pn u fx qc))), (p4, .inl (cI, 48, .inl (adT b9 pn v fy qd)))] H := by rw [hF1, hF2, hT1, hT2]; subst_vars; exact hP
        have hD : va_D A [(h0, .inr (3, [.ref p1, .ref p2, .ref p3, .ref p4, .int (pn + 1), .int (adF b9 pn u fx), .int (adF b9 pn v fy)])), (p1, .inl (cI, 48, .inl (upd qa pn.toNatClampNeg u))), (p2, .inl (cI, 48, .inl (upd qb pn.toNatClampNeg v))), (p3, .inl (cI, 48, .inl (adT b9 pn u fx qc))), (p4, .inl (cI, 48, .inl (adT b9 pn v fy qd)))] := by rw [hF1, hF2, hT1, hT2]; subst_vars; exact hD
        have hP9 := hP.sub (ws' := [(h0, .inr (3, [.ref p1, .ref p2, .ref p3, .ref p4, .int (pn + 1), .int (adF b9 pn u fx), .int (adF b9 pn v fy)])), (p1, .inl (cI, 48, .inl (upd qa pn.toNatClampNeg u))), (p2, .inl (cI, 48, .inl (upd qb pn.toNatClampNeg v))), (p3, .inl (cI, 48, .inl (adT b9 pn u fx qc))), (p4, .inl (cI, 48, .inl (adT b9 pn v fy qd)))]) [0, 1, 2, 3, 4] rfl
        have hD9 := hD.sub (ws' := [(h0, .inr (3, [.ref p1, .ref p2, .ref p3, .ref p4, .int (pn + 1), .int (adF b9 pn u fx), .int (adF b9 pn v fy)])), (p1, .inl (cI, 48, .inl (upd qa pn.toNatClampNeg u))), (p2, .inl (cI, 48, .inl (upd qb pn.toNatClampNeg v))), (p3, .inl (cI, 48, .inl (adT b9 pn u fx qc))), (p4, .inl (cI, 48, .inl (adT b9 pn v fy qd)))]) [0, 1, 2, 3, 4] (by decide) rfl
        have hK9 := hK.sub (tys' := [(cI, .int)]) [0] rfl
        refine hQ _ _ _ _ _ ?_
        exact W.zret (v := 1) hx hb hr rfl (fun t ht hW => ⟨⟨1, (), rfl, rfl, ⟨by rw [ht]; exact hP9, va_K.moved hW.alike hK9, hD9⟩⟩, hS.F ht⟩) hS.2.2 dX3_add_116
  · skip
    have f_2 : ¬ (pn.toInt < 48) := fn_lt rfl (by decide) c_1
    exact False.elim (by omega)

set_option maxHeartbeats 4000000 in
set_option maxRecDepth 100000 in
theorem k_X3_add_f (l : Launch) (D : va_G) (sz : Nat) (h0 : Nat) (p1 p2 p3 p4 : Nat) (pn fx fy : Int32) (u v b9 : Int32) (hpn : 48 ≤ pn.toInt) : Met l yX3_add (wB yX3_add cX3_add 4 (some .boolean)) ({ frames := 0, cells := 0, slots := 0, locals := 0 }) (cP D [(h0, .inr (3, [.ref p1, .ref p2, .ref p3, .ref p4, .int pn, .int fx, .int fy]))] [] sz [.ref h0, .int u, .int v, .int b9]) (va_Qi (fun (r : Int32) (_ : Unit) => r = 0) (fun (_ : Unit) (t : State) => cB D (va_A [(h0, .inr (3, [.ref p1, .ref p2, .ref p3, .ref p4, .int pn, .int fx, .int fy]))] sz) [(h0, .inr (3, [.ref p1, .ref p2, .ref p3, .ref p4, .int pn, .int fx, .int fy]))] [] t) (va_A [(h0, .inr (3, [.ref p1, .ref p2, .ref p3, .ref p4, .int pn, .int fx, .int fy]))] sz)) 0 0 (va_A [(h0, .inr (3, [.ref p1, .ref p2, .ref p3, .ref p4, .int pn, .int fx, .int fy]))] sz) := by
  refine Met.ofW (cc := cX3_add) (maxL := 4) (ret := (some .boolean)) (by decide) rfl ?_
  intro p e s m args below meth c s₁ B hml hv
  obtain ⟨rfl, hsz, hP, hK, hD0, hN⟩ := hv
  have hx := B.exec
  have hb := B.bytes
  have hr := B.returns
  have hts0 := atoms_spec (ws := (wB yX3_add cX3_add 4 (some .boolean))) B.pre
  have hts : ∀ w ∈ bigW, w.before _ s = true := fun w h => hts0 w (List.mem_cons_of_mem _ h)
  have hown : s.vm.findClass RX3 = some m.cls := findClass_of_methodNamed B.named
  have hlocks := B.notSynchronized
  subst hsz
  have hD := hD0.self (sz := s.heap.size)
  generalize hAe : va_A [(h0, .inr (3, [.ref p1, .ref p2, .ref p3, .ref p4, .int pn, .int fx, .int fy]))] s.heap.size = A at hD ⊢
  have hA : ∀ q : Nat, s.heap.size ≤ q → A q := fun q h => by rw [← hAe]; exact Or.inr h
  have hS : va_S A s.heap s.heap [] := va_S.rf
  have hP : va_P D vwCl [(h0, .inr (3, [.ref p1, .ref p2, .ref p3, .ref p4, .int pn, .int fx, .int fy]))] s.heap := hP
  have hl := lv_entry ([.ref h0, .int u, .int v, .int b9]) (n := 4) (Nat.le_of_ble_eq_true rfl)
  rw [lg_entry_eq]
  generalize (lg_sl ([.ref h0, .int u, .int v, .int b9]) ++ List.replicate (4 - (lg_sl ([.ref h0, .int u, .int v, .int b9])).length) Slot.unset).toArray = ls at hl ⊢
  have hl : lv_has ls 4 [(0, .ref h0), (1, .int u), (2, .int v), (3, .int b9)] := hl
  clear hts0 hD0 hAe
  refine my_abs (fun R Q hR hQ => ?_)
  refine lv_aload_n hx hb dX3_add_0 rfl (lv_at hl 0 rfl) ?_
  refine va_get (D := D) (ci := 3) (v := .int pn) (C := RX3) (T := TX3) (N := 7) hx hb hts hi_X3 hown hK hP 0 rfl rfl 4 (by decide) (hts _ bw_76) (fun _ h9 => h9) rfl dX3_add_1 ?_
  refine lv_bipush (v := 48) hx hb dX3_add_4 (by decide) ?_
  refine lv_icmp_lt (tgt := 11) hx hb dX3_add_6 (by decide) (fun c_1 => ?_) (fun c_1 => ?_)
  · skip
    have f_2 : pn.toInt < 48 := f_lt rfl (by decide) c_1
    exact False.elim (by omega)
  · skip
    have f_2 : ¬ (pn.toInt < 48) := fn_lt rfl (by decide) c_1
    refine lv_iconst (v := 0) hx hb dX3_add_9 (by decide) ?_
    have hP9 := hP.sub (ws' := [(h0, .inr (3, [.ref p1, .ref p2, .ref p3, .ref p4, .int pn, .int fx, .int fy]))]) [0] rfl
    have hD9 := hD.sub (ws' := [(h0, .inr (3, [.ref p1, .ref p2, .ref p3, .ref p4, .int pn, .int fx, .int fy]))]) [0] (by decide) rfl
    have hK9 := hK.sub (tys' := []) [] rfl
    refine hQ _ _ _ _ _ ?_
    exact W.zret (v := 0) hx hb hr rfl (fun t ht hW => ⟨⟨0, (), rfl, rfl, ⟨by rw [ht]; exact hP9, va_K.moved hW.alike hK9, hD9⟩⟩, hS.F ht⟩) hS.2.2 dX3_add_10

set_option maxHeartbeats 4000000 in
set_option maxRecDepth 100000 in
theorem k_X3_turnOf (l : Launch) (D : va_G) (sz : Nat) (h0 : Nat) (p1 p2 p3 p4 : Nat) (pn fx fy : Int32) (qb : Nat → Int32) (qd : Nat → Int32) (en v : Int32) (cI : ClassId) (hen : 0 ≤ en.toInt ∧ en.toInt < 48) : Met l yX3_turnOf (wB yX3_turnOf cX3_turnOf 3 (some .int)) ({ frames := 0, cells := 0, slots := 0, locals := 0 }) (cP D [(h0, .inr (3, [.ref p1, .ref p2, .ref p3, .ref p4, .int pn, .int fx, .int fy])), (p2, .inl (cI, 48, .inl qb)), (p4, .inl (cI, 48, .inl qd))] [(cI, .int)] sz [.ref h0, .int en, .int v]) (va_Qi (fun (r : Int32) (_ : Unit) => r = tnP (qb en.toNatClampNeg) (qd en.toNatClampNeg) v) (fun (_ : Unit) (t : State) => cB D (va_A [(h0, .inr (3, [.ref p1, .ref p2, .ref p3, .ref p4, .int pn, .int fx, .int fy])), (p2, .inl (cI, 48, .inl qb)), (p4, .inl (cI, 48, .inl qd))] sz) [(h0, .inr (3, [.ref p1, .ref p2, .ref p3, .ref p4, .int pn, .int fx, .int fy])), (p2, .inl (cI, 48, .inl qb)), (p4, .inl (cI, 48, .inl qd))] [(cI, .int)] t) (va_A [(h0, .inr (3, [.ref p1, .ref p2, .ref p3, .ref p4, .int pn, .int fx, .int fy])), (p2, .inl (cI, 48, .inl qb)), (p4, .inl (cI, 48, .inl qd))] sz)) 0 0 (va_A [(h0, .inr (3, [.ref p1, .ref p2, .ref p3, .ref p4, .int pn, .int fx, .int fy])), (p2, .inl (cI, 48, .inl qb)), (p4, .inl (cI, 48, .inl qd))] sz) := by
  refine Met.ofW (cc := cX3_turnOf) (maxL := 3) (ret := (some .int)) (by decide) rfl ?_
  intro p e s m args below meth c s₁ B hml hv
  obtain ⟨rfl, hsz, hP, hK, hD0, hN⟩ := hv
  have hx := B.exec
  have hb := B.bytes
  have hr := B.returns
  have hts0 := atoms_spec (ws := (wB yX3_turnOf cX3_turnOf 3 (some .int))) B.pre
  have hts : ∀ w ∈ bigW, w.before _ s = true := fun w h => hts0 w (List.mem_cons_of_mem _ h)
  have hown : s.vm.findClass RX3 = some m.cls := findClass_of_methodNamed B.named
  have hlocks := B.notSynchronized
  subst hsz
  have hD := hD0.self (sz := s.heap.size)
  generalize hAe : va_A [(h0, .inr (3, [.ref p1, .ref p2, .ref p3, .ref p4, .int pn, .int fx, .int fy])), (p2, .inl (cI, 48, .inl qb)), (p4, .inl (cI, 48, .inl qd))] s.heap.size = A at hD ⊢
  have hA : ∀ q : Nat, s.heap.size ≤ q → A q := fun q h => by rw [← hAe]; exact Or.inr h
  have hS : va_S A s.heap s.heap [] := va_S.rf
  have hP : va_P D vwCl [(h0, .inr (3, [.ref p1, .ref p2, .ref p3, .ref p4, .int pn, .int fx, .int fy])), (p2, .inl (cI, 48, .inl qb)), (p4, .inl (cI, 48, .inl qd))] s.heap := hP
  have hl := lv_entry ([.ref h0, .int en, .int v]) (n := 3) (Nat.le_of_ble_eq_true rfl)
  rw [lg_entry_eq]
  generalize (lg_sl ([.ref h0, .int en, .int v]) ++ List.replicate (3 - (lg_sl ([.ref h0, .int en, .int v])).length) Slot.unset).toArray = ls at hl ⊢
  have hl : lv_has ls 3 [(0, .ref h0), (1, .int en), (2, .int v)] := hl
  clear hts0 hD0 hAe
  refine my_abs (fun R Q hR hQ => ?_)
  refine lv_aload_n hx hb dX3_turnOf_0 rfl (lv_at hl 0 rfl) ?_
  refine va_get (D := D) (ci := 3) (v := .ref p2) (C := RX3) (T := TX3) (N := 7) hx hb hts hi_X3 hown hK hP 0 rfl rfl 1 (by decide) (hts _ bw_73) (fun _ h9 => h9) rfl dX3_turnOf_1 ?_
  refine lv_iload_n hx hb dX3_turnOf_4 rfl (lv_at hl 1 rfl) ?_
  refine va_iald hx hb hK hP 1 0 rfl rfl (vp_in_iff.mpr ⟨by omega, by omega⟩) dX3_turnOf_5 ?_
  refine lv_iload_n hx hb dX3_turnOf_6 rfl (lv_at hl 2 rfl) ?_
  refine lv_icmp_gt (tgt := 22) hx hb dX3_turnOf_7 (by decide) (fun c_1 => ?_) (fun c_1 => ?_)
  · skip
    have f_2 : v.toInt < (qb en.toNatClampNeg).toInt := f_lt rfl rfl c_1
    refine lv_aload_n hx hb dX3_turnOf_22 rfl (lv_at hl 0 rfl) ?_
    refine va_get (D := D) (ci := 3) (v := .ref p4) (C := RX3) (T := TX3) (N := 7) hx hb hts hi_X3 hown hK hP 0 rfl rfl 3 (by decide) (hts _ bw_75) (fun _ h9 => h9) rfl dX3_turnOf_23 ?_
    refine lv_iload_n hx hb dX3_turnOf_26 rfl (lv_at hl 1 rfl) ?_
    refine va_iald hx hb hK hP 2 0 rfl rfl (vp_in_iff.mpr ⟨by omega, by omega⟩) dX3_turnOf_27 ?_
    refine lv_iload_n hx hb dX3_turnOf_28 rfl (lv_at hl 2 rfl) ?_
    refine lv_icmp_gt (tgt := 46) hx hb dX3_turnOf_29 (by decide) (fun c_3 => ?_) (fun c_3 => ?_)
    · skip
      have f_4 : v.toInt < (qd en.toNatClampNeg).toInt := f_lt rfl rfl c_3
      refine lv_iconst (v := 0) hx hb dX3_turnOf_46 (by decide) ?_
      have hP9 := hP.sub (ws' := [(h0, .inr (3, [.ref p1, .ref p2, .ref p3, .ref p4, .int pn, .int fx, .int fy])), (p2, .inl (cI, 48, .inl qb)), (p4, .inl (cI, 48, .inl qd))]) [0, 1, 2] rfl
      have hD9 := hD.sub (ws' := [(h0, .inr (3, [.ref p1, .ref p2, .ref p3, .ref p4, .int pn, .int fx, .int fy])), (p2, .inl (cI, 48, .inl qb)), (p4, .inl (cI, 48, .inl qd))]) [0, 1, 2] (by decide) rfl
      have hK9 := hK.sub (tys' := [(cI, .int)]) [0] rfl
      refine hQ _ _ _ _ _ ?_
      exact W.iret (v := 0) hx hb hr (fun t ht hW => ⟨⟨0, (), rfl, (by unfold tnP; rw [if_neg (by omega), if_neg (by omega)]), ⟨by rw [ht]; exact hP9, va_K.moved hW.alike hK9, hD9⟩⟩, hS.F ht⟩) hS.2.2 dX3_turnOf_47
    · skip
      have f_4 : ¬ (v.toInt < (qd en.toNatClampNeg).toInt) := fn_lt rfl rfl c_3
      refine lv_iload_n hx hb dX3_turnOf_32 rfl (lv_at hl 2 rfl) ?_
      refine lv_aload_n hx hb dX3_turnOf_33 rfl (lv_at hl 0 rfl) ?_
      refine va_get (D := D) (ci := 3) (v := .ref p2) (C := RX3) (T := TX3) (N := 7) hx hb hts hi_X3 hown hK hP 0 rfl rfl 1 (by decide) (hts _ bw_73) (fun _ h9 => h9) rfl dX3_turnOf_34 ?_
      refine lv_iload_n hx hb dX3_turnOf_37 rfl (lv_at hl 1 rfl) ?_
      refine va_iald hx hb hK hP 1 0 rfl rfl (vp_in_iff.mpr ⟨by omega, by omega⟩) dX3_turnOf_38 ?_
      refine lv_icmp_ge (tgt := 46) hx hb dX3_turnOf_39 (by decide) (fun c_5 => ?_) (fun c_5 => ?_)
      · skip
        have f_6 : (qb en.toNatClampNeg).toInt ≤ v.toInt := f_le rfl rfl c_5
        refine lv_iconst (v := 0) hx hb dX3_turnOf_46 (by decide) ?_
        have hP9 := hP.sub (ws' := [(h0, .inr (3, [.ref p1, .ref p2, .ref p3, .ref p4, .int pn, .int fx, .int fy])), (p2, .inl (cI, 48, .inl qb)), (p4, .inl (cI, 48, .inl qd))]) [0, 1, 2] rfl
        have hD9 := hD.sub (ws' := [(h0, .inr (3, [.ref p1, .ref p2, .ref p3, .ref p4, .int pn, .int fx, .int fy])), (p2, .inl (cI, 48, .inl qb)), (p4, .inl (cI, 48, .inl qd))]) [0, 1, 2] (by decide) rfl
        have hK9 := hK.sub (tys' := [(cI, .int)]) [0] rfl
        refine hQ _ _ _ _ _ ?_
        exact W.iret (v := 0) hx hb hr (fun t ht hW => ⟨⟨0, (), rfl, (by unfold tnP; rw [if_neg (by omega), if_neg (by omega)]), ⟨by rw [ht]; exact hP9, va_K.moved hW.alike hK9, hD9⟩⟩, hS.F ht⟩) hS.2.2 dX3_turnOf_47
      · skip
        have f_6 : ¬ ((qb en.toNatClampNeg).toInt ≤ v.toInt) := fn_le rfl rfl c_5
        refine lv_iconst (v := (-1)) hx hb dX3_turnOf_42 (by decide) ?_
        refine lv_goto (tgt := 47) hx hb dX3_turnOf_43 (by decide) ?_
        have hP9 := hP.sub (ws' := [(h0, .inr (3, [.ref p1, .ref p2, .ref p3, .ref p4, .int pn, .int fx, .int fy])), (p2, .inl (cI, 48, .inl qb)), (p4, .inl (cI, 48, .inl qd))]) [0, 1, 2] rfl
        have hD9 := hD.sub (ws' := [(h0, .inr (3, [.ref p1, .ref p2, .ref p3, .ref p4, .int pn, .int fx, .int fy])), (p2, .inl (cI, 48, .inl qb)), (p4, .inl (cI, 48, .inl qd))]) [0, 1, 2] (by decide) rfl
        have hK9 := hK.sub (tys' := [(cI, .int)]) [0] rfl
        refine hQ _ _ _ _ _ ?_
        exact W.iret (v := (-1)) hx hb hr (fun t ht hW => ⟨⟨(-1), (), rfl, (by unfold tnP; rw [if_neg (by omega), if_pos (by omega)]), ⟨by rw [ht]; exact hP9, va_K.moved hW.alike hK9, hD9⟩⟩, hS.F ht⟩) hS.2.2 dX3_turnOf_47
  · skip
    have f_2 : ¬ (v.toInt < (qb en.toNatClampNeg).toInt) := fn_lt rfl rfl c_1
    refine lv_iload_n hx hb dX3_turnOf_10 rfl (lv_at hl 2 rfl) ?_
    refine lv_aload_n hx hb dX3_turnOf_11 rfl (lv_at hl 0 rfl) ?_
    refine va_get (D := D) (ci := 3) (v := .ref p4) (C := RX3) (T := TX3) (N := 7) hx hb hts hi_X3 hown hK hP 0 rfl rfl 3 (by decide) (hts _ bw_75) (fun _ h9 => h9) rfl dX3_turnOf_12 ?_
    refine lv_iload_n hx hb dX3_turnOf_15 rfl (lv_at hl 1 rfl) ?_
    refine va_iald hx hb hK hP 2 0 rfl rfl (vp_in_iff.mpr ⟨by omega, by omega⟩) dX3_turnOf_16 ?_
    refine lv_icmp_ge (tgt := 22) hx hb dX3_turnOf_17 (by decide) (fun c_7 => ?_) (fun c_7 => ?_)
    · skip
      have f_8 : (qd en.toNatClampNeg).toInt ≤ v.toInt := f_le rfl rfl c_7
      refine lv_aload_n hx hb dX3_turnOf_22 rfl (lv_at hl 0 rfl) ?_
      refine va_get (D := D) (ci := 3) (v := .ref p4) (C := RX3) (T := TX3) (N := 7) hx hb hts hi_X3 hown hK hP 0 rfl rfl 3 (by decide) (hts _ bw_75) (fun _ h9 => h9) rfl dX3_turnOf_23 ?_
      refine lv_iload_n hx hb dX3_turnOf_26 rfl (lv_at hl 1 rfl) ?_
      refine va_iald hx hb hK hP 2 0 rfl rfl (vp_in_iff.mpr ⟨by omega, by omega⟩) dX3_turnOf_27 ?_
      refine lv_iload_n hx hb dX3_turnOf_28 rfl (lv_at hl 2 rfl) ?_
      refine lv_icmp_gt (tgt := 46) hx hb dX3_turnOf_29 (by decide) (fun c_9 => ?_) (fun c_9 => ?_)
      · skip
        have f_10 : v.toInt < (qd en.toNatClampNeg).toInt := f_lt rfl rfl c_9
        refine lv_iconst (v := 0) hx hb dX3_turnOf_46 (by decide) ?_
        have hP9 := hP.sub (ws' := [(h0, .inr (3, [.ref p1, .ref p2, .ref p3, .ref p4, .int pn, .int fx, .int fy])), (p2, .inl (cI, 48, .inl qb)), (p4, .inl (cI, 48, .inl qd))]) [0, 1, 2] rfl
        have hD9 := hD.sub (ws' := [(h0, .inr (3, [.ref p1, .ref p2, .ref p3, .ref p4, .int pn, .int fx, .int fy])), (p2, .inl (cI, 48, .inl qb)), (p4, .inl (cI, 48, .inl qd))]) [0, 1, 2] (by decide) rfl
        have hK9 := hK.sub (tys' := [(cI, .int)]) [0] rfl
        refine hQ _ _ _ _ _ ?_
        exact W.iret (v := 0) hx hb hr (fun t ht hW => ⟨⟨0, (), rfl, (by unfold tnP; rw [if_neg (by omega), if_neg (by omega)]), ⟨by rw [ht]; exact hP9, va_K.moved hW.alike hK9, hD9⟩⟩, hS.F ht⟩) hS.2.2 dX3_turnOf_47
      · skip
        have f_10 : ¬ (v.toInt < (qd en.toNatClampNeg).toInt) := fn_lt rfl rfl c_9
        refine lv_iload_n hx hb dX3_turnOf_32 rfl (lv_at hl 2 rfl) ?_
        refine lv_aload_n hx hb dX3_turnOf_33 rfl (lv_at hl 0 rfl) ?_
        refine va_get (D := D) (ci := 3) (v := .ref p2) (C := RX3) (T := TX3) (N := 7) hx hb hts hi_X3 hown hK hP 0 rfl rfl 1 (by decide) (hts _ bw_73) (fun _ h9 => h9) rfl dX3_turnOf_34 ?_
        refine lv_iload_n hx hb dX3_turnOf_37 rfl (lv_at hl 1 rfl) ?_
        refine va_iald hx hb hK hP 1 0 rfl rfl (vp_in_iff.mpr ⟨by omega, by omega⟩) dX3_turnOf_38 ?_
        refine lv_icmp_ge (tgt := 46) hx hb dX3_turnOf_39 (by decide) (fun c_11 => ?_) (fun c_11 => ?_)
        · skip
          have f_12 : (qb en.toNatClampNeg).toInt ≤ v.toInt := f_le rfl rfl c_11
          refine lv_iconst (v := 0) hx hb dX3_turnOf_46 (by decide) ?_
          have hP9 := hP.sub (ws' := [(h0, .inr (3, [.ref p1, .ref p2, .ref p3, .ref p4, .int pn, .int fx, .int fy])), (p2, .inl (cI, 48, .inl qb)), (p4, .inl (cI, 48, .inl qd))]) [0, 1, 2] rfl
          have hD9 := hD.sub (ws' := [(h0, .inr (3, [.ref p1, .ref p2, .ref p3, .ref p4, .int pn, .int fx, .int fy])), (p2, .inl (cI, 48, .inl qb)), (p4, .inl (cI, 48, .inl qd))]) [0, 1, 2] (by decide) rfl
          have hK9 := hK.sub (tys' := [(cI, .int)]) [0] rfl
          refine hQ _ _ _ _ _ ?_
          exact W.iret (v := 0) hx hb hr (fun t ht hW => ⟨⟨0, (), rfl, (by unfold tnP; rw [if_neg (by omega), if_neg (by omega)]), ⟨by rw [ht]; exact hP9, va_K.moved hW.alike hK9, hD9⟩⟩, hS.F ht⟩) hS.2.2 dX3_turnOf_47
        · skip
          have f_12 : ¬ ((qb en.toNatClampNeg).toInt ≤ v.toInt) := fn_le rfl rfl c_11
          refine lv_iconst (v := (-1)) hx hb dX3_turnOf_42 (by decide) ?_
          refine lv_goto (tgt := 47) hx hb dX3_turnOf_43 (by decide) ?_
          have hP9 := hP.sub (ws' := [(h0, .inr (3, [.ref p1, .ref p2, .ref p3, .ref p4, .int pn, .int fx, .int fy])), (p2, .inl (cI, 48, .inl qb)), (p4, .inl (cI, 48, .inl qd))]) [0, 1, 2] rfl
          have hD9 := hD.sub (ws' := [(h0, .inr (3, [.ref p1, .ref p2, .ref p3, .ref p4, .int pn, .int fx, .int fy])), (p2, .inl (cI, 48, .inl qb)), (p4, .inl (cI, 48, .inl qd))]) [0, 1, 2] (by decide) rfl
          have hK9 := hK.sub (tys' := [(cI, .int)]) [0] rfl
          refine hQ _ _ _ _ _ ?_
          exact W.iret (v := (-1)) hx hb hr (fun t ht hW => ⟨⟨(-1), (), rfl, (by unfold tnP; rw [if_neg (by omega), if_pos (by omega)]), ⟨by rw [ht]; exact hP9, va_K.moved hW.alike hK9, hD9⟩⟩, hS.F ht⟩) hS.2.2 dX3_turnOf_47
    · skip
      have f_8 : ¬ ((qd en.toNatClampNeg).toInt ≤ v.toInt) := fn_le rfl rfl c_7
      refine lv_iconst (v := 1) hx hb dX3_turnOf_20 (by decide) ?_
      have hP9 := hP.sub (ws' := [(h0, .inr (3, [.ref p1, .ref p2, .ref p3, .ref p4, .int pn, .int fx, .int fy])), (p2, .inl (cI, 48, .inl qb)), (p4, .inl (cI, 48, .inl qd))]) [0, 1, 2] rfl
      have hD9 := hD.sub (ws' := [(h0, .inr (3, [.ref p1, .ref p2, .ref p3, .ref p4, .int pn, .int fx, .int fy])), (p2, .inl (cI, 48, .inl qb)), (p4, .inl (cI, 48, .inl qd))]) [0, 1, 2] (by decide) rfl
      have hK9 := hK.sub (tys' := [(cI, .int)]) [0] rfl
      refine hQ _ _ _ _ _ ?_
      exact W.iret (v := 1) hx hb hr (fun t ht hW => ⟨⟨1, (), rfl, (if_pos (by omega)).symm, ⟨by rw [ht]; exact hP9, va_K.moved hW.alike hK9, hD9⟩⟩, hS.F ht⟩) hS.2.2 dX3_turnOf_21

set_option maxHeartbeats 4000000 in
set_option maxRecDepth 100000 in
theorem k_X3_firstRightOf (l : Launch) (D : va_G) (sz : Nat) (h0 : Nat) (p1 p2 p3 p4 : Nat) (pn fx fy : Int32) (qa : Nat → Int32) (qb : Nat → Int32) (qc : Nat → Int32) (qd : Nat → Int32) (en v : Int32) (cI : ClassId) (hen : 0 ≤ en.toInt ∧ en.toInt < 48) : Met l yX3_firstRightOf (wB yX3_firstRightOf cX3_firstRightOf 4 (some .int)) ({ frames := 1, cells := 0, slots := 0, locals := 22 }) (cP D [(h0, .inr (3, [.ref p1, .ref p2, .ref p3, .ref p4, .int pn, .int fx, .int fy])), (p1, .inl (cI, 48, .inl qa)), (p2, .inl (cI, 48, .inl qb)), (p3, .inl (cI, 48, .inl qc)), (p4, .inl (cI, 48, .inl qd))] [(cI, .int)] sz [.ref h0, .int en, .int v]) (va_Qi (fun (r : Int32) (_ : Unit) => r = frP (qa en.toNatClampNeg) (qb en.toNatClampNeg) (qc en.toNatClampNeg) (qd en.toNatClampNeg) v) (fun (_ : Unit) (t : State) => cB D (va_A [(h0, .inr (3, [.ref p1, .ref p2, .ref p3, .ref p4, .int pn, .int fx, .int fy])), (p1, .inl (cI, 48, .inl qa)), (p2, .inl (cI, 48, .inl qb)), (p3, .inl (cI, 48, .inl qc)), (p4, .inl (cI, 48, .inl qd))] sz) [(h0, .inr (3, [.ref p1, .ref p2, .ref p3, .ref p4, .int pn, .int fx, .int fy])), (p1, .inl (cI, 48, .inl qa)), (p2, .inl (cI, 48, .inl qb)), (p3, .inl (cI, 48, .inl qc)), (p4, .inl (cI, 48, .inl qd))] [(cI, .int)] t) (va_A [(h0, .inr (3, [.ref p1, .ref p2, .ref p3, .ref p4, .int pn, .int fx, .int fy])), (p1, .inl (cI, 48, .inl qa)), (p2, .inl (cI, 48, .inl qb)), (p3, .inl (cI, 48, .inl qc)), (p4, .inl (cI, 48, .inl qd))] sz)) 0 0 (va_A [(h0, .inr (3, [.ref p1, .ref p2, .ref p3, .ref p4, .int pn, .int fx, .int fy])), (p1, .inl (cI, 48, .inl qa)), (p2, .inl (cI, 48, .inl qb)), (p3, .inl (cI, 48, .inl qc)), (p4, .inl (cI, 48, .inl qd))] sz) := by
  refine Met.ofW (cc := cX3_firstRightOf) (maxL := 4) (ret := (some .int)) (by decide) rfl ?_
  intro p e s m args below meth c s₁ B hml hv
  obtain ⟨rfl, hsz, hP, hK, hD0, hN⟩ := hv
  have hx := B.exec
  have hb := B.bytes
  have hr := B.returns
  have hts0 := atoms_spec (ws := (wB yX3_firstRightOf cX3_firstRightOf 4 (some .int))) B.pre
  have hts : ∀ w ∈ bigW, w.before _ s = true := fun w h => hts0 w (List.mem_cons_of_mem _ h)
  have hown : s.vm.findClass RX3 = some m.cls := findClass_of_methodNamed B.named
  have hlocks := B.notSynchronized
  subst hsz
  have hD := hD0.self (sz := s.heap.size)
  generalize hAe : va_A [(h0, .inr (3, [.ref p1, .ref p2, .ref p3, .ref p4, .int pn, .int fx, .int fy])), (p1, .inl (cI, 48, .inl qa)), (p2, .inl (cI, 48, .inl qb)), (p3, .inl (cI, 48, .inl qc)), (p4, .inl (cI, 48, .inl qd))] s.heap.size = A at hD ⊢
  have hA : ∀ q : Nat, s.heap.size ≤ q → A q := fun q h => by rw [← hAe]; exact Or.inr h
  have hS : va_S A s.heap s.heap [] := va_S.rf
  have hP : va_P D vwCl [(h0, .inr (3, [.ref p1, .ref p2, .ref p3, .ref p4, .int pn, .int fx, .int fy])), (p1, .inl (cI, 48, .inl qa)), (p2, .inl (cI, 48, .inl qb)), (p3, .inl (cI, 48, .inl qc)), (p4, .inl (cI, 48, .inl qd))] s.heap := hP
  have hl := lv_entry ([.ref h0, .int en, .int v]) (n := 4) (Nat.le_of_ble_eq_true rfl)
  rw [lg_entry_eq]
  generalize (lg_sl ([.ref h0, .int en, .int v]) ++ List.replicate (4 - (lg_sl ([.ref h0, .int en, .int v])).length) Slot.unset).toArray = ls at hl ⊢
  have hl : lv_has ls 4 [(0, .ref h0), (1, .int en), (2, .int v)] := hl
  clear hts0 hD0 hAe
  refine my_abs (fun R Q hR hQ => ?_)
  refine lv_aload_n hx hb dX3_firstRightOf_0 rfl (lv_at hl 0 rfl) ?_
  refine va_get (D := D) (ci := 3) (v := .ref p4) (C := RX3) (T := TX3) (N := 7) hx hb hts hi_X3 hown hK hP 0 rfl rfl 3 (by decide) (hts _ bw_75) (fun _ h9 => h9) rfl dX3_firstRightOf_1 ?_
  refine lv_iload_n hx hb dX3_firstRightOf_4 rfl (lv_at hl 1 rfl) ?_
  refine va_iald hx hb hK hP 4 0 rfl rfl (vp_in_iff.mpr ⟨by omega, by omega⟩) dX3_firstRightOf_5 ?_
  refine lv_aload_n hx hb dX3_firstRightOf_6 rfl (lv_at hl 0 rfl) ?_
  refine va_get (D := D) (ci := 3) (v := .ref p2) (C := RX3) (T := TX3) (N := 7) hx hb hts hi_X3 hown hK hP 0 rfl rfl 1 (by decide) (hts _ bw_73) (fun _ h9 => h9) rfl dX3_firstRightOf_7 ?_
  refine lv_iload_n hx hb dX3_firstRightOf_10 rfl (lv_at hl 1 rfl) ?_
  refine va_iald hx hb hK hP 2 0 rfl rfl (vp_in_iff.mpr ⟨by omega, by omega⟩) dX3_firstRightOf_11 ?_
  refine lv_isub hx hb dX3_firstRightOf_12 ?_
  refine lv_topi (fun y_1 ey_1 => ?_)
  refine lv_istore_n (lv' := [(3, .int y_1), (0, .ref h0), (1, .int en), (2, .int v)]) hx hb dX3_firstRightOf_13 rfl hl (by decide) rfl (fun ls hl => ?_)
  refine lv_iload_n hx hb dX3_firstRightOf_14 rfl (lv_at hl 0 rfl) ?_
  refine lv_if_ne (tgt := 25) hx hb dX3_firstRightOf_15 (by decide) (fun c_2 => ?_) (fun c_2 => ?_)
  · skip
    have f_3 : ¬ (y_1.toInt = 0) := fn_eq rfl (by decide) c_2
    refine lv_aload_n hx hb dX3_firstRightOf_25 rfl (lv_at hl 1 rfl) ?_
    refine va_get (D := D) (ci := 3) (v := .ref p1) (C := RX3) (T := TX3) (N := 7) hx hb hts hi_X3 hown hK hP 0 rfl rfl 0 (by decide) (hts _ bw_72) (fun _ h9 => h9) rfl dX3_firstRightOf_26 ?_
    refine lv_iload_n hx hb dX3_firstRightOf_29 rfl (lv_at hl 2 rfl) ?_
    refine va_iald hx hb hK hP 1 0 rfl rfl (vp_in_iff.mpr ⟨by omega, by omega⟩) dX3_firstRightOf_30 ?_
    refine lv_aload_n hx hb dX3_firstRightOf_31 rfl (lv_at hl 1 rfl) ?_
    refine va_get (D := D) (ci := 3) (v := .ref p1) (C := RX3) (T := TX3) (N := 7) hx hb hts hi_X3 hown hK hP 0 rfl rfl 0 (by decide) (hts _ bw_72) (fun _ h9 => h9) rfl dX3_firstRightOf_32 ?_
    refine lv_iload_n hx hb dX3_firstRightOf_35 rfl (lv_at hl 2 rfl) ?_
    refine va_iald hx hb hK hP 1 0 rfl rfl (vp_in_iff.mpr ⟨by omega, by omega⟩) dX3_firstRightOf_36 ?_
    refine lv_aload_n hx hb dX3_firstRightOf_37 rfl (lv_at hl 1 rfl) ?_
    refine va_get (D := D) (ci := 3) (v := .ref p3) (C := RX3) (T := TX3) (N := 7) hx hb hts hi_X3 hown hK hP 0 rfl rfl 2 (by decide) (hts _ bw_74) (fun _ h9 => h9) rfl dX3_firstRightOf_38 ?_
    refine lv_iload_n hx hb dX3_firstRightOf_41 rfl (lv_at hl 2 rfl) ?_
    refine va_iald hx hb hK hP 3 0 rfl rfl (vp_in_iff.mpr ⟨by omega, by omega⟩) dX3_firstRightOf_42 ?_
    refine lv_isub hx hb dX3_firstRightOf_43 ?_
    refine lv_topi (fun y_4 ey_4 => ?_)
    refine lv_iload_n hx hb dX3_firstRightOf_44 rfl (lv_at hl 3 rfl) ?_
    refine lv_aload_n hx hb dX3_firstRightOf_45 rfl (lv_at hl 1 rfl) ?_
    refine va_get (D := D) (ci := 3) (v := .ref p2) (C := RX3) (T := TX3) (N := 7) hx hb hts hi_X3 hown hK hP 0 rfl rfl 1 (by decide) (hts _ bw_73) (fun _ h9 => h9) rfl dX3_firstRightOf_46 ?_
    refine lv_iload_n hx hb dX3_firstRightOf_49 rfl (lv_at hl 2 rfl) ?_
    refine va_iald hx hb hK hP 2 0 rfl rfl (vp_in_iff.mpr ⟨by omega, by omega⟩) dX3_firstRightOf_50 ?_
    refine lv_isub hx hb dX3_firstRightOf_51 ?_
    refine lv_topi (fun y_5 ey_5 => ?_)
    refine lv_imul hx hb dX3_firstRightOf_52 ?_
    refine lv_topi (fun y_6 ey_6 => ?_)
    refine lv_iload_n hx hb dX3_firstRightOf_53 rfl (lv_at hl 0 rfl) ?_
    have hPc := hP.sub (ws' := []) [] rfl
    have hDc := hD.sub (ws' := []) [] (by decide) rfl
    have hKc := hK.sub (tys' := []) [] rfl
    have hFc := va_free (wc := []) hD hS hA [] rfl
    refine va_calli (va_runS (As := [.int y_6, .int y_1]) (rest := [.int (qa en.toNatClampNeg)]) ⟨hx, hb, hml, hown, hts⟩ (k_J9_floorDiv_7cf53 l D s.heap.size y_6 y_1 (by first | assumption | omega | decide)) (va_cwS 2 hts (gS bw_107 bw_108 bw_109 bw_110) rfl rfl rfl (by decide +kernel) ⟨(by rw [hR]; exact Nat.le_of_ble_eq_true rfl), (by rw [hR]; exact Nat.le_of_ble_eq_true rfl)⟩) ⟨cP_blind, cP_at hPc hKc hDc hN⟩ rfl rfl hl.1 rfl (lv_room (Nat.le_of_ble_eq_true rfl)) dX3_firstRightOf_54 ⟨(by rw [hR]; exact Nat.le_of_ble_eq_true rfl), (by rw [hR]; exact Nat.le_of_ble_eq_true rfl)⟩) hS (fun q _ h => hFc q h) hFc (fun r_7 u9 t9 H1 locs ht hvm hr_7 hB hz1 hk1 hS => ?_)
    try dsimp only at hr_7
    have hP1 : va_P D vwCl [] H1 := vP_nil
    have hD1 : va_D (va_A [] s.heap.size) [] := vD_nil
    obtain ⟨hP, hD⟩ := va_join (wr := [(h0, .inr (3, [.ref p1, .ref p2, .ref p3, .ref p4, .int pn, .int fx, .int fy])), (p1, .inl (cI, 48, .inl qa)), (p2, .inl (cI, 48, .inl qb)), (p3, .inl (cI, 48, .inl qc)), (p4, .inl (cI, 48, .inl qd))]) (w1 := []) hP hD [] [0, 1, 2, 3, 4] rfl rfl (by decide) (by decide) hk1 hFc hP1 hD1
    clear hz1 hk1 hFc hKc hDc hPc
    generalize H1 = H at hP hS ⊢
    have hP : va_P D vwCl [(h0, .inr (3, [.ref p1, .ref p2, .ref p3, .ref p4, .int pn, .int fx, .int fy])), (p1, .inl (cI, 48, .inl qa)), (p2, .inl (cI, 48, .inl qb)), (p3, .inl (cI, 48, .inl qc)), (p4, .inl (cI, 48, .inl qd))] H := hP
    have hD : va_D A [(h0, .inr (3, [.ref p1, .ref p2, .ref p3, .ref p4, .int pn, .int fx, .int fy])), (p1, .inl (cI, 48, .inl qa)), (p2, .inl (cI, 48, .inl qb)), (p3, .inl (cI, 48, .inl qc)), (p4, .inl (cI, 48, .inl qd))] := hD
    refine lv_isub hx hb dX3_firstRightOf_57 ?_
    refine lv_topi (fun y_8 ey_8 => ?_)
    have hP9 := hP.sub (ws' := [(h0, .inr (3, [.ref p1, .ref p2, .ref p3, .ref p4, .int pn, .int fx, .int fy])), (p1, .inl (cI, 48, .inl qa)), (p2, .inl (cI, 48, .inl qb)), (p3, .inl (cI, 48, .inl qc)), (p4, .inl (cI, 48, .inl qd))]) [0, 1, 2, 3, 4] rfl
    have hD9 := hD.sub (ws' := [(h0, .inr (3, [.ref p1, .ref p2, .ref p3, .ref p4, .int pn, .int fx, .int fy])), (p1, .inl (cI, 48, .inl qa)), (p2, .inl (cI, 48, .inl qb)), (p3, .inl (cI, 48, .inl qc)), (p4, .inl (cI, 48, .inl qd))]) [0, 1, 2, 3, 4] (by decide) rfl
    have hK9 := hK.sub (tys' := [(cI, .int)]) [0] rfl
    refine hQ _ _ _ _ _ ?_
    exact W.iret (v := y_8) hx hb hr (fun t ht hW => ⟨⟨y_8, (), rfl, (by subst_vars; exact (if_neg (by assumption)).symm), ⟨by rw [ht]; exact hP9, va_K.moved hW.alike hK9, hD9⟩⟩, hS.F ht⟩) hS.2.2 dX3_firstRightOf_58
  · skip
    have f_3 : y_1.toInt = 0 := f_eq rfl (by decide) c_2
    refine lv_aload_n hx hb dX3_firstRightOf_18 rfl (lv_at hl 1 rfl) ?_
    refine va_get (D := D) (ci := 3) (v := .ref p1) (C := RX3) (T := TX3) (N := 7) hx hb hts hi_X3 hown hK hP 0 rfl rfl 0 (by decide) (hts _ bw_72) (fun _ h9 => h9) rfl dX3_firstRightOf_19 ?_
    refine lv_iload_n hx hb dX3_firstRightOf_22 rfl (lv_at hl 2 rfl) ?_
    refine va_iald hx hb hK hP 1 0 rfl rfl (vp_in_iff.mpr ⟨by omega, by omega⟩) dX3_firstRightOf_23 ?_
    have hP9 := hP.sub (ws' := [(h0, .inr (3, [.ref p1, .ref p2, .ref p3, .ref p4, .int pn, .int fx, .int fy])), (p1, .inl (cI, 48, .inl qa)), (p2, .inl (cI, 48, .inl qb)), (p3, .inl (cI, 48, .inl qc)), (p4, .inl (cI, 48, .inl qd))]) [0, 1, 2, 3, 4] rfl
    have hD9 := hD.sub (ws' := [(h0, .inr (3, [.ref p1, .ref p2, .ref p3, .ref p4, .int pn, .int fx, .int fy])), (p1, .inl (cI, 48, .inl qa)), (p2, .inl (cI, 48, .inl qb)), (p3, .inl (cI, 48, .inl qc)), (p4, .inl (cI, 48, .inl qd))]) [0, 1, 2, 3, 4] (by decide) rfl
    have hK9 := hK.sub (tys' := [(cI, .int)]) [0] rfl
    refine hQ _ _ _ _ _ ?_
    exact W.iret (v := qa en.toNatClampNeg) hx hb hr (fun t ht hW => ⟨⟨qa en.toNatClampNeg, (), rfl, (if_pos (by rw [← ey_1]; exact c_2)).symm, ⟨by rw [ht]; exact hP9, va_K.moved hW.alike hK9, hD9⟩⟩, hS.F ht⟩) hS.2.2 dX3_firstRightOf_24

set_option maxHeartbeats 4000000 in
set_option maxRecDepth 100000 in
theorem k_X3_windingAt (l : Launch) (D : va_G) (sz : Nat) (h0 : Nat) (p1 p2 p3 p4 : Nat) (pn fx fy : Int32) (qa : Nat → Int32) (qb : Nat → Int32) (qc : Nat → Int32) (qd : Nat → Int32) (u v : Int32) (cI : ClassId) (hpn : 0 ≤ pn.toInt ∧ pn.toInt ≤ 48) : Met l yX3_windingAt (wB yX3_windingAt cX3_windingAt 6 (some .int)) ({ frames := 2, cells := 0, slots := 0, locals := 45 }) (cP D [(h0, .inr (3, [.ref p1, .ref p2, .ref p3, .ref p4, .int pn, .int fx, .int fy])), (p1, .inl (cI, 48, .inl qa)), (p2, .inl (cI, 48, .inl qb)), (p3, .inl (cI, 48, .inl qc)), (p4, .inl (cI, 48, .inl qd))] [(cI, .int)] sz [.ref h0, .int u, .int v]) (va_Qi (fun (r : Int32) (_ : Unit) => r = wnN qa qb qc qd u v pn.toNatClampNeg) (fun (_ : Unit) (t : State) => cB D (va_A [(h0, .inr (3, [.ref p1, .ref p2, .ref p3, .ref p4, .int pn, .int fx, .int fy])), (p1, .inl (cI, 48, .inl qa)), (p2, .inl (cI, 48, .inl qb)), (p3, .inl (cI, 48, .inl qc)), (p4, .inl (cI, 48, .inl qd))] sz) [(h0, .inr (3, [.ref p1, .ref p2, .ref p3, .ref p4, .int pn, .int fx, .int fy])), (p1, .inl (cI, 48, .inl qa)), (p2, .inl (cI, 48, .inl qb)), (p3, .inl (cI, 48, .inl qc)), (p4, .inl (cI, 48, .inl qd))] [(cI, .int)] t) (va_A [(h0, .inr (3, [.ref p1, .ref p2, .ref p3, .ref p4, .int pn, .int fx, .int fy])), (p1, .inl (cI, 48, .inl qa)), (p2, .inl (cI, 48, .inl qb)), (p3, .inl (cI, 48, .inl qc)), (p4, .inl (cI, 48, .inl qd))] sz)) 0 0 (va_A [(h0, .inr (3, [.ref p1, .ref p2, .ref p3, .ref p4, .int pn, .int fx, .int fy])), (p1, .inl (cI, 48, .inl qa)), (p2, .inl (cI, 48, .inl qb)), (p3, .inl (cI, 48, .inl qc)), (p4, .inl (cI, 48, .inl qd))] sz) := by
  refine Met.ofW (cc := cX3_windingAt) (maxL := 6) (ret := (some .int)) (by decide) rfl ?_
  intro p e s m args below meth c s₁ B hml hv
  obtain ⟨rfl, hsz, hP, hK, hD0, hN⟩ := hv
  have hx := B.exec
  have hb := B.bytes
  have hr := B.returns
  have hts0 := atoms_spec (ws := (wB yX3_windingAt cX3_windingAt 6 (some .int))) B.pre
  have hts : ∀ w ∈ bigW, w.before _ s = true := fun w h => hts0 w (List.mem_cons_of_mem _ h)
  have hown : s.vm.findClass RX3 = some m.cls := findClass_of_methodNamed B.named
  have hlocks := B.notSynchronized
  subst hsz
  have hD := hD0.self (sz := s.heap.size)
  generalize hAe : va_A [(h0, .inr (3, [.ref p1, .ref p2, .ref p3, .ref p4, .int pn, .int fx, .int fy])), (p1, .inl (cI, 48, .inl qa)), (p2, .inl (cI, 48, .inl qb)), (p3, .inl (cI, 48, .inl qc)), (p4, .inl (cI, 48, .inl qd))] s.heap.size = A at hD ⊢
  have hA : ∀ q : Nat, s.heap.size ≤ q → A q := fun q h => by rw [← hAe]; exact Or.inr h
  have hS : va_S A s.heap s.heap [] := va_S.rf
  have hP : va_P D vwCl [(h0, .inr (3, [.ref p1, .ref p2, .ref p3, .ref p4, .int pn, .int fx, .int fy])), (p1, .inl (cI, 48, .inl qa)), (p2, .inl (cI, 48, .inl qb)), (p3, .inl (cI, 48, .inl qc)), (p4, .inl (cI, 48, .inl qd))] s.heap := hP
  have hl := lv_entry ([.ref h0, .int u, .int v]) (n := 6) (Nat.le_of_ble_eq_true rfl)
  rw [lg_entry_eq]
  generalize (lg_sl ([.ref h0, .int u, .int v]) ++ List.replicate (6 - (lg_sl ([.ref h0, .int u, .int v])).length) Slot.unset).toArray = ls at hl ⊢
  have hl : lv_has ls 6 [(0, .ref h0), (1, .int u), (2, .int v)] := hl
  clear hts0 hD0 hAe
  refine my_abs (fun R Q hR hQ => ?_)
  refine lv_iconst (v := 0) hx hb dX3_windingAt_0 (by decide) ?_
  refine lv_istore_n (lv' := [(3, .int 0), (0, .ref h0), (1, .int u), (2, .int v)]) hx hb dX3_windingAt_1 rfl hl (by decide) rfl (fun ls hl => ?_)
  refine lv_iconst (v := 0) hx hb dX3_windingAt_2 (by decide) ?_
  refine lv_istore (lv' := [(4, .int 0), (3, .int 0), (0, .ref h0), (1, .int u), (2, .int v)]) hx hb dX3_windingAt_3 hl (by decide) rfl (fun ls hl => ?_)
  have loop_1 : ∀ (n : Nat) (i : Nat) (x4 : Int32) (x3 : Int32) (H : Heap) (locs : List Loc) (ls : Array Slot), (i ≤ 48) → (48 + 1 ≤ i + n) → (x4 = nI i) → (x3 = wnN qa qb qc qd u v i) → ((i : Int) ≤ pn.toInt) → va_P D vwCl [(h0, .inr (3, [.ref p1, .ref p2, .ref p3, .ref p4, .int pn, .int fx, .int fy])), (p1, .inl (cI, 48, .inl qa)), (p2, .inl (cI, 48, .inl qb)), (p3, .inl (cI, 48, .inl qc)), (p4, .inl (cI, 48, .inl qd))] H → va_D A [(h0, .inr (3, [.ref p1, .ref p2, .ref p3, .ref p4, .int pn, .int fx, .int fy])), (p1, .inl (cI, 48, .inl qa)), (p2, .inl (cI, 48, .inl qb)), (p3, .inl (cI, 48, .inl qc)), (p4, .inl (cI, 48, .inl qd))] → va_S A s.heap H locs → lv_has ls 6 [(4, .int x4), (3, .int x3), (0, .ref h0), (1, .int u), (2, .int v)] → W p l e R s m ([.ref h0, .int u, .int v] : List Value).toArray below meth c H locs 0 0 Q (F0 m 5 ls []) := by
    intro n
    induction n with
    | zero =>
      intro i x4 x3 H locs ls hi_i hm_i ex_i et hip hP hD hS hl
      exact absurd (show False by omega) not_false
    | succ n ih_2 =>
      intro i x4 x3 H locs ls hi_i hm_i ex_i et hip hP hD hS hl
      have hx_i : x4.toInt = (i : Int) := by rw [ex_i]; exact nI_toInt (by omega)
      have hc_i : x4.toNatClampNeg = i := by rw [ex_i]; exact nI_clamp (by omega)
      refine lv_iload hx hb dX3_windingAt_5 (lv_at hl 0 rfl) ?_
      refine lv_aload_n hx hb dX3_windingAt_7 rfl (lv_at hl 2 rfl) ?_
      refine va_get (D := D) (ci := 3) (v := .int pn) (C := RX3) (T := TX3) (N := 7) hx hb hts hi_X3 hown hK hP 0 rfl rfl 4 (by decide) (hts _ bw_76) (fun _ h9 => h9) rfl dX3_windingAt_8 ?_
      refine lv_icmp_ge (tgt := 50) hx hb dX3_windingAt_11 (by decide) (fun c_3 => ?_) (fun c_3 => ?_)
      · skip
        have f_4 : pn.toInt ≤ (i : Int) := f_le rfl hx_i c_3
        refine lv_iload_n hx hb dX3_windingAt_50 rfl (lv_at hl 1 rfl) ?_
        have hP9 := hP.sub (ws' := [(h0, .inr (3, [.ref p1, .ref p2, .ref p3, .ref p4, .int pn, .int fx, .int fy])), (p1, .inl (cI, 48, .inl qa)), (p2, .inl (cI, 48, .inl qb)), (p3, .inl (cI, 48, .inl qc)), (p4, .inl (cI, 48, .inl qd))]) [0, 1, 2, 3, 4] rfl
        have hD9 := hD.sub (ws' := [(h0, .inr (3, [.ref p1, .ref p2, .ref p3, .ref p4, .int pn, .int fx, .int fy])), (p1, .inl (cI, 48, .inl qa)), (p2, .inl (cI, 48, .inl qb)), (p3, .inl (cI, 48, .inl qc)), (p4, .inl (cI, 48, .inl qd))]) [0, 1, 2, 3, 4] (by decide) rfl
        have hK9 := hK.sub (tys' := [(cI, .int)]) [0] rfl
        refine hQ _ _ _ _ _ ?_
        exact W.iret (v := x3) hx hb hr (fun t ht hW => ⟨⟨x3, (), rfl, (by rw [et, pn_cl hpn (show pn.toInt = (i : Int) by omega)]), ⟨by rw [ht]; exact hP9, va_K.moved hW.alike hK9, hD9⟩⟩, hS.F ht⟩) hS.2.2 dX3_windingAt_51
      · skip
        have f_4 : ¬ (pn.toInt ≤ (i : Int)) := fn_le rfl hx_i c_3
        refine lv_aload_n hx hb dX3_windingAt_14 rfl (lv_at hl 2 rfl) ?_
        refine lv_iload hx hb dX3_windingAt_15 (lv_at hl 0 rfl) ?_
        refine lv_iload_n hx hb dX3_windingAt_17 rfl (lv_at hl 4 rfl) ?_
        have hPc := hP.sub (ws' := [(h0, .inr (3, [.ref p1, .ref p2, .ref p3, .ref p4, .int pn, .int fx, .int fy])), (p2, .inl (cI, 48, .inl qb)), (p4, .inl (cI, 48, .inl qd))]) [0, 2, 4] rfl
        have hDc := hD.sub (ws' := [(h0, .inr (3, [.ref p1, .ref p2, .ref p3, .ref p4, .int pn, .int fx, .int fy])), (p2, .inl (cI, 48, .inl qb)), (p4, .inl (cI, 48, .inl qd))]) [0, 2, 4] (by decide) rfl
        have hKc := hK.sub (tys' := [(cI, .int)]) [0] rfl
        have hFc := va_free (wc := [(h0, .inr (3, [.ref p1, .ref p2, .ref p3, .ref p4, .int pn, .int fx, .int fy])), (p2, .inl (cI, 48, .inl qb)), (p4, .inl (cI, 48, .inl qd))]) hD hS hA [0, 2, 4] rfl
        refine va_calli (va_runV (As := [.int x4, .int v]) (rest := []) ⟨hx, hb, hml, hown, hts⟩ (k_X3_turnOf l D H.size h0 p1 p2 p3 p4 pn fx fy qb qd x4 v cI (by first | assumption | omega | decide)) (cwV 2 hts (gV bw_88 bw_102 bw_103 bw_67 bw_101) rfl rfl rfl (by decide +kernel) ⟨(by rw [hR]; exact Nat.le_of_ble_eq_true rfl), (by rw [hR]; exact Nat.le_of_ble_eq_true rfl)⟩) ⟨cP_blind, va_recv hKc hPc (ci := 3) (q0 := 0) rfl rfl, cP_at hPc hKc hDc hN⟩ rfl rfl hl.1 rfl (lv_room (Nat.le_of_ble_eq_true rfl)) dX3_windingAt_18 ⟨(by rw [hR]; exact Nat.le_of_ble_eq_true rfl), (by rw [hR]; exact Nat.le_of_ble_eq_true rfl)⟩) hS (fun q _ h => hFc q h) hFc (fun r_5 u9 t9 H1 locs ht hvm hr_5 hB hz1 hk1 hS => ?_)
        try dsimp only at hr_5
        obtain ⟨hP1, hK1, hD1⟩ := hB
        rw [ht] at hP1
        obtain ⟨hP, hD⟩ := va_join (wr := [(p1, .inl (cI, 48, .inl qa)), (p3, .inl (cI, 48, .inl qc))]) (w1 := [(h0, .inr (3, [.ref p1, .ref p2, .ref p3, .ref p4, .int pn, .int fx, .int fy])), (p2, .inl (cI, 48, .inl qb)), (p4, .inl (cI, 48, .inl qd))]) hP hD [0, 2, 4] [1, 3] rfl rfl (by decide) (by decide) hk1 hFc hP1 hD1
        clear hz1 hk1 hFc hKc hDc hPc
        generalize H1 = H at hP hS ⊢
        have hP : va_P D vwCl [(p1, .inl (cI, 48, .inl qa)), (p3, .inl (cI, 48, .inl qc)), (h0, .inr (3, [.ref p1, .ref p2, .ref p3, .ref p4, .int pn, .int fx, .int fy])), (p2, .inl (cI, 48, .inl qb)), (p4, .inl (cI, 48, .inl qd))] H := hP
        have hD : va_D A [(p1, .inl (cI, 48, .inl qa)), (p3, .inl (cI, 48, .inl qc)), (h0, .inr (3, [.ref p1, .ref p2, .ref p3, .ref p4, .int pn, .int fx, .int fy])), (p2, .inl (cI, 48, .inl qb)), (p4, .inl (cI, 48, .inl qd))] := hD
        have tir_5 : r_5 = tnP (qb i) (qd i) v := by rw [hr_5, hc_i]
        refine lv_istore (lv' := [(5, .int r_5), (4, .int x4), (3, .int x3), (0, .ref h0), (1, .int u), (2, .int v)]) hx hb dX3_windingAt_21 hl (by decide) rfl (fun ls hl => ?_)
        refine lv_iload hx hb dX3_windingAt_23 (lv_at hl 0 rfl) ?_
        refine lv_if_eq (tgt := 44) hx hb dX3_windingAt_25 (by decide) (fun c_6 => ?_) (fun c_6 => ?_)
        · skip
          have f_7 : r_5.toInt = 0 := f_eq rfl (by decide) c_6
          obtain ⟨y_8, ey_8⟩ : ∃ y : Int32, y = x4 + 1 := ⟨_, rfl⟩
          refine lv_iinc (v := y_8) (lv' := [(4, .int y_8), (5, .int r_5), (3, .int x3), (0, .ref h0), (1, .int u), (2, .int v)]) hx hb dX3_windingAt_44 hl (k := 1) rfl (by rw [ey_8]; rfl) (by decide) rfl (fun ls hl => ?_)
          refine lv_goto (tgt := 5) hx hb dX3_windingAt_47 (by decide) ?_
          exact ih_2 (i + 1) y_8 x3 _ _ _ (by omega) (by omega) (by rw [ey_8, ex_i]; exact nI_1 i) (et.trans (wn_z (tir_5.symm.trans c_6)).symm) (by omega) (hP.sub (ws' := [(h0, .inr (3, [.ref p1, .ref p2, .ref p3, .ref p4, .int pn, .int fx, .int fy])), (p1, .inl (cI, 48, .inl qa)), (p2, .inl (cI, 48, .inl qb)), (p3, .inl (cI, 48, .inl qc)), (p4, .inl (cI, 48, .inl qd))]) [2, 0, 3, 1, 4] rfl) (hD.sub (ws' := [(h0, .inr (3, [.ref p1, .ref p2, .ref p3, .ref p4, .int pn, .int fx, .int fy])), (p1, .inl (cI, 48, .inl qa)), (p2, .inl (cI, 48, .inl qb)), (p3, .inl (cI, 48, .inl qc)), (p4, .inl (cI, 48, .inl qd))]) [2, 0, 3, 1, 4] (by decide) rfl) hS (lv_sub hl [0, 2, 3, 4, 5] rfl)
        · skip
          have f_7 : ¬ (r_5.toInt = 0) := fn_eq rfl (by decide) c_6
          refine lv_aload_n hx hb dX3_windingAt_28 rfl (lv_at hl 3 rfl) ?_
          refine lv_iload hx hb dX3_windingAt_29 (lv_at hl 1 rfl) ?_
          refine lv_iload_n hx hb dX3_windingAt_31 rfl (lv_at hl 5 rfl) ?_
          have hPc := hP.sub (ws' := [(h0, .inr (3, [.ref p1, .ref p2, .ref p3, .ref p4, .int pn, .int fx, .int fy])), (p1, .inl (cI, 48, .inl qa)), (p2, .inl (cI, 48, .inl qb)), (p3, .inl (cI, 48, .inl qc)), (p4, .inl (cI, 48, .inl qd))]) [2, 0, 3, 1, 4] rfl
          have hDc := hD.sub (ws' := [(h0, .inr (3, [.ref p1, .ref p2, .ref p3, .ref p4, .int pn, .int fx, .int fy])), (p1, .inl (cI, 48, .inl qa)), (p2, .inl (cI, 48, .inl qb)), (p3, .inl (cI, 48, .inl qc)), (p4, .inl (cI, 48, .inl qd))]) [2, 0, 3, 1, 4] (by decide) rfl
          have hKc := hK.sub (tys' := [(cI, .int)]) [0] rfl
          have hFc := va_free (wc := [(h0, .inr (3, [.ref p1, .ref p2, .ref p3, .ref p4, .int pn, .int fx, .int fy])), (p1, .inl (cI, 48, .inl qa)), (p2, .inl (cI, 48, .inl qb)), (p3, .inl (cI, 48, .inl qc)), (p4, .inl (cI, 48, .inl qd))]) hD hS hA [2, 0, 3, 1, 4] rfl
          refine va_calli (va_runV (As := [.int x4, .int v]) (rest := []) ⟨hx, hb, hml, hown, hts⟩ (k_X3_firstRightOf l D H.size h0 p1 p2 p3 p4 pn fx fy qa qb qc qd x4 v cI (by first | assumption | omega | decide)) (cwV 2 hts (gV bw_89 bw_105 bw_106 bw_67 bw_104) rfl rfl rfl (by decide +kernel) ⟨(by rw [hR]; exact Nat.le_of_ble_eq_true rfl), (by rw [hR]; exact Nat.le_of_ble_eq_true rfl)⟩) ⟨cP_blind, va_recv hKc hPc (ci := 3) (q0 := 0) rfl rfl, cP_at hPc hKc hDc hN⟩ rfl rfl hl.1 rfl (lv_room (Nat.le_of_ble_eq_true rfl)) dX3_windingAt_32 ⟨(by rw [hR]; exact Nat.le_of_ble_eq_true rfl), (by rw [hR]; exact Nat.le_of_ble_eq_true rfl)⟩) hS (fun q _ h => hFc q h) hFc (fun r_9 u9 t9 H1 locs ht hvm hr_9 hB hz1 hk1 hS => ?_)
          try dsimp only at hr_9
          obtain ⟨hP1, hK1, hD1⟩ := hB
          rw [ht] at hP1
          obtain ⟨hP, hD⟩ := va_join (wr := []) (w1 := [(h0, .inr (3, [.ref p1, .ref p2, .ref p3, .ref p4, .int pn, .int fx, .int fy])), (p1, .inl (cI, 48, .inl qa)), (p2, .inl (cI, 48, .inl qb)), (p3, .inl (cI, 48, .inl qc)), (p4, .inl (cI, 48, .inl qd))]) hP hD [2, 0, 3, 1, 4] [] rfl rfl (by decide) (by decide) hk1 hFc hP1 hD1
          clear hz1 hk1 hFc hKc hDc hPc
          generalize H1 = H at hP hS ⊢
          have hP : va_P D vwCl [(h0, .inr (3, [.ref p1, .ref p2, .ref p3, .ref p4, .int pn, .int fx, .int fy])), (p1, .inl (cI, 48, .inl qa)), (p2, .inl (cI, 48, .inl qb)), (p3, .inl (cI, 48, .inl qc)), (p4, .inl (cI, 48, .inl qd))] H := hP
          have hD : va_D A [(h0, .inr (3, [.ref p1, .ref p2, .ref p3, .ref p4, .int pn, .int fx, .int fy])), (p1, .inl (cI, 48, .inl qa)), (p2, .inl (cI, 48, .inl qb)), (p3, .inl (cI, 48, .inl qc)), (p4, .inl (cI, 48, .inl qd))] := hD
          have tir_9 : r_9 = frP (qa i) (qb i) (qc i) (qd i) v := by rw [hr_9, hc_i]
          refine lv_iload_n hx hb dX3_windingAt_35 rfl (lv_at hl 4 rfl) ?_
          refine lv_icmp_gt (tgt := 44) hx hb dX3_windingAt_36 (by decide) (fun c_10 => ?_) (fun c_10 => ?_)
          · skip
            have f_11 : u.toInt < r_9.toInt := f_lt rfl rfl c_10
            obtain ⟨y_12, ey_12⟩ : ∃ y : Int32, y = x4 + 1 := ⟨_, rfl⟩
            refine lv_iinc (v := y_12) (lv' := [(4, .int y_12), (5, .int r_5), (3, .int x3), (0, .ref h0), (1, .int u), (2, .int v)]) hx hb dX3_windingAt_44 hl (k := 1) rfl (by rw [ey_12]; rfl) (by decide) rfl (fun ls hl => ?_)
            refine lv_goto (tgt := 5) hx hb dX3_windingAt_47 (by decide) ?_
            exact ih_2 (i + 1) y_12 x3 _ _ _ (by omega) (by omega) (by rw [ey_12, ex_i]; exact nI_1 i) (et.trans (wn_r (fun q => c_6 (tir_5.trans q)) (by rw [← tir_9]; omega)).symm) (by omega) (hP.sub (ws' := [(h0, .inr (3, [.ref p1, .ref p2, .ref p3, .ref p4, .int pn, .int fx, .int fy])), (p1, .inl (cI, 48, .inl qa)), (p2, .inl (cI, 48, .inl qb)), (p3, .inl (cI, 48, .inl qc)), (p4, .inl (cI, 48, .inl qd))]) [0, 1, 2, 3, 4] rfl) (hD.sub (ws' := [(h0, .inr (3, [.ref p1, .ref p2, .ref p3, .ref p4, .int pn, .int fx, .int fy])), (p1, .inl (cI, 48, .inl qa)), (p2, .inl (cI, 48, .inl qb)), (p3, .inl (cI, 48, .inl qc)), (p4, .inl (cI, 48, .inl qd))]) [0, 1, 2, 3, 4] (by decide) rfl) hS (lv_sub hl [0, 2, 3, 4, 5] rfl)
          · skip
            have f_11 : ¬ (u.toInt < r_9.toInt) := fn_lt rfl rfl c_10
            refine lv_iload_n hx hb dX3_windingAt_39 rfl (lv_at hl 2 rfl) ?_
            refine lv_iload hx hb dX3_windingAt_40 (lv_at hl 0 rfl) ?_
            refine lv_iadd hx hb dX3_windingAt_42 ?_
            refine lv_topi (fun y_13 ey_13 => ?_)
            refine lv_istore_n (lv' := [(3, .int y_13), (5, .int r_5), (4, .int x4), (0, .ref h0), (1, .int u), (2, .int v)]) hx hb dX3_windingAt_43 rfl hl (by decide) rfl (fun ls hl => ?_)
            obtain ⟨y_14, ey_14⟩ : ∃ y : Int32, y = x4 + 1 := ⟨_, rfl⟩
            refine lv_iinc (v := y_14) (lv' := [(4, .int y_14), (3, .int y_13), (5, .int r_5), (0, .ref h0), (1, .int u), (2, .int v)]) hx hb dX3_windingAt_44 hl (k := 2) rfl (by rw [ey_14]; rfl) (by decide) rfl (fun ls hl => ?_)
            refine lv_goto (tgt := 5) hx hb dX3_windingAt_47 (by decide) ?_
            exact ih_2 (i + 1) y_14 y_13 _ _ _ (by omega) (by omega) (by rw [ey_14, ex_i]; exact nI_1 i) (by rw [wn_a (fun q => c_6 (tir_5.trans q)) (by rw [← tir_9]; omega), ← et, ← tir_5]; exact ey_13) (by omega) (hP.sub (ws' := [(h0, .inr (3, [.ref p1, .ref p2, .ref p3, .ref p4, .int pn, .int fx, .int fy])), (p1, .inl (cI, 48, .inl qa)), (p2, .inl (cI, 48, .inl qb)), (p3, .inl (cI, 48, .inl qc)), (p4, .inl (cI, 48, .inl qd))]) [0, 1, 2, 3, 4] rfl) (hD.sub (ws' := [(h0, .inr (3, [.ref p1, .ref p2, .ref p3, .ref p4, .int pn, .int fx, .int fy])), (p1, .inl (cI, 48, .inl qa)), (p2, .inl (cI, 48, .inl qb)), (p3, .inl (cI, 48, .inl qc)), (p4, .inl (cI, 48, .inl qd))]) [0, 1, 2, 3, 4] (by decide) rfl) hS (lv_sub hl [0, 1, 3, 4, 5] rfl)
  exact loop_1 (48 + 1) 0 0 0 _ _ _ (by omega) (by omega) nI_0.symm rfl (by omega) hP hD hS (lv_sub hl [0, 1, 2, 3, 4] rfl)
