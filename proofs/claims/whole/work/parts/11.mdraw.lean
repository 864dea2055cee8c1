set_option maxHeartbeats 4000000 in
set_option maxRecDepth 100000 in
theorem k_X9_begins (l : Launch) (D : va_G) (sz : Nat) (h0 m1 m2 m3 m4 m5 m6 m7 m8 m9 m10 m11 m12 m13 : Nat) (ik wy op cl cx0 cx1 cy0 cy1 ds pn : Int32) (gm : Nat → Int32) (cZ : ClassId) : Met l yX9_begins (wB yX9_begins cX9_begins 2 none) ({ frames := 0, cells := 0, slots := 0, locals := 0 }) (cP D [(h0, .inr (9, [.ref m1, .ref m2, .ref m3, .int ik, .int wy, .int op, .int cl, .int cx0, .int cx1, .int cy0, .int cy1, .int ds, .ref m4, .ref m5, .ref m6, .ref m7, .ref m8, .ref m9, .int pn, .ref m10, .ref m11, .ref m12, .ref m13])), (m4, .inl (cZ, 4096, .inl gm))] [(cZ, .boolean)] sz [.ref h0]) (va_Qv (fun (_ : Unit) => True) (fun (_ : Unit) (t : State) => cB D (va_A [(h0, .inr (9, [.ref m1, .ref m2, .ref m3, .int ik, .int wy, .int op, .int cl, .int cx0, .int cx1, .int cy0, .int cy1, .int ds, .ref m4, .ref m5, .ref m6, .ref m7, .ref m8, .ref m9, .int pn, .ref m10, .ref m11, .ref m12, .ref m13])), (m4, .inl (cZ, 4096, .inl gm))] sz) [(h0, .inr (9, [.ref m1, .ref m2, .ref m3, .int ik, .int wy, .int op, .int cl, .int cx0, .int cx1, .int cy0, .int cy1, .int ds, .ref m4, .ref m5, .ref m6, .ref m7, .ref m8, .ref m9, .int pn, .ref m10, .ref m11, .ref m12, .ref m13])), (m4, .inl (cZ, 4096, .inl (zrN gm 4096)))] [(cZ, .boolean)] t) (va_A [(h0, .inr (9, [.ref m1, .ref m2, .ref m3, .int ik, .int wy, .int op, .int cl, .int cx0, .int cx1, .int cy0, .int cy1, .int ds, .ref m4, .ref m5, .ref m6, .ref m7, .ref m8, .ref m9, .int pn, .ref m10, .ref m11, .ref m12, .ref m13])), (m4, .inl (cZ, 4096, .inl gm))] sz)) 0 0 (va_A [(h0, .inr (9, [.ref m1, .ref m2, .ref m3, .int ik, .int wy, .int op, .int cl, .int cx0, .int cx1, .int cy0, .int cy1, .int ds, .ref m4, .ref m5, .ref m6, .ref m7, .ref m8, .ref m9, .int pn, .ref m10, .ref m11, .ref m12, .ref m13])), (m4, .inl (cZ, 4096, .inl gm))] sz) := by
  refine Met.ofW (cc := cX9_begins) (maxL := 2) (ret := none) (by decide) rfl ?_
  intro p e s m args below meth c s₁ B hml hv
  obtain ⟨rfl, hsz, hP, hK, hD0, hN⟩ := hv
  have hx := B.exec
  have hb := B.bytes
  have hr := B.returns
  have hts0 := atoms_spec (ws := (wB yX9_begins cX9_begins 2 none)) B.pre
  have hts : ∀ w ∈ bigW, w.before _ s = true := fun w h => hts0 w (List.mem_cons_of_mem _ h)
  have hown : s.vm.findClass RX9 = some m.cls := findClass_of_methodNamed B.named
  have hlocks := B.notSynchronized
  subst hsz
  have hD := hD0.self (sz := s.heap.size)
  generalize hAe : va_A [(h0, .inr (9, [.ref m1, .ref m2, .ref m3, .int ik, .int wy, .int op, .int cl, .int cx0, .int cx1, .int cy0, .int cy1, .int ds, .ref m4, .ref m5, .ref m6, .ref m7, .ref m8, .ref m9, .int pn, .ref m10, .ref m11, .ref m12, .ref m13])), (m4, .inl (cZ, 4096, .inl gm))] s.heap.size = A at hD ⊢
  have hA : ∀ q : Nat, s.heap.size ≤ q → A q := fun q h => by rw [← hAe]; exact Or.inr h
  have hS : va_S A s.heap s.heap [] := va_S.rf
  have hP : va_P D vwCl [(h0, .inr (9, [.ref m1, .ref m2, .ref m3, .int ik, .int wy, .int op, .int cl, .int cx0, .int cx1, .int cy0, .int cy1, .int ds, .ref m4, .ref m5, .ref m6, .ref m7, .ref m8, .ref m9, .int pn, .ref m10, .ref m11, .ref m12, .ref m13])), (m4, .inl (cZ, 4096, .inl gm))] s.heap := hP
  have hl := lv_entry ([.ref h0]) (n := 2) (Nat.le_of_ble_eq_true rfl)
  rw [lg_entry_eq]
  generalize (lg_sl ([.ref h0]) ++ List.replicate (2 - (lg_sl ([.ref h0])).length) Slot.unset).toArray = ls at hl ⊢
  have hl : lv_has ls 2 [(0, .ref h0)] := hl
  clear hts0 hD0 hAe
  refine my_abs (fun R Q hR hQ => ?_)
  refine lv_iconst (v := 0) hx hb dX9_begins_0 (by decide) ?_
  refine lv_istore_n (lv' := [(1, .int 0), (0, .ref h0)]) hx hb dX9_begins_1 rfl hl (by decide) rfl (fun ls hl => ?_)
  have loop_1 : ∀ (n : Nat) (i : Nat) (x1 : Int32) (gg : Nat → Int32) (H : Heap) (locs : List Loc) (ls : Array Slot), (i ≤ 4096) → (4096 + 1 ≤ i + n) → (x1 = nI i) → (gg = zrN gm i) → va_P D vwCl [(h0, .inr (9, [.ref m1, .ref m2, .ref m3, .int ik, .int wy, .int op, .int cl, .int cx0, .int cx1, .int cy0, .int cy1, .int ds, .ref m4, .ref m5, .ref m6, .ref m7, .ref m8, .ref m9, .int pn, .ref m10, .ref m11, .ref m12, .ref m13])), (m4, .inl (cZ, 4096, .inl gg))] H → va_D A [(h0, .inr (9, [.ref m1, .ref m2, .ref m3, .int ik, .int wy, .int op, .int cl, .int cx0, .int cx1, .int cy0, .int cy1, .int ds, .ref m4, .ref m5, .ref m6, .ref m7, .ref m8, .ref m9, .int pn, .ref m10, .ref m11, .ref m12, .ref m13])), (m4, .inl (cZ, 4096, .inl gg))] → va_S A s.heap H locs → lv_has ls 2 [(1, .int x1), (0, .ref h0)] → W p l e R s m ([.ref h0] : List Value).toArray below meth c H locs 0 0 Q (F0 m 2 ls []) := by
    intro n
    induction n with
    | zero =>
      intro i x1 gg H locs ls hi hm ex hg hP hD hS hl
      exact absurd (show False by omega) not_false
    | succ n ih_2 =>
      intro i x1 gg H locs ls hi hm ex hg hP hD hS hl
      have hxi : x1.toInt = (i : Int) := by rw [ex]; exact nI_toInt (by omega)
      refine lv_iload_n hx hb dX9_begins_2 rfl (lv_at hl 0 rfl) ?_
      refine lv_sipush (v := 4096) hx hb dX9_begins_3 (by decide) ?_
      refine lv_icmp_ge (tgt := 22) hx hb dX9_begins_6 (by decide) (fun c_3 => ?_) (fun c_3 => ?_)
      · skip
        have f_4 : 4096 ≤ (i : Int) := f_le (by decide) hxi c_3
        have hc : gg = zrN gm 4096 := by rw [hg, show i = 4096 by omega]
        rw [hc] at hP hD
        have hP9 := hP.sub (ws' := [(h0, .inr (9, [.ref m1, .ref m2, .ref m3, .int ik, .int wy, .int op, .int cl, .int cx0, .int cx1, .int cy0, .int cy1, .int ds, .ref m4, .ref m5, .ref m6, .ref m7, .ref m8, .ref m9, .int pn, .ref m10, .ref m11, .ref m12, .ref m13])), (m4, .inl (cZ, 4096, .inl (zrN gm 4096)))]) [0, 1] rfl
        have hD9 := hD.sub (ws' := [(h0, .inr (9, [.ref m1, .ref m2, .ref m3, .int ik, .int wy, .int op, .int cl, .int cx0, .int cx1, .int cy0, .int cy1, .int ds, .ref m4, .ref m5, .ref m6, .ref m7, .ref m8, .ref m9, .int pn, .ref m10, .ref m11, .ref m12, .ref m13])), (m4, .inl (cZ, 4096, .inl (zrN gm 4096)))]) [0, 1] (by decide) rfl
        have hK9 := hK.sub (tys' := [(cZ, .boolean)]) [0] rfl
        refine hQ _ _ _ _ _ ?_
        exact W.vret hx hb hr (fun t ht hW => ⟨⟨(), rfl, trivial, ⟨by rw [ht]; exact hP9, va_K.moved hW.alike hK9, hD9⟩⟩, hS.F ht⟩) hS.2.2 dX9_begins_22
      · skip
        have f_4 : ¬ (4096 ≤ (i : Int)) := fn_le (by decide) hxi c_3
        refine lv_aload_n hx hb dX9_begins_9 rfl (lv_at hl 1 rfl) ?_
        refine va_get (D := D) (ci := 9) (v := .ref m4) (C := RX9) (T := TX9) (N := 23) hx hb hts hi_X9 hown hK hP 0 rfl rfl 12 (by decide) (hts _ bw_404) (fun _ h9 => h9) rfl dX9_begins_10 ?_
        refine lv_iload_n hx hb dX9_begins_13 rfl (lv_at hl 0 rfl) ?_
        refine lv_iconst (v := 0) hx hb dX9_begins_14 (by decide) ?_
        refine va_zast hx hb hK hP hD hS 1 0 rfl rfl (vp_in_iff.mpr ⟨by omega, by omega⟩) dX9_begins_15 (fun H locs hP hD hS => ?_)
        have hP : va_P D vwCl [(h0, .inr (9, [.ref m1, .ref m2, .ref m3, .int ik, .int wy, .int op, .int cl, .int cx0, .int cx1, .int cy0, .int cy1, .int ds, .ref m4, .ref m5, .ref m6, .ref m7, .ref m8, .ref m9, .int pn, .ref m10, .ref m11, .ref m12, .ref m13])), (m4, .inl (cZ, 4096, .inl (upd gg x1.toNatClampNeg (vp_nar .boolean 0))))] H := hP
        have hD : va_D A [(h0, .inr (9, [.ref m1, .ref m2, .ref m3, .int ik, .int wy, .int op, .int cl, .int cx0, .int cx1, .int cy0, .int cy1, .int ds, .ref m4, .ref m5, .ref m6, .ref m7, .ref m8, .ref m9, .int pn, .ref m10, .ref m11, .ref m12, .ref m13])), (m4, .inl (cZ, 4096, .inl (upd gg x1.toNatClampNeg (vp_nar .boolean 0))))] := hD
        generalize eg_5 : upd gg x1.toNatClampNeg (vp_nar .boolean 0) = g_5 at hP hD
        have hP : va_P D vwCl [(h0, .inr (9, [.ref m1, .ref m2, .ref m3, .int ik, .int wy, .int op, .int cl, .int cx0, .int cx1, .int cy0, .int cy1, .int ds, .ref m4, .ref m5, .ref m6, .ref m7, .ref m8, .ref m9, .int pn, .ref m10, .ref m11, .ref m12, .ref m13])), (m4, .inl (cZ, 4096, .inl g_5))] H := hP
        have hD : va_D A [(h0, .inr (9, [.ref m1, .ref m2, .ref m3, .int ik, .int wy, .int op, .int cl, .int cx0, .int cx1, .int cy0, .int cy1, .int ds, .ref m4, .ref m5, .ref m6, .ref m7, .ref m8, .ref m9, .int pn, .ref m10, .ref m11, .ref m12, .ref m13])), (m4, .inl (cZ, 4096, .inl g_5))] := hD
        obtain ⟨y_6, ey_6⟩ : ∃ y : Int32, y = x1 + 1 := ⟨_, rfl⟩
        refine lv_iinc (v := y_6) (lv' := [(1, .int y_6), (0, .ref h0)]) hx hb dX9_begins_16 hl (k := 0) rfl (by rw [ey_6]; rfl) (by decide) rfl (fun ls hl => ?_)
        refine lv_goto (tgt := 2) hx hb dX9_begins_19 (by decide) ?_
        exact ih_2 (i + 1) y_6 g_5 _ _ _ (by omega) (by omega) (by rw [ey_6, ex]; exact nI_1 i) (by rw [← eg_5, hg]; exact zr_up (by rw [ex]; exact nI_clamp (by omega))) (hP.sub (ws' := [(h0, .inr (9, [.ref m1, .ref m2, .ref m3, .int ik, .int wy, .int op, .int cl, .int cx0, .int cx1, .int cy0, .int cy1, .int ds, .ref m4, .ref m5, .ref m6, .ref m7, .ref m8, .ref m9, .int pn, .ref m10, .ref m11, .ref m12, .ref m13])), (m4, .inl (cZ, 4096, .inl g_5))]) [0, 1] rfl) (hD.sub (ws' := [(h0, .inr (9, [.ref m1, .ref m2, .ref m3, .int ik, .int wy, .int op, .int cl, .int cx0, .int cx1, .int cy0, .int cy1, .int ds, .ref m4, .ref m5, .ref m6, .ref m7, .ref m8, .ref m9, .int pn, .ref m10, .ref m11, .ref m12, .ref m13])), (m4, .inl (cZ, 4096, .inl g_5))]) [0, 1] (by decide) rfl) hS (lv_sub hl [0, 1] rfl)
  exact loop_1 (4096 + 1) 0 0 gm _ _ _ (by omega) (by omega) nI_0.symm (zr_0 gm) hP hD hS (lv_sub hl [0, 1] rfl)

set_option maxHeartbeats 4000000 in
set_option maxRecDepth 100000 in
theorem k_X9_marks (l : Launch) (D : va_G) (sz : Nat) (h0 m1 m2 m3 m4 m5 m6 m7 m8 m9 m10 m11 m12 m13 : Nat) (ik wy op cl cx0 cx1 cy0 cy1 ds pn : Int32) (gw : Nat → Int32) (gh : Nat → Int32) (gm : Nat → Int32) (ge : Nat → Int32) (gv : Nat → Int32) (k x y n v : Int32) (cI : ClassId) (cZ : ClassId) (hk : 0 ≤ k.toInt ∧ k.toInt ≤ 3) (hgw : (gw k.toNatClampNeg).toInt ≤ 64) (hgh : (gh k.toNatClampNeg).toInt ≤ 64) : Met l yX9_marks (wB yX9_marks cX9_marks 7 none) ({ frames := 2, cells := 0, slots := 0, locals := 46 }) (cP D [(h0, .inr (9, [.ref m1, .ref m2, .ref m3, .int ik, .int wy, .int op, .int cl, .int cx0, .int cx1, .int cy0, .int cy1, .int ds, .ref m4, .ref m5, .ref m6, .ref m7, .ref m8, .ref m9, .int pn, .ref m10, .ref m11, .ref m12, .ref m13])), (m1, .inl (cI, 4, .inl gw)), (m2, .inl (cI, 4, .inl gh)), (m4, .inl (cZ, 4096, .inl gm)), (m5, .inl (cI, 4096, .inl ge)), (m6, .inl (cI, 4096, .inl gv))] [(cI, .int), (cZ, .boolean)] sz [.ref h0, .int k, .int x, .int y, .int n, .int v]) (va_Qv (fun (_ : Unit) => True) (fun (_ : Unit) (t : State) => cB D (va_A [(h0, .inr (9, [.ref m1, .ref m2, .ref m3, .int ik, .int wy, .int op, .int cl, .int cx0, .int cx1, .int cy0, .int cy1, .int ds, .ref m4, .ref m5, .ref m6, .ref m7, .ref m8, .ref m9, .int pn, .ref m10, .ref m11, .ref m12, .ref m13])), (m1, .inl (cI, 4, .inl gw)), (m2, .inl (cI, 4, .inl gh)), (m4, .inl (cZ, 4096, .inl gm)), (m5, .inl (cI, 4096, .inl ge)), (m6, .inl (cI, 4096, .inl gv))] sz) [(h0, .inr (9, [.ref m1, .ref m2, .ref m3, .int ik, .int wy, .int op, .int cl, .int cx0, .int cx1, .int cy0, .int cy1, .int ds, .ref m4, .ref m5, .ref m6, .ref m7, .ref m8, .ref m9, .int pn, .ref m10, .ref m11, .ref m12, .ref m13])), (m1, .inl (cI, 4, .inl gw)), (m2, .inl (cI, 4, .inl gh)), (m4, .inl (cZ, 4096, .inl (if (0 ≤ x.toInt ∧ x.toInt < (gw k.toNatClampNeg).toInt ∧ 0 ≤ y.toInt ∧ y.toInt < (gh k.toNatClampNeg).toInt) ∧ (cl.toInt = 0 ∨ (cx0.toInt ≤ x.toInt ∧ x.toInt ≤ cx1.toInt ∧ cy0.toInt ≤ y.toInt ∧ y.toInt ≤ cy1.toInt)) then upd gm (ixP x y) 1 else gm))), (m5, .inl (cI, 4096, .inl (if (0 ≤ x.toInt ∧ x.toInt < (gw k.toNatClampNeg).toInt ∧ 0 ≤ y.toInt ∧ y.toInt < (gh k.toNatClampNeg).toInt) ∧ (cl.toInt = 0 ∨ (cx0.toInt ≤ x.toInt ∧ x.toInt ≤ cx1.toInt ∧ cy0.toInt ≤ y.toInt ∧ y.toInt ≤ cy1.toInt)) then upd ge (ixP x y) v else ge))), (m6, .inl (cI, 4096, .inl (if (0 ≤ x.toInt ∧ x.toInt < (gw k.toNatClampNeg).toInt ∧ 0 ≤ y.toInt ∧ y.toInt < (gh k.toNatClampNeg).toInt) ∧ (cl.toInt = 0 ∨ (cx0.toInt ≤ x.toInt ∧ x.toInt ≤ cx1.toInt ∧ cy0.toInt ≤ y.toInt ∧ y.toInt ≤ cy1.toInt)) then upd gv (ixP x y) n else gv)))] [(cI, .int), (cZ, .boolean)] t) (va_A [(h0, .inr (9, [.ref m1, .ref m2, .ref m3, .int ik, .int wy, .int op, .int cl, .int cx0, .int cx1, .int cy0, .int cy1, .int ds, .ref m4, .ref m5, .ref m6, .ref m7, .ref m8, .ref m9, .int pn, .ref m10, .ref m11, .ref m12, .ref m13])), (m1, .inl (cI, 4, .inl gw)), (m2, .inl (cI, 4, .inl gh)), (m4, .inl (cZ, 4096, .inl gm)), (m5, .inl (cI, 4096, .inl ge)), (m6, .inl (cI, 4096, .inl gv))] sz)) 0 0 (va_A [(h0, .inr (9, [.ref m1, .ref m2, .ref m3, .int ik, .int wy, .int op, .int cl, .int cx0, .int cx1, .int cy0, .int cy1, .int ds, .ref m4, .ref m5, .ref m6, .ref m7, .ref m8, .ref m9, .int pn, .ref m10, .ref m11, .ref m12, .ref m13])), (m1, .inl (cI, 4, .inl gw)), (m2, .inl (cI, 4, .inl gh)), (m4, .inl (cZ, 4096, .inl gm)), (m5, .inl (cI, 4096, .inl ge)), (m6, .inl (cI, 4096, .inl gv))] sz) := by
  refine Met.ofW (cc := cX9_marks) (maxL := 7) (ret := none) (by decide) rfl ?_
  intro p e s m args below meth c s₁ B hml hv
  obtain ⟨rfl, hsz, hP, hK, hD0, hN⟩ := hv
  have hx := B.exec
  have hb := B.bytes
  have hr := B.returns
  have hts0 := atoms_spec (ws := (wB yX9_marks cX9_marks 7 none)) B.pre
  have hts : ∀ w ∈ bigW, w.before _ s = true := fun w h => hts0 w (List.mem_cons_of_mem _ h)
  have hown : s.vm.findClass RX9 = some m.cls := findClass_of_methodNamed B.named
  have hlocks := B.notSynchronized
  subst hsz
  have hD := hD0.self (sz := s.heap.size)
  generalize hAe : va_A [(h0, .inr (9, [.ref m1, .ref m2, .ref m3, .int ik, .int wy, .int op, .int cl, .int cx0, .int cx1, .int cy0, .int cy1, .int ds, .ref m4, .ref m5, .ref m6, .ref m7, .ref m8, .ref m9, .int pn, .ref m10, .ref m11, .ref m12, .ref m13])), (m1, .inl (cI, 4, .inl gw)), (m2, .inl (cI, 4, .inl gh)), (m4, .inl (cZ, 4096, .inl gm)), (m5, .inl (cI, 4096, .inl ge)), (m6, .inl (cI, 4096, .inl gv))] s.heap.size = A at hD ⊢
  have hA : ∀ q : Nat, s.heap.size ≤ q → A q := fun q h => by rw [← hAe]; exact Or.inr h
  have hS : va_S A s.heap s.heap [] := va_S.rf
  have hP : va_P D vwCl [(h0, .inr (9, [.ref m1, .ref m2, .ref m3, .int ik, .int wy, .int op, .int cl, .int cx0, .int cx1, .int cy0, .int cy1, .int ds, .ref m4, .ref m5, .ref m6, .ref m7, .ref m8, .ref m9, .int pn, .ref m10, .ref m11, .ref m12, .ref m13])), (m1, .inl (cI, 4, .inl gw)), (m2, .inl (cI, 4, .inl gh)), (m4, .inl (cZ, 4096, .inl gm)), (m5, .inl (cI, 4096, .inl ge)), (m6, .inl (cI, 4096, .inl gv))] s.heap := hP
  have hl := lv_entry ([.ref h0, .int k, .int x, .int y, .int n, .int v]) (n := 7) (Nat.le_of_ble_eq_true rfl)
  rw [lg_entry_eq]
  generalize (lg_sl ([.ref h0, .int k, .int x, .int y, .int n, .int v]) ++ List.replicate (7 - (lg_sl ([.ref h0, .int k, .int x, .int y, .int n, .int v])).length) Slot.unset).toArray = ls at hl ⊢
  have hl : lv_has ls 7 [(0, .ref h0), (1, .int k), (2, .int x), (3, .int y), (4, .int n), (5, .int v)] := hl
  clear hts0 hD0 hAe
  refine my_abs (fun R Q hR hQ => ?_)
  refine lv_aload_n hx hb dX9_marks_0 rfl (lv_at hl 0 rfl) ?_
  refine lv_iload_n hx hb dX9_marks_1 rfl (lv_at hl 1 rfl) ?_
  refine lv_iload_n hx hb dX9_marks_2 rfl (lv_at hl 2 rfl) ?_
  refine lv_iload_n hx hb dX9_marks_3 rfl (lv_at hl 3 rfl) ?_
  have hPc := hP.sub (ws' := [(h0, .inr (9, [.ref m1, .ref m2, .ref m3, .int ik, .int wy, .int op, .int cl, .int cx0, .int cx1, .int cy0, .int cy1, .int ds, .ref m4, .ref m5, .ref m6, .ref m7, .ref m8, .ref m9, .int pn, .ref m10, .ref m11, .ref m12, .ref m13])), (m1, .inl (cI, 4, .inl gw)), (m2, .inl (cI, 4, .inl gh))]) [0, 1, 2] rfl
  have hDc := hD.sub (ws' := [(h0, .inr (9, [.ref m1, .ref m2, .ref m3, .int ik, .int wy, .int op, .int cl, .int cx0, .int cx1, .int cy0, .int cy1, .int ds, .ref m4, .ref m5, .ref m6, .ref m7, .ref m8, .ref m9, .int pn, .ref m10, .ref m11, .ref m12, .ref m13])), (m1, .inl (cI, 4, .inl gw)), (m2, .inl (cI, 4, .inl gh))]) [0, 1, 2] (by decide) rfl
  have hKc := hK.sub (tys' := [(cI, .int)]) [0] rfl
  have hFc := va_free (wc := [(h0, .inr (9, [.ref m1, .ref m2, .ref m3, .int ik, .int wy, .int op, .int cl, .int cx0, .int cx1, .int cy0, .int cy1, .int ds, .ref m4, .ref m5, .ref m6, .ref m7, .ref m8, .ref m9, .int pn, .ref m10, .ref m11, .ref m12, .ref m13])), (m1, .inl (cI, 4, .inl gw)), (m2, .inl (cI, 4, .inl gh))]) hD hS hA [0, 1, 2] rfl
  refine va_calli (va_runV (As := [.int k, .int x, .int y]) (rest := []) ⟨hx, hb, hml, hown, hts⟩ (k_X9_isOpen l D s.heap.size h0 m1 m2 m3 m4 m5 m6 m7 m8 m9 m10 m11 m12 m13 ik wy op cl cx0 cx1 cy0 cy1 ds pn gw gh k x y cI (by first | assumption | omega | decide)) (cwV 3 hts (gV bw_460 bw_431 bw_432 bw_391 bw_430) rfl rfl rfl (by decide +kernel) ⟨(by rw [hR]; exact Nat.le_of_ble_eq_true rfl), (by rw [hR]; exact Nat.le_of_ble_eq_true rfl)⟩) ⟨cP_blind, va_recv hKc hPc (ci := 9) (q0 := 0) rfl rfl, cP_at hPc hKc hDc hN⟩ rfl rfl hl.1 rfl (lv_room (Nat.le_of_ble_eq_true rfl)) dX9_marks_4 ⟨(by rw [hR]; exact Nat.le_of_ble_eq_true rfl), (by rw [hR]; exact Nat.le_of_ble_eq_true rfl)⟩) hS (fun q _ h => hFc q h) hFc (fun r_1 u9 t9 H1 locs ht hvm hr_1 hB hz1 hk1 hS => ?_)
  try dsimp only at hr_1
  obtain ⟨hP1, hK1, hD1⟩ := hB
  rw [ht] at hP1
  obtain ⟨hP, hD⟩ := va_join (wr := [(m4, .inl (cZ, 4096, .inl gm)), (m5, .inl (cI, 4096, .inl ge)), (m6, .inl (cI, 4096, .inl gv))]) (w1 := [(h0, .inr (9, [.ref m1, .ref m2, .ref m3, .int ik, .int wy, .int op, .int cl, .int cx0, .int cx1, .int cy0, .int cy1, .int ds, .ref m4, .ref m5, .ref m6, .ref m7, .ref m8, .ref m9, .int pn, .ref m10, .ref m11, .ref m12, .ref m13])), (m1, .inl (cI, 4, .inl gw)), (m2, .inl (cI, 4, .inl gh))]) hP hD [0, 1, 2] [3, 4, 5] rfl rfl (by decide) (by decide) hk1 hFc hP1 hD1
  clear hz1 hk1 hFc hKc hDc hPc
  generalize H1 = H at hP hS ⊢
  have hP : va_P D vwCl [(m4, .inl (cZ, 4096, .inl gm)), (m5, .inl (cI, 4096, .inl ge)), (m6, .inl (cI, 4096, .inl gv)), (h0, .inr (9, [.ref m1, .ref m2, .ref m3, .int ik, .int wy, .int op, .int cl, .int cx0, .int cx1, .int cy0, .int cy1, .int ds, .ref m4, .ref m5, .ref m6, .ref m7, .ref m8, .ref m9, .int pn, .ref m10, .ref m11, .ref m12, .ref m13])), (m1, .inl (cI, 4, .inl gw)), (m2, .inl (cI, 4, .inl gh))] H := hP
  have hD : va_D A [(m4, .inl (cZ, 4096, .inl gm)), (m5, .inl (cI, 4096, .inl ge)), (m6, .inl (cI, 4096, .inl gv)), (h0, .inr (9, [.ref m1, .ref m2, .ref m3, .int ik, .int wy, .int op, .int cl, .int cx0, .int cx1, .int cy0, .int cy1, .int ds, .ref m4, .ref m5, .ref m6, .ref m7, .ref m8, .ref m9, .int pn, .ref m10, .ref m11, .ref m12, .ref m13])), (m1, .inl (cI, 4, .inl gw)), (m2, .inl (cI, 4, .inl gh))] := hD
  refine lv_if_ne (tgt := 11) hx hb dX9_marks_7 (by decide) (fun c_2 => ?_) (fun c_2 => ?_)
  · skip
    have f_3 := bz1 hr_1 c_2
    refine lv_bipush (v := 64) hx hb dX9_marks_11 (by decide) ?_
    refine lv_iload_n hx hb dX9_marks_13 rfl (lv_at hl 3 rfl) ?_
    refine lv_imul hx hb dX9_marks_14 ?_
    refine lv_topi (fun y_4 ey_4 => ?_)
    refine lv_iload_n hx hb dX9_marks_15 rfl (lv_at hl 2 rfl) ?_
    refine lv_iadd hx hb dX9_marks_16 ?_
    refine lv_topi (fun y_5 ey_5 => ?_)
    refine lv_istore (lv' := [(6, .int y_5), (0, .ref h0), (1, .int k), (2, .int x), (3, .int y), (4, .int n), (5, .int v)]) hx hb dX9_marks_17 hl (by decide) rfl (fun ls hl => ?_)
    refine lv_aload_n hx hb dX9_marks_19 rfl (lv_at hl 1 rfl) ?_
    refine va_get (D := D) (ci := 9) (v := .ref m4) (C := RX9) (T := TX9) (N := 23) hx hb hts hi_X9 hown hK hP 3 rfl rfl 12 (by decide) (hts _ bw_404) (fun _ h9 => h9) rfl dX9_marks_20 ?_
    refine lv_iload hx hb dX9_marks_23 (lv_at hl 0 rfl) ?_
    refine lv_iconst (v := 1) hx hb dX9_marks_25 (by decide) ?_
    refine va_zast hx hb hK hP hD hS 0 1 rfl rfl (by subst_vars; exact ix_in2 (by omega) (by omega) (by omega) (by omega)) dX9_marks_26 (fun H locs hP hD hS => ?_)
    have hP : va_P D vwCl [(m4, .inl (cZ, 4096, .inl (upd gm y_5.toNatClampNeg (vp_nar .boolean 1)))), (m5, .inl (cI, 4096, .inl ge)), (m6, .inl (cI, 4096, .inl gv)), (h0, .inr (9, [.ref m1, .ref m2, .ref m3, .int ik, .int wy, .int op, .int cl, .int cx0, .int cx1, .int cy0, .int cy1, .int ds, .ref m4, .ref m5, .ref m6, .ref m7, .ref m8, .ref m9, .int pn, .ref m10, .ref m11, .ref m12, .ref m13])), (m1, .inl (cI, 4, .inl gw)), (m2, .inl (cI, 4, .inl gh))] H := hP
    have hD : va_D A [(m4, .inl (cZ, 4096, .inl (upd gm y_5.toNatClampNeg (vp_nar .boolean 1)))), (m5, .inl (cI, 4096, .inl ge)), (m6, .inl (cI, 4096, .inl gv)), (h0, .inr (9, [.ref m1, .ref m2, .ref m3, .int ik, .int wy, .int op, .int cl, .int cx0, .int cx1, .int cy0, .int cy1, .int ds, .ref m4, .ref m5, .ref m6, .ref m7, .ref m8, .ref m9, .int pn, .ref m10, .ref m11, .ref m12, .ref m13])), (m1, .inl (cI, 4, .inl gw)), (m2, .inl (cI, 4, .inl gh))] := hD
    generalize eg_6 : upd gm y_5.toNatClampNeg (vp_nar .boolean 1) = g_6 at hP hD
    have hP : va_P D vwCl [(m4, .inl (cZ, 4096, .inl g_6)), (m5, .inl (cI, 4096, .inl ge)), (m6, .inl (cI, 4096, .inl gv)), (h0, .inr (9, [.ref m1, .ref m2, .ref m3, .int ik, .int wy, .int op, .int cl, .int cx0, .int cx1, .int cy0, .int cy1, .int ds, .ref m4, .ref m5, .ref m6, .ref m7, .ref m8, .ref m9, .int pn, .ref m10, .ref m11, .ref m12, .ref m13])), (m1, .inl (cI, 4, .inl gw)), (m2, .inl (cI, 4, .inl gh))] H := hP
    have hD : va_D A [(m4, .inl (cZ, 4096, .inl g_6)), (m5, .inl (cI, 4096, .inl ge)), (m6, .inl (cI, 4096, .inl gv)), (h0, .inr (9, [.ref m1, .ref m2, .ref m3, .int ik, .int wy, .int op, .int cl, .int cx0, .int cx1, .int cy0, .int cy1, .int ds, .ref m4, .ref m5, .ref m6, .ref m7, .ref m8, .ref m9, .int pn, .ref m10, .ref m11, .ref m12, .ref m13])), (m1, .inl (cI, 4, .inl gw)), (m2, .inl (cI, 4, .inl gh))] := hD
    refine lv_aload_n hx hb dX9_marks_27 rfl (lv_at hl 1 rfl) ?_
    refine va_get (D := D) (ci := 9) (v := .ref m5) (C := RX9) (T := TX9) (N := 23) hx hb hts hi_X9 hown hK hP 3 rfl rfl 13 (by decide) (hts _ bw_405) (fun _ h9 => h9) rfl dX9_marks_28 ?_
    refine lv_iload hx hb dX9_marks_31 (lv_at hl 0 rfl) ?_
    refine lv_iload hx hb dX9_marks_33 (lv_at hl 6 rfl) ?_
    refine va_iast hx hb hK hP hD hS 1 0 rfl rfl (by subst_vars; exact ix_in2 (by omega) (by omega) (by omega) (by omega)) dX9_marks_35 (fun H locs hP hD hS => ?_)
    have hP : va_P D vwCl [(m4, .inl (cZ, 4096, .inl g_6)), (m5, .inl (cI, 4096, .inl (upd ge y_5.toNatClampNeg v))), (m6, .inl (cI, 4096, .inl gv)), (h0, .inr (9, [.ref m1, .ref m2, .ref m3, .int ik, .int wy, .int op, .int cl, .int cx0, .int cx1, .int cy0, .int cy1, .int ds, .ref m4, .ref m5, .ref m6, .ref m7, .ref m8, .ref m9, .int pn, .ref m10, .ref m11, .ref m12, .ref m13])), (m1, .inl (cI, 4, .inl gw)), (m2, .inl (cI, 4, .inl gh))] H := hP
    have hD : va_D A [(m4, .inl (cZ, 4096, .inl g_6)), (m5, .inl (cI, 4096, .inl (upd ge y_5.toNatClampNeg v))), (m6, .inl (cI, 4096, .inl gv)), (h0, .inr (9, [.ref m1, .ref m2, .ref m3, .int ik, .int wy, .int op, .int cl, .int cx0, .int cx1, .int cy0, .int cy1, .int ds, .ref m4, .ref m5, .ref m6, .ref m7, .ref m8, .ref m9, .int pn, .ref m10, .ref m11, .ref m12, .ref m13])), (m1, .inl (cI, 4, .inl gw)), (m2, .inl (cI, 4, .inl gh))] := hD
    generalize eg_7 : upd ge y_5.toNatClampNeg v = g_7 at hP hD
    have hP : va_P D vwCl [(m4, .inl (cZ, 4096, .inl g_6)), (m5, .inl (cI, 4096, .inl g_7)), (m6, .inl (cI, 4096, .inl gv)), (h0, .inr (9, [.ref m1, .ref m2, .ref m3, .int ik, .int wy, .int op, .int cl, .int cx0, .int cx1, .int cy0, .int cy1, .int ds, .ref m4, .ref m5, .ref m6, .ref m7, .ref m8, .ref m9, .int pn, .ref m10, .ref m11, .ref m12, .ref m13])), (m1, .inl (cI, 4, .inl gw)), (m2, .inl (cI, 4, .inl gh))] H := hP
    have hD : va_D A [(m4, .inl (cZ, 4096, .inl g_6)), (m5, .inl (cI, 4096, .inl g_7)), (m6, .inl (cI, 4096, .inl gv)), (h0, .inr (9, [.ref m1, .ref m2, .ref m3, .int ik, .int wy, .int op, .int cl, .int cx0, .int cx1, .int cy0, .int cy1, .int ds, .ref m4, .ref m5, .ref m6, .ref m7, .ref m8, .ref m9, .int pn, .ref m10, .ref m11, .ref m12, .ref m13])), (m1, .inl (cI, 4, .inl gw)), (m2, .inl (cI, 4, .inl gh))] := hD
    refine lv_aload_n hx hb dX9_marks_36 rfl (lv_at hl 1 rfl) ?_
    refine va_get (D := D) (ci := 9) (v := .ref m6) (C := RX9) (T := TX9) (N := 23) hx hb hts hi_X9 hown hK hP 3 rfl rfl 14 (by decide) (hts _ bw_406) (fun _ h9 => h9) rfl dX9_marks_37 ?_
    refine lv_iload hx hb dX9_marks_40 (lv_at hl 0 rfl) ?_
    refine lv_iload hx hb dX9_marks_42 (lv_at hl 5 rfl) ?_
    refine va_iast hx hb hK hP hD hS 2 0 rfl rfl (by subst_vars; exact ix_in2 (by omega) (by omega) (by omega) (by omega)) dX9_marks_44 (fun H locs hP hD hS => ?_)
    have hP : va_P D vwCl [(m4, .inl (cZ, 4096, .inl g_6)), (m5, .inl (cI, 4096, .inl g_7)), (m6, .inl (cI, 4096, .inl (upd gv y_5.toNatClampNeg n))), (h0, .inr (9, [.ref m1, .ref m2, .ref m3, .int ik, .int wy, .int op, .int cl, .int cx0, .int cx1, .int cy0, .int cy1, .int ds, .ref m4, .ref m5, .ref m6, .ref m7, .ref m8, .ref m9, .int pn, .ref m10, .ref m11, .ref m12, .ref m13])), (m1, .inl (cI, 4, .inl gw)), (m2, .inl (cI, 4, .inl gh))] H := hP
    have hD : va_D A [(m4, .inl (cZ, 4096, .inl g_6)), (m5, .inl (cI, 4096, .inl g_7)), (m6, .inl (cI, 4096, .inl (upd gv y_5.toNatClampNeg n))), (h0, .inr (9, [.ref m1, .ref m2, .ref m3, .int ik, .int wy, .int op, .int cl, .int cx0, .int cx1, .int cy0, .int cy1, .int ds, .ref m4, .ref m5, .ref m6, .ref m7, .ref m8, .ref m9, .int pn, .ref m10, .ref m11, .ref m12, .ref m13])), (m1, .inl (cI, 4, .inl gw)), (m2, .inl (cI, 4, .inl gh))] := hD
    generalize eg_8 : upd gv y_5.toNatClampNeg n = g_8 at hP hD
    have hP : va_P D vwCl [(m4, .inl (cZ, 4096, .inl g_6)), (m5, .inl (cI, 4096, .inl g_7)), (m6, .inl (cI, 4096, .inl g_8)), (h0, .inr (9, [.ref m1, .ref m2, .ref m3, .int ik, .int wy, .int op, .int cl, .int cx0, .int cx1, .int cy0, .int cy1, .int ds, .ref m4, .ref m5, .ref m6, .ref m7, .ref m8, .ref m9, .int pn, .ref m10, .ref m11, .ref m12, .ref m13])), (m1, .inl (cI, 4, .inl gw)), (m2, .inl (cI, 4, .inl gh))] H := hP
    have hD : va_D A [(m4, .inl (cZ, 4096, .inl g_6)), (m5, .inl (cI, 4096, .inl g_7)), (m6, .inl (cI, 4096, .inl g_8)), (h0, .inr (9, [.ref m1, .ref m2, .ref m3, .int ik, .int wy, .int op, .int cl, .int cx0, .int cx1, .int cy0, .int cy1, .int ds, .ref m4, .ref m5, .ref m6, .ref m7, .ref m8, .ref m9, .int pn, .ref m10, .ref m11, .ref m12, .ref m13])), (m1, .inl (cI, 4, .inl gw)), (m2, .inl (cI, 4, .inl gh))] := hD
    have hc : g_6 = if (0 ≤ x.toInt ∧ x.toInt < (gw k.toNatClampNeg).toInt ∧ 0 ≤ y.toInt ∧ y.toInt < (gh k.toNatClampNeg).toInt) ∧ (cl.toInt = 0 ∨ (cx0.toInt ≤ x.toInt ∧ x.toInt ≤ cx1.toInt ∧ cy0.toInt ≤ y.toInt ∧ y.toInt ≤ cy1.toInt)) then upd gm (ixP x y) 1 else gm := by rw [if_pos (by first | assumption | omega), ← eg_6]; exact congrArg (fun i => upd gm i 1) (by subst_vars; exact ix_cl2 (by omega) (by omega) (by omega) (by omega))
    rw [hc] at hP hD
    have hc : g_7 = if (0 ≤ x.toInt ∧ x.toInt < (gw k.toNatClampNeg).toInt ∧ 0 ≤ y.toInt ∧ y.toInt < (gh k.toNatClampNeg).toInt) ∧ (cl.toInt = 0 ∨ (cx0.toInt ≤ x.toInt ∧ x.toInt ≤ cx1.toInt ∧ cy0.toInt ≤ y.toInt ∧ y.toInt ≤ cy1.toInt)) then upd ge (ixP x y) v else ge := by rw [if_pos (by first | assumption | omega), ← eg_7]; exact congrArg (fun i => upd ge i v) (by subst_vars; exact ix_cl2 (by omega) (by omega) (by omega) (by omega))
    rw [hc] at hP hD
    have hc : g_8 = if (0 ≤ x.toInt ∧ x.toInt < (gw k.toNatClampNeg).toInt ∧ 0 ≤ y.toInt ∧ y.toInt < (gh k.toNatClampNeg).toInt) ∧ (cl.toInt = 0 ∨ (cx0.toInt ≤ x.toInt ∧ x.toInt ≤ cx1.toInt ∧ cy0.toInt ≤ y.toInt ∧ y.toInt ≤ cy1.toInt)) then upd gv (ixP x y) n else gv := by rw [if_pos (by first | assumption | omega), ← eg_8]; exact congrArg (fun i => upd gv i n) (by subst_vars; exact ix_cl2 (by omega) (by omega) (by omega) (by omega))
    rw [hc] at hP hD
    have hP9 := hP.sub (ws' := [(h0, .inr (9, [.ref m1, .ref m2, .ref m3, .int ik, .int wy, .int op, .int cl, .int cx0, .int cx1, .int cy0, .int cy1, .int ds, .ref m4, .ref m5, .ref m6, .ref m7, .ref m8, .ref m9, .int pn, .ref m10, .ref m11, .ref m12, .ref m13])), (m1, .inl (cI, 4, .inl gw)), (m2, .inl (cI, 4, .inl gh)), (m4, .inl (cZ, 4096, .inl (if (0 ≤ x.toInt ∧ x.toInt < (gw k.toNatClampNeg).toInt ∧ 0 ≤ y.toInt ∧ y.toInt < (gh k.toNatClampNeg).toInt) ∧ (cl.toInt = 0 ∨ (cx0.toInt ≤ x.toInt ∧ x.toInt ≤ cx1.toInt ∧ cy0.toInt ≤ y.toInt ∧ y.toInt ≤ cy1.toInt)) then upd gm (ixP x y) 1 else gm))), (m5, .inl (cI, 4096, .inl (if (0 ≤ x.toInt ∧ x.toInt < (gw k.toNatClampNeg).toInt ∧ 0 ≤ y.toInt ∧ y.toInt < (gh k.toNatClampNeg).toInt) ∧ (cl.toInt = 0 ∨ (cx0.toInt ≤ x.toInt ∧ x.toInt ≤ cx1.toInt ∧ cy0.toInt ≤ y.toInt ∧ y.toInt ≤ cy1.toInt)) then upd ge (ixP x y) v else ge))), (m6, .inl (cI, 4096, .inl (if (0 ≤ x.toInt ∧ x.toInt < (gw k.toNatClampNeg).toInt ∧ 0 ≤ y.toInt ∧ y.toInt < (gh k.toNatClampNeg).toInt) ∧ (cl.toInt = 0 ∨ (cx0.toInt ≤ x.toInt ∧ x.toInt ≤ cx1.toInt ∧ cy0.toInt ≤ y.toInt ∧ y.toInt ≤ cy1.toInt)) then upd gv (ixP x y) n else gv)))]) [3, 4, 5, 0, 1, 2] rfl
    have hD9 := hD.sub (ws' := [(h0, .inr (9, [.ref m1, .ref m2, .ref m3, .int ik, .int wy, .int op, .int cl, .int cx0, .int cx1, .int cy0, .int cy1, .int ds, .ref m4, .ref m5, .ref m6, .ref m7, .ref m8, .ref m9, .int pn, .ref m10, .ref m11, .ref m12, .ref m13])), (m1, .inl (cI, 4, .inl gw)), (m2, .inl (cI, 4, .inl gh)), (m4, .inl (cZ, 4096, .inl (if (0 ≤ x.toInt ∧ x.toInt < (gw k.toNatClampNeg).toInt ∧ 0 ≤ y.toInt ∧ y.toInt < (gh k.toNatClampNeg).toInt) ∧ (cl.toInt = 0 ∨ (cx0.toInt ≤ x.toInt ∧ x.toInt ≤ cx1.toInt ∧ cy0.toInt ≤ y.toInt ∧ y.toInt ≤ cy1.toInt)) then upd gm (ixP x y) 1 else gm))), (m5, .inl (cI, 4096, .inl (if (0 ≤ x.toInt ∧ x.toInt < (gw k.toNatClampNeg).toInt ∧ 0 ≤ y.toInt ∧ y.toInt < (gh k.toNatClampNeg).toInt) ∧ (cl.toInt = 0 ∨ (cx0.toInt ≤ x.toInt ∧ x.toInt ≤ cx1.toInt ∧ cy0.toInt ≤ y.toInt ∧ y.toInt ≤ cy1.toInt)) then upd ge (ixP x y) v else ge))), (m6, .inl (cI, 4096, .inl (if (0 ≤ x.toInt ∧ x.toInt < (gw k.toNatClampNeg).toInt ∧ 0 ≤ y.toInt ∧ y.toInt < (gh k.toNatClampNeg).toInt) ∧ (cl.toInt = 0 ∨ (cx0.toInt ≤ x.toInt ∧ x.toInt ≤ cx1.toInt ∧ cy0.toInt ≤ y.toInt ∧ y.toInt ≤ cy1.toInt)) then upd gv (ixP x y) n else gv)))]) [3, 4, 5, 0, 1, 2] (by decide) rfl
    have hK9 := hK.sub (tys' := [(cI, .int), (cZ, .boolean)]) [0, 1] rfl
    refine hQ _ _ _ _ _ ?_
    exact W.vret hx hb hr (fun t ht hW => ⟨⟨(), rfl, trivial, ⟨by rw [ht]; exact hP9, va_K.moved hW.alike hK9, hD9⟩⟩, hS.F ht⟩) hS.2.2 dX9_marks_45
  · skip
    have f_3 := bz0 hr_1 c_2
    have hc : gm = if (0 ≤ x.toInt ∧ x.toInt < (gw k.toNatClampNeg).toInt ∧ 0 ≤ y.toInt ∧ y.toInt < (gh k.toNatClampNeg).toInt) ∧ (cl.toInt = 0 ∨ (cx0.toInt ≤ x.toInt ∧ x.toInt ≤ cx1.toInt ∧ cy0.toInt ≤ y.toInt ∧ y.toInt ≤ cy1.toInt)) then upd gm (ixP x y) 1 else gm := (if_neg (by first | assumption | omega)).symm
    rw [hc] at hP hD
    have hc : ge = if (0 ≤ x.toInt ∧ x.toInt < (gw k.toNatClampNeg).toInt ∧ 0 ≤ y.toInt ∧ y.toInt < (gh k.toNatClampNeg).toInt) ∧ (cl.toInt = 0 ∨ (cx0.toInt ≤ x.toInt ∧ x.toInt ≤ cx1.toInt ∧ cy0.toInt ≤ y.toInt ∧ y.toInt ≤ cy1.toInt)) then upd ge (ixP x y) v else ge := (if_neg (by first | assumption | omega)).symm
    rw [hc] at hP hD
    have hc : gv = if (0 ≤ x.toInt ∧ x.toInt < (gw k.toNatClampNeg).toInt ∧ 0 ≤ y.toInt ∧ y.toInt < (gh k.toNatClampNeg).toInt) ∧ (cl.toInt = 0 ∨ (cx0.toInt ≤ x.toInt ∧ x.toInt ≤ cx1.toInt ∧ cy0.toInt ≤ y.toInt ∧ y.toInt ≤ cy1.toInt)) then upd gv (ixP x y) n else gv := (if_neg (by first | assumption | omega)).symm
    rw [hc] at hP hD
    have hP9 := hP.sub (ws' := [(h0, .inr (9, [.ref m1, .ref m2, .ref m3, .int ik, .int wy, .int op, .int cl, .int cx0, .int cx1, .int cy0, .int cy1, .int ds, .ref m4, .ref m5, .ref m6, .ref m7, .ref m8, .ref m9, .int pn, .ref m10, .ref m11, .ref m12, .ref m13])), (m1, .inl (cI, 4, .inl gw)), (m2, .inl (cI, 4, .inl gh)), (m4, .inl (cZ, 4096, .inl (if (0 ≤ x.toInt ∧ x.toInt < (gw k.toNatClampNeg).toInt ∧ 0 ≤ y.toInt ∧ y.toInt < (gh k.toNatClampNeg).toInt) ∧ (cl.toInt = 0 ∨ (cx0.toInt ≤ x.toInt ∧ x.toInt ≤ cx1.toInt ∧ cy0.toInt ≤ y.toInt ∧ y.toInt ≤ cy1.toInt)) then upd gm (ixP x y) 1 else gm))), (m5, .inl (cI, 4096, .inl (if (0 ≤ x.toInt ∧ x.toInt < (gw k.toNatClampNeg).toInt ∧ 0 ≤ y.toInt ∧ y.toInt < (gh k.toNatClampNeg).toInt) ∧ (cl.toInt = 0 ∨ (cx0.toInt ≤ x.toInt ∧ x.toInt ≤ cx1.toInt ∧ cy0.toInt ≤ y.toInt ∧ y.toInt ≤ cy1.toInt)) then upd ge (ixP x y) v else ge))), (m6, .inl (cI, 4096, .inl (if (0 ≤ x.toInt ∧ x.toInt < (gw k.toNatClampNeg).toInt ∧ 0 ≤ y.toInt ∧ y.toInt < (gh k.toNatClampNeg).toInt) ∧ (cl.toInt = 0 ∨ (cx0.toInt ≤ x.toInt ∧ x.toInt ≤ cx1.toInt ∧ cy0.toInt ≤ y.toInt ∧ y.toInt ≤ cy1.toInt)) then upd gv (ixP x y) n else gv)))]) [3, 4, 5, 0, 1, 2] rfl
    have hD9 := hD.sub (ws' := [(h0, .inr (9, [.ref m1, .ref m2, .ref m3, .int ik, .int wy, .int op, .int cl, .int cx0, .int cx1, .int cy0, .int cy1, .int ds, .ref m4, .ref m5, .ref m6, .ref m7, .ref m8, .ref m9, .int pn, .ref m10, .ref m11, .ref m12, .ref m13])), (m1, .inl (cI, 4, .inl gw)), (m2, .inl (cI, 4, .inl gh)), (m4, .inl (cZ, 4096, .inl (if (0 ≤ x.toInt ∧ x.toInt < (gw k.toNatClampNeg).toInt ∧ 0 ≤ y.toInt ∧ y.toInt < (gh k.toNatClampNeg).toInt) ∧ (cl.toInt = 0 ∨ (cx0.toInt ≤ x.toInt ∧ x.toInt ≤ cx1.toInt ∧ cy0.toInt ≤ y.toInt ∧ y.toInt ≤ cy1.toInt)) then upd gm (ixP x y) 1 else gm))), (m5, .inl (cI, 4096, .inl (if (0 ≤ x.toInt ∧ x.toInt < (gw k.toNatClampNeg).toInt ∧ 0 ≤ y.toInt ∧ y.toInt < (gh k.toNatClampNeg).toInt) ∧ (cl.toInt = 0 ∨ (cx0.toInt ≤ x.toInt ∧ x.toInt ≤ cx1.toInt ∧ cy0.toInt ≤ y.toInt ∧ y.toInt ≤ cy1.toInt)) then upd ge (ixP x y) v else ge))), (m6, .inl (cI, 4096, .inl (if (0 ≤ x.toInt ∧ x.toInt < (gw k.toNatClampNeg).toInt ∧ 0 ≤ y.toInt ∧ y.toInt < (gh k.toNatClampNeg).toInt) ∧ (cl.toInt = 0 ∨ (cx0.toInt ≤ x.toInt ∧ x.toInt ≤ cx1.toInt ∧ cy0.toInt ≤ y.toInt ∧ y.toInt ≤ cy1.toInt)) then upd gv (ixP x y) n else gv)))]) [3, 4, 5, 0, 1, 2] (by decide) rfl
    have hK9 := hK.sub (tys' := [(cI, .int), (cZ, .boolean)]) [0, 1] rfl
    refine hQ _ _ _ _ _ ?_
    exact W.vret hx hb hr (fun t ht hW => ⟨⟨(), rfl, trivial, ⟨by rw [ht]; exact hP9, va_K.moved hW.alike hK9, hD9⟩⟩, hS.F ht⟩) hS.2.2 dX9_marks_10

set_option maxHeartbeats 4000000 in
set_option maxRecDepth 100000 in
theorem k_X9_lays (l : Launch) (D : va_G) (sz : Nat) (h0 m1 m2 m3 m4 m5 m6 m7 m8 m9 m10 m11 m12 m13 : Nat) (ik wy op cl cx0 cx1 cy0 cy1 ds pn : Int32) (gd : Nat → Int32) (gm : Nat → Int32) (ge : Nat → Int32) (gv : Nat → Int32) (k : Int32) (cI : ClassId) (cZ : ClassId) (hk : 0 ≤ k.toInt ∧ k.toInt ≤ 3) (hwy : 0 ≤ wy.toInt ∧ wy.toInt ≤ 12) : Met l yX9_lays (wB yX9_lays cX9_lays 4 (some .int)) ({ frames := 2, cells := 0, slots := 0, locals := 50 }) (cP D [(h0, .inr (9, [.ref m1, .ref m2, .ref m3, .int ik, .int wy, .int op, .int cl, .int cx0, .int cx1, .int cy0, .int cy1, .int ds, .ref m4, .ref m5, .ref m6, .ref m7, .ref m8, .ref m9, .int pn, .ref m10, .ref m11, .ref m12, .ref m13])), (m3, .inl (cI, 16384, .inl gd)), (m4, .inl (cZ, 4096, .inl gm)), (m5, .inl (cI, 4096, .inl ge)), (m6, .inl (cI, 4096, .inl gv))] [(cI, .int), (cZ, .boolean)] sz [.ref h0, .int k]) (va_Qi (fun (r : Int32) (_ : Unit) => r = nI (cntP gm 4096)) (fun (_ : Unit) (t : State) => cB D (va_A [(h0, .inr (9, [.ref m1, .ref m2, .ref m3, .int ik, .int wy, .int op, .int cl, .int cx0, .int cx1, .int cy0, .int cy1, .int ds, .ref m4, .ref m5, .ref m6, .ref m7, .ref m8, .ref m9, .int pn, .ref m10, .ref m11, .ref m12, .ref m13])), (m3, .inl (cI, 16384, .inl gd)), (m4, .inl (cZ, 4096, .inl gm)), (m5, .inl (cI, 4096, .inl ge)), (m6, .inl (cI, 4096, .inl gv))] sz) [(h0, .inr (9, [.ref m1, .ref m2, .ref m3, .int ik, .int wy, .int op, .int cl, .int cx0, .int cx1, .int cy0, .int cy1, .int ds, .ref m4, .ref m5, .ref m6, .ref m7, .ref m8, .ref m9, .int pn, .ref m10, .ref m11, .ref m12, .ref m13])), (m3, .inl (cI, 16384, .inl (lysN wy gd gm ge gv k.toNatClampNeg 4096))), (m4, .inl (cZ, 4096, .inl gm)), (m5, .inl (cI, 4096, .inl ge)), (m6, .inl (cI, 4096, .inl gv))] [(cI, .int), (cZ, .boolean)] t) (va_A [(h0, .inr (9, [.ref m1, .ref m2, .ref m3, .int ik, .int wy, .int op, .int cl, .int cx0, .int cx1, .int cy0, .int cy1, .int ds, .ref m4, .ref m5, .ref m6, .ref m7, .ref m8, .ref m9, .int pn, .ref m10, .ref m11, .ref m12, .ref m13])), (m3, .inl (cI, 16384, .inl gd)), (m4, .inl (cZ, 4096, .inl gm)), (m5, .inl (cI, 4096, .inl ge)), (m6, .inl (cI, 4096, .inl gv))] sz)) 0 0 (va_A [(h0, .inr (9, [.ref m1, .ref m2, .ref m3, .int ik, .int wy, .int op, .int cl, .int cx0, .int cx1, .int cy0, .int cy1, .int ds, .ref m4, .ref m5, .ref m6, .ref m7, .ref m8, .ref m9, .int pn, .ref m10, .ref m11, .ref m12, .ref m13])), (m3, .inl (cI, 16384, .inl gd)), (m4, .inl (cZ, 4096, .inl gm)), (m5, .inl (cI, 4096, .inl ge)), (m6, .inl (cI, 4096, .inl gv))] sz) := by
  refine Met.ofW (cc := cX9_lays) (maxL := 4) (ret := (some .int)) (by decide) rfl ?_
  intro p e s m args below meth c s₁ B hml hv
  obtain ⟨rfl, hsz, hP, hK, hD0, hN⟩ := hv
  have hx := B.exec
  have hb := B.bytes
  have hr := B.returns
  have hts0 := atoms_spec (ws := (wB yX9_lays cX9_lays 4 (some .int))) B.pre
  have hts : ∀ w ∈ bigW, w.before _ s = true := fun w h => hts0 w (List.mem_cons_of_mem _ h)
  have hown : s.vm.findClass RX9 = some m.cls := findClass_of_methodNamed B.named
  have hlocks := B.notSynchronized
  subst hsz
  have hD := hD0.self (sz := s.heap.size)
  generalize hAe : va_A [(h0, .inr (9, [.ref m1, .ref m2, .ref m3, .int ik, .int wy, .int op, .int cl, .int cx0, .int cx1, .int cy0, .int cy1, .int ds, .ref m4, .ref m5, .ref m6, .ref m7, .ref m8, .ref m9, .int pn, .ref m10, .ref m11, .ref m12, .ref m13])), (m3, .inl (cI, 16384, .inl gd)), (m4, .inl (cZ, 4096, .inl gm)), (m5, .inl (cI, 4096, .inl ge)), (m6, .inl (cI, 4096, .inl gv))] s.heap.size = A at hD ⊢
  have hA : ∀ q : Nat, s.heap.size ≤ q → A q := fun q h => by rw [← hAe]; exact Or.inr h
  have hS : va_S A s.heap s.heap [] := va_S.rf
  have hP : va_P D vwCl [(h0, .inr (9, [.ref m1, .ref m2, .ref m3, .int ik, .int wy, .int op, .int cl, .int cx0, .int cx1, .int cy0, .int cy1, .int ds, .ref m4, .ref m5, .ref m6, .ref m7, .ref m8, .ref m9, .int pn, .ref m10, .ref m11, .ref m12, .ref m13])), (m3, .inl (cI, 16384, .inl gd)), (m4, .inl (cZ, 4096, .inl gm)), (m5, .inl (cI, 4096, .inl ge)), (m6, .inl (cI, 4096, .inl gv))] s.heap := hP
  have hl := lv_entry ([.ref h0, .int k]) (n := 4) (Nat.le_of_ble_eq_true rfl)
  rw [lg_entry_eq]
  generalize (lg_sl ([.ref h0, .int k]) ++ List.replicate (4 - (lg_sl ([.ref h0, .int k])).length) Slot.unset).toArray = ls at hl ⊢
  have hl : lv_has ls 4 [(0, .ref h0), (1, .int k)] := hl
  clear hts0 hD0 hAe
  refine my_abs (fun R Q hR hQ => ?_)
  refine lv_iconst (v := 0) hx hb dX9_lays_0 (by decide) ?_
  refine lv_istore_n (lv' := [(2, .int 0), (0, .ref h0), (1, .int k)]) hx hb dX9_lays_1 rfl hl (by decide) rfl (fun ls hl => ?_)
  obtain ⟨kk, hkk, ek⟩ := i_of (x := k) (N := 4) (by omega) (by omega) (by decide)
  have ekn : k.toNatClampNeg = kk := by rw [ek]; exact nI_clamp (by omega)
  refine lv_iconst (v := 0) hx hb dX9_lays_2 (by decide) ?_
  refine lv_istore_n (lv' := [(3, .int 0), (2, .int 0), (0, .ref h0), (1, .int k)]) hx hb dX9_lays_3 rfl hl (by decide) rfl (fun ls hl => ?_)
  have loop_1 : ∀ (n : Nat) (i : Nat) (x3 : Int32) (x2 : Int32) (gg : Nat → Int32) (H : Heap) (locs : List Loc) (ls : Array Slot), (i ≤ 4096) → (4096 + 1 ≤ i + n) → (x3 = nI i) → (x2 = nI (cntP gm i)) → (gg = lysN wy gd gm ge gv kk i) → va_P D vwCl [(h0, .inr (9, [.ref m1, .ref m2, .ref m3, .int ik, .int wy, .int op, .int cl, .int cx0, .int cx1, .int cy0, .int cy1, .int ds, .ref m4, .ref m5, .ref m6, .ref m7, .ref m8, .ref m9, .int pn, .ref m10, .ref m11, .ref m12, .ref m13])), (m3, .inl (cI, 16384, .inl gg)), (m4, .inl (cZ, 4096, .inl gm)), (m5, .inl (cI, 4096, .inl ge)), (m6, .inl (cI, 4096, .inl gv))] H → va_D A [(h0, .inr (9, [.ref m1, .ref m2, .ref m3, .int ik, .int wy, .int op, .int cl, .int cx0, .int cx1, .int cy0, .int cy1, .int ds, .ref m4, .ref m5, .ref m6, .ref m7, .ref m8, .ref m9, .int pn, .ref m10, .ref m11, .ref m12, .ref m13])), (m3, .inl (cI, 16384, .inl gg)), (m4, .inl (cZ, 4096, .inl gm)), (m5, .inl (cI, 4096, .inl ge)), (m6, .inl (cI, 4096, .inl gv))] → va_S A s.heap H locs → lv_has ls 4 [(3, .int x3), (2, .int x2), (0, .ref h0), (1, .int k)] → W p l e R s m ([.ref h0, .int k] : List Value).toArray below meth c H locs 0 0 Q (F0 m 4 ls []) := by
    intro n
    induction n with
    | zero =>
      intro i x3 x2 gg H locs ls hi hm ex en hg hP hD hS hl
      exact absurd (show False by omega) not_false
    | succ n ih_2 =>
      intro i x3 x2 gg H locs ls hi hm ex en hg hP hD hS hl
      have hxi : x3.toInt = (i : Int) := by rw [ex]; exact nI_toInt (by omega)
      refine lv_iload_n hx hb dX9_lays_4 rfl (lv_at hl 0 rfl) ?_
      refine lv_sipush (v := 4096) hx hb dX9_lays_5 (by decide) ?_
      refine lv_icmp_ge (tgt := 73) hx hb dX9_lays_8 (by decide) (fun c_3 => ?_) (fun c_3 => ?_)
      · skip
        have f_4 : 4096 ≤ (i : Int) := f_le (by decide) hxi c_3
        refine lv_iload_n hx hb dX9_lays_73 rfl (lv_at hl 1 rfl) ?_
        have hc : gg = lysN wy gd gm ge gv k.toNatClampNeg 4096 := by rw [hg, ekn, show i = 4096 by omega]
        rw [hc] at hP hD
        have hP9 := hP.sub (ws' := [(h0, .inr (9, [.ref m1, .ref m2, .ref m3, .int ik, .int wy, .int op, .int cl, .int cx0, .int cx1, .int cy0, .int cy1, .int ds, .ref m4, .ref m5, .ref m6, .ref m7, .ref m8, .ref m9, .int pn, .ref m10, .ref m11, .ref m12, .ref m13])), (m3, .inl (cI, 16384, .inl (lysN wy gd gm ge gv k.toNatClampNeg 4096))), (m4, .inl (cZ, 4096, .inl gm)), (m5, .inl (cI, 4096, .inl ge)), (m6, .inl (cI, 4096, .inl gv))]) [0, 1, 2, 3, 4] rfl
        have hD9 := hD.sub (ws' := [(h0, .inr (9, [.ref m1, .ref m2, .ref m3, .int ik, .int wy, .int op, .int cl, .int cx0, .int cx1, .int cy0, .int cy1, .int ds, .ref m4, .ref m5, .ref m6, .ref m7, .ref m8, .ref m9, .int pn, .ref m10, .ref m11, .ref m12, .ref m13])), (m3, .inl (cI, 16384, .inl (lysN wy gd gm ge gv k.toNatClampNeg 4096))), (m4, .inl (cZ, 4096, .inl gm)), (m5, .inl (cI, 4096, .inl ge)), (m6, .inl (cI, 4096, .inl gv))]) [0, 1, 2, 3, 4] (by decide) rfl
        have hK9 := hK.sub (tys' := [(cI, .int), (cZ, .boolean)]) [0, 1] rfl
        refine hQ _ _ _ _ _ ?_
        exact W.iret (v := x2) hx hb hr (fun t ht hW => ⟨⟨x2, (), rfl, (by rw [en, show i = 4096 by omega]), ⟨by rw [ht]; exact hP9, va_K.moved hW.alike hK9, hD9⟩⟩, hS.F ht⟩) hS.2.2 dX9_lays_74
      · skip
        have f_4 : ¬ (4096 ≤ (i : Int)) := fn_le (by decide) hxi c_3
        refine lv_aload_n hx hb dX9_lays_11 rfl (lv_at hl 2 rfl) ?_
        refine va_get (D := D) (ci := 9) (v := .ref m4) (C := RX9) (T := TX9) (N := 23) hx hb hts hi_X9 hown hK hP 0 rfl rfl 12 (by decide) (hts _ bw_404) (fun _ h9 => h9) rfl dX9_lays_12 ?_
        refine lv_iload_n hx hb dX9_lays_15 rfl (lv_at hl 0 rfl) ?_
        refine va_zald hx hb hK hP 2 1 rfl rfl (by rw [ex]; exact vp_in_nI (by omega) (by omega)) dX9_lays_16 ?_
        refine my_fold (v := gm i) (congrArg gm (by rw [ex]; exact nI_clamp (by omega))) ?_
        refine lv_if_ne (tgt := 23) hx hb dX9_lays_17 (by decide) (fun c_5 => ?_) (fun c_5 => ?_)
        · skip
          have f_6 : ¬ ((gm i).toInt = 0) := fn_eq rfl (by decide) c_5
          refine lv_aload_n hx hb dX9_lays_23 rfl (lv_at hl 2 rfl) ?_
          refine va_get (D := D) (ci := 9) (v := .ref m3) (C := RX9) (T := TX9) (N := 23) hx hb hts hi_X9 hown hK hP 0 rfl rfl 2 (by decide) (hts _ bw_398) (fun _ h9 => h9) rfl dX9_lays_24 ?_
          refine lv_sipush (v := 4096) hx hb dX9_lays_27 (by decide) ?_
          refine lv_iload_n hx hb dX9_lays_30 rfl (lv_at hl 3 rfl) ?_
          refine lv_imul hx hb dX9_lays_31 ?_
          refine lv_topi (fun y_7 ey_7 => ?_)
          refine lv_iload_n hx hb dX9_lays_32 rfl (lv_at hl 0 rfl) ?_
          refine lv_iadd hx hb dX9_lays_33 ?_
          refine lv_topi (fun y_8 ey_8 => ?_)
          refine lv_aload_n hx hb dX9_lays_34 rfl (lv_at hl 2 rfl) ?_
          refine lv_aload_n hx hb dX9_lays_35 rfl (lv_at hl 2 rfl) ?_
          refine va_get (D := D) (ci := 9) (v := .ref m6) (C := RX9) (T := TX9) (N := 23) hx hb hts hi_X9 hown hK hP 0 rfl rfl 14 (by decide) (hts _ bw_406) (fun _ h9 => h9) rfl dX9_lays_36 ?_
          refine lv_iload_n hx hb dX9_lays_39 rfl (lv_at hl 0 rfl) ?_
          refine va_iald hx hb hK hP 4 0 rfl rfl (by rw [ex]; exact vp_in_nI (by omega) (by omega)) dX9_lays_40 ?_
          refine my_fold (v := gv i) (congrArg gv (by rw [ex]; exact nI_clamp (by omega))) ?_
          refine lv_aload_n hx hb dX9_lays_41 rfl (lv_at hl 2 rfl) ?_
          refine va_get (D := D) (ci := 9) (v := .ref m3) (C := RX9) (T := TX9) (N := 23) hx hb hts hi_X9 hown hK hP 0 rfl rfl 2 (by decide) (hts _ bw_398) (fun _ h9 => h9) rfl dX9_lays_42 ?_
          refine lv_sipush (v := 4096) hx hb dX9_lays_45 (by decide) ?_
          refine lv_iload_n hx hb dX9_lays_48 rfl (lv_at hl 3 rfl) ?_
          refine lv_imul hx hb dX9_lays_49 ?_
          refine lv_topi (fun y_9 ey_9 => ?_)
          refine lv_iload_n hx hb dX9_lays_50 rfl (lv_at hl 0 rfl) ?_
          refine lv_iadd hx hb dX9_lays_51 ?_
          refine lv_topi (fun y_10 ey_10 => ?_)
          refine va_iald hx hb hK hP 1 0 rfl rfl (by rw [ey_10, ey_9, ek, ex]; exact lp_in hkk (by omega)) dX9_lays_52 ?_
          refine my_fold (v := gg (4096 * kk + i)) (congrArg gg (by rw [ey_10, ey_9, ek, ex]; exact lp_cl hkk (by omega))) ?_
          refine lv_aload_n hx hb dX9_lays_53 rfl (lv_at hl 2 rfl) ?_
          refine va_get (D := D) (ci := 9) (v := .ref m5) (C := RX9) (T := TX9) (N := 23) hx hb hts hi_X9 hown hK hP 0 rfl rfl 13 (by decide) (hts _ bw_405) (fun _ h9 => h9) rfl dX9_lays_54 ?_
          refine lv_iload_n hx hb dX9_lays_57 rfl (lv_at hl 0 rfl) ?_
          refine va_iald hx hb hK hP 3 0 rfl rfl (by rw [ex]; exact vp_in_nI (by omega) (by omega)) dX9_lays_58 ?_
          refine my_fold (v := ge i) (congrArg ge (by rw [ex]; exact nI_clamp (by omega))) ?_
          have hPc := hP.sub (ws' := [(h0, .inr (9, [.ref m1, .ref m2, .ref m3, .int ik, .int wy, .int op, .int cl, .int cx0, .int cx1, .int cy0, .int cy1, .int ds, .ref m4, .ref m5, .ref m6, .ref m7, .ref m8, .ref m9, .int pn, .ref m10, .ref m11, .ref m12, .ref m13]))]) [0] rfl
          have hDc := hD.sub (ws' := [(h0, .inr (9, [.ref m1, .ref m2, .ref m3, .int ik, .int wy, .int op, .int cl, .int cx0, .int cx1, .int cy0, .int cy1, .int ds, .ref m4, .ref m5, .ref m6, .ref m7, .ref m8, .ref m9, .int pn, .ref m10, .ref m11, .ref m12, .ref m13]))]) [0] (by decide) rfl
          have hKc := hK.sub (tys' := []) [] rfl
          have hFc := va_free (wc := [(h0, .inr (9, [.ref m1, .ref m2, .ref m3, .int ik, .int wy, .int op, .int cl, .int cx0, .int cx1, .int cy0, .int cy1, .int ds, .ref m4, .ref m5, .ref m6, .ref m7, .ref m8, .ref m9, .int pn, .ref m10, .ref m11, .ref m12, .ref m13]))]) hD hS hA [0] rfl
          refine va_calli (va_runV (As := [.int (gv i), .int (gg (4096 * kk + i)), .int (ge i)]) (rest := [.int y_8, .ref m3]) ⟨hx, hb, hml, hown, hts⟩ (k_X9_laid l D H.size h0 m1 m2 m3 m4 m5 m6 m7 m8 m9 m10 m11 m12 m13 ik wy op cl cx0 cx1 cy0 cy1 ds pn (gv i) (gg (4096 * kk + i)) (ge i) (by first | assumption | omega | decide)) (cwV 3 hts (gV bw_464 bw_450 bw_451 bw_391 bw_449) rfl rfl rfl (by decide +kernel) ⟨(by rw [hR]; exact Nat.le_of_ble_eq_true rfl), (by rw [hR]; exact Nat.le_of_ble_eq_true rfl)⟩) ⟨cP_blind, va_recv hKc hPc (ci := 9) (q0 := 0) rfl rfl, cP_at hPc hKc hDc hN⟩ rfl rfl hl.1 rfl (lv_room (Nat.le_of_ble_eq_true rfl)) dX9_lays_59 ⟨(by rw [hR]; exact Nat.le_of_ble_eq_true rfl), (by rw [hR]; exact Nat.le_of_ble_eq_true rfl)⟩) hS (fun q _ h => hFc q h) hFc (fun r_11 u9 t9 H1 locs ht hvm hr_11 hB hz1 hk1 hS => ?_)
          try dsimp only at hr_11
          obtain ⟨hP1, hK1, hD1⟩ := hB
          rw [ht] at hP1
          obtain ⟨hP, hD⟩ := va_join (wr := [(m3, .inl (cI, 16384, .inl gg)), (m4, .inl (cZ, 4096, .inl gm)), (m5, .inl (cI, 4096, .inl ge)), (m6, .inl (cI, 4096, .inl gv))]) (w1 := [(h0, .inr (9, [.ref m1, .ref m2, .ref m3, .int ik, .int wy, .int op, .int cl, .int cx0, .int cx1, .int cy0, .int cy1, .int ds, .ref m4, .ref m5, .ref m6, .ref m7, .ref m8, .ref m9, .int pn, .ref m10, .ref m11, .ref m12, .ref m13]))]) hP hD [0] [1, 2, 3, 4] rfl rfl (by decide) (by decide) hk1 hFc hP1 hD1
          clear hz1 hk1 hFc hKc hDc hPc
          generalize H1 = H at hP hS ⊢
          have hP : va_P D vwCl [(m3, .inl (cI, 16384, .inl gg)), (m4, .inl (cZ, 4096, .inl gm)), (m5, .inl (cI, 4096, .inl ge)), (m6, .inl (cI, 4096, .inl gv)), (h0, .inr (9, [.ref m1, .ref m2, .ref m3, .int ik, .int wy, .int op, .int cl, .int cx0, .int cx1, .int cy0, .int cy1, .int ds, .ref m4, .ref m5, .ref m6, .ref m7, .ref m8, .ref m9, .int pn, .ref m10, .ref m11, .ref m12, .ref m13]))] H := hP
          have hD : va_D A [(m3, .inl (cI, 16384, .inl gg)), (m4, .inl (cZ, 4096, .inl gm)), (m5, .inl (cI, 4096, .inl ge)), (m6, .inl (cI, 4096, .inl gv)), (h0, .inr (9, [.ref m1, .ref m2, .ref m3, .int ik, .int wy, .int op, .int cl, .int cx0, .int cx1, .int cy0, .int cy1, .int ds, .ref m4, .ref m5, .ref m6, .ref m7, .ref m8, .ref m9, .int pn, .ref m10, .ref m11, .ref m12, .ref m13]))] := hD
          refine va_iast hx hb hK hP hD hS 0 0 rfl rfl (by rw [ey_8, ey_7, ek, ex]; exact lp_in hkk (by omega)) dX9_lays_62 (fun H locs hP hD hS => ?_)
          have hP : va_P D vwCl [(m3, .inl (cI, 16384, .inl (upd gg y_8.toNatClampNeg r_11))), (m4, .inl (cZ, 4096, .inl gm)), (m5, .inl (cI, 4096, .inl ge)), (m6, .inl (cI, 4096, .inl gv)), (h0, .inr (9, [.ref m1, .ref m2, .ref m3, .int ik, .int wy, .int op, .int cl, .int cx0, .int cx1, .int cy0, .int cy1, .int ds, .ref m4, .ref m5, .ref m6, .ref m7, .ref m8, .ref m9, .int pn, .ref m10, .ref m11, .ref m12, .ref m13]))] H := hP
          have hD : va_D A [(m3, .inl (cI, 16384, .inl (upd gg y_8.toNatClampNeg r_11))), (m4, .inl (cZ, 4096, .inl gm)), (m5, .inl (cI, 4096, .inl ge)), (m6, .inl (cI, 4096, .inl gv)), (h0, .inr (9, [.ref m1, .ref m2, .ref m3, .int ik, .int wy, .int op, .int cl, .int cx0, .int cx1, .int cy0, .int cy1, .int ds, .ref m4, .ref m5, .ref m6, .ref m7, .ref m8, .ref m9, .int pn, .ref m10, .ref m11, .ref m12, .ref m13]))] := hD
          generalize eg_12 : upd gg y_8.toNatClampNeg r_11 = g_12 at hP hD
          have hP : va_P D vwCl [(m3, .inl (cI, 16384, .inl g_12)), (m4, .inl (cZ, 4096, .inl gm)), (m5, .inl (cI, 4096, .inl ge)), (m6, .inl (cI, 4096, .inl gv)), (h0, .inr (9, [.ref m1, .ref m2, .ref m3, .int ik, .int wy, .int op, .int cl, .int cx0, .int cx1, .int cy0, .int cy1, .int ds, .ref m4, .ref m5, .ref m6, .ref m7, .ref m8, .ref m9, .int pn, .ref m10, .ref m11, .ref m12, .ref m13]))] H := hP
          have hD : va_D A [(m3, .inl (cI, 16384, .inl g_12)), (m4, .inl (cZ, 4096, .inl gm)), (m5, .inl (cI, 4096, .inl ge)), (m6, .inl (cI, 4096, .inl gv)), (h0, .inr (9, [.ref m1, .ref m2, .ref m3, .int ik, .int wy, .int op, .int cl, .int cx0, .int cx1, .int cy0, .int cy1, .int ds, .ref m4, .ref m5, .ref m6, .ref m7, .ref m8, .ref m9, .int pn, .ref m10, .ref m11, .ref m12, .ref m13]))] := hD
          refine lv_iload_n hx hb dX9_lays_63 rfl (lv_at hl 1 rfl) ?_
          refine lv_iconst (v := 1) hx hb dX9_lays_64 (by decide) ?_
          refine lv_iadd hx hb dX9_lays_65 ?_
          refine lv_topi (fun y_13 ey_13 => ?_)
          refine lv_istore_n (lv' := [(2, .int y_13), (3, .int x3), (0, .ref h0), (1, .int k)]) hx hb dX9_lays_66 rfl hl (by decide) rfl (fun ls hl => ?_)
          obtain ⟨y_14, ey_14⟩ : ∃ y : Int32, y = x3 + 1 := ⟨_, rfl⟩
          refine lv_iinc (v := y_14) (lv' := [(3, .int y_14), (2, .int y_13), (0, .ref h0), (1, .int k)]) hx hb dX9_lays_67 hl (k := 1) rfl (by rw [ey_14]; rfl) (by decide) rfl (fun ls hl => ?_)
          refine lv_goto (tgt := 4) hx hb dX9_lays_70 (by decide) ?_
          exact ih_2 (i + 1) y_14 y_13 g_12 _ _ _ (by omega) (by omega) (by rw [ey_14, ex]; exact nI_1 i) (by rw [ey_13, en, cnt_up c_5]; exact nI_1 _) (by rw [← eg_12, hg]; subst_vars; rw [lp_cl hkk (by omega)]; exact lys_up c_5) (hP.sub (ws' := [(h0, .inr (9, [.ref m1, .ref m2, .ref m3, .int ik, .int wy, .int op, .int cl, .int cx0, .int cx1, .int cy0, .int cy1, .int ds, .ref m4, .ref m5, .ref m6, .ref m7, .ref m8, .ref m9, .int pn, .ref m10, .ref m11, .ref m12, .ref m13])), (m3, .inl (cI, 16384, .inl g_12)), (m4, .inl (cZ, 4096, .inl gm)), (m5, .inl (cI, 4096, .inl ge)), (m6, .inl (cI, 4096, .inl gv))]) [4, 0, 1, 2, 3] rfl) (hD.sub (ws' := [(h0, .inr (9, [.ref m1, .ref m2, .ref m3, .int ik, .int wy, .int op, .int cl, .int cx0, .int cx1, .int cy0, .int cy1, .int ds, .ref m4, .ref m5, .ref m6, .ref m7, .ref m8, .ref m9, .int pn, .ref m10, .ref m11, .ref m12, .ref m13])), (m3, .inl (cI, 16384, .inl g_12)), (m4, .inl (cZ, 4096, .inl gm)), (m5, .inl (cI, 4096, .inl ge)), (m6, .inl (cI, 4096, .inl gv))]) [4, 0, 1, 2, 3] (by decide) rfl) hS (lv_sub hl [0, 1, 2, 3] rfl)
        · skip
          have f_6 : (gm i).toInt = 0 := f_eq rfl (by decide) c_5
          refine lv_goto (tgt := 67) hx hb dX9_lays_20 (by decide) ?_
          obtain ⟨y_15, ey_15⟩ : ∃ y : Int32, y = x3 + 1 := ⟨_, rfl⟩
          refine lv_iinc (v := y_15) (lv' := [(3, .int y_15), (2, .int x2), (0, .ref h0), (1, .int k)]) hx hb dX9_lays_67 hl (k := 0) rfl (by rw [ey_15]; rfl) (by decide) rfl (fun ls hl => ?_)
          refine lv_goto (tgt := 4) hx hb dX9_lays_70 (by decide) ?_
          exact ih_2 (i + 1) y_15 x2 gg _ _ _ (by omega) (by omega) (by rw [ey_15, ex]; exact nI_1 i) (by rw [en, cnt_skip c_5]) (by rw [hg]; exact lys_skip c_5) (hP.sub (ws' := [(h0, .inr (9, [.ref m1, .ref m2, .ref m3, .int ik, .int wy, .int op, .int cl, .int cx0, .int cx1, .int cy0, .int cy1, .int ds, .ref m4, .ref m5, .ref m6, .ref m7, .ref m8, .ref m9, .int pn, .ref m10, .ref m11, .ref m12, .ref m13])), (m3, .inl (cI, 16384, .inl gg)), (m4, .inl (cZ, 4096, .inl gm)), (m5, .inl (cI, 4096, .inl ge)), (m6, .inl (cI, 4096, .inl gv))]) [0, 1, 2, 3, 4] rfl) (hD.sub (ws' := [(h0, .inr (9, [.ref m1, .ref m2, .ref m3, .int ik, .int wy, .int op, .int cl, .int cx0, .int cx1, .int cy0, .int cy1, .int ds, .ref m4, .ref m5, .ref m6, .ref m7, .ref m8, .ref m9, .int pn, .ref m10, .ref m11, .ref m12, .ref m13])), (m3, .inl (cI, 16384, .inl gg)), (m4, .inl (cZ, 4096, .inl gm)), (m5, .inl (cI, 4096, .inl ge)), (m6, .inl (cI, 4096, .inl gv))]) [0, 1, 2, 3, 4] (by decide) rfl) hS (lv_sub hl [0, 1, 2, 3] rfl)
  exact loop_1 (4096 + 1) 0 0 0 gd _ _ _ (by omega) (by omega) nI_0.symm rfl (lys_0 wy gd gm ge gv kk) hP hD hS (lv_sub hl [0, 1, 2, 3] rfl)
