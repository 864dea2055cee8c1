set_option maxHeartbeats 4000000 in
set_option maxRecDepth 100000 in
theorem k_X9_joins_e (l : Launch) (D : va_G) (sz : Nat) (h0 m1 m2 m3 m4 m5 m6 m7 m8 m9 m10 m11 m12 m13 : Nat) (ik wy op cl cx0 cx1 cy0 cy1 ds pn : Int32) (gw : Nat → Int32) (gh : Nat → Int32) (gd : Nat → Int32) (gm : Nat → Int32) (wt : Nat → Int32) (k x y co ic : Int32) (cI : ClassId) (cZ : ClassId) (hk : 0 ≤ k.toInt ∧ k.toInt ≤ 3) (hgw : 0 ≤ (gw k.toNatClampNeg).toInt ∧ (gw k.toNatClampNeg).toInt ≤ 64) (hgh : 0 ≤ (gh k.toNatClampNeg).toInt ∧ (gh k.toNatClampNeg).toInt ≤ 64) (hon : 0 ≤ x.toInt ∧ x.toInt < (gw k.toNatClampNeg).toInt ∧ 0 ≤ y.toInt ∧ y.toInt < (gh k.toNatClampNeg).toInt) (hcx : opnJ (gw k.toNatClampNeg) (gh k.toNatClampNeg) cl cx0 cx1 cy0 cy1 ic x y) : Met l yX9_joins (wB yX9_joins cX9_joins 15 none) ({ frames := 1, cells := 0, slots := 0, locals := 23 }) (cP D [(h0, .inr (9, [.ref m1, .ref m2, .ref m3, .int ik, .int wy, .int op, .int cl, .int cx0, .int cx1, .int cy0, .int cy1, .int ds, .ref m4, .ref m5, .ref m6, .ref m7, .ref m8, .ref m9, .int pn, .ref m10, .ref m11, .ref m12, .ref m13])), (m1, .inl (cI, 4, .inl gw)), (m2, .inl (cI, 4, .inl gh)), (m3, .inl (cI, 16384, .inl gd)), (m4, .inl (cZ, 4096, .inl gm)), (m13, .inl (cI, 4096, .inl wt))] [(cI, .int), (cZ, .boolean)] sz [.ref h0, .int k, .int x, .int y, .int co, .int ic]) (va_Qv (fun (_ : Unit) => True) (fun (_ : Unit) (t : State) => ∃ (g3 g6 : Nat → Int32), (∀ j : Nat, j < 4096 → g3 j = (spS (opnJ (gw k.toNatClampNeg) (gh k.toNatClampNeg) cl cx0 cx1 cy0 cy1 ic) (fun t => gd (4096 * k.toNatClampNeg + t)) x y co).1 j) ∧ (cntP g3 4096 = (spS (opnJ (gw k.toNatClampNeg) (gh k.toNatClampNeg) cl cx0 cx1 cy0 cy1 ic) (fun t => gd (4096 * k.toNatClampNeg + t)) x y co).2.2) ∧ cB D (va_A [(h0, .inr (9, [.ref m1, .ref m2, .ref m3, .int ik, .int wy, .int op, .int cl, .int cx0, .int cx1, .int cy0, .int cy1, .int ds, .ref m4, .ref m5, .ref m6, .ref m7, .ref m8, .ref m9, .int pn, .ref m10, .ref m11, .ref m12, .ref m13])), (m1, .inl (cI, 4, .inl gw)), (m2, .inl (cI, 4, .inl gh)), (m3, .inl (cI, 16384, .inl gd)), (m4, .inl (cZ, 4096, .inl gm)), (m13, .inl (cI, 4096, .inl wt))] sz) [(h0, .inr (9, [.ref m1, .ref m2, .ref m3, .int ik, .int wy, .int op, .int cl, .int cx0, .int cx1, .int cy0, .int cy1, .int ds, .ref m4, .ref m5, .ref m6, .ref m7, .ref m8, .ref m9, .int pn, .ref m10, .ref m11, .ref m12, .ref m13])), (m1, .inl (cI, 4, .inl gw)), (m2, .inl (cI, 4, .inl gh)), (m3, .inl (cI, 16384, .inl gd)), (m4, .inl (cZ, 4096, .inl g3)), (m13, .inl (cI, 4096, .inl g6))] [(cI, .int), (cZ, .boolean)] t) (va_A [(h0, .inr (9, [.ref m1, .ref m2, .ref m3, .int ik, .int wy, .int op, .int cl, .int cx0, .int cx1, .int cy0, .int cy1, .int ds, .ref m4, .ref m5, .ref m6, .ref m7, .ref m8, .ref m9, .int pn, .ref m10, .ref m11, .ref m12, .ref m13])), (m1, .inl (cI, 4, .inl gw)), (m2, .inl (cI, 4, .inl gh)), (m3, .inl (cI, 16384, .inl gd)), (m4, .inl (cZ, 4096, .inl gm)), (m13, .inl (cI, 4096, .inl wt))] sz)) 0 0 (va_A [(h0, .inr (9, [.ref m1, .ref m2, .ref m3, .int ik, .int wy, .int op, .int cl, .int cx0, .int cx1, .int cy0, .int cy1, .int ds, .ref m4, .ref m5, .ref m6, .ref m7, .ref m8, .ref m9, .int pn, .ref m10, .ref m11, .ref m12, .ref m13])), (m1, .inl (cI, 4, .inl gw)), (m2, .inl (cI, 4, .inl gh)), (m3, .inl (cI, 16384, .inl gd)), (m4, .inl (cZ, 4096, .inl gm)), (m13, .inl (cI, 4096, .inl wt))] sz) := by
  refine Met.ofW (cc := cX9_joins) (maxL := 15) (ret := none) (by decide) rfl ?_
  intro p e s m args below meth c s₁ B hml hv
  obtain ⟨rfl, hsz, hP, hK, hD0, hN⟩ := hv
  have hx := B.exec
  have hb := B.bytes
  have hr := B.returns
  have hts0 := atoms_spec (ws := (wB yX9_joins cX9_joins 15 none)) B.pre
  have hts : ∀ w ∈ bigW, w.before _ s = true := fun w h => hts0 w (List.mem_cons_of_mem _ h)
  have hown : s.vm.findClass RX9 = some m.cls := findClass_of_methodNamed B.named
  have hlocks := B.notSynchronized
  subst hsz
  have hD := hD0.self (sz := s.heap.size)
  generalize hAe : va_A [(h0, .inr (9, [.ref m1, .ref m2, .ref m3, .int ik, .int wy, .int op, .int cl, .int cx0, .int cx1, .int cy0, .int cy1, .int ds, .ref m4, .ref m5, .ref m6, .ref m7, .ref m8, .ref m9, .int pn, .ref m10, .ref m11, .ref m12, .ref m13])), (m1, .inl (cI, 4, .inl gw)), (m2, .inl (cI, 4, .inl gh)), (m3, .inl (cI, 16384, .inl gd)), (m4, .inl (cZ, 4096, .inl gm)), (m13, .inl (cI, 4096, .inl wt))] s.heap.size = A at hD ⊢
  have hA : ∀ q : Nat, s.heap.size ≤ q → A q := fun q h => by rw [← hAe]; exact Or.inr h
  have hS : va_S A s.heap s.heap [] := va_S.rf
  have hP : va_P D vwCl [(h0, .inr (9, [.ref m1, .ref m2, .ref m3, .int ik, .int wy, .int op, .int cl, .int cx0, .int cx1, .int cy0, .int cy1, .int ds, .ref m4, .ref m5, .ref m6, .ref m7, .ref m8, .ref m9, .int pn, .ref m10, .ref m11, .ref m12, .ref m13])), (m1, .inl (cI, 4, .inl gw)), (m2, .inl (cI, 4, .inl gh)), (m3, .inl (cI, 16384, .inl gd)), (m4, .inl (cZ, 4096, .inl gm)), (m13, .inl (cI, 4096, .inl wt))] s.heap := hP
  have hl := lv_entry ([.ref h0, .int k, .int x, .int y, .int co, .int ic]) (n := 15) (Nat.le_of_ble_eq_true rfl)
  rw [lg_entry_eq]
  generalize (lg_sl ([.ref h0, .int k, .int x, .int y, .int co, .int ic]) ++ List.replicate (15 - (lg_sl ([.ref h0, .int k, .int x, .int y, .int co, .int ic])).length) Slot.unset).toArray = ls at hl ⊢
  have hl : lv_has ls 15 [(0, .ref h0), (1, .int k), (2, .int x), (3, .int y), (4, .int co), (5, .int ic)] := hl
  clear hts0 hD0 hAe
  refine my_abs (fun R Q hR hQ => ?_)
  obtain ⟨kk, hkk, ek⟩ := i_of (x := k) (N := 4) (by omega) (by omega) (by decide)
  have ekn : k.toNatClampNeg = kk := by rw [ek]; exact nI_clamp (by omega)
  refine lv_aload_n hx hb dX9_joins_0 rfl (lv_at hl 0 rfl) ?_
  have hPc := hP.sub (ws' := [(h0, .inr (9, [.ref m1, .ref m2, .ref m3, .int ik, .int wy, .int op, .int cl, .int cx0, .int cx1, .int cy0, .int cy1, .int ds, .ref m4, .ref m5, .ref m6, .ref m7, .ref m8, .ref m9, .int pn, .ref m10, .ref m11, .ref m12, .ref m13])), (m4, .inl (cZ, 4096, .inl gm))]) [0, 4] rfl
  have hDc := hD.sub (ws' := [(h0, .inr (9, [.ref m1, .ref m2, .ref m3, .int ik, .int wy, .int op, .int cl, .int cx0, .int cx1, .int cy0, .int cy1, .int ds, .ref m4, .ref m5, .ref m6, .ref m7, .ref m8, .ref m9, .int pn, .ref m10, .ref m11, .ref m12, .ref m13])), (m4, .inl (cZ, 4096, .inl gm))]) [0, 4] (by decide) rfl
  have hKc := hK.sub (tys' := [(cZ, .boolean)]) [1] rfl
  have hFc := va_free (wc := [(h0, .inr (9, [.ref m1, .ref m2, .ref m3, .int ik, .int wy, .int op, .int cl, .int cx0, .int cx1, .int cy0, .int cy1, .int ds, .ref m4, .ref m5, .ref m6, .ref m7, .ref m8, .ref m9, .int pn, .ref m10, .ref m11, .ref m12, .ref m13])), (m4, .inl (cZ, 4096, .inl gm))]) hD hS hA [0, 4] rfl
  refine va_callv (va_runV (As := []) (rest := []) ⟨hx, hb, hml, hown, hts⟩ (k_X9_begins l D s.heap.size h0 m1 m2 m3 m4 m5 m6 m7 m8 m9 m10 m11 m12 m13 ik wy op cl cx0 cx1 cy0 cy1 ds pn gm cZ) (cwV 0 hts (gV bw_493 bw_455 bw_456 bw_391 bw_454) rfl rfl rfl (by decide +kernel) ⟨(by rw [hR]; exact Nat.le_of_ble_eq_true rfl), (by rw [hR]; exact Nat.le_of_ble_eq_true rfl)⟩) ⟨cP_blind, va_recv hKc hPc (ci := 9) (q0 := 0) rfl rfl, cP_at hPc hKc hDc hN⟩ rfl rfl hl.1 rfl (lv_room (Nat.le_of_ble_eq_true rfl)) dX9_joins_1 ⟨(by rw [hR]; exact Nat.le_of_ble_eq_true rfl), (by rw [hR]; exact Nat.le_of_ble_eq_true rfl)⟩) hS (fun q _ h => hFc q h) hFc (fun u9 t9 H1 locs ht hvm hr_1 hB hz1 hk1 hS => ?_)
  try dsimp only at hr_1
  obtain ⟨hP1, hK1, hD1⟩ := hB
  rw [ht] at hP1
  obtain ⟨hP, hD⟩ := va_join (wr := [(m1, .inl (cI, 4, .inl gw)), (m2, .inl (cI, 4, .inl gh)), (m3, .inl (cI, 16384, .inl gd)), (m13, .inl (cI, 4096, .inl wt))]) (w1 := [(h0, .inr (9, [.ref m1, .ref m2, .ref m3, .int ik, .int wy, .int op, .int cl, .int cx0, .int cx1, .int cy0, .int cy1, .int ds, .ref m4, .ref m5, .ref m6, .ref m7, .ref m8, .ref m9, .int pn, .ref m10, .ref m11, .ref m12, .ref m13])), (m4, .inl (cZ, 4096, .inl (zrN gm 4096)))]) hP hD [0, 4] [1, 2, 3, 5] rfl rfl (by decide) (by decide) hk1 hFc hP1 hD1
  clear hz1 hk1 hFc hKc hDc hPc
  generalize H1 = H at hP hS ⊢
  have hP : va_P D vwCl [(m1, .inl (cI, 4, .inl gw)), (m2, .inl (cI, 4, .inl gh)), (m3, .inl (cI, 16384, .inl gd)), (m13, .inl (cI, 4096, .inl wt)), (h0, .inr (9, [.ref m1, .ref m2, .ref m3, .int ik, .int wy, .int op, .int cl, .int cx0, .int cx1, .int cy0, .int cy1, .int ds, .ref m4, .ref m5, .ref m6, .ref m7, .ref m8, .ref m9, .int pn, .ref m10, .ref m11, .ref m12, .ref m13])), (m4, .inl (cZ, 4096, .inl (zrN gm 4096)))] H := hP
  have hD : va_D A [(m1, .inl (cI, 4, .inl gw)), (m2, .inl (cI, 4, .inl gh)), (m3, .inl (cI, 16384, .inl gd)), (m13, .inl (cI, 4096, .inl wt)), (h0, .inr (9, [.ref m1, .ref m2, .ref m3, .int ik, .int wy, .int op, .int cl, .int cx0, .int cx1, .int cy0, .int cy1, .int ds, .ref m4, .ref m5, .ref m6, .ref m7, .ref m8, .ref m9, .int pn, .ref m10, .ref m11, .ref m12, .ref m13])), (m4, .inl (cZ, 4096, .inl (zrN gm 4096)))] := hD
  refine lv_aload_n hx hb dX9_joins_4 rfl (lv_at hl 0 rfl) ?_
  refine va_get (D := D) (ci := 9) (v := .ref m3) (C := RX9) (T := TX9) (N := 23) hx hb hts hi_X9 hown hK hP 4 rfl rfl 2 (by decide) (hts _ bw_398) (fun _ h9 => h9) rfl dX9_joins_5 ?_
  refine lv_iload_n hx hb dX9_joins_8 rfl (lv_at hl 1 rfl) ?_
  refine lv_iload_n hx hb dX9_joins_9 rfl (lv_at hl 2 rfl) ?_
  refine lv_iload_n hx hb dX9_joins_10 rfl (lv_at hl 3 rfl) ?_
  have hPc := hP.sub (ws' := []) [] rfl
  have hDc := hD.sub (ws' := []) [] (by decide) rfl
  have hKc := hK.sub (tys' := []) [] rfl
  have hFc := va_free (wc := []) hD hS hA [] rfl
  refine va_calli (va_runS (As := [.int k, .int x, .int y]) (rest := [.ref m3]) ⟨hx, hb, hml, hown, hts⟩ (k_X9_spot l D H.size k x y) (va_cwS 3 hts (gS bw_551 bw_421 bw_391 bw_420) rfl rfl rfl (by decide +kernel) ⟨(by rw [hR]; exact Nat.le_of_ble_eq_true rfl), (by rw [hR]; exact Nat.le_of_ble_eq_true rfl)⟩) ⟨cP_blind, cP_at hPc hKc hDc hN⟩ rfl rfl hl.1 rfl (lv_room (Nat.le_of_ble_eq_true rfl)) dX9_joins_11 ⟨(by rw [hR]; exact Nat.le_of_ble_eq_true rfl), (by rw [hR]; exact Nat.le_of_ble_eq_true rfl)⟩) hS (fun q _ h => hFc q h) hFc (fun r_2 u9 t9 H1 locs ht hvm hr_2 hB hz1 hk1 hS => ?_)
  try dsimp only at hr_2
  have hP1 : va_P D vwCl [] H1 := vP_nil
  have hD1 : va_D (va_A [] H.size) [] := vD_nil
  obtain ⟨hP, hD⟩ := va_join (wr := [(m1, .inl (cI, 4, .inl gw)), (m2, .inl (cI, 4, .inl gh)), (m3, .inl (cI, 16384, .inl gd)), (m13, .inl (cI, 4096, .inl wt)), (h0, .inr (9, [.ref m1, .ref m2, .ref m3, .int ik, .int wy, .int op, .int cl, .int cx0, .int cx1, .int cy0, .int cy1, .int ds, .ref m4, .ref m5, .ref m6, .ref m7, .ref m8, .ref m9, .int pn, .ref m10, .ref m11, .ref m12, .ref m13])), (m4, .inl (cZ, 4096, .inl (zrN gm 4096)))]) (w1 := []) hP hD [] [0, 1, 2, 3, 4, 5] rfl rfl (by decide) (by decide) hk1 hFc hP1 hD1
  clear hz1 hk1 hFc hKc hDc hPc
  generalize H1 = H at hP hS ⊢
  have hP : va_P D vwCl [(m1, .inl (cI, 4, .inl gw)), (m2, .inl (cI, 4, .inl gh)), (m3, .inl (cI, 16384, .inl gd)), (m13, .inl (cI, 4096, .inl wt)), (h0, .inr (9, [.ref m1, .ref m2, .ref m3, .int ik, .int wy, .int op, .int cl, .int cx0, .int cx1, .int cy0, .int cy1, .int ds, .ref m4, .ref m5, .ref m6, .ref m7, .ref m8, .ref m9, .int pn, .ref m10, .ref m11, .ref m12, .ref m13])), (m4, .inl (cZ, 4096, .inl (zrN gm 4096)))] H := hP
  have hD : va_D A [(m1, .inl (cI, 4, .inl gw)), (m2, .inl (cI, 4, .inl gh)), (m3, .inl (cI, 16384, .inl gd)), (m13, .inl (cI, 4096, .inl wt)), (h0, .inr (9, [.ref m1, .ref m2, .ref m3, .int ik, .int wy, .int op, .int cl, .int cx0, .int cx1, .int cy0, .int cy1, .int ds, .ref m4, .ref m5, .ref m6, .ref m7, .ref m8, .ref m9, .int pn, .ref m10, .ref m11, .ref m12, .ref m13])), (m4, .inl (cZ, 4096, .inl (zrN gm 4096)))] := hD
  refine va_iald hx hb hK hP 2 0 rfl rfl (by rw [hr_2]; exact sp_in (by omega) (by omega) (by omega) (by omega) (by omega) (by omega)) dX9_joins_14 ?_
  refine my_fold (v := (gd (4096 * k.toNatClampNeg + ixP x y))) (congrArg gd (by rw [hr_2]; exact sp_cl (by omega) (by omega) (by omega) (by omega) (by omega) (by omega))) ?_
  refine lv_istore (lv' := [(6, .int (gd (4096 * k.toNatClampNeg + ixP x y))), (0, .ref h0), (1, .int k), (2, .int x), (3, .int y), (4, .int co), (5, .int ic)]) hx hb dX9_joins_15 hl (by decide) rfl (fun ls hl => ?_)
  refine lv_iconst (v := 1) hx hb dX9_joins_17 (by decide) ?_
  refine lv_istore (lv' := [(7, .int 1), (6, .int (gd (4096 * k.toNatClampNeg + ixP x y))), (0, .ref h0), (1, .int k), (2, .int x), (3, .int y), (4, .int co), (5, .int ic)]) hx hb dX9_joins_18 hl (by decide) rfl (fun ls hl => ?_)
  refine lv_iconst (v := 0) hx hb dX9_joins_20 (by decide) ?_
  refine lv_istore (lv' := [(8, .int 0), (7, .int 1), (6, .int (gd (4096 * k.toNatClampNeg + ixP x y))), (0, .ref h0), (1, .int k), (2, .int x), (3, .int y), (4, .int co), (5, .int ic)]) hx hb dX9_joins_21 hl (by decide) rfl (fun ls hl => ?_)
  refine lv_aload_n hx hb dX9_joins_23 rfl (lv_at hl 3 rfl) ?_
  refine va_get (D := D) (ci := 9) (v := .ref m13) (C := RX9) (T := TX9) (N := 23) hx hb hts hi_X9 hown hK hP 4 rfl rfl 22 (by decide) (hts _ bw_413) (fun _ h9 => h9) rfl dX9_joins_24 ?_
  refine lv_iconst (v := 0) hx hb dX9_joins_27 (by decide) ?_
  refine lv_bipush (v := 64) hx hb dX9_joins_28 (by decide) ?_
  refine lv_iload_n hx hb dX9_joins_30 rfl (lv_at hl 6 rfl) ?_
  refine lv_imul hx hb dX9_joins_31 ?_
  refine lv_topi (fun y_3 ey_3 => ?_)
  refine lv_iload_n hx hb dX9_joins_32 rfl (lv_at hl 5 rfl) ?_
  refine lv_iadd hx hb dX9_joins_33 ?_
  refine lv_topi (fun y_4 ey_4 => ?_)
  refine va_iast hx hb hK hP hD hS 3 0 rfl rfl (my_in (by decide) (by decide)) dX9_joins_34 (fun H locs hP hD hS => ?_)
  have hP : va_P D vwCl [(m1, .inl (cI, 4, .inl gw)), (m2, .inl (cI, 4, .inl gh)), (m3, .inl (cI, 16384, .inl gd)), (m13, .inl (cI, 4096, .inl (upd wt (0 : Int32).toNatClampNeg y_4))), (h0, .inr (9, [.ref m1, .ref m2, .ref m3, .int ik, .int wy, .int op, .int cl, .int cx0, .int cx1, .int cy0, .int cy1, .int ds, .ref m4, .ref m5, .ref m6, .ref m7, .ref m8, .ref m9, .int pn, .ref m10, .ref m11, .ref m12, .ref m13])), (m4, .inl (cZ, 4096, .inl (zrN gm 4096)))] H := hP
  have hD : va_D A [(m1, .inl (cI, 4, .inl gw)), (m2, .inl (cI, 4, .inl gh)), (m3, .inl (cI, 16384, .inl gd)), (m13, .inl (cI, 4096, .inl (upd wt (0 : Int32).toNatClampNeg y_4))), (h0, .inr (9, [.ref m1, .ref m2, .ref m3, .int ik, .int wy, .int op, .int cl, .int cx0, .int cx1, .int cy0, .int cy1, .int ds, .ref m4, .ref m5, .ref m6, .ref m7, .ref m8, .ref m9, .int pn, .ref m10, .ref m11, .ref m12, .ref m13])), (m4, .inl (cZ, 4096, .inl (zrN gm 4096)))] := hD
  generalize eg_5 : upd wt (0 : Int32).toNatClampNeg y_4 = g_5 at hP hD
  have hP : va_P D vwCl [(m1, .inl (cI, 4, .inl gw)), (m2, .inl (cI, 4, .inl gh)), (m3, .inl (cI, 16384, .inl gd)), (m13, .inl (cI, 4096, .inl g_5)), (h0, .inr (9, [.ref m1, .ref m2, .ref m3, .int ik, .int wy, .int op, .int cl, .int cx0, .int cx1, .int cy0, .int cy1, .int ds, .ref m4, .ref m5, .ref m6, .ref m7, .ref m8, .ref m9, .int pn, .ref m10, .ref m11, .ref m12, .ref m13])), (m4, .inl (cZ, 4096, .inl (zrN gm 4096)))] H := hP
  have hD : va_D A [(m1, .inl (cI, 4, .inl gw)), (m2, .inl (cI, 4, .inl gh)), (m3, .inl (cI, 16384, .inl gd)), (m13, .inl (cI, 4096, .inl g_5)), (h0, .inr (9, [.ref m1, .ref m2, .ref m3, .int ik, .int wy, .int op, .int cl, .int cx0, .int cx1, .int cy0, .int cy1, .int ds, .ref m4, .ref m5, .ref m6, .ref m7, .ref m8, .ref m9, .int pn, .ref m10, .ref m11, .ref m12, .ref m13])), (m4, .inl (cZ, 4096, .inl (zrN gm 4096)))] := hD
  refine lv_aload_n hx hb dX9_joins_35 rfl (lv_at hl 3 rfl) ?_
  refine va_get (D := D) (ci := 9) (v := .ref m4) (C := RX9) (T := TX9) (N := 23) hx hb hts hi_X9 hown hK hP 4 rfl rfl 12 (by decide) (hts _ bw_404) (fun _ h9 => h9) rfl dX9_joins_36 ?_
  refine lv_aload_n hx hb dX9_joins_39 rfl (lv_at hl 3 rfl) ?_
  refine va_get (D := D) (ci := 9) (v := .ref m13) (C := RX9) (T := TX9) (N := 23) hx hb hts hi_X9 hown hK hP 4 rfl rfl 22 (by decide) (hts _ bw_413) (fun _ h9 => h9) rfl dX9_joins_40 ?_
  refine lv_iconst (v := 0) hx hb dX9_joins_43 (by decide) ?_
  refine va_iald hx hb hK hP 3 0 rfl rfl (my_in (by decide) (by decide)) dX9_joins_44 ?_
  refine my_fold (v := y_4) (by rw [← eg_5]; exact pk_us) ?_
  refine lv_iconst (v := 1) hx hb dX9_joins_45 (by decide) ?_
  refine va_zast hx hb hK hP hD hS 5 1 rfl rfl (by rw [ey_4, ey_3]; exact ix_in2 (by omega) (by omega) (by omega) (by omega)) dX9_joins_46 (fun H locs hP hD hS => ?_)
  have hP : va_P D vwCl [(m1, .inl (cI, 4, .inl gw)), (m2, .inl (cI, 4, .inl gh)), (m3, .inl (cI, 16384, .inl gd)), (m13, .inl (cI, 4096, .inl g_5)), (h0, .inr (9, [.ref m1, .ref m2, .ref m3, .int ik, .int wy, .int op, .int cl, .int cx0, .int cx1, .int cy0, .int cy1, .int ds, .ref m4, .ref m5, .ref m6, .ref m7, .ref m8, .ref m9, .int pn, .ref m10, .ref m11, .ref m12, .ref m13])), (m4, .inl (cZ, 4096, .inl (upd (zrN gm 4096) y_4.toNatClampNeg (vp_nar .boolean 1))))] H := hP
  have hD : va_D A [(m1, .inl (cI, 4, .inl gw)), (m2, .inl (cI, 4, .inl gh)), (m3, .inl (cI, 16384, .inl gd)), (m13, .inl (cI, 4096, .inl g_5)), (h0, .inr (9, [.ref m1, .ref m2, .ref m3, .int ik, .int wy, .int op, .int cl, .int cx0, .int cx1, .int cy0, .int cy1, .int ds, .ref m4, .ref m5, .ref m6, .ref m7, .ref m8, .ref m9, .int pn, .ref m10, .ref m11, .ref m12, .ref m13])), (m4, .inl (cZ, 4096, .inl (upd (zrN gm 4096) y_4.toNatClampNeg (vp_nar .boolean 1))))] := hD
  generalize eg_6 : upd (zrN gm 4096) y_4.toNatClampNeg (vp_nar .boolean 1) = g_6 at hP hD
  have hP : va_P D vwCl [(m1, .inl (cI, 4, .inl gw)), (m2, .inl (cI, 4, .inl gh)), (m3, .inl (cI, 16384, .inl gd)), (m13, .inl (cI, 4096, .inl g_5)), (h0, .inr (9, [.ref m1, .ref m2, .ref m3, .int ik, .int wy, .int op, .int cl, .int cx0, .int cx1, .int cy0, .int cy1, .int ds, .ref m4, .ref m5, .ref m6, .ref m7, .ref m8, .ref m9, .int pn, .ref m10, .ref m11, .ref m12, .ref m13])), (m4, .inl (cZ, 4096, .inl g_6))] H := hP
  have hD : va_D A [(m1, .inl (cI, 4, .inl gw)), (m2, .inl (cI, 4, .inl gh)), (m3, .inl (cI, 16384, .inl gd)), (m13, .inl (cI, 4096, .inl g_5)), (h0, .inr (9, [.ref m1, .ref m2, .ref m3, .int ik, .int wy, .int op, .int cl, .int cx0, .int cx1, .int cy0, .int cy1, .int ds, .ref m4, .ref m5, .ref m6, .ref m7, .ref m8, .ref m9, .int pn, .ref m10, .ref m11, .ref m12, .ref m13])), (m4, .inl (cZ, 4096, .inl g_6))] := hD
  have hy0 : y_4 = nI (ixP x y) := by rw [ey_4, ey_3]; exact ix_nI2 (by omega) (by omega) (by omega) (by omega)
  have hyc : y_4.toNatClampNeg = ixP x y := by rw [hy0]; exact nI_clamp (by have := ix_lt (x := x) (y := y) (by omega) (by omega) (by omega) (by omega); omega)
  have hixl : ixP x y < 4096 := ix_lt (by omega) (by omega) (by omega) (by omega)
  obtain ⟨st1, est1⟩ : ∃ q : S3, q = (upd (zrN gm 4096) (ixP x y) 1, upd wt 0 (nI (ixP x y)), 1) := ⟨_, rfl⟩
  have hg4 : g_6 = st1.1 := by rw [est1, ← eg_6, hyc]; rfl
  have hg13 : g_5 = st1.2.1 := by rw [est1, ← eg_5, hy0]; rfl
  have hs1 : st1.2.2 = 1 := by rw [est1]
  have hc0 : cntP st1.1 4096 = 1 := by rw [est1]; show cntP (upd (zrN gm 4096) (ixP x y) 1) 4096 = 1; rw [cnt_up1 hixl (zr_at hixl), cnt_zr]
  have loop_7 : ∀ (n : Nat) (dn : Nat) (x7 : Int32) (x8 : Int32) (gq : Nat → Int32) (gt : Nat → Int32) (H : Heap) (locs : List Loc) (ls : Array Slot), (4098 ≤ dn + n) → (dn ≤ (rcO (opnJ (gw k.toNatClampNeg) (gh k.toNatClampNeg) cl cx0 cx1 cy0 cy1 ic) (fun t => gd (4096 * k.toNatClampNeg + t)) (gd (4096 * k.toNatClampNeg + ixP x y)) co st1 dn).2.2) → (x7 = nI (rcO (opnJ (gw k.toNatClampNeg) (gh k.toNatClampNeg) cl cx0 cx1 cy0 cy1 ic) (fun t => gd (4096 * k.toNatClampNeg + t)) (gd (4096 * k.toNatClampNeg + ixP x y)) co st1 dn).2.2) → (x8 = nI dn) → (gq = (rcO (opnJ (gw k.toNatClampNeg) (gh k.toNatClampNeg) cl cx0 cx1 cy0 cy1 ic) (fun t => gd (4096 * k.toNatClampNeg + t)) (gd (4096 * k.toNatClampNeg + ixP x y)) co st1 dn).1) → (gt = (rcO (opnJ (gw k.toNatClampNeg) (gh k.toNatClampNeg) cl cx0 cx1 cy0 cy1 ic) (fun t => gd (4096 * k.toNatClampNeg + t)) (gd (4096 * k.toNatClampNeg + ixP x y)) co st1 dn).2.1) → (cntP (rcO (opnJ (gw k.toNatClampNeg) (gh k.toNatClampNeg) cl cx0 cx1 cy0 cy1 ic) (fun t => gd (4096 * k.toNatClampNeg + t)) (gd (4096 * k.toNatClampNeg + ixP x y)) co st1 dn).1 4096 = (rcO (opnJ (gw k.toNatClampNeg) (gh k.toNatClampNeg) cl cx0 cx1 cy0 cy1 ic) (fun t => gd (4096 * k.toNatClampNeg + t)) (gd (4096 * k.toNatClampNeg + ixP x y)) co st1 dn).2.2) → (∀ i' : Nat, i' < dn → i' < (rcO (opnJ (gw k.toNatClampNeg) (gh k.toNatClampNeg) cl cx0 cx1 cy0 cy1 ic) (fun t => gd (4096 * k.toNatClampNeg + t)) (gd (4096 * k.toNatClampNeg + ixP x y)) co st1 i').2.2) → va_P D vwCl [(m1, .inl (cI, 4, .inl gw)), (m2, .inl (cI, 4, .inl gh)), (m3, .inl (cI, 16384, .inl gd)), (m13, .inl (cI, 4096, .inl gt)), (h0, .inr (9, [.ref m1, .ref m2, .ref m3, .int ik, .int wy, .int op, .int cl, .int cx0, .int cx1, .int cy0, .int cy1, .int ds, .ref m4, .ref m5, .ref m6, .ref m7, .ref m8, .ref m9, .int pn, .ref m10, .ref m11, .ref m12, .ref m13])), (m4, .inl (cZ, 4096, .inl gq))] H → va_D A [(m1, .inl (cI, 4, .inl gw)), (m2, .inl (cI, 4, .inl gh)), (m3, .inl (cI, 16384, .inl gd)), (m13, .inl (cI, 4096, .inl gt)), (h0, .inr (9, [.ref m1, .ref m2, .ref m3, .int ik, .int wy, .int op, .int cl, .int cx0, .int cx1, .int cy0, .int cy1, .int ds, .ref m4, .ref m5, .ref m6, .ref m7, .ref m8, .ref m9, .int pn, .ref m10, .ref m11, .ref m12, .ref m13])), (m4, .inl (cZ, 4096, .inl gq))] → va_S A s.heap H locs → lv_has ls 15 [(8, .int x8), (7, .int x7), (6, .int (gd (4096 * k.toNatClampNeg + ixP x y))), (0, .ref h0), (1, .int k), (2, .int x), (3, .int y), (4, .int co), (5, .int ic)] → W p l e R s m ([.ref h0, .int k, .int x, .int y, .int co, .int ic] : List Value).toArray below meth c H locs 0 0 Q (F0 m 47 ls []) := by
    intro n
    induction n with
    | zero =>
      intro dn x7 x8 gq gt H locs ls hm hd e7 e8 q3 q2 hcn hall hP hD hS hl
      exact absurd (show False by have := cntP_le (rcO (opnJ (gw k.toNatClampNeg) (gh k.toNatClampNeg) cl cx0 cx1 cy0 cy1 ic) (fun t => gd (4096 * k.toNatClampNeg + t)) (gd (4096 * k.toNatClampNeg + ixP x y)) co st1 dn).1 4096; omega) not_false
    | succ n ih_8 =>
      intro dn x7 x8 gq gt H locs ls hm hd e7 e8 q3 q2 hcn hall hP hD hS hl
      have hmy : (rcO (opnJ (gw k.toNatClampNeg) (gh k.toNatClampNeg) cl cx0 cx1 cy0 cy1 ic) (fun t => gd (4096 * k.toNatClampNeg + t)) (gd (4096 * k.toNatClampNeg + ixP x y)) co st1 dn).2.2 ≤ 4096 := by rw [← hcn]; exact cntP_le _ 4096
      have hx8 : x8.toInt = (dn : Int) := by rw [e8]; exact nI_toInt (by omega)
      have hc_dn : x8.toNatClampNeg = dn := by rw [e8]; exact nI_clamp (by omega)
      have hx7 : x7.toInt = (((rcO (opnJ (gw k.toNatClampNeg) (gh k.toNatClampNeg) cl cx0 cx1 cy0 cy1 ic) (fun t => gd (4096 * k.toNatClampNeg + t)) (gd (4096 * k.toNatClampNeg + ixP x y)) co st1 dn).2.2 : Nat) : Int) := by rw [e7]; exact nI_toInt (by omega)
      refine lv_iload hx hb dX9_joins_47 (lv_at hl 0 rfl) ?_
      refine lv_iload hx hb dX9_joins_49 (lv_at hl 1 rfl) ?_
      refine lv_icmp_ge (tgt := 247) hx hb dX9_joins_51 (by decide) (fun c_9 => ?_) (fun c_9 => ?_)
      · skip
        have f_10 : (((rcO (opnJ (gw k.toNatClampNeg) (gh k.toNatClampNeg) cl cx0 cx1 cy0 cy1 ic) (fun t => gd (4096 * k.toNatClampNeg + t)) (gd (4096 * k.toNatClampNeg + ixP x y)) co st1 dn).2.2 : Nat) : Int) ≤ (dn : Int) := f_le hx7 hx8 c_9
        have hEQ : eqS (rcO (opnJ (gw k.toNatClampNeg) (gh k.toNatClampNeg) cl cx0 cx1 cy0 cy1 ic) (fun t => gd (4096 * k.toNatClampNeg + t)) (gd (4096 * k.toNatClampNeg + ixP x y)) co st1 dn) (spS (opnJ (gw k.toNatClampNeg) (gh k.toNatClampNeg) cl cx0 cx1 cy0 cy1 ic) (fun t => gd (4096 * k.toNatClampNeg + t)) x y co) := (sp_end (C := (opnJ (gw k.toNatClampNeg) (gh k.toNatClampNeg) cl cx0 cx1 cy0 cy1 ic)) (C' := (opnJ (gw k.toNatClampNeg) (gh k.toNatClampNeg) cl cx0 cx1 cy0 cy1 ic)) (g := (fun t => gd (4096 * k.toNatClampNeg + t))) (g' := (fun t => gd (4096 * k.toNatClampNeg + t))) (fun _ _ => Iff.rfl) (fun _ _ q => opnJ_lt (by omega) (by omega) q) (fun _ _ => rfl) (a := st1) (b := rcS (opnJ (gw k.toNatClampNeg) (gh k.toNatClampNeg) cl cx0 cx1 cy0 cy1 ic) (fun t => gd (4096 * k.toNatClampNeg + t)) (gd (4096 * k.toNatClampNeg + ixP x y)) x y z3) (by rw [est1]; exact j_start (g := (fun t => gd (4096 * k.toNatClampNeg + t))) hcx) (by omega) hall (by omega))
        have hP9 := hP.sub (ws' := [(h0, .inr (9, [.ref m1, .ref m2, .ref m3, .int ik, .int wy, .int op, .int cl, .int cx0, .int cx1, .int cy0, .int cy1, .int ds, .ref m4, .ref m5, .ref m6, .ref m7, .ref m8, .ref m9, .int pn, .ref m10, .ref m11, .ref m12, .ref m13])), (m1, .inl (cI, 4, .inl gw)), (m2, .inl (cI, 4, .inl gh)), (m3, .inl (cI, 16384, .inl gd)), (m4, .inl (cZ, 4096, .inl gq)), (m13, .inl (cI, 4096, .inl gt))]) [4, 0, 1, 2, 5, 3] rfl
        have hD9 := hD.sub (ws' := [(h0, .inr (9, [.ref m1, .ref m2, .ref m3, .int ik, .int wy, .int op, .int cl, .int cx0, .int cx1, .int cy0, .int cy1, .int ds, .ref m4, .ref m5, .ref m6, .ref m7, .ref m8, .ref m9, .int pn, .ref m10, .ref m11, .ref m12, .ref m13])), (m1, .inl (cI, 4, .inl gw)), (m2, .inl (cI, 4, .inl gh)), (m3, .inl (cI, 16384, .inl gd)), (m4, .inl (cZ, 4096, .inl gq)), (m13, .inl (cI, 4096, .inl gt))]) [4, 0, 1, 2, 5, 3] (by decide) rfl
        have hK9 := hK.sub (tys' := [(cI, .int), (cZ, .boolean)]) [0, 1] rfl
        refine hQ _ _ _ _ _ ?_
        exact W.vret hx hb hr (fun t ht hW => ⟨⟨(), rfl, trivial, ⟨gq, gt, (fun j hj => by rw [q3]; exact hEQ.1 j hj), (by rw [q3, hcn]; exact hEQ.2.1), by rw [ht]; exact hP9, va_K.moved hW.alike hK9, hD9⟩⟩, hS.F ht⟩) hS.2.2 dX9_joins_247
      · skip
        have f_10 : ¬ ((((rcO (opnJ (gw k.toNatClampNeg) (gh k.toNatClampNeg) cl cx0 cx1 cy0 cy1 ic) (fun t => gd (4096 * k.toNatClampNeg + t)) (gd (4096 * k.toNatClampNeg + ixP x y)) co st1 dn).2.2 : Nat) : Int) ≤ (dn : Int)) := fn_le hx7 hx8 c_9
        refine lv_aload_n hx hb dX9_joins_54 rfl (lv_at hl 3 rfl) ?_
        refine va_get (D := D) (ci := 9) (v := .ref m13) (C := RX9) (T := TX9) (N := 23) hx hb hts hi_X9 hown hK hP 4 rfl rfl 22 (by decide) (hts _ bw_413) (fun _ h9 => h9) rfl dX9_joins_55 ?_
        refine lv_iload hx hb dX9_joins_58 (lv_at hl 0 rfl) ?_
        refine va_iald hx hb hK hP 3 0 rfl rfl (vp_in_iff.mpr ⟨by omega, by omega⟩) dX9_joins_60 ?_
        refine my_fold (v := (rcO (opnJ (gw k.toNatClampNeg) (gh k.toNatClampNeg) cl cx0 cx1 cy0 cy1 ic) (fun t => gd (4096 * k.toNatClampNeg + t)) (gd (4096 * k.toNatClampNeg + ixP x y)) co st1 dn).2.1 dn) (by rw [hc_dn, q2]) ?_
        refine lv_bipush (v := 64) hx hb dX9_joins_61 (by decide) ?_
        refine lv_irem hx hb dX9_joins_63 (by decide) ?_
        refine lv_topi (fun y_11 ey_11 => ?_)
        have hp9 : y_11 = pX ((rcO (opnJ (gw k.toNatClampNeg) (gh k.toNatClampNeg) cl cx0 cx1 cy0 cy1 ic) (fun t => gd (4096 * k.toNatClampNeg + t)) (gd (4096 * k.toNatClampNeg + ixP x y)) co st1 dn).2.1 dn) := ey_11
        refine lv_istore (lv' := [(9, .int y_11), (8, .int x8), (7, .int x7), (6, .int (gd (4096 * k.toNatClampNeg + ixP x y))), (0, .ref h0), (1, .int k), (2, .int x), (3, .int y), (4, .int co), (5, .int ic)]) hx hb dX9_joins_64 hl (by decide) rfl (fun ls hl => ?_)
        refine lv_aload_n hx hb dX9_joins_66 rfl (lv_at hl 4 rfl) ?_
        refine va_get (D := D) (ci := 9) (v := .ref m13) (C := RX9) (T := TX9) (N := 23) hx hb hts hi_X9 hown hK hP 4 rfl rfl 22 (by decide) (hts _ bw_413) (fun _ h9 => h9) rfl dX9_joins_67 ?_
        refine lv_iload hx hb dX9_joins_70 (lv_at hl 1 rfl) ?_
        refine va_iald hx hb hK hP 3 0 rfl rfl (vp_in_iff.mpr ⟨by omega, by omega⟩) dX9_joins_72 ?_
        refine my_fold (v := (rcO (opnJ (gw k.toNatClampNeg) (gh k.toNatClampNeg) cl cx0 cx1 cy0 cy1 ic) (fun t => gd (4096 * k.toNatClampNeg + t)) (gd (4096 * k.toNatClampNeg + ixP x y)) co st1 dn).2.1 dn) (by rw [hc_dn, q2]) ?_
        refine lv_bipush (v := 64) hx hb dX9_joins_73 (by decide) ?_
        refine lv_idiv hx hb dX9_joins_75 (by decide) ?_
        refine lv_topi (fun y_12 ey_12 => ?_)
        have hp10 : y_12 = pY ((rcO (opnJ (gw k.toNatClampNeg) (gh k.toNatClampNeg) cl cx0 cx1 cy0 cy1 ic) (fun t => gd (4096 * k.toNatClampNeg + t)) (gd (4096 * k.toNatClampNeg + ixP x y)) co st1 dn).2.1 dn) := ey_12
        refine lv_istore (lv' := [(10, .int y_12), (9, .int y_11), (8, .int x8), (7, .int x7), (6, .int (gd (4096 * k.toNatClampNeg + ixP x y))), (0, .ref h0), (1, .int k), (2, .int x), (3, .int y), (4, .int co), (5, .int ic)]) hx hb dX9_joins_76 hl (by decide) rfl (fun ls hl => ?_)
        refine lv_iload hx hb dX9_joins_78 (lv_at hl 2 rfl) ?_
        refine lv_iconst (v := 1) hx hb dX9_joins_80 (by decide) ?_
        refine lv_iadd hx hb dX9_joins_81 ?_
        refine lv_topi (fun y_13 ey_13 => ?_)
        refine lv_istore (lv' := [(8, .int y_13), (10, .int y_12), (9, .int y_11), (7, .int x7), (6, .int (gd (4096 * k.toNatClampNeg + ixP x y))), (0, .ref h0), (1, .int k), (2, .int x), (3, .int y), (4, .int co), (5, .int ic)]) hx hb dX9_joins_82 hl (by decide) rfl (fun ls hl => ?_)
        refine lv_iconst (v := 0) hx hb dX9_joins_84 (by decide) ?_
        refine lv_istore (lv' := [(11, .int 0), (8, .int y_13), (10, .int y_12), (9, .int y_11), (7, .int x7), (6, .int (gd (4096 * k.toNatClampNeg + ixP x y))), (0, .ref h0), (1, .int k), (2, .int x), (3, .int y), (4, .int co), (5, .int ic)]) hx hb dX9_joins_85 hl (by decide) rfl (fun ls hl => ?_)
        have loop_14 : ∀ (n : Nat) (i : Nat) (x11 : Int32) (z7 : Int32) (gu : Nat → Int32) (gs : Nat → Int32) (H : Heap) (locs : List Loc) (ls : Array Slot), (i ≤ 9) → (9 + 1 ≤ i + n) → (x11 = nI i) → (z7 = nI (rcI (opnJ (gw k.toNatClampNeg) (gh k.toNatClampNeg) cl cx0 cx1 cy0 cy1 ic) (fun t => gd (4096 * k.toNatClampNeg + t)) (gd (4096 * k.toNatClampNeg + ixP x y)) co (pX ((rcO (opnJ (gw k.toNatClampNeg) (gh k.toNatClampNeg) cl cx0 cx1 cy0 cy1 ic) (fun t => gd (4096 * k.toNatClampNeg + t)) (gd (4096 * k.toNatClampNeg + ixP x y)) co st1 dn).2.1 dn)) (pY ((rcO (opnJ (gw k.toNatClampNeg) (gh k.toNatClampNeg) cl cx0 cx1 cy0 cy1 ic) (fun t => gd (4096 * k.toNatClampNeg + t)) (gd (4096 * k.toNatClampNeg + ixP x y)) co st1 dn).2.1 dn)) (rcO (opnJ (gw k.toNatClampNeg) (gh k.toNatClampNeg) cl cx0 cx1 cy0 cy1 ic) (fun t => gd (4096 * k.toNatClampNeg + t)) (gd (4096 * k.toNatClampNeg + ixP x y)) co st1 dn) i).2.2) → (gu = (rcI (opnJ (gw k.toNatClampNeg) (gh k.toNatClampNeg) cl cx0 cx1 cy0 cy1 ic) (fun t => gd (4096 * k.toNatClampNeg + t)) (gd (4096 * k.toNatClampNeg + ixP x y)) co (pX ((rcO (opnJ (gw k.toNatClampNeg) (gh k.toNatClampNeg) cl cx0 cx1 cy0 cy1 ic) (fun t => gd (4096 * k.toNatClampNeg + t)) (gd (4096 * k.toNatClampNeg + ixP x y)) co st1 dn).2.1 dn)) (pY ((rcO (opnJ (gw k.toNatClampNeg) (gh k.toNatClampNeg) cl cx0 cx1 cy0 cy1 ic) (fun t => gd (4096 * k.toNatClampNeg + t)) (gd (4096 * k.toNatClampNeg + ixP x y)) co st1 dn).2.1 dn)) (rcO (opnJ (gw k.toNatClampNeg) (gh k.toNatClampNeg) cl cx0 cx1 cy0 cy1 ic) (fun t => gd (4096 * k.toNatClampNeg + t)) (gd (4096 * k.toNatClampNeg + ixP x y)) co st1 dn) i).1) → (gs = (rcI (opnJ (gw k.toNatClampNeg) (gh k.toNatClampNeg) cl cx0 cx1 cy0 cy1 ic) (fun t => gd (4096 * k.toNatClampNeg + t)) (gd (4096 * k.toNatClampNeg + ixP x y)) co (pX ((rcO (opnJ (gw k.toNatClampNeg) (gh k.toNatClampNeg) cl cx0 cx1 cy0 cy1 ic) (fun t => gd (4096 * k.toNatClampNeg + t)) (gd (4096 * k.toNatClampNeg + ixP x y)) co st1 dn).2.1 dn)) (pY ((rcO (opnJ (gw k.toNatClampNeg) (gh k.toNatClampNeg) cl cx0 cx1 cy0 cy1 ic) (fun t => gd (4096 * k.toNatClampNeg + t)) (gd (4096 * k.toNatClampNeg + ixP x y)) co st1 dn).2.1 dn)) (rcO (opnJ (gw k.toNatClampNeg) (gh k.toNatClampNeg) cl cx0 cx1 cy0 cy1 ic) (fun t => gd (4096 * k.toNatClampNeg + t)) (gd (4096 * k.toNatClampNeg + ixP x y)) co st1 dn) i).2.1) → (cntP (rcI (opnJ (gw k.toNatClampNeg) (gh k.toNatClampNeg) cl cx0 cx1 cy0 cy1 ic) (fun t => gd (4096 * k.toNatClampNeg + t)) (gd (4096 * k.toNatClampNeg + ixP x y)) co (pX ((rcO (opnJ (gw k.toNatClampNeg) (gh k.toNatClampNeg) cl cx0 cx1 cy0 cy1 ic) (fun t => gd (4096 * k.toNatClampNeg + t)) (gd (4096 * k.toNatClampNeg + ixP x y)) co st1 dn).2.1 dn)) (pY ((rcO (opnJ (gw k.toNatClampNeg) (gh k.toNatClampNeg) cl cx0 cx1 cy0 cy1 ic) (fun t => gd (4096 * k.toNatClampNeg + t)) (gd (4096 * k.toNatClampNeg + ixP x y)) co st1 dn).2.1 dn)) (rcO (opnJ (gw k.toNatClampNeg) (gh k.toNatClampNeg) cl cx0 cx1 cy0 cy1 ic) (fun t => gd (4096 * k.toNatClampNeg + t)) (gd (4096 * k.toNatClampNeg + ixP x y)) co st1 dn) i).1 4096 = (rcI (opnJ (gw k.toNatClampNeg) (gh k.toNatClampNeg) cl cx0 cx1 cy0 cy1 ic) (fun t => gd (4096 * k.toNatClampNeg + t)) (gd (4096 * k.toNatClampNeg + ixP x y)) co (pX ((rcO (opnJ (gw k.toNatClampNeg) (gh k.toNatClampNeg) cl cx0 cx1 cy0 cy1 ic) (fun t => gd (4096 * k.toNatClampNeg + t)) (gd (4096 * k.toNatClampNeg + ixP x y)) co st1 dn).2.1 dn)) (pY ((rcO (opnJ (gw k.toNatClampNeg) (gh k.toNatClampNeg) cl cx0 cx1 cy0 cy1 ic) (fun t => gd (4096 * k.toNatClampNeg + t)) (gd (4096 * k.toNatClampNeg + ixP x y)) co st1 dn).2.1 dn)) (rcO (opnJ (gw k.toNatClampNeg) (gh k.toNatClampNeg) cl cx0 cx1 cy0 cy1 ic) (fun t => gd (4096 * k.toNatClampNeg + t)) (gd (4096 * k.toNatClampNeg + ixP x y)) co st1 dn) i).2.2) → va_P D vwCl [(m1, .inl (cI, 4, .inl gw)), (m2, .inl (cI, 4, .inl gh)), (m3, .inl (cI, 16384, .inl gd)), (m13, .inl (cI, 4096, .inl gs)), (h0, .inr (9, [.ref m1, .ref m2, .ref m3, .int ik, .int wy, .int op, .int cl, .int cx0, .int cx1, .int cy0, .int cy1, .int ds, .ref m4, .ref m5, .ref m6, .ref m7, .ref m8, .ref m9, .int pn, .ref m10, .ref m11, .ref m12, .ref m13])), (m4, .inl (cZ, 4096, .inl gu))] H → va_D A [(m1, .inl (cI, 4, .inl gw)), (m2, .inl (cI, 4, .inl gh)), (m3, .inl (cI, 16384, .inl gd)), (m13, .inl (cI, 4096, .inl gs)), (h0, .inr (9, [.ref m1, .ref m2, .ref m3, .int ik, .int wy, .int op, .int cl, .int cx0, .int cx1, .int cy0, .int cy1, .int ds, .ref m4, .ref m5, .ref m6, .ref m7, .ref m8, .ref m9, .int pn, .ref m10, .ref m11, .ref m12, .ref m13])), (m4, .inl (cZ, 4096, .inl gu))] → va_S A s.heap H locs → lv_has ls 15 [(11, .int x11), (8, .int y_13), (10, .int y_12), (9, .int y_11), (7, .int z7), (6, .int (gd (4096 * k.toNatClampNeg + ixP x y))), (0, .ref h0), (1, .int k), (2, .int x), (3, .int y), (4, .int co), (5, .int ic)] → W p l e R s m ([.ref h0, .int k, .int x, .int y, .int co, .int ic] : List Value).toArray below meth c H locs 0 0 Q (F0 m 87 ls []) := by
          intro n
          induction n with
          | zero =>
            intro i x11 z7 gu gs H locs ls hi_i hm_i ex_i f7 f3 f2 fcn hP hD hS hl
            exact absurd (show False by omega) not_false
          | succ n ih_15 =>
            intro i x11 z7 gu gs H locs ls hi_i hm_i ex_i f7 f3 f2 fcn hP hD hS hl
            have hx_i : x11.toInt = (i : Int) := by rw [ex_i]; exact nI_toInt (by omega)
            have hc_i : x11.toNatClampNeg = i := by rw [ex_i]; exact nI_clamp (by omega)
            have hk := rcI_keep (C := (opnJ (gw k.toNatClampNeg) (gh k.toNatClampNeg) cl cx0 cx1 cy0 cy1 ic)) (g := (fun t => gd (4096 * k.toNatClampNeg + t))) (vl := (gd (4096 * k.toNatClampNeg + ixP x y))) (co := co) (px := pX ((rcO (opnJ (gw k.toNatClampNeg) (gh k.toNatClampNeg) cl cx0 cx1 cy0 cy1 ic) (fun t => gd (4096 * k.toNatClampNeg + t)) (gd (4096 * k.toNatClampNeg + ixP x y)) co st1 dn).2.1 dn)) (py := pY ((rcO (opnJ (gw k.toNatClampNeg) (gh k.toNatClampNeg) cl cx0 cx1 cy0 cy1 ic) (fun t => gd (4096 * k.toNatClampNeg + t)) (gd (4096 * k.toNatClampNeg + ixP x y)) co st1 dn).2.1 dn)) hmy i
            have hz7 : z7.toInt = (((rcI (opnJ (gw k.toNatClampNeg) (gh k.toNatClampNeg) cl cx0 cx1 cy0 cy1 ic) (fun t => gd (4096 * k.toNatClampNeg + t)) (gd (4096 * k.toNatClampNeg + ixP x y)) co (pX ((rcO (opnJ (gw k.toNatClampNeg) (gh k.toNatClampNeg) cl cx0 cx1 cy0 cy1 ic) (fun t => gd (4096 * k.toNatClampNeg + t)) (gd (4096 * k.toNatClampNeg + ixP x y)) co st1 dn).2.1 dn)) (pY ((rcO (opnJ (gw k.toNatClampNeg) (gh k.toNatClampNeg) cl cx0 cx1 cy0 cy1 ic) (fun t => gd (4096 * k.toNatClampNeg + t)) (gd (4096 * k.toNatClampNeg + ixP x y)) co st1 dn).2.1 dn)) (rcO (opnJ (gw k.toNatClampNeg) (gh k.toNatClampNeg) cl cx0 cx1 cy0 cy1 ic) (fun t => gd (4096 * k.toNatClampNeg + t)) (gd (4096 * k.toNatClampNeg + ixP x y)) co st1 dn) i).2.2 : Nat) : Int) := by rw [f7]; exact nI_toInt (by omega)
            refine lv_iload hx hb dX9_joins_87 (lv_at hl 0 rfl) ?_
            refine lv_bipush (v := 9) hx hb dX9_joins_89 (by decide) ?_
            refine lv_icmp_ge (tgt := 244) hx hb dX9_joins_91 (by decide) (fun c_16 => ?_) (fun c_16 => ?_)
            · skip
              have f_17 : 9 ≤ (i : Int) := f_le (by decide) hx_i c_16
              refine lv_goto (tgt := 47) hx hb dX9_joins_244 (by decide) ?_
              exact ih_8 (dn + 1) z7 y_13 gu gs _ _ _ (by omega) (by rw [(show (rcO (opnJ (gw k.toNatClampNeg) (gh k.toNatClampNeg) cl cx0 cx1 cy0 cy1 ic) (fun t => gd (4096 * k.toNatClampNeg + t)) (gd (4096 * k.toNatClampNeg + ixP x y)) co st1 (dn + 1)) = (rcI (opnJ (gw k.toNatClampNeg) (gh k.toNatClampNeg) cl cx0 cx1 cy0 cy1 ic) (fun t => gd (4096 * k.toNatClampNeg + t)) (gd (4096 * k.toNatClampNeg + ixP x y)) co (pX ((rcO (opnJ (gw k.toNatClampNeg) (gh k.toNatClampNeg) cl cx0 cx1 cy0 cy1 ic) (fun t => gd (4096 * k.toNatClampNeg + t)) (gd (4096 * k.toNatClampNeg + ixP x y)) co st1 dn).2.1 dn)) (pY ((rcO (opnJ (gw k.toNatClampNeg) (gh k.toNatClampNeg) cl cx0 cx1 cy0 cy1 ic) (fun t => gd (4096 * k.toNatClampNeg + t)) (gd (4096 * k.toNatClampNeg + ixP x y)) co st1 dn).2.1 dn)) (rcO (opnJ (gw k.toNatClampNeg) (gh k.toNatClampNeg) cl cx0 cx1 cy0 cy1 ic) (fun t => gd (4096 * k.toNatClampNeg + t)) (gd (4096 * k.toNatClampNeg + ixP x y)) co st1 dn) i) by rw [show i = 9 by omega]; rfl)]; omega) (by rw [(show (rcO (opnJ (gw k.toNatClampNeg) (gh k.toNatClampNeg) cl cx0 cx1 cy0 cy1 ic) (fun t => gd (4096 * k.toNatClampNeg + t)) (gd (4096 * k.toNatClampNeg + ixP x y)) co st1 (dn + 1)) = (rcI (opnJ (gw k.toNatClampNeg) (gh k.toNatClampNeg) cl cx0 cx1 cy0 cy1 ic) (fun t => gd (4096 * k.toNatClampNeg + t)) (gd (4096 * k.toNatClampNeg + ixP x y)) co (pX ((rcO (opnJ (gw k.toNatClampNeg) (gh k.toNatClampNeg) cl cx0 cx1 cy0 cy1 ic) (fun t => gd (4096 * k.toNatClampNeg + t)) (gd (4096 * k.toNatClampNeg + ixP x y)) co st1 dn).2.1 dn)) (pY ((rcO (opnJ (gw k.toNatClampNeg) (gh k.toNatClampNeg) cl cx0 cx1 cy0 cy1 ic) (fun t => gd (4096 * k.toNatClampNeg + t)) (gd (4096 * k.toNatClampNeg + ixP x y)) co st1 dn).2.1 dn)) (rcO (opnJ (gw k.toNatClampNeg) (gh k.toNatClampNeg) cl cx0 cx1 cy0 cy1 ic) (fun t => gd (4096 * k.toNatClampNeg + t)) (gd (4096 * k.toNatClampNeg + ixP x y)) co st1 dn) i) by rw [show i = 9 by omega]; rfl)]; exact f7) (by rw [ey_13, e8]; exact nI_1 dn) (by rw [(show (rcO (opnJ (gw k.toNatClampNeg) (gh k.toNatClampNeg) cl cx0 cx1 cy0 cy1 ic) (fun t => gd (4096 * k.toNatClampNeg + t)) (gd (4096 * k.toNatClampNeg + ixP x y)) co st1 (dn + 1)) = (rcI (opnJ (gw k.toNatClampNeg) (gh k.toNatClampNeg) cl cx0 cx1 cy0 cy1 ic) (fun t => gd (4096 * k.toNatClampNeg + t)) (gd (4096 * k.toNatClampNeg + ixP x y)) co (pX ((rcO (opnJ (gw k.toNatClampNeg) (gh k.toNatClampNeg) cl cx0 cx1 cy0 cy1 ic) (fun t => gd (4096 * k.toNatClampNeg + t)) (gd (4096 * k.toNatClampNeg + ixP x y)) co st1 dn).2.1 dn)) (pY ((rcO (opnJ (gw k.toNatClampNeg) (gh k.toNatClampNeg) cl cx0 cx1 cy0 cy1 ic) (fun t => gd (4096 * k.toNatClampNeg + t)) (gd (4096 * k.toNatClampNeg + ixP x y)) co st1 dn).2.1 dn)) (rcO (opnJ (gw k.toNatClampNeg) (gh k.toNatClampNeg) cl cx0 cx1 cy0 cy1 ic) (fun t => gd (4096 * k.toNatClampNeg + t)) (gd (4096 * k.toNatClampNeg + ixP x y)) co st1 dn) i) by rw [show i = 9 by omega]; rfl)]; exact f3) (by rw [(show (rcO (opnJ (gw k.toNatClampNeg) (gh k.toNatClampNeg) cl cx0 cx1 cy0 cy1 ic) (fun t => gd (4096 * k.toNatClampNeg + t)) (gd (4096 * k.toNatClampNeg + ixP x y)) co st1 (dn + 1)) = (rcI (opnJ (gw k.toNatClampNeg) (gh k.toNatClampNeg) cl cx0 cx1 cy0 cy1 ic) (fun t => gd (4096 * k.toNatClampNeg + t)) (gd (4096 * k.toNatClampNeg + ixP x y)) co (pX ((rcO (opnJ (gw k.toNatClampNeg) (gh k.toNatClampNeg) cl cx0 cx1 cy0 cy1 ic) (fun t => gd (4096 * k.toNatClampNeg + t)) (gd (4096 * k.toNatClampNeg + ixP x y)) co st1 dn).2.1 dn)) (pY ((rcO (opnJ (gw k.toNatClampNeg) (gh k.toNatClampNeg) cl cx0 cx1 cy0 cy1 ic) (fun t => gd (4096 * k.toNatClampNeg + t)) (gd (4096 * k.toNatClampNeg + ixP x y)) co st1 dn).2.1 dn)) (rcO (opnJ (gw k.toNatClampNeg) (gh k.toNatClampNeg) cl cx0 cx1 cy0 cy1 ic) (fun t => gd (4096 * k.toNatClampNeg + t)) (gd (4096 * k.toNatClampNeg + ixP x y)) co st1 dn) i) by rw [show i = 9 by omega]; rfl)]; exact f2) (by rw [(show (rcO (opnJ (gw k.toNatClampNeg) (gh k.toNatClampNeg) cl cx0 cx1 cy0 cy1 ic) (fun t => gd (4096 * k.toNatClampNeg + t)) (gd (4096 * k.toNatClampNeg + ixP x y)) co st1 (dn + 1)) = (rcI (opnJ (gw k.toNatClampNeg) (gh k.toNatClampNeg) cl cx0 cx1 cy0 cy1 ic) (fun t => gd (4096 * k.toNatClampNeg + t)) (gd (4096 * k.toNatClampNeg + ixP x y)) co (pX ((rcO (opnJ (gw k.toNatClampNeg) (gh k.toNatClampNeg) cl cx0 cx1 cy0 cy1 ic) (fun t => gd (4096 * k.toNatClampNeg + t)) (gd (4096 * k.toNatClampNeg + ixP x y)) co st1 dn).2.1 dn)) (pY ((rcO (opnJ (gw k.toNatClampNeg) (gh k.toNatClampNeg) cl cx0 cx1 cy0 cy1 ic) (fun t => gd (4096 * k.toNatClampNeg + t)) (gd (4096 * k.toNatClampNeg + ixP x y)) co st1 dn).2.1 dn)) (rcO (opnJ (gw k.toNatClampNeg) (gh k.toNatClampNeg) cl cx0 cx1 cy0 cy1 ic) (fun t => gd (4096 * k.toNatClampNeg + t)) (gd (4096 * k.toNatClampNeg + ixP x y)) co st1 dn) i) by rw [show i = 9 by omega]; rfl)]; exact fcn) (fun i' h => by by_cases q : i' = dn; (· rw [q]; omega); (· exact hall i' (by omega))) (hP.sub (ws' := [(m1, .inl (cI, 4, .inl gw)), (m2, .inl (cI, 4, .inl gh)), (m3, .inl (cI, 16384, .inl gd)), (m13, .inl (cI, 4096, .inl gs)), (h0, .inr (9, [.ref m1, .ref m2, .ref m3, .int ik, .int wy, .int op, .int cl, .int cx0, .int cx1, .int cy0, .int cy1, .int ds, .ref m4, .ref m5, .ref m6, .ref m7, .ref m8, .ref m9, .int pn, .ref m10, .ref m11, .ref m12, .ref m13])), (m4, .inl (cZ, 4096, .inl gu))]) [0, 1, 2, 3, 4, 5] rfl) (hD.sub (ws' := [(m1, .inl (cI, 4, .inl gw)), (m2, .inl (cI, 4, .inl gh)), (m3, .inl (cI, 16384, .inl gd)), (m13, .inl (cI, 4096, .inl gs)), (h0, .inr (9, [.ref m1, .ref m2, .ref m3, .int ik, .int wy, .int op, .int cl, .int cx0, .int cx1, .int cy0, .int cy1, .int ds, .ref m4, .ref m5, .ref m6, .ref m7, .ref m8, .ref m9, .int pn, .ref m10, .ref m11, .ref m12, .ref m13])), (m4, .inl (cZ, 4096, .inl gu))]) [0, 1, 2, 3, 4, 5] (by decide) rfl) hS (lv_sub hl [1, 4, 5, 6, 7, 8, 9, 10, 11] rfl)
            · skip
              have f_17 : ¬ (9 ≤ (i : Int)) := fn_le (by decide) hx_i c_16
              refine lv_iload hx hb dX9_joins_94 (lv_at hl 0 rfl) ?_
              refine lv_iconst (v := 3) hx hb dX9_joins_96 (by decide) ?_
              refine lv_irem hx hb dX9_joins_97 (by decide) ?_
              refine lv_topi (fun y_18 ey_18 => ?_)
              refine lv_iconst (v := 1) hx hb dX9_joins_98 (by decide) ?_
              refine lv_isub hx hb dX9_joins_99 ?_
              refine lv_topi (fun y_19 ey_19 => ?_)
              have hdy_19 : y_19 = dX i := by rw [ey_19, ey_18, ex_i]; exact dX_eq i (by omega)
              refine lv_istore (lv' := [(12, .int y_19), (11, .int x11), (8, .int y_13), (10, .int y_12), (9, .int y_11), (7, .int z7), (6, .int (gd (4096 * k.toNatClampNeg + ixP x y))), (0, .ref h0), (1, .int k), (2, .int x), (3, .int y), (4, .int co), (5, .int ic)]) hx hb dX9_joins_100 hl (by decide) rfl (fun ls hl => ?_)
              refine lv_iload hx hb dX9_joins_102 (lv_at hl 1 rfl) ?_
              refine lv_iconst (v := 3) hx hb dX9_joins_104 (by decide) ?_
              refine lv_idiv hx hb dX9_joins_105 (by decide) ?_
              refine lv_topi (fun y_20 ey_20 => ?_)
              refine lv_iconst (v := 1) hx hb dX9_joins_106 (by decide) ?_
              refine lv_isub hx hb dX9_joins_107 ?_
              refine lv_topi (fun y_21 ey_21 => ?_)
              have hdy_21 : y_21 = dY i := by rw [ey_21, ey_20, ex_i]; exact dY_eq i (by omega)
              refine lv_istore (lv' := [(13, .int y_21), (12, .int y_19), (11, .int x11), (8, .int y_13), (10, .int y_12), (9, .int y_11), (7, .int z7), (6, .int (gd (4096 * k.toNatClampNeg + ixP x y))), (0, .ref h0), (1, .int k), (2, .int x), (3, .int y), (4, .int co), (5, .int ic)]) hx hb dX9_joins_108 hl (by decide) rfl (fun ls hl => ?_)
              refine lv_iload hx hb dX9_joins_110 (lv_at hl 12 rfl) ?_
              refine lv_if_ne (tgt := 125) hx hb dX9_joins_112 (by decide) (fun c_22 => ?_) (fun c_22 => ?_)
              · skip
                have f_23 : ¬ (co.toInt = 0) := fn_eq rfl (by decide) c_22
                refine lv_aload_n hx hb dX9_joins_125 rfl (lv_at hl 8 rfl) ?_
                refine lv_iload_n hx hb dX9_joins_126 rfl (lv_at hl 9 rfl) ?_
                refine lv_iload hx hb dX9_joins_127 (lv_at hl 5 rfl) ?_
                refine lv_iload hx hb dX9_joins_129 (lv_at hl 1 rfl) ?_
                refine lv_iadd hx hb dX9_joins_131 ?_
                refine lv_topi (fun y_24 ey_24 => ?_)
                have hay_24 : y_24 = pX ((rcO (opnJ (gw k.toNatClampNeg) (gh k.toNatClampNeg) cl cx0 cx1 cy0 cy1 ic) (fun t => gd (4096 * k.toNatClampNeg + t)) (gd (4096 * k.toNatClampNeg + ixP x y)) co st1 dn).2.1 dn) + dX i := by rw [ey_24, hp9, hdy_19]
                refine lv_iload hx hb dX9_joins_132 (lv_at hl 4 rfl) ?_
                refine lv_iload hx hb dX9_joins_134 (lv_at hl 0 rfl) ?_
                refine lv_iadd hx hb dX9_joins_136 ?_
                refine lv_topi (fun y_25 ey_25 => ?_)
                have hay_25 : y_25 = pY ((rcO (opnJ (gw k.toNatClampNeg) (gh k.toNatClampNeg) cl cx0 cx1 cy0 cy1 ic) (fun t => gd (4096 * k.toNatClampNeg + t)) (gd (4096 * k.toNatClampNeg + ixP x y)) co st1 dn).2.1 dn) + dY i := by rw [ey_25, hp10, hdy_21]
                have hPc := hP.sub (ws' := [(h0, .inr (9, [.ref m1, .ref m2, .ref m3, .int ik, .int wy, .int op, .int cl, .int cx0, .int cx1, .int cy0, .int cy1, .int ds, .ref m4, .ref m5, .ref m6, .ref m7, .ref m8, .ref m9, .int pn, .ref m10, .ref m11, .ref m12, .ref m13])), (m1, .inl (cI, 4, .inl gw)), (m2, .inl (cI, 4, .inl gh))]) [4, 0, 1] rfl
                have hDc := hD.sub (ws' := [(h0, .inr (9, [.ref m1, .ref m2, .ref m3, .int ik, .int wy, .int op, .int cl, .int cx0, .int cx1, .int cy0, .int cy1, .int ds, .ref m4, .ref m5, .ref m6, .ref m7, .ref m8, .ref m9, .int pn, .ref m10, .ref m11, .ref m12, .ref m13])), (m1, .inl (cI, 4, .inl gw)), (m2, .inl (cI, 4, .inl gh))]) [4, 0, 1] (by decide) rfl
                have hKc := hK.sub (tys' := [(cI, .int)]) [0] rfl
                have hFc := va_free (wc := [(h0, .inr (9, [.ref m1, .ref m2, .ref m3, .int ik, .int wy, .int op, .int cl, .int cx0, .int cx1, .int cy0, .int cy1, .int ds, .ref m4, .ref m5, .ref m6, .ref m7, .ref m8, .ref m9, .int pn, .ref m10, .ref m11, .ref m12, .ref m13])), (m1, .inl (cI, 4, .inl gw)), (m2, .inl (cI, 4, .inl gh))]) hD hS hA [4, 0, 1] rfl
                refine va_calli (va_runV (As := [.int k, .int y_24, .int y_25]) (rest := []) ⟨hx, hb, hml, hown, hts⟩ (k_X9_isOn l D H.size h0 m1 m2 m3 m4 m5 m6 m7 m8 m9 m10 m11 m12 m13 ik wy op cl cx0 cx1 cy0 cy1 ds pn gw gh k y_24 y_25 cI (by omega)) (cwV 3 hts (gV bw_433 bw_418 bw_419 bw_391 bw_417) rfl rfl rfl (by decide +kernel) ⟨(by rw [hR]; exact Nat.le_of_ble_eq_true rfl), (by rw [hR]; exact Nat.le_of_ble_eq_true rfl)⟩) ⟨cP_blind, va_recv hKc hPc (ci := 9) (q0 := 0) rfl rfl, cP_at hPc hKc hDc hN⟩ rfl rfl hl.1 rfl (lv_room (Nat.le_of_ble_eq_true rfl)) dX9_joins_137 ⟨(by rw [hR]; exact Nat.le_of_ble_eq_true rfl), (by rw [hR]; exact Nat.le_of_ble_eq_true rfl)⟩) hS (fun q _ h => hFc q h) hFc (fun r_26 u9 t9 H1 locs ht hvm hr_26 hB hz1 hk1 hS => ?_)
                try dsimp only at hr_26
                obtain ⟨hP1, hK1, hD1⟩ := hB
                rw [ht] at hP1
                obtain ⟨hP, hD⟩ := va_join (wr := [(m3, .inl (cI, 16384, .inl gd)), (m13, .inl (cI, 4096, .inl gs)), (m4, .inl (cZ, 4096, .inl gu))]) (w1 := [(h0, .inr (9, [.ref m1, .ref m2, .ref m3, .int ik, .int wy, .int op, .int cl, .int cx0, .int cx1, .int cy0, .int cy1, .int ds, .ref m4, .ref m5, .ref m6, .ref m7, .ref m8, .ref m9, .int pn, .ref m10, .ref m11, .ref m12, .ref m13])), (m1, .inl (cI, 4, .inl gw)), (m2, .inl (cI, 4, .inl gh))]) hP hD [4, 0, 1] [2, 3, 5] rfl rfl (by decide) (by decide) hk1 hFc hP1 hD1
                clear hz1 hk1 hFc hKc hDc hPc
                generalize H1 = H at hP hS ⊢
                have hP : va_P D vwCl [(m3, .inl (cI, 16384, .inl gd)), (m13, .inl (cI, 4096, .inl gs)), (m4, .inl (cZ, 4096, .inl gu)), (h0, .inr (9, [.ref m1, .ref m2, .ref m3, .int ik, .int wy, .int op, .int cl, .int cx0, .int cx1, .int cy0, .int cy1, .int ds, .ref m4, .ref m5, .ref m6, .ref m7, .ref m8, .ref m9, .int pn, .ref m10, .ref m11, .ref m12, .ref m13])), (m1, .inl (cI, 4, .inl gw)), (m2, .inl (cI, 4, .inl gh))] H := hP
                have hD : va_D A [(m3, .inl (cI, 16384, .inl gd)), (m13, .inl (cI, 4096, .inl gs)), (m4, .inl (cZ, 4096, .inl gu)), (h0, .inr (9, [.ref m1, .ref m2, .ref m3, .int ik, .int wy, .int op, .int cl, .int cx0, .int cx1, .int cy0, .int cy1, .int ds, .ref m4, .ref m5, .ref m6, .ref m7, .ref m8, .ref m9, .int pn, .ref m10, .ref m11, .ref m12, .ref m13])), (m1, .inl (cI, 4, .inl gw)), (m2, .inl (cI, 4, .inl gh))] := hD
                refine lv_if_eq (tgt := 238) hx hb dX9_joins_140 (by decide) (fun c_27 => ?_) (fun c_27 => ?_)
                · skip
                  have f_28 := bz0 hr_26 c_27
                  obtain ⟨y_29, ey_29⟩ : ∃ y : Int32, y = x11 + 1 := ⟨_, rfl⟩
                  refine lv_iinc (v := y_29) (lv' := [(11, .int y_29), (13, .int y_21), (12, .int y_19), (8, .int y_13), (10, .int y_12), (9, .int y_11), (7, .int z7), (6, .int (gd (4096 * k.toNatClampNeg + ixP x y))), (0, .ref h0), (1, .int k), (2, .int x), (3, .int y), (4, .int co), (5, .int ic)]) hx hb dX9_joins_238 hl (k := 2) rfl (by rw [ey_29]; rfl) (by decide) rfl (fun ls hl => ?_)
                  refine lv_goto (tgt := 87) hx hb dX9_joins_241 (by decide) ?_
                  have hS1 : (rcI (opnJ (gw k.toNatClampNeg) (gh k.toNatClampNeg) cl cx0 cx1 cy0 cy1 ic) (fun t => gd (4096 * k.toNatClampNeg + t)) (gd (4096 * k.toNatClampNeg + ixP x y)) co (pX ((rcO (opnJ (gw k.toNatClampNeg) (gh k.toNatClampNeg) cl cx0 cx1 cy0 cy1 ic) (fun t => gd (4096 * k.toNatClampNeg + t)) (gd (4096 * k.toNatClampNeg + ixP x y)) co st1 dn).2.1 dn)) (pY ((rcO (opnJ (gw k.toNatClampNeg) (gh k.toNatClampNeg) cl cx0 cx1 cy0 cy1 ic) (fun t => gd (4096 * k.toNatClampNeg + t)) (gd (4096 * k.toNatClampNeg + ixP x y)) co st1 dn).2.1 dn)) (rcO (opnJ (gw k.toNatClampNeg) (gh k.toNatClampNeg) cl cx0 cx1 cy0 cy1 ic) (fun t => gd (4096 * k.toNatClampNeg + t)) (gd (4096 * k.toNatClampNeg + ixP x y)) co st1 dn) (i + 1)) = rcS (opnJ (gw k.toNatClampNeg) (gh k.toNatClampNeg) cl cx0 cx1 cy0 cy1 ic) (fun t => gd (4096 * k.toNatClampNeg + t)) (gd (4096 * k.toNatClampNeg + ixP x y)) y_24 y_25 (rcI (opnJ (gw k.toNatClampNeg) (gh k.toNatClampNeg) cl cx0 cx1 cy0 cy1 ic) (fun t => gd (4096 * k.toNatClampNeg + t)) (gd (4096 * k.toNatClampNeg + ixP x y)) co (pX ((rcO (opnJ (gw k.toNatClampNeg) (gh k.toNatClampNeg) cl cx0 cx1 cy0 cy1 ic) (fun t => gd (4096 * k.toNatClampNeg + t)) (gd (4096 * k.toNatClampNeg + ixP x y)) co st1 dn).2.1 dn)) (pY ((rcO (opnJ (gw k.toNatClampNeg) (gh k.toNatClampNeg) cl cx0 cx1 cy0 cy1 ic) (fun t => gd (4096 * k.toNatClampNeg + t)) (gd (4096 * k.toNatClampNeg + ixP x y)) co st1 dn).2.1 dn)) (rcO (opnJ (gw k.toNatClampNeg) (gh k.toNatClampNeg) cl cx0 cx1 cy0 cy1 ic) (fun t => gd (4096 * k.toNatClampNeg + t)) (gd (4096 * k.toNatClampNeg + ixP x y)) co st1 dn) i) := by rw [hay_24, hay_25]; exact if_pos (Or.inl c_22)
                  have hSt : (rcI (opnJ (gw k.toNatClampNeg) (gh k.toNatClampNeg) cl cx0 cx1 cy0 cy1 ic) (fun t => gd (4096 * k.toNatClampNeg + t)) (gd (4096 * k.toNatClampNeg + ixP x y)) co (pX ((rcO (opnJ (gw k.toNatClampNeg) (gh k.toNatClampNeg) cl cx0 cx1 cy0 cy1 ic) (fun t => gd (4096 * k.toNatClampNeg + t)) (gd (4096 * k.toNatClampNeg + ixP x y)) co st1 dn).2.1 dn)) (pY ((rcO (opnJ (gw k.toNatClampNeg) (gh k.toNatClampNeg) cl cx0 cx1 cy0 cy1 ic) (fun t => gd (4096 * k.toNatClampNeg + t)) (gd (4096 * k.toNatClampNeg + ixP x y)) co st1 dn).2.1 dn)) (rcO (opnJ (gw k.toNatClampNeg) (gh k.toNatClampNeg) cl cx0 cx1 cy0 cy1 ic) (fun t => gd (4096 * k.toNatClampNeg + t)) (gd (4096 * k.toNatClampNeg + ixP x y)) co st1 dn) (i + 1)) = (rcI (opnJ (gw k.toNatClampNeg) (gh k.toNatClampNeg) cl cx0 cx1 cy0 cy1 ic) (fun t => gd (4096 * k.toNatClampNeg + t)) (gd (4096 * k.toNatClampNeg + ixP x y)) co (pX ((rcO (opnJ (gw k.toNatClampNeg) (gh k.toNatClampNeg) cl cx0 cx1 cy0 cy1 ic) (fun t => gd (4096 * k.toNatClampNeg + t)) (gd (4096 * k.toNatClampNeg + ixP x y)) co st1 dn).2.1 dn)) (pY ((rcO (opnJ (gw k.toNatClampNeg) (gh k.toNatClampNeg) cl cx0 cx1 cy0 cy1 ic) (fun t => gd (4096 * k.toNatClampNeg + t)) (gd (4096 * k.toNatClampNeg + ixP x y)) co st1 dn).2.1 dn)) (rcO (opnJ (gw k.toNatClampNeg) (gh k.toNatClampNeg) cl cx0 cx1 cy0 cy1 ic) (fun t => gd (4096 * k.toNatClampNeg + t)) (gd (4096 * k.toNatClampNeg + ixP x y)) co st1 dn) i) := hS1.trans (if_neg (fun q => f_28 q.1.1.1))
                  exact ih_15 (i + 1) y_29 z7 gu gs _ _ _ (by omega) (by omega) (by rw [ey_29, ex_i]; exact nI_1 i) (by rw [hSt]; exact f7) (by rw [hSt]; exact f3) (by rw [hSt]; exact f2) (by rw [hSt]; exact fcn) (hP.sub (ws' := [(m1, .inl (cI, 4, .inl gw)), (m2, .inl (cI, 4, .inl gh)), (m3, .inl (cI, 16384, .inl gd)), (m13, .inl (cI, 4096, .inl gs)), (h0, .inr (9, [.ref m1, .ref m2, .ref m3, .int ik, .int wy, .int op, .int cl, .int cx0, .int cx1, .int cy0, .int cy1, .int ds, .ref m4, .ref m5, .ref m6, .ref m7, .ref m8, .ref m9, .int pn, .ref m10, .ref m11, .ref m12, .ref m13])), (m4, .inl (cZ, 4096, .inl gu))]) [4, 5, 0, 1, 3, 2] rfl) (hD.sub (ws' := [(m1, .inl (cI, 4, .inl gw)), (m2, .inl (cI, 4, .inl gh)), (m3, .inl (cI, 16384, .inl gd)), (m13, .inl (cI, 4096, .inl gs)), (h0, .inr (9, [.ref m1, .ref m2, .ref m3, .int ik, .int wy, .int op, .int cl, .int cx0, .int cx1, .int cy0, .int cy1, .int ds, .ref m4, .ref m5, .ref m6, .ref m7, .ref m8, .ref m9, .int pn, .ref m10, .ref m11, .ref m12, .ref m13])), (m4, .inl (cZ, 4096, .inl gu))]) [4, 5, 0, 1, 3, 2] (by decide) rfl) hS (lv_sub hl [0, 3, 4, 5, 6, 7, 8, 9, 10, 11, 12, 13] rfl)
                · skip
                  have f_28 := bz1 hr_26 c_27
                  refine lv_iload hx hb dX9_joins_143 (lv_at hl 13 rfl) ?_
                  refine lv_if_eq (tgt := 168) hx hb dX9_joins_145 (by decide) (fun c_30 => ?_) (fun c_30 => ?_)
                  · skip
                    have f_31 : ic.toInt = 0 := f_eq rfl (by decide) c_30
                    refine lv_bipush (v := 64) hx hb dX9_joins_168 (by decide) ?_
                    refine lv_iload hx hb dX9_joins_170 (lv_at hl 4 rfl) ?_
                    refine lv_iload hx hb dX9_joins_172 (lv_at hl 0 rfl) ?_
                    refine lv_iadd hx hb dX9_joins_174 ?_
                    refine lv_topi (fun y_32 ey_32 => ?_)
                    have hay_32 : y_32 = pY ((rcO (opnJ (gw k.toNatClampNeg) (gh k.toNatClampNeg) cl cx0 cx1 cy0 cy1 ic) (fun t => gd (4096 * k.toNatClampNeg + t)) (gd (4096 * k.toNatClampNeg + ixP x y)) co st1 dn).2.1 dn) + dY i := by rw [ey_32, hp10, hdy_21]
                    refine lv_imul hx hb dX9_joins_175 ?_
                    refine lv_topi (fun y_33 ey_33 => ?_)
                    refine lv_iload hx hb dX9_joins_176 (lv_at hl 5 rfl) ?_
                    refine lv_iadd hx hb dX9_joins_178 ?_
                    refine lv_topi (fun y_34 ey_34 => ?_)
                    refine lv_iload hx hb dX9_joins_179 (lv_at hl 1 rfl) ?_
                    refine lv_iadd hx hb dX9_joins_181 ?_
                    refine lv_topi (fun y_35 ey_35 => ?_)
                    have htoy_35 : y_35 = 64 * y_25 + y_24 := by rw [ey_35, ey_34, ey_33, ey_32, ey_25, ey_24, Int32.add_assoc]
                    have hiny_35 : vp_in y_35 4096 := by rw [htoy_35]; exact ix_in2 (by omega) (by omega) (by omega) (by omega)
                    have hixy_35 : y_35 = nI (ixP y_24 y_25) := by rw [htoy_35]; exact ix_nI2 (by omega) (by omega) (by omega) (by omega)
                    have hxcy_35 : y_35.toNatClampNeg = ixP y_24 y_25 := by rw [hixy_35]; exact nI_clamp (by have := ix_lt (x := y_24) (y := y_25) (by omega) (by omega) (by omega) (by omega); omega)
                    refine lv_istore (lv' := [(14, .int y_35), (13, .int y_21), (12, .int y_19), (11, .int x11), (8, .int y_13), (10, .int y_12), (9, .int y_11), (7, .int z7), (6, .int (gd (4096 * k.toNatClampNeg + ixP x y))), (0, .ref h0), (1, .int k), (2, .int x), (3, .int y), (4, .int co), (5, .int ic)]) hx hb dX9_joins_182 hl (by decide) rfl (fun ls hl => ?_)
                    refine lv_aload_n hx hb dX9_joins_184 rfl (lv_at hl 9 rfl) ?_
                    refine va_get (D := D) (ci := 9) (v := .ref m4) (C := RX9) (T := TX9) (N := 23) hx hb hts hi_X9 hown hK hP 3 rfl rfl 12 (by decide) (hts _ bw_404) (fun _ h9 => h9) rfl dX9_joins_185 ?_
                    refine lv_iload hx hb dX9_joins_188 (lv_at hl 0 rfl) ?_
                    refine va_zald hx hb hK hP 2 1 rfl rfl hiny_35 dX9_joins_190 ?_
                    refine lv_if_ne (tgt := 238) hx hb dX9_joins_191 (by decide) (fun c_36 => ?_) (fun c_36 => ?_)
                    · skip
                      have f_37 : ¬ ((gu y_35.toNatClampNeg).toInt = 0) := fn_eq rfl (by decide) c_36
                      obtain ⟨y_38, ey_38⟩ : ∃ y : Int32, y = x11 + 1 := ⟨_, rfl⟩
                      refine lv_iinc (v := y_38) (lv' := [(11, .int y_38), (14, .int y_35), (13, .int y_21), (12, .int y_19), (8, .int y_13), (10, .int y_12), (9, .int y_11), (7, .int z7), (6, .int (gd (4096 * k.toNatClampNeg + ixP x y))), (0, .ref h0), (1, .int k), (2, .int x), (3, .int y), (4, .int co), (5, .int ic)]) hx hb dX9_joins_238 hl (k := 3) rfl (by rw [ey_38]; rfl) (by decide) rfl (fun ls hl => ?_)
                      refine lv_goto (tgt := 87) hx hb dX9_joins_241 (by decide) ?_
                      have hS1 : (rcI (opnJ (gw k.toNatClampNeg) (gh k.toNatClampNeg) cl cx0 cx1 cy0 cy1 ic) (fun t => gd (4096 * k.toNatClampNeg + t)) (gd (4096 * k.toNatClampNeg + ixP x y)) co (pX ((rcO (opnJ (gw k.toNatClampNeg) (gh k.toNatClampNeg) cl cx0 cx1 cy0 cy1 ic) (fun t => gd (4096 * k.toNatClampNeg + t)) (gd (4096 * k.toNatClampNeg + ixP x y)) co st1 dn).2.1 dn)) (pY ((rcO (opnJ (gw k.toNatClampNeg) (gh k.toNatClampNeg) cl cx0 cx1 cy0 cy1 ic) (fun t => gd (4096 * k.toNatClampNeg + t)) (gd (4096 * k.toNatClampNeg + ixP x y)) co st1 dn).2.1 dn)) (rcO (opnJ (gw k.toNatClampNeg) (gh k.toNatClampNeg) cl cx0 cx1 cy0 cy1 ic) (fun t => gd (4096 * k.toNatClampNeg + t)) (gd (4096 * k.toNatClampNeg + ixP x y)) co st1 dn) (i + 1)) = rcS (opnJ (gw k.toNatClampNeg) (gh k.toNatClampNeg) cl cx0 cx1 cy0 cy1 ic) (fun t => gd (4096 * k.toNatClampNeg + t)) (gd (4096 * k.toNatClampNeg + ixP x y)) y_24 y_25 (rcI (opnJ (gw k.toNatClampNeg) (gh k.toNatClampNeg) cl cx0 cx1 cy0 cy1 ic) (fun t => gd (4096 * k.toNatClampNeg + t)) (gd (4096 * k.toNatClampNeg + ixP x y)) co (pX ((rcO (opnJ (gw k.toNatClampNeg) (gh k.toNatClampNeg) cl cx0 cx1 cy0 cy1 ic) (fun t => gd (4096 * k.toNatClampNeg + t)) (gd (4096 * k.toNatClampNeg + ixP x y)) co st1 dn).2.1 dn)) (pY ((rcO (opnJ (gw k.toNatClampNeg) (gh k.toNatClampNeg) cl cx0 cx1 cy0 cy1 ic) (fun t => gd (4096 * k.toNatClampNeg + t)) (gd (4096 * k.toNatClampNeg + ixP x y)) co st1 dn).2.1 dn)) (rcO (opnJ (gw k.toNatClampNeg) (gh k.toNatClampNeg) cl cx0 cx1 cy0 cy1 ic) (fun t => gd (4096 * k.toNatClampNeg + t)) (gd (4096 * k.toNatClampNeg + ixP x y)) co st1 dn) i) := by rw [hay_24, hay_25]; exact if_pos (Or.inl c_22)
                      have hSt : (rcI (opnJ (gw k.toNatClampNeg) (gh k.toNatClampNeg) cl cx0 cx1 cy0 cy1 ic) (fun t => gd (4096 * k.toNatClampNeg + t)) (gd (4096 * k.toNatClampNeg + ixP x y)) co (pX ((rcO (opnJ (gw k.toNatClampNeg) (gh k.toNatClampNeg) cl cx0 cx1 cy0 cy1 ic) (fun t => gd (4096 * k.toNatClampNeg + t)) (gd (4096 * k.toNatClampNeg + ixP x y)) co st1 dn).2.1 dn)) (pY ((rcO (opnJ (gw k.toNatClampNeg) (gh k.toNatClampNeg) cl cx0 cx1 cy0 cy1 ic) (fun t => gd (4096 * k.toNatClampNeg + t)) (gd (4096 * k.toNatClampNeg + ixP x y)) co st1 dn).2.1 dn)) (rcO (opnJ (gw k.toNatClampNeg) (gh k.toNatClampNeg) cl cx0 cx1 cy0 cy1 ic) (fun t => gd (4096 * k.toNatClampNeg + t)) (gd (4096 * k.toNatClampNeg + ixP x y)) co st1 dn) (i + 1)) = (rcI (opnJ (gw k.toNatClampNeg) (gh k.toNatClampNeg) cl cx0 cx1 cy0 cy1 ic) (fun t => gd (4096 * k.toNatClampNeg + t)) (gd (4096 * k.toNatClampNeg + ixP x y)) co (pX ((rcO (opnJ (gw k.toNatClampNeg) (gh k.toNatClampNeg) cl cx0 cx1 cy0 cy1 ic) (fun t => gd (4096 * k.toNatClampNeg + t)) (gd (4096 * k.toNatClampNeg + ixP x y)) co st1 dn).2.1 dn)) (pY ((rcO (opnJ (gw k.toNatClampNeg) (gh k.toNatClampNeg) cl cx0 cx1 cy0 cy1 ic) (fun t => gd (4096 * k.toNatClampNeg + t)) (gd (4096 * k.toNatClampNeg + ixP x y)) co st1 dn).2.1 dn)) (rcO (opnJ (gw k.toNatClampNeg) (gh k.toNatClampNeg) cl cx0 cx1 cy0 cy1 ic) (fun t => gd (4096 * k.toNatClampNeg + t)) (gd (4096 * k.toNatClampNeg + ixP x y)) co st1 dn) i) := hS1.trans (if_neg (fun q => c_36 (by rw [f3, hxcy_35]; exact q.2.1)))
                      exact ih_15 (i + 1) y_38 z7 gu gs _ _ _ (by omega) (by omega) (by rw [ey_38, ex_i]; exact nI_1 i) (by rw [hSt]; exact f7) (by rw [hSt]; exact f3) (by rw [hSt]; exact f2) (by rw [hSt]; exact fcn) (hP.sub (ws' := [(m1, .inl (cI, 4, .inl gw)), (m2, .inl (cI, 4, .inl gh)), (m3, .inl (cI, 16384, .inl gd)), (m13, .inl (cI, 4096, .inl gs)), (h0, .inr (9, [.ref m1, .ref m2, .ref m3, .int ik, .int wy, .int op, .int cl, .int cx0, .int cx1, .int cy0, .int cy1, .int ds, .ref m4, .ref m5, .ref m6, .ref m7, .ref m8, .ref m9, .int pn, .ref m10, .ref m11, .ref m12, .ref m13])), (m4, .inl (cZ, 4096, .inl gu))]) [4, 5, 0, 1, 3, 2] rfl) (hD.sub (ws' := [(m1, .inl (cI, 4, .inl gw)), (m2, .inl (cI, 4, .inl gh)), (m3, .inl (cI, 16384, .inl gd)), (m13, .inl (cI, 4096, .inl gs)), (h0, .inr (9, [.ref m1, .ref m2, .ref m3, .int ik, .int wy, .int op, .int cl, .int cx0, .int cx1, .int cy0, .int cy1, .int ds, .ref m4, .ref m5, .ref m6, .ref m7, .ref m8, .ref m9, .int pn, .ref m10, .ref m11, .ref m12, .ref m13])), (m4, .inl (cZ, 4096, .inl gu))]) [4, 5, 0, 1, 3, 2] (by decide) rfl) hS (lv_sub hl [0, 4, 5, 6, 7, 8, 9, 10, 11, 12, 13, 14] rfl)
                    · skip
                      have f_37 : (gu y_35.toNatClampNeg).toInt = 0 := f_eq rfl (by decide) c_36
                      refine lv_aload_n hx hb dX9_joins_194 rfl (lv_at hl 9 rfl) ?_
                      refine va_get (D := D) (ci := 9) (v := .ref m3) (C := RX9) (T := TX9) (N := 23) hx hb hts hi_X9 hown hK hP 3 rfl rfl 2 (by decide) (hts _ bw_398) (fun _ h9 => h9) rfl dX9_joins_195 ?_
                      refine lv_sipush (v := 4096) hx hb dX9_joins_198 (by decide) ?_
                      refine lv_iload_n hx hb dX9_joins_201 rfl (lv_at hl 10 rfl) ?_
                      refine lv_imul hx hb dX9_joins_202 ?_
                      refine lv_topi (fun y_39 ey_39 => ?_)
                      refine lv_iload hx hb dX9_joins_203 (lv_at hl 0 rfl) ?_
                      refine lv_iadd hx hb dX9_joins_205 ?_
                      refine lv_topi (fun y_40 ey_40 => ?_)
                      refine va_iald hx hb hK hP 0 0 rfl rfl (by rw [ey_40, ey_39]; exact kp_in (by omega) hiny_35) dX9_joins_206 ?_
                      refine my_fold (v := gd (4096 * k.toNatClampNeg + ixP y_24 y_25)) (congrArg gd (by rw [ey_40, ey_39]; exact dotx (gd := gd) (y := k) hkk hixy_35 (ix_lt (by omega) (by omega) (by omega) (by omega)) ek)) ?_
                      refine lv_iload hx hb dX9_joins_207 (lv_at hl 8 rfl) ?_
                      refine lv_icmp_eq (tgt := 215) hx hb dX9_joins_209 (by decide) (fun c_41 => ?_) (fun c_41 => ?_)
                      · skip
                        have f_42 : (gd (4096 * k.toNatClampNeg + ixP y_24 y_25)).toInt = (gd (4096 * k.toNatClampNeg + ixP x y)).toInt := f_eq rfl rfl c_41
                        refine lv_aload_n hx hb dX9_joins_215 rfl (lv_at hl 9 rfl) ?_
                        refine va_get (D := D) (ci := 9) (v := .ref m4) (C := RX9) (T := TX9) (N := 23) hx hb hts hi_X9 hown hK hP 3 rfl rfl 12 (by decide) (hts _ bw_404) (fun _ h9 => h9) rfl dX9_joins_216 ?_
                        refine lv_iload hx hb dX9_joins_219 (lv_at hl 0 rfl) ?_
                        refine lv_iconst (v := 1) hx hb dX9_joins_221 (by decide) ?_
                        refine va_zast hx hb hK hP hD hS 2 1 rfl rfl hiny_35 dX9_joins_222 (fun H locs hP hD hS => ?_)
                        have hP : va_P D vwCl [(m3, .inl (cI, 16384, .inl gd)), (m13, .inl (cI, 4096, .inl gs)), (m4, .inl (cZ, 4096, .inl (upd gu y_35.toNatClampNeg (vp_nar .boolean 1)))), (h0, .inr (9, [.ref m1, .ref m2, .ref m3, .int ik, .int wy, .int op, .int cl, .int cx0, .int cx1, .int cy0, .int cy1, .int ds, .ref m4, .ref m5, .ref m6, .ref m7, .ref m8, .ref m9, .int pn, .ref m10, .ref m11, .ref m12, .ref m13])), (m1, .inl (cI, 4, .inl gw)), (m2, .inl (cI, 4, .inl gh))] H := hP
                        have hD : va_D A [(m3, .inl (cI, 16384, .inl gd)), (m13, .inl (cI, 4096, .inl gs)), (m4, .inl (cZ, 4096, .inl (upd gu y_35.toNatClampNeg (vp_nar .boolean 1)))), (h0, .inr (9, [.ref m1, .ref m2, .ref m3, .int ik, .int wy, .int op, .int cl, .int cx0, .int cx1, .int cy0, .int cy1, .int ds, .ref m4, .ref m5, .ref m6, .ref m7, .ref m8, .ref m9, .int pn, .ref m10, .ref m11, .ref m12, .ref m13])), (m1, .inl (cI, 4, .inl gw)), (m2, .inl (cI, 4, .inl gh))] := hD
                        generalize eg_43 : upd gu y_35.toNatClampNeg (vp_nar .boolean 1) = g_43 at hP hD
                        have hP : va_P D vwCl [(m3, .inl (cI, 16384, .inl gd)), (m13, .inl (cI, 4096, .inl gs)), (m4, .inl (cZ, 4096, .inl g_43)), (h0, .inr (9, [.ref m1, .ref m2, .ref m3, .int ik, .int wy, .int op, .int cl, .int cx0, .int cx1, .int cy0, .int cy1, .int ds, .ref m4, .ref m5, .ref m6, .ref m7, .ref m8, .ref m9, .int pn, .ref m10, .ref m11, .ref m12, .ref m13])), (m1, .inl (cI, 4, .inl gw)), (m2, .inl (cI, 4, .inl gh))] H := hP
                        have hD : va_D A [(m3, .inl (cI, 16384, .inl gd)), (m13, .inl (cI, 4096, .inl gs)), (m4, .inl (cZ, 4096, .inl g_43)), (h0, .inr (9, [.ref m1, .ref m2, .ref m3, .int ik, .int wy, .int op, .int cl, .int cx0, .int cx1, .int cy0, .int cy1, .int ds, .ref m4, .ref m5, .ref m6, .ref m7, .ref m8, .ref m9, .int pn, .ref m10, .ref m11, .ref m12, .ref m13])), (m1, .inl (cI, 4, .inl gw)), (m2, .inl (cI, 4, .inl gh))] := hD
                        have hmk : (rcI (opnJ (gw k.toNatClampNeg) (gh k.toNatClampNeg) cl cx0 cx1 cy0 cy1 ic) (fun t => gd (4096 * k.toNatClampNeg + t)) (gd (4096 * k.toNatClampNeg + ixP x y)) co (pX ((rcO (opnJ (gw k.toNatClampNeg) (gh k.toNatClampNeg) cl cx0 cx1 cy0 cy1 ic) (fun t => gd (4096 * k.toNatClampNeg + t)) (gd (4096 * k.toNatClampNeg + ixP x y)) co st1 dn).2.1 dn)) (pY ((rcO (opnJ (gw k.toNatClampNeg) (gh k.toNatClampNeg) cl cx0 cx1 cy0 cy1 ic) (fun t => gd (4096 * k.toNatClampNeg + t)) (gd (4096 * k.toNatClampNeg + ixP x y)) co st1 dn).2.1 dn)) (rcO (opnJ (gw k.toNatClampNeg) (gh k.toNatClampNeg) cl cx0 cx1 cy0 cy1 ic) (fun t => gd (4096 * k.toNatClampNeg + t)) (gd (4096 * k.toNatClampNeg + ixP x y)) co st1 dn) i).1 (ixP y_24 y_25) = 0 := by rw [← f3, ← hxcy_35]; exact c_36
                        have hixn : ixP y_24 y_25 < 4096 := ix_lt (by omega) (by omega) (by omega) (by omega)
                        have hcn2 : cntP (upd (rcI (opnJ (gw k.toNatClampNeg) (gh k.toNatClampNeg) cl cx0 cx1 cy0 cy1 ic) (fun t => gd (4096 * k.toNatClampNeg + t)) (gd (4096 * k.toNatClampNeg + ixP x y)) co (pX ((rcO (opnJ (gw k.toNatClampNeg) (gh k.toNatClampNeg) cl cx0 cx1 cy0 cy1 ic) (fun t => gd (4096 * k.toNatClampNeg + t)) (gd (4096 * k.toNatClampNeg + ixP x y)) co st1 dn).2.1 dn)) (pY ((rcO (opnJ (gw k.toNatClampNeg) (gh k.toNatClampNeg) cl cx0 cx1 cy0 cy1 ic) (fun t => gd (4096 * k.toNatClampNeg + t)) (gd (4096 * k.toNatClampNeg + ixP x y)) co st1 dn).2.1 dn)) (rcO (opnJ (gw k.toNatClampNeg) (gh k.toNatClampNeg) cl cx0 cx1 cy0 cy1 ic) (fun t => gd (4096 * k.toNatClampNeg + t)) (gd (4096 * k.toNatClampNeg + ixP x y)) co st1 dn) i).1 (ixP y_24 y_25) 1) 4096 = (rcI (opnJ (gw k.toNatClampNeg) (gh k.toNatClampNeg) cl cx0 cx1 cy0 cy1 ic) (fun t => gd (4096 * k.toNatClampNeg + t)) (gd (4096 * k.toNatClampNeg + ixP x y)) co (pX ((rcO (opnJ (gw k.toNatClampNeg) (gh k.toNatClampNeg) cl cx0 cx1 cy0 cy1 ic) (fun t => gd (4096 * k.toNatClampNeg + t)) (gd (4096 * k.toNatClampNeg + ixP x y)) co st1 dn).2.1 dn)) (pY ((rcO (opnJ (gw k.toNatClampNeg) (gh k.toNatClampNeg) cl cx0 cx1 cy0 cy1 ic) (fun t => gd (4096 * k.toNatClampNeg + t)) (gd (4096 * k.toNatClampNeg + ixP x y)) co st1 dn).2.1 dn)) (rcO (opnJ (gw k.toNatClampNeg) (gh k.toNatClampNeg) cl cx0 cx1 cy0 cy1 ic) (fun t => gd (4096 * k.toNatClampNeg + t)) (gd (4096 * k.toNatClampNeg + ixP x y)) co st1 dn) i).2.2 + 1 := by rw [cnt_up1 hixn hmk, fcn]
                        have hm2 : (rcI (opnJ (gw k.toNatClampNeg) (gh k.toNatClampNeg) cl cx0 cx1 cy0 cy1 ic) (fun t => gd (4096 * k.toNatClampNeg + t)) (gd (4096 * k.toNatClampNeg + ixP x y)) co (pX ((rcO (opnJ (gw k.toNatClampNeg) (gh k.toNatClampNeg) cl cx0 cx1 cy0 cy1 ic) (fun t => gd (4096 * k.toNatClampNeg + t)) (gd (4096 * k.toNatClampNeg + ixP x y)) co st1 dn).2.1 dn)) (pY ((rcO (opnJ (gw k.toNatClampNeg) (gh k.toNatClampNeg) cl cx0 cx1 cy0 cy1 ic) (fun t => gd (4096 * k.toNatClampNeg + t)) (gd (4096 * k.toNatClampNeg + ixP x y)) co st1 dn).2.1 dn)) (rcO (opnJ (gw k.toNatClampNeg) (gh k.toNatClampNeg) cl cx0 cx1 cy0 cy1 ic) (fun t => gd (4096 * k.toNatClampNeg + t)) (gd (4096 * k.toNatClampNeg + ixP x y)) co st1 dn) i).2.2 + 1 ≤ 4096 := by rw [← hcn2]; exact cntP_le _ _
                        refine lv_aload_n hx hb dX9_joins_223 rfl (lv_at hl 9 rfl) ?_
                        refine va_get (D := D) (ci := 9) (v := .ref m13) (C := RX9) (T := TX9) (N := 23) hx hb hts hi_X9 hown hK hP 3 rfl rfl 22 (by decide) (hts _ bw_413) (fun _ h9 => h9) rfl dX9_joins_224 ?_
                        refine lv_iload hx hb dX9_joins_227 (lv_at hl 7 rfl) ?_
                        refine lv_iload hx hb dX9_joins_229 (lv_at hl 0 rfl) ?_
                        refine va_iast hx hb hK hP hD hS 1 0 rfl rfl (vp_in_iff.mpr ⟨by omega, by omega⟩) dX9_joins_231 (fun H locs hP hD hS => ?_)
                        have hP : va_P D vwCl [(m3, .inl (cI, 16384, .inl gd)), (m13, .inl (cI, 4096, .inl (upd gs z7.toNatClampNeg y_35))), (m4, .inl (cZ, 4096, .inl g_43)), (h0, .inr (9, [.ref m1, .ref m2, .ref m3, .int ik, .int wy, .int op, .int cl, .int cx0, .int cx1, .int cy0, .int cy1, .int ds, .ref m4, .ref m5, .ref m6, .ref m7, .ref m8, .ref m9, .int pn, .ref m10, .ref m11, .ref m12, .ref m13])), (m1, .inl (cI, 4, .inl gw)), (m2, .inl (cI, 4, .inl gh))] H := hP
                        have hD : va_D A [(m3, .inl (cI, 16384, .inl gd)), (m13, .inl (cI, 4096, .inl (upd gs z7.toNatClampNeg y_35))), (m4, .inl (cZ, 4096, .inl g_43)), (h0, .inr (9, [.ref m1, .ref m2, .ref m3, .int ik, .int wy, .int op, .int cl, .int cx0, .int cx1, .int cy0, .int cy1, .int ds, .ref m4, .ref m5, .ref m6, .ref m7, .ref m8, .ref m9, .int pn, .ref m10, .ref m11, .ref m12, .ref m13])), (m1, .inl (cI, 4, .inl gw)), (m2, .inl (cI, 4, .inl gh))] := hD
                        generalize eg_44 : upd gs z7.toNatClampNeg y_35 = g_44 at hP hD
                        have hP : va_P D vwCl [(m3, .inl (cI, 16384, .inl gd)), (m13, .inl (cI, 4096, .inl g_44)), (m4, .inl (cZ, 4096, .inl g_43)), (h0, .inr (9, [.ref m1, .ref m2, .ref m3, .int ik, .int wy, .int op, .int cl, .int cx0, .int cx1, .int cy0, .int cy1, .int ds, .ref m4, .ref m5, .ref m6, .ref m7, .ref m8, .ref m9, .int pn, .ref m10, .ref m11, .ref m12, .ref m13])), (m1, .inl (cI, 4, .inl gw)), (m2, .inl (cI, 4, .inl gh))] H := hP
                        have hD : va_D A [(m3, .inl (cI, 16384, .inl gd)), (m13, .inl (cI, 4096, .inl g_44)), (m4, .inl (cZ, 4096, .inl g_43)), (h0, .inr (9, [.ref m1, .ref m2, .ref m3, .int ik, .int wy, .int op, .int cl, .int cx0, .int cx1, .int cy0, .int cy1, .int ds, .ref m4, .ref m5, .ref m6, .ref m7, .ref m8, .ref m9, .int pn, .ref m10, .ref m11, .ref m12, .ref m13])), (m1, .inl (cI, 4, .inl gw)), (m2, .inl (cI, 4, .inl gh))] := hD
                        refine lv_iload hx hb dX9_joins_232 (lv_at hl 7 rfl) ?_
                        refine lv_iconst (v := 1) hx hb dX9_joins_234 (by decide) ?_
                        refine lv_iadd hx hb dX9_joins_235 ?_
                        refine lv_topi (fun y_45 ey_45 => ?_)
                        refine lv_istore (lv' := [(7, .int y_45), (14, .int y_35), (13, .int y_21), (12, .int y_19), (11, .int x11), (8, .int y_13), (10, .int y_12), (9, .int y_11), (6, .int (gd (4096 * k.toNatClampNeg + ixP x y))), (0, .ref h0), (1, .int k), (2, .int x), (3, .int y), (4, .int co), (5, .int ic)]) hx hb dX9_joins_236 hl (by decide) rfl (fun ls hl => ?_)
                        obtain ⟨y_46, ey_46⟩ : ∃ y : Int32, y = x11 + 1 := ⟨_, rfl⟩
                        refine lv_iinc (v := y_46) (lv' := [(11, .int y_46), (7, .int y_45), (14, .int y_35), (13, .int y_21), (12, .int y_19), (8, .int y_13), (10, .int y_12), (9, .int y_11), (6, .int (gd (4096 * k.toNatClampNeg + ixP x y))), (0, .ref h0), (1, .int k), (2, .int x), (3, .int y), (4, .int co), (5, .int ic)]) hx hb dX9_joins_238 hl (k := 4) rfl (by rw [ey_46]; rfl) (by decide) rfl (fun ls hl => ?_)
                        refine lv_goto (tgt := 87) hx hb dX9_joins_241 (by decide) ?_
                        have hS1 : (rcI (opnJ (gw k.toNatClampNeg) (gh k.toNatClampNeg) cl cx0 cx1 cy0 cy1 ic) (fun t => gd (4096 * k.toNatClampNeg + t)) (gd (4096 * k.toNatClampNeg + ixP x y)) co (pX ((rcO (opnJ (gw k.toNatClampNeg) (gh k.toNatClampNeg) cl cx0 cx1 cy0 cy1 ic) (fun t => gd (4096 * k.toNatClampNeg + t)) (gd (4096 * k.toNatClampNeg + ixP x y)) co st1 dn).2.1 dn)) (pY ((rcO (opnJ (gw k.toNatClampNeg) (gh k.toNatClampNeg) cl cx0 cx1 cy0 cy1 ic) (fun t => gd (4096 * k.toNatClampNeg + t)) (gd (4096 * k.toNatClampNeg + ixP x y)) co st1 dn).2.1 dn)) (rcO (opnJ (gw k.toNatClampNeg) (gh k.toNatClampNeg) cl cx0 cx1 cy0 cy1 ic) (fun t => gd (4096 * k.toNatClampNeg + t)) (gd (4096 * k.toNatClampNeg + ixP x y)) co st1 dn) (i + 1)) = rcS (opnJ (gw k.toNatClampNeg) (gh k.toNatClampNeg) cl cx0 cx1 cy0 cy1 ic) (fun t => gd (4096 * k.toNatClampNeg + t)) (gd (4096 * k.toNatClampNeg + ixP x y)) y_24 y_25 (rcI (opnJ (gw k.toNatClampNeg) (gh k.toNatClampNeg) cl cx0 cx1 cy0 cy1 ic) (fun t => gd (4096 * k.toNatClampNeg + t)) (gd (4096 * k.toNatClampNeg + ixP x y)) co (pX ((rcO (opnJ (gw k.toNatClampNeg) (gh k.toNatClampNeg) cl cx0 cx1 cy0 cy1 ic) (fun t => gd (4096 * k.toNatClampNeg + t)) (gd (4096 * k.toNatClampNeg + ixP x y)) co st1 dn).2.1 dn)) (pY ((rcO (opnJ (gw k.toNatClampNeg) (gh k.toNatClampNeg) cl cx0 cx1 cy0 cy1 ic) (fun t => gd (4096 * k.toNatClampNeg + t)) (gd (4096 * k.toNatClampNeg + ixP x y)) co st1 dn).2.1 dn)) (rcO (opnJ (gw k.toNatClampNeg) (gh k.toNatClampNeg) cl cx0 cx1 cy0 cy1 ic) (fun t => gd (4096 * k.toNatClampNeg + t)) (gd (4096 * k.toNatClampNeg + ixP x y)) co st1 dn) i) := by rw [hay_24, hay_25]; exact if_pos (Or.inl c_22)
                        have hSt : (rcI (opnJ (gw k.toNatClampNeg) (gh k.toNatClampNeg) cl cx0 cx1 cy0 cy1 ic) (fun t => gd (4096 * k.toNatClampNeg + t)) (gd (4096 * k.toNatClampNeg + ixP x y)) co (pX ((rcO (opnJ (gw k.toNatClampNeg) (gh k.toNatClampNeg) cl cx0 cx1 cy0 cy1 ic) (fun t => gd (4096 * k.toNatClampNeg + t)) (gd (4096 * k.toNatClampNeg + ixP x y)) co st1 dn).2.1 dn)) (pY ((rcO (opnJ (gw k.toNatClampNeg) (gh k.toNatClampNeg) cl cx0 cx1 cy0 cy1 ic) (fun t => gd (4096 * k.toNatClampNeg + t)) (gd (4096 * k.toNatClampNeg + ixP x y)) co st1 dn).2.1 dn)) (rcO (opnJ (gw k.toNatClampNeg) (gh k.toNatClampNeg) cl cx0 cx1 cy0 cy1 ic) (fun t => gd (4096 * k.toNatClampNeg + t)) (gd (4096 * k.toNatClampNeg + ixP x y)) co st1 dn) (i + 1)) = (upd (rcI (opnJ (gw k.toNatClampNeg) (gh k.toNatClampNeg) cl cx0 cx1 cy0 cy1 ic) (fun t => gd (4096 * k.toNatClampNeg + t)) (gd (4096 * k.toNatClampNeg + ixP x y)) co (pX ((rcO (opnJ (gw k.toNatClampNeg) (gh k.toNatClampNeg) cl cx0 cx1 cy0 cy1 ic) (fun t => gd (4096 * k.toNatClampNeg + t)) (gd (4096 * k.toNatClampNeg + ixP x y)) co st1 dn).2.1 dn)) (pY ((rcO (opnJ (gw k.toNatClampNeg) (gh k.toNatClampNeg) cl cx0 cx1 cy0 cy1 ic) (fun t => gd (4096 * k.toNatClampNeg + t)) (gd (4096 * k.toNatClampNeg + ixP x y)) co st1 dn).2.1 dn)) (rcO (opnJ (gw k.toNatClampNeg) (gh k.toNatClampNeg) cl cx0 cx1 cy0 cy1 ic) (fun t => gd (4096 * k.toNatClampNeg + t)) (gd (4096 * k.toNatClampNeg + ixP x y)) co st1 dn) i).1 (ixP y_24 y_25) 1, upd (rcI (opnJ (gw k.toNatClampNeg) (gh k.toNatClampNeg) cl cx0 cx1 cy0 cy1 ic) (fun t => gd (4096 * k.toNatClampNeg + t)) (gd (4096 * k.toNatClampNeg + ixP x y)) co (pX ((rcO (opnJ (gw k.toNatClampNeg) (gh k.toNatClampNeg) cl cx0 cx1 cy0 cy1 ic) (fun t => gd (4096 * k.toNatClampNeg + t)) (gd (4096 * k.toNatClampNeg + ixP x y)) co st1 dn).2.1 dn)) (pY ((rcO (opnJ (gw k.toNatClampNeg) (gh k.toNatClampNeg) cl cx0 cx1 cy0 cy1 ic) (fun t => gd (4096 * k.toNatClampNeg + t)) (gd (4096 * k.toNatClampNeg + ixP x y)) co st1 dn).2.1 dn)) (rcO (opnJ (gw k.toNatClampNeg) (gh k.toNatClampNeg) cl cx0 cx1 cy0 cy1 ic) (fun t => gd (4096 * k.toNatClampNeg + t)) (gd (4096 * k.toNatClampNeg + ixP x y)) co st1 dn) i).2.1 (rcI (opnJ (gw k.toNatClampNeg) (gh k.toNatClampNeg) cl cx0 cx1 cy0 cy1 ic) (fun t => gd (4096 * k.toNatClampNeg + t)) (gd (4096 * k.toNatClampNeg + ixP x y)) co (pX ((rcO (opnJ (gw k.toNatClampNeg) (gh k.toNatClampNeg) cl cx0 cx1 cy0 cy1 ic) (fun t => gd (4096 * k.toNatClampNeg + t)) (gd (4096 * k.toNatClampNeg + ixP x y)) co st1 dn).2.1 dn)) (pY ((rcO (opnJ (gw k.toNatClampNeg) (gh k.toNatClampNeg) cl cx0 cx1 cy0 cy1 ic) (fun t => gd (4096 * k.toNatClampNeg + t)) (gd (4096 * k.toNatClampNeg + ixP x y)) co st1 dn).2.1 dn)) (rcO (opnJ (gw k.toNatClampNeg) (gh k.toNatClampNeg) cl cx0 cx1 cy0 cy1 ic) (fun t => gd (4096 * k.toNatClampNeg + t)) (gd (4096 * k.toNatClampNeg + ixP x y)) co st1 dn) i).2.2 (nI (ixP y_24 y_25)), (rcI (opnJ (gw k.toNatClampNeg) (gh k.toNatClampNeg) cl cx0 cx1 cy0 cy1 ic) (fun t => gd (4096 * k.toNatClampNeg + t)) (gd (4096 * k.toNatClampNeg + ixP x y)) co (pX ((rcO (opnJ (gw k.toNatClampNeg) (gh k.toNatClampNeg) cl cx0 cx1 cy0 cy1 ic) (fun t => gd (4096 * k.toNatClampNeg + t)) (gd (4096 * k.toNatClampNeg + ixP x y)) co st1 dn).2.1 dn)) (pY ((rcO (opnJ (gw k.toNatClampNeg) (gh k.toNatClampNeg) cl cx0 cx1 cy0 cy1 ic) (fun t => gd (4096 * k.toNatClampNeg + t)) (gd (4096 * k.toNatClampNeg + ixP x y)) co st1 dn).2.1 dn)) (rcO (opnJ (gw k.toNatClampNeg) (gh k.toNatClampNeg) cl cx0 cx1 cy0 cy1 ic) (fun t => gd (4096 * k.toNatClampNeg + t)) (gd (4096 * k.toNatClampNeg + ixP x y)) co st1 dn) i).2.2 + 1) := hS1.trans (if_pos ⟨⟨⟨f_28, Or.inl c_30⟩, c_41⟩, hmk, by omega⟩)
                        exact ih_15 (i + 1) y_46 y_45 g_43 g_44 _ _ _ (by omega) (by omega) (by rw [ey_46, ex_i]; exact nI_1 i) (by rw [hSt, ey_45, f7]; exact nI_1 _) (by rw [hSt, ← eg_43, f3, hxcy_35]; rfl) (by rw [hSt, ← eg_44, f2, hixy_35, show z7.toNatClampNeg = (rcI (opnJ (gw k.toNatClampNeg) (gh k.toNatClampNeg) cl cx0 cx1 cy0 cy1 ic) (fun t => gd (4096 * k.toNatClampNeg + t)) (gd (4096 * k.toNatClampNeg + ixP x y)) co (pX ((rcO (opnJ (gw k.toNatClampNeg) (gh k.toNatClampNeg) cl cx0 cx1 cy0 cy1 ic) (fun t => gd (4096 * k.toNatClampNeg + t)) (gd (4096 * k.toNatClampNeg + ixP x y)) co st1 dn).2.1 dn)) (pY ((rcO (opnJ (gw k.toNatClampNeg) (gh k.toNatClampNeg) cl cx0 cx1 cy0 cy1 ic) (fun t => gd (4096 * k.toNatClampNeg + t)) (gd (4096 * k.toNatClampNeg + ixP x y)) co st1 dn).2.1 dn)) (rcO (opnJ (gw k.toNatClampNeg) (gh k.toNatClampNeg) cl cx0 cx1 cy0 cy1 ic) (fun t => gd (4096 * k.toNatClampNeg + t)) (gd (4096 * k.toNatClampNeg + ixP x y)) co st1 dn) i).2.2 by rw [f7]; exact nI_clamp (by omega)]) (by rw [hSt]; exact hcn2) (hP.sub (ws' := [(m1, .inl (cI, 4, .inl gw)), (m2, .inl (cI, 4, .inl gh)), (m3, .inl (cI, 16384, .inl gd)), (m13, .inl (cI, 4096, .inl g_44)), (h0, .inr (9, [.ref m1, .ref m2, .ref m3, .int ik, .int wy, .int op, .int cl, .int cx0, .int cx1, .int cy0, .int cy1, .int ds, .ref m4, .ref m5, .ref m6, .ref m7, .ref m8, .ref m9, .int pn, .ref m10, .ref m11, .ref m12, .ref m13])), (m4, .inl (cZ, 4096, .inl g_43))]) [4, 5, 0, 1, 3, 2] rfl) (hD.sub (ws' := [(m1, .inl (cI, 4, .inl gw)), (m2, .inl (cI, 4, .inl gh)), (m3, .inl (cI, 16384, .inl gd)), (m13, .inl (cI, 4096, .inl g_44)), (h0, .inr (9, [.ref m1, .ref m2, .ref m3, .int ik, .int wy, .int op, .int cl, .int cx0, .int cx1, .int cy0, .int cy1, .int ds, .ref m4, .ref m5, .ref m6, .ref m7, .ref m8, .ref m9, .int pn, .ref m10, .ref m11, .ref m12, .ref m13])), (m4, .inl (cZ, 4096, .inl g_43))]) [4, 5, 0, 1, 3, 2] (by decide) rfl) hS (lv_sub hl [0, 5, 6, 7, 1, 8, 9, 10, 11, 12, 13, 14] rfl)
                      · skip
                        have f_42 : ¬ ((gd (4096 * k.toNatClampNeg + ixP y_24 y_25)).toInt = (gd (4096 * k.toNatClampNeg + ixP x y)).toInt) := fn_eq rfl rfl c_41
                        refine lv_goto (tgt := 238) hx hb dX9_joins_212 (by decide) ?_
                        obtain ⟨y_47, ey_47⟩ : ∃ y : Int32, y = x11 + 1 := ⟨_, rfl⟩
                        refine lv_iinc (v := y_47) (lv' := [(11, .int y_47), (14, .int y_35), (13, .int y_21), (12, .int y_19), (8, .int y_13), (10, .int y_12), (9, .int y_11), (7, .int z7), (6, .int (gd (4096 * k.toNatClampNeg + ixP x y))), (0, .ref h0), (1, .int k), (2, .int x), (3, .int y), (4, .int co), (5, .int ic)]) hx hb dX9_joins_238 hl (k := 3) rfl (by rw [ey_47]; rfl) (by decide) rfl (fun ls hl => ?_)
                        refine lv_goto (tgt := 87) hx hb dX9_joins_241 (by decide) ?_
                        have hS1 : (rcI (opnJ (gw k.toNatClampNeg) (gh k.toNatClampNeg) cl cx0 cx1 cy0 cy1 ic) (fun t => gd (4096 * k.toNatClampNeg + t)) (gd (4096 * k.toNatClampNeg + ixP x y)) co (pX ((rcO (opnJ (gw k.toNatClampNeg) (gh k.toNatClampNeg) cl cx0 cx1 cy0 cy1 ic) (fun t => gd (4096 * k.toNatClampNeg + t)) (gd (4096 * k.toNatClampNeg + ixP x y)) co st1 dn).2.1 dn)) (pY ((rcO (opnJ (gw k.toNatClampNeg) (gh k.toNatClampNeg) cl cx0 cx1 cy0 cy1 ic) (fun t => gd (4096 * k.toNatClampNeg + t)) (gd (4096 * k.toNatClampNeg + ixP x y)) co st1 dn).2.1 dn)) (rcO (opnJ (gw k.toNatClampNeg) (gh k.toNatClampNeg) cl cx0 cx1 cy0 cy1 ic) (fun t => gd (4096 * k.toNatClampNeg + t)) (gd (4096 * k.toNatClampNeg + ixP x y)) co st1 dn) (i + 1)) = rcS (opnJ (gw k.toNatClampNeg) (gh k.toNatClampNeg) cl cx0 cx1 cy0 cy1 ic) (fun t => gd (4096 * k.toNatClampNeg + t)) (gd (4096 * k.toNatClampNeg + ixP x y)) y_24 y_25 (rcI (opnJ (gw k.toNatClampNeg) (gh k.toNatClampNeg) cl cx0 cx1 cy0 cy1 ic) (fun t => gd (4096 * k.toNatClampNeg + t)) (gd (4096 * k.toNatClampNeg + ixP x y)) co (pX ((rcO (opnJ (gw k.toNatClampNeg) (gh k.toNatClampNeg) cl cx0 cx1 cy0 cy1 ic) (fun t => gd (4096 * k.toNatClampNeg + t)) (gd (4096 * k.toNatClampNeg + ixP x y)) co st1 dn).2.1 dn)) (pY ((rcO (opnJ (gw k.toNatClampNeg) (gh k.toNatClampNeg) cl cx0 cx1 cy0 cy1 ic) (fun t => gd (4096 * k.toNatClampNeg + t)) (gd (4096 * k.toNatClampNeg + ixP x y)) co st1 dn).2.1 dn)) (rcO (opnJ (gw k.toNatClampNeg) (gh k.toNatClampNeg) cl cx0 cx1 cy0 cy1 ic) (fun t => gd (4096 * k.toNatClampNeg + t)) (gd (4096 * k.toNatClampNeg + ixP x y)) co st1 dn) i) := by rw [hay_24, hay_25]; exact if_pos (Or.inl c_22)
                        have hSt : (rcI (opnJ (gw k.toNatClampNeg) (gh k.toNatClampNeg) cl cx0 cx1 cy0 cy1 ic) (fun t => gd (4096 * k.toNatClampNeg + t)) (gd (4096 * k.toNatClampNeg + ixP x y)) co (pX ((rcO (opnJ (gw k.toNatClampNeg) (gh k.toNatClampNeg) cl cx0 cx1 cy0 cy1 ic) (fun t => gd (4096 * k.toNatClampNeg + t)) (gd (4096 * k.toNatClampNeg + ixP x y)) co st1 dn).2.1 dn)) (pY ((rcO (opnJ (gw k.toNatClampNeg) (gh k.toNatClampNeg) cl cx0 cx1 cy0 cy1 ic) (fun t => gd (4096 * k.toNatClampNeg + t)) (gd (4096 * k.toNatClampNeg + ixP x y)) co st1 dn).2.1 dn)) (rcO (opnJ (gw k.toNatClampNeg) (gh k.toNatClampNeg) cl cx0 cx1 cy0 cy1 ic) (fun t => gd (4096 * k.toNatClampNeg + t)) (gd (4096 * k.toNatClampNeg + ixP x y)) co st1 dn) (i + 1)) = (rcI (opnJ (gw k.toNatClampNeg) (gh k.toNatClampNeg) cl cx0 cx1 cy0 cy1 ic) (fun t => gd (4096 * k.toNatClampNeg + t)) (gd (4096 * k.toNatClampNeg + ixP x y)) co (pX ((rcO (opnJ (gw k.toNatClampNeg) (gh k.toNatClampNeg) cl cx0 cx1 cy0 cy1 ic) (fun t => gd (4096 * k.toNatClampNeg + t)) (gd (4096 * k.toNatClampNeg + ixP x y)) co st1 dn).2.1 dn)) (pY ((rcO (opnJ (gw k.toNatClampNeg) (gh k.toNatClampNeg) cl cx0 cx1 cy0 cy1 ic) (fun t => gd (4096 * k.toNatClampNeg + t)) (gd (4096 * k.toNatClampNeg + ixP x y)) co st1 dn).2.1 dn)) (rcO (opnJ (gw k.toNatClampNeg) (gh k.toNatClampNeg) cl cx0 cx1 cy0 cy1 ic) (fun t => gd (4096 * k.toNatClampNeg + t)) (gd (4096 * k.toNatClampNeg + ixP x y)) co st1 dn) i) := hS1.trans (if_neg (fun q => c_41 q.1.2))
                        exact ih_15 (i + 1) y_47 z7 gu gs _ _ _ (by omega) (by omega) (by rw [ey_47, ex_i]; exact nI_1 i) (by rw [hSt]; exact f7) (by rw [hSt]; exact f3) (by rw [hSt]; exact f2) (by rw [hSt]; exact fcn) (hP.sub (ws' := [(m1, .inl (cI, 4, .inl gw)), (m2, .inl (cI, 4, .inl gh)), (m3, .inl (cI, 16384, .inl gd)), (m13, .inl (cI, 4096, .inl gs)), (h0, .inr (9, [.ref m1, .ref m2, .ref m3, .int ik, .int wy, .int op, .int cl, .int cx0, .int cx1, .int cy0, .int cy1, .int ds, .ref m4, .ref m5, .ref m6, .ref m7, .ref m8, .ref m9, .int pn, .ref m10, .ref m11, .ref m12, .ref m13])), (m4, .inl (cZ, 4096, .inl gu))]) [4, 5, 0, 1, 3, 2] rfl) (hD.sub (ws' := [(m1, .inl (cI, 4, .inl gw)), (m2, .inl (cI, 4, .inl gh)), (m3, .inl (cI, 16384, .inl gd)), (m13, .inl (cI, 4096, .inl gs)), (h0, .inr (9, [.ref m1, .ref m2, .ref m3, .int ik, .int wy, .int op, .int cl, .int cx0, .int cx1, .int cy0, .int cy1, .int ds, .ref m4, .ref m5, .ref m6, .ref m7, .ref m8, .ref m9, .int pn, .ref m10, .ref m11, .ref m12, .ref m13])), (m4, .inl (cZ, 4096, .inl gu))]) [4, 5, 0, 1, 3, 2] (by decide) rfl) hS (lv_sub hl [0, 4, 5, 6, 7, 8, 9, 10, 11, 12, 13, 14] rfl)
                  · skip
                    have f_31 : ¬ (ic.toInt = 0) := fn_eq rfl (by decide) c_30
                    refine lv_aload_n hx hb dX9_joins_148 rfl (lv_at hl 8 rfl) ?_
                    refine lv_iload hx hb dX9_joins_149 (lv_at hl 5 rfl) ?_
                    refine lv_iload hx hb dX9_joins_151 (lv_at hl 1 rfl) ?_
                    refine lv_iadd hx hb dX9_joins_153 ?_
                    refine lv_topi (fun y_48 ey_48 => ?_)
                    have hay_48 : y_48 = pX ((rcO (opnJ (gw k.toNatClampNeg) (gh k.toNatClampNeg) cl cx0 cx1 cy0 cy1 ic) (fun t => gd (4096 * k.toNatClampNeg + t)) (gd (4096 * k.toNatClampNeg + ixP x y)) co st1 dn).2.1 dn) + dX i := by rw [ey_48, hp9, hdy_19]
                    refine lv_iload hx hb dX9_joins_154 (lv_at hl 4 rfl) ?_
                    refine lv_iload hx hb dX9_joins_156 (lv_at hl 0 rfl) ?_
                    refine lv_iadd hx hb dX9_joins_158 ?_
                    refine lv_topi (fun y_49 ey_49 => ?_)
                    have hay_49 : y_49 = pY ((rcO (opnJ (gw k.toNatClampNeg) (gh k.toNatClampNeg) cl cx0 cx1 cy0 cy1 ic) (fun t => gd (4096 * k.toNatClampNeg + t)) (gd (4096 * k.toNatClampNeg + ixP x y)) co st1 dn).2.1 dn) + dY i := by rw [ey_49, hp10, hdy_21]
                    have hPc := hP.sub (ws' := [(h0, .inr (9, [.ref m1, .ref m2, .ref m3, .int ik, .int wy, .int op, .int cl, .int cx0, .int cx1, .int cy0, .int cy1, .int ds, .ref m4, .ref m5, .ref m6, .ref m7, .ref m8, .ref m9, .int pn, .ref m10, .ref m11, .ref m12, .ref m13]))]) [3] rfl
                    have hDc := hD.sub (ws' := [(h0, .inr (9, [.ref m1, .ref m2, .ref m3, .int ik, .int wy, .int op, .int cl, .int cx0, .int cx1, .int cy0, .int cy1, .int ds, .ref m4, .ref m5, .ref m6, .ref m7, .ref m8, .ref m9, .int pn, .ref m10, .ref m11, .ref m12, .ref m13]))]) [3] (by decide) rfl
                    have hKc := hK.sub (tys' := []) [] rfl
                    have hFc := va_free (wc := [(h0, .inr (9, [.ref m1, .ref m2, .ref m3, .int ik, .int wy, .int op, .int cl, .int cx0, .int cx1, .int cy0, .int cy1, .int ds, .ref m4, .ref m5, .ref m6, .ref m7, .ref m8, .ref m9, .int pn, .ref m10, .ref m11, .ref m12, .ref m13]))]) hD hS hA [3] rfl
                    refine va_calli (va_runV (As := [.int y_48, .int y_49]) (rest := []) ⟨hx, hb, hml, hown, hts⟩ (k_X9_isInClip l D H.size h0 m1 m2 m3 m4 m5 m6 m7 m8 m9 m10 m11 m12 m13 ik wy op cl cx0 cx1 cy0 cy1 ds pn y_48 y_49) (cwV 2 hts (gV bw_434 bw_423 bw_424 bw_391 bw_422) rfl rfl rfl (by decide +kernel) ⟨(by rw [hR]; exact Nat.le_of_ble_eq_true rfl), (by rw [hR]; exact Nat.le_of_ble_eq_true rfl)⟩) ⟨cP_blind, va_recv hKc hPc (ci := 9) (q0 := 0) rfl rfl, cP_at hPc hKc hDc hN⟩ rfl rfl hl.1 rfl (lv_room (Nat.le_of_ble_eq_true rfl)) dX9_joins_159 ⟨(by rw [hR]; exact Nat.le_of_ble_eq_true rfl), (by rw [hR]; exact Nat.le_of_ble_eq_true rfl)⟩) hS (fun q _ h => hFc q h) hFc (fun r_50 u9 t9 H1 locs ht hvm hr_50 hB hz1 hk1 hS => ?_)
                    try dsimp only at hr_50
                    obtain ⟨hP1, hK1, hD1⟩ := hB
                    rw [ht] at hP1
                    obtain ⟨hP, hD⟩ := va_join (wr := [(m3, .inl (cI, 16384, .inl gd)), (m13, .inl (cI, 4096, .inl gs)), (m4, .inl (cZ, 4096, .inl gu)), (m1, .inl (cI, 4, .inl gw)), (m2, .inl (cI, 4, .inl gh))]) (w1 := [(h0, .inr (9, [.ref m1, .ref m2, .ref m3, .int ik, .int wy, .int op, .int cl, .int cx0, .int cx1, .int cy0, .int cy1, .int ds, .ref m4, .ref m5, .ref m6, .ref m7, .ref m8, .ref m9, .int pn, .ref m10, .ref m11, .ref m12, .ref m13]))]) hP hD [3] [0, 1, 2, 4, 5] rfl rfl (by decide) (by decide) hk1 hFc hP1 hD1
                    clear hz1 hk1 hFc hKc hDc hPc
                    generalize H1 = H at hP hS ⊢
                    have hP : va_P D vwCl [(m3, .inl (cI, 16384, .inl gd)), (m13, .inl (cI, 4096, .inl gs)), (m4, .inl (cZ, 4096, .inl gu)), (m1, .inl (cI, 4, .inl gw)), (m2, .inl (cI, 4, .inl gh)), (h0, .inr (9, [.ref m1, .ref m2, .ref m3, .int ik, .int wy, .int op, .int cl, .int cx0, .int cx1, .int cy0, .int cy1, .int ds, .ref m4, .ref m5, .ref m6, .ref m7, .ref m8, .ref m9, .int pn, .ref m10, .ref m11, .ref m12, .ref m13]))] H := hP
                    have hD : va_D A [(m3, .inl (cI, 16384, .inl gd)), (m13, .inl (cI, 4096, .inl gs)), (m4, .inl (cZ, 4096, .inl gu)), (m1, .inl (cI, 4, .inl gw)), (m2, .inl (cI, 4, .inl gh)), (h0, .inr (9, [.ref m1, .ref m2, .ref m3, .int ik, .int wy, .int op, .int cl, .int cx0, .int cx1, .int cy0, .int cy1, .int ds, .ref m4, .ref m5, .ref m6, .ref m7, .ref m8, .ref m9, .int pn, .ref m10, .ref m11, .ref m12, .ref m13]))] := hD
                    have hcqx : y_48 = y_24 := by rw [ey_48, ey_24]
                    have hcqy : y_49 = y_25 := by rw [ey_49, ey_25]
                    rw [hcqx, hcqy] at hr_50
                    refine lv_if_ne (tgt := 168) hx hb dX9_joins_162 (by decide) (fun c_51 => ?_) (fun c_51 => ?_)
                    · skip
                      have f_52 := bz1 hr_50 c_51
                      refine lv_bipush (v := 64) hx hb dX9_joins_168 (by decide) ?_
                      refine lv_iload hx hb dX9_joins_170 (lv_at hl 4 rfl) ?_
                      refine lv_iload hx hb dX9_joins_172 (lv_at hl 0 rfl) ?_
                      refine lv_iadd hx hb dX9_joins_174 ?_
                      refine lv_topi (fun y_53 ey_53 => ?_)
                      have hay_53 : y_53 = pY ((rcO (opnJ (gw k.toNatClampNeg) (gh k.toNatClampNeg) cl cx0 cx1 cy0 cy1 ic) (fun t => gd (4096 * k.toNatClampNeg + t)) (gd (4096 * k.toNatClampNeg + ixP x y)) co st1 dn).2.1 dn) + dY i := by rw [ey_53, hp10, hdy_21]
                      refine lv_imul hx hb dX9_joins_175 ?_
                      refine lv_topi (fun y_54 ey_54 => ?_)
                      refine lv_iload hx hb dX9_joins_176 (lv_at hl 5 rfl) ?_
                      refine lv_iadd hx hb dX9_joins_178 ?_
                      refine lv_topi (fun y_55 ey_55 => ?_)
                      refine lv_iload hx hb dX9_joins_179 (lv_at hl 1 rfl) ?_
                      refine lv_iadd hx hb dX9_joins_181 ?_
                      refine lv_topi (fun y_56 ey_56 => ?_)
                      have htoy_56 : y_56 = 64 * y_25 + y_24 := by rw [ey_56, ey_55, ey_54, ey_53, ey_25, ey_24, Int32.add_assoc]
                      have hiny_56 : vp_in y_56 4096 := by rw [htoy_56]; exact ix_in2 (by omega) (by omega) (by omega) (by omega)
                      have hixy_56 : y_56 = nI (ixP y_24 y_25) := by rw [htoy_56]; exact ix_nI2 (by omega) (by omega) (by omega) (by omega)
                      have hxcy_56 : y_56.toNatClampNeg = ixP y_24 y_25 := by rw [hixy_56]; exact nI_clamp (by have := ix_lt (x := y_24) (y := y_25) (by omega) (by omega) (by omega) (by omega); omega)
                      refine lv_istore (lv' := [(14, .int y_56), (13, .int y_21), (12, .int y_19), (11, .int x11), (8, .int y_13), (10, .int y_12), (9, .int y_11), (7, .int z7), (6, .int (gd (4096 * k.toNatClampNeg + ixP x y))), (0, .ref h0), (1, .int k), (2, .int x), (3, .int y), (4, .int co), (5, .int ic)]) hx hb dX9_joins_182 hl (by decide) rfl (fun ls hl => ?_)
                      refine lv_aload_n hx hb dX9_joins_184 rfl (lv_at hl 9 rfl) ?_
                      refine va_get (D := D) (ci := 9) (v := .ref m4) (C := RX9) (T := TX9) (N := 23) hx hb hts hi_X9 hown hK hP 5 rfl rfl 12 (by decide) (hts _ bw_404) (fun _ h9 => h9) rfl dX9_joins_185 ?_
                      refine lv_iload hx hb dX9_joins_188 (lv_at hl 0 rfl) ?_
                      refine va_zald hx hb hK hP 2 1 rfl rfl hiny_56 dX9_joins_190 ?_
                      refine lv_if_ne (tgt := 238) hx hb dX9_joins_191 (by decide) (fun c_57 => ?_) (fun c_57 => ?_)
                      · skip
                        have f_58 : ¬ ((gu y_56.toNatClampNeg).toInt = 0) := fn_eq rfl (by decide) c_57
                        obtain ⟨y_59, ey_59⟩ : ∃ y : Int32, y = x11 + 1 := ⟨_, rfl⟩
                        refine lv_iinc (v := y_59) (lv' := [(11, .int y_59), (14, .int y_56), (13, .int y_21), (12, .int y_19), (8, .int y_13), (10, .int y_12), (9, .int y_11), (7, .int z7), (6, .int (gd (4096 * k.toNatClampNeg + ixP x y))), (0, .ref h0), (1, .int k), (2, .int x), (3, .int y), (4, .int co), (5, .int ic)]) hx hb dX9_joins_238 hl (k := 3) rfl (by rw [ey_59]; rfl) (by decide) rfl (fun ls hl => ?_)
                        refine lv_goto (tgt := 87) hx hb dX9_joins_241 (by decide) ?_
                        have hS1 : (rcI (opnJ (gw k.toNatClampNeg) (gh k.toNatClampNeg) cl cx0 cx1 cy0 cy1 ic) (fun t => gd (4096 * k.toNatClampNeg + t)) (gd (4096 * k.toNatClampNeg + ixP x y)) co (pX ((rcO (opnJ (gw k.toNatClampNeg) (gh k.toNatClampNeg) cl cx0 cx1 cy0 cy1 ic) (fun t => gd (4096 * k.toNatClampNeg + t)) (gd (4096 * k.toNatClampNeg + ixP x y)) co st1 dn).2.1 dn)) (pY ((rcO (opnJ (gw k.toNatClampNeg) (gh k.toNatClampNeg) cl cx0 cx1 cy0 cy1 ic) (fun t => gd (4096 * k.toNatClampNeg + t)) (gd (4096 * k.toNatClampNeg + ixP x y)) co st1 dn).2.1 dn)) (rcO (opnJ (gw k.toNatClampNeg) (gh k.toNatClampNeg) cl cx0 cx1 cy0 cy1 ic) (fun t => gd (4096 * k.toNatClampNeg + t)) (gd (4096 * k.toNatClampNeg + ixP x y)) co st1 dn) (i + 1)) = rcS (opnJ (gw k.toNatClampNeg) (gh k.toNatClampNeg) cl cx0 cx1 cy0 cy1 ic) (fun t => gd (4096 * k.toNatClampNeg + t)) (gd (4096 * k.toNatClampNeg + ixP x y)) y_24 y_25 (rcI (opnJ (gw k.toNatClampNeg) (gh k.toNatClampNeg) cl cx0 cx1 cy0 cy1 ic) (fun t => gd (4096 * k.toNatClampNeg + t)) (gd (4096 * k.toNatClampNeg + ixP x y)) co (pX ((rcO (opnJ (gw k.toNatClampNeg) (gh k.toNatClampNeg) cl cx0 cx1 cy0 cy1 ic) (fun t => gd (4096 * k.toNatClampNeg + t)) (gd (4096 * k.toNatClampNeg + ixP x y)) co st1 dn).2.1 dn)) (pY ((rcO (opnJ (gw k.toNatClampNeg) (gh k.toNatClampNeg) cl cx0 cx1 cy0 cy1 ic) (fun t => gd (4096 * k.toNatClampNeg + t)) (gd (4096 * k.toNatClampNeg + ixP x y)) co st1 dn).2.1 dn)) (rcO (opnJ (gw k.toNatClampNeg) (gh k.toNatClampNeg) cl cx0 cx1 cy0 cy1 ic) (fun t => gd (4096 * k.toNatClampNeg + t)) (gd (4096 * k.toNatClampNeg + ixP x y)) co st1 dn) i) := by rw [hay_24, hay_25]; exact if_pos (Or.inl c_22)
                        have hSt : (rcI (opnJ (gw k.toNatClampNeg) (gh k.toNatClampNeg) cl cx0 cx1 cy0 cy1 ic) (fun t => gd (4096 * k.toNatClampNeg + t)) (gd (4096 * k.toNatClampNeg + ixP x y)) co (pX ((rcO (opnJ (gw k.toNatClampNeg) (gh k.toNatClampNeg) cl cx0 cx1 cy0 cy1 ic) (fun t => gd (4096 * k.toNatClampNeg + t)) (gd (4096 * k.toNatClampNeg + ixP x y)) co st1 dn).2.1 dn)) (pY ((rcO (opnJ (gw k.toNatClampNeg) (gh k.toNatClampNeg) cl cx0 cx1 cy0 cy1 ic) (fun t => gd (4096 * k.toNatClampNeg + t)) (gd (4096 * k.toNatClampNeg + ixP x y)) co st1 dn).2.1 dn)) (rcO (opnJ (gw k.toNatClampNeg) (gh k.toNatClampNeg) cl cx0 cx1 cy0 cy1 ic) (fun t => gd (4096 * k.toNatClampNeg + t)) (gd (4096 * k.toNatClampNeg + ixP x y)) co st1 dn) (i + 1)) = (rcI (opnJ (gw k.toNatClampNeg) (gh k.toNatClampNeg) cl cx0 cx1 cy0 cy1 ic) (fun t => gd (4096 * k.toNatClampNeg + t)) (gd (4096 * k.toNatClampNeg + ixP x y)) co (pX ((rcO (opnJ (gw k.toNatClampNeg) (gh k.toNatClampNeg) cl cx0 cx1 cy0 cy1 ic) (fun t => gd (4096 * k.toNatClampNeg + t)) (gd (4096 * k.toNatClampNeg + ixP x y)) co st1 dn).2.1 dn)) (pY ((rcO (opnJ (gw k.toNatClampNeg) (gh k.toNatClampNeg) cl cx0 cx1 cy0 cy1 ic) (fun t => gd (4096 * k.toNatClampNeg + t)) (gd (4096 * k.toNatClampNeg + ixP x y)) co st1 dn).2.1 dn)) (rcO (opnJ (gw k.toNatClampNeg) (gh k.toNatClampNeg) cl cx0 cx1 cy0 cy1 ic) (fun t => gd (4096 * k.toNatClampNeg + t)) (gd (4096 * k.toNatClampNeg + ixP x y)) co st1 dn) i) := hS1.trans (if_neg (fun q => c_57 (by rw [f3, hxcy_56]; exact q.2.1)))
                        exact ih_15 (i + 1) y_59 z7 gu gs _ _ _ (by omega) (by omega) (by rw [ey_59, ex_i]; exact nI_1 i) (by rw [hSt]; exact f7) (by rw [hSt]; exact f3) (by rw [hSt]; exact f2) (by rw [hSt]; exact fcn) (hP.sub (ws' := [(m1, .inl (cI, 4, .inl gw)), (m2, .inl (cI, 4, .inl gh)), (m3, .inl (cI, 16384, .inl gd)), (m13, .inl (cI, 4096, .inl gs)), (h0, .inr (9, [.ref m1, .ref m2, .ref m3, .int ik, .int wy, .int op, .int cl, .int cx0, .int cx1, .int cy0, .int cy1, .int ds, .ref m4, .ref m5, .ref m6, .ref m7, .ref m8, .ref m9, .int pn, .ref m10, .ref m11, .ref m12, .ref m13])), (m4, .inl (cZ, 4096, .inl gu))]) [3, 4, 0, 1, 5, 2] rfl) (hD.sub (ws' := [(m1, .inl (cI, 4, .inl gw)), (m2, .inl (cI, 4, .inl gh)), (m3, .inl (cI, 16384, .inl gd)), (m13, .inl (cI, 4096, .inl gs)), (h0, .inr (9, [.ref m1, .ref m2, .ref m3, .int ik, .int wy, .int op, .int cl, .int cx0, .int cx1, .int cy0, .int cy1, .int ds, .ref m4, .ref m5, .ref m6, .ref m7, .ref m8, .ref m9, .int pn, .ref m10, .ref m11, .ref m12, .ref m13])), (m4, .inl (cZ, 4096, .inl gu))]) [3, 4, 0, 1, 5, 2] (by decide) rfl) hS (lv_sub hl [0, 4, 5, 6, 7, 8, 9, 10, 11, 12, 13, 14] rfl)
                      · skip
                        have f_58 : (gu y_56.toNatClampNeg).toInt = 0 := f_eq rfl (by decide) c_57
                        refine lv_aload_n hx hb dX9_joins_194 rfl (lv_at hl 9 rfl) ?_
                        refine va_get (D := D) (ci := 9) (v := .ref m3) (C := RX9) (T := TX9) (N := 23) hx hb hts hi_X9 hown hK hP 5 rfl rfl 2 (by decide) (hts _ bw_398) (fun _ h9 => h9) rfl dX9_joins_195 ?_
                        refine lv_sipush (v := 4096) hx hb dX9_joins_198 (by decide) ?_
                        refine lv_iload_n hx hb dX9_joins_201 rfl (lv_at hl 10 rfl) ?_
                        refine lv_imul hx hb dX9_joins_202 ?_
                        refine lv_topi (fun y_60 ey_60 => ?_)
                        refine lv_iload hx hb dX9_joins_203 (lv_at hl 0 rfl) ?_
                        refine lv_iadd hx hb dX9_joins_205 ?_
                        refine lv_topi (fun y_61 ey_61 => ?_)
                        refine va_iald hx hb hK hP 0 0 rfl rfl (by rw [ey_61, ey_60]; exact kp_in (by omega) hiny_56) dX9_joins_206 ?_
                        refine my_fold (v := gd (4096 * k.toNatClampNeg + ixP y_24 y_25)) (congrArg gd (by rw [ey_61, ey_60]; exact dotx (gd := gd) (y := k) hkk hixy_56 (ix_lt (by omega) (by omega) (by omega) (by omega)) ek)) ?_
                        refine lv_iload hx hb dX9_joins_207 (lv_at hl 8 rfl) ?_
                        refine lv_icmp_eq (tgt := 215) hx hb dX9_joins_209 (by decide) (fun c_62 => ?_) (fun c_62 => ?_)
                        · skip
                          have f_63 : (gd (4096 * k.toNatClampNeg + ixP y_24 y_25)).toInt = (gd (4096 * k.toNatClampNeg + ixP x y)).toInt := f_eq rfl rfl c_62
                          refine lv_aload_n hx hb dX9_joins_215 rfl (lv_at hl 9 rfl) ?_
                          refine va_get (D := D) (ci := 9) (v := .ref m4) (C := RX9) (T := TX9) (N := 23) hx hb hts hi_X9 hown hK hP 5 rfl rfl 12 (by decide) (hts _ bw_404) (fun _ h9 => h9) rfl dX9_joins_216 ?_
                          refine lv_iload hx hb dX9_joins_219 (lv_at hl 0 rfl) ?_
                          refine lv_iconst (v := 1) hx hb dX9_joins_221 (by decide) ?_
                          refine va_zast hx hb hK hP hD hS 2 1 rfl rfl hiny_56 dX9_joins_222 (fun H locs hP hD hS => ?_)
                          have hP : va_P D vwCl [(m3, .inl (cI, 16384, .inl gd)), (m13, .inl (cI, 4096, .inl gs)), (m4, .inl (cZ, 4096, .inl (upd gu y_56.toNatClampNeg (vp_nar .boolean 1)))), (m1, .inl (cI, 4, .inl gw)), (m2, .inl (cI, 4, .inl gh)), (h0, .inr (9, [.ref m1, .ref m2, .ref m3, .int ik, .int wy, .int op, .int cl, .int cx0, .int cx1, .int cy0, .int cy1, .int ds, .ref m4, .ref m5, .ref m6, .ref m7, .ref m8, .ref m9, .int pn, .ref m10, .ref m11, .ref m12, .ref m13]))] H := hP
                          have hD : va_D A [(m3, .inl (cI, 16384, .inl gd)), (m13, .inl (cI, 4096, .inl gs)), (m4, .inl (cZ, 4096, .inl (upd gu y_56.toNatClampNeg (vp_nar .boolean 1)))), (m1, .inl (cI, 4, .inl gw)), (m2, .inl (cI, 4, .inl gh)), (h0, .inr (9, [.ref m1, .ref m2, .ref m3, .int ik, .int wy, .int op, .int cl, .int cx0, .int cx1, .int cy0, .int cy1, .int ds, .ref m4, .ref m5, .ref m6, .ref m7, .ref m8, .ref m9, .int pn, .ref m10, .ref m11, .ref m12, .ref m13]))] := hD
                          generalize eg_64 : upd gu y_56.toNatClampNeg (vp_nar .boolean 1) = g_64 at hP hD
                          have hP : va_P D vwCl [(m3, .inl (cI, 16384, .inl gd)), (m13, .inl (cI, 4096, .inl gs)), (m4, .inl (cZ, 4096, .inl g_64)), (m1, .inl (cI, 4, .inl gw)), (m2, .inl (cI, 4, .inl gh)), (h0, .inr (9, [.ref m1, .ref m2, .ref m3, .int ik, .int wy, .int op, .int cl, .int cx0, .int cx1, .int cy0, .int cy1, .int ds, .ref m4, .ref m5, .ref m6, .ref m7, .ref m8, .ref m9, .int pn, .ref m10, .ref m11, .ref m12, .ref m13]))] H := hP
                          have hD : va_D A [(m3, .inl (cI, 16384, .inl gd)), (m13, .inl (cI, 4096, .inl gs)), (m4, .inl (cZ, 4096, .inl g_64)), (m1, .inl (cI, 4, .inl gw)), (m2, .inl (cI, 4, .inl gh)), (h0, .inr (9, [.ref m1, .ref m2, .ref m3, .int ik, .int wy, .int op, .int cl, .int cx0, .int cx1, .int cy0, .int cy1, .int ds, .ref m4, .ref m5, .ref m6, .ref m7, .ref m8, .ref m9, .int pn, .ref m10, .ref m11, .ref m12, .ref m13]))] := hD
                          have hmk : (rcI (opnJ (gw k.toNatClampNeg) (gh k.toNatClampNeg) cl cx0 cx1 cy0 cy1 ic) (fun t => gd (4096 * k.toNatClampNeg + t)) (gd (4096 * k.toNatClampNeg + ixP x y)) co (pX ((rcO (opnJ (gw k.toNatClampNeg) (gh k.toNatClampNeg) cl cx0 cx1 cy0 cy1 ic) (fun t => gd (4096 * k.toNatClampNeg + t)) (gd (4096 * k.toNatClampNeg + ixP x y)) co st1 dn).2.1 dn)) (pY ((rcO (opnJ (gw k.toNatClampNeg) (gh k.toNatClampNeg) cl cx0 cx1 cy0 cy1 ic) (fun t => gd (4096 * k.toNatClampNeg + t)) (gd (4096 * k.toNatClampNeg + ixP x y)) co st1 dn).2.1 dn)) (rcO (opnJ (gw k.toNatClampNeg) (gh k.toNatClampNeg) cl cx0 cx1 cy0 cy1 ic) (fun t => gd (4096 * k.toNatClampNeg + t)) (gd (4096 * k.toNatClampNeg + ixP x y)) co st1 dn) i).1 (ixP y_24 y_25) = 0 := by rw [← f3, ← hxcy_56]; exact c_57
                          have hixn : ixP y_24 y_25 < 4096 := ix_lt (by omega) (by omega) (by omega) (by omega)
                          have hcn2 : cntP (upd (rcI (opnJ (gw k.toNatClampNeg) (gh k.toNatClampNeg) cl cx0 cx1 cy0 cy1 ic) (fun t => gd (4096 * k.toNatClampNeg + t)) (gd (4096 * k.toNatClampNeg + ixP x y)) co (pX ((rcO (opnJ (gw k.toNatClampNeg) (gh k.toNatClampNeg) cl cx0 cx1 cy0 cy1 ic) (fun t => gd (4096 * k.toNatClampNeg + t)) (gd (4096 * k.toNatClampNeg + ixP x y)) co st1 dn).2.1 dn)) (pY ((rcO (opnJ (gw k.toNatClampNeg) (gh k.toNatClampNeg) cl cx0 cx1 cy0 cy1 ic) (fun t => gd (4096 * k.toNatClampNeg + t)) (gd (4096 * k.toNatClampNeg + ixP x y)) co st1 dn).2.1 dn)) (rcO (opnJ (gw k.toNatClampNeg) (gh k.toNatClampNeg) cl cx0 cx1 cy0 cy1 ic) (fun t => gd (4096 * k.toNatClampNeg + t)) (gd (4096 * k.toNatClampNeg + ixP x y)) co st1 dn) i).1 (ixP y_24 y_25) 1) 4096 = (rcI (opnJ (gw k.toNatClampNeg) (gh k.toNatClampNeg) cl cx0 cx1 cy0 cy1 ic) (fun t => gd (4096 * k.toNatClampNeg + t)) (gd (4096 * k.toNatClampNeg + ixP x y)) co (pX ((rcO (opnJ (gw k.toNatClampNeg) (gh k.toNatClampNeg) cl cx0 cx1 cy0 cy1 ic) (fun t => gd (4096 * k.toNatClampNeg + t)) (gd (4096 * k.toNatClampNeg + ixP x y)) co st1 dn).2.1 dn)) (pY ((rcO (opnJ (gw k.toNatClampNeg) (gh k.toNatClampNeg) cl cx0 cx1 cy0 cy1 ic) (fun t => gd (4096 * k.toNatClampNeg + t)) (gd (4096 * k.toNatClampNeg + ixP x y)) co st1 dn).2.1 dn)) (rcO (opnJ (gw k.toNatClampNeg) (gh k.toNatClampNeg) cl cx0 cx1 cy0 cy1 ic) (fun t => gd (4096 * k.toNatClampNeg + t)) (gd (4096 * k.toNatClampNeg + ixP x y)) co st1 dn) i).2.2 + 1 := by rw [cnt_up1 hixn hmk, fcn]
                          have hm2 : (rcI (opnJ (gw k.toNatClampNeg) (gh k.toNatClampNeg) cl cx0 cx1 cy0 cy1 ic) (fun t => gd (4096 * k.toNatClampNeg + t)) (gd (4096 * k.toNatClampNeg + ixP x y)) co (pX ((rcO (opnJ (gw k.toNatClampNeg) (gh k.toNatClampNeg) cl cx0 cx1 cy0 cy1 ic) (fun t => gd (4096 * k.toNatClampNeg + t)) (gd (4096 * k.toNatClampNeg + ixP x y)) co st1 dn).2.1 dn)) (pY ((rcO (opnJ (gw k.toNatClampNeg) (gh k.toNatClampNeg) cl cx0 cx1 cy0 cy1 ic) (fun t => gd (4096 * k.toNatClampNeg + t)) (gd (4096 * k.toNatClampNeg + ixP x y)) co st1 dn).2.1 dn)) (rcO (opnJ (gw k.toNatClampNeg) (gh k.toNatClampNeg) cl cx0 cx1 cy0 cy1 ic) (fun t => gd (4096 * k.toNatClampNeg + t)) (gd (4096 * k.toNatClampNeg + ixP x y)) co st1 dn) i).2.2 + 1 ≤ 4096 := by rw [← hcn2]; exact cntP_le _ _
                          refine lv_aload_n hx hb dX9_joins_223 rfl (lv_at hl 9 rfl) ?_
                          refine va_get (D := D) (ci := 9) (v := .ref m13) (C := RX9) (T := TX9) (N := 23) hx hb hts hi_X9 hown hK hP 5 rfl rfl 22 (by decide) (hts _ bw_413) (fun _ h9 => h9) rfl dX9_joins_224 ?_
                          refine lv_iload hx hb dX9_joins_227 (lv_at hl 7 rfl) ?_
                          refine lv_iload hx hb dX9_joins_229 (lv_at hl 0 rfl) ?_
                          refine va_iast hx hb hK hP hD hS 1 0 rfl rfl (vp_in_iff.mpr ⟨by omega, by omega⟩) dX9_joins_231 (fun H locs hP hD hS => ?_)
                          have hP : va_P D vwCl [(m3, .inl (cI, 16384, .inl gd)), (m13, .inl (cI, 4096, .inl (upd gs z7.toNatClampNeg y_56))), (m4, .inl (cZ, 4096, .inl g_64)), (m1, .inl (cI, 4, .inl gw)), (m2, .inl (cI, 4, .inl gh)), (h0, .inr (9, [.ref m1, .ref m2, .ref m3, .int ik, .int wy, .int op, .int cl, .int cx0, .int cx1, .int cy0, .int cy1, .int ds, .ref m4, .ref m5, .ref m6, .ref m7, .ref m8, .ref m9, .int pn, .ref m10, .ref m11, .ref m12, .ref m13]))] H := hP
                          have hD : va_D A [(m3, .inl (cI, 16384, .inl gd)), (m13, .inl (cI, 4096, .inl (upd gs z7.toNatClampNeg y_56))), (m4, .inl (cZ, 4096, .inl g_64)), (m1, .inl (cI, 4, .inl gw)), (m2, .inl (cI, 4, .inl gh)), (h0, .inr (9, [.ref m1, .ref m2, .ref m3, .int ik, .int wy, .int op, .int cl, .int cx0, .int cx1, .int cy0, .int cy1, .int ds, .ref m4, .ref m5, .ref m6, .ref m7, .ref m8, .ref m9, .int pn, .ref m10, .ref m11, .ref m12, .ref m13]))] := hD
                          generalize eg_65 : upd gs z7.toNatClampNeg y_56 = g_65 at hP hD
                          have hP : va_P D vwCl [(m3, .inl (cI, 16384, .inl gd)), (m13, .inl (cI, 4096, .inl g_65)), (m4, .inl (cZ, 4096, .inl g_64)), (m1, .inl (cI, 4, .inl gw)), (m2, .inl (cI, 4, .inl gh)), (h0, .inr (9, [.ref m1, .ref m2, .ref m3, .int ik, .int wy, .int op, .int cl, .int cx0, .int cx1, .int cy0, .int cy1, .int ds, .ref m4, .ref m5, .ref m6, .ref m7, .ref m8, .ref m9, .int pn, .ref m10, .ref m11, .ref m12, .ref m13]))] H := hP
                          have hD : va_D A [(m3, .inl (cI, 16384, .inl gd)), (m13, .inl (cI, 4096, .inl g_65)), (m4, .inl (cZ, 4096, .inl g_64)), (m1, .inl (cI, 4, .inl gw)), (m2, .inl (cI, 4, .inl gh)), (h0, .inr (9, [.ref m1, .ref m2, .ref m3, .int ik, .int wy, .int op, .int cl, .int cx0, .int cx1, .int cy0, .int cy1, .int ds, .ref m4, .ref m5, .ref m6, .ref m7, .ref m8, .ref m9, .int pn, .ref m10, .ref m11, .ref m12, .ref m13]))] := hD
                          refine lv_iload hx hb dX9_joins_232 (lv_at hl 7 rfl) ?_
                          refine lv_iconst (v := 1) hx hb dX9_joins_234 (by decide) ?_
                          refine lv_iadd hx hb dX9_joins_235 ?_
                          refine lv_topi (fun y_66 ey_66 => ?_)
                          refine lv_istore (lv' := [(7, .int y_66), (14, .int y_56), (13, .int y_21), (12, .int y_19), (11, .int x11), (8, .int y_13), (10, .int y_12), (9, .int y_11), (6, .int (gd (4096 * k.toNatClampNeg + ixP x y))), (0, .ref h0), (1, .int k), (2, .int x), (3, .int y), (4, .int co), (5, .int ic)]) hx hb dX9_joins_236 hl (by decide) rfl (fun ls hl => ?_)
                          obtain ⟨y_67, ey_67⟩ : ∃ y : Int32, y = x11 + 1 := ⟨_, rfl⟩
                          refine lv_iinc (v := y_67) (lv' := [(11, .int y_67), (7, .int y_66), (14, .int y_56), (13, .int y_21), (12, .int y_19), (8, .int y_13), (10, .int y_12), (9, .int y_11), (6, .int (gd (4096 * k.toNatClampNeg + ixP x y))), (0, .ref h0), (1, .int k), (2, .int x), (3, .int y), (4, .int co), (5, .int ic)]) hx hb dX9_joins_238 hl (k := 4) rfl (by rw [ey_67]; rfl) (by decide) rfl (fun ls hl => ?_)
                          refine lv_goto (tgt := 87) hx hb dX9_joins_241 (by decide) ?_
                          have hS1 : (rcI (opnJ (gw k.toNatClampNeg) (gh k.toNatClampNeg) cl cx0 cx1 cy0 cy1 ic) (fun t => gd (4096 * k.toNatClampNeg + t)) (gd (4096 * k.toNatClampNeg + ixP x y)) co (pX ((rcO (opnJ (gw k.toNatClampNeg) (gh k.toNatClampNeg) cl cx0 cx1 cy0 cy1 ic) (fun t => gd (4096 * k.toNatClampNeg + t)) (gd (4096 * k.toNatClampNeg + ixP x y)) co st1 dn).2.1 dn)) (pY ((rcO (opnJ (gw k.toNatClampNeg) (gh k.toNatClampNeg) cl cx0 cx1 cy0 cy1 ic) (fun t => gd (4096 * k.toNatClampNeg + t)) (gd (4096 * k.toNatClampNeg + ixP x y)) co st1 dn).2.1 dn)) (rcO (opnJ (gw k.toNatClampNeg) (gh k.toNatClampNeg) cl cx0 cx1 cy0 cy1 ic) (fun t => gd (4096 * k.toNatClampNeg + t)) (gd (4096 * k.toNatClampNeg + ixP x y)) co st1 dn) (i + 1)) = rcS (opnJ (gw k.toNatClampNeg) (gh k.toNatClampNeg) cl cx0 cx1 cy0 cy1 ic) (fun t => gd (4096 * k.toNatClampNeg + t)) (gd (4096 * k.toNatClampNeg + ixP x y)) y_24 y_25 (rcI (opnJ (gw k.toNatClampNeg) (gh k.toNatClampNeg) cl cx0 cx1 cy0 cy1 ic) (fun t => gd (4096 * k.toNatClampNeg + t)) (gd (4096 * k.toNatClampNeg + ixP x y)) co (pX ((rcO (opnJ (gw k.toNatClampNeg) (gh k.toNatClampNeg) cl cx0 cx1 cy0 cy1 ic) (fun t => gd (4096 * k.toNatClampNeg + t)) (gd (4096 * k.toNatClampNeg + ixP x y)) co st1 dn).2.1 dn)) (pY ((rcO (opnJ (gw k.toNatClampNeg) (gh k.toNatClampNeg) cl cx0 cx1 cy0 cy1 ic) (fun t => gd (4096 * k.toNatClampNeg + t)) (gd (4096 * k.toNatClampNeg + ixP x y)) co st1 dn).2.1 dn)) (rcO (opnJ (gw k.toNatClampNeg) (gh k.toNatClampNeg) cl cx0 cx1 cy0 cy1 ic) (fun t => gd (4096 * k.toNatClampNeg + t)) (gd (4096 * k.toNatClampNeg + ixP x y)) co st1 dn) i) := by rw [hay_24, hay_25]; exact if_pos (Or.inl c_22)
                          have hSt : (rcI (opnJ (gw k.toNatClampNeg) (gh k.toNatClampNeg) cl cx0 cx1 cy0 cy1 ic) (fun t => gd (4096 * k.toNatClampNeg + t)) (gd (4096 * k.toNatClampNeg + ixP x y)) co (pX ((rcO (opnJ (gw k.toNatClampNeg) (gh k.toNatClampNeg) cl cx0 cx1 cy0 cy1 ic) (fun t => gd (4096 * k.toNatClampNeg + t)) (gd (4096 * k.toNatClampNeg + ixP x y)) co st1 dn).2.1 dn)) (pY ((rcO (opnJ (gw k.toNatClampNeg) (gh k.toNatClampNeg) cl cx0 cx1 cy0 cy1 ic) (fun t => gd (4096 * k.toNatClampNeg + t)) (gd (4096 * k.toNatClampNeg + ixP x y)) co st1 dn).2.1 dn)) (rcO (opnJ (gw k.toNatClampNeg) (gh k.toNatClampNeg) cl cx0 cx1 cy0 cy1 ic) (fun t => gd (4096 * k.toNatClampNeg + t)) (gd (4096 * k.toNatClampNeg + ixP x y)) co st1 dn) (i + 1)) = (upd (rcI (opnJ (gw k.toNatClampNeg) (gh k.toNatClampNeg) cl cx0 cx1 cy0 cy1 ic) (fun t => gd (4096 * k.toNatClampNeg + t)) (gd (4096 * k.toNatClampNeg + ixP x y)) co (pX ((rcO (opnJ (gw k.toNatClampNeg) (gh k.toNatClampNeg) cl cx0 cx1 cy0 cy1 ic) (fun t => gd (4096 * k.toNatClampNeg + t)) (gd (4096 * k.toNatClampNeg + ixP x y)) co st1 dn).2.1 dn)) (pY ((rcO (opnJ (gw k.toNatClampNeg) (gh k.toNatClampNeg) cl cx0 cx1 cy0 cy1 ic) (fun t => gd (4096 * k.toNatClampNeg + t)) (gd (4096 * k.toNatClampNeg + ixP x y)) co st1 dn).2.1 dn)) (rcO (opnJ (gw k.toNatClampNeg) (gh k.toNatClampNeg) cl cx0 cx1 cy0 cy1 ic) (fun t => gd (4096 * k.toNatClampNeg + t)) (gd (4096 * k.toNatClampNeg + ixP x y)) co st1 dn) i).1 (ixP y_24 y_25) 1, upd (rcI (opnJ (gw k.toNatClampNeg) (gh k.toNatClampNeg) cl cx0 cx1 cy0 cy1 ic) (fun t => gd (4096 * k.toNatClampNeg + t)) (gd (4096 * k.toNatClampNeg + ixP x y)) co (pX ((rcO (opnJ (gw k.toNatClampNeg) (gh k.toNatClampNeg) cl cx0 cx1 cy0 cy1 ic) (fun t => gd (4096 * k.toNatClampNeg + t)) (gd (4096 * k.toNatClampNeg + ixP x y)) co st1 dn).2.1 dn)) (pY ((rcO (opnJ (gw k.toNatClampNeg) (gh k.toNatClampNeg) cl cx0 cx1 cy0 cy1 ic) (fun t => gd (4096 * k.toNatClampNeg + t)) (gd (4096 * k.toNatClampNeg + ixP x y)) co st1 dn).2.1 dn)) (rcO (opnJ (gw k.toNatClampNeg) (gh k.toNatClampNeg) cl cx0 cx1 cy0 cy1 ic) (fun t => gd (4096 * k.toNatClampNeg + t)) (gd (4096 * k.toNatClampNeg + ixP x y)) co st1 dn) i).2.1 (rcI (opnJ (gw k.toNatClampNeg) (gh k.toNatClampNeg) cl cx0 cx1 cy0 cy1 ic) (fun t => gd (4096 * k.toNatClampNeg + t)) (gd (4096 * k.toNatClampNeg + ixP x y)) co (pX ((rcO (opnJ (gw k.toNatClampNeg) (gh k.toNatClampNeg) cl cx0 cx1 cy0 cy1 ic) (fun t => gd (4096 * k.toNatClampNeg + t)) (gd (4096 * k.toNatClampNeg + ixP x y)) co st1 dn).2.1 dn)) (pY ((rcO (opnJ (gw k.toNatClampNeg) (gh k.toNatClampNeg) cl cx0 cx1 cy0 cy1 ic) (fun t => gd (4096 * k.toNatClampNeg + t)) (gd (4096 * k.toNatClampNeg + ixP x y)) co st1 dn).2.1 dn)) (rcO (opnJ (gw k.toNatClampNeg) (gh k.toNatClampNeg) cl cx0 cx1 cy0 cy1 ic) (fun t => gd (4096 * k.toNatClampNeg + t)) (gd (4096 * k.toNatClampNeg + ixP x y)) co st1 dn) i).2.2 (nI (ixP y_24 y_25)), (rcI (opnJ (gw k.toNatClampNeg) (gh k.toNatClampNeg) cl cx0 cx1 cy0 cy1 ic) (fun t => gd (4096 * k.toNatClampNeg + t)) (gd (4096 * k.toNatClampNeg + ixP x y)) co (pX ((rcO (opnJ (gw k.toNatClampNeg) (gh k.toNatClampNeg) cl cx0 cx1 cy0 cy1 ic) (fun t => gd (4096 * k.toNatClampNeg + t)) (gd (4096 * k.toNatClampNeg + ixP x y)) co st1 dn).2.1 dn)) (pY ((rcO (opnJ (gw k.toNatClampNeg) (gh k.toNatClampNeg) cl cx0 cx1 cy0 cy1 ic) (fun t => gd (4096 * k.toNatClampNeg + t)) (gd (4096 * k.toNatClampNeg + ixP x y)) co st1 dn).2.1 dn)) (rcO (opnJ (gw k.toNatClampNeg) (gh k.toNatClampNeg) cl cx0 cx1 cy0 cy1 ic) (fun t => gd (4096 * k.toNatClampNeg + t)) (gd (4096 * k.toNatClampNeg + ixP x y)) co st1 dn) i).2.2 + 1) := hS1.trans (if_pos ⟨⟨⟨f_28, Or.inr f_52⟩, c_62⟩, hmk, by omega⟩)
                          exact ih_15 (i + 1) y_67 y_66 g_64 g_65 _ _ _ (by omega) (by omega) (by rw [ey_67, ex_i]; exact nI_1 i) (by rw [hSt, ey_66, f7]; exact nI_1 _) (by rw [hSt, ← eg_64, f3, hxcy_56]; rfl) (by rw [hSt, ← eg_65, f2, hixy_56, show z7.toNatClampNeg = (rcI (opnJ (gw k.toNatClampNeg) (gh k.toNatClampNeg) cl cx0 cx1 cy0 cy1 ic) (fun t => gd (4096 * k.toNatClampNeg + t)) (gd (4096 * k.toNatClampNeg + ixP x y)) co (pX ((rcO (opnJ (gw k.toNatClampNeg) (gh k.toNatClampNeg) cl cx0 cx1 cy0 cy1 ic) (fun t => gd (4096 * k.toNatClampNeg + t)) (gd (4096 * k.toNatClampNeg + ixP x y)) co st1 dn).2.1 dn)) (pY ((rcO (opnJ (gw k.toNatClampNeg) (gh k.toNatClampNeg) cl cx0 cx1 cy0 cy1 ic) (fun t => gd (4096 * k.toNatClampNeg + t)) (gd (4096 * k.toNatClampNeg + ixP x y)) co st1 dn).2.1 dn)) (rcO (opnJ (gw k.toNatClampNeg) (gh k.toNatClampNeg) cl cx0 cx1 cy0 cy1 ic) (fun t => gd (4096 * k.toNatClampNeg + t)) (gd (4096 * k.toNatClampNeg + ixP x y)) co st1 dn) i).2.2 by rw [f7]; exact nI_clamp (by omega)]) (by rw [hSt]; exact hcn2) (hP.sub (ws' := [(m1, .inl (cI, 4, .inl gw)), (m2, .inl (cI, 4, .inl gh)), (m3, .inl (cI, 16384, .inl gd)), (m13, .inl (cI, 4096, .inl g_65)), (h0, .inr (9, [.ref m1, .ref m2, .ref m3, .int ik, .int wy, .int op, .int cl, .int cx0, .int cx1, .int cy0, .int cy1, .int ds, .ref m4, .ref m5, .ref m6, .ref m7, .ref m8, .ref m9, .int pn, .ref m10, .ref m11, .ref m12, .ref m13])), (m4, .inl (cZ, 4096, .inl g_64))]) [3, 4, 0, 1, 5, 2] rfl) (hD.sub (ws' := [(m1, .inl (cI, 4, .inl gw)), (m2, .inl (cI, 4, .inl gh)), (m3, .inl (cI, 16384, .inl gd)), (m13, .inl (cI, 4096, .inl g_65)), (h0, .inr (9, [.ref m1, .ref m2, .ref m3, .int ik, .int wy, .int op, .int cl, .int cx0, .int cx1, .int cy0, .int cy1, .int ds, .ref m4, .ref m5, .ref m6, .ref m7, .ref m8, .ref m9, .int pn, .ref m10, .ref m11, .ref m12, .ref m13])), (m4, .inl (cZ, 4096, .inl g_64))]) [3, 4, 0, 1, 5, 2] (by decide) rfl) hS (lv_sub hl [0, 5, 6, 7, 1, 8, 9, 10, 11, 12, 13, 14] rfl)
                        · skip
                          have f_63 : ¬ ((gd (4096 * k.toNatClampNeg + ixP y_24 y_25)).toInt = (gd (4096 * k.toNatClampNeg + ixP x y)).toInt) := fn_eq rfl rfl c_62
                          refine lv_goto (tgt := 238) hx hb dX9_joins_212 (by decide) ?_
                          obtain ⟨y_68, ey_68⟩ : ∃ y : Int32, y = x11 + 1 := ⟨_, rfl⟩
                          refine lv_iinc (v := y_68) (lv' := [(11, .int y_68), (14, .int y_56), (13, .int y_21), (12, .int y_19), (8, .int y_13), (10, .int y_12), (9, .int y_11), (7, .int z7), (6, .int (gd (4096 * k.toNatClampNeg + ixP x y))), (0, .ref h0), (1, .int k), (2, .int x), (3, .int y), (4, .int co), (5, .int ic)]) hx hb dX9_joins_238 hl (k := 3) rfl (by rw [ey_68]; rfl) (by decide) rfl (fun ls hl => ?_)
                          refine lv_goto (tgt := 87) hx hb dX9_joins_241 (by decide) ?_
                          have hS1 : (rcI (opnJ (gw k.toNatClampNeg) (gh k.toNatClampNeg) cl cx0 cx1 cy0 cy1 ic) (fun t => gd (4096 * k.toNatClampNeg + t)) (gd (4096 * k.toNatClampNeg + ixP x y)) co (pX ((rcO (opnJ (gw k.toNatClampNeg) (gh k.toNatClampNeg) cl cx0 cx1 cy0 cy1 ic) (fun t => gd (4096 * k.toNatClampNeg + t)) (gd (4096 * k.toNatClampNeg + ixP x y)) co st1 dn).2.1 dn)) (pY ((rcO (opnJ (gw k.toNatClampNeg) (gh k.toNatClampNeg) cl cx0 cx1 cy0 cy1 ic) (fun t => gd (4096 * k.toNatClampNeg + t)) (gd (4096 * k.toNatClampNeg + ixP x y)) co st1 dn).2.1 dn)) (rcO (opnJ (gw k.toNatClampNeg) (gh k.toNatClampNeg) cl cx0 cx1 cy0 cy1 ic) (fun t => gd (4096 * k.toNatClampNeg + t)) (gd (4096 * k.toNatClampNeg + ixP x y)) co st1 dn) (i + 1)) = rcS (opnJ (gw k.toNatClampNeg) (gh k.toNatClampNeg) cl cx0 cx1 cy0 cy1 ic) (fun t => gd (4096 * k.toNatClampNeg + t)) (gd (4096 * k.toNatClampNeg + ixP x y)) y_24 y_25 (rcI (opnJ (gw k.toNatClampNeg) (gh k.toNatClampNeg) cl cx0 cx1 cy0 cy1 ic) (fun t => gd (4096 * k.toNatClampNeg + t)) (gd (4096 * k.toNatClampNeg + ixP x y)) co (pX ((rcO (opnJ (gw k.toNatClampNeg) (gh k.toNatClampNeg) cl cx0 cx1 cy0 cy1 ic) (fun t => gd (4096 * k.toNatClampNeg + t)) (gd (4096 * k.toNatClampNeg + ixP x y)) co st1 dn).2.1 dn)) (pY ((rcO (opnJ (gw k.toNatClampNeg) (gh k.toNatClampNeg) cl cx0 cx1 cy0 cy1 ic) (fun t => gd (4096 * k.toNatClampNeg + t)) (gd (4096 * k.toNatClampNeg + ixP x y)) co st1 dn).2.1 dn)) (rcO (opnJ (gw k.toNatClampNeg) (gh k.toNatClampNeg) cl cx0 cx1 cy0 cy1 ic) (fun t => gd (4096 * k.toNatClampNeg + t)) (gd (4096 * k.toNatClampNeg + ixP x y)) co st1 dn) i) := by rw [hay_24, hay_25]; exact if_pos (Or.inl c_22)
                          have hSt : (rcI (opnJ (gw k.toNatClampNeg) (gh k.toNatClampNeg) cl cx0 cx1 cy0 cy1 ic) (fun t => gd (4096 * k.toNatClampNeg + t)) (gd (4096 * k.toNatClampNeg + ixP x y)) co (pX ((rcO (opnJ (gw k.toNatClampNeg) (gh k.toNatClampNeg) cl cx0 cx1 cy0 cy1 ic) (fun t => gd (4096 * k.toNatClampNeg + t)) (gd (4096 * k.toNatClampNeg + ixP x y)) co st1 dn).2.1 dn)) (pY ((rcO (opnJ (gw k.toNatClampNeg) (gh k.toNatClampNeg) cl cx0 cx1 cy0 cy1 ic) (fun t => gd (4096 * k.toNatClampNeg + t)) (gd (4096 * k.toNatClampNeg + ixP x y)) co st1 dn).2.1 dn)) (rcO (opnJ (gw k.toNatClampNeg) (gh k.toNatClampNeg) cl cx0 cx1 cy0 cy1 ic) (fun t => gd (4096 * k.toNatClampNeg + t)) (gd (4096 * k.toNatClampNeg + ixP x y)) co st1 dn) (i + 1)) = (rcI (opnJ (gw k.toNatClampNeg) (gh k.toNatClampNeg) cl cx0 cx1 cy0 cy1 ic) (fun t => gd (4096 * k.toNatClampNeg + t)) (gd (4096 * k.toNatClampNeg + ixP x y)) co (pX ((rcO (opnJ (gw k.toNatClampNeg) (gh k.toNatClampNeg) cl cx0 cx1 cy0 cy1 ic) (fun t => gd (4096 * k.toNatClampNeg + t)) (gd (4096 * k.toNatClampNeg + ixP x y)) co st1 dn).2.1 dn)) (pY ((rcO (opnJ (gw k.toNatClampNeg) (gh k.toNatClampNeg) cl cx0 cx1 cy0 cy1 ic) (fun t => gd (4096 * k.toNatClampNeg + t)) (gd (4096 * k.toNatClampNeg + ixP x y)) co st1 dn).2.1 dn)) (rcO (opnJ (gw k.toNatClampNeg) (gh k.toNatClampNeg) cl cx0 cx1 cy0 cy1 ic) (fun t => gd (4096 * k.toNatClampNeg + t)) (gd (4096 * k.toNatClampNeg + ixP x y)) co st1 dn) i) := hS1.trans (if_neg (fun q => c_62 q.1.2))
                          exact ih_15 (i + 1) y_68 z7 gu gs _ _ _ (by omega) (by omega) (by rw [ey_68, ex_i]; exact nI_1 i) (by rw [hSt]; exact f7) (by rw [hSt]; exact f3) (by rw [hSt]; exact f2) (by rw [hSt]; exact fcn) (hP.sub (ws' := [(m1, .inl (cI, 4, .inl gw)), (m2, .inl (cI, 4, .inl gh)), (m3, .inl (cI, 16384, .inl gd)), (m13, .inl (cI, 4096, .inl gs)), (h0, .inr (9, [.ref m1, .ref m2, .ref m3, .int ik, .int wy, .int op, .int cl, .int cx0, .int cx1, .int cy0, .int cy1, .int ds, .ref m4, .ref m5, .ref m6, .ref m7, .ref m8, .ref m9, .int pn, .ref m10, .ref m11, .ref m12, .ref m13])), (m4, .inl (cZ, 4096, .inl gu))]) [3, 4, 0, 1, 5, 2] rfl) (hD.sub (ws' := [(m1, .inl (cI, 4, .inl gw)), (m2, .inl (cI, 4, .inl gh)), (m3, .inl (cI, 16384, .inl gd)), (m13, .inl (cI, 4096, .inl gs)), (h0, .inr (9, [.ref m1, .ref m2, .ref m3, .int ik, .int wy, .int op, .int cl, .int cx0, .int cx1, .int cy0, .int cy1, .int ds, .ref m4, .ref m5, .ref m6, .ref m7, .ref m8, .ref m9, .int pn, .ref m10, .ref m11, .ref m12, .ref m13])), (m4, .inl (cZ, 4096, .inl gu))]) [3, 4, 0, 1, 5, 2] (by decide) rfl) hS (lv_sub hl [0, 4, 5, 6, 7, 8, 9, 10, 11, 12, 13, 14] rfl)
                    · skip
                      have f_52 := bz0 hr_50 c_51
                      refine lv_goto (tgt := 238) hx hb dX9_joins_165 (by decide) ?_
                      obtain ⟨y_69, ey_69⟩ : ∃ y : Int32, y = x11 + 1 := ⟨_, rfl⟩
                      refine lv_iinc (v := y_69) (lv' := [(11, .int y_69), (13, .int y_21), (12, .int y_19), (8, .int y_13), (10, .int y_12), (9, .int y_11), (7, .int z7), (6, .int (gd (4096 * k.toNatClampNeg + ixP x y))), (0, .ref h0), (1, .int k), (2, .int x), (3, .int y), (4, .int co), (5, .int ic)]) hx hb dX9_joins_238 hl (k := 2) rfl (by rw [ey_69]; rfl) (by decide) rfl (fun ls hl => ?_)
                      refine lv_goto (tgt := 87) hx hb dX9_joins_241 (by decide) ?_
                      have hS1 : (rcI (opnJ (gw k.toNatClampNeg) (gh k.toNatClampNeg) cl cx0 cx1 cy0 cy1 ic) (fun t => gd (4096 * k.toNatClampNeg + t)) (gd (4096 * k.toNatClampNeg + ixP x y)) co (pX ((rcO (opnJ (gw k.toNatClampNeg) (gh k.toNatClampNeg) cl cx0 cx1 cy0 cy1 ic) (fun t => gd (4096 * k.toNatClampNeg + t)) (gd (4096 * k.toNatClampNeg + ixP x y)) co st1 dn).2.1 dn)) (pY ((rcO (opnJ (gw k.toNatClampNeg) (gh k.toNatClampNeg) cl cx0 cx1 cy0 cy1 ic) (fun t => gd (4096 * k.toNatClampNeg + t)) (gd (4096 * k.toNatClampNeg + ixP x y)) co st1 dn).2.1 dn)) (rcO (opnJ (gw k.toNatClampNeg) (gh k.toNatClampNeg) cl cx0 cx1 cy0 cy1 ic) (fun t => gd (4096 * k.toNatClampNeg + t)) (gd (4096 * k.toNatClampNeg + ixP x y)) co st1 dn) (i + 1)) = rcS (opnJ (gw k.toNatClampNeg) (gh k.toNatClampNeg) cl cx0 cx1 cy0 cy1 ic) (fun t => gd (4096 * k.toNatClampNeg + t)) (gd (4096 * k.toNatClampNeg + ixP x y)) y_24 y_25 (rcI (opnJ (gw k.toNatClampNeg) (gh k.toNatClampNeg) cl cx0 cx1 cy0 cy1 ic) (fun t => gd (4096 * k.toNatClampNeg + t)) (gd (4096 * k.toNatClampNeg + ixP x y)) co (pX ((rcO (opnJ (gw k.toNatClampNeg) (gh k.toNatClampNeg) cl cx0 cx1 cy0 cy1 ic) (fun t => gd (4096 * k.toNatClampNeg + t)) (gd (4096 * k.toNatClampNeg + ixP x y)) co st1 dn).2.1 dn)) (pY ((rcO (opnJ (gw k.toNatClampNeg) (gh k.toNatClampNeg) cl cx0 cx1 cy0 cy1 ic) (fun t => gd (4096 * k.toNatClampNeg + t)) (gd (4096 * k.toNatClampNeg + ixP x y)) co st1 dn).2.1 dn)) (rcO (opnJ (gw k.toNatClampNeg) (gh k.toNatClampNeg) cl cx0 cx1 cy0 cy1 ic) (fun t => gd (4096 * k.toNatClampNeg + t)) (gd (4096 * k.toNatClampNeg + ixP x y)) co st1 dn) i) := by rw [hay_24, hay_25]; exact if_pos (Or.inl c_22)
                      have hSt : (rcI (opnJ (gw k.toNatClampNeg) (gh k.toNatClampNeg) cl cx0 cx1 cy0 cy1 ic) (fun t => gd (4096 * k.toNatClampNeg + t)) (gd (4096 * k.toNatClampNeg + ixP x y)) co (pX ((rcO (opnJ (gw k.toNatClampNeg) (gh k.toNatClampNeg) cl cx0 cx1 cy0 cy1 ic) (fun t => gd (4096 * k.toNatClampNeg + t)) (gd (4096 * k.toNatClampNeg + ixP x y)) co st1 dn).2.1 dn)) (pY ((rcO (opnJ (gw k.toNatClampNeg) (gh k.toNatClampNeg) cl cx0 cx1 cy0 cy1 ic) (fun t => gd (4096 * k.toNatClampNeg + t)) (gd (4096 * k.toNatClampNeg + ixP x y)) co st1 dn).2.1 dn)) (rcO (opnJ (gw k.toNatClampNeg) (gh k.toNatClampNeg) cl cx0 cx1 cy0 cy1 ic) (fun t => gd (4096 * k.toNatClampNeg + t)) (gd (4096 * k.toNatClampNeg + ixP x y)) co st1 dn) (i + 1)) = (rcI (opnJ (gw k.toNatClampNeg) (gh k.toNatClampNeg) cl cx0 cx1 cy0 cy1 ic) (fun t => gd (4096 * k.toNatClampNeg + t)) (gd (4096 * k.toNatClampNeg + ixP x y)) co (pX ((rcO (opnJ (gw k.toNatClampNeg) (gh k.toNatClampNeg) cl cx0 cx1 cy0 cy1 ic) (fun t => gd (4096 * k.toNatClampNeg + t)) (gd (4096 * k.toNatClampNeg + ixP x y)) co st1 dn).2.1 dn)) (pY ((rcO (opnJ (gw k.toNatClampNeg) (gh k.toNatClampNeg) cl cx0 cx1 cy0 cy1 ic) (fun t => gd (4096 * k.toNatClampNeg + t)) (gd (4096 * k.toNatClampNeg + ixP x y)) co st1 dn).2.1 dn)) (rcO (opnJ (gw k.toNatClampNeg) (gh k.toNatClampNeg) cl cx0 cx1 cy0 cy1 ic) (fun t => gd (4096 * k.toNatClampNeg + t)) (gd (4096 * k.toNatClampNeg + ixP x y)) co st1 dn) i) := hS1.trans (if_neg (fun q => q.1.1.2.elim c_30 (fun q => f_52 q)))
                      exact ih_15 (i + 1) y_69 z7 gu gs _ _ _ (by omega) (by omega) (by rw [ey_69, ex_i]; exact nI_1 i) (by rw [hSt]; exact f7) (by rw [hSt]; exact f3) (by rw [hSt]; exact f2) (by rw [hSt]; exact fcn) (hP.sub (ws' := [(m1, .inl (cI, 4, .inl gw)), (m2, .inl (cI, 4, .inl gh)), (m3, .inl (cI, 16384, .inl gd)), (m13, .inl (cI, 4096, .inl gs)), (h0, .inr (9, [.ref m1, .ref m2, .ref m3, .int ik, .int wy, .int op, .int cl, .int cx0, .int cx1, .int cy0, .int cy1, .int ds, .ref m4, .ref m5, .ref m6, .ref m7, .ref m8, .ref m9, .int pn, .ref m10, .ref m11, .ref m12, .ref m13])), (m4, .inl (cZ, 4096, .inl gu))]) [3, 4, 0, 1, 5, 2] rfl) (hD.sub (ws' := [(m1, .inl (cI, 4, .inl gw)), (m2, .inl (cI, 4, .inl gh)), (m3, .inl (cI, 16384, .inl gd)), (m13, .inl (cI, 4096, .inl gs)), (h0, .inr (9, [.ref m1, .ref m2, .ref m3, .int ik, .int wy, .int op, .int cl, .int cx0, .int cx1, .int cy0, .int cy1, .int ds, .ref m4, .ref m5, .ref m6, .ref m7, .ref m8, .ref m9, .int pn, .ref m10, .ref m11, .ref m12, .ref m13])), (m4, .inl (cZ, 4096, .inl gu))]) [3, 4, 0, 1, 5, 2] (by decide) rfl) hS (lv_sub hl [0, 3, 4, 5, 6, 7, 8, 9, 10, 11, 12, 13] rfl)
              · skip
                have f_23 : co.toInt = 0 := f_eq rfl (by decide) c_22
                refine lv_iload hx hb dX9_joins_115 (lv_at hl 1 rfl) ?_
                refine lv_if_eq (tgt := 125) hx hb dX9_joins_117 (by decide) (fun c_70 => ?_) (fun c_70 => ?_)
                · skip
                  have f_71 : y_19.toInt = 0 := f_eq rfl (by decide) c_70
                  refine lv_aload_n hx hb dX9_joins_125 rfl (lv_at hl 8 rfl) ?_
                  refine lv_iload_n hx hb dX9_joins_126 rfl (lv_at hl 9 rfl) ?_
                  refine lv_iload hx hb dX9_joins_127 (lv_at hl 5 rfl) ?_
                  refine lv_iload hx hb dX9_joins_129 (lv_at hl 1 rfl) ?_
                  refine lv_iadd hx hb dX9_joins_131 ?_
                  refine lv_topi (fun y_72 ey_72 => ?_)
                  have hay_72 : y_72 = pX ((rcO (opnJ (gw k.toNatClampNeg) (gh k.toNatClampNeg) cl cx0 cx1 cy0 cy1 ic) (fun t => gd (4096 * k.toNatClampNeg + t)) (gd (4096 * k.toNatClampNeg + ixP x y)) co st1 dn).2.1 dn) + dX i := by rw [ey_72, hp9, hdy_19]
                  refine lv_iload hx hb dX9_joins_132 (lv_at hl 4 rfl) ?_
                  refine lv_iload hx hb dX9_joins_134 (lv_at hl 0 rfl) ?_
                  refine lv_iadd hx hb dX9_joins_136 ?_
                  refine lv_topi (fun y_73 ey_73 => ?_)
                  have hay_73 : y_73 = pY ((rcO (opnJ (gw k.toNatClampNeg) (gh k.toNatClampNeg) cl cx0 cx1 cy0 cy1 ic) (fun t => gd (4096 * k.toNatClampNeg + t)) (gd (4096 * k.toNatClampNeg + ixP x y)) co st1 dn).2.1 dn) + dY i := by rw [ey_73, hp10, hdy_21]
                  have hPc := hP.sub (ws' := [(h0, .inr (9, [.ref m1, .ref m2, .ref m3, .int ik, .int wy, .int op, .int cl, .int cx0, .int cx1, .int cy0, .int cy1, .int ds, .ref m4, .ref m5, .ref m6, .ref m7, .ref m8, .ref m9, .int pn, .ref m10, .ref m11, .ref m12, .ref m13])), (m1, .inl (cI, 4, .inl gw)), (m2, .inl (cI, 4, .inl gh))]) [4, 0, 1] rfl
                  have hDc := hD.sub (ws' := [(h0, .inr (9, [.ref m1, .ref m2, .ref m3, .int ik, .int wy, .int op, .int cl, .int cx0, .int cx1, .int cy0, .int cy1, .int ds, .ref m4, .ref m5, .ref m6, .ref m7, .ref m8, .ref m9, .int pn, .ref m10, .ref m11, .ref m12, .ref m13])), (m1, .inl (cI, 4, .inl gw)), (m2, .inl (cI, 4, .inl gh))]) [4, 0, 1] (by decide) rfl
                  have hKc := hK.sub (tys' := [(cI, .int)]) [0] rfl
                  have hFc := va_free (wc := [(h0, .inr (9, [.ref m1, .ref m2, .ref m3, .int ik, .int wy, .int op, .int cl, .int cx0, .int cx1, .int cy0, .int cy1, .int ds, .ref m4, .ref m5, .ref m6, .ref m7, .ref m8, .ref m9, .int pn, .ref m10, .ref m11, .ref m12, .ref m13])), (m1, .inl (cI, 4, .inl gw)), (m2, .inl (cI, 4, .inl gh))]) hD hS hA [4, 0, 1] rfl
                  refine va_calli (va_runV (As := [.int k, .int y_72, .int y_73]) (rest := []) ⟨hx, hb, hml, hown, hts⟩ (k_X9_isOn l D H.size h0 m1 m2 m3 m4 m5 m6 m7 m8 m9 m10 m11 m12 m13 ik wy op cl cx0 cx1 cy0 cy1 ds pn gw gh k y_72 y_73 cI (by omega)) (cwV 3 hts (gV bw_433 bw_418 bw_419 bw_391 bw_417) rfl rfl rfl (by decide +kernel) ⟨(by rw [hR]; exact Nat.le_of_ble_eq_true rfl), (by rw [hR]; exact Nat.le_of_ble_eq_true rfl)⟩) ⟨cP_blind, va_recv hKc hPc (ci := 9) (q0 := 0) rfl rfl, cP_at hPc hKc hDc hN⟩ rfl rfl hl.1 rfl (lv_room (Nat.le_of_ble_eq_true rfl)) dX9_joins_137 ⟨(by rw [hR]; exact Nat.le_of_ble_eq_true rfl), (by rw [hR]; exact Nat.le_of_ble_eq_true rfl)⟩) hS (fun q _ h => hFc q h) hFc (fun r_74 u9 t9 H1 locs ht hvm hr_74 hB hz1 hk1 hS => ?_)
                  try dsimp only at hr_74
                  obtain ⟨hP1, hK1, hD1⟩ := hB
                  rw [ht] at hP1
                  obtain ⟨hP, hD⟩ := va_join (wr := [(m3, .inl (cI, 16384, .inl gd)), (m13, .inl (cI, 4096, .inl gs)), (m4, .inl (cZ, 4096, .inl gu))]) (w1 := [(h0, .inr (9, [.ref m1, .ref m2, .ref m3, .int ik, .int wy, .int op, .int cl, .int cx0, .int cx1, .int cy0, .int cy1, .int ds, .ref m4, .ref m5, .ref m6, .ref m7, .ref m8, .ref m9, .int pn, .ref m10, .ref m11, .ref m12, .ref m13])), (m1, .inl (cI, 4, .inl gw)), (m2, .inl (cI, 4, .inl gh))]) hP hD [4, 0, 1] [2, 3, 5] rfl rfl (by decide) (by decide) hk1 hFc hP1 hD1
                  clear hz1 hk1 hFc hKc hDc hPc
                  generalize H1 = H at hP hS ⊢
                  have hP : va_P D vwCl [(m3, .inl (cI, 16384, .inl gd)), (m13, .inl (cI, 4096, .inl gs)), (m4, .inl (cZ, 4096, .inl gu)), (h0, .inr (9, [.ref m1, .ref m2, .ref m3, .int ik, .int wy, .int op, .int cl, .int cx0, .int cx1, .int cy0, .int cy1, .int ds, .ref m4, .ref m5, .ref m6, .ref m7, .ref m8, .ref m9, .int pn, .ref m10, .ref m11, .ref m12, .ref m13])), (m1, .inl (cI, 4, .inl gw)), (m2, .inl (cI, 4, .inl gh))] H := hP
                  have hD : va_D A [(m3, .inl (cI, 16384, .inl gd)), (m13, .inl (cI, 4096, .inl gs)), (m4, .inl (cZ, 4096, .inl gu)), (h0, .inr (9, [.ref m1, .ref m2, .ref m3, .int ik, .int wy, .int op, .int cl, .int cx0, .int cx1, .int cy0, .int cy1, .int ds, .ref m4, .ref m5, .ref m6, .ref m7, .ref m8, .ref m9, .int pn, .ref m10, .ref m11, .ref m12, .ref m13])), (m1, .inl (cI, 4, .inl gw)), (m2, .inl (cI, 4, .inl gh))] := hD
                  refine lv_if_eq (tgt := 238) hx hb dX9_joins_140 (by decide) (fun c_75 => ?_) (fun c_75 => ?_)
                  · skip
                    have f_76 := bz0 hr_74 c_75
                    obtain ⟨y_77, ey_77⟩ : ∃ y : Int32, y = x11 + 1 := ⟨_, rfl⟩
                    refine lv_iinc (v := y_77) (lv' := [(11, .int y_77), (13, .int y_21), (12, .int y_19), (8, .int y_13), (10, .int y_12), (9, .int y_11), (7, .int z7), (6, .int (gd (4096 * k.toNatClampNeg + ixP x y))), (0, .ref h0), (1, .int k), (2, .int x), (3, .int y), (4, .int co), (5, .int ic)]) hx hb dX9_joins_238 hl (k := 2) rfl (by rw [ey_77]; rfl) (by decide) rfl (fun ls hl => ?_)
                    refine lv_goto (tgt := 87) hx hb dX9_joins_241 (by decide) ?_
                    have hS1 : (rcI (opnJ (gw k.toNatClampNeg) (gh k.toNatClampNeg) cl cx0 cx1 cy0 cy1 ic) (fun t => gd (4096 * k.toNatClampNeg + t)) (gd (4096 * k.toNatClampNeg + ixP x y)) co (pX ((rcO (opnJ (gw k.toNatClampNeg) (gh k.toNatClampNeg) cl cx0 cx1 cy0 cy1 ic) (fun t => gd (4096 * k.toNatClampNeg + t)) (gd (4096 * k.toNatClampNeg + ixP x y)) co st1 dn).2.1 dn)) (pY ((rcO (opnJ (gw k.toNatClampNeg) (gh k.toNatClampNeg) cl cx0 cx1 cy0 cy1 ic) (fun t => gd (4096 * k.toNatClampNeg + t)) (gd (4096 * k.toNatClampNeg + ixP x y)) co st1 dn).2.1 dn)) (rcO (opnJ (gw k.toNatClampNeg) (gh k.toNatClampNeg) cl cx0 cx1 cy0 cy1 ic) (fun t => gd (4096 * k.toNatClampNeg + t)) (gd (4096 * k.toNatClampNeg + ixP x y)) co st1 dn) (i + 1)) = rcS (opnJ (gw k.toNatClampNeg) (gh k.toNatClampNeg) cl cx0 cx1 cy0 cy1 ic) (fun t => gd (4096 * k.toNatClampNeg + t)) (gd (4096 * k.toNatClampNeg + ixP x y)) y_72 y_73 (rcI (opnJ (gw k.toNatClampNeg) (gh k.toNatClampNeg) cl cx0 cx1 cy0 cy1 ic) (fun t => gd (4096 * k.toNatClampNeg + t)) (gd (4096 * k.toNatClampNeg + ixP x y)) co (pX ((rcO (opnJ (gw k.toNatClampNeg) (gh k.toNatClampNeg) cl cx0 cx1 cy0 cy1 ic) (fun t => gd (4096 * k.toNatClampNeg + t)) (gd (4096 * k.toNatClampNeg + ixP x y)) co st1 dn).2.1 dn)) (pY ((rcO (opnJ (gw k.toNatClampNeg) (gh k.toNatClampNeg) cl cx0 cx1 cy0 cy1 ic) (fun t => gd (4096 * k.toNatClampNeg + t)) (gd (4096 * k.toNatClampNeg + ixP x y)) co st1 dn).2.1 dn)) (rcO (opnJ (gw k.toNatClampNeg) (gh k.toNatClampNeg) cl cx0 cx1 cy0 cy1 ic) (fun t => gd (4096 * k.toNatClampNeg + t)) (gd (4096 * k.toNatClampNeg + ixP x y)) co st1 dn) i) := by rw [hay_72, hay_73]; exact if_pos (Or.inr (Or.inl (hdy_19.symm.trans c_70)))
                    have hSt : (rcI (opnJ (gw k.toNatClampNeg) (gh k.toNatClampNeg) cl cx0 cx1 cy0 cy1 ic) (fun t => gd (4096 * k.toNatClampNeg + t)) (gd (4096 * k.toNatClampNeg + ixP x y)) co (pX ((rcO (opnJ (gw k.toNatClampNeg) (gh k.toNatClampNeg) cl cx0 cx1 cy0 cy1 ic) (fun t => gd (4096 * k.toNatClampNeg + t)) (gd (4096 * k.toNatClampNeg + ixP x y)) co st1 dn).2.1 dn)) (pY ((rcO (opnJ (gw k.toNatClampNeg) (gh k.toNatClampNeg) cl cx0 cx1 cy0 cy1 ic) (fun t => gd (4096 * k.toNatClampNeg + t)) (gd (4096 * k.toNatClampNeg + ixP x y)) co st1 dn).2.1 dn)) (rcO (opnJ (gw k.toNatClampNeg) (gh k.toNatClampNeg) cl cx0 cx1 cy0 cy1 ic) (fun t => gd (4096 * k.toNatClampNeg + t)) (gd (4096 * k.toNatClampNeg + ixP x y)) co st1 dn) (i + 1)) = (rcI (opnJ (gw k.toNatClampNeg) (gh k.toNatClampNeg) cl cx0 cx1 cy0 cy1 ic) (fun t => gd (4096 * k.toNatClampNeg + t)) (gd (4096 * k.toNatClampNeg + ixP x y)) co (pX ((rcO (opnJ (gw k.toNatClampNeg) (gh k.toNatClampNeg) cl cx0 cx1 cy0 cy1 ic) (fun t => gd (4096 * k.toNatClampNeg + t)) (gd (4096 * k.toNatClampNeg + ixP x y)) co st1 dn).2.1 dn)) (pY ((rcO (opnJ (gw k.toNatClampNeg) (gh k.toNatClampNeg) cl cx0 cx1 cy0 cy1 ic) (fun t => gd (4096 * k.toNatClampNeg + t)) (gd (4096 * k.toNatClampNeg + ixP x y)) co st1 dn).2.1 dn)) (rcO (opnJ (gw k.toNatClampNeg) (gh k.toNatClampNeg) cl cx0 cx1 cy0 cy1 ic) (fun t => gd (4096 * k.toNatClampNeg + t)) (gd (4096 * k.toNatClampNeg + ixP x y)) co st1 dn) i) := hS1.trans (if_neg (fun q => f_76 q.1.1.1))
                    exact ih_15 (i + 1) y_77 z7 gu gs _ _ _ (by omega) (by omega) (by rw [ey_77, ex_i]; exact nI_1 i) (by rw [hSt]; exact f7) (by rw [hSt]; exact f3) (by rw [hSt]; exact f2) (by rw [hSt]; exact fcn) (hP.sub (ws' := [(m1, .inl (cI, 4, .inl gw)), (m2, .inl (cI, 4, .inl gh)), (m3, .inl (cI, 16384, .inl gd)), (m13, .inl (cI, 4096, .inl gs)), (h0, .inr (9, [.ref m1, .ref m2, .ref m3, .int ik, .int wy, .int op, .int cl, .int cx0, .int cx1, .int cy0, .int cy1, .int ds, .ref m4, .ref m5, .ref m6, .ref m7, .ref m8, .ref m9, .int pn, .ref m10, .ref m11, .ref m12, .ref m13])), (m4, .inl (cZ, 4096, .inl gu))]) [4, 5, 0, 1, 3, 2] rfl) (hD.sub (ws' := [(m1, .inl (cI, 4, .inl gw)), (m2, .inl (cI, 4, .inl gh)), (m3, .inl (cI, 16384, .inl gd)), (m13, .inl (cI, 4096, .inl gs)), (h0, .inr (9, [.ref m1, .ref m2, .ref m3, .int ik, .int wy, .int op, .int cl, .int cx0, .int cx1, .int cy0, .int cy1, .int ds, .ref m4, .ref m5, .ref m6, .ref m7, .ref m8, .ref m9, .int pn, .ref m10, .ref m11, .ref m12, .ref m13])), (m4, .inl (cZ, 4096, .inl gu))]) [4, 5, 0, 1, 3, 2] (by decide) rfl) hS (lv_sub hl [0, 3, 4, 5, 6, 7, 8, 9, 10, 11, 12, 13] rfl)
                  · skip
                    have f_76 := bz1 hr_74 c_75
                    refine lv_iload hx hb dX9_joins_143 (lv_at hl 13 rfl) ?_
                    refine lv_if_eq (tgt := 168) hx hb dX9_joins_145 (by decide) (fun c_78 => ?_) (fun c_78 => ?_)
                    · skip
                      have f_79 : ic.toInt = 0 := f_eq rfl (by decide) c_78
                      refine lv_bipush (v := 64) hx hb dX9_joins_168 (by decide) ?_
                      refine lv_iload hx hb dX9_joins_170 (lv_at hl 4 rfl) ?_
                      refine lv_iload hx hb dX9_joins_172 (lv_at hl 0 rfl) ?_
                      refine lv_iadd hx hb dX9_joins_174 ?_
                      refine lv_topi (fun y_80 ey_80 => ?_)
                      have hay_80 : y_80 = pY ((rcO (opnJ (gw k.toNatClampNeg) (gh k.toNatClampNeg) cl cx0 cx1 cy0 cy1 ic) (fun t => gd (4096 * k.toNatClampNeg + t)) (gd (4096 * k.toNatClampNeg + ixP x y)) co st1 dn).2.1 dn) + dY i := by rw [ey_80, hp10, hdy_21]
                      refine lv_imul hx hb dX9_joins_175 ?_
                      refine lv_topi (fun y_81 ey_81 => ?_)
                      refine lv_iload hx hb dX9_joins_176 (lv_at hl 5 rfl) ?_
                      refine lv_iadd hx hb dX9_joins_178 ?_
                      refine lv_topi (fun y_82 ey_82 => ?_)
                      refine lv_iload hx hb dX9_joins_179 (lv_at hl 1 rfl) ?_
                      refine lv_iadd hx hb dX9_joins_181 ?_
                      refine lv_topi (fun y_83 ey_83 => ?_)
                      have htoy_83 : y_83 = 64 * y_73 + y_72 := by rw [ey_83, ey_82, ey_81, ey_80, ey_73, ey_72, Int32.add_assoc]
                      have hiny_83 : vp_in y_83 4096 := by rw [htoy_83]; exact ix_in2 (by omega) (by omega) (by omega) (by omega)
                      have hixy_83 : y_83 = nI (ixP y_72 y_73) := by rw [htoy_83]; exact ix_nI2 (by omega) (by omega) (by omega) (by omega)
                      have hxcy_83 : y_83.toNatClampNeg = ixP y_72 y_73 := by rw [hixy_83]; exact nI_clamp (by have := ix_lt (x := y_72) (y := y_73) (by omega) (by omega) (by omega) (by omega); omega)
                      refine lv_istore (lv' := [(14, .int y_83), (13, .int y_21), (12, .int y_19), (11, .int x11), (8, .int y_13), (10, .int y_12), (9, .int y_11), (7, .int z7), (6, .int (gd (4096 * k.toNatClampNeg + ixP x y))), (0, .ref h0), (1, .int k), (2, .int x), (3, .int y), (4, .int co), (5, .int ic)]) hx hb dX9_joins_182 hl (by decide) rfl (fun ls hl => ?_)
                      refine lv_aload_n hx hb dX9_joins_184 rfl (lv_at hl 9 rfl) ?_
                      refine va_get (D := D) (ci := 9) (v := .ref m4) (C := RX9) (T := TX9) (N := 23) hx hb hts hi_X9 hown hK hP 3 rfl rfl 12 (by decide) (hts _ bw_404) (fun _ h9 => h9) rfl dX9_joins_185 ?_
                      refine lv_iload hx hb dX9_joins_188 (lv_at hl 0 rfl) ?_
                      refine va_zald hx hb hK hP 2 1 rfl rfl hiny_83 dX9_joins_190 ?_
                      refine lv_if_ne (tgt := 238) hx hb dX9_joins_191 (by decide) (fun c_84 => ?_) (fun c_84 => ?_)
                      · skip
                        have f_85 : ¬ ((gu y_83.toNatClampNeg).toInt = 0) := fn_eq rfl (by decide) c_84
                        obtain ⟨y_86, ey_86⟩ : ∃ y : Int32, y = x11 + 1 := ⟨_, rfl⟩
                        refine lv_iinc (v := y_86) (lv' := [(11, .int y_86), (14, .int y_83), (13, .int y_21), (12, .int y_19), (8, .int y_13), (10, .int y_12), (9, .int y_11), (7, .int z7), (6, .int (gd (4096 * k.toNatClampNeg + ixP x y))), (0, .ref h0), (1, .int k), (2, .int x), (3, .int y), (4, .int co), (5, .int ic)]) hx hb dX9_joins_238 hl (k := 3) rfl (by rw [ey_86]; rfl) (by decide) rfl (fun ls hl => ?_)
                        refine lv_goto (tgt := 87) hx hb dX9_joins_241 (by decide) ?_
                        have hS1 : (rcI (opnJ (gw k.toNatClampNeg) (gh k.toNatClampNeg) cl cx0 cx1 cy0 cy1 ic) (fun t => gd (4096 * k.toNatClampNeg + t)) (gd (4096 * k.toNatClampNeg + ixP x y)) co (pX ((rcO (opnJ (gw k.toNatClampNeg) (gh k.toNatClampNeg) cl cx0 cx1 cy0 cy1 ic) (fun t => gd (4096 * k.toNatClampNeg + t)) (gd (4096 * k.toNatClampNeg + ixP x y)) co st1 dn).2.1 dn)) (pY ((rcO (opnJ (gw k.toNatClampNeg) (gh k.toNatClampNeg) cl cx0 cx1 cy0 cy1 ic) (fun t => gd (4096 * k.toNatClampNeg + t)) (gd (4096 * k.toNatClampNeg + ixP x y)) co st1 dn).2.1 dn)) (rcO (opnJ (gw k.toNatClampNeg) (gh k.toNatClampNeg) cl cx0 cx1 cy0 cy1 ic) (fun t => gd (4096 * k.toNatClampNeg + t)) (gd (4096 * k.toNatClampNeg + ixP x y)) co st1 dn) (i + 1)) = rcS (opnJ (gw k.toNatClampNeg) (gh k.toNatClampNeg) cl cx0 cx1 cy0 cy1 ic) (fun t => gd (4096 * k.toNatClampNeg + t)) (gd (4096 * k.toNatClampNeg + ixP x y)) y_72 y_73 (rcI (opnJ (gw k.toNatClampNeg) (gh k.toNatClampNeg) cl cx0 cx1 cy0 cy1 ic) (fun t => gd (4096 * k.toNatClampNeg + t)) (gd (4096 * k.toNatClampNeg + ixP x y)) co (pX ((rcO (opnJ (gw k.toNatClampNeg) (gh k.toNatClampNeg) cl cx0 cx1 cy0 cy1 ic) (fun t => gd (4096 * k.toNatClampNeg + t)) (gd (4096 * k.toNatClampNeg + ixP x y)) co st1 dn).2.1 dn)) (pY ((rcO (opnJ (gw k.toNatClampNeg) (gh k.toNatClampNeg) cl cx0 cx1 cy0 cy1 ic) (fun t => gd (4096 * k.toNatClampNeg + t)) (gd (4096 * k.toNatClampNeg + ixP x y)) co st1 dn).2.1 dn)) (rcO (opnJ (gw k.toNatClampNeg) (gh k.toNatClampNeg) cl cx0 cx1 cy0 cy1 ic) (fun t => gd (4096 * k.toNatClampNeg + t)) (gd (4096 * k.toNatClampNeg + ixP x y)) co st1 dn) i) := by rw [hay_72, hay_73]; exact if_pos (Or.inr (Or.inl (hdy_19.symm.trans c_70)))
                        have hSt : (rcI (opnJ (gw k.toNatClampNeg) (gh k.toNatClampNeg) cl cx0 cx1 cy0 cy1 ic) (fun t => gd (4096 * k.toNatClampNeg + t)) (gd (4096 * k.toNatClampNeg + ixP x y)) co (pX ((rcO (opnJ (gw k.toNatClampNeg) (gh k.toNatClampNeg) cl cx0 cx1 cy0 cy1 ic) (fun t => gd (4096 * k.toNatClampNeg + t)) (gd (4096 * k.toNatClampNeg + ixP x y)) co st1 dn).2.1 dn)) (pY ((rcO (opnJ (gw k.toNatClampNeg) (gh k.toNatClampNeg) cl cx0 cx1 cy0 cy1 ic) (fun t => gd (4096 * k.toNatClampNeg + t)) (gd (4096 * k.toNatClampNeg + ixP x y)) co st1 dn).2.1 dn)) (rcO (opnJ (gw k.toNatClampNeg) (gh k.toNatClampNeg) cl cx0 cx1 cy0 cy1 ic) (fun t => gd (4096 * k.toNatClampNeg + t)) (gd (4096 * k.toNatClampNeg + ixP x y)) co st1 dn) (i + 1)) = (rcI (opnJ (gw k.toNatClampNeg) (gh k.toNatClampNeg) cl cx0 cx1 cy0 cy1 ic) (fun t => gd (4096 * k.toNatClampNeg + t)) (gd (4096 * k.toNatClampNeg + ixP x y)) co (pX ((rcO (opnJ (gw k.toNatClampNeg) (gh k.toNatClampNeg) cl cx0 cx1 cy0 cy1 ic) (fun t => gd (4096 * k.toNatClampNeg + t)) (gd (4096 * k.toNatClampNeg + ixP x y)) co st1 dn).2.1 dn)) (pY ((rcO (opnJ (gw k.toNatClampNeg) (gh k.toNatClampNeg) cl cx0 cx1 cy0 cy1 ic) (fun t => gd (4096 * k.toNatClampNeg + t)) (gd (4096 * k.toNatClampNeg + ixP x y)) co st1 dn).2.1 dn)) (rcO (opnJ (gw k.toNatClampNeg) (gh k.toNatClampNeg) cl cx0 cx1 cy0 cy1 ic) (fun t => gd (4096 * k.toNatClampNeg + t)) (gd (4096 * k.toNatClampNeg + ixP x y)) co st1 dn) i) := hS1.trans (if_neg (fun q => c_84 (by rw [f3, hxcy_83]; exact q.2.1)))
                        exact ih_15 (i + 1) y_86 z7 gu gs _ _ _ (by omega) (by omega) (by rw [ey_86, ex_i]; exact nI_1 i) (by rw [hSt]; exact f7) (by rw [hSt]; exact f3) (by rw [hSt]; exact f2) (by rw [hSt]; exact fcn) (hP.sub (ws' := [(m1, .inl (cI, 4, .inl gw)), (m2, .inl (cI, 4, .inl gh)), (m3, .inl (cI, 16384, .inl gd)), (m13, .inl (cI, 4096, .inl gs)), (h0, .inr (9, [.ref m1, .ref m2, .ref m3, .int ik, .int wy, .int op, .int cl, .int cx0, .int cx1, .int cy0, .int cy1, .int ds, .ref m4, .ref m5, .ref m6, .ref m7, .ref m8, .ref m9, .int pn, .ref m10, .ref m11, .ref m12, .ref m13])), (m4, .inl (cZ, 4096, .inl gu))]) [4, 5, 0, 1, 3, 2] rfl) (hD.sub (ws' := [(m1, .inl (cI, 4, .inl gw)), (m2, .inl (cI, 4, .inl gh)), (m3, .inl (cI, 16384, .inl gd)), (m13, .inl (cI, 4096, .inl gs)), (h0, .inr (9, [.ref m1, .ref m2, .ref m3, .int ik, .int wy, .int op, .int cl, .int cx0, .int cx1, .int cy0, .int cy1, .int ds, .ref m4, .ref m5, .ref m6, .ref m7, .ref m8, .ref m9, .int pn, .ref m10, .ref m11, .ref m12, .ref m13])), (m4, .inl (cZ, 4096, .inl gu))]) [4, 5, 0, 1, 3, 2] (by decide) rfl) hS (lv_sub hl [0, 4, 5, 6, 7, 8, 9, 10, 11, 12, 13, 14] rfl)
                      · skip
                        have f_85 : (gu y_83.toNatClampNeg).toInt = 0 := f_eq rfl (by decide) c_84
                        refine lv_aload_n hx hb dX9_joins_194 rfl (lv_at hl 9 rfl) ?_
                        refine va_get (D := D) (ci := 9) (v := .ref m3) (C := RX9) (T := TX9) (N := 23) hx hb hts hi_X9 hown hK hP 3 rfl rfl 2 (by decide) (hts _ bw_398) (fun _ h9 => h9) rfl dX9_joins_195 ?_
                        refine lv_sipush (v := 4096) hx hb dX9_joins_198 (by decide) ?_
                        refine lv_iload_n hx hb dX9_joins_201 rfl (lv_at hl 10 rfl) ?_
                        refine lv_imul hx hb dX9_joins_202 ?_
                        refine lv_topi (fun y_87 ey_87 => ?_)
                        refine lv_iload hx hb dX9_joins_203 (lv_at hl 0 rfl) ?_
                        refine lv_iadd hx hb dX9_joins_205 ?_
                        refine lv_topi (fun y_88 ey_88 => ?_)
                        refine va_iald hx hb hK hP 0 0 rfl rfl (by rw [ey_88, ey_87]; exact kp_in (by omega) hiny_83) dX9_joins_206 ?_
                        refine my_fold (v := gd (4096 * k.toNatClampNeg + ixP y_72 y_73)) (congrArg gd (by rw [ey_88, ey_87]; exact dotx (gd := gd) (y := k) hkk hixy_83 (ix_lt (by omega) (by omega) (by omega) (by omega)) ek)) ?_
                        refine lv_iload hx hb dX9_joins_207 (lv_at hl 8 rfl) ?_
                        refine lv_icmp_eq (tgt := 215) hx hb dX9_joins_209 (by decide) (fun c_89 => ?_) (fun c_89 => ?_)
                        · skip
                          have f_90 : (gd (4096 * k.toNatClampNeg + ixP y_72 y_73)).toInt = (gd (4096 * k.toNatClampNeg + ixP x y)).toInt := f_eq rfl rfl c_89
                          refine lv_aload_n hx hb dX9_joins_215 rfl (lv_at hl 9 rfl) ?_
                          refine va_get (D := D) (ci := 9) (v := .ref m4) (C := RX9) (T := TX9) (N := 23) hx hb hts hi_X9 hown hK hP 3 rfl rfl 12 (by decide) (hts _ bw_404) (fun _ h9 => h9) rfl dX9_joins_216 ?_
                          refine lv_iload hx hb dX9_joins_219 (lv_at hl 0 rfl) ?_
                          refine lv_iconst (v := 1) hx hb dX9_joins_221 (by decide) ?_
                          refine va_zast hx hb hK hP hD hS 2 1 rfl rfl hiny_83 dX9_joins_222 (fun H locs hP hD hS => ?_)
                          have hP : va_P D vwCl [(m3, .inl (cI, 16384, .inl gd)), (m13, .inl (cI, 4096, .inl gs)), (m4, .inl (cZ, 4096, .inl (upd gu y_83.toNatClampNeg (vp_nar .boolean 1)))), (h0, .inr (9, [.ref m1, .ref m2, .ref m3, .int ik, .int wy, .int op, .int cl, .int cx0, .int cx1, .int cy0, .int cy1, .int ds, .ref m4, .ref m5, .ref m6, .ref m7, .ref m8, .ref m9, .int pn, .ref m10, .ref m11, .ref m12, .ref m13])), (m1, .inl (cI, 4, .inl gw)), (m2, .inl (cI, 4, .inl gh))] H := hP
                          have hD : va_D A [(m3, .inl (cI, 16384, .inl gd)), (m13, .inl (cI, 4096, .inl gs)), (m4, .inl (cZ, 4096, .inl (upd gu y_83.toNatClampNeg (vp_nar .boolean 1)))), (h0, .inr (9, [.ref m1, .ref m2, .ref m3, .int ik, .int wy, .int op, .int cl, .int cx0, .int cx1, .int cy0, .int cy1, .int ds, .ref m4, .ref m5, .ref m6, .ref m7, .ref m8, .ref m9, .int pn, .ref m10, .ref m11, .ref m12, .ref m13])), (m1, .inl (cI, 4, .inl gw)), (m2, .inl (cI, 4, .inl gh))] := hD
                          generalize eg_91 : upd gu y_83.toNatClampNeg (vp_nar .boolean 1) = g_91 at hP hD
                          have hP : va_P D vwCl [(m3, .inl (cI, 16384, .inl gd)), (m13, .inl (cI, 4096, .inl gs)), (m4, .inl (cZ, 4096, .inl g_91)), (h0, .inr (9, [.ref m1, .ref m2, .ref m3, .int ik, .int wy, .int op, .int cl, .int cx0, .int cx1, .int cy0, .int cy1, .int ds, .ref m4, .ref m5, .ref m6, .ref m7, .ref m8, .ref m9, .int pn, .ref m10, .ref m11, .ref m12, .ref m13])), (m1, .inl (cI, 4, .inl gw)), (m2, .inl (cI, 4, .inl gh))] H := hP
                          have hD : va_D A [(m3, .inl (cI, 16384, .inl gd)), (m13, .inl (cI, 4096, .inl gs)), (m4, .inl (cZ, 4096, .inl g_91)), (h0, .inr (9, [.ref m1, .ref m2, .ref m3, .int ik, .int wy, .int op, .int cl, .int cx0, .int cx1, .int cy0, .int cy1, .int ds, .ref m4, .ref m5, .ref m6, .ref m7, .ref m8, .ref m9, .int pn, .ref m10, .ref m11, .ref m12, .ref m13])), (m1, .inl (cI, 4, .inl gw)), (m2, .inl (cI, 4, .inl gh))] := hD
                          have hmk : (rcI (opnJ (gw k.toNatClampNeg) (gh k.toNatClampNeg) cl cx0 cx1 cy0 cy1 ic) (fun t => gd (4096 * k.toNatClampNeg + t)) (gd (4096 * k.toNatClampNeg + ixP x y)) co (pX ((rcO (opnJ (gw k.toNatClampNeg) (gh k.toNatClampNeg) cl cx0 cx1 cy0 cy1 ic) (fun t => gd (4096 * k.toNatClampNeg + t)) (gd (4096 * k.toNatClampNeg + ixP x y)) co st1 dn).2.1 dn)) (pY ((rcO (opnJ (gw k.toNatClampNeg) (gh k.toNatClampNeg) cl cx0 cx1 cy0 cy1 ic) (fun t => gd (4096 * k.toNatClampNeg + t)) (gd (4096 * k.toNatClampNeg + ixP x y)) co st1 dn).2.1 dn)) (rcO (opnJ (gw k.toNatClampNeg) (gh k.toNatClampNeg) cl cx0 cx1 cy0 cy1 ic) (fun t => gd (4096 * k.toNatClampNeg + t)) (gd (4096 * k.toNatClampNeg + ixP x y)) co st1 dn) i).1 (ixP y_72 y_73) = 0 := by rw [← f3, ← hxcy_83]; exact c_84
                          have hixn : ixP y_72 y_73 < 4096 := ix_lt (by omega) (by omega) (by omega) (by omega)
                          have hcn2 : cntP (upd (rcI (opnJ (gw k.toNatClampNeg) (gh k.toNatClampNeg) cl cx0 cx1 cy0 cy1 ic) (fun t => gd (4096 * k.toNatClampNeg + t)) (gd (4096 * k.toNatClampNeg + ixP x y)) co (pX ((rcO (opnJ (gw k.toNatClampNeg) (gh k.toNatClampNeg) cl cx0 cx1 cy0 cy1 ic) (fun t => gd (4096 * k.toNatClampNeg + t)) (gd (4096 * k.toNatClampNeg + ixP x y)) co st1 dn).2.1 dn)) (pY ((rcO (opnJ (gw k.toNatClampNeg) (gh k.toNatClampNeg) cl cx0 cx1 cy0 cy1 ic) (fun t => gd (4096 * k.toNatClampNeg + t)) (gd (4096 * k.toNatClampNeg + ixP x y)) co st1 dn).2.1 dn)) (rcO (opnJ (gw k.toNatClampNeg) (gh k.toNatClampNeg) cl cx0 cx1 cy0 cy1 ic) (fun t => gd (4096 * k.toNatClampNeg + t)) (gd (4096 * k.toNatClampNeg + ixP x y)) co st1 dn) i).1 (ixP y_72 y_73) 1) 4096 = (rcI (opnJ (gw k.toNatClampNeg) (gh k.toNatClampNeg) cl cx0 cx1 cy0 cy1 ic) (fun t => gd (4096 * k.toNatClampNeg + t)) (gd (4096 * k.toNatClampNeg + ixP x y)) co (pX ((rcO (opnJ (gw k.toNatClampNeg) (gh k.toNatClampNeg) cl cx0 cx1 cy0 cy1 ic) (fun t => gd (4096 * k.toNatClampNeg + t)) (gd (4096 * k.toNatClampNeg + ixP x y)) co st1 dn).2.1 dn)) (pY ((rcO (opnJ (gw k.toNatClampNeg) (gh k.toNatClampNeg) cl cx0 cx1 cy0 cy1 ic) (fun t => gd (4096 * k.toNatClampNeg + t)) (gd (4096 * k.toNatClampNeg + ixP x y)) co st1 dn).2.1 dn)) (rcO (opnJ (gw k.toNatClampNeg) (gh k.toNatClampNeg) cl cx0 cx1 cy0 cy1 ic) (fun t => gd (4096 * k.toNatClampNeg + t)) (gd (4096 * k.toNatClampNeg + ixP x y)) co st1 dn) i).2.2 + 1 := by rw [cnt_up1 hixn hmk, fcn]
                          have hm2 : (rcI (opnJ (gw k.toNatClampNeg) (gh k.toNatClampNeg) cl cx0 cx1 cy0 cy1 ic) (fun t => gd (4096 * k.toNatClampNeg + t)) (gd (4096 * k.toNatClampNeg + ixP x y)) co (pX ((rcO (opnJ (gw k.toNatClampNeg) (gh k.toNatClampNeg) cl cx0 cx1 cy0 cy1 ic) (fun t => gd (4096 * k.toNatClampNeg + t)) (gd (4096 * k.toNatClampNeg + ixP x y)) co st1 dn).2.1 dn)) (pY ((rcO (opnJ (gw k.toNatClampNeg) (gh k.toNatClampNeg) cl cx0 cx1 cy0 cy1 ic) (fun t => gd (4096 * k.toNatClampNeg + t)) (gd (4096 * k.toNatClampNeg + ixP x y)) co st1 dn).2.1 dn)) (rcO (opnJ (gw k.toNatClampNeg) (gh k.toNatClampNeg) cl cx0 cx1 cy0 cy1 ic) (fun t => gd (4096 * k.toNatClampNeg + t)) (gd (4096 * k.toNatClampNeg + ixP x y)) co st1 dn) i).2.2 + 1 ≤ 4096 := by rw [← hcn2]; exact cntP_le _ _
                          refine lv_aload_n hx hb dX9_joins_223 rfl (lv_at hl 9 rfl) ?_
                          refine va_get (D := D) (ci := 9) (v := .ref m13) (C := RX9) (T := TX9) (N := 23) hx hb hts hi_X9 hown hK hP 3 rfl rfl 22 (by decide) (hts _ bw_413) (fun _ h9 => h9) rfl dX9_joins_224 ?_
                          refine lv_iload hx hb dX9_joins_227 (lv_at hl 7 rfl) ?_
                          refine lv_iload hx hb dX9_joins_229 (lv_at hl 0 rfl) ?_
                          refine va_iast hx hb hK hP hD hS 1 0 rfl rfl (vp_in_iff.mpr ⟨by omega, by omega⟩) dX9_joins_231 (fun H locs hP hD hS => ?_)
                          have hP : va_P D vwCl [(m3, .inl (cI, 16384, .inl gd)), (m13, .inl (cI, 4096, .inl (upd gs z7.toNatClampNeg y_83))), (m4, .inl (cZ, 4096, .inl g_91)), (h0, .inr (9, [.ref m1, .ref m2, .ref m3, .int ik, .int wy, .int op, .int cl, .int cx0, .int cx1, .int cy0, .int cy1, .int ds, .ref m4, .ref m5, .ref m6, .ref m7, .ref m8, .ref m9, .int pn, .ref m10, .ref m11, .ref m12, .ref m13])), (m1, .inl (cI, 4, .inl gw)), (m2, .inl (cI, 4, .inl gh))] H := hP
                          have hD : va_D A [(m3, .inl (cI, 16384, .inl gd)), (m13, .inl (cI, 4096, .inl (upd gs z7.toNatClampNeg y_83))), (m4, .inl (cZ, 4096, .inl g_91)), (h0, .inr (9, [.ref m1, .ref m2, .ref m3, .int ik, .int wy, .int op, .int cl, .int cx0, .int cx1, .int cy0, .int cy1, .int ds, .ref m4, .ref m5, .ref m6, .ref m7, .ref m8, .ref m9, .int pn, .ref m10, .ref m11, .ref m12, .ref m13])), (m1, .inl (cI, 4, .inl gw)), (m2, .inl (cI, 4, .inl gh))] := hD
                          generalize eg_92 : upd gs z7.toNatClampNeg y_83 = g_92 at hP hD
                          have hP : va_P D vwCl [(m3, .inl (cI, 16384, .inl gd)), (m13, .inl (cI, 4096, .inl g_92)), (m4, .inl (cZ, 4096, .inl g_91)), (h0, .inr (9, [.ref m1, .ref m2, .ref m3, .int ik, .int wy, .int op, .int cl, .int cx0, .int cx1, .int cy0, .int cy1, .int ds, .ref m4, .ref m5, .ref m6, .ref m7, .ref m8, .ref m9, .int pn, .ref m10, .ref m11, .ref m12, .ref m13])), (m1, .inl (cI, 4, .inl gw)), (m2, .inl (cI, 4, .inl gh))] H := hP
                          have hD : va_D A [(m3, .inl (cI, 16384, .inl gd)), (m13, .inl (cI, 4096, .inl g_92)), (m4, .inl (cZ, 4096, .inl g_91)), (h0, .inr (9, [.ref m1, .ref m2, .ref m3, .int ik, .int wy, .int op, .int cl, .int cx0, .int cx1, .int cy0, .int cy1, .int ds, .ref m4, .ref m5, .ref m6, .ref m7, .ref m8, .ref m9, .int pn, .ref m10, .ref m11, .ref m12, .ref m13])), (m1, .inl (cI, 4, .inl gw)), (m2, .inl (cI, 4, .inl gh))] := hD
                          refine lv_iload hx hb dX9_joins_232 (lv_at hl 7 rfl) ?_
                          refine lv_iconst (v := 1) hx hb dX9_joins_234 (by decide) ?_
                          refine lv_iadd hx hb dX9_joins_235 ?_
                          refine lv_topi (fun y_93 ey_93 => ?_)
                          refine lv_istore (lv' := [(7, .int y_93), (14, .int y_83), (13, .int y_21), (12, .int y_19), (11, .int x11), (8, .int y_13), (10, .int y_12), (9, .int y_11), (6, .int (gd (4096 * k.toNatClampNeg + ixP x y))), (0, .ref h0), (1, .int k), (2, .int x), (3, .int y), (4, .int co), (5, .int ic)]) hx hb dX9_joins_236 hl (by decide) rfl (fun ls hl => ?_)
                          obtain ⟨y_94, ey_94⟩ : ∃ y : Int32, y = x11 + 1 := ⟨_, rfl⟩
                          refine lv_iinc (v := y_94) (lv' := [(11, .int y_94), (7, .int y_93), (14, .int y_83), (13, .int y_21), (12, .int y_19), (8, .int y_13), (10, .int y_12), (9, .int y_11), (6, .int (gd (4096 * k.toNatClampNeg + ixP x y))), (0, .ref h0), (1, .int k), (2, .int x), (3, .int y), (4, .int co), (5, .int ic)]) hx hb dX9_joins_238 hl (k := 4) rfl (by rw [ey_94]; rfl) (by decide) rfl (fun ls hl => ?_)
                          refine lv_goto (tgt := 87) hx hb dX9_joins_241 (by decide) ?_
                          have hS1 : (rcI (opnJ (gw k.toNatClampNeg) (gh k.toNatClampNeg) cl cx0 cx1 cy0 cy1 ic) (fun t => gd (4096 * k.toNatClampNeg + t)) (gd (4096 * k.toNatClampNeg + ixP x y)) co (pX ((rcO (opnJ (gw k.toNatClampNeg) (gh k.toNatClampNeg) cl cx0 cx1 cy0 cy1 ic) (fun t => gd (4096 * k.toNatClampNeg + t)) (gd (4096 * k.toNatClampNeg + ixP x y)) co st1 dn).2.1 dn)) (pY ((rcO (opnJ (gw k.toNatClampNeg) (gh k.toNatClampNeg) cl cx0 cx1 cy0 cy1 ic) (fun t => gd (4096 * k.toNatClampNeg + t)) (gd (4096 * k.toNatClampNeg + ixP x y)) co st1 dn).2.1 dn)) (rcO (opnJ (gw k.toNatClampNeg) (gh k.toNatClampNeg) cl cx0 cx1 cy0 cy1 ic) (fun t => gd (4096 * k.toNatClampNeg + t)) (gd (4096 * k.toNatClampNeg + ixP x y)) co st1 dn) (i + 1)) = rcS (opnJ (gw k.toNatClampNeg) (gh k.toNatClampNeg) cl cx0 cx1 cy0 cy1 ic) (fun t => gd (4096 * k.toNatClampNeg + t)) (gd (4096 * k.toNatClampNeg + ixP x y)) y_72 y_73 (rcI (opnJ (gw k.toNatClampNeg) (gh k.toNatClampNeg) cl cx0 cx1 cy0 cy1 ic) (fun t => gd (4096 * k.toNatClampNeg + t)) (gd (4096 * k.toNatClampNeg + ixP x y)) co (pX ((rcO (opnJ (gw k.toNatClampNeg) (gh k.toNatClampNeg) cl cx0 cx1 cy0 cy1 ic) (fun t => gd (4096 * k.toNatClampNeg + t)) (gd (4096 * k.toNatClampNeg + ixP x y)) co st1 dn).2.1 dn)) (pY ((rcO (opnJ (gw k.toNatClampNeg) (gh k.toNatClampNeg) cl cx0 cx1 cy0 cy1 ic) (fun t => gd (4096 * k.toNatClampNeg + t)) (gd (4096 * k.toNatClampNeg + ixP x y)) co st1 dn).2.1 dn)) (rcO (opnJ (gw k.toNatClampNeg) (gh k.toNatClampNeg) cl cx0 cx1 cy0 cy1 ic) (fun t => gd (4096 * k.toNatClampNeg + t)) (gd (4096 * k.toNatClampNeg + ixP x y)) co st1 dn) i) := by rw [hay_72, hay_73]; exact if_pos (Or.inr (Or.inl (hdy_19.symm.trans c_70)))
                          have hSt : (rcI (opnJ (gw k.toNatClampNeg) (gh k.toNatClampNeg) cl cx0 cx1 cy0 cy1 ic) (fun t => gd (4096 * k.toNatClampNeg + t)) (gd (4096 * k.toNatClampNeg + ixP x y)) co (pX ((rcO (opnJ (gw k.toNatClampNeg) (gh k.toNatClampNeg) cl cx0 cx1 cy0 cy1 ic) (fun t => gd (4096 * k.toNatClampNeg + t)) (gd (4096 * k.toNatClampNeg + ixP x y)) co st1 dn).2.1 dn)) (pY ((rcO (opnJ (gw k.toNatClampNeg) (gh k.toNatClampNeg) cl cx0 cx1 cy0 cy1 ic) (fun t => gd (4096 * k.toNatClampNeg + t)) (gd (4096 * k.toNatClampNeg + ixP x y)) co st1 dn).2.1 dn)) (rcO (opnJ (gw k.toNatClampNeg) (gh k.toNatClampNeg) cl cx0 cx1 cy0 cy1 ic) (fun t => gd (4096 * k.toNatClampNeg + t)) (gd (4096 * k.toNatClampNeg + ixP x y)) co st1 dn) (i + 1)) = (upd (rcI (opnJ (gw k.toNatClampNeg) (gh k.toNatClampNeg) cl cx0 cx1 cy0 cy1 ic) (fun t => gd (4096 * k.toNatClampNeg + t)) (gd (4096 * k.toNatClampNeg + ixP x y)) co (pX ((rcO (opnJ (gw k.toNatClampNeg) (gh k.toNatClampNeg) cl cx0 cx1 cy0 cy1 ic) (fun t => gd (4096 * k.toNatClampNeg + t)) (gd (4096 * k.toNatClampNeg + ixP x y)) co st1 dn).2.1 dn)) (pY ((rcO (opnJ (gw k.toNatClampNeg) (gh k.toNatClampNeg) cl cx0 cx1 cy0 cy1 ic) (fun t => gd (4096 * k.toNatClampNeg + t)) (gd (4096 * k.toNatClampNeg + ixP x y)) co st1 dn).2.1 dn)) (rcO (opnJ (gw k.toNatClampNeg) (gh k.toNatClampNeg) cl cx0 cx1 cy0 cy1 ic) (fun t => gd (4096 * k.toNatClampNeg + t)) (gd (4096 * k.toNatClampNeg + ixP x y)) co st1 dn) i).1 (ixP y_72 y_73) 1, upd (rcI (opnJ (gw k.toNatClampNeg) (gh k.toNatClampNeg) cl cx0 cx1 cy0 cy1 ic) (fun t => gd (4096 * k.toNatClampNeg + t)) (gd (4096 * k.toNatClampNeg + ixP x y)) co (pX ((rcO (opnJ (gw k.toNatClampNeg) (gh k.toNatClampNeg) cl cx0 cx1 cy0 cy1 ic) (fun t => gd (4096 * k.toNatClampNeg + t)) (gd (4096 * k.toNatClampNeg + ixP x y)) co st1 dn).2.1 dn)) (pY ((rcO (opnJ (gw k.toNatClampNeg) (gh k.toNatClampNeg) cl cx0 cx1 cy0 cy1 ic) (fun t => gd (4096 * k.toNatClampNeg + t)) (gd (4096 * k.toNatClampNeg + ixP x y)) co st1 dn).2.1 dn)) (rcO (opnJ (gw k.toNatClampNeg) (gh k.toNatClampNeg) cl cx0 cx1 cy0 cy1 ic) (fun t => gd (4096 * k.toNatClampNeg + t)) (gd (4096 * k.toNatClampNeg + ixP x y)) co st1 dn) i).2.1 (rcI (opnJ (gw k.toNatClampNeg) (gh k.toNatClampNeg) cl cx0 cx1 cy0 cy1 ic) (fun t => gd (4096 * k.toNatClampNeg + t)) (gd (4096 * k.toNatClampNeg + ixP x y)) co (pX ((rcO (opnJ (gw k.toNatClampNeg) (gh k.toNatClampNeg) cl cx0 cx1 cy0 cy1 ic) (fun t => gd (4096 * k.toNatClampNeg + t)) (gd (4096 * k.toNatClampNeg + ixP x y)) co st1 dn).2.1 dn)) (pY ((rcO (opnJ (gw k.toNatClampNeg) (gh k.toNatClampNeg) cl cx0 cx1 cy0 cy1 ic) (fun t => gd (4096 * k.toNatClampNeg + t)) (gd (4096 * k.toNatClampNeg + ixP x y)) co st1 dn).2.1 dn)) (rcO (opnJ (gw k.toNatClampNeg) (gh k.toNatClampNeg) cl cx0 cx1 cy0 cy1 ic) (fun t => gd (4096 * k.toNatClampNeg + t)) (gd (4096 * k.toNatClampNeg + ixP x y)) co st1 dn) i).2.2 (nI (ixP y_72 y_73)), (rcI (opnJ (gw k.toNatClampNeg) (gh k.toNatClampNeg) cl cx0 cx1 cy0 cy1 ic) (fun t => gd (4096 * k.toNatClampNeg + t)) (gd (4096 * k.toNatClampNeg + ixP x y)) co (pX ((rcO (opnJ (gw k.toNatClampNeg) (gh k.toNatClampNeg) cl cx0 cx1 cy0 cy1 ic) (fun t => gd (4096 * k.toNatClampNeg + t)) (gd (4096 * k.toNatClampNeg + ixP x y)) co st1 dn).2.1 dn)) (pY ((rcO (opnJ (gw k.toNatClampNeg) (gh k.toNatClampNeg) cl cx0 cx1 cy0 cy1 ic) (fun t => gd (4096 * k.toNatClampNeg + t)) (gd (4096 * k.toNatClampNeg + ixP x y)) co st1 dn).2.1 dn)) (rcO (opnJ (gw k.toNatClampNeg) (gh k.toNatClampNeg) cl cx0 cx1 cy0 cy1 ic) (fun t => gd (4096 * k.toNatClampNeg + t)) (gd (4096 * k.toNatClampNeg + ixP x y)) co st1 dn) i).2.2 + 1) := hS1.trans (if_pos ⟨⟨⟨f_76, Or.inl c_78⟩, c_89⟩, hmk, by omega⟩)
                          exact ih_15 (i + 1) y_94 y_93 g_91 g_92 _ _ _ (by omega) (by omega) (by rw [ey_94, ex_i]; exact nI_1 i) (by rw [hSt, ey_93, f7]; exact nI_1 _) (by rw [hSt, ← eg_91, f3, hxcy_83]; rfl) (by rw [hSt, ← eg_92, f2, hixy_83, show z7.toNatClampNeg = (rcI (opnJ (gw k.toNatClampNeg) (gh k.toNatClampNeg) cl cx0 cx1 cy0 cy1 ic) (fun t => gd (4096 * k.toNatClampNeg + t)) (gd (4096 * k.toNatClampNeg + ixP x y)) co (pX ((rcO (opnJ (gw k.toNatClampNeg) (gh k.toNatClampNeg) cl cx0 cx1 cy0 cy1 ic) (fun t => gd (4096 * k.toNatClampNeg + t)) (gd (4096 * k.toNatClampNeg + ixP x y)) co st1 dn).2.1 dn)) (pY ((rcO (opnJ (gw k.toNatClampNeg) (gh k.toNatClampNeg) cl cx0 cx1 cy0 cy1 ic) (fun t => gd (4096 * k.toNatClampNeg + t)) (gd (4096 * k.toNatClampNeg + ixP x y)) co st1 dn).2.1 dn)) (rcO (opnJ (gw k.toNatClampNeg) (gh k.toNatClampNeg) cl cx0 cx1 cy0 cy1 ic) (fun t => gd (4096 * k.toNatClampNeg + t)) (gd (4096 * k.toNatClampNeg + ixP x y)) co st1 dn) i).2.2 by rw [f7]; exact nI_clamp (by omega)]) (by rw [hSt]; exact hcn2) (hP.sub (ws' := [(m1, .inl (cI, 4, .inl gw)), (m2, .inl (cI, 4, .inl gh)), (m3, .inl (cI, 16384, .inl gd)), (m13, .inl (cI, 4096, .inl g_92)), (h0, .inr (9, [.ref m1, .ref m2, .ref m3, .int ik, .int wy, .int op, .int cl, .int cx0, .int cx1, .int cy0, .int cy1, .int ds, .ref m4, .ref m5, .ref m6, .ref m7, .ref m8, .ref m9, .int pn, .ref m10, .ref m11, .ref m12, .ref m13])), (m4, .inl (cZ, 4096, .inl g_91))]) [4, 5, 0, 1, 3, 2] rfl) (hD.sub (ws' := [(m1, .inl (cI, 4, .inl gw)), (m2, .inl (cI, 4, .inl gh)), (m3, .inl (cI, 16384, .inl gd)), (m13, .inl (cI, 4096, .inl g_92)), (h0, .inr (9, [.ref m1, .ref m2, .ref m3, .int ik, .int wy, .int op, .int cl, .int cx0, .int cx1, .int cy0, .int cy1, .int ds, .ref m4, .ref m5, .ref m6, .ref m7, .ref m8, .ref m9, .int pn, .ref m10, .ref m11, .ref m12, .ref m13])), (m4, .inl (cZ, 4096, .inl g_91))]) [4, 5, 0, 1, 3, 2] (by decide) rfl) hS (lv_sub hl [0, 5, 6, 7, 1, 8, 9, 10, 11, 12, 13, 14] rfl)
                        · skip
                          have f_90 : ¬ ((gd (4096 * k.toNatClampNeg + ixP y_72 y_73)).toInt = (gd (4096 * k.toNatClampNeg + ixP x y)).toInt) := fn_eq rfl rfl c_89
                          refine lv_goto (tgt := 238) hx hb dX9_joins_212 (by decide) ?_
                          obtain ⟨y_95, ey_95⟩ : ∃ y : Int32, y = x11 + 1 := ⟨_, rfl⟩
                          refine lv_iinc (v := y_95) (lv' := [(11, .int y_95), (14, .int y_83), (13, .int y_21), (12, .int y_19), (8, .int y_13), (10, .int y_12), (9, .int y_11), (7, .int z7), (6, .int (gd (4096 * k.toNatClampNeg + ixP x y))), (0, .ref h0), (1, .int k), (2, .int x), (3, .int y), (4, .int co), (5, .int ic)]) hx hb dX9_joins_238 hl (k := 3) rfl (by rw [ey_95]; rfl) (by decide) rfl (fun ls hl => ?_)
                          refine lv_goto (tgt := 87) hx hb dX9_joins_241 (by decide) ?_
                          have hS1 : (rcI (opnJ (gw k.toNatClampNeg) (gh k.toNatClampNeg) cl cx0 cx1 cy0 cy1 ic) (fun t => gd (4096 * k.toNatClampNeg + t)) (gd (4096 * k.toNatClampNeg + ixP x y)) co (pX ((rcO (opnJ (gw k.toNatClampNeg) (gh k.toNatClampNeg) cl cx0 cx1 cy0 cy1 ic) (fun t => gd (4096 * k.toNatClampNeg + t)) (gd (4096 * k.toNatClampNeg + ixP x y)) co st1 dn).2.1 dn)) (pY ((rcO (opnJ (gw k.toNatClampNeg) (gh k.toNatClampNeg) cl cx0 cx1 cy0 cy1 ic) (fun t => gd (4096 * k.toNatClampNeg + t)) (gd (4096 * k.toNatClampNeg + ixP x y)) co st1 dn).2.1 dn)) (rcO (opnJ (gw k.toNatClampNeg) (gh k.toNatClampNeg) cl cx0 cx1 cy0 cy1 ic) (fun t => gd (4096 * k.toNatClampNeg + t)) (gd (4096 * k.toNatClampNeg + ixP x y)) co st1 dn) (i + 1)) = rcS (opnJ (gw k.toNatClampNeg) (gh k.toNatClampNeg) cl cx0 cx1 cy0 cy1 ic) (fun t => gd (4096 * k.toNatClampNeg + t)) (gd (4096 * k.toNatClampNeg + ixP x y)) y_72 y_73 (rcI (opnJ (gw k.toNatClampNeg) (gh k.toNatClampNeg) cl cx0 cx1 cy0 cy1 ic) (fun t => gd (4096 * k.toNatClampNeg + t)) (gd (4096 * k.toNatClampNeg + ixP x y)) co (pX ((rcO (opnJ (gw k.toNatClampNeg) (gh k.toNatClampNeg) cl cx0 cx1 cy0 cy1 ic) (fun t => gd (4096 * k.toNatClampNeg + t)) (gd (4096 * k.toNatClampNeg + ixP x y)) co st1 dn).2.1 dn)) (pY ((rcO (opnJ (gw k.toNatClampNeg) (gh k.toNatClampNeg) cl cx0 cx1 cy0 cy1 ic) (fun t => gd (4096 * k.toNatClampNeg + t)) (gd (4096 * k.toNatClampNeg + ixP x y)) co st1 dn).2.1 dn)) (rcO (opnJ (gw k.toNatClampNeg) (gh k.toNatClampNeg) cl cx0 cx1 cy0 cy1 ic) (fun t => gd (4096 * k.toNatClampNeg + t)) (gd (4096 * k.toNatClampNeg + ixP x y)) co st1 dn) i) := by rw [hay_72, hay_73]; exact if_pos (Or.inr (Or.inl (hdy_19.symm.trans c_70)))
                          have hSt : (rcI (opnJ (gw k.toNatClampNeg) (gh k.toNatClampNeg) cl cx0 cx1 cy0 cy1 ic) (fun t => gd (4096 * k.toNatClampNeg + t)) (gd (4096 * k.toNatClampNeg + ixP x y)) co (pX ((rcO (opnJ (gw k.toNatClampNeg) (gh k.toNatClampNeg) cl cx0 cx1 cy0 cy1 ic) (fun t => gd (4096 * k.toNatClampNeg + t)) (gd (4096 * k.toNatClampNeg + ixP x y)) co st1 dn).2.1 dn)) (pY ((rcO (opnJ (gw k.toNatClampNeg) (gh k.toNatClampNeg) cl cx0 cx1 cy0 cy1 ic) (fun t => gd (4096 * k.toNatClampNeg + t)) (gd (4096 * k.toNatClampNeg + ixP x y)) co st1 dn).2.1 dn)) (rcO (opnJ (gw k.toNatClampNeg) (gh k.toNatClampNeg) cl cx0 cx1 cy0 cy1 ic) (fun t => gd (4096 * k.toNatClampNeg + t)) (gd (4096 * k.toNatClampNeg + ixP x y)) co st1 dn) (i + 1)) = (rcI (opnJ (gw k.toNatClampNeg) (gh k.toNatClampNeg) cl cx0 cx1 cy0 cy1 ic) (fun t => gd (4096 * k.toNatClampNeg + t)) (gd (4096 * k.toNatClampNeg + ixP x y)) co (pX ((rcO (opnJ (gw k.toNatClampNeg) (gh k.toNatClampNeg) cl cx0 cx1 cy0 cy1 ic) (fun t => gd (4096 * k.toNatClampNeg + t)) (gd (4096 * k.toNatClampNeg + ixP x y)) co st1 dn).2.1 dn)) (pY ((rcO (opnJ (gw k.toNatClampNeg) (gh k.toNatClampNeg) cl cx0 cx1 cy0 cy1 ic) (fun t => gd (4096 * k.toNatClampNeg + t)) (gd (4096 * k.toNatClampNeg + ixP x y)) co st1 dn).2.1 dn)) (rcO (opnJ (gw k.toNatClampNeg) (gh k.toNatClampNeg) cl cx0 cx1 cy0 cy1 ic) (fun t => gd (4096 * k.toNatClampNeg + t)) (gd (4096 * k.toNatClampNeg + ixP x y)) co st1 dn) i) := hS1.trans (if_neg (fun q => c_89 q.1.2))
                          exact ih_15 (i + 1) y_95 z7 gu gs _ _ _ (by omega) (by omega) (by rw [ey_95, ex_i]; exact nI_1 i) (by rw [hSt]; exact f7) (by rw [hSt]; exact f3) (by rw [hSt]; exact f2) (by rw [hSt]; exact fcn) (hP.sub (ws' := [(m1, .inl (cI, 4, .inl gw)), (m2, .inl (cI, 4, .inl gh)), (m3, .inl (cI, 16384, .inl gd)), (m13, .inl (cI, 4096, .inl gs)), (h0, .inr (9, [.ref m1, .ref m2, .ref m3, .int ik, .int wy, .int op, .int cl, .int cx0, .int cx1, .int cy0, .int cy1, .int ds, .ref m4, .ref m5, .ref m6, .ref m7, .ref m8, .ref m9, .int pn, .ref m10, .ref m11, .ref m12, .ref m13])), (m4, .inl (cZ, 4096, .inl gu))]) [4, 5, 0, 1, 3, 2] rfl) (hD.sub (ws' := [(m1, .inl (cI, 4, .inl gw)), (m2, .inl (cI, 4, .inl gh)), (m3, .inl (cI, 16384, .inl gd)), (m13, .inl (cI, 4096, .inl gs)), (h0, .inr (9, [.ref m1, .ref m2, .ref m3, .int ik, .int wy, .int op, .int cl, .int cx0, .int cx1, .int cy0, .int cy1, .int ds, .ref m4, .ref m5, .ref m6, .ref m7, .ref m8, .ref m9, .int pn, .ref m10, .ref m11, .ref m12, .ref m13])), (m4, .inl (cZ, 4096, .inl gu))]) [4, 5, 0, 1, 3, 2] (by decide) rfl) hS (lv_sub hl [0, 4, 5, 6, 7, 8, 9, 10, 11, 12, 13, 14] rfl)
                    · skip
                      have f_79 : ¬ (ic.toInt = 0) := fn_eq rfl (by decide) c_78
                      refine lv_aload_n hx hb dX9_joins_148 rfl (lv_at hl 8 rfl) ?_
                      refine lv_iload hx hb dX9_joins_149 (lv_at hl 5 rfl) ?_
                      refine lv_iload hx hb dX9_joins_151 (lv_at hl 1 rfl) ?_
                      refine lv_iadd hx hb dX9_joins_153 ?_
                      refine lv_topi (fun y_96 ey_96 => ?_)
                      have hay_96 : y_96 = pX ((rcO (opnJ (gw k.toNatClampNeg) (gh k.toNatClampNeg) cl cx0 cx1 cy0 cy1 ic) (fun t => gd (4096 * k.toNatClampNeg + t)) (gd (4096 * k.toNatClampNeg + ixP x y)) co st1 dn).2.1 dn) + dX i := by rw [ey_96, hp9, hdy_19]
                      refine lv_iload hx hb dX9_joins_154 (lv_at hl 4 rfl) ?_
                      refine lv_iload hx hb dX9_joins_156 (lv_at hl 0 rfl) ?_
                      refine lv_iadd hx hb dX9_joins_158 ?_
                      refine lv_topi (fun y_97 ey_97 => ?_)
                      have hay_97 : y_97 = pY ((rcO (opnJ (gw k.toNatClampNeg) (gh k.toNatClampNeg) cl cx0 cx1 cy0 cy1 ic) (fun t => gd (4096 * k.toNatClampNeg + t)) (gd (4096 * k.toNatClampNeg + ixP x y)) co st1 dn).2.1 dn) + dY i := by rw [ey_97, hp10, hdy_21]
                      have hPc := hP.sub (ws' := [(h0, .inr (9, [.ref m1, .ref m2, .ref m3, .int ik, .int wy, .int op, .int cl, .int cx0, .int cx1, .int cy0, .int cy1, .int ds, .ref m4, .ref m5, .ref m6, .ref m7, .ref m8, .ref m9, .int pn, .ref m10, .ref m11, .ref m12, .ref m13]))]) [3] rfl
                      have hDc := hD.sub (ws' := [(h0, .inr (9, [.ref m1, .ref m2, .ref m3, .int ik, .int wy, .int op, .int cl, .int cx0, .int cx1, .int cy0, .int cy1, .int ds, .ref m4, .ref m5, .ref m6, .ref m7, .ref m8, .ref m9, .int pn, .ref m10, .ref m11, .ref m12, .ref m13]))]) [3] (by decide) rfl
                      have hKc := hK.sub (tys' := []) [] rfl
                      have hFc := va_free (wc := [(h0, .inr (9, [.ref m1, .ref m2, .ref m3, .int ik, .int wy, .int op, .int cl, .int cx0, .int cx1, .int cy0, .int cy1, .int ds, .ref m4, .ref m5, .ref m6, .ref m7, .ref m8, .ref m9, .int pn, .ref m10, .ref m11, .ref m12, .ref m13]))]) hD hS hA [3] rfl
                      refine va_calli (va_runV (As := [.int y_96, .int y_97]) (rest := []) ⟨hx, hb, hml, hown, hts⟩ (k_X9_isInClip l D H.size h0 m1 m2 m3 m4 m5 m6 m7 m8 m9 m10 m11 m12 m13 ik wy op cl cx0 cx1 cy0 cy1 ds pn y_96 y_97) (cwV 2 hts (gV bw_434 bw_423 bw_424 bw_391 bw_422) rfl rfl rfl (by decide +kernel) ⟨(by rw [hR]; exact Nat.le_of_ble_eq_true rfl), (by rw [hR]; exact Nat.le_of_ble_eq_true rfl)⟩) ⟨cP_blind, va_recv hKc hPc (ci := 9) (q0 := 0) rfl rfl, cP_at hPc hKc hDc hN⟩ rfl rfl hl.1 rfl (lv_room (Nat.le_of_ble_eq_true rfl)) dX9_joins_159 ⟨(by rw [hR]; exact Nat.le_of_ble_eq_true rfl), (by rw [hR]; exact Nat.le_of_ble_eq_true rfl)⟩) hS (fun q _ h => hFc q h) hFc (fun r_98 u9 t9 H1 locs ht hvm hr_98 hB hz1 hk1 hS => ?_)
                      try dsimp only at hr_98
                      obtain ⟨hP1, hK1, hD1⟩ := hB
                      rw [ht] at hP1
                      obtain ⟨hP, hD⟩ := va_join (wr := [(m3, .inl (cI, 16384, .inl gd)), (m13, .inl (cI, 4096, .inl gs)), (m4, .inl (cZ, 4096, .inl gu)), (m1, .inl (cI, 4, .inl gw)), (m2, .inl (cI, 4, .inl gh))]) (w1 := [(h0, .inr (9, [.ref m1, .ref m2, .ref m3, .int ik, .int wy, .int op, .int cl, .int cx0, .int cx1, .int cy0, .int cy1, .int ds, .ref m4, .ref m5, .ref m6, .ref m7, .ref m8, .ref m9, .int pn, .ref m10, .ref m11, .ref m12, .ref m13]))]) hP hD [3] [0, 1, 2, 4, 5] rfl rfl (by decide) (by decide) hk1 hFc hP1 hD1
                      clear hz1 hk1 hFc hKc hDc hPc
                      generalize H1 = H at hP hS ⊢
                      have hP : va_P D vwCl [(m3, .inl (cI, 16384, .inl gd)), (m13, .inl (cI, 4096, .inl gs)), (m4, .inl (cZ, 4096, .inl gu)), (m1, .inl (cI, 4, .inl gw)), (m2, .inl (cI, 4, .inl gh)), (h0, .inr (9, [.ref m1, .ref m2, .ref m3, .int ik, .int wy, .int op, .int cl, .int cx0, .int cx1, .int cy0, .int cy1, .int ds, .ref m4, .ref m5, .ref m6, .ref m7, .ref m8, .ref m9, .int pn, .ref m10, .ref m11, .ref m12, .ref m13]))] H := hP
                      have hD : va_D A [(m3, .inl (cI, 16384, .inl gd)), (m13, .inl (cI, 4096, .inl gs)), (m4, .inl (cZ, 4096, .inl gu)), (m1, .inl (cI, 4, .inl gw)), (m2, .inl (cI, 4, .inl gh)), (h0, .inr (9, [.ref m1, .ref m2, .ref m3, .int ik, .int wy, .int op, .int cl, .int cx0, .int cx1, .int cy0, .int cy1, .int ds, .ref m4, .ref m5, .ref m6, .ref m7, .ref m8, .ref m9, .int pn, .ref m10, .ref m11, .ref m12, .ref m13]))] := hD
                      have hcqx : y_96 = y_72 := by rw [ey_96, ey_72]
                      have hcqy : y_97 = y_73 := by rw [ey_97, ey_73]
                      rw [hcqx, hcqy] at hr_98
                      refine lv_if_ne (tgt := 168) hx hb dX9_joins_162 (by decide) (fun c_99 => ?_) (fun c_99 => ?_)
                      · skip
                        have f_100 := bz1 hr_98 c_99
                        refine lv_bipush (v := 64) hx hb dX9_joins_168 (by decide) ?_
                        refine lv_iload hx hb dX9_joins_170 (lv_at hl 4 rfl) ?_
                        refine lv_iload hx hb dX9_joins_172 (lv_at hl 0 rfl) ?_
                        refine lv_iadd hx hb dX9_joins_174 ?_
                        refine lv_topi (fun y_101 ey_101 => ?_)
                        have hay_101 : y_101 = pY ((rcO (opnJ (gw k.toNatClampNeg) (gh k.toNatClampNeg) cl cx0 cx1 cy0 cy1 ic) (fun t => gd (4096 * k.toNatClampNeg + t)) (gd (4096 * k.toNatClampNeg + ixP x y)) co st1 dn).2.1 dn) + dY i := by rw [ey_101, hp10, hdy_21]
                        refine lv_imul hx hb dX9_joins_175 ?_
                        refine lv_topi (fun y_102 ey_102 => ?_)
                        refine lv_iload hx hb dX9_joins_176 (lv_at hl 5 rfl) ?_
                        refine lv_iadd hx hb dX9_joins_178 ?_
                        refine lv_topi (fun y_103 ey_103 => ?_)
                        refine lv_iload hx hb dX9_joins_179 (lv_at hl 1 rfl) ?_
                        refine lv_iadd hx hb dX9_joins_181 ?_
                        refine lv_topi (fun y_104 ey_104 => ?_)
                        have htoy_104 : y_104 = 64 * y_73 + y_72 := by rw [ey_104, ey_103, ey_102, ey_101, ey_73, ey_72, Int32.add_assoc]
                        have hiny_104 : vp_in y_104 4096 := by rw [htoy_104]; exact ix_in2 (by omega) (by omega) (by omega) (by omega)
                        have hixy_104 : y_104 = nI (ixP y_72 y_73) := by rw [htoy_104]; exact ix_nI2 (by omega) (by omega) (by omega) (by omega)
                        have hxcy_104 : y_104.toNatClampNeg = ixP y_72 y_73 := by rw [hixy_104]; exact nI_clamp (by have := ix_lt (x := y_72) (y := y_73) (by omega) (by omega) (by omega) (by omega); omega)
                        refine lv_istore (lv' := [(14, .int y_104), (13, .int y_21), (12, .int y_19), (11, .int x11), (8, .int y_13), (10, .int y_12), (9, .int y_11), (7, .int z7), (6, .int (gd (4096 * k.toNatClampNeg + ixP x y))), (0, .ref h0), (1, .int k), (2, .int x), (3, .int y), (4, .int co), (5, .int ic)]) hx hb dX9_joins_182 hl (by decide) rfl (fun ls hl => ?_)
                        refine lv_aload_n hx hb dX9_joins_184 rfl (lv_at hl 9 rfl) ?_
                        refine va_get (D := D) (ci := 9) (v := .ref m4) (C := RX9) (T := TX9) (N := 23) hx hb hts hi_X9 hown hK hP 5 rfl rfl 12 (by decide) (hts _ bw_404) (fun _ h9 => h9) rfl dX9_joins_185 ?_
                        refine lv_iload hx hb dX9_joins_188 (lv_at hl 0 rfl) ?_
                        refine va_zald hx hb hK hP 2 1 rfl rfl hiny_104 dX9_joins_190 ?_
                        refine lv_if_ne (tgt := 238) hx hb dX9_joins_191 (by decide) (fun c_105 => ?_) (fun c_105 => ?_)
                        · skip
                          have f_106 : ¬ ((gu y_104.toNatClampNeg).toInt = 0) := fn_eq rfl (by decide) c_105
                          obtain ⟨y_107, ey_107⟩ : ∃ y : Int32, y = x11 + 1 := ⟨_, rfl⟩
                          refine lv_iinc (v := y_107) (lv' := [(11, .int y_107), (14, .int y_104), (13, .int y_21), (12, .int y_19), (8, .int y_13), (10, .int y_12), (9, .int y_11), (7, .int z7), (6, .int (gd (4096 * k.toNatClampNeg + ixP x y))), (0, .ref h0), (1, .int k), (2, .int x), (3, .int y), (4, .int co), (5, .int ic)]) hx hb dX9_joins_238 hl (k := 3) rfl (by rw [ey_107]; rfl) (by decide) rfl (fun ls hl => ?_)
                          refine lv_goto (tgt := 87) hx hb dX9_joins_241 (by decide) ?_
                          have hS1 : (rcI (opnJ (gw k.toNatClampNeg) (gh k.toNatClampNeg) cl cx0 cx1 cy0 cy1 ic) (fun t => gd (4096 * k.toNatClampNeg + t)) (gd (4096 * k.toNatClampNeg + ixP x y)) co (pX ((rcO (opnJ (gw k.toNatClampNeg) (gh k.toNatClampNeg) cl cx0 cx1 cy0 cy1 ic) (fun t => gd (4096 * k.toNatClampNeg + t)) (gd (4096 * k.toNatClampNeg + ixP x y)) co st1 dn).2.1 dn)) (pY ((rcO (opnJ (gw k.toNatClampNeg) (gh k.toNatClampNeg) cl cx0 cx1 cy0 cy1 ic) (fun t => gd (4096 * k.toNatClampNeg + t)) (gd (4096 * k.toNatClampNeg + ixP x y)) co st1 dn).2.1 dn)) (rcO (opnJ (gw k.toNatClampNeg) (gh k.toNatClampNeg) cl cx0 cx1 cy0 cy1 ic) (fun t => gd (4096 * k.toNatClampNeg + t)) (gd (4096 * k.toNatClampNeg + ixP x y)) co st1 dn) (i + 1)) = rcS (opnJ (gw k.toNatClampNeg) (gh k.toNatClampNeg) cl cx0 cx1 cy0 cy1 ic) (fun t => gd (4096 * k.toNatClampNeg + t)) (gd (4096 * k.toNatClampNeg + ixP x y)) y_72 y_73 (rcI (opnJ (gw k.toNatClampNeg) (gh k.toNatClampNeg) cl cx0 cx1 cy0 cy1 ic) (fun t => gd (4096 * k.toNatClampNeg + t)) (gd (4096 * k.toNatClampNeg + ixP x y)) co (pX ((rcO (opnJ (gw k.toNatClampNeg) (gh k.toNatClampNeg) cl cx0 cx1 cy0 cy1 ic) (fun t => gd (4096 * k.toNatClampNeg + t)) (gd (4096 * k.toNatClampNeg + ixP x y)) co st1 dn).2.1 dn)) (pY ((rcO (opnJ (gw k.toNatClampNeg) (gh k.toNatClampNeg) cl cx0 cx1 cy0 cy1 ic) (fun t => gd (4096 * k.toNatClampNeg + t)) (gd (4096 * k.toNatClampNeg + ixP x y)) co st1 dn).2.1 dn)) (rcO (opnJ (gw k.toNatClampNeg) (gh k.toNatClampNeg) cl cx0 cx1 cy0 cy1 ic) (fun t => gd (4096 * k.toNatClampNeg + t)) (gd (4096 * k.toNatClampNeg + ixP x y)) co st1 dn) i) := by rw [hay_72, hay_73]; exact if_pos (Or.inr (Or.inl (hdy_19.symm.trans c_70)))
                          have hSt : (rcI (opnJ (gw k.toNatClampNeg) (gh k.toNatClampNeg) cl cx0 cx1 cy0 cy1 ic) (fun t => gd (4096 * k.toNatClampNeg + t)) (gd (4096 * k.toNatClampNeg + ixP x y)) co (pX ((rcO (opnJ (gw k.toNatClampNeg) (gh k.toNatClampNeg) cl cx0 cx1 cy0 cy1 ic) (fun t => gd (4096 * k.toNatClampNeg + t)) (gd (4096 * k.toNatClampNeg + ixP x y)) co st1 dn).2.1 dn)) (pY ((rcO (opnJ (gw k.toNatClampNeg) (gh k.toNatClampNeg) cl cx0 cx1 cy0 cy1 ic) (fun t => gd (4096 * k.toNatClampNeg + t)) (gd (4096 * k.toNatClampNeg + ixP x y)) co st1 dn).2.1 dn)) (rcO (opnJ (gw k.toNatClampNeg) (gh k.toNatClampNeg) cl cx0 cx1 cy0 cy1 ic) (fun t => gd (4096 * k.toNatClampNeg + t)) (gd (4096 * k.toNatClampNeg + ixP x y)) co st1 dn) (i + 1)) = (rcI (opnJ (gw k.toNatClampNeg) (gh k.toNatClampNeg) cl cx0 cx1 cy0 cy1 ic) (fun t => gd (4096 * k.toNatClampNeg + t)) (gd (4096 * k.toNatClampNeg + ixP x y)) co (pX ((rcO (opnJ (gw k.toNatClampNeg) (gh k.toNatClampNeg) cl cx0 cx1 cy0 cy1 ic) (fun t => gd (4096 * k.toNatClampNeg + t)) (gd (4096 * k.toNatClampNeg + ixP x y)) co st1 dn).2.1 dn)) (pY ((rcO (opnJ (gw k.toNatClampNeg) (gh k.toNatClampNeg) cl cx0 cx1 cy0 cy1 ic) (fun t => gd (4096 * k.toNatClampNeg + t)) (gd (4096 * k.toNatClampNeg + ixP x y)) co st1 dn).2.1 dn)) (rcO (opnJ (gw k.toNatClampNeg) (gh k.toNatClampNeg) cl cx0 cx1 cy0 cy1 ic) (fun t => gd (4096 * k.toNatClampNeg + t)) (gd (4096 * k.toNatClampNeg + ixP x y)) co st1 dn) i) := hS1.trans (if_neg (fun q => c_105 (by rw [f3, hxcy_104]; exact q.2.1)))
                          exact ih_15 (i + 1) y_107 z7 gu gs _ _ _ (by omega) (by omega) (by rw [ey_107, ex_i]; exact nI_1 i) (by rw [hSt]; exact f7) (by rw [hSt]; exact f3) (by rw [hSt]; exact f2) (by rw [hSt]; exact fcn) (hP.sub (ws' := [(m1, .inl (cI, 4, .inl gw)), (m2, .inl (cI, 4, .inl gh)), (m3, .inl (cI, 16384, .inl gd)), (m13, .inl (cI, 4096, .inl gs)), (h0, .inr (9, [.ref m1, .ref m2, .ref m3, .int ik, .int wy, .int op, .int cl, .int cx0, .int cx1, .int cy0, .int cy1, .int ds, .ref m4, .ref m5, .ref m6, .ref m7, .ref m8, .ref m9, .int pn, .ref m10, .ref m11, .ref m12, .ref m13])), (m4, .inl (cZ, 4096, .inl gu))]) [3, 4, 0, 1, 5, 2] rfl) (hD.sub (ws' := [(m1, .inl (cI, 4, .inl gw)), (m2, .inl (cI, 4, .inl gh)), (m3, .inl (cI, 16384, .inl gd)), (m13, .inl (cI, 4096, .inl gs)), (h0, .inr (9, [.ref m1, .ref m2, .ref m3, .int ik, .int wy, .int op, .int cl, .int cx0, .int cx1, .int cy0, .int cy1, .int ds, .ref m4, .ref m5, .ref m6, .ref m7, .ref m8, .ref m9, .int pn, .ref m10, .ref m11, .ref m12, .ref m13])), (m4, .inl (cZ, 4096, .inl gu))]) [3, 4, 0, 1, 5, 2] (by decide) rfl) hS (lv_sub hl [0, 4, 5, 6, 7, 8, 9, 10, 11, 12, 13, 14] rfl)
                        · skip
                          have f_106 : (gu y_104.toNatClampNeg).toInt = 0 := f_eq rfl (by decide) c_105
                          refine lv_aload_n hx hb dX9_joins_194 rfl (lv_at hl 9 rfl) ?_
                          refine va_get (D := D) (ci := 9) (v := .ref m3) (C := RX9) (T := TX9) (N := 23) hx hb hts hi_X9 hown hK hP 5 rfl rfl 2 (by decide) (hts _ bw_398) (fun _ h9 => h9) rfl dX9_joins_195 ?_
                          refine lv_sipush (v := 4096) hx hb dX9_joins_198 (by decide) ?_
                          refine lv_iload_n hx hb dX9_joins_201 rfl (lv_at hl 10 rfl) ?_
                          refine lv_imul hx hb dX9_joins_202 ?_
                          refine lv_topi (fun y_108 ey_108 => ?_)
                          refine lv_iload hx hb dX9_joins_203 (lv_at hl 0 rfl) ?_
                          refine lv_iadd hx hb dX9_joins_205 ?_
                          refine lv_topi (fun y_109 ey_109 => ?_)
                          refine va_iald hx hb hK hP 0 0 rfl rfl (by rw [ey_109, ey_108]; exact kp_in (by omega) hiny_104) dX9_joins_206 ?_
                          refine my_fold (v := gd (4096 * k.toNatClampNeg + ixP y_72 y_73)) (congrArg gd (by rw [ey_109, ey_108]; exact dotx (gd := gd) (y := k) hkk hixy_104 (ix_lt (by omega) (by omega) (by omega) (by omega)) ek)) ?_
                          refine lv_iload hx hb dX9_joins_207 (lv_at hl 8 rfl) ?_
                          refine lv_icmp_eq (tgt := 215) hx hb dX9_joins_209 (by decide) (fun c_110 => ?_) (fun c_110 => ?_)
                          · skip
                            have f_111 : (gd (4096 * k.toNatClampNeg + ixP y_72 y_73)).toInt = (gd (4096 * k.toNatClampNeg + ixP x y)).toInt := f_eq rfl rfl c_110
                            refine lv_aload_n hx hb dX9_joins_215 rfl (lv_at hl 9 rfl) ?_
                            refine va_get (D := D) (ci := 9) (v := .ref m4) (C := RX9) (T := TX9) (N := 23) hx hb hts hi_X9 hown hK hP 5 rfl rfl 12 (by decide) (hts _ bw_404) (fun _ h9 => h9) rfl dX9_joins_216 ?_
                            refine lv_iload hx hb dX9_joins_219 (lv_at hl 0 rfl) ?_
                            refine lv_iconst (v := 1) hx hb dX9_joins_221 (by decide) ?_
                            refine va_zast hx hb hK hP hD hS 2 1 rfl rfl hiny_104 dX9_joins_222 (fun H locs hP hD hS => ?_)
                            have hP : va_P D vwCl [(m3, .inl (cI, 16384, .inl gd)), (m13, .inl (cI, 4096, .inl gs)), (m4, .inl (cZ, 4096, .inl (upd gu y_104.toNatClampNeg (vp_nar .boolean 1)))), (m1, .inl (cI, 4, .inl gw)), (m2, .inl (cI, 4, .inl gh)), (h0, .inr (9, [.ref m1, .ref m2, .ref m3, .int ik, .int wy, .int op, .int cl, .int cx0, .int cx1, .int cy0, .int cy1, .int ds, .ref m4, .ref m5, .ref m6, .ref m7, .ref m8, .ref m9, .int pn, .ref m10, .ref m11, .ref m12, .ref m13]))] H := hP
                            have hD : va_D A [(m3, .inl (cI, 16384, .inl gd)), (m13, .inl (cI, 4096, .inl gs)), (m4, .inl (cZ, 4096, .inl (upd gu y_104.toNatClampNeg (vp_nar .boolean 1)))), (m1, .inl (cI, 4, .inl gw)), (m2, .inl (cI, 4, .inl gh)), (h0, .inr (9, [.ref m1, .ref m2, .ref m3, .int ik, .int wy, .int op, .int cl, .int cx0, .int cx1, .int cy0, .int cy1, .int ds, .ref m4, .ref m5, .ref m6, .ref m7, .ref m8, .ref m9, .int pn, .ref m10, .ref m11, .ref m12, .ref m13]))] := hD
                            generalize eg_112 : upd gu y_104.toNatClampNeg (vp_nar .boolean 1) = g_112 at hP hD
                            have hP : va_P D vwCl [(m3, .inl (cI, 16384, .inl gd)), (m13, .inl (cI, 4096, .inl gs)), (m4, .inl (cZ, 4096, .inl g_112)), (m1, .inl (cI, 4, .inl gw)), (m2, .inl (cI, 4, .inl gh)), (h0, .inr (9, [.ref m1, .ref m2, .ref m3, .int ik, .int wy, .int op, .int cl, .int cx0, .int cx1, .int cy0, .int cy1, .int ds, .ref m4, .ref m5, .ref m6, .ref m7, .ref m8, .ref m9, .int pn, .ref m10, .ref m11, .ref m12, .ref m13]))] H := hP
                            have hD : va_D A [(m3, .inl (cI, 16384, .inl gd)), (m13, .inl (cI, 4096, .inl gs)), (m4, .inl (cZ, 4096, .inl g_112)), (m1, .inl (cI, 4, .inl gw)), (m2, .inl (cI, 4, .inl gh)), (h0, .inr (9, [.ref m1, .ref m2, .ref m3, .int ik, .int wy, .int op, .int cl, .int cx0, .int cx1, .int cy0, .int cy1, .int ds, .ref m4, .ref m5, .ref m6, .ref m7, .ref m8, .ref m9, .int pn, .ref m10, .ref m11, .ref m12, .ref m13]))] := hD
                            have hmk : (rcI (opnJ (gw k.toNatClampNeg) (gh k.toNatClampNeg) cl cx0 cx1 cy0 cy1 ic) (fun t => gd (4096 * k.toNatClampNeg + t)) (gd (4096 * k.toNatClampNeg + ixP x y)) co (pX ((rcO (opnJ (gw k.toNatClampNeg) (gh k.toNatClampNeg) cl cx0 cx1 cy0 cy1 ic) (fun t => gd (4096 * k.toNatClampNeg + t)) (gd (4096 * k.toNatClampNeg + ixP x y)) co st1 dn).2.1 dn)) (pY ((rcO (opnJ (gw k.toNatClampNeg) (gh k.toNatClampNeg) cl cx0 cx1 cy0 cy1 ic) (fun t => gd (4096 * k.toNatClampNeg + t)) (gd (4096 * k.toNatClampNeg + ixP x y)) co st1 dn).2.1 dn)) (rcO (opnJ (gw k.toNatClampNeg) (gh k.toNatClampNeg) cl cx0 cx1 cy0 cy1 ic) (fun t => gd (4096 * k.toNatClampNeg + t)) (gd (4096 * k.toNatClampNeg + ixP x y)) co st1 dn) i).1 (ixP y_72 y_73) = 0 := by rw [← f3, ← hxcy_104]; exact c_105
                            have hixn : ixP y_72 y_73 < 4096 := ix_lt (by omega) (by omega) (by omega) (by omega)
                            have hcn2 : cntP (upd (rcI (opnJ (gw k.toNatClampNeg) (gh k.toNatClampNeg) cl cx0 cx1 cy0 cy1 ic) (fun t => gd (4096 * k.toNatClampNeg + t)) (gd (4096 * k.toNatClampNeg + ixP x y)) co (pX ((rcO (opnJ (gw k.toNatClampNeg) (gh k.toNatClampNeg) cl cx0 cx1 cy0 cy1 ic) (fun t => gd (4096 * k.toNatClampNeg + t)) (gd (4096 * k.toNatClampNeg + ixP x y)) co st1 dn).2.1 dn)) (pY ((rcO (opnJ (gw k.toNatClampNeg) (gh k.toNatClampNeg) cl cx0 cx1 cy0 cy1 ic) (fun t => gd (4096 * k.toNatClampNeg + t)) (gd (4096 * k.toNatClampNeg + ixP x y)) co st1 dn).2.1 dn)) (rcO (opnJ (gw k.toNatClampNeg) (gh k.toNatClampNeg) cl cx0 cx1 cy0 cy1 ic) (fun t => gd (4096 * k.toNatClampNeg + t)) (gd (4096 * k.toNatClampNeg + ixP x y)) co st1 dn) i).1 (ixP y_72 y_73) 1) 4096 = (rcI (opnJ (gw k.toNatClampNeg) (gh k.toNatClampNeg) cl cx0 cx1 cy0 cy1 ic) (fun t => gd (4096 * k.toNatClampNeg + t)) (gd (4096 * k.toNatClampNeg + ixP x y)) co (pX ((rcO (opnJ (gw k.toNatClampNeg) (gh k.toNatClampNeg) cl cx0 cx1 cy0 cy1 ic) (fun t => gd (4096 * k.toNatClampNeg + t)) (gd (4096 * k.toNatClampNeg + ixP x y)) co st1 dn).2.1 dn)) (pY ((rcO (opnJ (gw k.toNatClampNeg) (gh k.toNatClampNeg) cl cx0 cx1 cy0 cy1 ic) (fun t => gd (4096 * k.toNatClampNeg + t)) (gd (4096 * k.toNatClampNeg + ixP x y)) co st1 dn).2.1 dn)) (rcO (opnJ (gw k.toNatClampNeg) (gh k.toNatClampNeg) cl cx0 cx1 cy0 cy1 ic) (fun t => gd (4096 * k.toNatClampNeg + t)) (gd (4096 * k.toNatClampNeg + ixP x y)) co st1 dn) i).2.2 + 1 := by rw [cnt_up1 hixn hmk, fcn]
                            have hm2 : (rcI (opnJ (gw k.toNatClampNeg) (gh k.toNatClampNeg) cl cx0 cx1 cy0 cy1 ic) (fun t => gd (4096 * k.toNatClampNeg + t)) (gd (4096 * k.toNatClampNeg + ixP x y)) co (pX ((rcO (opnJ (gw k.toNatClampNeg) (gh k.toNatClampNeg) cl cx0 cx1 cy0 cy1 ic) (fun t => gd (4096 * k.toNatClampNeg + t)) (gd (4096 * k.toNatClampNeg + ixP x y)) co st1 dn).2.1 dn)) (pY ((rcO (opnJ (gw k.toNatClampNeg) (gh k.toNatClampNeg) cl cx0 cx1 cy0 cy1 ic) (fun t => gd (4096 * k.toNatClampNeg + t)) (gd (4096 * k.toNatClampNeg + ixP x y)) co st1 dn).2.1 dn)) (rcO (opnJ (gw k.toNatClampNeg) (gh k.toNatClampNeg) cl cx0 cx1 cy0 cy1 ic) (fun t => gd (4096 * k.toNatClampNeg + t)) (gd (4096 * k.toNatClampNeg + ixP x y)) co st1 dn) i).2.2 + 1 ≤ 4096 := by rw [← hcn2]; exact cntP_le _ _
                            refine lv_aload_n hx hb dX9_joins_223 rfl (lv_at hl 9 rfl) ?_
                            refine va_get (D := D) (ci := 9) (v := .ref m13) (C := RX9) (T := TX9) (N := 23) hx hb hts hi_X9 hown hK hP 5 rfl rfl 22 (by decide) (hts _ bw_413) (fun _ h9 => h9) rfl dX9_joins_224 ?_
                            refine lv_iload hx hb dX9_joins_227 (lv_at hl 7 rfl) ?_
                            refine lv_iload hx hb dX9_joins_229 (lv_at hl 0 rfl) ?_
                            refine va_iast hx hb hK hP hD hS 1 0 rfl rfl (vp_in_iff.mpr ⟨by omega, by omega⟩) dX9_joins_231 (fun H locs hP hD hS => ?_)
                            have hP : va_P D vwCl [(m3, .inl (cI, 16384, .inl gd)), (m13, .inl (cI, 4096, .inl (upd gs z7.toNatClampNeg y_104))), (m4, .inl (cZ, 4096, .inl g_112)), (m1, .inl (cI, 4, .inl gw)), (m2, .inl (cI, 4, .inl gh)), (h0, .inr (9, [.ref m1, .ref m2, .ref m3, .int ik, .int wy, .int op, .int cl, .int cx0, .int cx1, .int cy0, .int cy1, .int ds, .ref m4, .ref m5, .ref m6, .ref m7, .ref m8, .ref m9, .int pn, .ref m10, .ref m11, .ref m12, .ref m13]))] H := hP
                            have hD : va_D A [(m3, .inl (cI, 16384, .inl gd)), (m13, .inl (cI, 4096, .inl (upd gs z7.toNatClampNeg y_104))), (m4, .inl (cZ, 4096, .inl g_112)), (m1, .inl (cI, 4, .inl gw)), (m2, .inl (cI, 4, .inl gh)), (h0, .inr (9, [.ref m1, .ref m2, .ref m3, .int ik, .int wy, .int op, .int cl, .int cx0, .int cx1, .int cy0, .int cy1, .int ds, .ref m4, .ref m5, .ref m6, .ref m7, .ref m8, .ref m9, .int pn, .ref m10, .ref m11, .ref m12, .ref m13]))] := hD
                            generalize eg_113 : upd gs z7.toNatClampNeg y_104 = g_113 at hP hD
                            have hP : va_P D vwCl [(m3, .inl (cI, 16384, .inl gd)), (m13, .inl (cI, 4096, .inl g_113)), (m4, .inl (cZ, 4096, .inl g_112)), (m1, .inl (cI, 4, .inl gw)), (m2, .inl (cI, 4, .inl gh)), (h0, .inr (9, [.ref m1, .ref m2, .ref m3, .int ik, .int wy, .int op, .int cl, .int cx0, .int cx1, .int cy0, .int cy1, .int ds, .ref m4, .ref m5, .ref m6, .ref m7, .ref m8, .ref m9, .int pn, .ref m10, .ref m11, .ref m12, .ref m13]))] H := hP
                            have hD : va_D A [(m3, .inl (cI, 16384, .inl gd)), (m13, .inl (cI, 4096, .inl g_113)), (m4, .inl (cZ, 4096, .inl g_112)), (m1, .inl (cI, 4, .inl gw)), (m2, .inl (cI, 4, .inl gh)), (h0, .inr (9, [.ref m1, .ref m2, .ref m3, .int ik, .int wy, .int op, .int cl, .int cx0, .int cx1, .int cy0, .int cy1, .int ds, .ref m4, .ref m5, .ref m6, .ref m7, .ref m8, .ref m9, .int pn, .ref m10, .ref m11, .ref m12, .ref m13]))] := hD
                            refine lv_iload hx hb dX9_joins_232 (lv_at hl 7 rfl) ?_
                            refine lv_iconst (v := 1) hx hb dX9_joins_234 (by decide) ?_
                            refine lv_iadd hx hb dX9_joins_235 ?_
                            refine lv_topi (fun y_114 ey_114 => ?_)
                            refine lv_istore (lv' := [(7, .int y_114), (14, .int y_104), (13, .int y_21), (12, .int y_19), (11, .int x11), (8, .int y_13), (10, .int y_12), (9, .int y_11), (6, .int (gd (4096 * k.toNatClampNeg + ixP x y))), (0, .ref h0), (1, .int k), (2, .int x), (3, .int y), (4, .int co), (5, .int ic)]) hx hb dX9_joins_236 hl (by decide) rfl (fun ls hl => ?_)
                            obtain ⟨y_115, ey_115⟩ : ∃ y : Int32, y = x11 + 1 := ⟨_, rfl⟩
                            refine lv_iinc (v := y_115) (lv' := [(11, .int y_115), (7, .int y_114), (14, .int y_104), (13, .int y_21), (12, .int y_19), (8, .int y_13), (10, .int y_12), (9, .int y_11), (6, .int (gd (4096 * k.toNatClampNeg + ixP x y))), (0, .ref h0), (1, .int k), (2, .int x), (3, .int y), (4, .int co), (5, .int ic)]) hx hb dX9_joins_238 hl (k := 4) rfl (by rw [ey_115]; rfl) (by decide) rfl (fun ls hl => ?_)
                            refine lv_goto (tgt := 87) hx hb dX9_joins_241 (by decide) ?_
                            have hS1 : (rcI (opnJ (gw k.toNatClampNeg) (gh k.toNatClampNeg) cl cx0 cx1 cy0 cy1 ic) (fun t => gd (4096 * k.toNatClampNeg + t)) (gd (4096 * k.toNatClampNeg + ixP x y)) co (pX ((rcO (opnJ (gw k.toNatClampNeg) (gh k.toNatClampNeg) cl cx0 cx1 cy0 cy1 ic) (fun t => gd (4096 * k.toNatClampNeg + t)) (gd (4096 * k.toNatClampNeg + ixP x y)) co st1 dn).2.1 dn)) (pY ((rcO (opnJ (gw k.toNatClampNeg) (gh k.toNatClampNeg) cl cx0 cx1 cy0 cy1 ic) (fun t => gd (4096 * k.toNatClampNeg + t)) (gd (4096 * k.toNatClampNeg + ixP x y)) co st1 dn).2.1 dn)) (rcO (opnJ (gw k.toNatClampNeg) (gh k.toNatClampNeg) cl cx0 cx1 cy0 cy1 ic) (fun t => gd (4096 * k.toNatClampNeg + t)) (gd (4096 * k.toNatClampNeg + ixP x y)) co st1 dn) (i + 1)) = rcS (opnJ (gw k.toNatClampNeg) (gh k.toNatClampNeg) cl cx0 cx1 cy0 cy1 ic) (fun t => gd (4096 * k.toNatClampNeg + t)) (gd (4096 * k.toNatClampNeg + ixP x y)) y_72 y_73 (rcI (opnJ (gw k.toNatClampNeg) (gh k.toNatClampNeg) cl cx0 cx1 cy0 cy1 ic) (fun t => gd (4096 * k.toNatClampNeg + t)) (gd (4096 * k.toNatClampNeg + ixP x y)) co (pX ((rcO (opnJ (gw k.toNatClampNeg) (gh k.toNatClampNeg) cl cx0 cx1 cy0 cy1 ic) (fun t => gd (4096 * k.toNatClampNeg + t)) (gd (4096 * k.toNatClampNeg + ixP x y)) co st1 dn).2.1 dn)) (pY ((rcO (opnJ (gw k.toNatClampNeg) (gh k.toNatClampNeg) cl cx0 cx1 cy0 cy1 ic) (fun t => gd (4096 * k.toNatClampNeg + t)) (gd (4096 * k.toNatClampNeg + ixP x y)) co st1 dn).2.1 dn)) (rcO (opnJ (gw k.toNatClampNeg) (gh k.toNatClampNeg) cl cx0 cx1 cy0 cy1 ic) (fun t => gd (4096 * k.toNatClampNeg + t)) (gd (4096 * k.toNatClampNeg + ixP x y)) co st1 dn) i) := by rw [hay_72, hay_73]; exact if_pos (Or.inr (Or.inl (hdy_19.symm.trans c_70)))
                            have hSt : (rcI (opnJ (gw k.toNatClampNeg) (gh k.toNatClampNeg) cl cx0 cx1 cy0 cy1 ic) (fun t => gd (4096 * k.toNatClampNeg + t)) (gd (4096 * k.toNatClampNeg + ixP x y)) co (pX ((rcO (opnJ (gw k.toNatClampNeg) (gh k.toNatClampNeg) cl cx0 cx1 cy0 cy1 ic) (fun t => gd (4096 * k.toNatClampNeg + t)) (gd (4096 * k.toNatClampNeg + ixP x y)) co st1 dn).2.1 dn)) (pY ((rcO (opnJ (gw k.toNatClampNeg) (gh k.toNatClampNeg) cl cx0 cx1 cy0 cy1 ic) (fun t => gd (4096 * k.toNatClampNeg + t)) (gd (4096 * k.toNatClampNeg + ixP x y)) co st1 dn).2.1 dn)) (rcO (opnJ (gw k.toNatClampNeg) (gh k.toNatClampNeg) cl cx0 cx1 cy0 cy1 ic) (fun t => gd (4096 * k.toNatClampNeg + t)) (gd (4096 * k.toNatClampNeg + ixP x y)) co st1 dn) (i + 1)) = (upd (rcI (opnJ (gw k.toNatClampNeg) (gh k.toNatClampNeg) cl cx0 cx1 cy0 cy1 ic) (fun t => gd (4096 * k.toNatClampNeg + t)) (gd (4096 * k.toNatClampNeg + ixP x y)) co (pX ((rcO (opnJ (gw k.toNatClampNeg) (gh k.toNatClampNeg) cl cx0 cx1 cy0 cy1 ic) (fun t => gd (4096 * k.toNatClampNeg + t)) (gd (4096 * k.toNatClampNeg + ixP x y)) co st1 dn).2.1 dn)) (pY ((rcO (opnJ (gw k.toNatClampNeg) (gh k.toNatClampNeg) cl cx0 cx1 cy0 cy1 ic) (fun t => gd (4096 * k.toNatClampNeg + t)) (gd (4096 * k.toNatClampNeg + ixP x y)) co st1 dn).2.1 dn)) (rcO (opnJ (gw k.toNatClampNeg) (gh k.toNatClampNeg) cl cx0 cx1 cy0 cy1 ic) (fun t => gd (4096 * k.toNatClampNeg + t)) (gd (4096 * k.toNatClampNeg + ixP x y)) co st1 dn) i).1 (ixP y_72 y_73) 1, upd (rcI (opnJ (gw k.toNatClampNeg) (gh k.toNatClampNeg) cl cx0 cx1 cy0 cy1 ic) (fun t => gd (4096 * k.toNatClampNeg + t)) (gd (4096 * k.toNatClampNeg + ixP x y)) co (pX ((rcO (opnJ (gw k.toNatClampNeg) (gh k.toNatClampNeg) cl cx0 cx1 cy0 cy1 ic) (fun t => gd (4096 * k.toNatClampNeg + t)) (gd (4096 * k.toNatClampNeg + ixP x y)) co st1 dn).2.1 dn)) (pY ((rcO (opnJ (gw k.toNatClampNeg) (gh k.toNatClampNeg) cl cx0 cx1 cy0 cy1 ic) (fun t => gd (4096 * k.toNatClampNeg + t)) (gd (4096 * k.toNatClampNeg + ixP x y)) co st1 dn).2.1 dn)) (rcO (opnJ (gw k.toNatClampNeg) (gh k.toNatClampNeg) cl cx0 cx1 cy0 cy1 ic) (fun t => gd (4096 * k.toNatClampNeg + t)) (gd (4096 * k.toNatClampNeg + ixP x y)) co st1 dn) i).2.1 (rcI (opnJ (gw k.toNatClampNeg) (gh k.toNatClampNeg) cl cx0 cx1 cy0 cy1 ic) (fun t => gd (4096 * k.toNatClampNeg + t)) (gd (4096 * k.toNatClampNeg + ixP x y)) co (pX ((rcO (opnJ (gw k.toNatClampNeg) (gh k.toNatClampNeg) cl cx0 cx1 cy0 cy1 ic) (fun t => gd (4096 * k.toNatClampNeg + t)) (gd (4096 * k.toNatClampNeg + ixP x y)) co st1 dn).2.1 dn)) (pY ((rcO (opnJ (gw k.toNatClampNeg) (gh k.toNatClampNeg) cl cx0 cx1 cy0 cy1 ic) (fun t => gd (4096 * k.toNatClampNeg + t)) (gd (4096 * k.toNatClampNeg + ixP x y)) co st1 dn).2.1 dn)) (rcO (opnJ (gw k.toNatClampNeg) (gh k.toNatClampNeg) cl cx0 cx1 cy0 cy1 ic) (fun t => gd (4096 * k.toNatClampNeg + t)) (gd (4096 * k.toNatClampNeg + ixP x y)) co st1 dn) i).2.2 (nI (ixP y_72 y_73)), (rcI (opnJ (gw k.toNatClampNeg) (gh k.toNatClampNeg) cl cx0 cx1 cy0 cy1 ic) (fun t => gd (4096 * k.toNatClampNeg + t)) (gd (4096 * k.toNatClampNeg + ixP x y)) co (pX ((rcO (opnJ (gw k.toNatClampNeg) (gh k.toNatClampNeg) cl cx0 cx1 cy0 cy1 ic) (fun t => gd (4096 * k.toNatClampNeg + t)) (gd (4096 * k.toNatClampNeg + ixP x y)) co st1 dn).2.1 dn)) (pY ((rcO (opnJ (gw k.toNatClampNeg) (gh k.toNatClampNeg) cl cx0 cx1 cy0 cy1 ic) (fun t => gd (4096 * k.toNatClampNeg + t)) (gd (4096 * k.toNatClampNeg + ixP x y)) co st1 dn).2.1 dn)) (rcO (opnJ (gw k.toNatClampNeg) (gh k.toNatClampNeg) cl cx0 cx1 cy0 cy1 ic) (fun t => gd (4096 * k.toNatClampNeg + t)) (gd (4096 * k.toNatClampNeg + ixP x y)) co st1 dn) i).2.2 + 1) := hS1.trans (if_pos ⟨⟨⟨f_76, Or.inr f_100⟩, c_110⟩, hmk, by omega⟩)
                            exact ih_15 (i + 1) y_115 y_114 g_112 g_113 _ _ _ (by omega) (by omega) (by rw [ey_115, ex_i]; exact nI_1 i) (by rw [hSt, ey_114, f7]; exact nI_1 _) (by rw [hSt, ← eg_112, f3, hxcy_104]; rfl) (by rw [hSt, ← eg_113, f2, hixy_104, show z7.toNatClampNeg = (rcI (opnJ (gw k.toNatClampNeg) (gh k.toNatClampNeg) cl cx0 cx1 cy0 cy1 ic) (fun t => gd (4096 * k.toNatClampNeg + t)) (gd (4096 * k.toNatClampNeg + ixP x y)) co (pX ((rcO (opnJ (gw k.toNatClampNeg) (gh k.toNatClampNeg) cl cx0 cx1 cy0 cy1 ic) (fun t => gd (4096 * k.toNatClampNeg + t)) (gd (4096 * k.toNatClampNeg + ixP x y)) co st1 dn).2.1 dn)) (pY ((rcO (opnJ (gw k.toNatClampNeg) (gh k.toNatClampNeg) cl cx0 cx1 cy0 cy1 ic) (fun t => gd (4096 * k.toNatClampNeg + t)) (gd (4096 * k.toNatClampNeg + ixP x y)) co st1 dn).2.1 dn)) (rcO (opnJ (gw k.toNatClampNeg) (gh k.toNatClampNeg) cl cx0 cx1 cy0 cy1 ic) (fun t => gd (4096 * k.toNatClampNeg + t)) (gd (4096 * k.toNatClampNeg + ixP x y)) co st1 dn) i).2.2 by rw [f7]; exact nI_clamp (by omega)]) (by rw [hSt]; exact hcn2) (hP.sub (ws' := [(m1, .inl (cI, 4, .inl gw)), (m2, .inl (cI, 4, .inl gh)), (m3, .inl (cI, 16384, .inl gd)), (m13, .inl (cI, 4096, .inl g_113)), (h0, .inr (9, [.ref m1, .ref m2, .ref m3, .int ik, .int wy, .int op, .int cl, .int cx0, .int cx1, .int cy0, .int cy1, .int ds, .ref m4, .ref m5, .ref m6, .ref m7, .ref m8, .ref m9, .int pn, .ref m10, .ref m11, .ref m12, .ref m13])), (m4, .inl (cZ, 4096, .inl g_112))]) [3, 4, 0, 1, 5, 2] rfl) (hD.sub (ws' := [(m1, .inl (cI, 4, .inl gw)), (m2, .inl (cI, 4, .inl gh)), (m3, .inl (cI, 16384, .inl gd)), (m13, .inl (cI, 4096, .inl g_113)), (h0, .inr (9, [.ref m1, .ref m2, .ref m3, .int ik, .int wy, .int op, .int cl, .int cx0, .int cx1, .int cy0, .int cy1, .int ds, .ref m4, .ref m5, .ref m6, .ref m7, .ref m8, .ref m9, .int pn, .ref m10, .ref m11, .ref m12, .ref m13])), (m4, .inl (cZ, 4096, .inl g_112))]) [3, 4, 0, 1, 5, 2] (by decide) rfl) hS (lv_sub hl [0, 5, 6, 7, 1, 8, 9, 10, 11, 12, 13, 14] rfl)
                          · skip
                            have f_111 : ¬ ((gd (4096 * k.toNatClampNeg + ixP y_72 y_73)).toInt = (gd (4096 * k.toNatClampNeg + ixP x y)).toInt) := fn_eq rfl rfl c_110
                            refine lv_goto (tgt := 238) hx hb dX9_joins_212 (by decide) ?_
                            obtain ⟨y_116, ey_116⟩ : ∃ y : Int32, y = x11 + 1 := ⟨_, rfl⟩
                            refine lv_iinc (v := y_116) (lv' := [(11, .int y_116), (14, .int y_104), (13, .int y_21), (12, .int y_19), (8, .int y_13), (10, .int y_12), (9, .int y_11), (7, .int z7), (6, .int (gd (4096 * k.toNatClampNeg + ixP x y))), (0, .ref h0), (1, .int k), (2, .int x), (3, .int y), (4, .int co), (5, .int ic)]) hx hb dX9_joins_238 hl (k := 3) rfl (by rw [ey_116]; rfl) (by decide) rfl (fun ls hl => ?_)
                            refine lv_goto (tgt := 87) hx hb dX9_joins_241 (by decide) ?_
                            have hS1 : (rcI (opnJ (gw k.toNatClampNeg) (gh k.toNatClampNeg) cl cx0 cx1 cy0 cy1 ic) (fun t => gd (4096 * k.toNatClampNeg + t)) (gd (4096 * k.toNatClampNeg + ixP x y)) co (pX ((rcO (opnJ (gw k.toNatClampNeg) (gh k.toNatClampNeg) cl cx0 cx1 cy0 cy1 ic) (fun t => gd (4096 * k.toNatClampNeg + t)) (gd (4096 * k.toNatClampNeg + ixP x y)) co st1 dn).2.1 dn)) (pY ((rcO (opnJ (gw k.toNatClampNeg) (gh k.toNatClampNeg) cl cx0 cx1 cy0 cy1 ic) (fun t => gd (4096 * k.toNatClampNeg + t)) (gd (4096 * k.toNatClampNeg + ixP x y)) co st1 dn).2.1 dn)) (rcO (opnJ (gw k.toNatClampNeg) (gh k.toNatClampNeg) cl cx0 cx1 cy0 cy1 ic) (fun t => gd (4096 * k.toNatClampNeg + t)) (gd (4096 * k.toNatClampNeg + ixP x y)) co st1 dn) (i + 1)) = rcS (opnJ (gw k.toNatClampNeg) (gh k.toNatClampNeg) cl cx0 cx1 cy0 cy1 ic) (fun t => gd (4096 * k.toNatClampNeg + t)) (gd (4096 * k.toNatClampNeg + ixP x y)) y_72 y_73 (rcI (opnJ (gw k.toNatClampNeg) (gh k.toNatClampNeg) cl cx0 cx1 cy0 cy1 ic) (fun t => gd (4096 * k.toNatClampNeg + t)) (gd (4096 * k.toNatClampNeg + ixP x y)) co (pX ((rcO (opnJ (gw k.toNatClampNeg) (gh k.toNatClampNeg) cl cx0 cx1 cy0 cy1 ic) (fun t => gd (4096 * k.toNatClampNeg + t)) (gd (4096 * k.toNatClampNeg + ixP x y)) co st1 dn).2.1 dn)) (pY ((rcO (opnJ (gw k.toNatClampNeg) (gh k.toNatClampNeg) cl cx0 cx1 cy0 cy1 ic) (fun t => gd (4096 * k.toNatClampNeg + t)) (gd (4096 * k.toNatClampNeg + ixP x y)) co st1 dn).2.1 dn)) (rcO (opnJ (gw k.toNatClampNeg) (gh k.toNatClampNeg) cl cx0 cx1 cy0 cy1 ic) (fun t => gd (4096 * k.toNatClampNeg + t)) (gd (4096 * k.toNatClampNeg + ixP x y)) co st1 dn) i) := by rw [hay_72, hay_73]; exact if_pos (Or.inr (Or.inl (hdy_19.symm.trans c_70)))
                            have hSt : (rcI (opnJ (gw k.toNatClampNeg) (gh k.toNatClampNeg) cl cx0 cx1 cy0 cy1 ic) (fun t => gd (4096 * k.toNatClampNeg + t)) (gd (4096 * k.toNatClampNeg + ixP x y)) co (pX ((rcO (opnJ (gw k.toNatClampNeg) (gh k.toNatClampNeg) cl cx0 cx1 cy0 cy1 ic) (fun t => gd (4096 * k.toNatClampNeg + t)) (gd (4096 * k.toNatClampNeg + ixP x y)) co st1 dn).2.1 dn)) (pY ((rcO (opnJ (gw k.toNatClampNeg) (gh k.toNatClampNeg) cl cx0 cx1 cy0 cy1 ic) (fun t => gd (4096 * k.toNatClampNeg + t)) (gd (4096 * k.toNatClampNeg + ixP x y)) co st1 dn).2.1 dn)) (rcO (opnJ (gw k.toNatClampNeg) (gh k.toNatClampNeg) cl cx0 cx1 cy0 cy1 ic) (fun t => gd (4096 * k.toNatClampNeg + t)) (gd (4096 * k.toNatClampNeg + ixP x y)) co st1 dn) (i + 1)) = (rcI (opnJ (gw k.toNatClampNeg) (gh k.toNatClampNeg) cl cx0 cx1 cy0 cy1 ic) (fun t => gd (4096 * k.toNatClampNeg + t)) (gd (4096 * k.toNatClampNeg + ixP x y)) co (pX ((rcO (opnJ (gw k.toNatClampNeg) (gh k.toNatClampNeg) cl cx0 cx1 cy0 cy1 ic) (fun t => gd (4096 * k.toNatClampNeg + t)) (gd (4096 * k.toNatClampNeg + ixP x y)) co st1 dn).2.1 dn)) (pY ((rcO (opnJ (gw k.toNatClampNeg) (gh k.toNatClampNeg) cl cx0 cx1 cy0 cy1 ic) (fun t => gd (4096 * k.toNatClampNeg + t)) (gd (4096 * k.toNatClampNeg + ixP x y)) co st1 dn).2.1 dn)) (rcO (opnJ (gw k.toNatClampNeg) (gh k.toNatClampNeg) cl cx0 cx1 cy0 cy1 ic) (fun t => gd (4096 * k.toNatClampNeg + t)) (gd (4096 * k.toNatClampNeg + ixP x y)) co st1 dn) i) := hS1.trans (if_neg (fun q => c_110 q.1.2))
                            exact ih_15 (i + 1) y_116 z7 gu gs _ _ _ (by omega) (by omega) (by rw [ey_116, ex_i]; exact nI_1 i) (by rw [hSt]; exact f7) (by rw [hSt]; exact f3) (by rw [hSt]; exact f2) (by rw [hSt]; exact fcn) (hP.sub (ws' := [(m1, .inl (cI, 4, .inl gw)), (m2, .inl (cI, 4, .inl gh)), (m3, .inl (cI, 16384, .inl gd)), (m13, .inl (cI, 4096, .inl gs)), (h0, .inr (9, [.ref m1, .ref m2, .ref m3, .int ik, .int wy, .int op, .int cl, .int cx0, .int cx1, .int cy0, .int cy1, .int ds, .ref m4, .ref m5, .ref m6, .ref m7, .ref m8, .ref m9, .int pn, .ref m10, .ref m11, .ref m12, .ref m13])), (m4, .inl (cZ, 4096, .inl gu))]) [3, 4, 0, 1, 5, 2] rfl) (hD.sub (ws' := [(m1, .inl (cI, 4, .inl gw)), (m2, .inl (cI, 4, .inl gh)), (m3, .inl (cI, 16384, .inl gd)), (m13, .inl (cI, 4096, .inl gs)), (h0, .inr (9, [.ref m1, .ref m2, .ref m3, .int ik, .int wy, .int op, .int cl, .int cx0, .int cx1, .int cy0, .int cy1, .int ds, .ref m4, .ref m5, .ref m6, .ref m7, .ref m8, .ref m9, .int pn, .ref m10, .ref m11, .ref m12, .ref m13])), (m4, .inl (cZ, 4096, .inl gu))]) [3, 4, 0, 1, 5, 2] (by decide) rfl) hS (lv_sub hl [0, 4, 5, 6, 7, 8, 9, 10, 11, 12, 13, 14] rfl)
                      · skip
                        have f_100 := bz0 hr_98 c_99
                        refine lv_goto (tgt := 238) hx hb dX9_joins_165 (by decide) ?_
                        obtain ⟨y_117, ey_117⟩ : ∃ y : Int32, y = x11 + 1 := ⟨_, rfl⟩
                        refine lv_iinc (v := y_117) (lv' := [(11, .int y_117), (13, .int y_21), (12, .int y_19), (8, .int y_13), (10, .int y_12), (9, .int y_11), (7, .int z7), (6, .int (gd (4096 * k.toNatClampNeg + ixP x y))), (0, .ref h0), (1, .int k), (2, .int x), (3, .int y), (4, .int co), (5, .int ic)]) hx hb dX9_joins_238 hl (k := 2) rfl (by rw [ey_117]; rfl) (by decide) rfl (fun ls hl => ?_)
                        refine lv_goto (tgt := 87) hx hb dX9_joins_241 (by decide) ?_
                        have hS1 : (rcI (opnJ (gw k.toNatClampNeg) (gh k.toNatClampNeg) cl cx0 cx1 cy0 cy1 ic) (fun t => gd (4096 * k.toNatClampNeg + t)) (gd (4096 * k.toNatClampNeg + ixP x y)) co (pX ((rcO (opnJ (gw k.toNatClampNeg) (gh k.toNatClampNeg) cl cx0 cx1 cy0 cy1 ic) (fun t => gd (4096 * k.toNatClampNeg + t)) (gd (4096 * k.toNatClampNeg + ixP x y)) co st1 dn).2.1 dn)) (pY ((rcO (opnJ (gw k.toNatClampNeg) (gh k.toNatClampNeg) cl cx0 cx1 cy0 cy1 ic) (fun t => gd (4096 * k.toNatClampNeg + t)) (gd (4096 * k.toNatClampNeg + ixP x y)) co st1 dn).2.1 dn)) (rcO (opnJ (gw k.toNatClampNeg) (gh k.toNatClampNeg) cl cx0 cx1 cy0 cy1 ic) (fun t => gd (4096 * k.toNatClampNeg + t)) (gd (4096 * k.toNatClampNeg + ixP x y)) co st1 dn) (i + 1)) = rcS (opnJ (gw k.toNatClampNeg) (gh k.toNatClampNeg) cl cx0 cx1 cy0 cy1 ic) (fun t => gd (4096 * k.toNatClampNeg + t)) (gd (4096 * k.toNatClampNeg + ixP x y)) y_72 y_73 (rcI (opnJ (gw k.toNatClampNeg) (gh k.toNatClampNeg) cl cx0 cx1 cy0 cy1 ic) (fun t => gd (4096 * k.toNatClampNeg + t)) (gd (4096 * k.toNatClampNeg + ixP x y)) co (pX ((rcO (opnJ (gw k.toNatClampNeg) (gh k.toNatClampNeg) cl cx0 cx1 cy0 cy1 ic) (fun t => gd (4096 * k.toNatClampNeg + t)) (gd (4096 * k.toNatClampNeg + ixP x y)) co st1 dn).2.1 dn)) (pY ((rcO (opnJ (gw k.toNatClampNeg) (gh k.toNatClampNeg) cl cx0 cx1 cy0 cy1 ic) (fun t => gd (4096 * k.toNatClampNeg + t)) (gd (4096 * k.toNatClampNeg + ixP x y)) co st1 dn).2.1 dn)) (rcO (opnJ (gw k.toNatClampNeg) (gh k.toNatClampNeg) cl cx0 cx1 cy0 cy1 ic) (fun t => gd (4096 * k.toNatClampNeg + t)) (gd (4096 * k.toNatClampNeg + ixP x y)) co st1 dn) i) := by rw [hay_72, hay_73]; exact if_pos (Or.inr (Or.inl (hdy_19.symm.trans c_70)))
                        have hSt : (rcI (opnJ (gw k.toNatClampNeg) (gh k.toNatClampNeg) cl cx0 cx1 cy0 cy1 ic) (fun t => gd (4096 * k.toNatClampNeg + t)) (gd (4096 * k.toNatClampNeg + ixP x y)) co (pX ((rcO (opnJ (gw k.toNatClampNeg) (gh k.toNatClampNeg) cl cx0 cx1 cy0 cy1 ic) (fun t => gd (4096 * k.toNatClampNeg + t)) (gd (4096 * k.toNatClampNeg + ixP x y)) co st1 dn).2.1 dn)) (pY ((rcO (opnJ (gw k.toNatClampNeg) (gh k.toNatClampNeg) cl cx0 cx1 cy0 cy1 ic) (fun t => gd (4096 * k.toNatClampNeg + t)) (gd (4096 * k.toNatClampNeg + ixP x y)) co st1 dn).2.1 dn)) (rcO (opnJ (gw k.toNatClampNeg) (gh k.toNatClampNeg) cl cx0 cx1 cy0 cy1 ic) (fun t => gd (4096 * k.toNatClampNeg + t)) (gd (4096 * k.toNatClampNeg + ixP x y)) co st1 dn) (i + 1)) = (rcI (opnJ (gw k.toNatClampNeg) (gh k.toNatClampNeg) cl cx0 cx1 cy0 cy1 ic) (fun t => gd (4096 * k.toNatClampNeg + t)) (gd (4096 * k.toNatClampNeg + ixP x y)) co (pX ((rcO (opnJ (gw k.toNatClampNeg) (gh k.toNatClampNeg) cl cx0 cx1 cy0 cy1 ic) (fun t => gd (4096 * k.toNatClampNeg + t)) (gd (4096 * k.toNatClampNeg + ixP x y)) co st1 dn).2.1 dn)) (pY ((rcO (opnJ (gw k.toNatClampNeg) (gh k.toNatClampNeg) cl cx0 cx1 cy0 cy1 ic) (fun t => gd (4096 * k.toNatClampNeg + t)) (gd (4096 * k.toNatClampNeg + ixP x y)) co st1 dn).2.1 dn)) (rcO (opnJ (gw k.toNatClampNeg) (gh k.toNatClampNeg) cl cx0 cx1 cy0 cy1 ic) (fun t => gd (4096 * k.toNatClampNeg + t)) (gd (4096 * k.toNatClampNeg + ixP x y)) co st1 dn) i) := hS1.trans (if_neg (fun q => q.1.1.2.elim c_78 (fun q => f_100 q)))
                        exact ih_15 (i + 1) y_117 z7 gu gs _ _ _ (by omega) (by omega) (by rw [ey_117, ex_i]; exact nI_1 i) (by rw [hSt]; exact f7) (by rw [hSt]; exact f3) (by rw [hSt]; exact f2) (by rw [hSt]; exact fcn) (hP.sub (ws' := [(m1, .inl (cI, 4, .inl gw)), (m2, .inl (cI, 4, .inl gh)), (m3, .inl (cI, 16384, .inl gd)), (m13, .inl (cI, 4096, .inl gs)), (h0, .inr (9, [.ref m1, .ref m2, .ref m3, .int ik, .int wy, .int op, .int cl, .int cx0, .int cx1, .int cy0, .int cy1, .int ds, .ref m4, .ref m5, .ref m6, .ref m7, .ref m8, .ref m9, .int pn, .ref m10, .ref m11, .ref m12, .ref m13])), (m4, .inl (cZ, 4096, .inl gu))]) [3, 4, 0, 1, 5, 2] rfl) (hD.sub (ws' := [(m1, .inl (cI, 4, .inl gw)), (m2, .inl (cI, 4, .inl gh)), (m3, .inl (cI, 16384, .inl gd)), (m13, .inl (cI, 4096, .inl gs)), (h0, .inr (9, [.ref m1, .ref m2, .ref m3, .int ik, .int wy, .int op, .int cl, .int cx0, .int cx1, .int cy0, .int cy1, .int ds, .ref m4, .ref m5, .ref m6, .ref m7, .ref m8, .ref m9, .int pn, .ref m10, .ref m11, .ref m12, .ref m13])), (m4, .inl (cZ, 4096, .inl gu))]) [3, 4, 0, 1, 5, 2] (by decide) rfl) hS (lv_sub hl [0, 3, 4, 5, 6, 7, 8, 9, 10, 11, 12, 13] rfl)
                · skip
                  have f_71 : ¬ (y_19.toInt = 0) := fn_eq rfl (by decide) c_70
                  refine lv_iload hx hb dX9_joins_120 (lv_at hl 0 rfl) ?_
                  refine lv_if_ne (tgt := 238) hx hb dX9_joins_122 (by decide) (fun c_118 => ?_) (fun c_118 => ?_)
                  · skip
                    have f_119 : ¬ (y_21.toInt = 0) := fn_eq rfl (by decide) c_118
                    obtain ⟨y_120, ey_120⟩ : ∃ y : Int32, y = x11 + 1 := ⟨_, rfl⟩
                    refine lv_iinc (v := y_120) (lv' := [(11, .int y_120), (13, .int y_21), (12, .int y_19), (8, .int y_13), (10, .int y_12), (9, .int y_11), (7, .int z7), (6, .int (gd (4096 * k.toNatClampNeg + ixP x y))), (0, .ref h0), (1, .int k), (2, .int x), (3, .int y), (4, .int co), (5, .int ic)]) hx hb dX9_joins_238 hl (k := 2) rfl (by rw [ey_120]; rfl) (by decide) rfl (fun ls hl => ?_)
                    refine lv_goto (tgt := 87) hx hb dX9_joins_241 (by decide) ?_
                    have hSt : (rcI (opnJ (gw k.toNatClampNeg) (gh k.toNatClampNeg) cl cx0 cx1 cy0 cy1 ic) (fun t => gd (4096 * k.toNatClampNeg + t)) (gd (4096 * k.toNatClampNeg + ixP x y)) co (pX ((rcO (opnJ (gw k.toNatClampNeg) (gh k.toNatClampNeg) cl cx0 cx1 cy0 cy1 ic) (fun t => gd (4096 * k.toNatClampNeg + t)) (gd (4096 * k.toNatClampNeg + ixP x y)) co st1 dn).2.1 dn)) (pY ((rcO (opnJ (gw k.toNatClampNeg) (gh k.toNatClampNeg) cl cx0 cx1 cy0 cy1 ic) (fun t => gd (4096 * k.toNatClampNeg + t)) (gd (4096 * k.toNatClampNeg + ixP x y)) co st1 dn).2.1 dn)) (rcO (opnJ (gw k.toNatClampNeg) (gh k.toNatClampNeg) cl cx0 cx1 cy0 cy1 ic) (fun t => gd (4096 * k.toNatClampNeg + t)) (gd (4096 * k.toNatClampNeg + ixP x y)) co st1 dn) (i + 1)) = (rcI (opnJ (gw k.toNatClampNeg) (gh k.toNatClampNeg) cl cx0 cx1 cy0 cy1 ic) (fun t => gd (4096 * k.toNatClampNeg + t)) (gd (4096 * k.toNatClampNeg + ixP x y)) co (pX ((rcO (opnJ (gw k.toNatClampNeg) (gh k.toNatClampNeg) cl cx0 cx1 cy0 cy1 ic) (fun t => gd (4096 * k.toNatClampNeg + t)) (gd (4096 * k.toNatClampNeg + ixP x y)) co st1 dn).2.1 dn)) (pY ((rcO (opnJ (gw k.toNatClampNeg) (gh k.toNatClampNeg) cl cx0 cx1 cy0 cy1 ic) (fun t => gd (4096 * k.toNatClampNeg + t)) (gd (4096 * k.toNatClampNeg + ixP x y)) co st1 dn).2.1 dn)) (rcO (opnJ (gw k.toNatClampNeg) (gh k.toNatClampNeg) cl cx0 cx1 cy0 cy1 ic) (fun t => gd (4096 * k.toNatClampNeg + t)) (gd (4096 * k.toNatClampNeg + ixP x y)) co st1 dn) i) := if_neg (fun q => q.elim (fun q => q c_22) (fun q => q.elim (fun q => c_70 (hdy_19.trans q)) (fun q => c_118 (hdy_21.trans q))))
                    exact ih_15 (i + 1) y_120 z7 gu gs _ _ _ (by omega) (by omega) (by rw [ey_120, ex_i]; exact nI_1 i) (by rw [hSt]; exact f7) (by rw [hSt]; exact f3) (by rw [hSt]; exact f2) (by rw [hSt]; exact fcn) (hP.sub (ws' := [(m1, .inl (cI, 4, .inl gw)), (m2, .inl (cI, 4, .inl gh)), (m3, .inl (cI, 16384, .inl gd)), (m13, .inl (cI, 4096, .inl gs)), (h0, .inr (9, [.ref m1, .ref m2, .ref m3, .int ik, .int wy, .int op, .int cl, .int cx0, .int cx1, .int cy0, .int cy1, .int ds, .ref m4, .ref m5, .ref m6, .ref m7, .ref m8, .ref m9, .int pn, .ref m10, .ref m11, .ref m12, .ref m13])), (m4, .inl (cZ, 4096, .inl gu))]) [0, 1, 2, 3, 4, 5] rfl) (hD.sub (ws' := [(m1, .inl (cI, 4, .inl gw)), (m2, .inl (cI, 4, .inl gh)), (m3, .inl (cI, 16384, .inl gd)), (m13, .inl (cI, 4096, .inl gs)), (h0, .inr (9, [.ref m1, .ref m2, .ref m3, .int ik, .int wy, .int op, .int cl, .int cx0, .int cx1, .int cy0, .int cy1, .int ds, .ref m4, .ref m5, .ref m6, .ref m7, .ref m8, .ref m9, .int pn, .ref m10, .ref m11, .ref m12, .ref m13])), (m4, .inl (cZ, 4096, .inl gu))]) [0, 1, 2, 3, 4, 5] (by decide) rfl) hS (lv_sub hl [0, 3, 4, 5, 6, 7, 8, 9, 10, 11, 12, 13] rfl)
                  · skip
                    have f_119 : y_21.toInt = 0 := f_eq rfl (by decide) c_118
                    refine lv_aload_n hx hb dX9_joins_125 rfl (lv_at hl 8 rfl) ?_
                    refine lv_iload_n hx hb dX9_joins_126 rfl (lv_at hl 9 rfl) ?_
                    refine lv_iload hx hb dX9_joins_127 (lv_at hl 5 rfl) ?_
                    refine lv_iload hx hb dX9_joins_129 (lv_at hl 1 rfl) ?_
                    refine lv_iadd hx hb dX9_joins_131 ?_
                    refine lv_topi (fun y_121 ey_121 => ?_)
                    have hay_121 : y_121 = pX ((rcO (opnJ (gw k.toNatClampNeg) (gh k.toNatClampNeg) cl cx0 cx1 cy0 cy1 ic) (fun t => gd (4096 * k.toNatClampNeg + t)) (gd (4096 * k.toNatClampNeg + ixP x y)) co st1 dn).2.1 dn) + dX i := by rw [ey_121, hp9, hdy_19]
                    refine lv_iload hx hb dX9_joins_132 (lv_at hl 4 rfl) ?_
                    refine lv_iload hx hb dX9_joins_134 (lv_at hl 0 rfl) ?_
                    refine lv_iadd hx hb dX9_joins_136 ?_
                    refine lv_topi (fun y_122 ey_122 => ?_)
                    have hay_122 : y_122 = pY ((rcO (opnJ (gw k.toNatClampNeg) (gh k.toNatClampNeg) cl cx0 cx1 cy0 cy1 ic) (fun t => gd (4096 * k.toNatClampNeg + t)) (gd (4096 * k.toNatClampNeg + ixP x y)) co st1 dn).2.1 dn) + dY i := by rw [ey_122, hp10, hdy_21]
                    have hPc := hP.sub (ws' := [(h0, .inr (9, [.ref m1, .ref m2, .ref m3, .int ik, .int wy, .int op, .int cl, .int cx0, .int cx1, .int cy0, .int cy1, .int ds, .ref m4, .ref m5, .ref m6, .ref m7, .ref m8, .ref m9, .int pn, .ref m10, .ref m11, .ref m12, .ref m13])), (m1, .inl (cI, 4, .inl gw)), (m2, .inl (cI, 4, .inl gh))]) [4, 0, 1] rfl
                    have hDc := hD.sub (ws' := [(h0, .inr (9, [.ref m1, .ref m2, .ref m3, .int ik, .int wy, .int op, .int cl, .int cx0, .int cx1, .int cy0, .int cy1, .int ds, .ref m4, .ref m5, .ref m6, .ref m7, .ref m8, .ref m9, .int pn, .ref m10, .ref m11, .ref m12, .ref m13])), (m1, .inl (cI, 4, .inl gw)), (m2, .inl (cI, 4, .inl gh))]) [4, 0, 1] (by decide) rfl
                    have hKc := hK.sub (tys' := [(cI, .int)]) [0] rfl
                    have hFc := va_free (wc := [(h0, .inr (9, [.ref m1, .ref m2, .ref m3, .int ik, .int wy, .int op, .int cl, .int cx0, .int cx1, .int cy0, .int cy1, .int ds, .ref m4, .ref m5, .ref m6, .ref m7, .ref m8, .ref m9, .int pn, .ref m10, .ref m11, .ref m12, .ref m13])), (m1, .inl (cI, 4, .inl gw)), (m2, .inl (cI, 4, .inl gh))]) hD hS hA [4, 0, 1] rfl
                    refine va_calli (va_runV (As := [.int k, .int y_121, .int y_122]) (rest := []) ⟨hx, hb, hml, hown, hts⟩ (k_X9_isOn l D H.size h0 m1 m2 m3 m4 m5 m6 m7 m8 m9 m10 m11 m12 m13 ik wy op cl cx0 cx1 cy0 cy1 ds pn gw gh k y_121 y_122 cI (by omega)) (cwV 3 hts (gV bw_433 bw_418 bw_419 bw_391 bw_417) rfl rfl rfl (by decide +kernel) ⟨(by rw [hR]; exact Nat.le_of_ble_eq_true rfl), (by rw [hR]; exact Nat.le_of_ble_eq_true rfl)⟩) ⟨cP_blind, va_recv hKc hPc (ci := 9) (q0 := 0) rfl rfl, cP_at hPc hKc hDc hN⟩ rfl rfl hl.1 rfl (lv_room (Nat.le_of_ble_eq_true rfl)) dX9_joins_137 ⟨(by rw [hR]; exact Nat.le_of_ble_eq_true rfl), (by rw [hR]; exact Nat.le_of_ble_eq_true rfl)⟩) hS (fun q _ h => hFc q h) hFc (fun r_123 u9 t9 H1 locs ht hvm hr_123 hB hz1 hk1 hS => ?_)
                    try dsimp only at hr_123
                    obtain ⟨hP1, hK1, hD1⟩ := hB
                    rw [ht] at hP1
                    obtain ⟨hP, hD⟩ := va_join (wr := [(m3, .inl (cI, 16384, .inl gd)), (m13, .inl (cI, 4096, .inl gs)), (m4, .inl (cZ, 4096, .inl gu))]) (w1 := [(h0, .inr (9, [.ref m1, .ref m2, .ref m3, .int ik, .int wy, .int op, .int cl, .int cx0, .int cx1, .int cy0, .int cy1, .int ds, .ref m4, .ref m5, .ref m6, .ref m7, .ref m8, .ref m9, .int pn, .ref m10, .ref m11, .ref m12, .ref m13])), (m1, .inl (cI, 4, .inl gw)), (m2, .inl (cI, 4, .inl gh))]) hP hD [4, 0, 1] [2, 3, 5] rfl rfl (by decide) (by decide) hk1 hFc hP1 hD1
                    clear hz1 hk1 hFc hKc hDc hPc
                    generalize H1 = H at hP hS ⊢
                    have hP : va_P D vwCl [(m3, .inl (cI, 16384, .inl gd)), (m13, .inl (cI, 4096, .inl gs)), (m4, .inl (cZ, 4096, .inl gu)), (h0, .inr (9, [.ref m1, .ref m2, .ref m3, .int ik, .int wy, .int op, .int cl, .int cx0, .int cx1, .int cy0, .int cy1, .int ds, .ref m4, .ref m5, .ref m6, .ref m7, .ref m8, .ref m9, .int pn, .ref m10, .ref m11, .ref m12, .ref m13])), (m1, .inl (cI, 4, .inl gw)), (m2, .inl (cI, 4, .inl gh))] H := hP
                    have hD : va_D A [(m3, .inl (cI, 16384, .inl gd)), (m13, .inl (cI, 4096, .inl gs)), (m4, .inl (cZ, 4096, .inl gu)), (h0, .inr (9, [.ref m1, .ref m2, .ref m3, .int ik, .int wy, .int op, .int cl, .int cx0, .int cx1, .int cy0, .int cy1, .int ds, .ref m4, .ref m5, .ref m6, .ref m7, .ref m8, .ref m9, .int pn, .ref m10, .ref m11, .ref m12, .ref m13])), (m1, .inl (cI, 4, .inl gw)), (m2, .inl (cI, 4, .inl gh))] := hD
                    refine lv_if_eq (tgt := 238) hx hb dX9_joins_140 (by decide) (fun c_124 => ?_) (fun c_124 => ?_)
                    · skip
                      have f_125 := bz0 hr_123 c_124
                      obtain ⟨y_126, ey_126⟩ : ∃ y : Int32, y = x11 + 1 := ⟨_, rfl⟩
                      refine lv_iinc (v := y_126) (lv' := [(11, .int y_126), (13, .int y_21), (12, .int y_19), (8, .int y_13), (10, .int y_12), (9, .int y_11), (7, .int z7), (6, .int (gd (4096 * k.toNatClampNeg + ixP x y))), (0, .ref h0), (1, .int k), (2, .int x), (3, .int y), (4, .int co), (5, .int ic)]) hx hb dX9_joins_238 hl (k := 2) rfl (by rw [ey_126]; rfl) (by decide) rfl (fun ls hl => ?_)
                      refine lv_goto (tgt := 87) hx hb dX9_joins_241 (by decide) ?_
                      have hS1 : (rcI (opnJ (gw k.toNatClampNeg) (gh k.toNatClampNeg) cl cx0 cx1 cy0 cy1 ic) (fun t => gd (4096 * k.toNatClampNeg + t)) (gd (4096 * k.toNatClampNeg + ixP x y)) co (pX ((rcO (opnJ (gw k.toNatClampNeg) (gh k.toNatClampNeg) cl cx0 cx1 cy0 cy1 ic) (fun t => gd (4096 * k.toNatClampNeg + t)) (gd (4096 * k.toNatClampNeg + ixP x y)) co st1 dn).2.1 dn)) (pY ((rcO (opnJ (gw k.toNatClampNeg) (gh k.toNatClampNeg) cl cx0 cx1 cy0 cy1 ic) (fun t => gd (4096 * k.toNatClampNeg + t)) (gd (4096 * k.toNatClampNeg + ixP x y)) co st1 dn).2.1 dn)) (rcO (opnJ (gw k.toNatClampNeg) (gh k.toNatClampNeg) cl cx0 cx1 cy0 cy1 ic) (fun t => gd (4096 * k.toNatClampNeg + t)) (gd (4096 * k.toNatClampNeg + ixP x y)) co st1 dn) (i + 1)) = rcS (opnJ (gw k.toNatClampNeg) (gh k.toNatClampNeg) cl cx0 cx1 cy0 cy1 ic) (fun t => gd (4096 * k.toNatClampNeg + t)) (gd (4096 * k.toNatClampNeg + ixP x y)) y_121 y_122 (rcI (opnJ (gw k.toNatClampNeg) (gh k.toNatClampNeg) cl cx0 cx1 cy0 cy1 ic) (fun t => gd (4096 * k.toNatClampNeg + t)) (gd (4096 * k.toNatClampNeg + ixP x y)) co (pX ((rcO (opnJ (gw k.toNatClampNeg) (gh k.toNatClampNeg) cl cx0 cx1 cy0 cy1 ic) (fun t => gd (4096 * k.toNatClampNeg + t)) (gd (4096 * k.toNatClampNeg + ixP x y)) co st1 dn).2.1 dn)) (pY ((rcO (opnJ (gw k.toNatClampNeg) (gh k.toNatClampNeg) cl cx0 cx1 cy0 cy1 ic) (fun t => gd (4096 * k.toNatClampNeg + t)) (gd (4096 * k.toNatClampNeg + ixP x y)) co st1 dn).2.1 dn)) (rcO (opnJ (gw k.toNatClampNeg) (gh k.toNatClampNeg) cl cx0 cx1 cy0 cy1 ic) (fun t => gd (4096 * k.toNatClampNeg + t)) (gd (4096 * k.toNatClampNeg + ixP x y)) co st1 dn) i) := by rw [hay_121, hay_122]; exact if_pos (Or.inr (Or.inr (hdy_21.symm.trans c_118)))
                      have hSt : (rcI (opnJ (gw k.toNatClampNeg) (gh k.toNatClampNeg) cl cx0 cx1 cy0 cy1 ic) (fun t => gd (4096 * k.toNatClampNeg + t)) (gd (4096 * k.toNatClampNeg + ixP x y)) co (pX ((rcO (opnJ (gw k.toNatClampNeg) (gh k.toNatClampNeg) cl cx0 cx1 cy0 cy1 ic) (fun t => gd (4096 * k.toNatClampNeg + t)) (gd (4096 * k.toNatClampNeg + ixP x y)) co st1 dn).2.1 dn)) (pY ((rcO (opnJ (gw k.toNatClampNeg) (gh k.toNatClampNeg) cl cx0 cx1 cy0 cy1 ic) (fun t => gd (4096 * k.toNatClampNeg + t)) (gd (4096 * k.toNatClampNeg + ixP x y)) co st1 dn).2.1 dn)) (rcO (opnJ (gw k.toNatClampNeg) (gh k.toNatClampNeg) cl cx0 cx1 cy0 cy1 ic) (fun t => gd (4096 * k.toNatClampNeg + t)) (gd (4096 * k.toNatClampNeg + ixP x y)) co st1 dn) (i + 1)) = (rcI (opnJ (gw k.toNatClampNeg) (gh k.toNatClampNeg) cl cx0 cx1 cy0 cy1 ic) (fun t => gd (4096 * k.toNatClampNeg + t)) (gd (4096 * k.toNatClampNeg + ixP x y)) co (pX ((rcO (opnJ (gw k.toNatClampNeg) (gh k.toNatClampNeg) cl cx0 cx1 cy0 cy1 ic) (fun t => gd (4096 * k.toNatClampNeg + t)) (gd (4096 * k.toNatClampNeg + ixP x y)) co st1 dn).2.1 dn)) (pY ((rcO (opnJ (gw k.toNatClampNeg) (gh k.toNatClampNeg) cl cx0 cx1 cy0 cy1 ic) (fun t => gd (4096 * k.toNatClampNeg + t)) (gd (4096 * k.toNatClampNeg + ixP x y)) co st1 dn).2.1 dn)) (rcO (opnJ (gw k.toNatClampNeg) (gh k.toNatClampNeg) cl cx0 cx1 cy0 cy1 ic) (fun t => gd (4096 * k.toNatClampNeg + t)) (gd (4096 * k.toNatClampNeg + ixP x y)) co st1 dn) i) := hS1.trans (if_neg (fun q => f_125 q.1.1.1))
                      exact ih_15 (i + 1) y_126 z7 gu gs _ _ _ (by omega) (by omega) (by rw [ey_126, ex_i]; exact nI_1 i) (by rw [hSt]; exact f7) (by rw [hSt]; exact f3) (by rw [hSt]; exact f2) (by rw [hSt]; exact fcn) (hP.sub (ws' := [(m1, .inl (cI, 4, .inl gw)), (m2, .inl (cI, 4, .inl gh)), (m3, .inl (cI, 16384, .inl gd)), (m13, .inl (cI, 4096, .inl gs)), (h0, .inr (9, [.ref m1, .ref m2, .ref m3, .int ik, .int wy, .int op, .int cl, .int cx0, .int cx1, .int cy0, .int cy1, .int ds, .ref m4, .ref m5, .ref m6, .ref m7, .ref m8, .ref m9, .int pn, .ref m10, .ref m11, .ref m12, .ref m13])), (m4, .inl (cZ, 4096, .inl gu))]) [4, 5, 0, 1, 3, 2] rfl) (hD.sub (ws' := [(m1, .inl (cI, 4, .inl gw)), (m2, .inl (cI, 4, .inl gh)), (m3, .inl (cI, 16384, .inl gd)), (m13, .inl (cI, 4096, .inl gs)), (h0, .inr (9, [.ref m1, .ref m2, .ref m3, .int ik, .int wy, .int op, .int cl, .int cx0, .int cx1, .int cy0, .int cy1, .int ds, .ref m4, .ref m5, .ref m6, .ref m7, .ref m8, .ref m9, .int pn, .ref m10, .ref m11, .ref m12, .ref m13])), (m4, .inl (cZ, 4096, .inl gu))]) [4, 5, 0, 1, 3, 2] (by decide) rfl) hS (lv_sub hl [0, 3, 4, 5, 6, 7, 8, 9, 10, 11, 12, 13] rfl)
                    · skip
                      have f_125 := bz1 hr_123 c_124
                      refine lv_iload hx hb dX9_joins_143 (lv_at hl 13 rfl) ?_
                      refine lv_if_eq (tgt := 168) hx hb dX9_joins_145 (by decide) (fun c_127 => ?_) (fun c_127 => ?_)
                      · skip
                        have f_128 : ic.toInt = 0 := f_eq rfl (by decide) c_127
                        refine lv_bipush (v := 64) hx hb dX9_joins_168 (by decide) ?_
                        refine lv_iload hx hb dX9_joins_170 (lv_at hl 4 rfl) ?_
                        refine lv_iload hx hb dX9_joins_172 (lv_at hl 0 rfl) ?_
                        refine lv_iadd hx hb dX9_joins_174 ?_
                        refine lv_topi (fun y_129 ey_129 => ?_)
                        have hay_129 : y_129 = pY ((rcO (opnJ (gw k.toNatClampNeg) (gh k.toNatClampNeg) cl cx0 cx1 cy0 cy1 ic) (fun t => gd (4096 * k.toNatClampNeg + t)) (gd (4096 * k.toNatClampNeg + ixP x y)) co st1 dn).2.1 dn) + dY i := by rw [ey_129, hp10, hdy_21]
                        refine lv_imul hx hb dX9_joins_175 ?_
                        refine lv_topi (fun y_130 ey_130 => ?_)
                        refine lv_iload hx hb dX9_joins_176 (lv_at hl 5 rfl) ?_
                        refine lv_iadd hx hb dX9_joins_178 ?_
                        refine lv_topi (fun y_131 ey_131 => ?_)
                        refine lv_iload hx hb dX9_joins_179 (lv_at hl 1 rfl) ?_
                        refine lv_iadd hx hb dX9_joins_181 ?_
                        refine lv_topi (fun y_132 ey_132 => ?_)
                        have htoy_132 : y_132 = 64 * y_122 + y_121 := by rw [ey_132, ey_131, ey_130, ey_129, ey_122, ey_121, Int32.add_assoc]
                        have hiny_132 : vp_in y_132 4096 := by rw [htoy_132]; exact ix_in2 (by omega) (by omega) (by omega) (by omega)
                        have hixy_132 : y_132 = nI (ixP y_121 y_122) := by rw [htoy_132]; exact ix_nI2 (by omega) (by omega) (by omega) (by omega)
                        have hxcy_132 : y_132.toNatClampNeg = ixP y_121 y_122 := by rw [hixy_132]; exact nI_clamp (by have := ix_lt (x := y_121) (y := y_122) (by omega) (by omega) (by omega) (by omega); omega)
                        refine lv_istore (lv' := [(14, .int y_132), (13, .int y_21), (12, .int y_19), (11, .int x11), (8, .int y_13), (10, .int y_12), (9, .int y_11), (7, .int z7), (6, .int (gd (4096 * k.toNatClampNeg + ixP x y))), (0, .ref h0), (1, .int k), (2, .int x), (3, .int y), (4, .int co), (5, .int ic)]) hx hb dX9_joins_182 hl (by decide) rfl (fun ls hl => ?_)
                        refine lv_aload_n hx hb dX9_joins_184 rfl (lv_at hl 9 rfl) ?_
                        refine va_get (D := D) (ci := 9) (v := .ref m4) (C := RX9) (T := TX9) (N := 23) hx hb hts hi_X9 hown hK hP 3 rfl rfl 12 (by decide) (hts _ bw_404) (fun _ h9 => h9) rfl dX9_joins_185 ?_
                        refine lv_iload hx hb dX9_joins_188 (lv_at hl 0 rfl) ?_
                        refine va_zald hx hb hK hP 2 1 rfl rfl hiny_132 dX9_joins_190 ?_
                        refine lv_if_ne (tgt := 238) hx hb dX9_joins_191 (by decide) (fun c_133 => ?_) (fun c_133 => ?_)
                        · skip
                          have f_134 : ¬ ((gu y_132.toNatClampNeg).toInt = 0) := fn_eq rfl (by decide) c_133
                          obtain ⟨y_135, ey_135⟩ : ∃ y : Int32, y = x11 + 1 := ⟨_, rfl⟩
                          refine lv_iinc (v := y_135) (lv' := [(11, .int y_135), (14, .int y_132), (13, .int y_21), (12, .int y_19), (8, .int y_13), (10, .int y_12), (9, .int y_11), (7, .int z7), (6, .int (gd (4096 * k.toNatClampNeg + ixP x y))), (0, .ref h0), (1, .int k), (2, .int x), (3, .int y), (4, .int co), (5, .int ic)]) hx hb dX9_joins_238 hl (k := 3) rfl (by rw [ey_135]; rfl) (by decide) rfl (fun ls hl => ?_)
                          refine lv_goto (tgt := 87) hx hb dX9_joins_241 (by decide) ?_
                          have hS1 : (rcI (opnJ (gw k.toNatClampNeg) (gh k.toNatClampNeg) cl cx0 cx1 cy0 cy1 ic) (fun t => gd (4096 * k.toNatClampNeg + t)) (gd (4096 * k.toNatClampNeg + ixP x y)) co (pX ((rcO (opnJ (gw k.toNatClampNeg) (gh k.toNatClampNeg) cl cx0 cx1 cy0 cy1 ic) (fun t => gd (4096 * k.toNatClampNeg + t)) (gd (4096 * k.toNatClampNeg + ixP x y)) co st1 dn).2.1 dn)) (pY ((rcO (opnJ (gw k.toNatClampNeg) (gh k.toNatClampNeg) cl cx0 cx1 cy0 cy1 ic) (fun t => gd (4096 * k.toNatClampNeg + t)) (gd (4096 * k.toNatClampNeg + ixP x y)) co st1 dn).2.1 dn)) (rcO (opnJ (gw k.toNatClampNeg) (gh k.toNatClampNeg) cl cx0 cx1 cy0 cy1 ic) (fun t => gd (4096 * k.toNatClampNeg + t)) (gd (4096 * k.toNatClampNeg + ixP x y)) co st1 dn) (i + 1)) = rcS (opnJ (gw k.toNatClampNeg) (gh k.toNatClampNeg) cl cx0 cx1 cy0 cy1 ic) (fun t => gd (4096 * k.toNatClampNeg + t)) (gd (4096 * k.toNatClampNeg + ixP x y)) y_121 y_122 (rcI (opnJ (gw k.toNatClampNeg) (gh k.toNatClampNeg) cl cx0 cx1 cy0 cy1 ic) (fun t => gd (4096 * k.toNatClampNeg + t)) (gd (4096 * k.toNatClampNeg + ixP x y)) co (pX ((rcO (opnJ (gw k.toNatClampNeg) (gh k.toNatClampNeg) cl cx0 cx1 cy0 cy1 ic) (fun t => gd (4096 * k.toNatClampNeg + t)) (gd (4096 * k.toNatClampNeg + ixP x y)) co st1 dn).2.1 dn)) (pY ((rcO (opnJ (gw k.toNatClampNeg) (gh k.toNatClampNeg) cl cx0 cx1 cy0 cy1 ic) (fun t => gd (4096 * k.toNatClampNeg + t)) (gd (4096 * k.toNatClampNeg + ixP x y)) co st1 dn).2.1 dn)) (rcO (opnJ (gw k.toNatClampNeg) (gh k.toNatClampNeg) cl cx0 cx1 cy0 cy1 ic) (fun t => gd (4096 * k.toNatClampNeg + t)) (gd (4096 * k.toNatClampNeg + ixP x y)) co st1 dn) i) := by rw [hay_121, hay_122]; exact if_pos (Or.inr (Or.inr (hdy_21.symm.trans c_118)))
                          have hSt : (rcI (opnJ (gw k.toNatClampNeg) (gh k.toNatClampNeg) cl cx0 cx1 cy0 cy1 ic) (fun t => gd (4096 * k.toNatClampNeg + t)) (gd (4096 * k.toNatClampNeg + ixP x y)) co (pX ((rcO (opnJ (gw k.toNatClampNeg) (gh k.toNatClampNeg) cl cx0 cx1 cy0 cy1 ic) (fun t => gd (4096 * k.toNatClampNeg + t)) (gd (4096 * k.toNatClampNeg + ixP x y)) co st1 dn).2.1 dn)) (pY ((rcO (opnJ (gw k.toNatClampNeg) (gh k.toNatClampNeg) cl cx0 cx1 cy0 cy1 ic) (fun t => gd (4096 * k.toNatClampNeg + t)) (gd (4096 * k.toNatClampNeg + ixP x y)) co st1 dn).2.1 dn)) (rcO (opnJ (gw k.toNatClampNeg) (gh k.toNatClampNeg) cl cx0 cx1 cy0 cy1 ic) (fun t => gd (4096 * k.toNatClampNeg + t)) (gd (4096 * k.toNatClampNeg + ixP x y)) co st1 dn) (i + 1)) = (rcI (opnJ (gw k.toNatClampNeg) (gh k.toNatClampNeg) cl cx0 cx1 cy0 cy1 ic) (fun t => gd (4096 * k.toNatClampNeg + t)) (gd (4096 * k.toNatClampNeg + ixP x y)) co (pX ((rcO (opnJ (gw k.toNatClampNeg) (gh k.toNatClampNeg) cl cx0 cx1 cy0 cy1 ic) (fun t => gd (4096 * k.toNatClampNeg + t)) (gd (4096 * k.toNatClampNeg + ixP x y)) co st1 dn).2.1 dn)) (pY ((rcO (opnJ (gw k.toNatClampNeg) (gh k.toNatClampNeg) cl cx0 cx1 cy0 cy1 ic) (fun t => gd (4096 * k.toNatClampNeg + t)) (gd (4096 * k.toNatClampNeg + ixP x y)) co st1 dn).2.1 dn)) (rcO (opnJ (gw k.toNatClampNeg) (gh k.toNatClampNeg) cl cx0 cx1 cy0 cy1 ic) (fun t => gd (4096 * k.toNatClampNeg + t)) (gd (4096 * k.toNatClampNeg + ixP x y)) co st1 dn) i) := hS1.trans (if_neg (fun q => c_133 (by rw [f3, hxcy_132]; exact q.2.1)))
                          exact ih_15 (i + 1) y_135 z7 gu gs _ _ _ (by omega) (by omega) (by rw [ey_135, ex_i]; exact nI_1 i) (by rw [hSt]; exact f7) (by rw [hSt]; exact f3) (by rw [hSt]; exact f2) (by rw [hSt]; exact fcn) (hP.sub (ws' := [(m1, .inl (cI, 4, .inl gw)), (m2, .inl (cI, 4, .inl gh)), (m3, .inl (cI, 16384, .inl gd)), (m13, .inl (cI, 4096, .inl gs)), (h0, .inr (9, [.ref m1, .ref m2, .ref m3, .int ik, .int wy, .int op, .int cl, .int cx0, .int cx1, .int cy0, .int cy1, .int ds, .ref m4, .ref m5, .ref m6, .ref m7, .ref m8, .ref m9, .int pn, .ref m10, .ref m11, .ref m12, .ref m13])), (m4, .inl (cZ, 4096, .inl gu))]) [4, 5, 0, 1, 3, 2] rfl) (hD.sub (ws' := [(m1, .inl (cI, 4, .inl gw)), (m2, .inl (cI, 4, .inl gh)), (m3, .inl (cI, 16384, .inl gd)), (m13, .inl (cI, 4096, .inl gs)), (h0, .inr (9, [.ref m1, .ref m2, .ref m3, .int ik, .int wy, .int op, .int cl, .int cx0, .int cx1, .int cy0, .int cy1, .int ds, .ref m4, .ref m5, .ref m6, .ref m7, .ref m8, .ref m9, .int pn, .ref m10, .ref m11, .ref m12, .ref m13])), (m4, .inl (cZ, 4096, .inl gu))]) [4, 5, 0, 1, 3, 2] (by decide) rfl) hS (lv_sub hl [0, 4, 5, 6, 7, 8, 9, 10, 11, 12, 13, 14] rfl)
                        · skip
                          have f_134 : (gu y_132.toNatClampNeg).toInt = 0 := f_eq rfl (by decide) c_133
                          refine lv_aload_n hx hb dX9_joins_194 rfl (lv_at hl 9 rfl) ?_
                          refine va_get (D := D) (ci := 9) (v := .ref m3) (C := RX9) (T := TX9) (N := 23) hx hb hts hi_X9 hown hK hP 3 rfl rfl 2 (by decide) (hts _ bw_398) (fun _ h9 => h9) rfl dX9_joins_195 ?_
                          refine lv_sipush (v := 4096) hx hb dX9_joins_198 (by decide) ?_
                          refine lv_iload_n hx hb dX9_joins_201 rfl (lv_at hl 10 rfl) ?_
                          refine lv_imul hx hb dX9_joins_202 ?_
                          refine lv_topi (fun y_136 ey_136 => ?_)
                          refine lv_iload hx hb dX9_joins_203 (lv_at hl 0 rfl) ?_
                          refine lv_iadd hx hb dX9_joins_205 ?_
                          refine lv_topi (fun y_137 ey_137 => ?_)
                          refine va_iald hx hb hK hP 0 0 rfl rfl (by rw [ey_137, ey_136]; exact kp_in (by omega) hiny_132) dX9_joins_206 ?_
                          refine my_fold (v := gd (4096 * k.toNatClampNeg + ixP y_121 y_122)) (congrArg gd (by rw [ey_137, ey_136]; exact dotx (gd := gd) (y := k) hkk hixy_132 (ix_lt (by omega) (by omega) (by omega) (by omega)) ek)) ?_
                          refine lv_iload hx hb dX9_joins_207 (lv_at hl 8 rfl) ?_
                          refine lv_icmp_eq (tgt := 215) hx hb dX9_joins_209 (by decide) (fun c_138 => ?_) (fun c_138 => ?_)
                          · skip
                            have f_139 : (gd (4096 * k.toNatClampNeg + ixP y_121 y_122)).toInt = (gd (4096 * k.toNatClampNeg + ixP x y)).toInt := f_eq rfl rfl c_138
                            refine lv_aload_n hx hb dX9_joins_215 rfl (lv_at hl 9 rfl) ?_
                            refine va_get (D := D) (ci := 9) (v := .ref m4) (C := RX9) (T := TX9) (N := 23) hx hb hts hi_X9 hown hK hP 3 rfl rfl 12 (by decide) (hts _ bw_404) (fun _ h9 => h9) rfl dX9_joins_216 ?_
                            refine lv_iload hx hb dX9_joins_219 (lv_at hl 0 rfl) ?_
                            refine lv_iconst (v := 1) hx hb dX9_joins_221 (by decide) ?_
                            refine va_zast hx hb hK hP hD hS 2 1 rfl rfl hiny_132 dX9_joins_222 (fun H locs hP hD hS => ?_)
                            have hP : va_P D vwCl [(m3, .inl (cI, 16384, .inl gd)), (m13, .inl (cI, 4096, .inl gs)), (m4, .inl (cZ, 4096, .inl (upd gu y_132.toNatClampNeg (vp_nar .boolean 1)))), (h0, .inr (9, [.ref m1, .ref m2, .ref m3, .int ik, .int wy, .int op, .int cl, .int cx0, .int cx1, .int cy0, .int cy1, .int ds, .ref m4, .ref m5, .ref m6, .ref m7, .ref m8, .ref m9, .int pn, .ref m10, .ref m11, .ref m12, .ref m13])), (m1, .inl (cI, 4, .inl gw)), (m2, .inl (cI, 4, .inl gh))] H := hP
                            have hD : va_D A [(m3, .inl (cI, 16384, .inl gd)), (m13, .inl (cI, 4096, .inl gs)), (m4, .inl (cZ, 4096, .inl (upd gu y_132.toNatClampNeg (vp_nar .boolean 1)))), (h0, .inr (9, [.ref m1, .ref m2, .ref m3, .int ik, .int wy, .int op, .int cl, .int cx0, .int cx1, .int cy0, .int cy1, .int ds, .ref m4, .ref m5, .ref m6, .ref m7, .ref m8, .ref m9, .int pn, .ref m10, .ref m11, .ref m12, .ref m13])), (m1, .inl (cI, 4, .inl gw)), (m2, .inl (cI, 4, .inl gh))] := hD
                            generalize eg_140 : upd gu y_132.toNatClampNeg (vp_nar .boolean 1) = g_140 at hP hD
                            have hP : va_P D vwCl [(m3, .inl (cI, 16384, .inl gd)), (m13, .inl (cI, 4096, .inl gs)), (m4, .inl (cZ, 4096, .inl g_140)), (h0, .inr (9, [.ref m1, .ref m2, .ref m3, .int ik, .int wy, .int op, .int cl, .int cx0, .int cx1, .int cy0, .int cy1, .int ds, .ref m4, .ref m5, .ref m6, .ref m7, .ref m8, .ref m9, .int pn, .ref m10, .ref m11, .ref m12, .ref m13])), (m1, .inl (cI, 4, .inl gw)), (m2, .inl (cI, 4, .inl gh))] H := hP
                            have hD : va_D A [(m3, .inl (cI, 16384, .inl gd)), (m13, .inl (cI, 4096, .inl gs)), (m4, .inl (cZ, 4096, .inl g_140)), (h0, .inr (9, [.ref m1, .ref m2, .ref m3, .int ik, .int wy, .int op, .int cl, .int cx0, .int cx1, .int cy0, .int cy1, .int ds, .ref m4, .ref m5, .ref m6, .ref m7, .ref m8, .ref m9, .int pn, .ref m10, .ref m11, .ref m12, .ref m13])), (m1, .inl (cI, 4, .inl gw)), (m2, .inl (cI, 4, .inl gh))] := hD
                            have hmk : (rcI (opnJ (gw k.toNatClampNeg) (gh k.toNatClampNeg) cl cx0 cx1 cy0 cy1 ic) (fun t => gd (4096 * k.toNatClampNeg + t)) (gd (4096 * k.toNatClampNeg + ixP x y)) co (pX ((rcO (opnJ (gw k.toNatClampNeg) (gh k.toNatClampNeg) cl cx0 cx1 cy0 cy1 ic) (fun t => gd (4096 * k.toNatClampNeg + t)) (gd (4096 * k.toNatClampNeg + ixP x y)) co st1 dn).2.1 dn)) (pY ((rcO (opnJ (gw k.toNatClampNeg) (gh k.toNatClampNeg) cl cx0 cx1 cy0 cy1 ic) (fun t => gd (4096 * k.toNatClampNeg + t)) (gd (4096 * k.toNatClampNeg + ixP x y)) co st1 dn).2.1 dn)) (rcO (opnJ (gw k.toNatClampNeg) (gh k.toNatClampNeg) cl cx0 cx1 cy0 cy1 ic) (fun t => gd (4096 * k.toNatClampNeg + t)) (gd (4096 * k.toNatClampNeg + ixP x y)) co st1 dn) i).1 (ixP y_121 y_122) = 0 := by rw [← f3, ← hxcy_132]; exact c_133
                            have hixn : ixP y_121 y_122 < 4096 := ix_lt (by omega) (by omega) (by omega) (by omega)
                            have hcn2 : cntP (upd (rcI (opnJ (gw k.toNatClampNeg) (gh k.toNatClampNeg) cl cx0 cx1 cy0 cy1 ic) (fun t => gd (4096 * k.toNatClampNeg + t)) (gd (4096 * k.toNatClampNeg + ixP x y)) co (pX ((rcO (opnJ (gw k.toNatClampNeg) (gh k.toNatClampNeg) cl cx0 cx1 cy0 cy1 ic) (fun t => gd (4096 * k.toNatClampNeg + t)) (gd (4096 * k.toNatClampNeg + ixP x y)) co st1 dn).2.1 dn)) (pY ((rcO (opnJ (gw k.toNatClampNeg) (gh k.toNatClampNeg) cl cx0 cx1 cy0 cy1 ic) (fun t => gd (4096 * k.toNatClampNeg + t)) (gd (4096 * k.toNatClampNeg + ixP x y)) co st1 dn).2.1 dn)) (rcO (opnJ (gw k.toNatClampNeg) (gh k.toNatClampNeg) cl cx0 cx1 cy0 cy1 ic) (fun t => gd (4096 * k.toNatClampNeg + t)) (gd (4096 * k.toNatClampNeg + ixP x y)) co st1 dn) i).1 (ixP y_121 y_122) 1) 4096 = (rcI (opnJ (gw k.toNatClampNeg) (gh k.toNatClampNeg) cl cx0 cx1 cy0 cy1 ic) (fun t => gd (4096 * k.toNatClampNeg + t)) (gd (4096 * k.toNatClampNeg + ixP x y)) co (pX ((rcO (opnJ (gw k.toNatClampNeg) (gh k.toNatClampNeg) cl cx0 cx1 cy0 cy1 ic) (fun t => gd (4096 * k.toNatClampNeg + t)) (gd (4096 * k.toNatClampNeg + ixP x y)) co st1 dn).2.1 dn)) (pY ((rcO (opnJ (gw k.toNatClampNeg) (gh k.toNatClampNeg) cl cx0 cx1 cy0 cy1 ic) (fun t => gd (4096 * k.toNatClampNeg + t)) (gd (4096 * k.toNatClampNeg + ixP x y)) co st1 dn).2.1 dn)) (rcO (opnJ (gw k.toNatClampNeg) (gh k.toNatClampNeg) cl cx0 cx1 cy0 cy1 ic) (fun t => gd (4096 * k.toNatClampNeg + t)) (gd (4096 * k.toNatClampNeg + ixP x y)) co st1 dn) i).2.2 + 1 := by rw [cnt_up1 hixn hmk, fcn]
                            have hm2 : (rcI (opnJ (gw k.toNatClampNeg) (gh k.toNatClampNeg) cl cx0 cx1 cy0 cy1 ic) (fun t => gd (4096 * k.toNatClampNeg + t)) (gd (4096 * k.toNatClampNeg + ixP x y)) co (pX ((rcO (opnJ (gw k.toNatClampNeg) (gh k.toNatClampNeg) cl cx0 cx1 cy0 cy1 ic) (fun t => gd (4096 * k.toNatClampNeg + t)) (gd (4096 * k.toNatClampNeg + ixP x y)) co st1 dn).2.1 dn)) (pY ((rcO (opnJ (gw k.toNatClampNeg) (gh k.toNatClampNeg) cl cx0 cx1 cy0 cy1 ic) (fun t => gd (4096 * k.toNatClampNeg + t)) (gd (4096 * k.toNatClampNeg + ixP x y)) co st1 dn).2.1 dn)) (rcO (opnJ (gw k.toNatClampNeg) (gh k.toNatClampNeg) cl cx0 cx1 cy0 cy1 ic) (fun t => gd (4096 * k.toNatClampNeg + t)) (gd (4096 * k.toNatClampNeg + ixP x y)) co st1 dn) i).2.2 + 1 ≤ 4096 := by rw [← hcn2]; exact cntP_le _ _
                            refine lv_aload_n hx hb dX9_joins_223 rfl (lv_at hl 9 rfl) ?_
                            refine va_get (D := D) (ci := 9) (v := .ref m13) (C := RX9) (T := TX9) (N := 23) hx hb hts hi_X9 hown hK hP 3 rfl rfl 22 (by decide) (hts _ bw_413) (fun _ h9 => h9) rfl dX9_joins_224 ?_
                            refine lv_iload hx hb dX9_joins_227 (lv_at hl 7 rfl) ?_
                            refine lv_iload hx hb dX9_joins_229 (lv_at hl 0 rfl) ?_
                            refine va_iast hx hb hK hP hD hS 1 0 rfl rfl (vp_in_iff.mpr ⟨by omega, by omega⟩) dX9_joins_231 (fun H locs hP hD hS => ?_)
                            have hP : va_P D vwCl [(m3, .inl (cI, 16384, .inl gd)), (m13, .inl (cI, 4096, .inl (upd gs z7.toNatClampNeg y_132))), (m4, .inl (cZ, 4096, .inl g_140)), (h0, .inr (9, [.ref m1, .ref m2, .ref m3, .int ik, .int wy, .int op, .int cl, .int cx0, .int cx1, .int cy0, .int cy1, .int ds, .ref m4, .ref m5, .ref m6, .ref m7, .ref m8, .ref m9, .int pn, .ref m10, .ref m11, .ref m12, .ref m13])), (m1, .inl (cI, 4, .inl gw)), (m2, .inl (cI, 4, .inl gh))] H := hP
                            have hD : va_D A [(m3, .inl (cI, 16384, .inl gd)), (m13, .inl (cI, 4096, .inl (upd gs z7.toNatClampNeg y_132))), (m4, .inl (cZ, 4096, .inl g_140)), (h0, .inr (9, [.ref m1, .ref m2, .ref m3, .int ik, .int wy, .int op, .int cl, .int cx0, .int cx1, .int cy0, .int cy1, .int ds, .ref m4, .ref m5, .ref m6, .ref m7, .ref m8, .ref m9, .int pn, .ref m10, .ref m11, .ref m12, .ref m13])), (m1, .inl (cI, 4, .inl gw)), (m2, .inl (cI, 4, .inl gh))] := hD
                            generalize eg_141 : upd gs z7.toNatClampNeg y_132 = g_141 at hP hD
                            have hP : va_P D vwCl [(m3, .inl (cI, 16384, .inl gd)), (m13, .inl (cI, 4096, .inl g_141)), (m4, .inl (cZ, 4096, .inl g_140)), (h0, .inr (9, [.ref m1, .ref m2, .ref m3, .int ik, .int wy, .int op, .int cl, .int cx0, .int cx1, .int cy0, .int cy1, .int ds, .ref m4, .ref m5, .ref m6, .ref m7, .ref m8, .ref m9, .int pn, .ref m10, .ref m11, .ref m12, .ref m13])), (m1, .inl (cI, 4, .inl gw)), (m2, .inl (cI, 4, .inl gh))] H := hP
                            have hD : va_D A [(m3, .inl (cI, 16384, .inl gd)), (m13, .inl (cI, 4096, .inl g_141)), (m4, .inl (cZ, 4096, .inl g_140)), (h0, .inr (9, [.ref m1, .ref m2, .ref m3, .int ik, .int wy, .int op, .int cl, .int cx0, .int cx1, .int cy0, .int cy1, .int ds, .ref m4, .ref m5, .ref m6, .ref m7, .ref m8, .ref m9, .int pn, .ref m10, .ref m11, .ref m12, .ref m13])), (m1, .inl (cI, 4, .inl gw)), (m2, .inl (cI, 4, .inl gh))] := hD
                            refine lv_iload hx hb dX9_joins_232 (lv_at hl 7 rfl) ?_
                            refine lv_iconst (v := 1) hx hb dX9_joins_234 (by decide) ?_
                            refine lv_iadd hx hb dX9_joins_235 ?_
                            refine lv_topi (fun y_142 ey_142 => ?_)
                            refine lv_istore (lv' := [(7, .int y_142), (14, .int y_132), (13, .int y_21), (12, .int y_19), (11, .int x11), (8, .int y_13), (10, .int y_12), (9, .int y_11), (6, .int (gd (4096 * k.toNatClampNeg + ixP x y))), (0, .ref h0), (1, .int k), (2, .int x), (3, .int y), (4, .int co), (5, .int ic)]) hx hb dX9_joins_236 hl (by decide) rfl (fun ls hl => ?_)
                            obtain ⟨y_143, ey_143⟩ : ∃ y : Int32, y = x11 + 1 := ⟨_, rfl⟩
                            refine lv_iinc (v := y_143) (lv' := [(11, .int y_143), (7, .int y_142), (14, .int y_132), (13, .int y_21), (12, .int y_19), (8, .int y_13), (10, .int y_12), (9, .int y_11), (6, .int (gd (4096 * k.toNatClampNeg + ixP x y))), (0, .ref h0), (1, .int k), (2, .int x), (3, .int y), (4, .int co), (5, .int ic)]) hx hb dX9_joins_238 hl (k := 4) rfl (by rw [ey_143]; rfl) (by decide) rfl (fun ls hl => ?_)
                            refine lv_goto (tgt := 87) hx hb dX9_joins_241 (by decide) ?_
                            have hS1 : (rcI (opnJ (gw k.toNatClampNeg) (gh k.toNatClampNeg) cl cx0 cx1 cy0 cy1 ic) (fun t => gd (4096 * k.toNatClampNeg + t)) (gd (4096 * k.toNatClampNeg + ixP x y)) co (pX ((rcO (opnJ (gw k.toNatClampNeg) (gh k.toNatClampNeg) cl cx0 cx1 cy0 cy1 ic) (fun t => gd (4096 * k.toNatClampNeg + t)) (gd (4096 * k.toNatClampNeg + ixP x y)) co st1 dn).2.1 dn)) (pY ((rcO (opnJ (gw k.toNatClampNeg) (gh k.toNatClampNeg) cl cx0 cx1 cy0 cy1 ic) (fun t => gd (4096 * k.toNatClampNeg + t)) (gd (4096 * k.toNatClampNeg + ixP x y)) co st1 dn).2.1 dn)) (rcO (opnJ (gw k.toNatClampNeg) (gh k.toNatClampNeg) cl cx0 cx1 cy0 cy1 ic) (fun t => gd (4096 * k.toNatClampNeg + t)) (gd (4096 * k.toNatClampNeg + ixP x y)) co st1 dn) (i + 1)) = rcS (opnJ (gw k.toNatClampNeg) (gh k.toNatClampNeg) cl cx0 cx1 cy0 cy1 ic) (fun t => gd (4096 * k.toNatClampNeg + t)) (gd (4096 * k.toNatClampNeg + ixP x y)) y_121 y_122 (rcI (opnJ (gw k.toNatClampNeg) (gh k.toNatClampNeg) cl cx0 cx1 cy0 cy1 ic) (fun t => gd (4096 * k.toNatClampNeg + t)) (gd (4096 * k.toNatClampNeg + ixP x y)) co (pX ((rcO (opnJ (gw k.toNatClampNeg) (gh k.toNatClampNeg) cl cx0 cx1 cy0 cy1 ic) (fun t => gd (4096 * k.toNatClampNeg + t)) (gd (4096 * k.toNatClampNeg + ixP x y)) co st1 dn).2.1 dn)) (pY ((rcO (opnJ (gw k.toNatClampNeg) (gh k.toNatClampNeg) cl cx0 cx1 cy0 cy1 ic) (fun t => gd (4096 * k.toNatClampNeg + t)) (gd (4096 * k.toNatClampNeg + ixP x y)) co st1 dn).2.1 dn)) (rcO (opnJ (gw k.toNatClampNeg) (gh k.toNatClampNeg) cl cx0 cx1 cy0 cy1 ic) (fun t => gd (4096 * k.toNatClampNeg + t)) (gd (4096 * k.toNatClampNeg + ixP x y)) co st1 dn) i) := by rw [hay_121, hay_122]; exact if_pos (Or.inr (Or.inr (hdy_21.symm.trans c_118)))
                            have hSt : (rcI (opnJ (gw k.toNatClampNeg) (gh k.toNatClampNeg) cl cx0 cx1 cy0 cy1 ic) (fun t => gd (4096 * k.toNatClampNeg + t)) (gd (4096 * k.toNatClampNeg + ixP x y)) co (pX ((rcO (opnJ (gw k.toNatClampNeg) (gh k.toNatClampNeg) cl cx0 cx1 cy0 cy1 ic) (fun t => gd (4096 * k.toNatClampNeg + t)) (gd (4096 * k.toNatClampNeg + ixP x y)) co st1 dn).2.1 dn)) (pY ((rcO (opnJ (gw k.toNatClampNeg) (gh k.toNatClampNeg) cl cx0 cx1 cy0 cy1 ic) (fun t => gd (4096 * k.toNatClampNeg + t)) (gd (4096 * k.toNatClampNeg + ixP x y)) co st1 dn).2.1 dn)) (rcO (opnJ (gw k.toNatClampNeg) (gh k.toNatClampNeg) cl cx0 cx1 cy0 cy1 ic) (fun t => gd (4096 * k.toNatClampNeg + t)) (gd (4096 * k.toNatClampNeg + ixP x y)) co st1 dn) (i + 1)) = (upd (rcI (opnJ (gw k.toNatClampNeg) (gh k.toNatClampNeg) cl cx0 cx1 cy0 cy1 ic) (fun t => gd (4096 * k.toNatClampNeg + t)) (gd (4096 * k.toNatClampNeg + ixP x y)) co (pX ((rcO (opnJ (gw k.toNatClampNeg) (gh k.toNatClampNeg) cl cx0 cx1 cy0 cy1 ic) (fun t => gd (4096 * k.toNatClampNeg + t)) (gd (4096 * k.toNatClampNeg + ixP x y)) co st1 dn).2.1 dn)) (pY ((rcO (opnJ (gw k.toNatClampNeg) (gh k.toNatClampNeg) cl cx0 cx1 cy0 cy1 ic) (fun t => gd (4096 * k.toNatClampNeg + t)) (gd (4096 * k.toNatClampNeg + ixP x y)) co st1 dn).2.1 dn)) (rcO (opnJ (gw k.toNatClampNeg) (gh k.toNatClampNeg) cl cx0 cx1 cy0 cy1 ic) (fun t => gd (4096 * k.toNatClampNeg + t)) (gd (4096 * k.toNatClampNeg + ixP x y)) co st1 dn) i).1 (ixP y_121 y_122) 1, upd (rcI (opnJ (gw k.toNatClampNeg) (gh k.toNatClampNeg) cl cx0 cx1 cy0 cy1 ic) (fun t => gd (4096 * k.toNatClampNeg + t)) (gd (4096 * k.toNatClampNeg + ixP x y)) co (pX ((rcO (opnJ (gw k.toNatClampNeg) (gh k.toNatClampNeg) cl cx0 cx1 cy0 cy1 ic) (fun t => gd (4096 * k.toNatClampNeg + t)) (gd (4096 * k.toNatClampNeg + ixP x y)) co st1 dn).2.1 dn)) (pY ((rcO (opnJ (gw k.toNatClampNeg) (gh k.toNatClampNeg) cl cx0 cx1 cy0 cy1 ic) (fun t => gd (4096 * k.toNatClampNeg + t)) (gd (4096 * k.toNatClampNeg + ixP x y)) co st1 dn).2.1 dn)) (rcO (opnJ (gw k.toNatClampNeg) (gh k.toNatClampNeg) cl cx0 cx1 cy0 cy1 ic) (fun t => gd (4096 * k.toNatClampNeg + t)) (gd (4096 * k.toNatClampNeg + ixP x y)) co st1 dn) i).2.1 (rcI (opnJ (gw k.toNatClampNeg) (gh k.toNatClampNeg) cl cx0 cx1 cy0 cy1 ic) (fun t => gd (4096 * k.toNatClampNeg + t)) (gd (4096 * k.toNatClampNeg + ixP x y)) co (pX ((rcO (opnJ (gw k.toNatClampNeg) (gh k.toNatClampNeg) cl cx0 cx1 cy0 cy1 ic) (fun t => gd (4096 * k.toNatClampNeg + t)) (gd (4096 * k.toNatClampNeg + ixP x y)) co st1 dn).2.1 dn)) (pY ((rcO (opnJ (gw k.toNatClampNeg) (gh k.toNatClampNeg) cl cx0 cx1 cy0 cy1 ic) (fun t => gd (4096 * k.toNatClampNeg + t)) (gd (4096 * k.toNatClampNeg + ixP x y)) co st1 dn).2.1 dn)) (rcO (opnJ (gw k.toNatClampNeg) (gh k.toNatClampNeg) cl cx0 cx1 cy0 cy1 ic) (fun t => gd (4096 * k.toNatClampNeg + t)) (gd (4096 * k.toNatClampNeg + ixP x y)) co st1 dn) i).2.2 (nI (ixP y_121 y_122)), (rcI (opnJ (gw k.toNatClampNeg) (gh k.toNatClampNeg) cl cx0 cx1 cy0 cy1 ic) (fun t => gd (4096 * k.toNatClampNeg + t)) (gd (4096 * k.toNatClampNeg + ixP x y)) co (pX ((rcO (opnJ (gw k.toNatClampNeg) (gh k.toNatClampNeg) cl cx0 cx1 cy0 cy1 ic) (fun t => gd (4096 * k.toNatClampNeg + t)) (gd (4096 * k.toNatClampNeg + ixP x y)) co st1 dn).2.1 dn)) (pY ((rcO (opnJ (gw k.toNatClampNeg) (gh k.toNatClampNeg) cl cx0 cx1 cy0 cy1 ic) (fun t => gd (4096 * k.toNatClampNeg + t)) (gd (4096 * k.toNatClampNeg + ixP x y)) co st1 dn).2.1 dn)) (rcO (opnJ (gw k.toNatClampNeg) (gh k.toNatClampNeg) cl cx0 cx1 cy0 cy1 ic) (fun t => gd (4096 * k.toNatClampNeg + t)) (gd (4096 * k.toNatClampNeg + ixP x y)) co st1 dn) i).2.2 + 1) := hS1.trans (if_pos ⟨⟨⟨f_125, Or.inl c_127⟩, c_138⟩, hmk, by omega⟩)
                            exact ih_15 (i + 1) y_143 y_142 g_140 g_141 _ _ _ (by omega) (by omega) (by rw [ey_143, ex_i]; exact nI_1 i) (by rw [hSt, ey_142, f7]; exact nI_1 _) (by rw [hSt, ← eg_140, f3, hxcy_132]; rfl) (by rw [hSt, ← eg_141, f2, hixy_132, show z7.toNatClampNeg = (rcI (opnJ (gw k.toNatClampNeg) (gh k.toNatClampNeg) cl cx0 cx1 cy0 cy1 ic) (fun t => gd (4096 * k.toNatClampNeg + t)) (gd (4096 * k.toNatClampNeg + ixP x y)) co (pX ((rcO (opnJ (gw k.toNatClampNeg) (gh k.toNatClampNeg) cl cx0 cx1 cy0 cy1 ic) (fun t => gd (4096 * k.toNatClampNeg + t)) (gd (4096 * k.toNatClampNeg + ixP x y)) co st1 dn).2.1 dn)) (pY ((rcO (opnJ (gw k.toNatClampNeg) (gh k.toNatClampNeg) cl cx0 cx1 cy0 cy1 ic) (fun t => gd (4096 * k.toNatClampNeg + t)) (gd (4096 * k.toNatClampNeg + ixP x y)) co st1 dn).2.1 dn)) (rcO (opnJ (gw k.toNatClampNeg) (gh k.toNatClampNeg) cl cx0 cx1 cy0 cy1 ic) (fun t => gd (4096 * k.toNatClampNeg + t)) (gd (4096 * k.toNatClampNeg + ixP x y)) co st1 dn) i).2.2 by rw [f7]; exact nI_clamp (by omega)]) (by rw [hSt]; exact hcn2) (hP.sub (ws' := [(m1, .inl (cI, 4, .inl gw)), (m2, .inl (cI, 4, .inl gh)), (m3, .inl (cI, 16384, .inl gd)), (m13, .inl (cI, 4096, .inl g_141)), (h0, .inr (9, [.ref m1, .ref m2, .ref m3, .int ik, .int wy, .int op, .int cl, .int cx0, .int cx1, .int cy0, .int cy1, .int ds, .ref m4, .ref m5, .ref m6, .ref m7, .ref m8, .ref m9, .int pn, .ref m10, .ref m11, .ref m12, .ref m13])), (m4, .inl (cZ, 4096, .inl g_140))]) [4, 5, 0, 1, 3, 2] rfl) (hD.sub (ws' := [(m1, .inl (cI, 4, .inl gw)), (m2, .inl (cI, 4, .inl gh)), (m3, .inl (cI, 16384, .inl gd)), (m13, .inl (cI, 4096, .inl g_141)), (h0, .inr (9, [.ref m1, .ref m2, .ref m3, .int ik, .int wy, .int op, .int cl, .int cx0, .int cx1, .int cy0, .int cy1, .int ds, .ref m4, .ref m5, .ref m6, .ref m7, .ref m8, .ref m9, .int pn, .ref m10, .ref m11, .ref m12, .ref m13])), (m4, .inl (cZ, 4096, .inl g_140))]) [4, 5, 0, 1, 3, 2] (by decide) rfl) hS (lv_sub hl [0, 5, 6, 7, 1, 8, 9, 10, 11, 12, 13, 14] rfl)
                          · skip
                            have f_139 : ¬ ((gd (4096 * k.toNatClampNeg + ixP y_121 y_122)).toInt = (gd (4096 * k.toNatClampNeg + ixP x y)).toInt) := fn_eq rfl rfl c_138
                            refine lv_goto (tgt := 238) hx hb dX9_joins_212 (by decide) ?_
                            obtain ⟨y_144, ey_144⟩ : ∃ y : Int32, y = x11 + 1 := ⟨_, rfl⟩
                            refine lv_iinc (v := y_144) (lv' := [(11, .int y_144), (14, .int y_132), (13, .int y_21), (12, .int y_19), (8, .int y_13), (10, .int y_12), (9, .int y_11), (7, .int z7), (6, .int (gd (4096 * k.toNatClampNeg + ixP x y))), (0, .ref h0), (1, .int k), (2, .int x), (3, .int y), (4, .int co), (5, .int ic)]) hx hb dX9_joins_238 hl (k := 3) rfl (by rw [ey_144]; rfl) (by decide) rfl (fun ls hl => ?_)
                            refine lv_goto (tgt := 87) hx hb dX9_joins_241 (by decide) ?_
                            have hS1 : (rcI (opnJ (gw k.toNatClampNeg) (gh k.toNatClampNeg) cl cx0 cx1 cy0 cy1 ic) (fun t => gd (4096 * k.toNatClampNeg + t)) (gd (4096 * k.toNatClampNeg + ixP x y)) co (pX ((rcO (opnJ (gw k.toNatClampNeg) (gh k.toNatClampNeg) cl cx0 cx1 cy0 cy1 ic) (fun t => gd (4096 * k.toNatClampNeg + t)) (gd (4096 * k.toNatClampNeg + ixP x y)) co st1 dn).2.1 dn)) (pY ((rcO (opnJ (gw k.toNatClampNeg) (gh k.toNatClampNeg) cl cx0 cx1 cy0 cy1 ic) (fun t => gd (4096 * k.toNatClampNeg + t)) (gd (4096 * k.toNatClampNeg + ixP x y)) co st1 dn).2.1 dn)) (rcO (opnJ (gw k.toNatClampNeg) (gh k.toNatClampNeg) cl cx0 cx1 cy0 cy1 ic) (fun t => gd (4096 * k.toNatClampNeg + t)) (gd (4096 * k.toNatClampNeg + ixP x y)) co st1 dn) (i + 1)) = rcS (opnJ (gw k.toNatClampNeg) (gh k.toNatClampNeg) cl cx0 cx1 cy0 cy1 ic) (fun t => gd (4096 * k.toNatClampNeg + t)) (gd (4096 * k.toNatClampNeg + ixP x y)) y_121 y_122 (rcI (opnJ (gw k.toNatClampNeg) (gh k.toNatClampNeg) cl cx0 cx1 cy0 cy1 ic) (fun t => gd (4096 * k.toNatClampNeg + t)) (gd (4096 * k.toNatClampNeg + ixP x y)) co (pX ((rcO (opnJ (gw k.toNatClampNeg) (gh k.toNatClampNeg) cl cx0 cx1 cy0 cy1 ic) (fun t => gd (4096 * k.toNatClampNeg + t)) (gd (4096 * k.toNatClampNeg + ixP x y)) co st1 dn).2.1 dn)) (pY ((rcO (opnJ (gw k.toNatClampNeg) (gh k.toNatClampNeg) cl cx0 cx1 cy0 cy1 ic) (fun t => gd (4096 * k.toNatClampNeg + t)) (gd (4096 * k.toNatClampNeg + ixP x y)) co st1 dn).2.1 dn)) (rcO (opnJ (gw k.toNatClampNeg) (gh k.toNatClampNeg) cl cx0 cx1 cy0 cy1 ic) (fun t => gd (4096 * k.toNatClampNeg + t)) (gd (4096 * k.toNatClampNeg + ixP x y)) co st1 dn) i) := by rw [hay_121, hay_122]; exact if_pos (Or.inr (Or.inr (hdy_21.symm.trans c_118)))
                            have hSt : (rcI (opnJ (gw k.toNatClampNeg) (gh k.toNatClampNeg) cl cx0 cx1 cy0 cy1 ic) (fun t => gd (4096 * k.toNatClampNeg + t)) (gd (4096 * k.toNatClampNeg + ixP x y)) co (pX ((rcO (opnJ (gw k.toNatClampNeg) (gh k.toNatClampNeg) cl cx0 cx1 cy0 cy1 ic) (fun t => gd (4096 * k.toNatClampNeg + t)) (gd (4096 * k.toNatClampNeg + ixP x y)) co st1 dn).2.1 dn)) (pY ((rcO (opnJ (gw k.toNatClampNeg) (gh k.toNatClampNeg) cl cx0 cx1 cy0 cy1 ic) (fun t => gd (4096 * k.toNatClampNeg + t)) (gd (4096 * k.toNatClampNeg + ixP x y)) co st1 dn).2.1 dn)) (rcO (opnJ (gw k.toNatClampNeg) (gh k.toNatClampNeg) cl cx0 cx1 cy0 cy1 ic) (fun t => gd (4096 * k.toNatClampNeg + t)) (gd (4096 * k.toNatClampNeg + ixP x y)) co st1 dn) (i + 1)) = (rcI (opnJ (gw k.toNatClampNeg) (gh k.toNatClampNeg) cl cx0 cx1 cy0 cy1 ic) (fun t => gd (4096 * k.toNatClampNeg + t)) (gd (4096 * k.toNatClampNeg + ixP x y)) co (pX ((rcO (opnJ (gw k.toNatClampNeg) (gh k.toNatClampNeg) cl cx0 cx1 cy0 cy1 ic) (fun t => gd (4096 * k.toNatClampNeg + t)) (gd (4096 * k.toNatClampNeg + ixP x y)) co st1 dn).2.1 dn)) (pY ((rcO (opnJ (gw k.toNatClampNeg) (gh k.toNatClampNeg) cl cx0 cx1 cy0 cy1 ic) (fun t => gd (4096 * k.toNatClampNeg + t)) (gd (4096 * k.toNatClampNeg + ixP x y)) co st1 dn).2.1 dn)) (rcO (opnJ (gw k.toNatClampNeg) (gh k.toNatClampNeg) cl cx0 cx1 cy0 cy1 ic) (fun t => gd (4096 * k.toNatClampNeg + t)) (gd (4096 * k.toNatClampNeg + ixP x y)) co st1 dn) i) := hS1.trans (if_neg (fun q => c_138 q.1.2))
                            exact ih_15 (i + 1) y_144 z7 gu gs _ _ _ (by omega) (by omega) (by rw [ey_144, ex_i]; exact nI_1 i) (by rw [hSt]; exact f7) (by rw [hSt]; exact f3) (by rw [hSt]; exact f2) (by rw [hSt]; exact fcn) (hP.sub (ws' := [(m1, .inl (cI, 4, .inl gw)), (m2, .inl (cI, 4, .inl gh)), (m3, .inl (cI, 16384, .inl gd)), (m13, .inl (cI, 4096, .inl gs)), (h0, .inr (9, [.ref m1, .ref m2, .ref m3, .int ik, .int wy, .int op, .int cl, .int cx0, .int cx1, .int cy0, .int cy1, .int ds, .ref m4, .ref m5, .ref m6, .ref m7, .ref m8, .ref m9, .int pn, .ref m10, .ref m11, .ref m12, .ref m13])), (m4, .inl (cZ, 4096, .inl gu))]) [4, 5, 0, 1, 3, 2] rfl) (hD.sub (ws' := [(m1, .inl (cI, 4, .inl gw)), (m2, .inl (cI, 4, .inl gh)), (m3, .inl (cI, 16384, .inl gd)), (m13, .inl (cI, 4096, .inl gs)), (h0, .inr (9, [.ref m1, .ref m2, .ref m3, .int ik, .int wy, .int op, .int cl, .int cx0, .int cx1, .int cy0, .int cy1, .int ds, .ref m4, .ref m5, .ref m6, .ref m7, .ref m8, .ref m9, .int pn, .ref m10, .ref m11, .ref m12, .ref m13])), (m4, .inl (cZ, 4096, .inl gu))]) [4, 5, 0, 1, 3, 2] (by decide) rfl) hS (lv_sub hl [0, 4, 5, 6, 7, 8, 9, 10, 11, 12, 13, 14] rfl)
                      · skip
                        have f_128 : ¬ (ic.toInt = 0) := fn_eq rfl (by decide) c_127
                        refine lv_aload_n hx hb dX9_joins_148 rfl (lv_at hl 8 rfl) ?_
                        refine lv_iload hx hb dX9_joins_149 (lv_at hl 5 rfl) ?_
                        refine lv_iload hx hb dX9_joins_151 (lv_at hl 1 rfl) ?_
                        refine lv_iadd hx hb dX9_joins_153 ?_
                        refine lv_topi (fun y_145 ey_145 => ?_)
                        have hay_145 : y_145 = pX ((rcO (opnJ (gw k.toNatClampNeg) (gh k.toNatClampNeg) cl cx0 cx1 cy0 cy1 ic) (fun t => gd (4096 * k.toNatClampNeg + t)) (gd (4096 * k.toNatClampNeg + ixP x y)) co st1 dn).2.1 dn) + dX i := by rw [ey_145, hp9, hdy_19]
                        refine lv_iload hx hb dX9_joins_154 (lv_at hl 4 rfl) ?_
                        refine lv_iload hx hb dX9_joins_156 (lv_at hl 0 rfl) ?_
                        refine lv_iadd hx hb dX9_joins_158 ?_
                        refine lv_topi (fun y_146 ey_146 => ?_)
                        have hay_146 : y_146 = pY ((rcO (opnJ (gw k.toNatClampNeg) (gh k.toNatClampNeg) cl cx0 cx1 cy0 cy1 ic) (fun t => gd (4096 * k.toNatClampNeg + t)) (gd (4096 * k.toNatClampNeg + ixP x y)) co st1 dn).2.1 dn) + dY i := by rw [ey_146, hp10, hdy_21]
                        have hPc := hP.sub (ws' := [(h0, .inr (9, [.ref m1, .ref m2, .ref m3, .int ik, .int wy, .int op, .int cl, .int cx0, .int cx1, .int cy0, .int cy1, .int ds, .ref m4, .ref m5, .ref m6, .ref m7, .ref m8, .ref m9, .int pn, .ref m10, .ref m11, .ref m12, .ref m13]))]) [3] rfl
                        have hDc := hD.sub (ws' := [(h0, .inr (9, [.ref m1, .ref m2, .ref m3, .int ik, .int wy, .int op, .int cl, .int cx0, .int cx1, .int cy0, .int cy1, .int ds, .ref m4, .ref m5, .ref m6, .ref m7, .ref m8, .ref m9, .int pn, .ref m10, .ref m11, .ref m12, .ref m13]))]) [3] (by decide) rfl
                        have hKc := hK.sub (tys' := []) [] rfl
                        have hFc := va_free (wc := [(h0, .inr (9, [.ref m1, .ref m2, .ref m3, .int ik, .int wy, .int op, .int cl, .int cx0, .int cx1, .int cy0, .int cy1, .int ds, .ref m4, .ref m5, .ref m6, .ref m7, .ref m8, .ref m9, .int pn, .ref m10, .ref m11, .ref m12, .ref m13]))]) hD hS hA [3] rfl
                        refine va_calli (va_runV (As := [.int y_145, .int y_146]) (rest := []) ⟨hx, hb, hml, hown, hts⟩ (k_X9_isInClip l D H.size h0 m1 m2 m3 m4 m5 m6 m7 m8 m9 m10 m11 m12 m13 ik wy op cl cx0 cx1 cy0 cy1 ds pn y_145 y_146) (cwV 2 hts (gV bw_434 bw_423 bw_424 bw_391 bw_422) rfl rfl rfl (by decide +kernel) ⟨(by rw [hR]; exact Nat.le_of_ble_eq_true rfl), (by rw [hR]; exact Nat.le_of_ble_eq_true rfl)⟩) ⟨cP_blind, va_recv hKc hPc (ci := 9) (q0 := 0) rfl rfl, cP_at hPc hKc hDc hN⟩ rfl rfl hl.1 rfl (lv_room (Nat.le_of_ble_eq_true rfl)) dX9_joins_159 ⟨(by rw [hR]; exact Nat.le_of_ble_eq_true rfl), (by rw [hR]; exact Nat.le_of_ble_eq_true rfl)⟩) hS (fun q _ h => hFc q h) hFc (fun r_147 u9 t9 H1 locs ht hvm hr_147 hB hz1 hk1 hS => ?_)
                        try dsimp only at hr_147
                        obtain ⟨hP1, hK1, hD1⟩ := hB
                        rw [ht] at hP1
                        obtain ⟨hP, hD⟩ := va_join (wr := [(m3, .inl (cI, 16384, .inl gd)), (m13, .inl (cI, 4096, .inl gs)), (m4, .inl (cZ, 4096, .inl gu)), (m1, .inl (cI, 4, .inl gw)), (m2, .inl (cI, 4, .inl gh))]) (w1 := [(h0, .inr (9, [.ref m1, .ref m2, .ref m3, .int ik, .int wy, .int op, .int cl, .int cx0, .int cx1, .int cy0, .int cy1, .int ds, .ref m4, .ref m5, .ref m6, .ref m7, .ref m8, .ref m9, .int pn, .ref m10, .ref m11, .ref m12, .ref m13]))]) hP hD [3] [0, 1, 2, 4, 5] rfl rfl (by decide) (by decide) hk1 hFc hP1 hD1
                        clear hz1 hk1 hFc hKc hDc hPc
                        generalize H1 = H at hP hS ⊢
                        have hP : va_P D vwCl [(m3, .inl (cI, 16384, .inl gd)), (m13, .inl (cI, 4096, .inl gs)), (m4, .inl (cZ, 4096, .inl gu)), (m1, .inl (cI, 4, .inl gw)), (m2, .inl (cI, 4, .inl gh)), (h0, .inr (9, [.ref m1, .ref m2, .ref m3, .int ik, .int wy, .int op, .int cl, .int cx0, .int cx1, .int cy0, .int cy1, .int ds, .ref m4, .ref m5, .ref m6, .ref m7, .ref m8, .ref m9, .int pn, .ref m10, .ref m11, .ref m12, .ref m13]))] H := hP
                        have hD : va_D A [(m3, .inl (cI, 16384, .inl gd)), (m13, .inl (cI, 4096, .inl gs)), (m4, .inl (cZ, 4096, .inl gu)), (m1, .inl (cI, 4, .inl gw)), (m2, .inl (cI, 4, .inl gh)), (h0, .inr (9, [.ref m1, .ref m2, .ref m3, .int ik, .int wy, .int op, .int cl, .int cx0, .int cx1, .int cy0, .int cy1, .int ds, .ref m4, .ref m5, .ref m6, .ref m7, .ref m8, .ref m9, .int pn, .ref m10, .ref m11, .ref m12, .ref m13]))] := hD
                        have hcqx : y_145 = y_121 := by rw [ey_145, ey_121]
                        have hcqy : y_146 = y_122 := by rw [ey_146, ey_122]
                        rw [hcqx, hcqy] at hr_147
                        refine lv_if_ne (tgt := 168) hx hb dX9_joins_162 (by decide) (fun c_148 => ?_) (fun c_148 => ?_)
                        · skip
                          have f_149 := bz1 hr_147 c_148
                          refine lv_bipush (v := 64) hx hb dX9_joins_168 (by decide) ?_
                          refine lv_iload hx hb dX9_joins_170 (lv_at hl 4 rfl) ?_
                          refine lv_iload hx hb dX9_joins_172 (lv_at hl 0 rfl) ?_
                          refine lv_iadd hx hb dX9_joins_174 ?_
                          refine lv_topi (fun y_150 ey_150 => ?_)
                          have hay_150 : y_150 = pY ((rcO (opnJ (gw k.toNatClampNeg) (gh k.toNatClampNeg) cl cx0 cx1 cy0 cy1 ic) (fun t => gd (4096 * k.toNatClampNeg + t)) (gd (4096 * k.toNatClampNeg + ixP x y)) co st1 dn).2.1 dn) + dY i := by rw [ey_150, hp10, hdy_21]
                          refine lv_imul hx hb dX9_joins_175 ?_
                          refine lv_topi (fun y_151 ey_151 => ?_)
                          refine lv_iload hx hb dX9_joins_176 (lv_at hl 5 rfl) ?_
                          refine lv_iadd hx hb dX9_joins_178 ?_
                          refine lv_topi (fun y_152 ey_152 => ?_)
                          refine lv_iload hx hb dX9_joins_179 (lv_at hl 1 rfl) ?_
                          refine lv_iadd hx hb dX9_joins_181 ?_
                          refine lv_topi (fun y_153 ey_153 => ?_)
                          have htoy_153 : y_153 = 64 * y_122 + y_121 := by rw [ey_153, ey_152, ey_151, ey_150, ey_122, ey_121, Int32.add_assoc]
                          have hiny_153 : vp_in y_153 4096 := by rw [htoy_153]; exact ix_in2 (by omega) (by omega) (by omega) (by omega)
                          have hixy_153 : y_153 = nI (ixP y_121 y_122) := by rw [htoy_153]; exact ix_nI2 (by omega) (by omega) (by omega) (by omega)
                          have hxcy_153 : y_153.toNatClampNeg = ixP y_121 y_122 := by rw [hixy_153]; exact nI_clamp (by have := ix_lt (x := y_121) (y := y_122) (by omega) (by omega) (by omega) (by omega); omega)
                          refine lv_istore (lv' := [(14, .int y_153), (13, .int y_21), (12, .int y_19), (11, .int x11), (8, .int y_13), (10, .int y_12), (9, .int y_11), (7, .int z7), (6, .int (gd (4096 * k.toNatClampNeg + ixP x y))), (0, .ref h0), (1, .int k), (2, .int x), (3, .int y), (4, .int co), (5, .int ic)]) hx hb dX9_joins_182 hl (by decide) rfl (fun ls hl => ?_)
                          refine lv_aload_n hx hb dX9_joins_184 rfl (lv_at hl 9 rfl) ?_
                          refine va_get (D := D) (ci := 9) (v := .ref m4) (C := RX9) (T := TX9) (N := 23) hx hb hts hi_X9 hown hK hP 5 rfl rfl 12 (by decide) (hts _ bw_404) (fun _ h9 => h9) rfl dX9_joins_185 ?_
                          refine lv_iload hx hb dX9_joins_188 (lv_at hl 0 rfl) ?_
                          refine va_zald hx hb hK hP 2 1 rfl rfl hiny_153 dX9_joins_190 ?_
                          refine lv_if_ne (tgt := 238) hx hb dX9_joins_191 (by decide) (fun c_154 => ?_) (fun c_154 => ?_)
                          · skip
                            have f_155 : ¬ ((gu y_153.toNatClampNeg).toInt = 0) := fn_eq rfl (by decide) c_154
                            obtain ⟨y_156, ey_156⟩ : ∃ y : Int32, y = x11 + 1 := ⟨_, rfl⟩
                            refine lv_iinc (v := y_156) (lv' := [(11, .int y_156), (14, .int y_153), (13, .int y_21), (12, .int y_19), (8, .int y_13), (10, .int y_12), (9, .int y_11), (7, .int z7), (6, .int (gd (4096 * k.toNatClampNeg + ixP x y))), (0, .ref h0), (1, .int k), (2, .int x), (3, .int y), (4, .int co), (5, .int ic)]) hx hb dX9_joins_238 hl (k := 3) rfl (by rw [ey_156]; rfl) (by decide) rfl (fun ls hl => ?_)
                            refine lv_goto (tgt := 87) hx hb dX9_joins_241 (by decide) ?_
                            have hS1 : (rcI (opnJ (gw k.toNatClampNeg) (gh k.toNatClampNeg) cl cx0 cx1 cy0 cy1 ic) (fun t => gd (4096 * k.toNatClampNeg + t)) (gd (4096 * k.toNatClampNeg + ixP x y)) co (pX ((rcO (opnJ (gw k.toNatClampNeg) (gh k.toNatClampNeg) cl cx0 cx1 cy0 cy1 ic) (fun t => gd (4096 * k.toNatClampNeg + t)) (gd (4096 * k.toNatClampNeg + ixP x y)) co st1 dn).2.1 dn)) (pY ((rcO (opnJ (gw k.toNatClampNeg) (gh k.toNatClampNeg) cl cx0 cx1 cy0 cy1 ic) (fun t => gd (4096 * k.toNatClampNeg + t)) (gd (4096 * k.toNatClampNeg + ixP x y)) co st1 dn).2.1 dn)) (rcO (opnJ (gw k.toNatClampNeg) (gh k.toNatClampNeg) cl cx0 cx1 cy0 cy1 ic) (fun t => gd (4096 * k.toNatClampNeg + t)) (gd (4096 * k.toNatClampNeg + ixP x y)) co st1 dn) (i + 1)) = rcS (opnJ (gw k.toNatClampNeg) (gh k.toNatClampNeg) cl cx0 cx1 cy0 cy1 ic) (fun t => gd (4096 * k.toNatClampNeg + t)) (gd (4096 * k.toNatClampNeg + ixP x y)) y_121 y_122 (rcI (opnJ (gw k.toNatClampNeg) (gh k.toNatClampNeg) cl cx0 cx1 cy0 cy1 ic) (fun t => gd (4096 * k.toNatClampNeg + t)) (gd (4096 * k.toNatClampNeg + ixP x y)) co (pX ((rcO (opnJ (gw k.toNatClampNeg) (gh k.toNatClampNeg) cl cx0 cx1 cy0 cy1 ic) (fun t => gd (4096 * k.toNatClampNeg + t)) (gd (4096 * k.toNatClampNeg + ixP x y)) co st1 dn).2.1 dn)) (pY ((rcO (opnJ (gw k.toNatClampNeg) (gh k.toNatClampNeg) cl cx0 cx1 cy0 cy1 ic) (fun t => gd (4096 * k.toNatClampNeg + t)) (gd (4096 * k.toNatClampNeg + ixP x y)) co st1 dn).2.1 dn)) (rcO (opnJ (gw k.toNatClampNeg) (gh k.toNatClampNeg) cl cx0 cx1 cy0 cy1 ic) (fun t => gd (4096 * k.toNatClampNeg + t)) (gd (4096 * k.toNatClampNeg + ixP x y)) co st1 dn) i) := by rw [hay_121, hay_122]; exact if_pos (Or.inr (Or.inr (hdy_21.symm.trans c_118)))
                            have hSt : (rcI (opnJ (gw k.toNatClampNeg) (gh k.toNatClampNeg) cl cx0 cx1 cy0 cy1 ic) (fun t => gd (4096 * k.toNatClampNeg + t)) (gd (4096 * k.toNatClampNeg + ixP x y)) co (pX ((rcO (opnJ (gw k.toNatClampNeg) (gh k.toNatClampNeg) cl cx0 cx1 cy0 cy1 ic) (fun t => gd (4096 * k.toNatClampNeg + t)) (gd (4096 * k.toNatClampNeg + ixP x y)) co st1 dn).2.1 dn)) (pY ((rcO (opnJ (gw k.toNatClampNeg) (gh k.toNatClampNeg) cl cx0 cx1 cy0 cy1 ic) (fun t => gd (4096 * k.toNatClampNeg + t)) (gd (4096 * k.toNatClampNeg + ixP x y)) co st1 dn).2.1 dn)) (rcO (opnJ (gw k.toNatClampNeg) (gh k.toNatClampNeg) cl cx0 cx1 cy0 cy1 ic) (fun t => gd (4096 * k.toNatClampNeg + t)) (gd (4096 * k.toNatClampNeg + ixP x y)) co st1 dn) (i + 1)) = (rcI (opnJ (gw k.toNatClampNeg) (gh k.toNatClampNeg) cl cx0 cx1 cy0 cy1 ic) (fun t => gd (4096 * k.toNatClampNeg + t)) (gd (4096 * k.toNatClampNeg + ixP x y)) co (pX ((rcO (opnJ (gw k.toNatClampNeg) (gh k.toNatClampNeg) cl cx0 cx1 cy0 cy1 ic) (fun t => gd (4096 * k.toNatClampNeg + t)) (gd (4096 * k.toNatClampNeg + ixP x y)) co st1 dn).2.1 dn)) (pY ((rcO (opnJ (gw k.toNatClampNeg) (gh k.toNatClampNeg) cl cx0 cx1 cy0 cy1 ic) (fun t => gd (4096 * k.toNatClampNeg + t)) (gd (4096 * k.toNatClampNeg + ixP x y)) co st1 dn).2.1 dn)) (rcO (opnJ (gw k.toNatClampNeg) (gh k.toNatClampNeg) cl cx0 cx1 cy0 cy1 ic) (fun t => gd (4096 * k.toNatClampNeg + t)) (gd (4096 * k.toNatClampNeg + ixP x y)) co st1 dn) i) := hS1.trans (if_neg (fun q => c_154 (by rw [f3, hxcy_153]; exact q.2.1)))
                            exact ih_15 (i + 1) y_156 z7 gu gs _ _ _ (by omega) (by omega) (by rw [ey_156, ex_i]; exact nI_1 i) (by rw [hSt]; exact f7) (by rw [hSt]; exact f3) (by rw [hSt]; exact f2) (by rw [hSt]; exact fcn) (hP.sub (ws' := [(m1, .inl (cI, 4, .inl gw)), (m2, .inl (cI, 4, .inl gh)), (m3, .inl (cI, 16384, .inl gd)), (m13, .inl (cI, 4096, .inl gs)), (h0, .inr (9, [.ref m1, .ref m2, .ref m3, .int ik, .int wy, .int op, .int cl, .int cx0, .int cx1, .int cy0, .int cy1, .int ds, .ref m4, .ref m5, .ref m6, .ref m7, .ref m8, .ref m9, .int pn, .ref m10, .ref m11, .ref m12, .ref m13])), (m4, .inl (cZ, 4096, .inl gu))]) [3, 4, 0, 1, 5, 2] rfl) (hD.sub (ws' := [(m1, .inl (cI, 4, .inl gw)), (m2, .inl (cI, 4, .inl gh)), (m3, .inl (cI, 16384, .inl gd)), (m13, .inl (cI, 4096, .inl gs)), (h0, .inr (9, [.ref m1, .ref m2, .ref m3, .int ik, .int wy, .int op, .int cl, .int cx0, .int cx1, .int cy0, .int cy1, .int ds, .ref m4, .ref m5, .ref m6, .ref m7, .ref m8, .ref m9, .int pn, .ref m10, .ref m11, .ref m12, .ref m13])), (m4, .inl (cZ, 4096, .inl gu))]) [3, 4, 0, 1, 5, 2] (by decide) rfl) hS (lv_sub hl [0, 4, 5, 6, 7, 8, 9, 10, 11, 12, 13, 14] rfl)
                          · skip
                            have f_155 : (gu y_153.toNatClampNeg).toInt = 0 := f_eq rfl (by decide) c_154
                            refine lv_aload_n hx hb dX9_joins_194 rfl (lv_at hl 9 rfl) ?_
                            refine va_get (D := D) (ci := 9) (v := .ref m3) (C := RX9) (T := TX9) (N := 23) hx hb hts hi_X9 hown hK hP 5 rfl rfl 2 (by decide) (hts _ bw_398) (fun _ h9 => h9) rfl dX9_joins_195 ?_
                            refine lv_sipush (v := 4096) hx hb dX9_joins_198 (by decide) ?_
                            refine lv_iload_n hx hb dX9_joins_201 rfl (lv_at hl 10 rfl) ?_
                            refine lv_imul hx hb dX9_joins_202 ?_
                            refine lv_topi (fun y_157 ey_157 => ?_)
                            refine lv_iload hx hb dX9_joins_203 (lv_at hl 0 rfl) ?_
                            refine lv_iadd hx hb dX9_joins_205 ?_
                            refine lv_topi (fun y_158 ey_158 => ?_)
                            refine va_iald hx hb hK hP 0 0 rfl rfl (by rw [ey_158, ey_157]; exact kp_in (by omega) hiny_153) dX9_joins_206 ?_
                            refine my_fold (v := gd (4096 * k.toNatClampNeg + ixP y_121 y_122)) (congrArg gd (by rw [ey_158, ey_157]; exact dotx (gd := gd) (y := k) hkk hixy_153 (ix_lt (by omega) (by omega) (by omega) (by omega)) ek)) ?_
                            refine lv_iload hx hb dX9_joins_207 (lv_at hl 8 rfl) ?_
                            refine lv_icmp_eq (tgt := 215) hx hb dX9_joins_209 (by decide) (fun c_159 => ?_) (fun c_159 => ?_)
                            · skip
                              have f_160 : (gd (4096 * k.toNatClampNeg + ixP y_121 y_122)).toInt = (gd (4096 * k.toNatClampNeg + ixP x y)).toInt := f_eq rfl rfl c_159
                              refine lv_aload_n hx hb dX9_joins_215 rfl (lv_at hl 9 rfl) ?_
                              refine va_get (D := D) (ci := 9) (v := .ref m4) (C := RX9) (T := TX9) (N := 23) hx hb hts hi_X9 hown hK hP 5 rfl rfl 12 (by decide) (hts _ bw_404) (fun _ h9 => h9) rfl dX9_joins_216 ?_
                              refine lv_iload hx hb dX9_joins_219 (lv_at hl 0 rfl) ?_
                              refine lv_iconst (v := 1) hx hb dX9_joins_221 (by decide) ?_
                              refine va_zast hx hb hK hP hD hS 2 1 rfl rfl hiny_153 dX9_joins_222 (fun H locs hP hD hS => ?_)
                              have hP : va_P D vwCl [(m3, .inl (cI, 16384, .inl gd)), (m13, .inl (cI, 4096, .inl gs)), (m4, .inl (cZ, 4096, .inl (upd gu y_153.toNatClampNeg (vp_nar .boolean 1)))), (m1, .inl (cI, 4, .inl gw)), (m2, .inl (cI, 4, .inl gh)), (h0, .inr (9, [.ref m1, .ref m2, .ref m3, .int ik, .int wy, .int op, .int cl, .int cx0, .int cx1, .int cy0, .int cy1, .int ds, .ref m4, .ref m5, .ref m6, .ref m7, .ref m8, .ref m9, .int pn, .ref m10, .ref m11, .ref m12, .ref m13]))] H := hP
                              have hD : va_D A [(m3, .inl (cI, 16384, .inl gd)), (m13, .inl (cI, 4096, .inl gs)), (m4, .inl (cZ, 4096, .inl (upd gu y_153.toNatClampNeg (vp_nar .boolean 1)))), (m1, .inl (cI, 4, .inl gw)), (m2, .inl (cI, 4, .inl gh)), (h0, .inr (9, [.ref m1, .ref m2, .ref m3, .int ik, .int wy, .int op, .int cl, .int cx0, .int cx1, .int cy0, .int cy1, .int ds, .ref m4, .ref m5, .ref m6, .ref m7, .ref m8, .ref m9, .int pn, .ref m10, .ref m11, .ref m12, .ref m13]))] := hD
                              generalize eg_161 : upd gu y_153.toNatClampNeg (vp_nar .boolean 1) = g_161 at hP hD
                              have hP : va_P D vwCl [(m3, .inl (cI, 16384, .inl gd)), (m13, .inl (cI, 4096, .inl gs)), (m4, .inl (cZ, 4096, .inl g_161)), (m1, .inl (cI, 4, .inl gw)), (m2, .inl (cI, 4, .inl gh)), (h0, .inr (9, [.ref m1, .ref m2, .ref m3, .int ik, .int wy, .int op, .int cl, .int cx0, .int cx1, .int cy0, .int cy1, .int ds, .ref m4, .ref m5, .ref m6, .ref m7, .ref m8, .ref m9, .int pn, .ref m10, .ref m11, .ref m12, .ref m13]))] H := hP
                              have hD : va_D A [(m3, .inl (cI, 16384, .inl gd)), (m13, .inl (cI, 4096, .inl gs)), (m4, .inl (cZ, 4096, .inl g_161)), (m1, .inl (cI, 4, .inl gw)), (m2, .inl (cI, 4, .inl gh)), (h0, .inr (9, [.ref m1, .ref m2, .ref m3, .int ik, .int wy, .int op, .int cl, .int cx0, .int cx1, .int cy0, .int cy1, .int ds, .ref m4, .ref m5, .ref m6, .ref m7, .ref m8, .ref m9, .int pn, .ref m10, .ref m11, .ref m12, .ref m13]))] := hD
                              have hmk : (rcI (opnJ (gw k.toNatClampNeg) (gh k.toNatClampNeg) cl cx0 cx1 cy0 cy1 ic) (fun t => gd (4096 * k.toNatClampNeg + t)) (gd (4096 * k.toNatClampNeg + ixP x y)) co (pX ((rcO (opnJ (gw k.toNatClampNeg) (gh k.toNatClampNeg) cl cx0 cx1 cy0 cy1 ic) (fun t => gd (4096 * k.toNatClampNeg + t)) (gd (4096 * k.toNatClampNeg + ixP x y)) co st1 dn).2.1 dn)) (pY ((rcO (opnJ (gw k.toNatClampNeg) (gh k.toNatClampNeg) cl cx0 cx1 cy0 cy1 ic) (fun t => gd (4096 * k.toNatClampNeg + t)) (gd (4096 * k.toNatClampNeg + ixP x y)) co st1 dn).2.1 dn)) (rcO (opnJ (gw k.toNatClampNeg) (gh k.toNatClampNeg) cl cx0 cx1 cy0 cy1 ic) (fun t => gd (4096 * k.toNatClampNeg + t)) (gd (4096 * k.toNatClampNeg + ixP x y)) co st1 dn) i).1 (ixP y_121 y_122) = 0 := by rw [← f3, ← hxcy_153]; exact c_154
                              have hixn : ixP y_121 y_122 < 4096 := ix_lt (by omega) (by omega) (by omega) (by omega)
                              have hcn2 : cntP (upd (rcI (opnJ (gw k.toNatClampNeg) (gh k.toNatClampNeg) cl cx0 cx1 cy0 cy1 ic) (fun t => gd (4096 * k.toNatClampNeg + t)) (gd (4096 * k.toNatClampNeg + ixP x y)) co (pX ((rcO (opnJ (gw k.toNatClampNeg) (gh k.toNatClampNeg) cl cx0 cx1 cy0 cy1 ic) (fun t => gd (4096 * k.toNatClampNeg + t)) (gd (4096 * k.toNatClampNeg + ixP x y)) co st1 dn).2.1 dn)) (pY ((rcO (opnJ (gw k.toNatClampNeg) (gh k.toNatClampNeg) cl cx0 cx1 cy0 cy1 ic) (fun t => gd (4096 * k.toNatClampNeg + t)) (gd (4096 * k.toNatClampNeg + ixP x y)) co st1 dn).2.1 dn)) (rcO (opnJ (gw k.toNatClampNeg) (gh k.toNatClampNeg) cl cx0 cx1 cy0 cy1 ic) (fun t => gd (4096 * k.toNatClampNeg + t)) (gd (4096 * k.toNatClampNeg + ixP x y)) co st1 dn) i).1 (ixP y_121 y_122) 1) 4096 = (rcI (opnJ (gw k.toNatClampNeg) (gh k.toNatClampNeg) cl cx0 cx1 cy0 cy1 ic) (fun t => gd (4096 * k.toNatClampNeg + t)) (gd (4096 * k.toNatClampNeg + ixP x y)) co (pX ((rcO (opnJ (gw k.toNatClampNeg) (gh k.toNatClampNeg) cl cx0 cx1 cy0 cy1 ic) (fun t => gd (4096 * k.toNatClampNeg + t)) (gd (4096 * k.toNatClampNeg + ixP x y)) co st1 dn).2.1 dn)) (pY ((rcO (opnJ (gw k.toNatClampNeg) (gh k.toNatClampNeg) cl cx0 cx1 cy0 cy1 ic) (fun t => gd (4096 * k.toNatClampNeg + t)) (gd (4096 * k.toNatClampNeg + ixP x y)) co st1 dn).2.1 dn)) (rcO (opnJ (gw k.toNatClampNeg) (gh k.toNatClampNeg) cl cx0 cx1 cy0 cy1 ic) (fun t => gd (4096 * k.toNatClampNeg + t)) (gd (4096 * k.toNatClampNeg + ixP x y)) co st1 dn) i).2.2 + 1 := by rw [cnt_up1 hixn hmk, fcn]
                              have hm2 : (rcI (opnJ (gw k.toNatClampNeg) (gh k.toNatClampNeg) cl cx0 cx1 cy0 cy1 ic) (fun t => gd (4096 * k.toNatClampNeg + t)) (gd (4096 * k.toNatClampNeg + ixP x y)) co (pX ((rcO (opnJ (gw k.toNatClampNeg) (gh k.toNatClampNeg) cl cx0 cx1 cy0 cy1 ic) (fun t => gd (4096 * k.toNatClampNeg + t)) (gd (4096 * k.toNatClampNeg + ixP x y)) co st1 dn).2.1 dn)) (pY ((rcO (opnJ (gw k.toNatClampNeg) (gh k.toNatClampNeg) cl cx0 cx1 cy0 cy1 ic) (fun t => gd (4096 * k.toNatClampNeg + t)) (gd (4096 * k.toNatClampNeg + ixP x y)) co st1 dn).2.1 dn)) (rcO (opnJ (gw k.toNatClampNeg) (gh k.toNatClampNeg) cl cx0 cx1 cy0 cy1 ic) (fun t => gd (4096 * k.toNatClampNeg + t)) (gd (4096 * k.toNatClampNeg + ixP x y)) co st1 dn) i).2.2 + 1 ≤ 4096 := by rw [← hcn2]; exact cntP_le _ _
                              refine lv_aload_n hx hb dX9_joins_223 rfl (lv_at hl 9 rfl) ?_
                              refine va_get (D := D) (ci := 9) (v := .ref m13) (C := RX9) (T := TX9) (N := 23) hx hb hts hi_X9 hown hK hP 5 rfl rfl 22 (by decide) (hts _ bw_413) (fun _ h9 => h9) rfl dX9_joins_224 ?_
                              refine lv_iload hx hb dX9_joins_227 (lv_at hl 7 rfl) ?_
                              refine lv_iload hx hb dX9_joins_229 (lv_at hl 0 rfl) ?_
                              refine va_iast hx hb hK hP hD hS 1 0 rfl rfl (vp_in_iff.mpr ⟨by omega, by omega⟩) dX9_joins_231 (fun H locs hP hD hS => ?_)
                              have hP : va_P D vwCl [(m3, .inl (cI, 16384, .inl gd)), (m13, .inl (cI, 4096, .inl (upd gs z7.toNatClampNeg y_153))), (m4, .inl (cZ, 4096, .inl g_161)), (m1, .inl (cI, 4, .inl gw)), (m2, .inl (cI, 4, .inl gh)), (h0, .inr (9, [.ref m1, .ref m2, .ref m3, .int ik, .int wy, .int op, .int cl, .int cx0, .int cx1, .int cy0, .int cy1, .int ds, .ref m4, .ref m5, .ref m6, .ref m7, .ref m8, .ref m9, .int pn, .ref m10, .ref m11, .ref m12, .ref m13]))] H := hP
                              have hD : va_D A [(m3, .inl (cI, 16384, .inl gd)), (m13, .inl (cI, 4096, .inl (upd gs z7.toNatClampNeg y_153))), (m4, .inl (cZ, 4096, .inl g_161)), (m1, .inl (cI, 4, .inl gw)), (m2, .inl (cI, 4, .inl gh)), (h0, .inr (9, [.ref m1, .ref m2, .ref m3, .int ik, .int wy, .int op, .int cl, .int cx0, .int cx1, .int cy0, .int cy1, .int ds, .ref m4, .ref m5, .ref m6, .ref m7, .ref m8, .ref m9, .int pn, .ref m10, .ref m11, .ref m12, .ref m13]))] := hD
                              generalize eg_162 : upd gs z7.toNatClampNeg y_153 = g_162 at hP hD
                              have hP : va_P D vwCl [(m3, .inl (cI, 16384, .inl gd)), (m13, .inl (cI, 4096, .inl g_162)), (m4, .inl (cZ, 4096, .inl g_161)), (m1, .inl (cI, 4, .inl gw)), (m2, .inl (cI, 4, .inl gh)), (h0, .inr (9, [.ref m1, .ref m2, .ref m3, .int ik, .int wy, .int op, .int cl, .int cx0, .int cx1, .int cy0, .int cy1, .int ds, .ref m4, .ref m5, .ref m6, .ref m7, .ref m8, .ref m9, .int pn, .ref m10, .ref m11, .ref m12, .ref m13]))] H := hP
                              have hD : va_D A [(m3, .inl (cI, 16384, .inl gd)), (m13, .inl (cI, 4096, .inl g_162)), (m4, .inl (cZ, 4096, .inl g_161)), (m1, .inl (cI, 4, .inl gw)), (m2, .inl (cI, 4, .inl gh)), (h0, .inr (9, [.ref m1, .ref m2, .ref m3, .int ik, .int wy, .int op, .int cl, .int cx0, .int cx1, .int cy0, .int cy1, .int ds, .ref m4, .ref m5, .ref m6, .ref m7, .ref m8, .ref m9, .int pn, .ref m10, .ref m11, .ref m12, .ref m13]))] := hD
                              refine lv_iload hx hb dX9_joins_232 (lv_at hl 7 rfl) ?_
                              refine lv_iconst (v := 1) hx hb dX9_joins_234 (by decide) ?_
                              refine lv_iadd hx hb dX9_joins_235 ?_
                              refine lv_topi (fun y_163 ey_163 => ?_)
                              refine lv_istore (lv' := [(7, .int y_163), (14, .int y_153), (13, .int y_21), (12, .int y_19), (11, .int x11), (8, .int y_13), (10, .int y_12), (9, .int y_11), (6, .int (gd (4096 * k.toNatClampNeg + ixP x y))), (0, .ref h0), (1, .int k), (2, .int x), (3, .int y), (4, .int co), (5, .int ic)]) hx hb dX9_joins_236 hl (by decide) rfl (fun ls hl => ?_)
                              obtain ⟨y_164, ey_164⟩ : ∃ y : Int32, y = x11 + 1 := ⟨_, rfl⟩
                              refine lv_iinc (v := y_164) (lv' := [(11, .int y_164), (7, .int y_163), (14, .int y_153), (13, .int y_21), (12, .int y_19), (8, .int y_13), (10, .int y_12), (9, .int y_11), (6, .int (gd (4096 * k.toNatClampNeg + ixP x y))), (0, .ref h0), (1, .int k), (2, .int x), (3, .int y), (4, .int co), (5, .int ic)]) hx hb dX9_joins_238 hl (k := 4) rfl (by rw [ey_164]; rfl) (by decide) rfl (fun ls hl => ?_)
                              refine lv_goto (tgt := 87) hx hb dX9_joins_241 (by decide) ?_
                              have hS1 : (rcI (opnJ (gw k.toNatClampNeg) (gh k.toNatClampNeg) cl cx0 cx1 cy0 cy1 ic) (fun t => gd (4096 * k.toNatClampNeg + t)) (gd (4096 * k.toNatClampNeg + ixP x y)) co (pX ((rcO (opnJ (gw k.toNatClampNeg) (gh k.toNatClampNeg) cl cx0 cx1 cy0 cy1 ic) (fun t => gd (4096 * k.toNatClampNeg + t)) (gd (4096 * k.toNatClampNeg + ixP x y)) co st1 dn).2.1 dn)) (pY ((rcO (opnJ (gw k.toNatClampNeg) (gh k.toNatClampNeg) cl cx0 cx1 cy0 cy1 ic) (fun t => gd (4096 * k.toNatClampNeg + t)) (gd (4096 * k.toNatClampNeg + ixP x y)) co st1 dn).2.1 dn)) (rcO (opnJ (gw k.toNatClampNeg) (gh k.toNatClampNeg) cl cx0 cx1 cy0 cy1 ic) (fun t => gd (4096 * k.toNatClampNeg + t)) (gd (4096 * k.toNatClampNeg + ixP x y)) co st1 dn) (i + 1)) = rcS (opnJ (gw k.toNatClampNeg) (gh k.toNatClampNeg) cl cx0 cx1 cy0 cy1 ic) (fun t => gd (4096 * k.toNatClampNeg + t)) (gd (4096 * k.toNatClampNeg + ixP x y)) y_121 y_122 (rcI (opnJ (gw k.toNatClampNeg) (gh k.toNatClampNeg) cl cx0 cx1 cy0 cy1 ic) (fun t => gd (4096 * k.toNatClampNeg + t)) (gd (4096 * k.toNatClampNeg + ixP x y)) co (pX ((rcO (opnJ (gw k.toNatClampNeg) (gh k.toNatClampNeg) cl cx0 cx1 cy0 cy1 ic) (fun t => gd (4096 * k.toNatClampNeg + t)) (gd (4096 * k.toNatClampNeg + ixP x y)) co st1 dn).2.1 dn)) (pY ((rcO (opnJ (gw k.toNatClampNeg) (gh k.toNatClampNeg) cl cx0 cx1 cy0 cy1 ic) (fun t => gd (4096 * k.toNatClampNeg + t)) (gd (4096 * k.toNatClampNeg + ixP x y)) co st1 dn).2.1 dn)) (rcO (opnJ (gw k.toNatClampNeg) (gh k.toNatClampNeg) cl cx0 cx1 cy0 cy1 ic) (fun t => gd (4096 * k.toNatClampNeg + t)) (gd (4096 * k.toNatClampNeg + ixP x y)) co st1 dn) i) := by rw [hay_121, hay_122]; exact if_pos (Or.inr (Or.inr (hdy_21.symm.trans c_118)))
                              have hSt : (rcI (opnJ (gw k.toNatClampNeg) (gh k.toNatClampNeg) cl cx0 cx1 cy0 cy1 ic) (fun t => gd (4096 * k.toNatClampNeg + t)) (gd (4096 * k.toNatClampNeg + ixP x y)) co (pX ((rcO (opnJ (gw k.toNatClampNeg) (gh k.toNatClampNeg) cl cx0 cx1 cy0 cy1 ic) (fun t => gd (4096 * k.toNatClampNeg + t)) (gd (4096 * k.toNatClampNeg + ixP x y)) co st1 dn).2.1 dn)) (pY ((rcO (opnJ (gw k.toNatClampNeg) (gh k.toNatClampNeg) cl cx0 cx1 cy0 cy1 ic) (fun t => gd (4096 * k.toNatClampNeg + t)) (gd (4096 * k.toNatClampNeg + ixP x y)) co st1 dn).2.1 dn)) (rcO (opnJ (gw k.toNatClampNeg) (gh k.toNatClampNeg) cl cx0 cx1 cy0 cy1 ic) (fun t => gd (4096 * k.toNatClampNeg + t)) (gd (4096 * k.toNatClampNeg + ixP x y)) co st1 dn) (i + 1)) = (upd (rcI (opnJ (gw k.toNatClampNeg) (gh k.toNatClampNeg) cl cx0 cx1 cy0 cy1 ic) (fun t => gd (4096 * k.toNatClampNeg + t)) (gd (4096 * k.toNatClampNeg + ixP x y)) co (pX ((rcO (opnJ (gw k.toNatClampNeg) (gh k.toNatClampNeg) cl cx0 cx1 cy0 cy1 ic) (fun t => gd (4096 * k.toNatClampNeg + t)) (gd (4096 * k.toNatClampNeg + ixP x y)) co st1 dn).2.1 dn)) (pY ((rcO (opnJ (gw k.toNatClampNeg) (gh k.toNatClampNeg) cl cx0 cx1 cy0 cy1 ic) (fun t => gd (4096 * k.toNatClampNeg + t)) (gd (4096 * k.toNatClampNeg + ixP x y)) co st1 dn).2.1 dn)) (rcO (opnJ (gw k.toNatClampNeg) (gh k.toNatClampNeg) cl cx0 cx1 cy0 cy1 ic) (fun t => gd (4096 * k.toNatClampNeg + t)) (gd (4096 * k.toNatClampNeg + ixP x y)) co st1 dn) i).1 (ixP y_121 y_122) 1, upd (rcI (opnJ (gw k.toNatClampNeg) (gh k.toNatClampNeg) cl cx0 cx1 cy0 cy1 ic) (fun t => gd (4096 * k.toNatClampNeg + t)) (gd (4096 * k.toNatClampNeg + ixP x y)) co (pX ((rcO (opnJ (gw k.toNatClampNeg) (gh k.toNatClampNeg) cl cx0 cx1 cy0 cy1 ic) (fun t => gd (4096 * k.toNatClampNeg + t)) (gd (4096 * k.toNatClampNeg + ixP x y)) co st1 dn).2.1 dn)) (pY ((rcO (opnJ (gw k.toNatClampNeg) (gh k.toNatClampNeg) cl cx0 cx1 cy0 cy1 ic) (fun t => gd (4096 * k.toNatClampNeg + t)) (gd (4096 * k.toNatClampNeg + ixP x y)) co st1 dn).2.1 dn)) (rcO (opnJ (gw k.toNatClampNeg) (gh k.toNatClampNeg) cl cx0 cx1 cy0 cy1 ic) (fun t => gd (4096 * k.toNatClampNeg + t)) (gd (4096 * k.toNatClampNeg + ixP x y)) co st1 dn) i).2.1 (rcI (opnJ (gw k.toNatClampNeg) (gh k.toNatClampNeg) cl cx0 cx1 cy0 cy1 ic) (fun t => gd (4096 * k.toNatClampNeg + t)) (gd (4096 * k.toNatClampNeg + ixP x y)) co (pX ((rcO (opnJ (gw k.toNatClampNeg) (gh k.toNatClampNeg) cl cx0 cx1 cy0 cy1 ic) (fun t => gd (4096 * k.toNatClampNeg + t)) (gd (4096 * k.toNatClampNeg + ixP x y)) co st1 dn).2.1 dn)) (pY ((rcO (opnJ (gw k.toNatClampNeg) (gh k.toNatClampNeg) cl cx0 cx1 cy0 cy1 ic) (fun t => gd (4096 * k.toNatClampNeg + t)) (gd (4096 * k.toNatClampNeg + ixP x y)) co st1 dn).2.1 dn)) (rcO (opnJ (gw k.toNatClampNeg) (gh k.toNatClampNeg) cl cx0 cx1 cy0 cy1 ic) (fun t => gd (4096 * k.toNatClampNeg + t)) (gd (4096 * k.toNatClampNeg + ixP x y)) co st1 dn) i).2.2 (nI (ixP y_121 y_122)), (rcI (opnJ (gw k.toNatClampNeg) (gh k.toNatClampNeg) cl cx0 cx1 cy0 cy1 ic) (fun t => gd (4096 * k.toNatClampNeg + t)) (gd (4096 * k.toNatClampNeg + ixP x y)) co (pX ((rcO (opnJ (gw k.toNatClampNeg) (gh k.toNatClampNeg) cl cx0 cx1 cy0 cy1 ic) (fun t => gd (4096 * k.toNatClampNeg + t)) (gd (4096 * k.toNatClampNeg + ixP x y)) co st1 dn).2.1 dn)) (pY ((rcO (opnJ (gw k.toNatClampNeg) (gh k.toNatClampNeg) cl cx0 cx1 cy0 cy1 ic) (fun t => gd (4096 * k.toNatClampNeg + t)) (gd (4096 * k.toNatClampNeg + ixP x y)) co st1 dn).2.1 dn)) (rcO (opnJ (gw k.toNatClampNeg) (gh k.toNatClampNeg) cl cx0 cx1 cy0 cy1 ic) (fun t => gd (4096 * k.toNatClampNeg + t)) (gd (4096 * k.toNatClampNeg + ixP x y)) co st1 dn) i).2.2 + 1) := hS1.trans (if_pos ⟨⟨⟨f_125, Or.inr f_149⟩, c_159⟩, hmk, by omega⟩)
                              exact ih_15 (i + 1) y_164 y_163 g_161 g_162 _ _ _ (by omega) (by omega) (by rw [ey_164, ex_i]; exact nI_1 i) (by rw [hSt, ey_163, f7]; exact nI_1 _) (by rw [hSt, ← eg_161, f3, hxcy_153]; rfl) (by rw [hSt, ← eg_162, f2, hixy_153, show z7.toNatClampNeg = (rcI (opnJ (gw k.toNatClampNeg) (gh k.toNatClampNeg) cl cx0 cx1 cy0 cy1 ic) (fun t => gd (4096 * k.toNatClampNeg + t)) (gd (4096 * k.toNatClampNeg + ixP x y)) co (pX ((rcO (opnJ (gw k.toNatClampNeg) (gh k.toNatClampNeg) cl cx0 cx1 cy0 cy1 ic) (fun t => gd (4096 * k.toNatClampNeg + t)) (gd (4096 * k.toNatClampNeg + ixP x y)) co st1 dn).2.1 dn)) (pY ((rcO (opnJ (gw k.toNatClampNeg) (gh k.toNatClampNeg) cl cx0 cx1 cy0 cy1 ic) (fun t => gd (4096 * k.toNatClampNeg + t)) (gd (4096 * k.toNatClampNeg + ixP x y)) co st1 dn).2.1 dn)) (rcO (opnJ (gw k.toNatClampNeg) (gh k.toNatClampNeg) cl cx0 cx1 cy0 cy1 ic) (fun t => gd (4096 * k.toNatClampNeg + t)) (gd (4096 * k.toNatClampNeg + ixP x y)) co st1 dn) i).2.2 by rw [f7]; exact nI_clamp (by omega)]) (by rw [hSt]; exact hcn2) (hP.sub (ws' := [(m1, .inl (cI, 4, .inl gw)), (m2, .inl (cI, 4, .inl gh)), (m3, .inl (cI, 16384, .inl gd)), (m13, .inl (cI, 4096, .inl g_162)), (h0, .inr (9, [.ref m1, .ref m2, .ref m3, .int ik, .int wy, .int op, .int cl, .int cx0, .int cx1, .int cy0, .int cy1, .int ds, .ref m4, .ref m5, .ref m6, .ref m7, .ref m8, .ref m9, .int pn, .ref m10, .ref m11, .ref m12, .ref m13])), (m4, .inl (cZ, 4096, .inl g_161))]) [3, 4, 0, 1, 5, 2] rfl) (hD.sub (ws' := [(m1, .inl (cI, 4, .inl gw)), (m2, .inl (cI, 4, .inl gh)), (m3, .inl (cI, 16384, .inl gd)), (m13, .inl (cI, 4096, .inl g_162)), (h0, .inr (9, [.ref m1, .ref m2, .ref m3, .int ik, .int wy, .int op, .int cl, .int cx0, .int cx1, .int cy0, .int cy1, .int ds, .ref m4, .ref m5, .ref m6, .ref m7, .ref m8, .ref m9, .int pn, .ref m10, .ref m11, .ref m12, .ref m13])), (m4, .inl (cZ, 4096, .inl g_161))]) [3, 4, 0, 1, 5, 2] (by decide) rfl) hS (lv_sub hl [0, 5, 6, 7, 1, 8, 9, 10, 11, 12, 13, 14] rfl)
                            · skip
                              have f_160 : ¬ ((gd (4096 * k.toNatClampNeg + ixP y_121 y_122)).toInt = (gd (4096 * k.toNatClampNeg + ixP x y)).toInt) := fn_eq rfl rfl c_159
                              refine lv_goto (tgt := 238) hx hb dX9_joins_212 (by decide) ?_
                              obtain ⟨y_165, ey_165⟩ : ∃ y : Int32, y = x11 + 1 := ⟨_, rfl⟩
                              refine lv_iinc (v := y_165) (lv' := [(11, .int y_165), (14, .int y_153), (13, .int y_21), (12, .int y_19), (8, .int y_13), (10, .int y_12), (9, .int y_11), (7, .int z7), (6, .int (gd (4096 * k.toNatClampNeg + ixP x y))), (0, .ref h0), (1, .int k), (2, .int x), (3, .int y), (4, .int co), (5, .int ic)]) hx hb dX9_joins_238 hl (k := 3) rfl (by rw [ey_165]; rfl) (by decide) rfl (fun ls hl => ?_)
                              refine lv_goto (tgt := 87) hx hb dX9_joins_241 (by decide) ?_
                              have hS1 : (rcI (opnJ (gw k.toNatClampNeg) (gh k.toNatClampNeg) cl cx0 cx1 cy0 cy1 ic) (fun t => gd (4096 * k.toNatClampNeg + t)) (gd (4096 * k.toNatClampNeg + ixP x y)) co (pX ((rcO (opnJ (gw k.toNatClampNeg) (gh k.toNatClampNeg) cl cx0 cx1 cy0 cy1 ic) (fun t => gd (4096 * k.toNatClampNeg + t)) (gd (4096 * k.toNatClampNeg + ixP x y)) co st1 dn).2.1 dn)) (pY ((rcO (opnJ (gw k.toNatClampNeg) (gh k.toNatClampNeg) cl cx0 cx1 cy0 cy1 ic) (fun t => gd (4096 * k.toNatClampNeg + t)) (gd (4096 * k.toNatClampNeg + ixP x y)) co st1 dn).2.1 dn)) (rcO (opnJ (gw k.toNatClampNeg) (gh k.toNatClampNeg) cl cx0 cx1 cy0 cy1 ic) (fun t => gd (4096 * k.toNatClampNeg + t)) (gd (4096 * k.toNatClampNeg + ixP x y)) co st1 dn) (i + 1)) = rcS (opnJ (gw k.toNatClampNeg) (gh k.toNatClampNeg) cl cx0 cx1 cy0 cy1 ic) (fun t => gd (4096 * k.toNatClampNeg + t)) (gd (4096 * k.toNatClampNeg + ixP x y)) y_121 y_122 (rcI (opnJ (gw k.toNatClampNeg) (gh k.toNatClampNeg) cl cx0 cx1 cy0 cy1 ic) (fun t => gd (4096 * k.toNatClampNeg + t)) (gd (4096 * k.toNatClampNeg + ixP x y)) co (pX ((rcO (opnJ (gw k.toNatClampNeg) (gh k.toNatClampNeg) cl cx0 cx1 cy0 cy1 ic) (fun t => gd (4096 * k.toNatClampNeg + t)) (gd (4096 * k.toNatClampNeg + ixP x y)) co st1 dn).2.1 dn)) (pY ((rcO (opnJ (gw k.toNatClampNeg) (gh k.toNatClampNeg) cl cx0 cx1 cy0 cy1 ic) (fun t => gd (4096 * k.toNatClampNeg + t)) (gd (4096 * k.toNatClampNeg + ixP x y)) co st1 dn).2.1 dn)) (rcO (opnJ (gw k.toNatClampNeg) (gh k.toNatClampNeg) cl cx0 cx1 cy0 cy1 ic) (fun t => gd (4096 * k.toNatClampNeg + t)) (gd (4096 * k.toNatClampNeg + ixP x y)) co st1 dn) i) := by rw [hay_121, hay_122]; exact if_pos (Or.inr (Or.inr (hdy_21.symm.trans c_118)))
                              have hSt : (rcI (opnJ (gw k.toNatClampNeg) (gh k.toNatClampNeg) cl cx0 cx1 cy0 cy1 ic) (fun t => gd (4096 * k.toNatClampNeg + t)) (gd (4096 * k.toNatClampNeg + ixP x y)) co (pX ((rcO (opnJ (gw k.toNatClampNeg) (gh k.toNatClampNeg) cl cx0 cx1 cy0 cy1 ic) (fun t => gd (4096 * k.toNatClampNeg + t)) (gd (4096 * k.toNatClampNeg + ixP x y)) co st1 dn).2.1 dn)) (pY ((rcO (opnJ (gw k.toNatClampNeg) (gh k.toNatClampNeg) cl cx0 cx1 cy0 cy1 ic) (fun t => gd (4096 * k.toNatClampNeg + t)) (gd (4096 * k.toNatClampNeg + ixP x y)) co st1 dn).2.1 dn)) (rcO (opnJ (gw k.toNatClampNeg) (gh k.toNatClampNeg) cl cx0 cx1 cy0 cy1 ic) (fun t => gd (4096 * k.toNatClampNeg + t)) (gd (4096 * k.toNatClampNeg + ixP x y)) co st1 dn) (i + 1)) = (rcI (opnJ (gw k.toNatClampNeg) (gh k.toNatClampNeg) cl cx0 cx1 cy0 cy1 ic) (fun t => gd (4096 * k.toNatClampNeg + t)) (gd (4096 * k.toNatClampNeg + ixP x y)) co (pX ((rcO (opnJ (gw k.toNatClampNeg) (gh k.toNatClampNeg) cl cx0 cx1 cy0 cy1 ic) (fun t => gd (4096 * k.toNatClampNeg + t)) (gd (4096 * k.toNatClampNeg + ixP x y)) co st1 dn).2.1 dn)) (pY ((rcO (opnJ (gw k.toNatClampNeg) (gh k.toNatClampNeg) cl cx0 cx1 cy0 cy1 ic) (fun t => gd (4096 * k.toNatClampNeg + t)) (gd (4096 * k.toNatClampNeg + ixP x y)) co st1 dn).2.1 dn)) (rcO (opnJ (gw k.toNatClampNeg) (gh k.toNatClampNeg) cl cx0 cx1 cy0 cy1 ic) (fun t => gd (4096 * k.toNatClampNeg + t)) (gd (4096 * k.toNatClampNeg + ixP x y)) co st1 dn) i) := hS1.trans (if_neg (fun q => c_159 q.1.2))
                              exact ih_15 (i + 1) y_165 z7 gu gs _ _ _ (by omega) (by omega) (by rw [ey_165, ex_i]; exact nI_1 i) (by rw [hSt]; exact f7) (by rw [hSt]; exact f3) (by rw [hSt]; exact f2) (by rw [hSt]; exact fcn) (hP.sub (ws' := [(m1, .inl (cI, 4, .inl gw)), (m2, .inl (cI, 4, .inl gh)), (m3, .inl (cI, 16384, .inl gd)), (m13, .inl (cI, 4096, .inl gs)), (h0, .inr (9, [.ref m1, .ref m2, .ref m3, .int ik, .int wy, .int op, .int cl, .int cx0, .int cx1, .int cy0, .int cy1, .int ds, .ref m4, .ref m5, .ref m6, .ref m7, .ref m8, .ref m9, .int pn, .ref m10, .ref m11, .ref m12, .ref m13])), (m4, .inl (cZ, 4096, .inl gu))]) [3, 4, 0, 1, 5, 2] rfl) (hD.sub (ws' := [(m1, .inl (cI, 4, .inl gw)), (m2, .inl (cI, 4, .inl gh)), (m3, .inl (cI, 16384, .inl gd)), (m13, .inl (cI, 4096, .inl gs)), (h0, .inr (9, [.ref m1, .ref m2, .ref m3, .int ik, .int wy, .int op, .int cl, .int cx0, .int cx1, .int cy0, .int cy1, .int ds, .ref m4, .ref m5, .ref m6, .ref m7, .ref m8, .ref m9, .int pn, .ref m10, .ref m11, .ref m12, .ref m13])), (m4, .inl (cZ, 4096, .inl gu))]) [3, 4, 0, 1, 5, 2] (by decide) rfl) hS (lv_sub hl [0, 4, 5, 6, 7, 8, 9, 10, 11, 12, 13, 14] rfl)
                        · skip
                          have f_149 := bz0 hr_147 c_148
                          refine lv_goto (tgt := 238) hx hb dX9_joins_165 (by decide) ?_
                          obtain ⟨y_166, ey_166⟩ : ∃ y : Int32, y = x11 + 1 := ⟨_, rfl⟩
                          refine lv_iinc (v := y_166) (lv' := [(11, .int y_166), (13, .int y_21), (12, .int y_19), (8, .int y_13), (10, .int y_12), (9, .int y_11), (7, .int z7), (6, .int (gd (4096 * k.toNatClampNeg + ixP x y))), (0, .ref h0), (1, .int k), (2, .int x), (3, .int y), (4, .int co), (5, .int ic)]) hx hb dX9_joins_238 hl (k := 2) rfl (by rw [ey_166]; rfl) (by decide) rfl (fun ls hl => ?_)
                          refine lv_goto (tgt := 87) hx hb dX9_joins_241 (by decide) ?_
                          have hS1 : (rcI (opnJ (gw k.toNatClampNeg) (gh k.toNatClampNeg) cl cx0 cx1 cy0 cy1 ic) (fun t => gd (4096 * k.toNatClampNeg + t)) (gd (4096 * k.toNatClampNeg + ixP x y)) co (pX ((rcO (opnJ (gw k.toNatClampNeg) (gh k.toNatClampNeg) cl cx0 cx1 cy0 cy1 ic) (fun t => gd (4096 * k.toNatClampNeg + t)) (gd (4096 * k.toNatClampNeg + ixP x y)) co st1 dn).2.1 dn)) (pY ((rcO (opnJ (gw k.toNatClampNeg) (gh k.toNatClampNeg) cl cx0 cx1 cy0 cy1 ic) (fun t => gd (4096 * k.toNatClampNeg + t)) (gd (4096 * k.toNatClampNeg + ixP x y)) co st1 dn).2.1 dn)) (rcO (opnJ (gw k.toNatClampNeg) (gh k.toNatClampNeg) cl cx0 cx1 cy0 cy1 ic) (fun t => gd (4096 * k.toNatClampNeg + t)) (gd (4096 * k.toNatClampNeg + ixP x y)) co st1 dn) (i + 1)) = rcS (opnJ (gw k.toNatClampNeg) (gh k.toNatClampNeg) cl cx0 cx1 cy0 cy1 ic) (fun t => gd (4096 * k.toNatClampNeg + t)) (gd (4096 * k.toNatClampNeg + ixP x y)) y_121 y_122 (rcI (opnJ (gw k.toNatClampNeg) (gh k.toNatClampNeg) cl cx0 cx1 cy0 cy1 ic) (fun t => gd (4096 * k.toNatClampNeg + t)) (gd (4096 * k.toNatClampNeg + ixP x y)) co (pX ((rcO (opnJ (gw k.toNatClampNeg) (gh k.toNatClampNeg) cl cx0 cx1 cy0 cy1 ic) (fun t => gd (4096 * k.toNatClampNeg + t)) (gd (4096 * k.toNatClampNeg + ixP x y)) co st1 dn).2.1 dn)) (pY ((rcO (opnJ (gw k.toNatClampNeg) (gh k.toNatClampNeg) cl cx0 cx1 cy0 cy1 ic) (fun t => gd (4096 * k.toNatClampNeg + t)) (gd (4096 * k.toNatClampNeg + ixP x y)) co st1 dn).2.1 dn)) (rcO (opnJ (gw k.toNatClampNeg) (gh k.toNatClampNeg) cl cx0 cx1 cy0 cy1 ic) (fun t => gd (4096 * k.toNatClampNeg + t)) (gd (4096 * k.toNatClampNeg + ixP x y)) co st1 dn) i) := by rw [hay_121, hay_122]; exact if_pos (Or.inr (Or.inr (hdy_21.symm.trans c_118)))
                          have hSt : (rcI (opnJ (gw k.toNatClampNeg) (gh k.toNatClampNeg) cl cx0 cx1 cy0 cy1 ic) (fun t => gd (4096 * k.toNatClampNeg + t)) (gd (4096 * k.toNatClampNeg + ixP x y)) co (pX ((rcO (opnJ (gw k.toNatClampNeg) (gh k.toNatClampNeg) cl cx0 cx1 cy0 cy1 ic) (fun t => gd (4096 * k.toNatClampNeg + t)) (gd (4096 * k.toNatClampNeg + ixP x y)) co st1 dn).2.1 dn)) (pY ((rcO (opnJ (gw k.toNatClampNeg) (gh k.toNatClampNeg) cl cx0 cx1 cy0 cy1 ic) (fun t => gd (4096 * k.toNatClampNeg + t)) (gd (4096 * k.toNatClampNeg + ixP x y)) co st1 dn).2.1 dn)) (rcO (opnJ (gw k.toNatClampNeg) (gh k.toNatClampNeg) cl cx0 cx1 cy0 cy1 ic) (fun t => gd (4096 * k.toNatClampNeg + t)) (gd (4096 * k.toNatClampNeg + ixP x y)) co st1 dn) (i + 1)) = (rcI (opnJ (gw k.toNatClampNeg) (gh k.toNatClampNeg) cl cx0 cx1 cy0 cy1 ic) (fun t => gd (4096 * k.toNatClampNeg + t)) (gd (4096 * k.toNatClampNeg + ixP x y)) co (pX ((rcO (opnJ (gw k.toNatClampNeg) (gh k.toNatClampNeg) cl cx0 cx1 cy0 cy1 ic) (fun t => gd (4096 * k.toNatClampNeg + t)) (gd (4096 * k.toNatClampNeg + ixP x y)) co st1 dn).2.1 dn)) (pY ((rcO (opnJ (gw k.toNatClampNeg) (gh k.toNatClampNeg) cl cx0 cx1 cy0 cy1 ic) (fun t => gd (4096 * k.toNatClampNeg + t)) (gd (4096 * k.toNatClampNeg + ixP x y)) co st1 dn).2.1 dn)) (rcO (opnJ (gw k.toNatClampNeg) (gh k.toNatClampNeg) cl cx0 cx1 cy0 cy1 ic) (fun t => gd (4096 * k.toNatClampNeg + t)) (gd (4096 * k.toNatClampNeg + ixP x y)) co st1 dn) i) := hS1.trans (if_neg (fun q => q.1.1.2.elim c_127 (fun q => f_149 q)))
                          exact ih_15 (i + 1) y_166 z7 gu gs _ _ _ (by omega) (by omega) (by rw [ey_166, ex_i]; exact nI_1 i) (by rw [hSt]; exact f7) (by rw [hSt]; exact f3) (by rw [hSt]; exact f2) (by rw [hSt]; exact fcn) (hP.sub (ws' := [(m1, .inl (cI, 4, .inl gw)), (m2, .inl (cI, 4, .inl gh)), (m3, .inl (cI, 16384, .inl gd)), (m13, .inl (cI, 4096, .inl gs)), (h0, .inr (9, [.ref m1, .ref m2, .ref m3, .int ik, .int wy, .int op, .int cl, .int cx0, .int cx1, .int cy0, .int cy1, .int ds, .ref m4, .ref m5, .ref m6, .ref m7, .ref m8, .ref m9, .int pn, .ref m10, .ref m11, .ref m12, .ref m13])), (m4, .inl (cZ, 4096, .inl gu))]) [3, 4, 0, 1, 5, 2] rfl) (hD.sub (ws' := [(m1, .inl (cI, 4, .inl gw)), (m2, .inl (cI, 4, .inl gh)), (m3, .inl (cI, 16384, .inl gd)), (m13, .inl (cI, 4096, .inl gs)), (h0, .inr (9, [.ref m1, .ref m2, .ref m3, .int ik, .int wy, .int op, .int cl, .int cx0, .int cx1, .int cy0, .int cy1, .int ds, .ref m4, .ref m5, .ref m6, .ref m7, .ref m8, .ref m9, .int pn, .ref m10, .ref m11, .ref m12, .ref m13])), (m4, .inl (cZ, 4096, .inl gu))]) [3, 4, 0, 1, 5, 2] (by decide) rfl) hS (lv_sub hl [0, 3, 4, 5, 6, 7, 8, 9, 10, 11, 12, 13] rfl)
        exact loop_14 (9 + 1) 0 0 x7 gq gt _ _ _ (by omega) (by omega) nI_0.symm e7 q3 q2 hcn hP hD hS (lv_sub hl [0, 1, 2, 3, 4, 5, 6, 7, 8, 9, 10, 11] rfl)
  exact loop_7 4098 0 1 0 g_6 g_5 _ _ _ (by omega) (Nat.zero_le _) (by show (1 : Int32) = nI st1.2.2; rw [hs1]; rfl) nI_0.symm hg4 hg13 (by show cntP st1.1 4096 = st1.2.2; rw [hs1]; exact hc0) (fun _ h => absurd h (by omega)) hP hD hS (lv_sub hl [0, 1, 2, 3, 4, 5, 6, 7, 8] rfl)

set_option maxHeartbeats 4000000 in
set_option maxRecDepth 100000 in
theorem k_X9_flood_ye (l : Launch) (D : va_G) (sz : Nat) (h0 m1 m2 m3 m4 m5 m6 m7 m8 m9 m10 m11 m12 m13 : Nat) (ik wy op cl cx0 cx1 cy0 cy1 ds pn : Int32) (gw : Nat → Int32) (gh : Nat → Int32) (gd : Nat → Int32) (gm : Nat → Int32) (ge : Nat → Int32) (gv : Nat → Int32) (wt : Nat → Int32) (k x y co : Int32) (cI : ClassId) (cZ : ClassId) (hk : 0 ≤ k.toInt ∧ k.toInt ≤ 3) (hgw : 0 ≤ (gw k.toNatClampNeg).toInt ∧ (gw k.toNatClampNeg).toInt ≤ 64) (hgh : 0 ≤ (gh k.toNatClampNeg).toInt ∧ (gh k.toNatClampNeg).toInt ≤ 64) (hwy : 0 ≤ wy.toInt ∧ wy.toInt ≤ 12) (hgp : 0 < (gw k.toNatClampNeg).toInt) (hon : 0 ≤ x.toInt ∧ x.toInt < (gw k.toNatClampNeg).toInt ∧ 0 ≤ y.toInt ∧ y.toInt < (gh k.toNatClampNeg).toInt) (hcl : (cl.toInt = 0 ∨ (cx0.toInt ≤ x.toInt ∧ x.toInt ≤ cx1.toInt ∧ cy0.toInt ≤ y.toInt ∧ y.toInt ≤ cy1.toInt))) (hcx : opnJ (gw k.toNatClampNeg) (gh k.toNatClampNeg) cl cx0 cx1 cy0 cy1 1 x y) : Met l yX9_flood (wB yX9_flood cX9_flood 6 (some .int)) ({ frames := 3, cells := 0, slots := 0, locals := 73 }) (cP D [(h0, .inr (9, [.ref m1, .ref m2, .ref m3, .int ik, .int wy, .int op, .int cl, .int cx0, .int cx1, .int cy0, .int cy1, .int ds, .ref m4, .ref m5, .ref m6, .ref m7, .ref m8, .ref m9, .int pn, .ref m10, .ref m11, .ref m12, .ref m13])), (m1, .inl (cI, 4, .inl gw)), (m2, .inl (cI, 4, .inl gh)), (m3, .inl (cI, 16384, .inl gd)), (m4, .inl (cZ, 4096, .inl gm)), (m5, .inl (cI, 4096, .inl ge)), (m6, .inl (cI, 4096, .inl gv)), (m13, .inl (cI, 4096, .inl wt))] [(cI, .int), (cZ, .boolean)] sz [.ref h0, .int k, .int x, .int y, .int co]) (va_Qi (fun (r : Int32) (_ : Unit) => r = nI (spS (opnJ (gw k.toNatClampNeg) (gh k.toNatClampNeg) cl cx0 cx1 cy0 cy1 1) (fun t => gd (4096 * k.toNatClampNeg + t)) x y co).2.2) (fun (_ : Unit) (t : State) => ∃ (g3 g4 g5 g6 : Nat → Int32), cB D (va_A [(h0, .inr (9, [.ref m1, .ref m2, .ref m3, .int ik, .int wy, .int op, .int cl, .int cx0, .int cx1, .int cy0, .int cy1, .int ds, .ref m4, .ref m5, .ref m6, .ref m7, .ref m8, .ref m9, .int pn, .ref m10, .ref m11, .ref m12, .ref m13])), (m1, .inl (cI, 4, .inl gw)), (m2, .inl (cI, 4, .inl gh)), (m3, .inl (cI, 16384, .inl gd)), (m4, .inl (cZ, 4096, .inl gm)), (m5, .inl (cI, 4096, .inl ge)), (m6, .inl (cI, 4096, .inl gv)), (m13, .inl (cI, 4096, .inl wt))] sz) [(h0, .inr (9, [.ref m1, .ref m2, .ref m3, .int ik, .int wy, .int op, .int cl, .int cx0, .int cx1, .int cy0, .int cy1, .int ds, .ref m4, .ref m5, .ref m6, .ref m7, .ref m8, .ref m9, .int pn, .ref m10, .ref m11, .ref m12, .ref m13])), (m1, .inl (cI, 4, .inl gw)), (m2, .inl (cI, 4, .inl gh)), (m3, .inl (cI, 16384, .inl (lysN wy gd (spS (opnJ (gw k.toNatClampNeg) (gh k.toNatClampNeg) cl cx0 cx1 cy0 cy1 1) (fun t => gd (4096 * k.toNatClampNeg + t)) x y co).1 (fun _ => op) (fun _ => ik) k.toNatClampNeg 4096))), (m4, .inl (cZ, 4096, .inl g3)), (m5, .inl (cI, 4096, .inl g4)), (m6, .inl (cI, 4096, .inl g5)), (m13, .inl (cI, 4096, .inl g6))] [(cI, .int), (cZ, .boolean)] t) (va_A [(h0, .inr (9, [.ref m1, .ref m2, .ref m3, .int ik, .int wy, .int op, .int cl, .int cx0, .int cx1, .int cy0, .int cy1, .int ds, .ref m4, .ref m5, .ref m6, .ref m7, .ref m8, .ref m9, .int pn, .ref m10, .ref m11, .ref m12, .ref m13])), (m1, .inl (cI, 4, .inl gw)), (m2, .inl (cI, 4, .inl gh)), (m3, .inl (cI, 16384, .inl gd)), (m4, .inl (cZ, 4096, .inl gm)), (m5, .inl (cI, 4096, .inl ge)), (m6, .inl (cI, 4096, .inl gv)), (m13, .inl (cI, 4096, .inl wt))] sz)) 0 0 (va_A [(h0, .inr (9, [.ref m1, .ref m2, .ref m3, .int ik, .int wy, .int op, .int cl, .int cx0, .int cx1, .int cy0, .int cy1, .int ds, .ref m4, .ref m5, .ref m6, .ref m7, .ref m8, .ref m9, .int pn, .ref m10, .ref m11, .ref m12, .ref m13])), (m1, .inl (cI, 4, .inl gw)), (m2, .inl (cI, 4, .inl gh)), (m3, .inl (cI, 16384, .inl gd)), (m4, .inl (cZ, 4096, .inl gm)), (m5, .inl (cI, 4096, .inl ge)), (m6, .inl (cI, 4096, .inl gv)), (m13, .inl (cI, 4096, .inl wt))] sz) := by
  refine Met.ofW (cc := cX9_flood) (maxL := 6) (ret := (some .int)) (by decide) rfl ?_
  intro p e s m args below meth c s₁ B hml hv
  obtain ⟨rfl, hsz, hP, hK, hD0, hN⟩ := hv
  have hx := B.exec
  have hb := B.bytes
  have hr := B.returns
  have hts0 := atoms_spec (ws := (wB yX9_flood cX9_flood 6 (some .int))) B.pre
  have hts : ∀ w ∈ bigW, w.before _ s = true := fun w h => hts0 w (List.mem_cons_of_mem _ h)
  have hown : s.vm.findClass RX9 = some m.cls := findClass_of_methodNamed B.named
  have hlocks := B.notSynchronized
  subst hsz
  have hD := hD0.self (sz := s.heap.size)
  generalize hAe : va_A [(h0, .inr (9, [.ref m1, .ref m2, .ref m3, .int ik, .int wy, .int op, .int cl, .int cx0, .int cx1, .int cy0, .int cy1, .int ds, .ref m4, .ref m5, .ref m6, .ref m7, .ref m8, .ref m9, .int pn, .ref m10, .ref m11, .ref m12, .ref m13])), (m1, .inl (cI, 4, .inl gw)), (m2, .inl (cI, 4, .inl gh)), (m3, .inl (cI, 16384, .inl gd)), (m4, .inl (cZ, 4096, .inl gm)), (m5, .inl (cI, 4096, .inl ge)), (m6, .inl (cI, 4096, .inl gv)), (m13, .inl (cI, 4096, .inl wt))] s.heap.size = A at hD ⊢
  have hA : ∀ q : Nat, s.heap.size ≤ q → A q := fun q h => by rw [← hAe]; exact Or.inr h
  have hS : va_S A s.heap s.heap [] := va_S.rf
  have hP : va_P D vwCl [(h0, .inr (9, [.ref m1, .ref m2, .ref m3, .int ik, .int wy, .int op, .int cl, .int cx0, .int cx1, .int cy0, .int cy1, .int ds, .ref m4, .ref m5, .ref m6, .ref m7, .ref m8, .ref m9, .int pn, .ref m10, .ref m11, .ref m12, .ref m13])), (m1, .inl (cI, 4, .inl gw)), (m2, .inl (cI, 4, .inl gh)), (m3, .inl (cI, 16384, .inl gd)), (m4, .inl (cZ, 4096, .inl gm)), (m5, .inl (cI, 4096, .inl ge)), (m6, .inl (cI, 4096, .inl gv)), (m13, .inl (cI, 4096, .inl wt))] s.heap := hP
  have hl := lv_entry ([.ref h0, .int k, .int x, .int y, .int co]) (n := 6) (Nat.le_of_ble_eq_true rfl)
  rw [lg_entry_eq]
  generalize (lg_sl ([.ref h0, .int k, .int x, .int y, .int co]) ++ List.replicate (6 - (lg_sl ([.ref h0, .int k, .int x, .int y, .int co])).length) Slot.unset).toArray = ls at hl ⊢
  have hl : lv_has ls 6 [(0, .ref h0), (1, .int k), (2, .int x), (3, .int y), (4, .int co)] := hl
  clear hts0 hD0 hAe
  refine my_abs (fun R Q hR hQ => ?_)
  refine lv_aload_n hx hb dX9_flood_0 rfl (lv_at hl 0 rfl) ?_
  refine lv_iload_n hx hb dX9_flood_1 rfl (lv_at hl 1 rfl) ?_
  have hPc := hP.sub (ws' := [(h0, .inr (9, [.ref m1, .ref m2, .ref m3, .int ik, .int wy, .int op, .int cl, .int cx0, .int cx1, .int cy0, .int cy1, .int ds, .ref m4, .ref m5, .ref m6, .ref m7, .ref m8, .ref m9, .int pn, .ref m10, .ref m11, .ref m12, .ref m13])), (m1, .inl (cI, 4, .inl gw))]) [0, 1] rfl
  have hDc := hD.sub (ws' := [(h0, .inr (9, [.ref m1, .ref m2, .ref m3, .int ik, .int wy, .int op, .int cl, .int cx0, .int cx1, .int cy0, .int cy1, .int ds, .ref m4, .ref m5, .ref m6, .ref m7, .ref m8, .ref m9, .int pn, .ref m10, .ref m11, .ref m12, .ref m13])), (m1, .inl (cI, 4, .inl gw))]) [0, 1] (by decide) rfl
  have hKc := hK.sub (tys' := [(cI, .int)]) [0] rfl
  have hFc := va_free (wc := [(h0, .inr (9, [.ref m1, .ref m2, .ref m3, .int ik, .int wy, .int op, .int cl, .int cx0, .int cx1, .int cy0, .int cy1, .int ds, .ref m4, .ref m5, .ref m6, .ref m7, .ref m8, .ref m9, .int pn, .ref m10, .ref m11, .ref m12, .ref m13])), (m1, .inl (cI, 4, .inl gw))]) hD hS hA [0, 1] rfl
  refine va_calli (va_runV (As := [.int k]) (rest := []) ⟨hx, hb, hml, hown, hts⟩ (k_X9_isSheet l D s.heap.size h0 m1 m2 m3 m4 m5 m6 m7 m8 m9 m10 m11 m12 m13 ik wy op cl cx0 cx1 cy0 cy1 ds pn gw k cI) (cwV 1 hts (gV bw_490 bw_415 bw_416 bw_391 bw_414) rfl rfl rfl (by decide +kernel) ⟨(by rw [hR]; exact Nat.le_of_ble_eq_true rfl), (by rw [hR]; exact Nat.le_of_ble_eq_true rfl)⟩) ⟨cP_blind, va_recv hKc hPc (ci := 9) (q0 := 0) rfl rfl, cP_at hPc hKc hDc hN⟩ rfl rfl hl.1 rfl (lv_room (Nat.le_of_ble_eq_true rfl)) dX9_flood_2 ⟨(by rw [hR]; exact Nat.le_of_ble_eq_true rfl), (by rw [hR]; exact Nat.le_of_ble_eq_true rfl)⟩) hS (fun q _ h => hFc q h) hFc (fun r_1 u9 t9 H1 locs ht hvm hr_1 hB hz1 hk1 hS => ?_)
  try dsimp only at hr_1
  obtain ⟨hP1, hK1, hD1⟩ := hB
  rw [ht] at hP1
  obtain ⟨hP, hD⟩ := va_join (wr := [(m2, .inl (cI, 4, .inl gh)), (m3, .inl (cI, 16384, .inl gd)), (m4, .inl (cZ, 4096, .inl gm)), (m5, .inl (cI, 4096, .inl ge)), (m6, .inl (cI, 4096, .inl gv)), (m13, .inl (cI, 4096, .inl wt))]) (w1 := [(h0, .inr (9, [.ref m1, .ref m2, .ref m3, .int ik, .int wy, .int op, .int cl, .int cx0, .int cx1, .int cy0, .int cy1, .int ds, .ref m4, .ref m5, .ref m6, .ref m7, .ref m8, .ref m9, .int pn, .ref m10, .ref m11, .ref m12, .ref m13])), (m1, .inl (cI, 4, .inl gw))]) hP hD [0, 1] [2, 3, 4, 5, 6, 7] rfl rfl (by decide) (by decide) hk1 hFc hP1 hD1
  clear hz1 hk1 hFc hKc hDc hPc
  generalize H1 = H at hP hS ⊢
  have hP : va_P D vwCl [(m2, .inl (cI, 4, .inl gh)), (m3, .inl (cI, 16384, .inl gd)), (m4, .inl (cZ, 4096, .inl gm)), (m5, .inl (cI, 4096, .inl ge)), (m6, .inl (cI, 4096, .inl gv)), (m13, .inl (cI, 4096, .inl wt)), (h0, .inr (9, [.ref m1, .ref m2, .ref m3, .int ik, .int wy, .int op, .int cl, .int cx0, .int cx1, .int cy0, .int cy1, .int ds, .ref m4, .ref m5, .ref m6, .ref m7, .ref m8, .ref m9, .int pn, .ref m10, .ref m11, .ref m12, .ref m13])), (m1, .inl (cI, 4, .inl gw))] H := hP
  have hD : va_D A [(m2, .inl (cI, 4, .inl gh)), (m3, .inl (cI, 16384, .inl gd)), (m4, .inl (cZ, 4096, .inl gm)), (m5, .inl (cI, 4096, .inl ge)), (m6, .inl (cI, 4096, .inl gv)), (m13, .inl (cI, 4096, .inl wt)), (h0, .inr (9, [.ref m1, .ref m2, .ref m3, .int ik, .int wy, .int op, .int cl, .int cx0, .int cx1, .int cy0, .int cy1, .int ds, .ref m4, .ref m5, .ref m6, .ref m7, .ref m8, .ref m9, .int pn, .ref m10, .ref m11, .ref m12, .ref m13])), (m1, .inl (cI, 4, .inl gw))] := hD
  refine lv_if_eq (tgt := 18) hx hb dX9_flood_5 (by decide) (fun c_2 => ?_) (fun c_2 => ?_)
  · skip
    have f_3 := bz0 hr_1 c_2
    exact False.elim (by omega)
  · skip
    have f_3 := bz1 hr_1 c_2
    refine lv_aload_n hx hb dX9_flood_8 rfl (lv_at hl 0 rfl) ?_
    refine lv_iload_n hx hb dX9_flood_9 rfl (lv_at hl 1 rfl) ?_
    refine lv_iload_n hx hb dX9_flood_10 rfl (lv_at hl 2 rfl) ?_
    refine lv_iload_n hx hb dX9_flood_11 rfl (lv_at hl 3 rfl) ?_
    have hPc := hP.sub (ws' := [(h0, .inr (9, [.ref m1, .ref m2, .ref m3, .int ik, .int wy, .int op, .int cl, .int cx0, .int cx1, .int cy0, .int cy1, .int ds, .ref m4, .ref m5, .ref m6, .ref m7, .ref m8, .ref m9, .int pn, .ref m10, .ref m11, .ref m12, .ref m13])), (m1, .inl (cI, 4, .inl gw)), (m2, .inl (cI, 4, .inl gh))]) [6, 7, 0] rfl
    have hDc := hD.sub (ws' := [(h0, .inr (9, [.ref m1, .ref m2, .ref m3, .int ik, .int wy, .int op, .int cl, .int cx0, .int cx1, .int cy0, .int cy1, .int ds, .ref m4, .ref m5, .ref m6, .ref m7, .ref m8, .ref m9, .int pn, .ref m10, .ref m11, .ref m12, .ref m13])), (m1, .inl (cI, 4, .inl gw)), (m2, .inl (cI, 4, .inl gh))]) [6, 7, 0] (by decide) rfl
    have hKc := hK.sub (tys' := [(cI, .int)]) [0] rfl
    have hFc := va_free (wc := [(h0, .inr (9, [.ref m1, .ref m2, .ref m3, .int ik, .int wy, .int op, .int cl, .int cx0, .int cx1, .int cy0, .int cy1, .int ds, .ref m4, .ref m5, .ref m6, .ref m7, .ref m8, .ref m9, .int pn, .ref m10, .ref m11, .ref m12, .ref m13])), (m1, .inl (cI, 4, .inl gw)), (m2, .inl (cI, 4, .inl gh))]) hD hS hA [6, 7, 0] rfl
    refine va_calli (va_runV (As := [.int k, .int x, .int y]) (rest := []) ⟨hx, hb, hml, hown, hts⟩ (k_X9_isOn l D H.size h0 m1 m2 m3 m4 m5 m6 m7 m8 m9 m10 m11 m12 m13 ik wy op cl cx0 cx1 cy0 cy1 ds pn gw gh k x y cI (by omega)) (cwV 3 hts (gV bw_433 bw_418 bw_419 bw_391 bw_417) rfl rfl rfl (by decide +kernel) ⟨(by rw [hR]; exact Nat.le_of_ble_eq_true rfl), (by rw [hR]; exact Nat.le_of_ble_eq_true rfl)⟩) ⟨cP_blind, va_recv hKc hPc (ci := 9) (q0 := 0) rfl rfl, cP_at hPc hKc hDc hN⟩ rfl rfl hl.1 rfl (lv_room (Nat.le_of_ble_eq_true rfl)) dX9_flood_12 ⟨(by rw [hR]; exact Nat.le_of_ble_eq_true rfl), (by rw [hR]; exact Nat.le_of_ble_eq_true rfl)⟩) hS (fun q _ h => hFc q h) hFc (fun r_4 u9 t9 H1 locs ht hvm hr_4 hB hz1 hk1 hS => ?_)
    try dsimp only at hr_4
    obtain ⟨hP1, hK1, hD1⟩ := hB
    rw [ht] at hP1
    obtain ⟨hP, hD⟩ := va_join (wr := [(m3, .inl (cI, 16384, .inl gd)), (m4, .inl (cZ, 4096, .inl gm)), (m5, .inl (cI, 4096, .inl ge)), (m6, .inl (cI, 4096, .inl gv)), (m13, .inl (cI, 4096, .inl wt))]) (w1 := [(h0, .inr (9, [.ref m1, .ref m2, .ref m3, .int ik, .int wy, .int op, .int cl, .int cx0, .int cx1, .int cy0, .int cy1, .int ds, .ref m4, .ref m5, .ref m6, .ref m7, .ref m8, .ref m9, .int pn, .ref m10, .ref m11, .ref m12, .ref m13])), (m1, .inl (cI, 4, .inl gw)), (m2, .inl (cI, 4, .inl gh))]) hP hD [6, 7, 0] [1, 2, 3, 4, 5] rfl rfl (by decide) (by decide) hk1 hFc hP1 hD1
    clear hz1 hk1 hFc hKc hDc hPc
    generalize H1 = H at hP hS ⊢
    have hP : va_P D vwCl [(m3, .inl (cI, 16384, .inl gd)), (m4, .inl (cZ, 4096, .inl gm)), (m5, .inl (cI, 4096, .inl ge)), (m6, .inl (cI, 4096, .inl gv)), (m13, .inl (cI, 4096, .inl wt)), (h0, .inr (9, [.ref m1, .ref m2, .ref m3, .int ik, .int wy, .int op, .int cl, .int cx0, .int cx1, .int cy0, .int cy1, .int ds, .ref m4, .ref m5, .ref m6, .ref m7, .ref m8, .ref m9, .int pn, .ref m10, .ref m11, .ref m12, .ref m13])), (m1, .inl (cI, 4, .inl gw)), (m2, .inl (cI, 4, .inl gh))] H := hP
    have hD : va_D A [(m3, .inl (cI, 16384, .inl gd)), (m4, .inl (cZ, 4096, .inl gm)), (m5, .inl (cI, 4096, .inl ge)), (m6, .inl (cI, 4096, .inl gv)), (m13, .inl (cI, 4096, .inl wt)), (h0, .inr (9, [.ref m1, .ref m2, .ref m3, .int ik, .int wy, .int op, .int cl, .int cx0, .int cx1, .int cy0, .int cy1, .int ds, .ref m4, .ref m5, .ref m6, .ref m7, .ref m8, .ref m9, .int pn, .ref m10, .ref m11, .ref m12, .ref m13])), (m1, .inl (cI, 4, .inl gw)), (m2, .inl (cI, 4, .inl gh))] := hD
    refine lv_if_ne (tgt := 20) hx hb dX9_flood_15 (by decide) (fun c_5 => ?_) (fun c_5 => ?_)
    · skip
      have f_6 := bz1 hr_4 c_5
      refine lv_aload_n hx hb dX9_flood_20 rfl (lv_at hl 0 rfl) ?_
      refine lv_iload_n hx hb dX9_flood_21 rfl (lv_at hl 2 rfl) ?_
      refine lv_iload_n hx hb dX9_flood_22 rfl (lv_at hl 3 rfl) ?_
      have hPc := hP.sub (ws' := [(h0, .inr (9, [.ref m1, .ref m2, .ref m3, .int ik, .int wy, .int op, .int cl, .int cx0, .int cx1, .int cy0, .int cy1, .int ds, .ref m4, .ref m5, .ref m6, .ref m7, .ref m8, .ref m9, .int pn, .ref m10, .ref m11, .ref m12, .ref m13]))]) [5] rfl
      have hDc := hD.sub (ws' := [(h0, .inr (9, [.ref m1, .ref m2, .ref m3, .int ik, .int wy, .int op, .int cl, .int cx0, .int cx1, .int cy0, .int cy1, .int ds, .ref m4, .ref m5, .ref m6, .ref m7, .ref m8, .ref m9, .int pn, .ref m10, .ref m11, .ref m12, .ref m13]))]) [5] (by decide) rfl
      have hKc := hK.sub (tys' := []) [] rfl
      have hFc := va_free (wc := [(h0, .inr (9, [.ref m1, .ref m2, .ref m3, .int ik, .int wy, .int op, .int cl, .int cx0, .int cx1, .int cy0, .int cy1, .int ds, .ref m4, .ref m5, .ref m6, .ref m7, .ref m8, .ref m9, .int pn, .ref m10, .ref m11, .ref m12, .ref m13]))]) hD hS hA [5] rfl
      refine va_calli (va_runV (As := [.int x, .int y]) (rest := []) ⟨hx, hb, hml, hown, hts⟩ (k_X9_isInClip l D H.size h0 m1 m2 m3 m4 m5 m6 m7 m8 m9 m10 m11 m12 m13 ik wy op cl cx0 cx1 cy0 cy1 ds pn x y) (cwV 2 hts (gV bw_434 bw_423 bw_424 bw_391 bw_422) rfl rfl rfl (by decide +kernel) ⟨(by rw [hR]; exact Nat.le_of_ble_eq_true rfl), (by rw [hR]; exact Nat.le_of_ble_eq_true rfl)⟩) ⟨cP_blind, va_recv hKc hPc (ci := 9) (q0 := 0) rfl rfl, cP_at hPc hKc hDc hN⟩ rfl rfl hl.1 rfl (lv_room (Nat.le_of_ble_eq_true rfl)) dX9_flood_23 ⟨(by rw [hR]; exact Nat.le_of_ble_eq_true rfl), (by rw [hR]; exact Nat.le_of_ble_eq_true rfl)⟩) hS (fun q _ h => hFc q h) hFc (fun r_7 u9 t9 H1 locs ht hvm hr_7 hB hz1 hk1 hS => ?_)
      try dsimp only at hr_7
      obtain ⟨hP1, hK1, hD1⟩ := hB
      rw [ht] at hP1
      obtain ⟨hP, hD⟩ := va_join (wr := [(m3, .inl (cI, 16384, .inl gd)), (m4, .inl (cZ, 4096, .inl gm)), (m5, .inl (cI, 4096, .inl ge)), (m6, .inl (cI, 4096, .inl gv)), (m13, .inl (cI, 4096, .inl wt)), (m1, .inl (cI, 4, .inl gw)), (m2, .inl (cI, 4, .inl gh))]) (w1 := [(h0, .inr (9, [.ref m1, .ref m2, .ref m3, .int ik, .int wy, .int op, .int cl, .int cx0, .int cx1, .int cy0, .int cy1, .int ds, .ref m4, .ref m5, .ref m6, .ref m7, .ref m8, .ref m9, .int pn, .ref m10, .ref m11, .ref m12, .ref m13]))]) hP hD [5] [0, 1, 2, 3, 4, 6, 7] rfl rfl (by decide) (by decide) hk1 hFc hP1 hD1
      clear hz1 hk1 hFc hKc hDc hPc
      generalize H1 = H at hP hS ⊢
      have hP : va_P D vwCl [(m3, .inl (cI, 16384, .inl gd)), (m4, .inl (cZ, 4096, .inl gm)), (m5, .inl (cI, 4096, .inl ge)), (m6, .inl (cI, 4096, .inl gv)), (m13, .inl (cI, 4096, .inl wt)), (m1, .inl (cI, 4, .inl gw)), (m2, .inl (cI, 4, .inl gh)), (h0, .inr (9, [.ref m1, .ref m2, .ref m3, .int ik, .int wy, .int op, .int cl, .int cx0, .int cx1, .int cy0, .int cy1, .int ds, .ref m4, .ref m5, .ref m6, .ref m7, .ref m8, .ref m9, .int pn, .ref m10, .ref m11, .ref m12, .ref m13]))] H := hP
      have hD : va_D A [(m3, .inl (cI, 16384, .inl gd)), (m4, .inl (cZ, 4096, .inl gm)), (m5, .inl (cI, 4096, .inl ge)), (m6, .inl (cI, 4096, .inl gv)), (m13, .inl (cI, 4096, .inl wt)), (m1, .inl (cI, 4, .inl gw)), (m2, .inl (cI, 4, .inl gh)), (h0, .inr (9, [.ref m1, .ref m2, .ref m3, .int ik, .int wy, .int op, .int cl, .int cx0, .int cx1, .int cy0, .int cy1, .int ds, .ref m4, .ref m5, .ref m6, .ref m7, .ref m8, .ref m9, .int pn, .ref m10, .ref m11, .ref m12, .ref m13]))] := hD
      refine lv_if_ne (tgt := 31) hx hb dX9_flood_26 (by decide) (fun c_8 => ?_) (fun c_8 => ?_)
      · skip
        have f_9 := bz1 hr_7 c_8
        refine lv_aload_n hx hb dX9_flood_31 rfl (lv_at hl 0 rfl) ?_
        refine lv_iload_n hx hb dX9_flood_32 rfl (lv_at hl 1 rfl) ?_
        refine lv_iload_n hx hb dX9_flood_33 rfl (lv_at hl 2 rfl) ?_
        refine lv_iload_n hx hb dX9_flood_34 rfl (lv_at hl 3 rfl) ?_
        refine lv_iload hx hb dX9_flood_35 (lv_at hl 4 rfl) ?_
        refine lv_iconst (v := 1) hx hb dX9_flood_37 (by decide) ?_
        have hPc := hP.sub (ws' := [(h0, .inr (9, [.ref m1, .ref m2, .ref m3, .int ik, .int wy, .int op, .int cl, .int cx0, .int cx1, .int cy0, .int cy1, .int ds, .ref m4, .ref m5, .ref m6, .ref m7, .ref m8, .ref m9, .int pn, .ref m10, .ref m11, .ref m12, .ref m13])), (m1, .inl (cI, 4, .inl gw)), (m2, .inl (cI, 4, .inl gh)), (m3, .inl (cI, 16384, .inl gd)), (m4, .inl (cZ, 4096, .inl gm)), (m13, .inl (cI, 4096, .inl wt))]) [7, 5, 6, 0, 1, 4] rfl
        have hDc := hD.sub (ws' := [(h0, .inr (9, [.ref m1, .ref m2, .ref m3, .int ik, .int wy, .int op, .int cl, .int cx0, .int cx1, .int cy0, .int cy1, .int ds, .ref m4, .ref m5, .ref m6, .ref m7, .ref m8, .ref m9, .int pn, .ref m10, .ref m11, .ref m12, .ref m13])), (m1, .inl (cI, 4, .inl gw)), (m2, .inl (cI, 4, .inl gh)), (m3, .inl (cI, 16384, .inl gd)), (m4, .inl (cZ, 4096, .inl gm)), (m13, .inl (cI, 4096, .inl wt))]) [7, 5, 6, 0, 1, 4] (by decide) rfl
        have hKc := hK.sub (tys' := [(cI, .int), (cZ, .boolean)]) [0, 1] rfl
        have hFc := va_free (wc := [(h0, .inr (9, [.ref m1, .ref m2, .ref m3, .int ik, .int wy, .int op, .int cl, .int cx0, .int cx1, .int cy0, .int cy1, .int ds, .ref m4, .ref m5, .ref m6, .ref m7, .ref m8, .ref m9, .int pn, .ref m10, .ref m11, .ref m12, .ref m13])), (m1, .inl (cI, 4, .inl gw)), (m2, .inl (cI, 4, .inl gh)), (m3, .inl (cI, 16384, .inl gd)), (m4, .inl (cZ, 4096, .inl gm)), (m13, .inl (cI, 4096, .inl wt))]) hD hS hA [7, 5, 6, 0, 1, 4] rfl
        refine va_callv (va_runV (As := [.int k, .int x, .int y, .int co, .int 1]) (rest := []) ⟨hx, hb, hml, hown, hts⟩ (k_X9_joins_e l D H.size h0 m1 m2 m3 m4 m5 m6 m7 m8 m9 m10 m11 m12 m13 ik wy op cl cx0 cx1 cy0 cy1 ds pn gw gh gd gm wt k x y co 1 cI cZ (by omega) hgw hgh hon hcx) (cwV 5 hts (gV bw_555 bw_549 bw_550 bw_391 bw_548) rfl rfl rfl (by decide +kernel) ⟨(by rw [hR]; exact Nat.le_of_ble_eq_true rfl), (by rw [hR]; exact Nat.le_of_ble_eq_true rfl)⟩) ⟨cP_blind, va_recv hKc hPc (ci := 9) (q0 := 0) rfl rfl, cP_at hPc hKc hDc hN⟩ rfl rfl hl.1 rfl (lv_room (Nat.le_of_ble_eq_true rfl)) dX9_flood_38 ⟨(by rw [hR]; exact Nat.le_of_ble_eq_true rfl), (by rw [hR]; exact Nat.le_of_ble_eq_true rfl)⟩) hS (fun q _ h => hFc q h) hFc (fun u9 t9 H1 locs ht hvm hr_10 hB hz1 hk1 hS => ?_)
        try dsimp only at hr_10
        obtain ⟨g_11, g_12, b_13, b_14, hP1, hK1, hD1⟩ := hB
        rw [ht] at hP1
        obtain ⟨hP, hD⟩ := va_join (wr := [(m5, .inl (cI, 4096, .inl ge)), (m6, .inl (cI, 4096, .inl gv))]) (w1 := [(h0, .inr (9, [.ref m1, .ref m2, .ref m3, .int ik, .int wy, .int op, .int cl, .int cx0, .int cx1, .int cy0, .int cy1, .int ds, .ref m4, .ref m5, .ref m6, .ref m7, .ref m8, .ref m9, .int pn, .ref m10, .ref m11, .ref m12, .ref m13])), (m1, .inl (cI, 4, .inl gw)), (m2, .inl (cI, 4, .inl gh)), (m3, .inl (cI, 16384, .inl gd)), (m4, .inl (cZ, 4096, .inl g_11)), (m13, .inl (cI, 4096, .inl g_12))]) hP hD [7, 5, 6, 0, 1, 4] [2, 3] rfl rfl (by decide) (by decide) hk1 hFc hP1 hD1
        clear hz1 hk1 hFc hKc hDc hPc
        generalize H1 = H at hP hS ⊢
        have hP : va_P D vwCl [(m5, .inl (cI, 4096, .inl ge)), (m6, .inl (cI, 4096, .inl gv)), (h0, .inr (9, [.ref m1, .ref m2, .ref m3, .int ik, .int wy, .int op, .int cl, .int cx0, .int cx1, .int cy0, .int cy1, .int ds, .ref m4, .ref m5, .ref m6, .ref m7, .ref m8, .ref m9, .int pn, .ref m10, .ref m11, .ref m12, .ref m13])), (m1, .inl (cI, 4, .inl gw)), (m2, .inl (cI, 4, .inl gh)), (m3, .inl (cI, 16384, .inl gd)), (m4, .inl (cZ, 4096, .inl g_11)), (m13, .inl (cI, 4096, .inl g_12))] H := hP
        have hD : va_D A [(m5, .inl (cI, 4096, .inl ge)), (m6, .inl (cI, 4096, .inl gv)), (h0, .inr (9, [.ref m1, .ref m2, .ref m3, .int ik, .int wy, .int op, .int cl, .int cx0, .int cx1, .int cy0, .int cy1, .int ds, .ref m4, .ref m5, .ref m6, .ref m7, .ref m8, .ref m9, .int pn, .ref m10, .ref m11, .ref m12, .ref m13])), (m1, .inl (cI, 4, .inl gw)), (m2, .inl (cI, 4, .inl gh)), (m3, .inl (cI, 16384, .inl gd)), (m4, .inl (cZ, 4096, .inl g_11)), (m13, .inl (cI, 4096, .inl g_12))] := hD
        refine lv_iconst (v := 0) hx hb dX9_flood_41 (by decide) ?_
        refine lv_istore (lv' := [(5, .int 0), (0, .ref h0), (1, .int k), (2, .int x), (3, .int y), (4, .int co)]) hx hb dX9_flood_42 hl (by decide) rfl (fun ls hl => ?_)
        have loop_15 : ∀ (n : Nat) (i : Nat) (x5 : Int32) (gb : Nat → Int32) (gc : Nat → Int32) (H : Heap) (locs : List Loc) (ls : Array Slot), (i ≤ 4096) → (4096 + 1 ≤ i + n) → (x5 = nI i) → (∀ j : Nat, j < i → gb j = op) → (∀ j : Nat, j < i → gc j = ik) → va_P D vwCl [(m5, .inl (cI, 4096, .inl gb)), (m6, .inl (cI, 4096, .inl gc)), (h0, .inr (9, [.ref m1, .ref m2, .ref m3, .int ik, .int wy, .int op, .int cl, .int cx0, .int cx1, .int cy0, .int cy1, .int ds, .ref m4, .ref m5, .ref m6, .ref m7, .ref m8, .ref m9, .int pn, .ref m10, .ref m11, .ref m12, .ref m13])), (m1, .inl (cI, 4, .inl gw)), (m2, .inl (cI, 4, .inl gh)), (m3, .inl (cI, 16384, .inl gd)), (m4, .inl (cZ, 4096, .inl g_11)), (m13, .inl (cI, 4096, .inl g_12))] H → va_D A [(m5, .inl (cI, 4096, .inl gb)), (m6, .inl (cI, 4096, .inl gc)), (h0, .inr (9, [.ref m1, .ref m2, .ref m3, .int ik, .int wy, .int op, .int cl, .int cx0, .int cx1, .int cy0, .int cy1, .int ds, .ref m4, .ref m5, .ref m6, .ref m7, .ref m8, .ref m9, .int pn, .ref m10, .ref m11, .ref m12, .ref m13])), (m1, .inl (cI, 4, .inl gw)), (m2, .inl (cI, 4, .inl gh)), (m3, .inl (cI, 16384, .inl gd)), (m4, .inl (cZ, 4096, .inl g_11)), (m13, .inl (cI, 4096, .inl g_12))] → va_S A s.heap H locs → lv_has ls 6 [(5, .int x5), (0, .ref h0), (1, .int k), (2, .int x), (3, .int y), (4, .int co)] → W p l e R s m ([.ref h0, .int k, .int x, .int y, .int co] : List Value).toArray below meth c H locs 0 0 Q (F0 m 44 ls []) := by
          intro n
          induction n with
          | zero =>
            intro i x5 gb gc H locs ls hi_i hm_i ex_i hb9 hc9 hP hD hS hl
            exact absurd (show False by omega) not_false
          | succ n ih_16 =>
            intro i x5 gb gc H locs ls hi_i hm_i ex_i hb9 hc9 hP hD hS hl
            have hx_i : x5.toInt = (i : Int) := by rw [ex_i]; exact nI_toInt (by omega)
            have hc_i : x5.toNatClampNeg = i := by rw [ex_i]; exact nI_clamp (by omega)
            refine lv_iload hx hb dX9_flood_44 (lv_at hl 0 rfl) ?_
            refine lv_sipush (v := 4096) hx hb dX9_flood_46 (by decide) ?_
            refine lv_icmp_ge (tgt := 80) hx hb dX9_flood_49 (by decide) (fun c_17 => ?_) (fun c_17 => ?_)
            · skip
              have f_18 : 4096 ≤ (i : Int) := f_le (by decide) hx_i c_17
              refine lv_aload_n hx hb dX9_flood_80 rfl (lv_at hl 1 rfl) ?_
              refine lv_iload_n hx hb dX9_flood_81 rfl (lv_at hl 2 rfl) ?_
              have hPc := hP.sub (ws' := [(h0, .inr (9, [.ref m1, .ref m2, .ref m3, .int ik, .int wy, .int op, .int cl, .int cx0, .int cx1, .int cy0, .int cy1, .int ds, .ref m4, .ref m5, .ref m6, .ref m7, .ref m8, .ref m9, .int pn, .ref m10, .ref m11, .ref m12, .ref m13])), (m3, .inl (cI, 16384, .inl gd)), (m4, .inl (cZ, 4096, .inl g_11)), (m5, .inl (cI, 4096, .inl gb)), (m6, .inl (cI, 4096, .inl gc))]) [2, 5, 6, 0, 1] rfl
              have hDc := hD.sub (ws' := [(h0, .inr (9, [.ref m1, .ref m2, .ref m3, .int ik, .int wy, .int op, .int cl, .int cx0, .int cx1, .int cy0, .int cy1, .int ds, .ref m4, .ref m5, .ref m6, .ref m7, .ref m8, .ref m9, .int pn, .ref m10, .ref m11, .ref m12, .ref m13])), (m3, .inl (cI, 16384, .inl gd)), (m4, .inl (cZ, 4096, .inl g_11)), (m5, .inl (cI, 4096, .inl gb)), (m6, .inl (cI, 4096, .inl gc))]) [2, 5, 6, 0, 1] (by decide) rfl
              have hKc := hK.sub (tys' := [(cI, .int), (cZ, .boolean)]) [0, 1] rfl
              have hFc := va_free (wc := [(h0, .inr (9, [.ref m1, .ref m2, .ref m3, .int ik, .int wy, .int op, .int cl, .int cx0, .int cx1, .int cy0, .int cy1, .int ds, .ref m4, .ref m5, .ref m6, .ref m7, .ref m8, .ref m9, .int pn, .ref m10, .ref m11, .ref m12, .ref m13])), (m3, .inl (cI, 16384, .inl gd)), (m4, .inl (cZ, 4096, .inl g_11)), (m5, .inl (cI, 4096, .inl gb)), (m6, .inl (cI, 4096, .inl gc))]) hD hS hA [2, 5, 6, 0, 1] rfl
              refine va_calli (va_runV (As := [.int k]) (rest := []) ⟨hx, hb, hml, hown, hts⟩ (k_X9_lays l D H.size h0 m1 m2 m3 m4 m5 m6 m7 m8 m9 m10 m11 m12 m13 ik wy op cl cx0 cx1 cy0 cy1 ds pn gd g_11 gb gc k cI cZ (by omega) (by first | assumption | omega | decide)) (cwV 1 hts (gV bw_496 bw_462 bw_463 bw_391 bw_461) rfl rfl rfl (by decide +kernel) ⟨(by rw [hR]; exact Nat.le_of_ble_eq_true rfl), (by rw [hR]; exact Nat.le_of_ble_eq_true rfl)⟩) ⟨cP_blind, va_recv hKc hPc (ci := 9) (q0 := 0) rfl rfl, cP_at hPc hKc hDc hN⟩ rfl rfl hl.1 rfl (lv_room (Nat.le_of_ble_eq_true rfl)) dX9_flood_82 ⟨(by rw [hR]; exact Nat.le_of_ble_eq_true rfl), (by rw [hR]; exact Nat.le_of_ble_eq_true rfl)⟩) hS (fun q _ h => hFc q h) hFc (fun r_19 u9 t9 H1 locs ht hvm hr_19 hB hz1 hk1 hS => ?_)
              try dsimp only at hr_19
              obtain ⟨hP1, hK1, hD1⟩ := hB
              rw [ht] at hP1
              obtain ⟨hP, hD⟩ := va_join (wr := [(m1, .inl (cI, 4, .inl gw)), (m2, .inl (cI, 4, .inl gh)), (m13, .inl (cI, 4096, .inl g_12))]) (w1 := [(h0, .inr (9, [.ref m1, .ref m2, .ref m3, .int ik, .int wy, .int op, .int cl, .int cx0, .int cx1, .int cy0, .int cy1, .int ds, .ref m4, .ref m5, .ref m6, .ref m7, .ref m8, .ref m9, .int pn, .ref m10, .ref m11, .ref m12, .ref m13])), (m3, .inl (cI, 16384, .inl (lysN wy gd g_11 gb gc k.toNatClampNeg 4096))), (m4, .inl (cZ, 4096, .inl g_11)), (m5, .inl (cI, 4096, .inl gb)), (m6, .inl (cI, 4096, .inl gc))]) hP hD [2, 5, 6, 0, 1] [3, 4, 7] rfl rfl (by decide) (by decide) hk1 hFc hP1 hD1
              clear hz1 hk1 hFc hKc hDc hPc
              generalize H1 = H at hP hS ⊢
              have hP : va_P D vwCl [(m1, .inl (cI, 4, .inl gw)), (m2, .inl (cI, 4, .inl gh)), (m13, .inl (cI, 4096, .inl g_12)), (h0, .inr (9, [.ref m1, .ref m2, .ref m3, .int ik, .int wy, .int op, .int cl, .int cx0, .int cx1, .int cy0, .int cy1, .int ds, .ref m4, .ref m5, .ref m6, .ref m7, .ref m8, .ref m9, .int pn, .ref m10, .ref m11, .ref m12, .ref m13])), (m3, .inl (cI, 16384, .inl (lysN wy gd g_11 gb gc k.toNatClampNeg 4096))), (m4, .inl (cZ, 4096, .inl g_11)), (m5, .inl (cI, 4096, .inl gb)), (m6, .inl (cI, 4096, .inl gc))] H := hP
              have hD : va_D A [(m1, .inl (cI, 4, .inl gw)), (m2, .inl (cI, 4, .inl gh)), (m13, .inl (cI, 4096, .inl g_12)), (h0, .inr (9, [.ref m1, .ref m2, .ref m3, .int ik, .int wy, .int op, .int cl, .int cx0, .int cx1, .int cy0, .int cy1, .int ds, .ref m4, .ref m5, .ref m6, .ref m7, .ref m8, .ref m9, .int pn, .ref m10, .ref m11, .ref m12, .ref m13])), (m3, .inl (cI, 16384, .inl (lysN wy gd g_11 gb gc k.toNatClampNeg 4096))), (m4, .inl (cZ, 4096, .inl g_11)), (m5, .inl (cI, 4096, .inl gb)), (m6, .inl (cI, 4096, .inl gc))] := hD
              have hLY : lysN wy gd (spS (opnJ (gw k.toNatClampNeg) (gh k.toNatClampNeg) cl cx0 cx1 cy0 cy1 1) (fun t => gd (4096 * k.toNatClampNeg + t)) x y co).1 (fun _ => op) (fun _ => ik) k.toNatClampNeg 4096 = lysN wy gd g_11 gb gc k.toNatClampNeg 4096 := lys_eq (fun j hj => ⟨(b_13 j hj).symm, (hb9 j (by omega)).symm, (hc9 j (by omega)).symm⟩)
              have hP : va_P D vwCl [(m1, .inl (cI, 4, .inl gw)), (m2, .inl (cI, 4, .inl gh)), (m13, .inl (cI, 4096, .inl g_12)), (h0, .inr (9, [.ref m1, .ref m2, .ref m3, .int ik, .int wy, .int op, .int cl, .int cx0, .int cx1, .int cy0, .int cy1, .int ds, .ref m4, .ref m5, .ref m6, .ref m7, .ref m8, .ref m9, .int pn, .ref m10, .ref m11, .ref m12, .ref m13])), (m3, .inl (cI, 16384, .inl (lysN wy gd (spS (opnJ (gw k.toNatClampNeg) (gh k.toNatClampNeg) cl cx0 cx1 cy0 cy1 1) (fun t => gd (4096 * k.toNatClampNeg + t)) x y co).1 (fun _ => op) (fun _ => ik) k.toNatClampNeg 4096))), (m4, .inl (cZ, 4096, .inl g_11)), (m5, .inl (cI, 4096, .inl gb)), (m6, .inl (cI, 4096, .inl gc))] H := by rw [hLY]; exact hP
              have hD : va_D A [(m1, .inl (cI, 4, .inl gw)), (m2, .inl (cI, 4, .inl gh)), (m13, .inl (cI, 4096, .inl g_12)), (h0, .inr (9, [.ref m1, .ref m2, .ref m3, .int ik, .int wy, .int op, .int cl, .int cx0, .int cx1, .int cy0, .int cy1, .int ds, .ref m4, .ref m5, .ref m6, .ref m7, .ref m8, .ref m9, .int pn, .ref m10, .ref m11, .ref m12, .ref m13])), (m3, .inl (cI, 16384, .inl (lysN wy gd (spS (opnJ (gw k.toNatClampNeg) (gh k.toNatClampNeg) cl cx0 cx1 cy0 cy1 1) (fun t => gd (4096 * k.toNatClampNeg + t)) x y co).1 (fun _ => op) (fun _ => ik) k.toNatClampNeg 4096))), (m4, .inl (cZ, 4096, .inl g_11)), (m5, .inl (cI, 4096, .inl gb)), (m6, .inl (cI, 4096, .inl gc))] := by rw [hLY]; exact hD
              have hP9 := hP.sub (ws' := [(h0, .inr (9, [.ref m1, .ref m2, .ref m3, .int ik, .int wy, .int op, .int cl, .int cx0, .int cx1, .int cy0, .int cy1, .int ds, .ref m4, .ref m5, .ref m6, .ref m7, .ref m8, .ref m9, .int pn, .ref m10, .ref m11, .ref m12, .ref m13])), (m1, .inl (cI, 4, .inl gw)), (m2, .inl (cI, 4, .inl gh)), (m3, .inl (cI, 16384, .inl (lysN wy gd (spS (opnJ (gw k.toNatClampNeg) (gh k.toNatClampNeg) cl cx0 cx1 cy0 cy1 1) (fun t => gd (4096 * k.toNatClampNeg + t)) x y co).1 (fun _ => op) (fun _ => ik) k.toNatClampNeg 4096))), (m4, .inl (cZ, 4096, .inl g_11)), (m5, .inl (cI, 4096, .inl gb)), (m6, .inl (cI, 4096, .inl gc)), (m13, .inl (cI, 4096, .inl g_12))]) [3, 0, 1, 4, 5, 6, 7, 2] rfl
              have hD9 := hD.sub (ws' := [(h0, .inr (9, [.ref m1, .ref m2, .ref m3, .int ik, .int wy, .int op, .int cl, .int cx0, .int cx1, .int cy0, .int cy1, .int ds, .ref m4, .ref m5, .ref m6, .ref m7, .ref m8, .ref m9, .int pn, .ref m10, .ref m11, .ref m12, .ref m13])), (m1, .inl (cI, 4, .inl gw)), (m2, .inl (cI, 4, .inl gh)), (m3, .inl (cI, 16384, .inl (lysN wy gd (spS (opnJ (gw k.toNatClampNeg) (gh k.toNatClampNeg) cl cx0 cx1 cy0 cy1 1) (fun t => gd (4096 * k.toNatClampNeg + t)) x y co).1 (fun _ => op) (fun _ => ik) k.toNatClampNeg 4096))), (m4, .inl (cZ, 4096, .inl g_11)), (m5, .inl (cI, 4096, .inl gb)), (m6, .inl (cI, 4096, .inl gc)), (m13, .inl (cI, 4096, .inl g_12))]) [3, 0, 1, 4, 5, 6, 7, 2] (by decide) rfl
              have hK9 := hK.sub (tys' := [(cI, .int), (cZ, .boolean)]) [0, 1] rfl
              refine hQ _ _ _ _ _ ?_
              exact W.iret (v := r_19) hx hb hr (fun t ht hW => ⟨⟨r_19, (), rfl, (hr_19.trans (congrArg nI b_14)), ⟨g_11, gb, gc, g_12, by rw [ht]; exact hP9, va_K.moved hW.alike hK9, hD9⟩⟩, hS.F ht⟩) hS.2.2 dX9_flood_85
            · skip
              have f_18 : ¬ (4096 ≤ (i : Int)) := fn_le (by decide) hx_i c_17
              refine lv_aload_n hx hb dX9_flood_52 rfl (lv_at hl 1 rfl) ?_
              refine va_get (D := D) (ci := 9) (v := .ref m5) (C := RX9) (T := TX9) (N := 23) hx hb hts hi_X9 hown hK hP 2 rfl rfl 13 (by decide) (hts _ bw_405) (fun _ h9 => h9) rfl dX9_flood_53 ?_
              refine lv_iload hx hb dX9_flood_56 (lv_at hl 0 rfl) ?_
              refine lv_aload_n hx hb dX9_flood_58 rfl (lv_at hl 1 rfl) ?_
              refine va_get (D := D) (ci := 9) (v := .int op) (C := RX9) (T := TX9) (N := 23) hx hb hts hi_X9 hown hK hP 2 rfl rfl 5 (by decide) (hts _ bw_401) (fun _ h9 => h9) rfl dX9_flood_59 ?_
              refine va_iast hx hb hK hP hD hS 0 0 rfl rfl (vp_in_iff.mpr ⟨by omega, by omega⟩) dX9_flood_62 (fun H locs hP hD hS => ?_)
              have hP : va_P D vwCl [(m5, .inl (cI, 4096, .inl (upd gb x5.toNatClampNeg op))), (m6, .inl (cI, 4096, .inl gc)), (h0, .inr (9, [.ref m1, .ref m2, .ref m3, .int ik, .int wy, .int op, .int cl, .int cx0, .int cx1, .int cy0, .int cy1, .int ds, .ref m4, .ref m5, .ref m6, .ref m7, .ref m8, .ref m9, .int pn, .ref m10, .ref m11, .ref m12, .ref m13])), (m1, .inl (cI, 4, .inl gw)), (m2, .inl (cI, 4, .inl gh)), (m3, .inl (cI, 16384, .inl gd)), (m4, .inl (cZ, 4096, .inl g_11)), (m13, .inl (cI, 4096, .inl g_12))] H := hP
              have hD : va_D A [(m5, .inl (cI, 4096, .inl (upd gb x5.toNatClampNeg op))), (m6, .inl (cI, 4096, .inl gc)), (h0, .inr (9, [.ref m1, .ref m2, .ref m3, .int ik, .int wy, .int op, .int cl, .int cx0, .int cx1, .int cy0, .int cy1, .int ds, .ref m4, .ref m5, .ref m6, .ref m7, .ref m8, .ref m9, .int pn, .ref m10, .ref m11, .ref m12, .ref m13])), (m1, .inl (cI, 4, .inl gw)), (m2, .inl (cI, 4, .inl gh)), (m3, .inl (cI, 16384, .inl gd)), (m4, .inl (cZ, 4096, .inl g_11)), (m13, .inl (cI, 4096, .inl g_12))] := hD
              generalize eg_20 : upd gb x5.toNatClampNeg op = g_20 at hP hD
              have hP : va_P D vwCl [(m5, .inl (cI, 4096, .inl g_20)), (m6, .inl (cI, 4096, .inl gc)), (h0, .inr (9, [.ref m1, .ref m2, .ref m3, .int ik, .int wy, .int op, .int cl, .int cx0, .int cx1, .int cy0, .int cy1, .int ds, .ref m4, .ref m5, .ref m6, .ref m7, .ref m8, .ref m9, .int pn, .ref m10, .ref m11, .ref m12, .ref m13])), (m1, .inl (cI, 4, .inl gw)), (m2, .inl (cI, 4, .inl gh)), (m3, .inl (cI, 16384, .inl gd)), (m4, .inl (cZ, 4096, .inl g_11)), (m13, .inl (cI, 4096, .inl g_12))] H := hP
              have hD : va_D A [(m5, .inl (cI, 4096, .inl g_20)), (m6, .inl (cI, 4096, .inl gc)), (h0, .inr (9, [.ref m1, .ref m2, .ref m3, .int ik, .int wy, .int op, .int cl, .int cx0, .int cx1, .int cy0, .int cy1, .int ds, .ref m4, .ref m5, .ref m6, .ref m7, .ref m8, .ref m9, .int pn, .ref m10, .ref m11, .ref m12, .ref m13])), (m1, .inl (cI, 4, .inl gw)), (m2, .inl (cI, 4, .inl gh)), (m3, .inl (cI, 16384, .inl gd)), (m4, .inl (cZ, 4096, .inl g_11)), (m13, .inl (cI, 4096, .inl g_12))] := hD
              refine lv_aload_n hx hb dX9_flood_63 rfl (lv_at hl 1 rfl) ?_
              refine va_get (D := D) (ci := 9) (v := .ref m6) (C := RX9) (T := TX9) (N := 23) hx hb hts hi_X9 hown hK hP 2 rfl rfl 14 (by decide) (hts _ bw_406) (fun _ h9 => h9) rfl dX9_flood_64 ?_
              refine lv_iload hx hb dX9_flood_67 (lv_at hl 0 rfl) ?_
              refine lv_aload_n hx hb dX9_flood_69 rfl (lv_at hl 1 rfl) ?_
              refine va_get (D := D) (ci := 9) (v := .int ik) (C := RX9) (T := TX9) (N := 23) hx hb hts hi_X9 hown hK hP 2 rfl rfl 3 (by decide) (hts _ bw_399) (fun _ h9 => h9) rfl dX9_flood_70 ?_
              refine va_iast hx hb hK hP hD hS 1 0 rfl rfl (vp_in_iff.mpr ⟨by omega, by omega⟩) dX9_flood_73 (fun H locs hP hD hS => ?_)
              have hP : va_P D vwCl [(m5, .inl (cI, 4096, .inl g_20)), (m6, .inl (cI, 4096, .inl (upd gc x5.toNatClampNeg ik))), (h0, .inr (9, [.ref m1, .ref m2, .ref m3, .int ik, .int wy, .int op, .int cl, .int cx0, .int cx1, .int cy0, .int cy1, .int ds, .ref m4, .ref m5, .ref m6, .ref m7, .ref m8, .ref m9, .int pn, .ref m10, .ref m11, .ref m12, .ref m13])), (m1, .inl (cI, 4, .inl gw)), (m2, .inl (cI, 4, .inl gh)), (m3, .inl (cI, 16384, .inl gd)), (m4, .inl (cZ, 4096, .inl g_11)), (m13, .inl (cI, 4096, .inl g_12))] H := hP
              have hD : va_D A [(m5, .inl (cI, 4096, .inl g_20)), (m6, .inl (cI, 4096, .inl (upd gc x5.toNatClampNeg ik))), (h0, .inr (9, [.ref m1, .ref m2, .ref m3, .int ik, .int wy, .int op, .int cl, .int cx0, .int cx1, .int cy0, .int cy1, .int ds, .ref m4, .ref m5, .ref m6, .ref m7, .ref m8, .ref m9, .int pn, .ref m10, .ref m11, .ref m12, .ref m13])), (m1, .inl (cI, 4, .inl gw)), (m2, .inl (cI, 4, .inl gh)), (m3, .inl (cI, 16384, .inl gd)), (m4, .inl (cZ, 4096, .inl g_11)), (m13, .inl (cI, 4096, .inl g_12))] := hD
              generalize eg_21 : upd gc x5.toNatClampNeg ik = g_21 at hP hD
              have hP : va_P D vwCl [(m5, .inl (cI, 4096, .inl g_20)), (m6, .inl (cI, 4096, .inl g_21)), (h0, .inr (9, [.ref m1, .ref m2, .ref m3, .int ik, .int wy, .int op, .int cl, .int cx0, .int cx1, .int cy0, .int cy1, .int ds, .ref m4, .ref m5, .ref m6, .ref m7, .ref m8, .ref m9, .int pn, .ref m10, .ref m11, .ref m12, .ref m13])), (m1, .inl (cI, 4, .inl gw)), (m2, .inl (cI, 4, .inl gh)), (m3, .inl (cI, 16384, .inl gd)), (m4, .inl (cZ, 4096, .inl g_11)), (m13, .inl (cI, 4096, .inl g_12))] H := hP
              have hD : va_D A [(m5, .inl (cI, 4096, .inl g_20)), (m6, .inl (cI, 4096, .inl g_21)), (h0, .inr (9, [.ref m1, .ref m2, .ref m3, .int ik, .int wy, .int op, .int cl, .int cx0, .int cx1, .int cy0, .int cy1, .int ds, .ref m4, .ref m5, .ref m6, .ref m7, .ref m8, .ref m9, .int pn, .ref m10, .ref m11, .ref m12, .ref m13])), (m1, .inl (cI, 4, .inl gw)), (m2, .inl (cI, 4, .inl gh)), (m3, .inl (cI, 16384, .inl gd)), (m4, .inl (cZ, 4096, .inl g_11)), (m13, .inl (cI, 4096, .inl g_12))] := hD
              obtain ⟨y_22, ey_22⟩ : ∃ y : Int32, y = x5 + 1 := ⟨_, rfl⟩
              refine lv_iinc (v := y_22) (lv' := [(5, .int y_22), (0, .ref h0), (1, .int k), (2, .int x), (3, .int y), (4, .int co)]) hx hb dX9_flood_74 hl (k := 0) rfl (by rw [ey_22]; rfl) (by decide) rfl (fun ls hl => ?_)
              refine lv_goto (tgt := 44) hx hb dX9_flood_77 (by decide) ?_
              exact ih_16 (i + 1) y_22 g_20 g_21 _ _ _ (by omega) (by omega) (by rw [ey_22, ex_i]; exact nI_1 i) (by rw [← eg_20]; exact fill_up hb9 hc_i) (by rw [← eg_21]; exact fill_up hc9 hc_i) (hP.sub (ws' := [(m5, .inl (cI, 4096, .inl g_20)), (m6, .inl (cI, 4096, .inl g_21)), (h0, .inr (9, [.ref m1, .ref m2, .ref m3, .int ik, .int wy, .int op, .int cl, .int cx0, .int cx1, .int cy0, .int cy1, .int ds, .ref m4, .ref m5, .ref m6, .ref m7, .ref m8, .ref m9, .int pn, .ref m10, .ref m11, .ref m12, .ref m13])), (m1, .inl (cI, 4, .inl gw)), (m2, .inl (cI, 4, .inl gh)), (m3, .inl (cI, 16384, .inl gd)), (m4, .inl (cZ, 4096, .inl g_11)), (m13, .inl (cI, 4096, .inl g_12))]) [0, 1, 2, 3, 4, 5, 6, 7] rfl) (hD.sub (ws' := [(m5, .inl (cI, 4096, .inl g_20)), (m6, .inl (cI, 4096, .inl g_21)), (h0, .inr (9, [.ref m1, .ref m2, .ref m3, .int ik, .int wy, .int op, .int cl, .int cx0, .int cx1, .int cy0, .int cy1, .int ds, .ref m4, .ref m5, .ref m6, .ref m7, .ref m8, .ref m9, .int pn, .ref m10, .ref m11, .ref m12, .ref m13])), (m1, .inl (cI, 4, .inl gw)), (m2, .inl (cI, 4, .inl gh)), (m3, .inl (cI, 16384, .inl gd)), (m4, .inl (cZ, 4096, .inl g_11)), (m13, .inl (cI, 4096, .inl g_12))]) [0, 1, 2, 3, 4, 5, 6, 7] (by decide) rfl) hS (lv_sub hl [0, 1, 2, 3, 4, 5] rfl)
        exact loop_15 (4096 + 1) 0 0 ge gv _ _ _ (by omega) (by omega) nI_0.symm (fun j hj => absurd hj (by omega)) (fun j hj => absurd hj (by omega)) hP hD hS (lv_sub hl [0, 1, 2, 3, 4, 5] rfl)
      · skip
        have f_9 := bz0 hr_7 c_8
        exact False.elim (by omega)
    · skip
      have f_6 := bz0 hr_4 c_5
      exact False.elim (by omega)

set_option maxHeartbeats 4000000 in
set_option maxRecDepth 100000 in
theorem k_X9_flood_ce (l : Launch) (D : va_G) (sz : Nat) (h0 m1 m2 m3 m4 m5 m6 m7 m8 m9 m10 m11 m12 m13 : Nat) (ik wy op cl cx0 cx1 cy0 cy1 ds pn : Int32) (gw : Nat → Int32) (gh : Nat → Int32) (k x y co : Int32) (cI : ClassId) (hk : 0 ≤ k.toInt ∧ k.toInt ≤ 3) (hgp : 0 < (gw k.toNatClampNeg).toInt) (hon : 0 ≤ x.toInt ∧ x.toInt < (gw k.toNatClampNeg).toInt ∧ 0 ≤ y.toInt ∧ y.toInt < (gh k.toNatClampNeg).toInt) (hcl : ¬ (cl.toInt = 0 ∨ (cx0.toInt ≤ x.toInt ∧ x.toInt ≤ cx1.toInt ∧ cy0.toInt ≤ y.toInt ∧ y.toInt ≤ cy1.toInt))) : Met l yX9_flood (wB yX9_flood cX9_flood 6 (some .int)) ({ frames := 1, cells := 0, slots := 0, locals := 23 }) (cP D [(h0, .inr (9, [.ref m1, .ref m2, .ref m3, .int ik, .int wy, .int op, .int cl, .int cx0, .int cx1, .int cy0, .int cy1, .int ds, .ref m4, .ref m5, .ref m6, .ref m7, .ref m8, .ref m9, .int pn, .ref m10, .ref m11, .ref m12, .ref m13])), (m1, .inl (cI, 4, .inl gw)), (m2, .inl (cI, 4, .inl gh))] [(cI, .int)] sz [.ref h0, .int k, .int x, .int y, .int co]) (va_Qi (fun (r : Int32) (_ : Unit) => r = 0) (fun (_ : Unit) (t : State) => cB D (va_A [(h0, .inr (9, [.ref m1, .ref m2, .ref m3, .int ik, .int wy, .int op, .int cl, .int cx0, .int cx1, .int cy0, .int cy1, .int ds, .ref m4, .ref m5, .ref m6, .ref m7, .ref m8, .ref m9, .int pn, .ref m10, .ref m11, .ref m12, .ref m13])), (m1, .inl (cI, 4, .inl gw)), (m2, .inl (cI, 4, .inl gh))] sz) [(h0, .inr (9, [.ref m1, .ref m2, .ref m3, .int ik, .int wy, .int op, .int cl, .int cx0, .int cx1, .int cy0, .int cy1, .int ds, .ref m4, .ref m5, .ref m6, .ref m7, .ref m8, .ref m9, .int pn, .ref m10, .ref m11, .ref m12, .ref m13])), (m1, .inl (cI, 4, .inl gw)), (m2, .inl (cI, 4, .inl gh))] [(cI, .int)] t) (va_A [(h0, .inr (9, [.ref m1, .ref m2, .ref m3, .int ik, .int wy, .int op, .int cl, .int cx0, .int cx1, .int cy0, .int cy1, .int ds, .ref m4, .ref m5, .ref m6, .ref m7, .ref m8, .ref m9, .int pn, .ref m10, .ref m11, .ref m12, .ref m13])), (m1, .inl (cI, 4, .inl gw)), (m2, .inl (cI, 4, .inl gh))] sz)) 0 0 (va_A [(h0, .inr (9, [.ref m1, .ref m2, .ref m3, .int ik, .int wy, .int op, .int cl, .int cx0, .int cx1, .int cy0, .int cy1, .int ds, .ref m4, .ref m5, .ref m6, .ref m7, .ref m8, .ref m9, .int pn, .ref m10, .ref m11, .ref m12, .ref m13])), (m1, .inl (cI, 4, .inl gw)), (m2, .inl (cI, 4, .inl gh))] sz) := by
  refine Met.ofW (cc := cX9_flood) (maxL := 6) (ret := (some .int)) (by decide) rfl ?_
  intro p e s m args below meth c s₁ B hml hv
  obtain ⟨rfl, hsz, hP, hK, hD0, hN⟩ := hv
  have hx := B.exec
  have hb := B.bytes
  have hr := B.returns
  have hts0 := atoms_spec (ws := (wB yX9_flood cX9_flood 6 (some .int))) B.pre
  have hts : ∀ w ∈ bigW, w.before _ s = true := fun w h => hts0 w (List.mem_cons_of_mem _ h)
  have hown : s.vm.findClass RX9 = some m.cls := findClass_of_methodNamed B.named
  have hlocks := B.notSynchronized
  subst hsz
  have hD := hD0.self (sz := s.heap.size)
  generalize hAe : va_A [(h0, .inr (9, [.ref m1, .ref m2, .ref m3, .int ik, .int wy, .int op, .int cl, .int cx0, .int cx1, .int cy0, .int cy1, .int ds, .ref m4, .ref m5, .ref m6, .ref m7, .ref m8, .ref m9, .int pn, .ref m10, .ref m11, .ref m12, .ref m13])), (m1, .inl (cI, 4, .inl gw)), (m2, .inl (cI, 4, .inl gh))] s.heap.size = A at hD ⊢
  have hA : ∀ q : Nat, s.heap.size ≤ q → A q := fun q h => by rw [← hAe]; exact Or.inr h
  have hS : va_S A s.heap s.heap [] := va_S.rf
  have hP : va_P D vwCl [(h0, .inr (9, [.ref m1, .ref m2, .ref m3, .int ik, .int wy, .int op, .int cl, .int cx0, .int cx1, .int cy0, .int cy1, .int ds, .ref m4, .ref m5, .ref m6, .ref m7, .ref m8, .ref m9, .int pn, .ref m10, .ref m11, .ref m12, .ref m13])), (m1, .inl (cI, 4, .inl gw)), (m2, .inl (cI, 4, .inl gh))] s.heap := hP
  have hl := lv_entry ([.ref h0, .int k, .int x, .int y, .int co]) (n := 6) (Nat.le_of_ble_eq_true rfl)
  rw [lg_entry_eq]
  generalize (lg_sl ([.ref h0, .int k, .int x, .int y, .int co]) ++ List.replicate (6 - (lg_sl ([.ref h0, .int k, .int x, .int y, .int co])).length) Slot.unset).toArray = ls at hl ⊢
  have hl : lv_has ls 6 [(0, .ref h0), (1, .int k), (2, .int x), (3, .int y), (4, .int co)] := hl
  clear hts0 hD0 hAe
  refine my_abs (fun R Q hR hQ => ?_)
  refine lv_aload_n hx hb dX9_flood_0 rfl (lv_at hl 0 rfl) ?_
  refine lv_iload_n hx hb dX9_flood_1 rfl (lv_at hl 1 rfl) ?_
  have hPc := hP.sub (ws' := [(h0, .inr (9, [.ref m1, .ref m2, .ref m3, .int ik, .int wy, .int op, .int cl, .int cx0, .int cx1, .int cy0, .int cy1, .int ds, .ref m4, .ref m5, .ref m6, .ref m7, .ref m8, .ref m9, .int pn, .ref m10, .ref m11, .ref m12, .ref m13])), (m1, .inl (cI, 4, .inl gw))]) [0, 1] rfl
  have hDc := hD.sub (ws' := [(h0, .inr (9, [.ref m1, .ref m2, .ref m3, .int ik, .int wy, .int op, .int cl, .int cx0, .int cx1, .int cy0, .int cy1, .int ds, .ref m4, .ref m5, .ref m6, .ref m7, .ref m8, .ref m9, .int pn, .ref m10, .ref m11, .ref m12, .ref m13])), (m1, .inl (cI, 4, .inl gw))]) [0, 1] (by decide) rfl
  have hKc := hK.sub (tys' := [(cI, .int)]) [0] rfl
  have hFc := va_free (wc := [(h0, .inr (9, [.ref m1, .ref m2, .ref m3, .int ik, .int wy, .int op, .int cl, .int cx0, .int cx1, .int cy0, .int cy1, .int ds, .ref m4, .ref m5, .ref m6, .ref m7, .ref m8, .ref m9, .int pn, .ref m10, .ref m11, .ref m12, .ref m13])), (m1, .inl (cI, 4, .inl gw))]) hD hS hA [0, 1] rfl
  refine va_calli (va_runV (As := [.int k]) (rest := []) ⟨hx, hb, hml, hown, hts⟩ (k_X9_isSheet l D s.heap.size h0 m1 m2 m3 m4 m5 m6 m7 m8 m9 m10 m11 m12 m13 ik wy op cl cx0 cx1 cy0 cy1 ds pn gw k cI) (cwV 1 hts (gV bw_490 bw_415 bw_416 bw_391 bw_414) rfl rfl rfl (by decide +kernel) ⟨(by rw [hR]; exact Nat.le_of_ble_eq_true rfl), (by rw [hR]; exact Nat.le_of_ble_eq_true rfl)⟩) ⟨cP_blind, va_recv hKc hPc (ci := 9) (q0 := 0) rfl rfl, cP_at hPc hKc hDc hN⟩ rfl rfl hl.1 rfl (lv_room (Nat.le_of_ble_eq_true rfl)) dX9_flood_2 ⟨(by rw [hR]; exact Nat.le_of_ble_eq_true rfl), (by rw [hR]; exact Nat.le_of_ble_eq_true rfl)⟩) hS (fun q _ h => hFc q h) hFc (fun r_1 u9 t9 H1 locs ht hvm hr_1 hB hz1 hk1 hS => ?_)
  try dsimp only at hr_1
  obtain ⟨hP1, hK1, hD1⟩ := hB
  rw [ht] at hP1
  obtain ⟨hP, hD⟩ := va_join (wr := [(m2, .inl (cI, 4, .inl gh))]) (w1 := [(h0, .inr (9, [.ref m1, .ref m2, .ref m3, .int ik, .int wy, .int op, .int cl, .int cx0, .int cx1, .int cy0, .int cy1, .int ds, .ref m4, .ref m5, .ref m6, .ref m7, .ref m8, .ref m9, .int pn, .ref m10, .ref m11, .ref m12, .ref m13])), (m1, .inl (cI, 4, .inl gw))]) hP hD [0, 1] [2] rfl rfl (by decide) (by decide) hk1 hFc hP1 hD1
  clear hz1 hk1 hFc hKc hDc hPc
  generalize H1 = H at hP hS ⊢
  have hP : va_P D vwCl [(m2, .inl (cI, 4, .inl gh)), (h0, .inr (9, [.ref m1, .ref m2, .ref m3, .int ik, .int wy, .int op, .int cl, .int cx0, .int cx1, .int cy0, .int cy1, .int ds, .ref m4, .ref m5, .ref m6, .ref m7, .ref m8, .ref m9, .int pn, .ref m10, .ref m11, .ref m12, .ref m13])), (m1, .inl (cI, 4, .inl gw))] H := hP
  have hD : va_D A [(m2, .inl (cI, 4, .inl gh)), (h0, .inr (9, [.ref m1, .ref m2, .ref m3, .int ik, .int wy, .int op, .int cl, .int cx0, .int cx1, .int cy0, .int cy1, .int ds, .ref m4, .ref m5, .ref m6, .ref m7, .ref m8, .ref m9, .int pn, .ref m10, .ref m11, .ref m12, .ref m13])), (m1, .inl (cI, 4, .inl gw))] := hD
  refine lv_if_eq (tgt := 18) hx hb dX9_flood_5 (by decide) (fun c_2 => ?_) (fun c_2 => ?_)
  · skip
    have f_3 := bz0 hr_1 c_2
    exact False.elim (by omega)
  · skip
    have f_3 := bz1 hr_1 c_2
    refine lv_aload_n hx hb dX9_flood_8 rfl (lv_at hl 0 rfl) ?_
    refine lv_iload_n hx hb dX9_flood_9 rfl (lv_at hl 1 rfl) ?_
    refine lv_iload_n hx hb dX9_flood_10 rfl (lv_at hl 2 rfl) ?_
    refine lv_iload_n hx hb dX9_flood_11 rfl (lv_at hl 3 rfl) ?_
    have hPc := hP.sub (ws' := [(h0, .inr (9, [.ref m1, .ref m2, .ref m3, .int ik, .int wy, .int op, .int cl, .int cx0, .int cx1, .int cy0, .int cy1, .int ds, .ref m4, .ref m5, .ref m6, .ref m7, .ref m8, .ref m9, .int pn, .ref m10, .ref m11, .ref m12, .ref m13])), (m1, .inl (cI, 4, .inl gw)), (m2, .inl (cI, 4, .inl gh))]) [1, 2, 0] rfl
    have hDc := hD.sub (ws' := [(h0, .inr (9, [.ref m1, .ref m2, .ref m3, .int ik, .int wy, .int op, .int cl, .int cx0, .int cx1, .int cy0, .int cy1, .int ds, .ref m4, .ref m5, .ref m6, .ref m7, .ref m8, .ref m9, .int pn, .ref m10, .ref m11, .ref m12, .ref m13])), (m1, .inl (cI, 4, .inl gw)), (m2, .inl (cI, 4, .inl gh))]) [1, 2, 0] (by decide) rfl
    have hKc := hK.sub (tys' := [(cI, .int)]) [0] rfl
    have hFc := va_free (wc := [(h0, .inr (9, [.ref m1, .ref m2, .ref m3, .int ik, .int wy, .int op, .int cl, .int cx0, .int cx1, .int cy0, .int cy1, .int ds, .ref m4, .ref m5, .ref m6, .ref m7, .ref m8, .ref m9, .int pn, .ref m10, .ref m11, .ref m12, .ref m13])), (m1, .inl (cI, 4, .inl gw)), (m2, .inl (cI, 4, .inl gh))]) hD hS hA [1, 2, 0] rfl
    refine va_calli (va_runV (As := [.int k, .int x, .int y]) (rest := []) ⟨hx, hb, hml, hown, hts⟩ (k_X9_isOn l D H.size h0 m1 m2 m3 m4 m5 m6 m7 m8 m9 m10 m11 m12 m13 ik wy op cl cx0 cx1 cy0 cy1 ds pn gw gh k x y cI (by omega)) (cwV 3 hts (gV bw_433 bw_418 bw_419 bw_391 bw_417) rfl rfl rfl (by decide +kernel) ⟨(by rw [hR]; exact Nat.le_of_ble_eq_true rfl), (by rw [hR]; exact Nat.le_of_ble_eq_true rfl)⟩) ⟨cP_blind, va_recv hKc hPc (ci := 9) (q0 := 0) rfl rfl, cP_at hPc hKc hDc hN⟩ rfl rfl hl.1 rfl (lv_room (Nat.le_of_ble_eq_true rfl)) dX9_flood_12 ⟨(by rw [hR]; exact Nat.le_of_ble_eq_true rfl), (by rw [hR]; exact Nat.le_of_ble_eq_true rfl)⟩) hS (fun q _ h => hFc q h) hFc (fun r_4 u9 t9 H1 locs ht hvm hr_4 hB hz1 hk1 hS => ?_)
    try dsimp only at hr_4
    obtain ⟨hP1, hK1, hD1⟩ := hB
    rw [ht] at hP1
    obtain ⟨hP, hD⟩ := va_join (wr := []) (w1 := [(h0, .inr (9, [.ref m1, .ref m2, .ref m3, .int ik, .int wy, .int op, .int cl, .int cx0, .int cx1, .int cy0, .int cy1, .int ds, .ref m4, .ref m5, .ref m6, .ref m7, .ref m8, .ref m9, .int pn, .ref m10, .ref m11, .ref m12, .ref m13])), (m1, .inl (cI, 4, .inl gw)), (m2, .inl (cI, 4, .inl gh))]) hP hD [1, 2, 0] [] rfl rfl (by decide) (by decide) hk1 hFc hP1 hD1
    clear hz1 hk1 hFc hKc hDc hPc
    generalize H1 = H at hP hS ⊢
    have hP : va_P D vwCl [(h0, .inr (9, [.ref m1, .ref m2, .ref m3, .int ik, .int wy, .int op, .int cl, .int cx0, .int cx1, .int cy0, .int cy1, .int ds, .ref m4, .ref m5, .ref m6, .ref m7, .ref m8, .ref m9, .int pn, .ref m10, .ref m11, .ref m12, .ref m13])), (m1, .inl (cI, 4, .inl gw)), (m2, .inl (cI, 4, .inl gh))] H := hP
    have hD : va_D A [(h0, .inr (9, [.ref m1, .ref m2, .ref m3, .int ik, .int wy, .int op, .int cl, .int cx0, .int cx1, .int cy0, .int cy1, .int ds, .ref m4, .ref m5, .ref m6, .ref m7, .ref m8, .ref m9, .int pn, .ref m10, .ref m11, .ref m12, .ref m13])), (m1, .inl (cI, 4, .inl gw)), (m2, .inl (cI, 4, .inl gh))] := hD
    refine lv_if_ne (tgt := 20) hx hb dX9_flood_15 (by decide) (fun c_5 => ?_) (fun c_5 => ?_)
    · skip
      have f_6 := bz1 hr_4 c_5
      refine lv_aload_n hx hb dX9_flood_20 rfl (lv_at hl 0 rfl) ?_
      refine lv_iload_n hx hb dX9_flood_21 rfl (lv_at hl 2 rfl) ?_
      refine lv_iload_n hx hb dX9_flood_22 rfl (lv_at hl 3 rfl) ?_
      have hPc := hP.sub (ws' := [(h0, .inr (9, [.ref m1, .ref m2, .ref m3, .int ik, .int wy, .int op, .int cl, .int cx0, .int cx1, .int cy0, .int cy1, .int ds, .ref m4, .ref m5, .ref m6, .ref m7, .ref m8, .ref m9, .int pn, .ref m10, .ref m11, .ref m12, .ref m13]))]) [0] rfl
      have hDc := hD.sub (ws' := [(h0, .inr (9, [.ref m1, .ref m2, .ref m3, .int ik, .int wy, .int op, .int cl, .int cx0, .int cx1, .int cy0, .int cy1, .int ds, .ref m4, .ref m5, .ref m6, .ref m7, .ref m8, .ref m9, .int pn, .ref m10, .ref m11, .ref m12, .ref m13]))]) [0] (by decide) rfl
      have hKc := hK.sub (tys' := []) [] rfl
      have hFc := va_free (wc := [(h0, .inr (9, [.ref m1, .ref m2, .ref m3, .int ik, .int wy, .int op, .int cl, .int cx0, .int cx1, .int cy0, .int cy1, .int ds, .ref m4, .ref m5, .ref m6, .ref m7, .ref m8, .ref m9, .int pn, .ref m10, .ref m11, .ref m12, .ref m13]))]) hD hS hA [0] rfl
      refine va_calli (va_runV (As := [.int x, .int y]) (rest := []) ⟨hx, hb, hml, hown, hts⟩ (k_X9_isInClip l D H.size h0 m1 m2 m3 m4 m5 m6 m7 m8 m9 m10 m11 m12 m13 ik wy op cl cx0 cx1 cy0 cy1 ds pn x y) (cwV 2 hts (gV bw_434 bw_423 bw_424 bw_391 bw_422) rfl rfl rfl (by decide +kernel) ⟨(by rw [hR]; exact Nat.le_of_ble_eq_true rfl), (by rw [hR]; exact Nat.le_of_ble_eq_true rfl)⟩) ⟨cP_blind, va_recv hKc hPc (ci := 9) (q0 := 0) rfl rfl, cP_at hPc hKc hDc hN⟩ rfl rfl hl.1 rfl (lv_room (Nat.le_of_ble_eq_true rfl)) dX9_flood_23 ⟨(by rw [hR]; exact Nat.le_of_ble_eq_true rfl), (by rw [hR]; exact Nat.le_of_ble_eq_true rfl)⟩) hS (fun q _ h => hFc q h) hFc (fun r_7 u9 t9 H1 locs ht hvm hr_7 hB hz1 hk1 hS => ?_)
      try dsimp only at hr_7
      obtain ⟨hP1, hK1, hD1⟩ := hB
      rw [ht] at hP1
      obtain ⟨hP, hD⟩ := va_join (wr := [(m1, .inl (cI, 4, .inl gw)), (m2, .inl (cI, 4, .inl gh))]) (w1 := [(h0, .inr (9, [.ref m1, .ref m2, .ref m3, .int ik, .int wy, .int op, .int cl, .int cx0, .int cx1, .int cy0, .int cy1, .int ds, .ref m4, .ref m5, .ref m6, .ref m7, .ref m8, .ref m9, .int pn, .ref m10, .ref m11, .ref m12, .ref m13]))]) hP hD [0] [1, 2] rfl rfl (by decide) (by decide) hk1 hFc hP1 hD1
      clear hz1 hk1 hFc hKc hDc hPc
      generalize H1 = H at hP hS ⊢
      have hP : va_P D vwCl [(m1, .inl (cI, 4, .inl gw)), (m2, .inl (cI, 4, .inl gh)), (h0, .inr (9, [.ref m1, .ref m2, .ref m3, .int ik, .int wy, .int op, .int cl, .int cx0, .int cx1, .int cy0, .int cy1, .int ds, .ref m4, .ref m5, .ref m6, .ref m7, .ref m8, .ref m9, .int pn, .ref m10, .ref m11, .ref m12, .ref m13]))] H := hP
      have hD : va_D A [(m1, .inl (cI, 4, .inl gw)), (m2, .inl (cI, 4, .inl gh)), (h0, .inr (9, [.ref m1, .ref m2, .ref m3, .int ik, .int wy, .int op, .int cl, .int cx0, .int cx1, .int cy0, .int cy1, .int ds, .ref m4, .ref m5, .ref m6, .ref m7, .ref m8, .ref m9, .int pn, .ref m10, .ref m11, .ref m12, .ref m13]))] := hD
      refine lv_if_ne (tgt := 31) hx hb dX9_flood_26 (by decide) (fun c_8 => ?_) (fun c_8 => ?_)
      · skip
        have f_9 := bz1 hr_7 c_8
        exact False.elim (by omega)
      · skip
        have f_9 := bz0 hr_7 c_8
        refine lv_iconst (v := 0) hx hb dX9_flood_29 (by decide) ?_
        have hP9 := hP.sub (ws' := [(h0, .inr (9, [.ref m1, .ref m2, .ref m3, .int ik, .int wy, .int op, .int cl, .int cx0, .int cx1, .int cy0, .int cy1, .int ds, .ref m4, .ref m5, .ref m6, .ref m7, .ref m8, .ref m9, .int pn, .ref m10, .ref m11, .ref m12, .ref m13])), (m1, .inl (cI, 4, .inl gw)), (m2, .inl (cI, 4, .inl gh))]) [2, 0, 1] rfl
        have hD9 := hD.sub (ws' := [(h0, .inr (9, [.ref m1, .ref m2, .ref m3, .int ik, .int wy, .int op, .int cl, .int cx0, .int cx1, .int cy0, .int cy1, .int ds, .ref m4, .ref m5, .ref m6, .ref m7, .ref m8, .ref m9, .int pn, .ref m10, .ref m11, .ref m12, .ref m13])), (m1, .inl (cI, 4, .inl gw)), (m2, .inl (cI, 4, .inl gh))]) [2, 0, 1] (by decide) rfl
        have hK9 := hK.sub (tys' := [(cI, .int)]) [0] rfl
        refine hQ _ _ _ _ _ ?_
        exact W.iret (v := 0) hx hb hr (fun t ht hW => ⟨⟨0, (), rfl, rfl, ⟨by rw [ht]; exact hP9, va_K.moved hW.alike hK9, hD9⟩⟩, hS.F ht⟩) hS.2.2 dX9_flood_30
    · skip
      have f_6 := bz0 hr_4 c_5
      exact False.elim (by omega)

set_option maxHeartbeats 4000000 in
set_option maxRecDepth 100000 in
theorem k_X9_flood_ne (l : Launch) (D : va_G) (sz : Nat) (h0 m1 m2 m3 m4 m5 m6 m7 m8 m9 m10 m11 m12 m13 : Nat) (ik wy op cl cx0 cx1 cy0 cy1 ds pn : Int32) (gw : Nat → Int32) (gh : Nat → Int32) (k x y co : Int32) (cI : ClassId) (hns : ¬ ((0 ≤ k.toInt ∧ k.toInt ≤ 3 ∧ 0 < (gw k.toNatClampNeg).toInt) ∧ (0 ≤ x.toInt ∧ x.toInt < (gw k.toNatClampNeg).toInt ∧ 0 ≤ y.toInt ∧ y.toInt < (gh k.toNatClampNeg).toInt))) : Met l yX9_flood (wB yX9_flood cX9_flood 6 (some .int)) ({ frames := 1, cells := 0, slots := 0, locals := 23 }) (cP D [(h0, .inr (9, [.ref m1, .ref m2, .ref m3, .int ik, .int wy, .int op, .int cl, .int cx0, .int cx1, .int cy0, .int cy1, .int ds, .ref m4, .ref m5, .ref m6, .ref m7, .ref m8, .ref m9, .int pn, .ref m10, .ref m11, .ref m12, .ref m13])), (m1, .inl (cI, 4, .inl gw)), (m2, .inl (cI, 4, .inl gh))] [(cI, .int)] sz [.ref h0, .int k, .int x, .int y, .int co]) (va_Qi (fun (r : Int32) (_ : Unit) => r = -1) (fun (_ : Unit) (t : State) => cB D (va_A [(h0, .inr (9, [.ref m1, .ref m2, .ref m3, .int ik, .int wy, .int op, .int cl, .int cx0, .int cx1, .int cy0, .int cy1, .int ds, .ref m4, .ref m5, .ref m6, .ref m7, .ref m8, .ref m9, .int pn, .ref m10, .ref m11, .ref m12, .ref m13])), (m1, .inl (cI, 4, .inl gw)), (m2, .inl (cI, 4, .inl gh))] sz) [(h0, .inr (9, [.ref m1, .ref m2, .ref m3, .int ik, .int wy, .int op, .int cl, .int cx0, .int cx1, .int cy0, .int cy1, .int ds, .ref m4, .ref m5, .ref m6, .ref m7, .ref m8, .ref m9, .int pn, .ref m10, .ref m11, .ref m12, .ref m13])), (m1, .inl (cI, 4, .inl gw)), (m2, .inl (cI, 4, .inl gh))] [(cI, .int)] t) (va_A [(h0, .inr (9, [.ref m1, .ref m2, .ref m3, .int ik, .int wy, .int op, .int cl, .int cx0, .int cx1, .int cy0, .int cy1, .int ds, .ref m4, .ref m5, .ref m6, .ref m7, .ref m8, .ref m9, .int pn, .ref m10, .ref m11, .ref m12, .ref m13])), (m1, .inl (cI, 4, .inl gw)), (m2, .inl (cI, 4, .inl gh))] sz)) 0 0 (va_A [(h0, .inr (9, [.ref m1, .ref m2, .ref m3, .int ik, .int wy, .int op, .int cl, .int cx0, .int cx1, .int cy0, .int cy1, .int ds, .ref m4, .ref m5, .ref m6, .ref m7, .ref m8, .ref m9, .int pn, .ref m10, .ref m11, .ref m12, .ref m13])), (m1, .inl (cI, 4, .inl gw)), (m2, .inl (cI, 4, .inl gh))] sz) := by
  refine Met.ofW (cc := cX9_flood) (maxL := 6) (ret := (some .int)) (by decide) rfl ?_
  intro p e s m args below meth c s₁ B hml hv
  obtain ⟨rfl, hsz, hP, hK, hD0, hN⟩ := hv
  have hx := B.exec
  have hb := B.bytes
  have hr := B.returns
  have hts0 := atoms_spec (ws := (wB yX9_flood cX9_flood 6 (some .int))) B.pre
  have hts : ∀ w ∈ bigW, w.before _ s = true := fun w h => hts0 w (List.mem_cons_of_mem _ h)
  have hown : s.vm.findClass RX9 = some m.cls := findClass_of_methodNamed B.named
  have hlocks := B.notSynchronized
  subst hsz
  have hD := hD0.self (sz := s.heap.size)
  generalize hAe : va_A [(h0, .inr (9, [.ref m1, .ref m2, .ref m3, .int ik, .int wy, .int op, .int cl, .int cx0, .int cx1, .int cy0, .int cy1, .int ds, .ref m4, .ref m5, .ref m6, .ref m7, .ref m8, .ref m9, .int pn, .ref m10, .ref m11, .ref m12, .ref m13])), (m1, .inl (cI, 4, .inl gw)), (m2, .inl (cI, 4, .inl gh))] s.heap.size = A at hD ⊢
  have hA : ∀ q : Nat, s.heap.size ≤ q → A q := fun q h => by rw [← hAe]; exact Or.inr h
  have hS : va_S A s.heap s.heap [] := va_S.rf
  have hP : va_P D vwCl [(h0, .inr (9, [.ref m1, .ref m2, .ref m3, .int ik, .int wy, .int op, .int cl, .int cx0, .int cx1, .int cy0, .int cy1, .int ds, .ref m4, .ref m5, .ref m6, .ref m7, .ref m8, .ref m9, .int pn, .ref m10, .ref m11, .ref m12, .ref m13])), (m1, .inl (cI, 4, .inl gw)), (m2, .inl (cI, 4, .inl gh))] s.heap := hP
  have hl := lv_entry ([.ref h0, .int k, .int x, .int y, .int co]) (n := 6) (Nat.le_of_ble_eq_true rfl)
  rw [lg_entry_eq]
  generalize (lg_sl ([.ref h0, .int k, .int x, .int y, .int co]) ++ List.replicate (6 - (lg_sl ([.ref h0, .int k, .int x, .int y, .int co])).length) Slot.unset).toArray = ls at hl ⊢
  have hl : lv_has ls 6 [(0, .ref h0), (1, .int k), (2, .int x), (3, .int y), (4, .int co)] := hl
  clear hts0 hD0 hAe
  refine my_abs (fun R Q hR hQ => ?_)
  refine lv_aload_n hx hb dX9_flood_0 rfl (lv_at hl 0 rfl) ?_
  refine lv_iload_n hx hb dX9_flood_1 rfl (lv_at hl 1 rfl) ?_
  have hPc := hP.sub (ws' := [(h0, .inr (9, [.ref m1, .ref m2, .ref m3, .int ik, .int wy, .int op, .int cl, .int cx0, .int cx1, .int cy0, .int cy1, .int ds, .ref m4, .ref m5, .ref m6, .ref m7, .ref m8, .ref m9, .int pn, .ref m10, .ref m11, .ref m12, .ref m13])), (m1, .inl (cI, 4, .inl gw))]) [0, 1] rfl
  have hDc := hD.sub (ws' := [(h0, .inr (9, [.ref m1, .ref m2, .ref m3, .int ik, .int wy, .int op, .int cl, .int cx0, .int cx1, .int cy0, .int cy1, .int ds, .ref m4, .ref m5, .ref m6, .ref m7, .ref m8, .ref m9, .int pn, .ref m10, .ref m11, .ref m12, .ref m13])), (m1, .inl (cI, 4, .inl gw))]) [0, 1] (by decide) rfl
  have hKc := hK.sub (tys' := [(cI, .int)]) [0] rfl
  have hFc := va_free (wc := [(h0, .inr (9, [.ref m1, .ref m2, .ref m3, .int ik, .int wy, .int op, .int cl, .int cx0, .int cx1, .int cy0, .int cy1, .int ds, .ref m4, .ref m5, .ref m6, .ref m7, .ref m8, .ref m9, .int pn, .ref m10, .ref m11, .ref m12, .ref m13])), (m1, .inl (cI, 4, .inl gw))]) hD hS hA [0, 1] rfl
  refine va_calli (va_runV (As := [.int k]) (rest := []) ⟨hx, hb, hml, hown, hts⟩ (k_X9_isSheet l D s.heap.size h0 m1 m2 m3 m4 m5 m6 m7 m8 m9 m10 m11 m12 m13 ik wy op cl cx0 cx1 cy0 cy1 ds pn gw k cI) (cwV 1 hts (gV bw_490 bw_415 bw_416 bw_391 bw_414) rfl rfl rfl (by decide +kernel) ⟨(by rw [hR]; exact Nat.le_of_ble_eq_true rfl), (by rw [hR]; exact Nat.le_of_ble_eq_true rfl)⟩) ⟨cP_blind, va_recv hKc hPc (ci := 9) (q0 := 0) rfl rfl, cP_at hPc hKc hDc hN⟩ rfl rfl hl.1 rfl (lv_room (Nat.le_of_ble_eq_true rfl)) dX9_flood_2 ⟨(by rw [hR]; exact Nat.le_of_ble_eq_true rfl), (by rw [hR]; exact Nat.le_of_ble_eq_true rfl)⟩) hS (fun q _ h => hFc q h) hFc (fun r_1 u9 t9 H1 locs ht hvm hr_1 hB hz1 hk1 hS => ?_)
  try dsimp only at hr_1
  obtain ⟨hP1, hK1, hD1⟩ := hB
  rw [ht] at hP1
  obtain ⟨hP, hD⟩ := va_join (wr := [(m2, .inl (cI, 4, .inl gh))]) (w1 := [(h0, .inr (9, [.ref m1, .ref m2, .ref m3, .int ik, .int wy, .int op, .int cl, .int cx0, .int cx1, .int cy0, .int cy1, .int ds, .ref m4, .ref m5, .ref m6, .ref m7, .ref m8, .ref m9, .int pn, .ref m10, .ref m11, .ref m12, .ref m13])), (m1, .inl (cI, 4, .inl gw))]) hP hD [0, 1] [2] rfl rfl (by decide) (by decide) hk1 hFc hP1 hD1
  clear hz1 hk1 hFc hKc hDc hPc
  generalize H1 = H at hP hS ⊢
  have hP : va_P D vwCl [(m2, .inl (cI, 4, .inl gh)), (h0, .inr (9, [.ref m1, .ref m2, .ref m3, .int ik, .int wy, .int op, .int cl, .int cx0, .int cx1, .int cy0, .int cy1, .int ds, .ref m4, .ref m5, .ref m6, .ref m7, .ref m8, .ref m9, .int pn, .ref m10, .ref m11, .ref m12, .ref m13])), (m1, .inl (cI, 4, .inl gw))] H := hP
  have hD : va_D A [(m2, .inl (cI, 4, .inl gh)), (h0, .inr (9, [.ref m1, .ref m2, .ref m3, .int ik, .int wy, .int op, .int cl, .int cx0, .int cx1, .int cy0, .int cy1, .int ds, .ref m4, .ref m5, .ref m6, .ref m7, .ref m8, .ref m9, .int pn, .ref m10, .ref m11, .ref m12, .ref m13])), (m1, .inl (cI, 4, .inl gw))] := hD
  refine lv_if_eq (tgt := 18) hx hb dX9_flood_5 (by decide) (fun c_2 => ?_) (fun c_2 => ?_)
  · skip
    have f_3 := bz0 hr_1 c_2
    refine lv_iconst (v := (-1)) hx hb dX9_flood_18 (by decide) ?_
    have hP9 := hP.sub (ws' := [(h0, .inr (9, [.ref m1, .ref m2, .ref m3, .int ik, .int wy, .int op, .int cl, .int cx0, .int cx1, .int cy0, .int cy1, .int ds, .ref m4, .ref m5, .ref m6, .ref m7, .ref m8, .ref m9, .int pn, .ref m10, .ref m11, .ref m12, .ref m13])), (m1, .inl (cI, 4, .inl gw)), (m2, .inl (cI, 4, .inl gh))]) [1, 2, 0] rfl
    have hD9 := hD.sub (ws' := [(h0, .inr (9, [.ref m1, .ref m2, .ref m3, .int ik, .int wy, .int op, .int cl, .int cx0, .int cx1, .int cy0, .int cy1, .int ds, .ref m4, .ref m5, .ref m6, .ref m7, .ref m8, .ref m9, .int pn, .ref m10, .ref m11, .ref m12, .ref m13])), (m1, .inl (cI, 4, .inl gw)), (m2, .inl (cI, 4, .inl gh))]) [1, 2, 0] (by decide) rfl
    have hK9 := hK.sub (tys' := [(cI, .int)]) [0] rfl
    refine hQ _ _ _ _ _ ?_
    exact W.iret (v := (-1)) hx hb hr (fun t ht hW => ⟨⟨(-1), (), rfl, rfl, ⟨by rw [ht]; exact hP9, va_K.moved hW.alike hK9, hD9⟩⟩, hS.F ht⟩) hS.2.2 dX9_flood_19
  · skip
    have f_3 := bz1 hr_1 c_2
    refine lv_aload_n hx hb dX9_flood_8 rfl (lv_at hl 0 rfl) ?_
    refine lv_iload_n hx hb dX9_flood_9 rfl (lv_at hl 1 rfl) ?_
    refine lv_iload_n hx hb dX9_flood_10 rfl (lv_at hl 2 rfl) ?_
    refine lv_iload_n hx hb dX9_flood_11 rfl (lv_at hl 3 rfl) ?_
    have hPc := hP.sub (ws' := [(h0, .inr (9, [.ref m1, .ref m2, .ref m3, .int ik, .int wy, .int op, .int cl, .int cx0, .int cx1, .int cy0, .int cy1, .int ds, .ref m4, .ref m5, .ref m6, .ref m7, .ref m8, .ref m9, .int pn, .ref m10, .ref m11, .ref m12, .ref m13])), (m1, .inl (cI, 4, .inl gw)), (m2, .inl (cI, 4, .inl gh))]) [1, 2, 0] rfl
    have hDc := hD.sub (ws' := [(h0, .inr (9, [.ref m1, .ref m2, .ref m3, .int ik, .int wy, .int op, .int cl, .int cx0, .int cx1, .int cy0, .int cy1, .int ds, .ref m4, .ref m5, .ref m6, .ref m7, .ref m8, .ref m9, .int pn, .ref m10, .ref m11, .ref m12, .ref m13])), (m1, .inl (cI, 4, .inl gw)), (m2, .inl (cI, 4, .inl gh))]) [1, 2, 0] (by decide) rfl
    have hKc := hK.sub (tys' := [(cI, .int)]) [0] rfl
    have hFc := va_free (wc := [(h0, .inr (9, [.ref m1, .ref m2, .ref m3, .int ik, .int wy, .int op, .int cl, .int cx0, .int cx1, .int cy0, .int cy1, .int ds, .ref m4, .ref m5, .ref m6, .ref m7, .ref m8, .ref m9, .int pn, .ref m10, .ref m11, .ref m12, .ref m13])), (m1, .inl (cI, 4, .inl gw)), (m2, .inl (cI, 4, .inl gh))]) hD hS hA [1, 2, 0] rfl
    refine va_calli (va_runV (As := [.int k, .int x, .int y]) (rest := []) ⟨hx, hb, hml, hown, hts⟩ (k_X9_isOn l D H.size h0 m1 m2 m3 m4 m5 m6 m7 m8 m9 m10 m11 m12 m13 ik wy op cl cx0 cx1 cy0 cy1 ds pn gw gh k x y cI (by omega)) (cwV 3 hts (gV bw_433 bw_418 bw_419 bw_391 bw_417) rfl rfl rfl (by decide +kernel) ⟨(by rw [hR]; exact Nat.le_of_ble_eq_true rfl), (by rw [hR]; exact Nat.le_of_ble_eq_true rfl)⟩) ⟨cP_blind, va_recv hKc hPc (ci := 9) (q0 := 0) rfl rfl, cP_at hPc hKc hDc hN⟩ rfl rfl hl.1 rfl (lv_room (Nat.le_of_ble_eq_true rfl)) dX9_flood_12 ⟨(by rw [hR]; exact Nat.le_of_ble_eq_true rfl), (by rw [hR]; exact Nat.le_of_ble_eq_true rfl)⟩) hS (fun q _ h => hFc q h) hFc (fun r_4 u9 t9 H1 locs ht hvm hr_4 hB hz1 hk1 hS => ?_)
    try dsimp only at hr_4
    obtain ⟨hP1, hK1, hD1⟩ := hB
    rw [ht] at hP1
    obtain ⟨hP, hD⟩ := va_join (wr := []) (w1 := [(h0, .inr (9, [.ref m1, .ref m2, .ref m3, .int ik, .int wy, .int op, .int cl, .int cx0, .int cx1, .int cy0, .int cy1, .int ds, .ref m4, .ref m5, .ref m6, .ref m7, .ref m8, .ref m9, .int pn, .ref m10, .ref m11, .ref m12, .ref m13])), (m1, .inl (cI, 4, .inl gw)), (m2, .inl (cI, 4, .inl gh))]) hP hD [1, 2, 0] [] rfl rfl (by decide) (by decide) hk1 hFc hP1 hD1
    clear hz1 hk1 hFc hKc hDc hPc
    generalize H1 = H at hP hS ⊢
    have hP : va_P D vwCl [(h0, .inr (9, [.ref m1, .ref m2, .ref m3, .int ik, .int wy, .int op, .int cl, .int cx0, .int cx1, .int cy0, .int cy1, .int ds, .ref m4, .ref m5, .ref m6, .ref m7, .ref m8, .ref m9, .int pn, .ref m10, .ref m11, .ref m12, .ref m13])), (m1, .inl (cI, 4, .inl gw)), (m2, .inl (cI, 4, .inl gh))] H := hP
    have hD : va_D A [(h0, .inr (9, [.ref m1, .ref m2, .ref m3, .int ik, .int wy, .int op, .int cl, .int cx0, .int cx1, .int cy0, .int cy1, .int ds, .ref m4, .ref m5, .ref m6, .ref m7, .ref m8, .ref m9, .int pn, .ref m10, .ref m11, .ref m12, .ref m13])), (m1, .inl (cI, 4, .inl gw)), (m2, .inl (cI, 4, .inl gh))] := hD
    refine lv_if_ne (tgt := 20) hx hb dX9_flood_15 (by decide) (fun c_5 => ?_) (fun c_5 => ?_)
    · skip
      have f_6 := bz1 hr_4 c_5
      exact False.elim (by omega)
    · skip
      have f_6 := bz0 hr_4 c_5
      refine lv_iconst (v := (-1)) hx hb dX9_flood_18 (by decide) ?_
      have hP9 := hP.sub (ws' := [(h0, .inr (9, [.ref m1, .ref m2, .ref m3, .int ik, .int wy, .int op, .int cl, .int cx0, .int cx1, .int cy0, .int cy1, .int ds, .ref m4, .ref m5, .ref m6, .ref m7, .ref m8, .ref m9, .int pn, .ref m10, .ref m11, .ref m12, .ref m13])), (m1, .inl (cI, 4, .inl gw)), (m2, .inl (cI, 4, .inl gh))]) [0, 1, 2] rfl
      have hD9 := hD.sub (ws' := [(h0, .inr (9, [.ref m1, .ref m2, .ref m3, .int ik, .int wy, .int op, .int cl, .int cx0, .int cx1, .int cy0, .int cy1, .int ds, .ref m4, .ref m5, .ref m6, .ref m7, .ref m8, .ref m9, .int pn, .ref m10, .ref m11, .ref m12, .ref m13])), (m1, .inl (cI, 4, .inl gw)), (m2, .inl (cI, 4, .inl gh))]) [0, 1, 2] (by decide) rfl
      have hK9 := hK.sub (tys' := [(cI, .int)]) [0] rfl
      refine hQ _ _ _ _ _ ?_
      exact W.iret (v := (-1)) hx hb hr (fun t ht hW => ⟨⟨(-1), (), rfl, rfl, ⟨by rw [ht]; exact hP9, va_K.moved hW.alike hK9, hD9⟩⟩, hS.F ht⟩) hS.2.2 dX9_flood_19

set_option maxHeartbeats 4000000 in
set_option maxRecDepth 100000 in
theorem k_X9_region_ne (l : Launch) (D : va_G) (sz : Nat) (h0 m1 m2 m3 m4 m5 m6 m7 m8 m9 m10 m11 m12 m13 : Nat) (ik wy op cl cx0 cx1 cy0 cy1 ds pn : Int32) (gw : Nat → Int32) (gh : Nat → Int32) (k x y co : Int32) (cI : ClassId) (hns : ¬ ((0 ≤ k.toInt ∧ k.toInt ≤ 3 ∧ 0 < (gw k.toNatClampNeg).toInt) ∧ (0 ≤ x.toInt ∧ x.toInt < (gw k.toNatClampNeg).toInt ∧ 0 ≤ y.toInt ∧ y.toInt < (gh k.toNatClampNeg).toInt))) : Met l yX9_region (wB yX9_region cX9_region 7 (some .int)) ({ frames := 1, cells := 0, slots := 0, locals := 23 }) (cP D [(h0, .inr (9, [.ref m1, .ref m2, .ref m3, .int ik, .int wy, .int op, .int cl, .int cx0, .int cx1, .int cy0, .int cy1, .int ds, .ref m4, .ref m5, .ref m6, .ref m7, .ref m8, .ref m9, .int pn, .ref m10, .ref m11, .ref m12, .ref m13])), (m1, .inl (cI, 4, .inl gw)), (m2, .inl (cI, 4, .inl gh))] [(cI, .int)] sz [.ref h0, .int k, .int x, .int y, .int co]) (va_Qi (fun (r : Int32) (_ : Unit) => r = -1) (fun (_ : Unit) (t : State) => cB D (va_A [(h0, .inr (9, [.ref m1, .ref m2, .ref m3, .int ik, .int wy, .int op, .int cl, .int cx0, .int cx1, .int cy0, .int cy1, .int ds, .ref m4, .ref m5, .ref m6, .ref m7, .ref m8, .ref m9, .int pn, .ref m10, .ref m11, .ref m12, .ref m13])), (m1, .inl (cI, 4, .inl gw)), (m2, .inl (cI, 4, .inl gh))] sz) [(h0, .inr (9, [.ref m1, .ref m2, .ref m3, .int ik, .int wy, .int op, .int cl, .int cx0, .int cx1, .int cy0, .int cy1, .int ds, .ref m4, .ref m5, .ref m6, .ref m7, .ref m8, .ref m9, .int pn, .ref m10, .ref m11, .ref m12, .ref m13])), (m1, .inl (cI, 4, .inl gw)), (m2, .inl (cI, 4, .inl gh))] [(cI, .int)] t) (va_A [(h0, .inr (9, [.ref m1, .ref m2, .ref m3, .int ik, .int wy, .int op, .int cl, .int cx0, .int cx1, .int cy0, .int cy1, .int ds, .ref m4, .ref m5, .ref m6, .ref m7, .ref m8, .ref m9, .int pn, .ref m10, .ref m11, .ref m12, .ref m13])), (m1, .inl (cI, 4, .inl gw)), (m2, .inl (cI, 4, .inl gh))] sz)) 0 0 (va_A [(h0, .inr (9, [.ref m1, .ref m2, .ref m3, .int ik, .int wy, .int op, .int cl, .int cx0, .int cx1, .int cy0, .int cy1, .int ds, .ref m4, .ref m5, .ref m6, .ref m7, .ref m8, .ref m9, .int pn, .ref m10, .ref m11, .ref m12, .ref m13])), (m1, .inl (cI, 4, .inl gw)), (m2, .inl (cI, 4, .inl gh))] sz) := by
  refine Met.ofW (cc := cX9_region) (maxL := 7) (ret := (some .int)) (by decide) rfl ?_
  intro p e s m args below meth c s₁ B hml hv
  obtain ⟨rfl, hsz, hP, hK, hD0, hN⟩ := hv
  have hx := B.exec
  have hb := B.bytes
  have hr := B.returns
  have hts0 := atoms_spec (ws := (wB yX9_region cX9_region 7 (some .int))) B.pre
  have hts : ∀ w ∈ bigW, w.before _ s = true := fun w h => hts0 w (List.mem_cons_of_mem _ h)
  have hown : s.vm.findClass RX9 = some m.cls := findClass_of_methodNamed B.named
  have hlocks := B.notSynchronized
  subst hsz
  have hD := hD0.self (sz := s.heap.size)
  generalize hAe : va_A [(h0, .inr (9, [.ref m1, .ref m2, .ref m3, .int ik, .int wy, .int op, .int cl, .int cx0, .int cx1, .int cy0, .int cy1, .int ds, .ref m4, .ref m5, .ref m6, .ref m7, .ref m8, .ref m9, .int pn, .ref m10, .ref m11, .ref m12, .ref m13])), (m1, .inl (cI, 4, .inl gw)), (m2, .inl (cI, 4, .inl gh))] s.heap.size = A at hD ⊢
  have hA : ∀ q : Nat, s.heap.size ≤ q → A q := fun q h => by rw [← hAe]; exact Or.inr h
  have hS : va_S A s.heap s.heap [] := va_S.rf
  have hP : va_P D vwCl [(h0, .inr (9, [.ref m1, .ref m2, .ref m3, .int ik, .int wy, .int op, .int cl, .int cx0, .int cx1, .int cy0, .int cy1, .int ds, .ref m4, .ref m5, .ref m6, .ref m7, .ref m8, .ref m9, .int pn, .ref m10, .ref m11, .ref m12, .ref m13])), (m1, .inl (cI, 4, .inl gw)), (m2, .inl (cI, 4, .inl gh))] s.heap := hP
  have hl := lv_entry ([.ref h0, .int k, .int x, .int y, .int co]) (n := 7) (Nat.le_of_ble_eq_true rfl)
  rw [lg_entry_eq]
  generalize (lg_sl ([.ref h0, .int k, .int x, .int y, .int co]) ++ List.replicate (7 - (lg_sl ([.ref h0, .int k, .int x, .int y, .int co])).length) Slot.unset).toArray = ls at hl ⊢
  have hl : lv_has ls 7 [(0, .ref h0), (1, .int k), (2, .int x), (3, .int y), (4, .int co)] := hl
  clear hts0 hD0 hAe
  refine my_abs (fun R Q hR hQ => ?_)
  refine lv_aload_n hx hb dX9_region_0 rfl (lv_at hl 0 rfl) ?_
  refine lv_iload_n hx hb dX9_region_1 rfl (lv_at hl 1 rfl) ?_
  have hPc := hP.sub (ws' := [(h0, .inr (9, [.ref m1, .ref m2, .ref m3, .int ik, .int wy, .int op, .int cl, .int cx0, .int cx1, .int cy0, .int cy1, .int ds, .ref m4, .ref m5, .ref m6, .ref m7, .ref m8, .ref m9, .int pn, .ref m10, .ref m11, .ref m12, .ref m13])), (m1, .inl (cI, 4, .inl gw))]) [0, 1] rfl
  have hDc := hD.sub (ws' := [(h0, .inr (9, [.ref m1, .ref m2, .ref m3, .int ik, .int wy, .int op, .int cl, .int cx0, .int cx1, .int cy0, .int cy1, .int ds, .ref m4, .ref m5, .ref m6, .ref m7, .ref m8, .ref m9, .int pn, .ref m10, .ref m11, .ref m12, .ref m13])), (m1, .inl (cI, 4, .inl gw))]) [0, 1] (by decide) rfl
  have hKc := hK.sub (tys' := [(cI, .int)]) [0] rfl
  have hFc := va_free (wc := [(h0, .inr (9, [.ref m1, .ref m2, .ref m3, .int ik, .int wy, .int op, .int cl, .int cx0, .int cx1, .int cy0, .int cy1, .int ds, .ref m4, .ref m5, .ref m6, .ref m7, .ref m8, .ref m9, .int pn, .ref m10, .ref m11, .ref m12, .ref m13])), (m1, .inl (cI, 4, .inl gw))]) hD hS hA [0, 1] rfl
  refine va_calli (va_runV (As := [.int k]) (rest := []) ⟨hx, hb, hml, hown, hts⟩ (k_X9_isSheet l D s.heap.size h0 m1 m2 m3 m4 m5 m6 m7 m8 m9 m10 m11 m12 m13 ik wy op cl cx0 cx1 cy0 cy1 ds pn gw k cI) (cwV 1 hts (gV bw_490 bw_415 bw_416 bw_391 bw_414) rfl rfl rfl (by decide +kernel) ⟨(by rw [hR]; exact Nat.le_of_ble_eq_true rfl), (by rw [hR]; exact Nat.le_of_ble_eq_true rfl)⟩) ⟨cP_blind, va_recv hKc hPc (ci := 9) (q0 := 0) rfl rfl, cP_at hPc hKc hDc hN⟩ rfl rfl hl.1 rfl (lv_room (Nat.le_of_ble_eq_true rfl)) dX9_region_2 ⟨(by rw [hR]; exact Nat.le_of_ble_eq_true rfl), (by rw [hR]; exact Nat.le_of_ble_eq_true rfl)⟩) hS (fun q _ h => hFc q h) hFc (fun r_1 u9 t9 H1 locs ht hvm hr_1 hB hz1 hk1 hS => ?_)
  try dsimp only at hr_1
  obtain ⟨hP1, hK1, hD1⟩ := hB
  rw [ht] at hP1
  obtain ⟨hP, hD⟩ := va_join (wr := [(m2, .inl (cI, 4, .inl gh))]) (w1 := [(h0, .inr (9, [.ref m1, .ref m2, .ref m3, .int ik, .int wy, .int op, .int cl, .int cx0, .int cx1, .int cy0, .int cy1, .int ds, .ref m4, .ref m5, .ref m6, .ref m7, .ref m8, .ref m9, .int pn, .ref m10, .ref m11, .ref m12, .ref m13])), (m1, .inl (cI, 4, .inl gw))]) hP hD [0, 1] [2] rfl rfl (by decide) (by decide) hk1 hFc hP1 hD1
  clear hz1 hk1 hFc hKc hDc hPc
  generalize H1 = H at hP hS ⊢
  have hP : va_P D vwCl [(m2, .inl (cI, 4, .inl gh)), (h0, .inr (9, [.ref m1, .ref m2, .ref m3, .int ik, .int wy, .int op, .int cl, .int cx0, .int cx1, .int cy0, .int cy1, .int ds, .ref m4, .ref m5, .ref m6, .ref m7, .ref m8, .ref m9, .int pn, .ref m10, .ref m11, .ref m12, .ref m13])), (m1, .inl (cI, 4, .inl gw))] H := hP
  have hD : va_D A [(m2, .inl (cI, 4, .inl gh)), (h0, .inr (9, [.ref m1, .ref m2, .ref m3, .int ik, .int wy, .int op, .int cl, .int cx0, .int cx1, .int cy0, .int cy1, .int ds, .ref m4, .ref m5, .ref m6, .ref m7, .ref m8, .ref m9, .int pn, .ref m10, .ref m11, .ref m12, .ref m13])), (m1, .inl (cI, 4, .inl gw))] := hD
  refine lv_if_eq (tgt := 18) hx hb dX9_region_5 (by decide) (fun c_2 => ?_) (fun c_2 => ?_)
  · skip
    have f_3 := bz0 hr_1 c_2
    refine lv_iconst (v := (-1)) hx hb dX9_region_18 (by decide) ?_
    have hP9 := hP.sub (ws' := [(h0, .inr (9, [.ref m1, .ref m2, .ref m3, .int ik, .int wy, .int op, .int cl, .int cx0, .int cx1, .int cy0, .int cy1, .int ds, .ref m4, .ref m5, .ref m6, .ref m7, .ref m8, .ref m9, .int pn, .ref m10, .ref m11, .ref m12, .ref m13])), (m1, .inl (cI, 4, .inl gw)), (m2, .inl (cI, 4, .inl gh))]) [1, 2, 0] rfl
    have hD9 := hD.sub (ws' := [(h0, .inr (9, [.ref m1, .ref m2, .ref m3, .int ik, .int wy, .int op, .int cl, .int cx0, .int cx1, .int cy0, .int cy1, .int ds, .ref m4, .ref m5, .ref m6, .ref m7, .ref m8, .ref m9, .int pn, .ref m10, .ref m11, .ref m12, .ref m13])), (m1, .inl (cI, 4, .inl gw)), (m2, .inl (cI, 4, .inl gh))]) [1, 2, 0] (by decide) rfl
    have hK9 := hK.sub (tys' := [(cI, .int)]) [0] rfl
    refine hQ _ _ _ _ _ ?_
    exact W.iret (v := (-1)) hx hb hr (fun t ht hW => ⟨⟨(-1), (), rfl, rfl, ⟨by rw [ht]; exact hP9, va_K.moved hW.alike hK9, hD9⟩⟩, hS.F ht⟩) hS.2.2 dX9_region_19
  · skip
    have f_3 := bz1 hr_1 c_2
    refine lv_aload_n hx hb dX9_region_8 rfl (lv_at hl 0 rfl) ?_
    refine lv_iload_n hx hb dX9_region_9 rfl (lv_at hl 1 rfl) ?_
    refine lv_iload_n hx hb dX9_region_10 rfl (lv_at hl 2 rfl) ?_
    refine lv_iload_n hx hb dX9_region_11 rfl (lv_at hl 3 rfl) ?_
    have hPc := hP.sub (ws' := [(h0, .inr (9, [.ref m1, .ref m2, .ref m3, .int ik, .int wy, .int op, .int cl, .int cx0, .int cx1, .int cy0, .int cy1, .int ds, .ref m4, .ref m5, .ref m6, .ref m7, .ref m8, .ref m9, .int pn, .ref m10, .ref m11, .ref m12, .ref m13])), (m1, .inl (cI, 4, .inl gw)), (m2, .inl (cI, 4, .inl gh))]) [1, 2, 0] rfl
    have hDc := hD.sub (ws' := [(h0, .inr (9, [.ref m1, .ref m2, .ref m3, .int ik, .int wy, .int op, .int cl, .int cx0, .int cx1, .int cy0, .int cy1, .int ds, .ref m4, .ref m5, .ref m6, .ref m7, .ref m8, .ref m9, .int pn, .ref m10, .ref m11, .ref m12, .ref m13])), (m1, .inl (cI, 4, .inl gw)), (m2, .inl (cI, 4, .inl gh))]) [1, 2, 0] (by decide) rfl
    have hKc := hK.sub (tys' := [(cI, .int)]) [0] rfl
    have hFc := va_free (wc := [(h0, .inr (9, [.ref m1, .ref m2, .ref m3, .int ik, .int wy, .int op, .int cl, .int cx0, .int cx1, .int cy0, .int cy1, .int ds, .ref m4, .ref m5, .ref m6, .ref m7, .ref m8, .ref m9, .int pn, .ref m10, .ref m11, .ref m12, .ref m13])), (m1, .inl (cI, 4, .inl gw)), (m2, .inl (cI, 4, .inl gh))]) hD hS hA [1, 2, 0] rfl
    refine va_calli (va_runV (As := [.int k, .int x, .int y]) (rest := []) ⟨hx, hb, hml, hown, hts⟩ (k_X9_isOn l D H.size h0 m1 m2 m3 m4 m5 m6 m7 m8 m9 m10 m11 m12 m13 ik wy op cl cx0 cx1 cy0 cy1 ds pn gw gh k x y cI (by omega)) (cwV 3 hts (gV bw_433 bw_418 bw_419 bw_391 bw_417) rfl rfl rfl (by decide +kernel) ⟨(by rw [hR]; exact Nat.le_of_ble_eq_true rfl), (by rw [hR]; exact Nat.le_of_ble_eq_true rfl)⟩) ⟨cP_blind, va_recv hKc hPc (ci := 9) (q0 := 0) rfl rfl, cP_at hPc hKc hDc hN⟩ rfl rfl hl.1 rfl (lv_room (Nat.le_of_ble_eq_true rfl)) dX9_region_12 ⟨(by rw [hR]; exact Nat.le_of_ble_eq_true rfl), (by rw [hR]; exact Nat.le_of_ble_eq_true rfl)⟩) hS (fun q _ h => hFc q h) hFc (fun r_4 u9 t9 H1 locs ht hvm hr_4 hB hz1 hk1 hS => ?_)
    try dsimp only at hr_4
    obtain ⟨hP1, hK1, hD1⟩ := hB
    rw [ht] at hP1
    obtain ⟨hP, hD⟩ := va_join (wr := []) (w1 := [(h0, .inr (9, [.ref m1, .ref m2, .ref m3, .int ik, .int wy, .int op, .int cl, .int cx0, .int cx1, .int cy0, .int cy1, .int ds, .ref m4, .ref m5, .ref m6, .ref m7, .ref m8, .ref m9, .int pn, .ref m10, .ref m11, .ref m12, .ref m13])), (m1, .inl (cI, 4, .inl gw)), (m2, .inl (cI, 4, .inl gh))]) hP hD [1, 2, 0] [] rfl rfl (by decide) (by decide) hk1 hFc hP1 hD1
    clear hz1 hk1 hFc hKc hDc hPc
    generalize H1 = H at hP hS ⊢
    have hP : va_P D vwCl [(h0, .inr (9, [.ref m1, .ref m2, .ref m3, .int ik, .int wy, .int op, .int cl, .int cx0, .int cx1, .int cy0, .int cy1, .int ds, .ref m4, .ref m5, .ref m6, .ref m7, .ref m8, .ref m9, .int pn, .ref m10, .ref m11, .ref m12, .ref m13])), (m1, .inl (cI, 4, .inl gw)), (m2, .inl (cI, 4, .inl gh))] H := hP
    have hD : va_D A [(h0, .inr (9, [.ref m1, .ref m2, .ref m3, .int ik, .int wy, .int op, .int cl, .int cx0, .int cx1, .int cy0, .int cy1, .int ds, .ref m4, .ref m5, .ref m6, .ref m7, .ref m8, .ref m9, .int pn, .ref m10, .ref m11, .ref m12, .ref m13])), (m1, .inl (cI, 4, .inl gw)), (m2, .inl (cI, 4, .inl gh))] := hD
    refine lv_if_ne (tgt := 20) hx hb dX9_region_15 (by decide) (fun c_5 => ?_) (fun c_5 => ?_)
    · skip
      have f_6 := bz1 hr_4 c_5
      exact False.elim (by omega)
    · skip
      have f_6 := bz0 hr_4 c_5
      refine lv_iconst (v := (-1)) hx hb dX9_region_18 (by decide) ?_
      have hP9 := hP.sub (ws' := [(h0, .inr (9, [.ref m1, .ref m2, .ref m3, .int ik, .int wy, .int op, .int cl, .int cx0, .int cx1, .int cy0, .int cy1, .int ds, .ref m4, .ref m5, .ref m6, .ref m7, .ref m8, .ref m9, .int pn, .ref m10, .ref m11, .ref m12, .ref m13])), (m1, .inl (cI, 4, .inl gw)), (m2, .inl (cI, 4, .inl gh))]) [0, 1, 2] rfl
      have hD9 := hD.sub (ws' := [(h0, .inr (9, [.ref m1, .ref m2, .ref m3, .int ik, .int wy, .int op, .int cl, .int cx0, .int cx1, .int cy0, .int cy1, .int ds, .ref m4, .ref m5, .ref m6, .ref m7, .ref m8, .ref m9, .int pn, .ref m10, .ref m11, .ref m12, .ref m13])), (m1, .inl (cI, 4, .inl gw)), (m2, .inl (cI, 4, .inl gh))]) [0, 1, 2] (by decide) rfl
      have hK9 := hK.sub (tys' := [(cI, .int)]) [0] rfl
      refine hQ _ _ _ _ _ ?_
      exact W.iret (v := (-1)) hx hb hr (fun t ht hW => ⟨⟨(-1), (), rfl, rfl, ⟨by rw [ht]; exact hP9, va_K.moved hW.alike hK9, hD9⟩⟩, hS.F ht⟩) hS.2.2 dX9_region_19

set_option maxHeartbeats 4000000 in
set_option maxRecDepth 100000 in
theorem k_X9_region_ye (l : Launch) (D : va_G) (sz : Nat) (h0 m1 m2 m3 m4 m5 m6 m7 m8 m9 m10 m11 m12 m13 : Nat) (ik wy op cl cx0 cx1 cy0 cy1 ds pn : Int32) (gw : Nat → Int32) (gh : Nat → Int32) (gd : Nat → Int32) (gm : Nat → Int32) (wt : Nat → Int32) (k x y co : Int32) (cI : ClassId) (cZ : ClassId) (hk : 0 ≤ k.toInt ∧ k.toInt ≤ 3) (hgw : 0 ≤ (gw k.toNatClampNeg).toInt ∧ (gw k.toNatClampNeg).toInt ≤ 64) (hgh : 0 ≤ (gh k.toNatClampNeg).toInt ∧ (gh k.toNatClampNeg).toInt ≤ 64) (hgp : 0 < (gw k.toNatClampNeg).toInt) (hon : 0 ≤ x.toInt ∧ x.toInt < (gw k.toNatClampNeg).toInt ∧ 0 ≤ y.toInt ∧ y.toInt < (gh k.toNatClampNeg).toInt) (hcx : opnJ (gw k.toNatClampNeg) (gh k.toNatClampNeg) cl cx0 cx1 cy0 cy1 0 x y) : Met l yX9_region (wB yX9_region cX9_region 7 (some .int)) ({ frames := 2, cells := 0, slots := 0, locals := 57 }) (cP D [(h0, .inr (9, [.ref m1, .ref m2, .ref m3, .int ik, .int wy, .int op, .int cl, .int cx0, .int cx1, .int cy0, .int cy1, .int ds, .ref m4, .ref m5, .ref m6, .ref m7, .ref m8, .ref m9, .int pn, .ref m10, .ref m11, .ref m12, .ref m13])), (m1, .inl (cI, 4, .inl gw)), (m2, .inl (cI, 4, .inl gh)), (m3, .inl (cI, 16384, .inl gd)), (m4, .inl (cZ, 4096, .inl gm)), (m13, .inl (cI, 4096, .inl wt))] [(cI, .int), (cZ, .boolean)] sz [.ref h0, .int k, .int x, .int y, .int co]) (va_Qi (fun (r : Int32) (_ : Unit) => r = nI (spS (opnJ (gw k.toNatClampNeg) (gh k.toNatClampNeg) cl cx0 cx1 cy0 cy1 0) (fun t => gd (4096 * k.toNatClampNeg + t)) x y co).2.2) (fun (_ : Unit) (t : State) => ∃ (g3 g6 : Nat → Int32), cB D (va_A [(h0, .inr (9, [.ref m1, .ref m2, .ref m3, .int ik, .int wy, .int op, .int cl, .int cx0, .int cx1, .int cy0, .int cy1, .int ds, .ref m4, .ref m5, .ref m6, .ref m7, .ref m8, .ref m9, .int pn, .ref m10, .ref m11, .ref m12, .ref m13])), (m1, .inl (cI, 4, .inl gw)), (m2, .inl (cI, 4, .inl gh)), (m3, .inl (cI, 16384, .inl gd)), (m4, .inl (cZ, 4096, .inl gm)), (m13, .inl (cI, 4096, .inl wt))] sz) [(h0, .inr (9, [.ref m1, .ref m2, .ref m3, .int ik, .int wy, .int op, .int cl, .int cx0, .int cx1, .int cy0, .int cy1, .int ds, .ref m4, .ref m5, .ref m6, .ref m7, .ref m8, .ref m9, .int pn, .ref m10, .ref m11, .ref m12, .ref m13])), (m1, .inl (cI, 4, .inl gw)), (m2, .inl (cI, 4, .inl gh)), (m3, .inl (cI, 16384, .inl gd)), (m4, .inl (cZ, 4096, .inl g3)), (m13, .inl (cI, 4096, .inl g6))] [(cI, .int), (cZ, .boolean)] t) (va_A [(h0, .inr (9, [.ref m1, .ref m2, .ref m3, .int ik, .int wy, .int op, .int cl, .int cx0, .int cx1, .int cy0, .int cy1, .int ds, .ref m4, .ref m5, .ref m6, .ref m7, .ref m8, .ref m9, .int pn, .ref m10, .ref m11, .ref m12, .ref m13])), (m1, .inl (cI, 4, .inl gw)), (m2, .inl (cI, 4, .inl gh)), (m3, .inl (cI, 16384, .inl gd)), (m4, .inl (cZ, 4096, .inl gm)), (m13, .inl (cI, 4096, .inl wt))] sz)) 0 0 (va_A [(h0, .inr (9, [.ref m1, .ref m2, .ref m3, .int ik, .int wy, .int op, .int cl, .int cx0, .int cx1, .int cy0, .int cy1, .int ds, .ref m4, .ref m5, .ref m6, .ref m7, .ref m8, .ref m9, .int pn, .ref m10, .ref m11, .ref m12, .ref m13])), (m1, .inl (cI, 4, .inl gw)), (m2, .inl (cI, 4, .inl gh)), (m3, .inl (cI, 16384, .inl gd)), (m4, .inl (cZ, 4096, .inl gm)), (m13, .inl (cI, 4096, .inl wt))] sz) := by
  refine Met.ofW (cc := cX9_region) (maxL := 7) (ret := (some .int)) (by decide) rfl ?_
  intro p e s m args below meth c s₁ B hml hv
  obtain ⟨rfl, hsz, hP, hK, hD0, hN⟩ := hv
  have hx := B.exec
  have hb := B.bytes
  have hr := B.returns
  have hts0 := atoms_spec (ws := (wB yX9_region cX9_region 7 (some .int))) B.pre
  have hts : ∀ w ∈ bigW, w.before _ s = true := fun w h => hts0 w (List.mem_cons_of_mem _ h)
  have hown : s.vm.findClass RX9 = some m.cls := findClass_of_methodNamed B.named
  have hlocks := B.notSynchronized
  subst hsz
  have hD := hD0.self (sz := s.heap.size)
  generalize hAe : va_A [(h0, .inr (9, [.ref m1, .ref m2, .ref m3, .int ik, .int wy, .int op, .int cl, .int cx0, .int cx1, .int cy0, .int cy1, .int ds, .ref m4, .ref m5, .ref m6, .ref m7, .ref m8, .ref m9, .int pn, .ref m10, .ref m11, .ref m12, .ref m13])), (m1, .inl (cI, 4, .inl gw)), (m2, .inl (cI, 4, .inl gh)), (m3, .inl (cI, 16384, .inl gd)), (m4, .inl (cZ, 4096, .inl gm)), (m13, .inl (cI, 4096, .inl wt))] s.heap.size = A at hD ⊢
  have hA : ∀ q : Nat, s.heap.size ≤ q → A q := fun q h => by rw [← hAe]; exact Or.inr h
  have hS : va_S A s.heap s.heap [] := va_S.rf
  have hP : va_P D vwCl [(h0, .inr (9, [.ref m1, .ref m2, .ref m3, .int ik, .int wy, .int op, .int cl, .int cx0, .int cx1, .int cy0, .int cy1, .int ds, .ref m4, .ref m5, .ref m6, .ref m7, .ref m8, .ref m9, .int pn, .ref m10, .ref m11, .ref m12, .ref m13])), (m1, .inl (cI, 4, .inl gw)), (m2, .inl (cI, 4, .inl gh)), (m3, .inl (cI, 16384, .inl gd)), (m4, .inl (cZ, 4096, .inl gm)), (m13, .inl (cI, 4096, .inl wt))] s.heap := hP
  have hl := lv_entry ([.ref h0, .int k, .int x, .int y, .int co]) (n := 7) (Nat.le_of_ble_eq_true rfl)
  rw [lg_entry_eq]
  generalize (lg_sl ([.ref h0, .int k, .int x, .int y, .int co]) ++ List.replicate (7 - (lg_sl ([.ref h0, .int k, .int x, .int y, .int co])).length) Slot.unset).toArray = ls at hl ⊢
  have hl : lv_has ls 7 [(0, .ref h0), (1, .int k), (2, .int x), (3, .int y), (4, .int co)] := hl
  clear hts0 hD0 hAe
  refine my_abs (fun R Q hR hQ => ?_)
  refine lv_aload_n hx hb dX9_region_0 rfl (lv_at hl 0 rfl) ?_
  refine lv_iload_n hx hb dX9_region_1 rfl (lv_at hl 1 rfl) ?_
  have hPc := hP.sub (ws' := [(h0, .inr (9, [.ref m1, .ref m2, .ref m3, .int ik, .int wy, .int op, .int cl, .int cx0, .int cx1, .int cy0, .int cy1, .int ds, .ref m4, .ref m5, .ref m6, .ref m7, .ref m8, .ref m9, .int pn, .ref m10, .ref m11, .ref m12, .ref m13])), (m1, .inl (cI, 4, .inl gw))]) [0, 1] rfl
  have hDc := hD.sub (ws' := [(h0, .inr (9, [.ref m1, .ref m2, .ref m3, .int ik, .int wy, .int op, .int cl, .int cx0, .int cx1, .int cy0, .int cy1, .int ds, .ref m4, .ref m5, .ref m6, .ref m7, .ref m8, .ref m9, .int pn, .ref m10, .ref m11, .ref m12, .ref m13])), (m1, .inl (cI, 4, .inl gw))]) [0, 1] (by decide) rfl
  have hKc := hK.sub (tys' := [(cI, .int)]) [0] rfl
  have hFc := va_free (wc := [(h0, .inr (9, [.ref m1, .ref m2, .ref m3, .int ik, .int wy, .int op, .int cl, .int cx0, .int cx1, .int cy0, .int cy1, .int ds, .ref m4, .ref m5, .ref m6, .ref m7, .ref m8, .ref m9, .int pn, .ref m10, .ref m11, .ref m12, .ref m13])), (m1, .inl (cI, 4, .inl gw))]) hD hS hA [0, 1] rfl
  refine va_calli (va_runV (As := [.int k]) (rest := []) ⟨hx, hb, hml, hown, hts⟩ (k_X9_isSheet l D s.heap.size h0 m1 m2 m3 m4 m5 m6 m7 m8 m9 m10 m11 m12 m13 ik wy op cl cx0 cx1 cy0 cy1 ds pn gw k cI) (cwV 1 hts (gV bw_490 bw_415 bw_416 bw_391 bw_414) rfl rfl rfl (by decide +kernel) ⟨(by rw [hR]; exact Nat.le_of_ble_eq_true rfl), (by rw [hR]; exact Nat.le_of_ble_eq_true rfl)⟩) ⟨cP_blind, va_recv hKc hPc (ci := 9) (q0 := 0) rfl rfl, cP_at hPc hKc hDc hN⟩ rfl rfl hl.1 rfl (lv_room (Nat.le_of_ble_eq_true rfl)) dX9_region_2 ⟨(by rw [hR]; exact Nat.le_of_ble_eq_true rfl), (by rw [hR]; exact Nat.le_of_ble_eq_true rfl)⟩) hS (fun q _ h => hFc q h) hFc (fun r_1 u9 t9 H1 locs ht hvm hr_1 hB hz1 hk1 hS => ?_)
  try dsimp only at hr_1
  obtain ⟨hP1, hK1, hD1⟩ := hB
  rw [ht] at hP1
  obtain ⟨hP, hD⟩ := va_join (wr := [(m2, .inl (cI, 4, .inl gh)), (m3, .inl (cI, 16384, .inl gd)), (m4, .inl (cZ, 4096, .inl gm)), (m13, .inl (cI, 4096, .inl wt))]) (w1 := [(h0, .inr (9, [.ref m1, .ref m2, .ref m3, .int ik, .int wy, .int op, .int cl, .int cx0, .int cx1, .int cy0, .int cy1, .int ds, .ref m4, .ref m5, .ref m6, .ref m7, .ref m8, .ref m9, .int pn, .ref m10, .ref m11, .ref m12, .ref m13])), (m1, .inl (cI, 4, .inl gw))]) hP hD [0, 1] [2, 3, 4, 5] rfl rfl (by decide) (by decide) hk1 hFc hP1 hD1
  clear hz1 hk1 hFc hKc hDc hPc
  generalize H1 = H at hP hS ⊢
  have hP : va_P D vwCl [(m2, .inl (cI, 4, .inl gh)), (m3, .inl (cI, 16384, .inl gd)), (m4, .inl (cZ, 4096, .inl gm)), (m13, .inl (cI, 4096, .inl wt)), (h0, .inr (9, [.ref m1, .ref m2, .ref m3, .int ik, .int wy, .int op, .int cl, .int cx0, .int cx1, .int cy0, .int cy1, .int ds, .ref m4, .ref m5, .ref m6, .ref m7, .ref m8, .ref m9, .int pn, .ref m10, .ref m11, .ref m12, .ref m13])), (m1, .inl (cI, 4, .inl gw))] H := hP
  have hD : va_D A [(m2, .inl (cI, 4, .inl gh)), (m3, .inl (cI, 16384, .inl gd)), (m4, .inl (cZ, 4096, .inl gm)), (m13, .inl (cI, 4096, .inl wt)), (h0, .inr (9, [.ref m1, .ref m2, .ref m3, .int ik, .int wy, .int op, .int cl, .int cx0, .int cx1, .int cy0, .int cy1, .int ds, .ref m4, .ref m5, .ref m6, .ref m7, .ref m8, .ref m9, .int pn, .ref m10, .ref m11, .ref m12, .ref m13])), (m1, .inl (cI, 4, .inl gw))] := hD
  refine lv_if_eq (tgt := 18) hx hb dX9_region_5 (by decide) (fun c_2 => ?_) (fun c_2 => ?_)
  · skip
    have f_3 := bz0 hr_1 c_2
    exact False.elim (by omega)
  · skip
    have f_3 := bz1 hr_1 c_2
    refine lv_aload_n hx hb dX9_region_8 rfl (lv_at hl 0 rfl) ?_
    refine lv_iload_n hx hb dX9_region_9 rfl (lv_at hl 1 rfl) ?_
    refine lv_iload_n hx hb dX9_region_10 rfl (lv_at hl 2 rfl) ?_
    refine lv_iload_n hx hb dX9_region_11 rfl (lv_at hl 3 rfl) ?_
    have hPc := hP.sub (ws' := [(h0, .inr (9, [.ref m1, .ref m2, .ref m3, .int ik, .int wy, .int op, .int cl, .int cx0, .int cx1, .int cy0, .int cy1, .int ds, .ref m4, .ref m5, .ref m6, .ref m7, .ref m8, .ref m9, .int pn, .ref m10, .ref m11, .ref m12, .ref m13])), (m1, .inl (cI, 4, .inl gw)), (m2, .inl (cI, 4, .inl gh))]) [4, 5, 0] rfl
    have hDc := hD.sub (ws' := [(h0, .inr (9, [.ref m1, .ref m2, .ref m3, .int ik, .int wy, .int op, .int cl, .int cx0, .int cx1, .int cy0, .int cy1, .int ds, .ref m4, .ref m5, .ref m6, .ref m7, .ref m8, .ref m9, .int pn, .ref m10, .ref m11, .ref m12, .ref m13])), (m1, .inl (cI, 4, .inl gw)), (m2, .inl (cI, 4, .inl gh))]) [4, 5, 0] (by decide) rfl
    have hKc := hK.sub (tys' := [(cI, .int)]) [0] rfl
    have hFc := va_free (wc := [(h0, .inr (9, [.ref m1, .ref m2, .ref m3, .int ik, .int wy, .int op, .int cl, .int cx0, .int cx1, .int cy0, .int cy1, .int ds, .ref m4, .ref m5, .ref m6, .ref m7, .ref m8, .ref m9, .int pn, .ref m10, .ref m11, .ref m12, .ref m13])), (m1, .inl (cI, 4, .inl gw)), (m2, .inl (cI, 4, .inl gh))]) hD hS hA [4, 5, 0] rfl
    refine va_calli (va_runV (As := [.int k, .int x, .int y]) (rest := []) ⟨hx, hb, hml, hown, hts⟩ (k_X9_isOn l D H.size h0 m1 m2 m3 m4 m5 m6 m7 m8 m9 m10 m11 m12 m13 ik wy op cl cx0 cx1 cy0 cy1 ds pn gw gh k x y cI (by omega)) (cwV 3 hts (gV bw_433 bw_418 bw_419 bw_391 bw_417) rfl rfl rfl (by decide +kernel) ⟨(by rw [hR]; exact Nat.le_of_ble_eq_true rfl), (by rw [hR]; exact Nat.le_of_ble_eq_true rfl)⟩) ⟨cP_blind, va_recv hKc hPc (ci := 9) (q0 := 0) rfl rfl, cP_at hPc hKc hDc hN⟩ rfl rfl hl.1 rfl (lv_room (Nat.le_of_ble_eq_true rfl)) dX9_region_12 ⟨(by rw [hR]; exact Nat.le_of_ble_eq_true rfl), (by rw [hR]; exact Nat.le_of_ble_eq_true rfl)⟩) hS (fun q _ h => hFc q h) hFc (fun r_4 u9 t9 H1 locs ht hvm hr_4 hB hz1 hk1 hS => ?_)
    try dsimp only at hr_4
    obtain ⟨hP1, hK1, hD1⟩ := hB
    rw [ht] at hP1
    obtain ⟨hP, hD⟩ := va_join (wr := [(m3, .inl (cI, 16384, .inl gd)), (m4, .inl (cZ, 4096, .inl gm)), (m13, .inl (cI, 4096, .inl wt))]) (w1 := [(h0, .inr (9, [.ref m1, .ref m2, .ref m3, .int ik, .int wy, .int op, .int cl, .int cx0, .int cx1, .int cy0, .int cy1, .int ds, .ref m4, .ref m5, .ref m6, .ref m7, .ref m8, .ref m9, .int pn, .ref m10, .ref m11, .ref m12, .ref m13])), (m1, .inl (cI, 4, .inl gw)), (m2, .inl (cI, 4, .inl gh))]) hP hD [4, 5, 0] [1, 2, 3] rfl rfl (by decide) (by decide) hk1 hFc hP1 hD1
    clear hz1 hk1 hFc hKc hDc hPc
    generalize H1 = H at hP hS ⊢
    have hP : va_P D vwCl [(m3, .inl (cI, 16384, .inl gd)), (m4, .inl (cZ, 4096, .inl gm)), (m13, .inl (cI, 4096, .inl wt)), (h0, .inr (9, [.ref m1, .ref m2, .ref m3, .int ik, .int wy, .int op, .int cl, .int cx0, .int cx1, .int cy0, .int cy1, .int ds, .ref m4, .ref m5, .ref m6, .ref m7, .ref m8, .ref m9, .int pn, .ref m10, .ref m11, .ref m12, .ref m13])), (m1, .inl (cI, 4, .inl gw)), (m2, .inl (cI, 4, .inl gh))] H := hP
    have hD : va_D A [(m3, .inl (cI, 16384, .inl gd)), (m4, .inl (cZ, 4096, .inl gm)), (m13, .inl (cI, 4096, .inl wt)), (h0, .inr (9, [.ref m1, .ref m2, .ref m3, .int ik, .int wy, .int op, .int cl, .int cx0, .int cx1, .int cy0, .int cy1, .int ds, .ref m4, .ref m5, .ref m6, .ref m7, .ref m8, .ref m9, .int pn, .ref m10, .ref m11, .ref m12, .ref m13])), (m1, .inl (cI, 4, .inl gw)), (m2, .inl (cI, 4, .inl gh))] := hD
    refine lv_if_ne (tgt := 20) hx hb dX9_region_15 (by decide) (fun c_5 => ?_) (fun c_5 => ?_)
    · skip
      have f_6 := bz1 hr_4 c_5
      refine lv_aload_n hx hb dX9_region_20 rfl (lv_at hl 0 rfl) ?_
      refine lv_iload_n hx hb dX9_region_21 rfl (lv_at hl 1 rfl) ?_
      refine lv_iload_n hx hb dX9_region_22 rfl (lv_at hl 2 rfl) ?_
      refine lv_iload_n hx hb dX9_region_23 rfl (lv_at hl 3 rfl) ?_
      refine lv_iload hx hb dX9_region_24 (lv_at hl 4 rfl) ?_
      refine lv_iconst (v := 0) hx hb dX9_region_26 (by decide) ?_
      have hPc := hP.sub (ws' := [(h0, .inr (9, [.ref m1, .ref m2, .ref m3, .int ik, .int wy, .int op, .int cl, .int cx0, .int cx1, .int cy0, .int cy1, .int ds, .ref m4, .ref m5, .ref m6, .ref m7, .ref m8, .ref m9, .int pn, .ref m10, .ref m11, .ref m12, .ref m13])), (m1, .inl (cI, 4, .inl gw)), (m2, .inl (cI, 4, .inl gh)), (m3, .inl (cI, 16384, .inl gd)), (m4, .inl (cZ, 4096, .inl gm)), (m13, .inl (cI, 4096, .inl wt))]) [3, 4, 5, 0, 1, 2] rfl
      have hDc := hD.sub (ws' := [(h0, .inr (9, [.ref m1, .ref m2, .ref m3, .int ik, .int wy, .int op, .int cl, .int cx0, .int cx1, .int cy0, .int cy1, .int ds, .ref m4, .ref m5, .ref m6, .ref m7, .ref m8, .ref m9, .int pn, .ref m10, .ref m11, .ref m12, .ref m13])), (m1, .inl (cI, 4, .inl gw)), (m2, .inl (cI, 4, .inl gh)), (m3, .inl (cI, 16384, .inl gd)), (m4, .inl (cZ, 4096, .inl gm)), (m13, .inl (cI, 4096, .inl wt))]) [3, 4, 5, 0, 1, 2] (by decide) rfl
      have hKc := hK.sub (tys' := [(cI, .int), (cZ, .boolean)]) [0, 1] rfl
      have hFc := va_free (wc := [(h0, .inr (9, [.ref m1, .ref m2, .ref m3, .int ik, .int wy, .int op, .int cl, .int cx0, .int cx1, .int cy0, .int cy1, .int ds, .ref m4, .ref m5, .ref m6, .ref m7, .ref m8, .ref m9, .int pn, .ref m10, .ref m11, .ref m12, .ref m13])), (m1, .inl (cI, 4, .inl gw)), (m2, .inl (cI, 4, .inl gh)), (m3, .inl (cI, 16384, .inl gd)), (m4, .inl (cZ, 4096, .inl gm)), (m13, .inl (cI, 4096, .inl wt))]) hD hS hA [3, 4, 5, 0, 1, 2] rfl
      refine va_callv (va_runV (As := [.int k, .int x, .int y, .int co, .int 0]) (rest := []) ⟨hx, hb, hml, hown, hts⟩ (k_X9_joins_e l D H.size h0 m1 m2 m3 m4 m5 m6 m7 m8 m9 m10 m11 m12 m13 ik wy op cl cx0 cx1 cy0 cy1 ds pn gw gh gd gm wt k x y co 0 cI cZ (by omega) hgw hgh hon hcx) (cwV 5 hts (gV bw_555 bw_549 bw_550 bw_391 bw_548) rfl rfl rfl (by decide +kernel) ⟨(by rw [hR]; exact Nat.le_of_ble_eq_true rfl), (by rw [hR]; exact Nat.le_of_ble_eq_true rfl)⟩) ⟨cP_blind, va_recv hKc hPc (ci := 9) (q0 := 0) rfl rfl, cP_at hPc hKc hDc hN⟩ rfl rfl hl.1 rfl (lv_room (Nat.le_of_ble_eq_true rfl)) dX9_region_27 ⟨(by rw [hR]; exact Nat.le_of_ble_eq_true rfl), (by rw [hR]; exact Nat.le_of_ble_eq_true rfl)⟩) hS (fun q _ h => hFc q h) hFc (fun u9 t9 H1 locs ht hvm hr_7 hB hz1 hk1 hS => ?_)
      try dsimp only at hr_7
      obtain ⟨g_8, g_9, b_10, b_11, hP1, hK1, hD1⟩ := hB
      rw [ht] at hP1
      obtain ⟨hP, hD⟩ := va_join (wr := []) (w1 := [(h0, .inr (9, [.ref m1, .ref m2, .ref m3, .int ik, .int wy, .int op, .int cl, .int cx0, .int cx1, .int cy0, .int cy1, .int ds, .ref m4, .ref m5, .ref m6, .ref m7, .ref m8, .ref m9, .int pn, .ref m10, .ref m11, .ref m12, .ref m13])), (m1, .inl (cI, 4, .inl gw)), (m2, .inl (cI, 4, .inl gh)), (m3, .inl (cI, 16384, .inl gd)), (m4, .inl (cZ, 4096, .inl g_8)), (m13, .inl (cI, 4096, .inl g_9))]) hP hD [3, 4, 5, 0, 1, 2] [] rfl rfl (by decide) (by decide) hk1 hFc hP1 hD1
      clear hz1 hk1 hFc hKc hDc hPc
      generalize H1 = H at hP hS ⊢
      have hP : va_P D vwCl [(h0, .inr (9, [.ref m1, .ref m2, .ref m3, .int ik, .int wy, .int op, .int cl, .int cx0, .int cx1, .int cy0, .int cy1, .int ds, .ref m4, .ref m5, .ref m6, .ref m7, .ref m8, .ref m9, .int pn, .ref m10, .ref m11, .ref m12, .ref m13])), (m1, .inl (cI, 4, .inl gw)), (m2, .inl (cI, 4, .inl gh)), (m3, .inl (cI, 16384, .inl gd)), (m4, .inl (cZ, 4096, .inl g_8)), (m13, .inl (cI, 4096, .inl g_9))] H := hP
      have hD : va_D A [(h0, .inr (9, [.ref m1, .ref m2, .ref m3, .int ik, .int wy, .int op, .int cl, .int cx0, .int cx1, .int cy0, .int cy1, .int ds, .ref m4, .ref m5, .ref m6, .ref m7, .ref m8, .ref m9, .int pn, .ref m10, .ref m11, .ref m12, .ref m13])), (m1, .inl (cI, 4, .inl gw)), (m2, .inl (cI, 4, .inl gh)), (m3, .inl (cI, 16384, .inl gd)), (m4, .inl (cZ, 4096, .inl g_8)), (m13, .inl (cI, 4096, .inl g_9))] := hD
      refine lv_iconst (v := 0) hx hb dX9_region_30 (by decide) ?_
      refine lv_istore (lv' := [(5, .int 0), (0, .ref h0), (1, .int k), (2, .int x), (3, .int y), (4, .int co)]) hx hb dX9_region_31 hl (by decide) rfl (fun ls hl => ?_)
      refine lv_iconst (v := 0) hx hb dX9_region_33 (by decide) ?_
      refine lv_istore (lv' := [(6, .int 0), (5, .int 0), (0, .ref h0), (1, .int k), (2, .int x), (3, .int y), (4, .int co)]) hx hb dX9_region_34 hl (by decide) rfl (fun ls hl => ?_)
      have loop_12 : ∀ (n : Nat) (i : Nat) (x6 : Int32) (x5 : Int32) (H : Heap) (locs : List Loc) (ls : Array Slot), (i ≤ 4096) → (4096 + 1 ≤ i + n) → (x6 = nI i) → (x5 = nI (cntP g_8 i)) → va_P D vwCl [(h0, .inr (9, [.ref m1, .ref m2, .ref m3, .int ik, .int wy, .int op, .int cl, .int cx0, .int cx1, .int cy0, .int cy1, .int ds, .ref m4, .ref m5, .ref m6, .ref m7, .ref m8, .ref m9, .int pn, .ref m10, .ref m11, .ref m12, .ref m13])), (m1, .inl (cI, 4, .inl gw)), (m2, .inl (cI, 4, .inl gh)), (m3, .inl (cI, 16384, .inl gd)), (m4, .inl (cZ, 4096, .inl g_8)), (m13, .inl (cI, 4096, .inl g_9))] H → va_D A [(h0, .inr (9, [.ref m1, .ref m2, .ref m3, .int ik, .int wy, .int op, .int cl, .int cx0, .int cx1, .int cy0, .int cy1, .int ds, .ref m4, .ref m5, .ref m6, .ref m7, .ref m8, .ref m9, .int pn, .ref m10, .ref m11, .ref m12, .ref m13])), (m1, .inl (cI, 4, .inl gw)), (m2, .inl (cI, 4, .inl gh)), (m3, .inl (cI, 16384, .inl gd)), (m4, .inl (cZ, 4096, .inl g_8)), (m13, .inl (cI, 4096, .inl g_9))] → va_S A s.heap H locs → lv_has ls 7 [(6, .int x6), (5, .int x5), (0, .ref h0), (1, .int k), (2, .int x), (3, .int y), (4, .int co)] → W p l e R s m ([.ref h0, .int k, .int x, .int y, .int co] : List Value).toArray below meth c H locs 0 0 Q (F0 m 36 ls []) := by
        intro n
        induction n with
        | zero =>
          intro i x6 x5 H locs ls hi_i hm_i ex_i et hP hD hS hl
          exact absurd (show False by omega) not_false
        | succ n ih_13 =>
          intro i x6 x5 H locs ls hi_i hm_i ex_i et hP hD hS hl
          have hx_i : x6.toInt = (i : Int) := by rw [ex_i]; exact nI_toInt (by omega)
          have hc_i : x6.toNatClampNeg = i := by rw [ex_i]; exact nI_clamp (by omega)
          refine lv_iload hx hb dX9_region_36 (lv_at hl 0 rfl) ?_
          refine lv_sipush (v := 4096) hx hb dX9_region_38 (by decide) ?_
          refine lv_icmp_ge (tgt := 70) hx hb dX9_region_41 (by decide) (fun c_14 => ?_) (fun c_14 => ?_)
          · skip
            have f_15 : 4096 ≤ (i : Int) := f_le (by decide) hx_i c_14
            refine lv_iload hx hb dX9_region_70 (lv_at hl 1 rfl) ?_
            have hP9 := hP.sub (ws' := [(h0, .inr (9, [.ref m1, .ref m2, .ref m3, .int ik, .int wy, .int op, .int cl, .int cx0, .int cx1, .int cy0, .int cy1, .int ds, .ref m4, .ref m5, .ref m6, .ref m7, .ref m8, .ref m9, .int pn, .ref m10, .ref m11, .ref m12, .ref m13])), (m1, .inl (cI, 4, .inl gw)), (m2, .inl (cI, 4, .inl gh)), (m3, .inl (cI, 16384, .inl gd)), (m4, .inl (cZ, 4096, .inl g_8)), (m13, .inl (cI, 4096, .inl g_9))]) [0, 1, 2, 3, 4, 5] rfl
            have hD9 := hD.sub (ws' := [(h0, .inr (9, [.ref m1, .ref m2, .ref m3, .int ik, .int wy, .int op, .int cl, .int cx0, .int cx1, .int cy0, .int cy1, .int ds, .ref m4, .ref m5, .ref m6, .ref m7, .ref m8, .ref m9, .int pn, .ref m10, .ref m11, .ref m12, .ref m13])), (m1, .inl (cI, 4, .inl gw)), (m2, .inl (cI, 4, .inl gh)), (m3, .inl (cI, 16384, .inl gd)), (m4, .inl (cZ, 4096, .inl g_8)), (m13, .inl (cI, 4096, .inl g_9))]) [0, 1, 2, 3, 4, 5] (by decide) rfl
            have hK9 := hK.sub (tys' := [(cI, .int), (cZ, .boolean)]) [0, 1] rfl
            refine hQ _ _ _ _ _ ?_
            exact W.iret (v := x5) hx hb hr (fun t ht hW => ⟨⟨x5, (), rfl, (by rw [et, show i = 4096 by omega, b_11]), ⟨g_8, g_9, by rw [ht]; exact hP9, va_K.moved hW.alike hK9, hD9⟩⟩, hS.F ht⟩) hS.2.2 dX9_region_72
          · skip
            have f_15 : ¬ (4096 ≤ (i : Int)) := fn_le (by decide) hx_i c_14
            refine lv_iload hx hb dX9_region_44 (lv_at hl 1 rfl) ?_
            refine lv_aload_n hx hb dX9_region_46 rfl (lv_at hl 2 rfl) ?_
            refine va_get (D := D) (ci := 9) (v := .ref m4) (C := RX9) (T := TX9) (N := 23) hx hb hts hi_X9 hown hK hP 0 rfl rfl 12 (by decide) (hts _ bw_404) (fun _ h9 => h9) rfl dX9_region_47 ?_
            refine lv_iload hx hb dX9_region_50 (lv_at hl 0 rfl) ?_
            refine va_zald hx hb hK hP 4 1 rfl rfl (vp_in_iff.mpr ⟨by omega, by omega⟩) dX9_region_52 ?_
            refine my_fold (v := g_8 i) (congrArg g_8 hc_i) ?_
            refine lv_if_eq (tgt := 60) hx hb dX9_region_53 (by decide) (fun c_16 => ?_) (fun c_16 => ?_)
            · skip
              have f_17 : (g_8 i).toInt = 0 := f_eq rfl (by decide) c_16
              refine lv_iconst (v := 0) hx hb dX9_region_60 (by decide) ?_
              refine lv_iadd hx hb dX9_region_61 ?_
              refine lv_topi (fun y_18 ey_18 => ?_)
              refine lv_istore (lv' := [(5, .int y_18), (6, .int x6), (0, .ref h0), (1, .int k), (2, .int x), (3, .int y), (4, .int co)]) hx hb dX9_region_62 hl (by decide) rfl (fun ls hl => ?_)
              obtain ⟨y_19, ey_19⟩ : ∃ y : Int32, y = x6 + 1 := ⟨_, rfl⟩
              refine lv_iinc (v := y_19) (lv' := [(6, .int y_19), (5, .int y_18), (0, .ref h0), (1, .int k), (2, .int x), (3, .int y), (4, .int co)]) hx hb dX9_region_64 hl (k := 1) rfl (by rw [ey_19]; rfl) (by decide) rfl (fun ls hl => ?_)
              refine lv_goto (tgt := 36) hx hb dX9_region_67 (by decide) ?_
              exact ih_13 (i + 1) y_19 y_18 _ _ _ (by omega) (by omega) (by rw [ey_19, ex_i]; exact nI_1 i) (by rw [ey_18, et, cnt_skip c_16, Int32.add_zero]) (hP.sub (ws' := [(h0, .inr (9, [.ref m1, .ref m2, .ref m3, .int ik, .int wy, .int op, .int cl, .int cx0, .int cx1, .int cy0, .int cy1, .int ds, .ref m4, .ref m5, .ref m6, .ref m7, .ref m8, .ref m9, .int pn, .ref m10, .ref m11, .ref m12, .ref m13])), (m1, .inl (cI, 4, .inl gw)), (m2, .inl (cI, 4, .inl gh)), (m3, .inl (cI, 16384, .inl gd)), (m4, .inl (cZ, 4096, .inl g_8)), (m13, .inl (cI, 4096, .inl g_9))]) [0, 1, 2, 3, 4, 5] rfl) (hD.sub (ws' := [(h0, .inr (9, [.ref m1, .ref m2, .ref m3, .int ik, .int wy, .int op, .int cl, .int cx0, .int cx1, .int cy0, .int cy1, .int ds, .ref m4, .ref m5, .ref m6, .ref m7, .ref m8, .ref m9, .int pn, .ref m10, .ref m11, .ref m12, .ref m13])), (m1, .inl (cI, 4, .inl gw)), (m2, .inl (cI, 4, .inl gh)), (m3, .inl (cI, 16384, .inl gd)), (m4, .inl (cZ, 4096, .inl g_8)), (m13, .inl (cI, 4096, .inl g_9))]) [0, 1, 2, 3, 4, 5] (by decide) rfl) hS (lv_sub hl [0, 1, 2, 3, 4, 5, 6] rfl)
            · skip
              have f_17 : ¬ ((g_8 i).toInt = 0) := fn_eq rfl (by decide) c_16
              refine lv_iconst (v := 1) hx hb dX9_region_56 (by decide) ?_
              refine lv_goto (tgt := 61) hx hb dX9_region_57 (by decide) ?_
              refine lv_iadd hx hb dX9_region_61 ?_
              refine lv_topi (fun y_20 ey_20 => ?_)
              refine lv_istore (lv' := [(5, .int y_20), (6, .int x6), (0, .ref h0), (1, .int k), (2, .int x), (3, .int y), (4, .int co)]) hx hb dX9_region_62 hl (by decide) rfl (fun ls hl => ?_)
              obtain ⟨y_21, ey_21⟩ : ∃ y : Int32, y = x6 + 1 := ⟨_, rfl⟩
              refine lv_iinc (v := y_21) (lv' := [(6, .int y_21), (5, .int y_20), (0, .ref h0), (1, .int k), (2, .int x), (3, .int y), (4, .int co)]) hx hb dX9_region_64 hl (k := 1) rfl (by rw [ey_21]; rfl) (by decide) rfl (fun ls hl => ?_)
              refine lv_goto (tgt := 36) hx hb dX9_region_67 (by decide) ?_
              exact ih_13 (i + 1) y_21 y_20 _ _ _ (by omega) (by omega) (by rw [ey_21, ex_i]; exact nI_1 i) (by rw [ey_20, et, cnt_up c_16]; exact nI_1 _) (hP.sub (ws' := [(h0, .inr (9, [.ref m1, .ref m2, .ref m3, .int ik, .int wy, .int op, .int cl, .int cx0, .int cx1, .int cy0, .int cy1, .int ds, .ref m4, .ref m5, .ref m6, .ref m7, .ref m8, .ref m9, .int pn, .ref m10, .ref m11, .ref m12, .ref m13])), (m1, .inl (cI, 4, .inl gw)), (m2, .inl (cI, 4, .inl gh)), (m3, .inl (cI, 16384, .inl gd)), (m4, .inl (cZ, 4096, .inl g_8)), (m13, .inl (cI, 4096, .inl g_9))]) [0, 1, 2, 3, 4, 5] rfl) (hD.sub (ws' := [(h0, .inr (9, [.ref m1, .ref m2, .ref m3, .int ik, .int wy, .int op, .int cl, .int cx0, .int cx1, .int cy0, .int cy1, .int ds, .ref m4, .ref m5, .ref m6, .ref m7, .ref m8, .ref m9, .int pn, .ref m10, .ref m11, .ref m12, .ref m13])), (m1, .inl (cI, 4, .inl gw)), (m2, .inl (cI, 4, .inl gh)), (m3, .inl (cI, 16384, .inl gd)), (m4, .inl (cZ, 4096, .inl g_8)), (m13, .inl (cI, 4096, .inl g_9))]) [0, 1, 2, 3, 4, 5] (by decide) rfl) hS (lv_sub hl [0, 1, 2, 3, 4, 5, 6] rfl)
      exact loop_12 (4096 + 1) 0 0 0 _ _ _ (by omega) (by omega) nI_0.symm rfl hP hD hS (lv_sub hl [0, 1, 2, 3, 4, 5, 6] rfl)
    · skip
      have f_6 := bz0 hr_4 c_5
      exact False.elim (by omega)

set_option maxHeartbeats 4000000 in
set_option maxRecDepth 100000 in
theorem k_X9_copy_ye (l : Launch) (D : va_G) (sz : Nat) (h0 m1 m2 m3 m4 m5 m6 m7 m8 m9 m10 m11 m12 m13 : Nat) (ik wy op cl cx0 cx1 cy0 cy1 ds pn : Int32) (gw : Nat → Int32) (gh : Nat → Int32) (gd : Nat → Int32) (gm : Nat → Int32) (ge : Nat → Int32) (gv : Nat → Int32) (k ax ay aw ah kq ox oy : Int32) (cI : ClassId) (cZ : ClassId) (hgkw : 0 ≤ (gw k.toNatClampNeg).toInt ∧ (gw k.toNatClampNeg).toInt ≤ 64) (hgkh : 0 ≤ (gh k.toNatClampNeg).toInt ∧ (gh k.toNatClampNeg).toInt ≤ 64) (hgqw : 0 ≤ (gw kq.toNatClampNeg).toInt ∧ (gw kq.toNatClampNeg).toInt ≤ 64) (hgqh : 0 ≤ (gh kq.toNatClampNeg).toInt ∧ (gh kq.toNatClampNeg).toInt ≤ 64) (hwy : 0 ≤ wy.toInt ∧ wy.toInt ≤ 12) (hcd : ((0 ≤ k.toInt ∧ k.toInt ≤ 3 ∧ 0 < (gw k.toNatClampNeg).toInt) ∧ (0 ≤ kq.toInt ∧ kq.toInt ≤ 3 ∧ 0 < (gw kq.toNatClampNeg).toInt)) ∧ ((0 ≤ aw.toInt ∧ aw.toInt ≤ 64) ∧ (0 ≤ ah.toInt ∧ ah.toInt ≤ 64)) ∧ ((-200 ≤ ax.toInt ∧ ax.toInt ≤ 200) ∧ (-200 ≤ ay.toInt ∧ ay.toInt ≤ 200) ∧ (-200 ≤ ox.toInt ∧ ox.toInt ≤ 200) ∧ (-200 ≤ oy.toInt ∧ oy.toInt ≤ 200))) : Met l yX9_copy (wB yX9_copy cX9_copy 11 (some .int)) ({ frames := 3, cells := 0, slots := 0, locals := 73 }) (cP D [(h0, .inr (9, [.ref m1, .ref m2, .ref m3, .int ik, .int wy, .int op, .int cl, .int cx0, .int cx1, .int cy0, .int cy1, .int ds, .ref m4, .ref m5, .ref m6, .ref m7, .ref m8, .ref m9, .int pn, .ref m10, .ref m11, .ref m12, .ref m13])), (m1, .inl (cI, 4, .inl gw)), (m2, .inl (cI, 4, .inl gh)), (m3, .inl (cI, 16384, .inl gd)), (m4, .inl (cZ, 4096, .inl gm)), (m5, .inl (cI, 4096, .inl ge)), (m6, .inl (cI, 4096, .inl gv))] [(cI, .int), (cZ, .boolean)] sz [.ref h0, .int k, .int ax, .int ay, .int aw, .int ah, .int kq, .int ox, .int oy]) (va_Qi (fun (r : Int32) (_ : Unit) => r = nI (cntP ((gL (cyQ ax ay aw ah ox oy aw ah (gw k.toNatClampNeg) (gh k.toNatClampNeg) op (fun t => gd (4096 * k.toNatClampNeg + t))) aw.toNatClampNeg ah.toNatClampNeg).foldl (mkF (gw kq.toNatClampNeg) (gh kq.toNatClampNeg) cl cx0 cx1 cy0 cy1) (zrN gm 4096, ge, gv)).1 4096)) (fun (_ : Unit) (t : State) => cB D (va_A [(h0, .inr (9, [.ref m1, .ref m2, .ref m3, .int ik, .int wy, .int op, .int cl, .int cx0, .int cx1, .int cy0, .int cy1, .int ds, .ref m4, .ref m5, .ref m6, .ref m7, .ref m8, .ref m9, .int pn, .ref m10, .ref m11, .ref m12, .ref m13])), (m1, .inl (cI, 4, .inl gw)), (m2, .inl (cI, 4, .inl gh)), (m3, .inl (cI, 16384, .inl gd)), (m4, .inl (cZ, 4096, .inl gm)), (m5, .inl (cI, 4096, .inl ge)), (m6, .inl (cI, 4096, .inl gv))] sz) [(h0, .inr (9, [.ref m1, .ref m2, .ref m3, .int ik, .int wy, .int op, .int cl, .int cx0, .int cx1, .int cy0, .int cy1, .int ds, .ref m4, .ref m5, .ref m6, .ref m7, .ref m8, .ref m9, .int pn, .ref m10, .ref m11, .ref m12, .ref m13])), (m1, .inl (cI, 4, .inl gw)), (m2, .inl (cI, 4, .inl gh)), (m3, .inl (cI, 16384, .inl (lysN wy gd ((gL (cyQ ax ay aw ah ox oy aw ah (gw k.toNatClampNeg) (gh k.toNatClampNeg) op (fun t => gd (4096 * k.toNatClampNeg + t))) aw.toNatClampNeg ah.toNatClampNeg).foldl (mkF (gw kq.toNatClampNeg) (gh kq.toNatClampNeg) cl cx0 cx1 cy0 cy1) (zrN gm 4096, ge, gv)).1 ((gL (cyQ ax ay aw ah ox oy aw ah (gw k.toNatClampNeg) (gh k.toNatClampNeg) op (fun t => gd (4096 * k.toNatClampNeg + t))) aw.toNatClampNeg ah.toNatClampNeg).foldl (mkF (gw kq.toNatClampNeg) (gh kq.toNatClampNeg) cl cx0 cx1 cy0 cy1) (zrN gm 4096, ge, gv)).2.1 ((gL (cyQ ax ay aw ah ox oy aw ah (gw k.toNatClampNeg) (gh k.toNatClampNeg) op (fun t => gd (4096 * k.toNatClampNeg + t))) aw.toNatClampNeg ah.toNatClampNeg).foldl (mkF (gw kq.toNatClampNeg) (gh kq.toNatClampNeg) cl cx0 cx1 cy0 cy1) (zrN gm 4096, ge, gv)).2.2 kq.toNatClampNeg 4096))), (m4, .inl (cZ, 4096, .inl (((gL (cyQ ax ay aw ah ox oy aw ah (gw k.toNatClampNeg) (gh k.toNatClampNeg) op (fun t => gd (4096 * k.toNatClampNeg + t))) aw.toNatClampNeg ah.toNatClampNeg).foldl (mkF (gw kq.toNatClampNeg) (gh kq.toNatClampNeg) cl cx0 cx1 cy0 cy1) (zrN gm 4096, ge, gv)).1))), (m5, .inl (cI, 4096, .inl (((gL (cyQ ax ay aw ah ox oy aw ah (gw k.toNatClampNeg) (gh k.toNatClampNeg) op (fun t => gd (4096 * k.toNatClampNeg + t))) aw.toNatClampNeg ah.toNatClampNeg).foldl (mkF (gw kq.toNatClampNeg) (gh kq.toNatClampNeg) cl cx0 cx1 cy0 cy1) (zrN gm 4096, ge, gv)).2.1))), (m6, .inl (cI, 4096, .inl (((gL (cyQ ax ay aw ah ox oy aw ah (gw k.toNatClampNeg) (gh k.toNatClampNeg) op (fun t => gd (4096 * k.toNatClampNeg + t))) aw.toNatClampNeg ah.toNatClampNeg).foldl (mkF (gw kq.toNatClampNeg) (gh kq.toNatClampNeg) cl cx0 cx1 cy0 cy1) (zrN gm 4096, ge, gv)).2.2)))] [(cI, .int), (cZ, .boolean)] t) (va_A [(h0, .inr (9, [.ref m1, .ref m2, .ref m3, .int ik, .int wy, .int op, .int cl, .int cx0, .int cx1, .int cy0, .int cy1, .int ds, .ref m4, .ref m5, .ref m6, .ref m7, .ref m8, .ref m9, .int pn, .ref m10, .ref m11, .ref m12, .ref m13])), (m1, .inl (cI, 4, .inl gw)), (m2, .inl (cI, 4, .inl gh)), (m3, .inl (cI, 16384, .inl gd)), (m4, .inl (cZ, 4096, .inl gm)), (m5, .inl (cI, 4096, .inl ge)), (m6, .inl (cI, 4096, .inl gv))] sz)) 0 0 (va_A [(h0, .inr (9, [.ref m1, .ref m2, .ref m3, .int ik, .int wy, .int op, .int cl, .int cx0, .int cx1, .int cy0, .int cy1, .int ds, .ref m4, .ref m5, .ref m6, .ref m7, .ref m8, .ref m9, .int pn, .ref m10, .ref m11, .ref m12, .ref m13])), (m1, .inl (cI, 4, .inl gw)), (m2, .inl (cI, 4, .inl gh)), (m3, .inl (cI, 16384, .inl gd)), (m4, .inl (cZ, 4096, .inl gm)), (m5, .inl (cI, 4096, .inl ge)), (m6, .inl (cI, 4096, .inl gv))] sz) := by
  refine Met.ofW (cc := cX9_copy) (maxL := 11) (ret := (some .int)) (by decide) rfl ?_
  intro p e s m args below meth c s₁ B hml hv
  obtain ⟨rfl, hsz, hP, hK, hD0, hN⟩ := hv
  have hx := B.exec
  have hb := B.bytes
  have hr := B.returns
  have hts0 := atoms_spec (ws := (wB yX9_copy cX9_copy 11 (some .int))) B.pre
  have hts : ∀ w ∈ bigW, w.before _ s = true := fun w h => hts0 w (List.mem_cons_of_mem _ h)
  have hown : s.vm.findClass RX9 = some m.cls := findClass_of_methodNamed B.named
  have hlocks := B.notSynchronized
  subst hsz
  have hD := hD0.self (sz := s.heap.size)
  generalize hAe : va_A [(h0, .inr (9, [.ref m1, .ref m2, .ref m3, .int ik, .int wy, .int op, .int cl, .int cx0, .int cx1, .int cy0, .int cy1, .int ds, .ref m4, .ref m5, .ref m6, .ref m7, .ref m8, .ref m9, .int pn, .ref m10, .ref m11, .ref m12, .ref m13])), (m1, .inl (cI, 4, .inl gw)), (m2, .inl (cI, 4, .inl gh)), (m3, .inl (cI, 16384, .inl gd)), (m4, .inl (cZ, 4096, .inl gm)), (m5, .inl (cI, 4096, .inl ge)), (m6, .inl (cI, 4096, .inl gv))] s.heap.size = A at hD ⊢
  have hA : ∀ q : Nat, s.heap.size ≤ q → A q := fun q h => by rw [← hAe]; exact Or.inr h
  have hS : va_S A s.heap s.heap [] := va_S.rf
  have hP : va_P D vwCl [(h0, .inr (9, [.ref m1, .ref m2, .ref m3, .int ik, .int wy, .int op, .int cl, .int cx0, .int cx1, .int cy0, .int cy1, .int ds, .ref m4, .ref m5, .ref m6, .ref m7, .ref m8, .ref m9, .int pn, .ref m10, .ref m11, .ref m12, .ref m13])), (m1, .inl (cI, 4, .inl gw)), (m2, .inl (cI, 4, .inl gh)), (m3, .inl (cI, 16384, .inl gd)), (m4, .inl (cZ, 4096, .inl gm)), (m5, .inl (cI, 4096, .inl ge)), (m6, .inl (cI, 4096, .inl gv))] s.heap := hP
  have hl := lv_entry ([.ref h0, .int k, .int ax, .int ay, .int aw, .int ah, .int kq, .int ox, .int oy]) (n := 11) (Nat.le_of_ble_eq_true rfl)
  rw [lg_entry_eq]
  generalize (lg_sl ([.ref h0, .int k, .int ax, .int ay, .int aw, .int ah, .int kq, .int ox, .int oy]) ++ List.replicate (11 - (lg_sl ([.ref h0, .int k, .int ax, .int ay, .int aw, .int ah, .int kq, .int ox, .int oy])).length) Slot.unset).toArray = ls at hl ⊢
  have hl : lv_has ls 11 [(0, .ref h0), (1, .int k), (2, .int ax), (3, .int ay), (4, .int aw), (5, .int ah), (6, .int kq), (7, .int ox), (8, .int oy)] := hl
  clear hts0 hD0 hAe
  refine my_abs (fun R Q hR hQ => ?_)
  refine lv_aload_n hx hb dX9_copy_0 rfl (lv_at hl 0 rfl) ?_
  refine lv_iload_n hx hb dX9_copy_1 rfl (lv_at hl 1 rfl) ?_
  have hPc := hP.sub (ws' := [(h0, .inr (9, [.ref m1, .ref m2, .ref m3, .int ik, .int wy, .int op, .int cl, .int cx0, .int cx1, .int cy0, .int cy1, .int ds, .ref m4, .ref m5, .ref m6, .ref m7, .ref m8, .ref m9, .int pn, .ref m10, .ref m11, .ref m12, .ref m13])), (m1, .inl (cI, 4, .inl gw))]) [0, 1] rfl
  have hDc := hD.sub (ws' := [(h0, .inr (9, [.ref m1, .ref m2, .ref m3, .int ik, .int wy, .int op, .int cl, .int cx0, .int cx1, .int cy0, .int cy1, .int ds, .ref m4, .ref m5, .ref m6, .ref m7, .ref m8, .ref m9, .int pn, .ref m10, .ref m11, .ref m12, .ref m13])), (m1, .inl (cI, 4, .inl gw))]) [0, 1] (by decide) rfl
  have hKc := hK.sub (tys' := [(cI, .int)]) [0] rfl
  have hFc := va_free (wc := [(h0, .inr (9, [.ref m1, .ref m2, .ref m3, .int ik, .int wy, .int op, .int cl, .int cx0, .int cx1, .int cy0, .int cy1, .int ds, .ref m4, .ref m5, .ref m6, .ref m7, .ref m8, .ref m9, .int pn, .ref m10, .ref m11, .ref m12, .ref m13])), (m1, .inl (cI, 4, .inl gw))]) hD hS hA [0, 1] rfl
  refine va_calli (va_runV (As := [.int k]) (rest := []) ⟨hx, hb, hml, hown, hts⟩ (k_X9_isSheet l D s.heap.size h0 m1 m2 m3 m4 m5 m6 m7 m8 m9 m10 m11 m12 m13 ik wy op cl cx0 cx1 cy0 cy1 ds pn gw k cI) (cwV 1 hts (gV bw_490 bw_415 bw_416 bw_391 bw_414) rfl rfl rfl (by decide +kernel) ⟨(by rw [hR]; exact Nat.le_of_ble_eq_true rfl), (by rw [hR]; exact Nat.le_of_ble_eq_true rfl)⟩) ⟨cP_blind, va_recv hKc hPc (ci := 9) (q0 := 0) rfl rfl, cP_at hPc hKc hDc hN⟩ rfl rfl hl.1 rfl (lv_room (Nat.le_of_ble_eq_true rfl)) dX9_copy_2 ⟨(by rw [hR]; exact Nat.le_of_ble_eq_true rfl), (by rw [hR]; exact Nat.le_of_ble_eq_true rfl)⟩) hS (fun q _ h => hFc q h) hFc (fun r_1 u9 t9 H1 locs ht hvm hr_1 hB hz1 hk1 hS => ?_)
  try dsimp only at hr_1
  obtain ⟨hP1, hK1, hD1⟩ := hB
  rw [ht] at hP1
  obtain ⟨hP, hD⟩ := va_join (wr := [(m2, .inl (cI, 4, .inl gh)), (m3, .inl (cI, 16384, .inl gd)), (m4, .inl (cZ, 4096, .inl gm)), (m5, .inl (cI, 4096, .inl ge)), (m6, .inl (cI, 4096, .inl gv))]) (w1 := [(h0, .inr (9, [.ref m1, .ref m2, .ref m3, .int ik, .int wy, .int op, .int cl, .int cx0, .int cx1, .int cy0, .int cy1, .int ds, .ref m4, .ref m5, .ref m6, .ref m7, .ref m8, .ref m9, .int pn, .ref m10, .ref m11, .ref m12, .ref m13])), (m1, .inl (cI, 4, .inl gw))]) hP hD [0, 1] [2, 3, 4, 5, 6] rfl rfl (by decide) (by decide) hk1 hFc hP1 hD1
  clear hz1 hk1 hFc hKc hDc hPc
  generalize H1 = H at hP hS ⊢
  have hP : va_P D vwCl [(m2, .inl (cI, 4, .inl gh)), (m3, .inl (cI, 16384, .inl gd)), (m4, .inl (cZ, 4096, .inl gm)), (m5, .inl (cI, 4096, .inl ge)), (m6, .inl (cI, 4096, .inl gv)), (h0, .inr (9, [.ref m1, .ref m2, .ref m3, .int ik, .int wy, .int op, .int cl, .int cx0, .int cx1, .int cy0, .int cy1, .int ds, .ref m4, .ref m5, .ref m6, .ref m7, .ref m8, .ref m9, .int pn, .ref m10, .ref m11, .ref m12, .ref m13])), (m1, .inl (cI, 4, .inl gw))] H := hP
  have hD : va_D A [(m2, .inl (cI, 4, .inl gh)), (m3, .inl (cI, 16384, .inl gd)), (m4, .inl (cZ, 4096, .inl gm)), (m5, .inl (cI, 4096, .inl ge)), (m6, .inl (cI, 4096, .inl gv)), (h0, .inr (9, [.ref m1, .ref m2, .ref m3, .int ik, .int wy, .int op, .int cl, .int cx0, .int cx1, .int cy0, .int cy1, .int ds, .ref m4, .ref m5, .ref m6, .ref m7, .ref m8, .ref m9, .int pn, .ref m10, .ref m11, .ref m12, .ref m13])), (m1, .inl (cI, 4, .inl gw))] := hD
  refine lv_if_eq (tgt := 59) hx hb dX9_copy_5 (by decide) (fun c_2 => ?_) (fun c_2 => ?_)
  · skip
    have f_3 := bz0 hr_1 c_2
    exact False.elim (by omega)
  · skip
    have f_3 := bz1 hr_1 c_2
    refine lv_aload_n hx hb dX9_copy_8 rfl (lv_at hl 0 rfl) ?_
    refine lv_iload hx hb dX9_copy_9 (lv_at hl 6 rfl) ?_
    have hPc := hP.sub (ws' := [(h0, .inr (9, [.ref m1, .ref m2, .ref m3, .int ik, .int wy, .int op, .int cl, .int cx0, .int cx1, .int cy0, .int cy1, .int ds, .ref m4, .ref m5, .ref m6, .ref m7, .ref m8, .ref m9, .int pn, .ref m10, .ref m11, .ref m12, .ref m13])), (m1, .inl (cI, 4, .inl gw))]) [5, 6] rfl
    have hDc := hD.sub (ws' := [(h0, .inr (9, [.ref m1, .ref m2, .ref m3, .int ik, .int wy, .int op, .int cl, .int cx0, .int cx1, .int cy0, .int cy1, .int ds, .ref m4, .ref m5, .ref m6, .ref m7, .ref m8, .ref m9, .int pn, .ref m10, .ref m11, .ref m12, .ref m13])), (m1, .inl (cI, 4, .inl gw))]) [5, 6] (by decide) rfl
    have hKc := hK.sub (tys' := [(cI, .int)]) [0] rfl
    have hFc := va_free (wc := [(h0, .inr (9, [.ref m1, .ref m2, .ref m3, .int ik, .int wy, .int op, .int cl, .int cx0, .int cx1, .int cy0, .int cy1, .int ds, .ref m4, .ref m5, .ref m6, .ref m7, .ref m8, .ref m9, .int pn, .ref m10, .ref m11, .ref m12, .ref m13])), (m1, .inl (cI, 4, .inl gw))]) hD hS hA [5, 6] rfl
    refine va_calli (va_runV (As := [.int kq]) (rest := []) ⟨hx, hb, hml, hown, hts⟩ (k_X9_isSheet l D H.size h0 m1 m2 m3 m4 m5 m6 m7 m8 m9 m10 m11 m12 m13 ik wy op cl cx0 cx1 cy0 cy1 ds pn gw kq cI) (cwV 1 hts (gV bw_490 bw_415 bw_416 bw_391 bw_414) rfl rfl rfl (by decide +kernel) ⟨(by rw [hR]; exact Nat.le_of_ble_eq_true rfl), (by rw [hR]; exact Nat.le_of_ble_eq_true rfl)⟩) ⟨cP_blind, va_recv hKc hPc (ci := 9) (q0 := 0) rfl rfl, cP_at hPc hKc hDc hN⟩ rfl rfl hl.1 rfl (lv_room (Nat.le_of_ble_eq_true rfl)) dX9_copy_11 ⟨(by rw [hR]; exact Nat.le_of_ble_eq_true rfl), (by rw [hR]; exact Nat.le_of_ble_eq_true rfl)⟩) hS (fun q _ h => hFc q h) hFc (fun r_4 u9 t9 H1 locs ht hvm hr_4 hB hz1 hk1 hS => ?_)
    try dsimp only at hr_4
    obtain ⟨hP1, hK1, hD1⟩ := hB
    rw [ht] at hP1
    obtain ⟨hP, hD⟩ := va_join (wr := [(m2, .inl (cI, 4, .inl gh)), (m3, .inl (cI, 16384, .inl gd)), (m4, .inl (cZ, 4096, .inl gm)), (m5, .inl (cI, 4096, .inl ge)), (m6, .inl (cI, 4096, .inl gv))]) (w1 := [(h0, .inr (9, [.ref m1, .ref m2, .ref m3, .int ik, .int wy, .int op, .int cl, .int cx0, .int cx1, .int cy0, .int cy1, .int ds, .ref m4, .ref m5, .ref m6, .ref m7, .ref m8, .ref m9, .int pn, .ref m10, .ref m11, .ref m12, .ref m13])), (m1, .inl (cI, 4, .inl gw))]) hP hD [5, 6] [0, 1, 2, 3, 4] rfl rfl (by decide) (by decide) hk1 hFc hP1 hD1
    clear hz1 hk1 hFc hKc hDc hPc
    generalize H1 = H at hP hS ⊢
    have hP : va_P D vwCl [(m2, .inl (cI, 4, .inl gh)), (m3, .inl (cI, 16384, .inl gd)), (m4, .inl (cZ, 4096, .inl gm)), (m5, .inl (cI, 4096, .inl ge)), (m6, .inl (cI, 4096, .inl gv)), (h0, .inr (9, [.ref m1, .ref m2, .ref m3, .int ik, .int wy, .int op, .int cl, .int cx0, .int cx1, .int cy0, .int cy1, .int ds, .ref m4, .ref m5, .ref m6, .ref m7, .ref m8, .ref m9, .int pn, .ref m10, .ref m11, .ref m12, .ref m13])), (m1, .inl (cI, 4, .inl gw))] H := hP
    have hD : va_D A [(m2, .inl (cI, 4, .inl gh)), (m3, .inl (cI, 16384, .inl gd)), (m4, .inl (cZ, 4096, .inl gm)), (m5, .inl (cI, 4096, .inl ge)), (m6, .inl (cI, 4096, .inl gv)), (h0, .inr (9, [.ref m1, .ref m2, .ref m3, .int ik, .int wy, .int op, .int cl, .int cx0, .int cx1, .int cy0, .int cy1, .int ds, .ref m4, .ref m5, .ref m6, .ref m7, .ref m8, .ref m9, .int pn, .ref m10, .ref m11, .ref m12, .ref m13])), (m1, .inl (cI, 4, .inl gw))] := hD
    refine lv_if_eq (tgt := 59) hx hb dX9_copy_14 (by decide) (fun c_5 => ?_) (fun c_5 => ?_)
    · skip
      have f_6 := bz0 hr_4 c_5
      exact False.elim (by omega)
    · skip
      have f_6 := bz1 hr_4 c_5
      refine lv_iload hx hb dX9_copy_17 (lv_at hl 4 rfl) ?_
      refine lv_if_lt (tgt := 59) hx hb dX9_copy_19 (by decide) (fun c_7 => ?_) (fun c_7 => ?_)
      · skip
        have f_8 : aw.toInt < 0 := f_lt rfl (by decide) c_7
        exact False.elim (by omega)
      · skip
        have f_8 : ¬ (aw.toInt < 0) := fn_lt rfl (by decide) c_7
        refine lv_iload hx hb dX9_copy_22 (lv_at hl 4 rfl) ?_
        refine lv_bipush (v := 64) hx hb dX9_copy_24 (by decide) ?_
        refine lv_icmp_gt (tgt := 59) hx hb dX9_copy_26 (by decide) (fun c_9 => ?_) (fun c_9 => ?_)
        · skip
          have f_10 : 64 < aw.toInt := f_lt (by decide) rfl c_9
          exact False.elim (by omega)
        · skip
          have f_10 : ¬ (64 < aw.toInt) := fn_lt (by decide) rfl c_9
          refine lv_iload hx hb dX9_copy_29 (lv_at hl 5 rfl) ?_
          refine lv_if_lt (tgt := 59) hx hb dX9_copy_31 (by decide) (fun c_11 => ?_) (fun c_11 => ?_)
          · skip
            have f_12 : ah.toInt < 0 := f_lt rfl (by decide) c_11
            exact False.elim (by omega)
          · skip
            have f_12 : ¬ (ah.toInt < 0) := fn_lt rfl (by decide) c_11
            refine lv_iload hx hb dX9_copy_34 (lv_at hl 5 rfl) ?_
            refine lv_bipush (v := 64) hx hb dX9_copy_36 (by decide) ?_
            refine lv_icmp_gt (tgt := 59) hx hb dX9_copy_38 (by decide) (fun c_13 => ?_) (fun c_13 => ?_)
            · skip
              have f_14 : 64 < ah.toInt := f_lt (by decide) rfl c_13
              exact False.elim (by omega)
            · skip
              have f_14 : ¬ (64 < ah.toInt) := fn_lt (by decide) rfl c_13
              refine lv_iload_n hx hb dX9_copy_41 rfl (lv_at hl 2 rfl) ?_
              refine lv_iload_n hx hb dX9_copy_42 rfl (lv_at hl 3 rfl) ?_
              have hPc := hP.sub (ws' := []) [] rfl
              have hDc := hD.sub (ws' := []) [] (by decide) rfl
              have hKc := hK.sub (tys' := []) [] rfl
              have hFc := va_free (wc := []) hD hS hA [] rfl
              refine va_calli (va_runS (As := [.int ax, .int ay]) (rest := []) ⟨hx, hb, hml, hown, hts⟩ (k_X9_isPlace l D H.size ax ay) (va_cwS 2 hts (gS bw_564 bw_560 bw_391 bw_559) rfl rfl rfl (by decide +kernel) ⟨(by rw [hR]; exact Nat.le_of_ble_eq_true rfl), (by rw [hR]; exact Nat.le_of_ble_eq_true rfl)⟩) ⟨cP_blind, cP_at hPc hKc hDc hN⟩ rfl rfl hl.1 rfl (lv_room (Nat.le_of_ble_eq_true rfl)) dX9_copy_43 ⟨(by rw [hR]; exact Nat.le_of_ble_eq_true rfl), (by rw [hR]; exact Nat.le_of_ble_eq_true rfl)⟩) hS (fun q _ h => hFc q h) hFc (fun r_15 u9 t9 H1 locs ht hvm hr_15 hB hz1 hk1 hS => ?_)
              try dsimp only at hr_15
              have hP1 : va_P D vwCl [] H1 := vP_nil
              have hD1 : va_D (va_A [] H.size) [] := vD_nil
              obtain ⟨hP, hD⟩ := va_join (wr := [(m2, .inl (cI, 4, .inl gh)), (m3, .inl (cI, 16384, .inl gd)), (m4, .inl (cZ, 4096, .inl gm)), (m5, .inl (cI, 4096, .inl ge)), (m6, .inl (cI, 4096, .inl gv)), (h0, .inr (9, [.ref m1, .ref m2, .ref m3, .int ik, .int wy, .int op, .int cl, .int cx0, .int cx1, .int cy0, .int cy1, .int ds, .ref m4, .ref m5, .ref m6, .ref m7, .ref m8, .ref m9, .int pn, .ref m10, .ref m11, .ref m12, .ref m13])), (m1, .inl (cI, 4, .inl gw))]) (w1 := []) hP hD [] [0, 1, 2, 3, 4, 5, 6] rfl rfl (by decide) (by decide) hk1 hFc hP1 hD1
              clear hz1 hk1 hFc hKc hDc hPc
              generalize H1 = H at hP hS ⊢
              have hP : va_P D vwCl [(m2, .inl (cI, 4, .inl gh)), (m3, .inl (cI, 16384, .inl gd)), (m4, .inl (cZ, 4096, .inl gm)), (m5, .inl (cI, 4096, .inl ge)), (m6, .inl (cI, 4096, .inl gv)), (h0, .inr (9, [.ref m1, .ref m2, .ref m3, .int ik, .int wy, .int op, .int cl, .int cx0, .int cx1, .int cy0, .int cy1, .int ds, .ref m4, .ref m5, .ref m6, .ref m7, .ref m8, .ref m9, .int pn, .ref m10, .ref m11, .ref m12, .ref m13])), (m1, .inl (cI, 4, .inl gw))] H := hP
              have hD : va_D A [(m2, .inl (cI, 4, .inl gh)), (m3, .inl (cI, 16384, .inl gd)), (m4, .inl (cZ, 4096, .inl gm)), (m5, .inl (cI, 4096, .inl ge)), (m6, .inl (cI, 4096, .inl gv)), (h0, .inr (9, [.ref m1, .ref m2, .ref m3, .int ik, .int wy, .int op, .int cl, .int cx0, .int cx1, .int cy0, .int cy1, .int ds, .ref m4, .ref m5, .ref m6, .ref m7, .ref m8, .ref m9, .int pn, .ref m10, .ref m11, .ref m12, .ref m13])), (m1, .inl (cI, 4, .inl gw))] := hD
              refine lv_if_eq (tgt := 59) hx hb dX9_copy_46 (by decide) (fun c_16 => ?_) (fun c_16 => ?_)
              · skip
                have f_17 := bz0 hr_15 c_16
                exact False.elim (by omega)
              · skip
                have f_17 := bz1 hr_15 c_16
                refine lv_iload hx hb dX9_copy_49 (lv_at hl 7 rfl) ?_
                refine lv_iload hx hb dX9_copy_51 (lv_at hl 8 rfl) ?_
                have hPc := hP.sub (ws' := []) [] rfl
                have hDc := hD.sub (ws' := []) [] (by decide) rfl
                have hKc := hK.sub (tys' := []) [] rfl
                have hFc := va_free (wc := []) hD hS hA [] rfl
                refine va_calli (va_runS (As := [.int ox, .int oy]) (rest := []) ⟨hx, hb, hml, hown, hts⟩ (k_X9_isPlace l D H.size ox oy) (va_cwS 2 hts (gS bw_564 bw_560 bw_391 bw_559) rfl rfl rfl (by decide +kernel) ⟨(by rw [hR]; exact Nat.le_of_ble_eq_true rfl), (by rw [hR]; exact Nat.le_of_ble_eq_true rfl)⟩) ⟨cP_blind, cP_at hPc hKc hDc hN⟩ rfl rfl hl.1 rfl (lv_room (Nat.le_of_ble_eq_true rfl)) dX9_copy_53 ⟨(by rw [hR]; exact Nat.le_of_ble_eq_true rfl), (by rw [hR]; exact Nat.le_of_ble_eq_true rfl)⟩) hS (fun q _ h => hFc q h) hFc (fun r_18 u9 t9 H1 locs ht hvm hr_18 hB hz1 hk1 hS => ?_)
                try dsimp only at hr_18
                have hP1 : va_P D vwCl [] H1 := vP_nil
                have hD1 : va_D (va_A [] H.size) [] := vD_nil
                obtain ⟨hP, hD⟩ := va_join (wr := [(m2, .inl (cI, 4, .inl gh)), (m3, .inl (cI, 16384, .inl gd)), (m4, .inl (cZ, 4096, .inl gm)), (m5, .inl (cI, 4096, .inl ge)), (m6, .inl (cI, 4096, .inl gv)), (h0, .inr (9, [.ref m1, .ref m2, .ref m3, .int ik, .int wy, .int op, .int cl, .int cx0, .int cx1, .int cy0, .int cy1, .int ds, .ref m4, .ref m5, .ref m6, .ref m7, .ref m8, .ref m9, .int pn, .ref m10, .ref m11, .ref m12, .ref m13])), (m1, .inl (cI, 4, .inl gw))]) (w1 := []) hP hD [] [0, 1, 2, 3, 4, 5, 6] rfl rfl (by decide) (by decide) hk1 hFc hP1 hD1
                clear hz1 hk1 hFc hKc hDc hPc
                generalize H1 = H at hP hS ⊢
                have hP : va_P D vwCl [(m2, .inl (cI, 4, .inl gh)), (m3, .inl (cI, 16384, .inl gd)), (m4, .inl (cZ, 4096, .inl gm)), (m5, .inl (cI, 4096, .inl ge)), (m6, .inl (cI, 4096, .inl gv)), (h0, .inr (9, [.ref m1, .ref m2, .ref m3, .int ik, .int wy, .int op, .int cl, .int cx0, .int cx1, .int cy0, .int cy1, .int ds, .ref m4, .ref m5, .ref m6, .ref m7, .ref m8, .ref m9, .int pn, .ref m10, .ref m11, .ref m12, .ref m13])), (m1, .inl (cI, 4, .inl gw))] H := hP
                have hD : va_D A [(m2, .inl (cI, 4, .inl gh)), (m3, .inl (cI, 16384, .inl gd)), (m4, .inl (cZ, 4096, .inl gm)), (m5, .inl (cI, 4096, .inl ge)), (m6, .inl (cI, 4096, .inl gv)), (h0, .inr (9, [.ref m1, .ref m2, .ref m3, .int ik, .int wy, .int op, .int cl, .int cx0, .int cx1, .int cy0, .int cy1, .int ds, .ref m4, .ref m5, .ref m6, .ref m7, .ref m8, .ref m9, .int pn, .ref m10, .ref m11, .ref m12, .ref m13])), (m1, .inl (cI, 4, .inl gw))] := hD
                refine lv_if_ne (tgt := 61) hx hb dX9_copy_56 (by decide) (fun c_19 => ?_) (fun c_19 => ?_)
                · skip
                  have f_20 := bz1 hr_18 c_19
                  obtain ⟨W9, hW9, eW9⟩ := i_of (x := aw) (N := 65) (by omega) (by omega) (by decide)
                  have eW9n : aw.toNatClampNeg = W9 := by rw [eW9]; exact nI_clamp (by omega)
                  have hW9t : aw.toInt = (W9 : Int) := by rw [eW9]; exact nI_toInt (by omega)
                  obtain ⟨H9, hH9, eH9⟩ := i_of (x := ah) (N := 65) (by omega) (by omega) (by decide)
                  have eH9n : ah.toNatClampNeg = H9 := by rw [eH9]; exact nI_clamp (by omega)
                  have hH9t : ah.toInt = (H9 : Int) := by rw [eH9]; exact nI_toInt (by omega)
                  refine lv_aload_n hx hb dX9_copy_61 rfl (lv_at hl 0 rfl) ?_
                  have hPc := hP.sub (ws' := [(h0, .inr (9, [.ref m1, .ref m2, .ref m3, .int ik, .int wy, .int op, .int cl, .int cx0, .int cx1, .int cy0, .int cy1, .int ds, .ref m4, .ref m5, .ref m6, .ref m7, .ref m8, .ref m9, .int pn, .ref m10, .ref m11, .ref m12, .ref m13])), (m4, .inl (cZ, 4096, .inl gm))]) [5, 2] rfl
                  have hDc := hD.sub (ws' := [(h0, .inr (9, [.ref m1, .ref m2, .ref m3, .int ik, .int wy, .int op, .int cl, .int cx0, .int cx1, .int cy0, .int cy1, .int ds, .ref m4, .ref m5, .ref m6, .ref m7, .ref m8, .ref m9, .int pn, .ref m10, .ref m11, .ref m12, .ref m13])), (m4, .inl (cZ, 4096, .inl gm))]) [5, 2] (by decide) rfl
                  have hKc := hK.sub (tys' := [(cZ, .boolean)]) [1] rfl
                  have hFc := va_free (wc := [(h0, .inr (9, [.ref m1, .ref m2, .ref m3, .int ik, .int wy, .int op, .int cl, .int cx0, .int cx1, .int cy0, .int cy1, .int ds, .ref m4, .ref m5, .ref m6, .ref m7, .ref m8, .ref m9, .int pn, .ref m10, .ref m11, .ref m12, .ref m13])), (m4, .inl (cZ, 4096, .inl gm))]) hD hS hA [5, 2] rfl
                  refine va_callv (va_runV (As := []) (rest := []) ⟨hx, hb, hml, hown, hts⟩ (k_X9_begins l D H.size h0 m1 m2 m3 m4 m5 m6 m7 m8 m9 m10 m11 m12 m13 ik wy op cl cx0 cx1 cy0 cy1 ds pn gm cZ) (cwV 0 hts (gV bw_493 bw_455 bw_456 bw_391 bw_454) rfl rfl rfl (by decide +kernel) ⟨(by rw [hR]; exact Nat.le_of_ble_eq_true rfl), (by rw [hR]; exact Nat.le_of_ble_eq_true rfl)⟩) ⟨cP_blind, va_recv hKc hPc (ci := 9) (q0 := 0) rfl rfl, cP_at hPc hKc hDc hN⟩ rfl rfl hl.1 rfl (lv_room (Nat.le_of_ble_eq_true rfl)) dX9_copy_62 ⟨(by rw [hR]; exact Nat.le_of_ble_eq_true rfl), (by rw [hR]; exact Nat.le_of_ble_eq_true rfl)⟩) hS (fun q _ h => hFc q h) hFc (fun u9 t9 H1 locs ht hvm hr_21 hB hz1 hk1 hS => ?_)
                  try dsimp only at hr_21
                  obtain ⟨hP1, hK1, hD1⟩ := hB
                  rw [ht] at hP1
                  obtain ⟨hP, hD⟩ := va_join (wr := [(m2, .inl (cI, 4, .inl gh)), (m3, .inl (cI, 16384, .inl gd)), (m5, .inl (cI, 4096, .inl ge)), (m6, .inl (cI, 4096, .inl gv)), (m1, .inl (cI, 4, .inl gw))]) (w1 := [(h0, .inr (9, [.ref m1, .ref m2, .ref m3, .int ik, .int wy, .int op, .int cl, .int cx0, .int cx1, .int cy0, .int cy1, .int ds, .ref m4, .ref m5, .ref m6, .ref m7, .ref m8, .ref m9, .int pn, .ref m10, .ref m11, .ref m12, .ref m13])), (m4, .inl (cZ, 4096, .inl (zrN gm 4096)))]) hP hD [5, 2] [0, 1, 3, 4, 6] rfl rfl (by decide) (by decide) hk1 hFc hP1 hD1
                  clear hz1 hk1 hFc hKc hDc hPc
                  generalize H1 = H at hP hS ⊢
                  have hP : va_P D vwCl [(m2, .inl (cI, 4, .inl gh)), (m3, .inl (cI, 16384, .inl gd)), (m5, .inl (cI, 4096, .inl ge)), (m6, .inl (cI, 4096, .inl gv)), (m1, .inl (cI, 4, .inl gw)), (h0, .inr (9, [.ref m1, .ref m2, .ref m3, .int ik, .int wy, .int op, .int cl, .int cx0, .int cx1, .int cy0, .int cy1, .int ds, .ref m4, .ref m5, .ref m6, .ref m7, .ref m8, .ref m9, .int pn, .ref m10, .ref m11, .ref m12, .ref m13])), (m4, .inl (cZ, 4096, .inl (zrN gm 4096)))] H := hP
                  have hD : va_D A [(m2, .inl (cI, 4, .inl gh)), (m3, .inl (cI, 16384, .inl gd)), (m5, .inl (cI, 4096, .inl ge)), (m6, .inl (cI, 4096, .inl gv)), (m1, .inl (cI, 4, .inl gw)), (h0, .inr (9, [.ref m1, .ref m2, .ref m3, .int ik, .int wy, .int op, .int cl, .int cx0, .int cx1, .int cy0, .int cy1, .int ds, .ref m4, .ref m5, .ref m6, .ref m7, .ref m8, .ref m9, .int pn, .ref m10, .ref m11, .ref m12, .ref m13])), (m4, .inl (cZ, 4096, .inl (zrN gm 4096)))] := hD
                  refine lv_iconst (v := 0) hx hb dX9_copy_65 (by decide) ?_
                  refine lv_istore (lv' := [(9, .int 0), (0, .ref h0), (1, .int k), (2, .int ax), (3, .int ay), (4, .int aw), (5, .int ah), (6, .int kq), (7, .int ox), (8, .int oy)]) hx hb dX9_copy_66 hl (by decide) rfl (fun ls hl => ?_)
                  have loop_22 : ∀ (n : Nat) (j : Nat) (x9 : Int32) (ga : Nat → Int32) (gb : Nat → Int32) (gc : Nat → Int32) (H : Heap) (locs : List Loc) (ls : Array Slot), (j ≤ 64) → (64 + 1 ≤ j + n) → (x9 = nI j) → (j ≤ H9) → (((ga, gb, gc) : M3) = (gL (cyQ ax ay aw ah ox oy aw ah (gw k.toNatClampNeg) (gh k.toNatClampNeg) op (fun t => gd (4096 * k.toNatClampNeg + t))) W9 j).foldl (mkF (gw kq.toNatClampNeg) (gh kq.toNatClampNeg) cl cx0 cx1 cy0 cy1) (zrN gm 4096, ge, gv)) → va_P D vwCl [(m2, .inl (cI, 4, .inl gh)), (m3, .inl (cI, 16384, .inl gd)), (m5, .inl (cI, 4096, .inl gb)), (m6, .inl (cI, 4096, .inl gc)), (m1, .inl (cI, 4, .inl gw)), (h0, .inr (9, [.ref m1, .ref m2, .ref m3, .int ik, .int wy, .int op, .int cl, .int cx0, .int cx1, .int cy0, .int cy1, .int ds, .ref m4, .ref m5, .ref m6, .ref m7, .ref m8, .ref m9, .int pn, .ref m10, .ref m11, .ref m12, .ref m13])), (m4, .inl (cZ, 4096, .inl ga))] H → va_D A [(m2, .inl (cI, 4, .inl gh)), (m3, .inl (cI, 16384, .inl gd)), (m5, .inl (cI, 4096, .inl gb)), (m6, .inl (cI, 4096, .inl gc)), (m1, .inl (cI, 4, .inl gw)), (h0, .inr (9, [.ref m1, .ref m2, .ref m3, .int ik, .int wy, .int op, .int cl, .int cx0, .int cx1, .int cy0, .int cy1, .int ds, .ref m4, .ref m5, .ref m6, .ref m7, .ref m8, .ref m9, .int pn, .ref m10, .ref m11, .ref m12, .ref m13])), (m4, .inl (cZ, 4096, .inl ga))] → va_S A s.heap H locs → lv_has ls 11 [(9, .int x9), (0, .ref h0), (1, .int k), (2, .int ax), (3, .int ay), (4, .int aw), (5, .int ah), (6, .int kq), (7, .int ox), (8, .int oy)] → W p l e R s m ([.ref h0, .int k, .int ax, .int ay, .int aw, .int ah, .int kq, .int ox, .int oy] : List Value).toArray below meth c H locs 0 0 Q (F0 m 68 ls []) := by
                    intro n
                    induction n with
                    | zero =>
                      intro j x9 ga gb gc H locs ls hi_j hm_j ex_j hjo hgo hP hD hS hl
                      exact absurd (show False by omega) not_false
                    | succ n ih_23 =>
                      intro j x9 ga gb gc H locs ls hi_j hm_j ex_j hjo hgo hP hD hS hl
                      have hx_j : x9.toInt = (j : Int) := by rw [ex_j]; exact nI_toInt (by omega)
                      have hc_j : x9.toNatClampNeg = j := by rw [ex_j]; exact nI_clamp (by omega)
                      refine lv_iload hx hb dX9_copy_68 (lv_at hl 0 rfl) ?_
                      refine lv_iload hx hb dX9_copy_70 (lv_at hl 6 rfl) ?_
                      refine lv_icmp_ge (tgt := 150) hx hb dX9_copy_72 (by decide) (fun c_24 => ?_) (fun c_24 => ?_)
                      · skip
                        have f_25 : ah.toInt ≤ (j : Int) := f_le rfl hx_j c_24
                        refine lv_aload_n hx hb dX9_copy_150 rfl (lv_at hl 1 rfl) ?_
                        refine lv_iload hx hb dX9_copy_151 (lv_at hl 7 rfl) ?_
                        have hPc := hP.sub (ws' := [(h0, .inr (9, [.ref m1, .ref m2, .ref m3, .int ik, .int wy, .int op, .int cl, .int cx0, .int cx1, .int cy0, .int cy1, .int ds, .ref m4, .ref m5, .ref m6, .ref m7, .ref m8, .ref m9, .int pn, .ref m10, .ref m11, .ref m12, .ref m13])), (m3, .inl (cI, 16384, .inl gd)), (m4, .inl (cZ, 4096, .inl ga)), (m5, .inl (cI, 4096, .inl gb)), (m6, .inl (cI, 4096, .inl gc))]) [5, 1, 6, 2, 3] rfl
                        have hDc := hD.sub (ws' := [(h0, .inr (9, [.ref m1, .ref m2, .ref m3, .int ik, .int wy, .int op, .int cl, .int cx0, .int cx1, .int cy0, .int cy1, .int ds, .ref m4, .ref m5, .ref m6, .ref m7, .ref m8, .ref m9, .int pn, .ref m10, .ref m11, .ref m12, .ref m13])), (m3, .inl (cI, 16384, .inl gd)), (m4, .inl (cZ, 4096, .inl ga)), (m5, .inl (cI, 4096, .inl gb)), (m6, .inl (cI, 4096, .inl gc))]) [5, 1, 6, 2, 3] (by decide) rfl
                        have hKc := hK.sub (tys' := [(cI, .int), (cZ, .boolean)]) [0, 1] rfl
                        have hFc := va_free (wc := [(h0, .inr (9, [.ref m1, .ref m2, .ref m3, .int ik, .int wy, .int op, .int cl, .int cx0, .int cx1, .int cy0, .int cy1, .int ds, .ref m4, .ref m5, .ref m6, .ref m7, .ref m8, .ref m9, .int pn, .ref m10, .ref m11, .ref m12, .ref m13])), (m3, .inl (cI, 16384, .inl gd)), (m4, .inl (cZ, 4096, .inl ga)), (m5, .inl (cI, 4096, .inl gb)), (m6, .inl (cI, 4096, .inl gc))]) hD hS hA [5, 1, 6, 2, 3] rfl
                        refine va_calli (va_runV (As := [.int kq]) (rest := []) ⟨hx, hb, hml, hown, hts⟩ (k_X9_lays l D H.size h0 m1 m2 m3 m4 m5 m6 m7 m8 m9 m10 m11 m12 m13 ik wy op cl cx0 cx1 cy0 cy1 ds pn gd ga gb gc kq cI cZ (by omega) (by first | assumption | omega | decide)) (cwV 1 hts (gV bw_496 bw_462 bw_463 bw_391 bw_461) rfl rfl rfl (by decide +kernel) ⟨(by rw [hR]; exact Nat.le_of_ble_eq_true rfl), (by rw [hR]; exact Nat.le_of_ble_eq_true rfl)⟩) ⟨cP_blind, va_recv hKc hPc (ci := 9) (q0 := 0) rfl rfl, cP_at hPc hKc hDc hN⟩ rfl rfl hl.1 rfl (lv_room (Nat.le_of_ble_eq_true rfl)) dX9_copy_153 ⟨(by rw [hR]; exact Nat.le_of_ble_eq_true rfl), (by rw [hR]; exact Nat.le_of_ble_eq_true rfl)⟩) hS (fun q _ h => hFc q h) hFc (fun r_26 u9 t9 H1 locs ht hvm hr_26 hB hz1 hk1 hS => ?_)
                        try dsimp only at hr_26
                        obtain ⟨hP1, hK1, hD1⟩ := hB
                        rw [ht] at hP1
                        obtain ⟨hP, hD⟩ := va_join (wr := [(m2, .inl (cI, 4, .inl gh)), (m1, .inl (cI, 4, .inl gw))]) (w1 := [(h0, .inr (9, [.ref m1, .ref m2, .ref m3, .int ik, .int wy, .int op, .int cl, .int cx0, .int cx1, .int cy0, .int cy1, .int ds, .ref m4, .ref m5, .ref m6, .ref m7, .ref m8, .ref m9, .int pn, .ref m10, .ref m11, .ref m12, .ref m13])), (m3, .inl (cI, 16384, .inl (lysN wy gd ga gb gc kq.toNatClampNeg 4096))), (m4, .inl (cZ, 4096, .inl ga)), (m5, .inl (cI, 4096, .inl gb)), (m6, .inl (cI, 4096, .inl gc))]) hP hD [5, 1, 6, 2, 3] [0, 4] rfl rfl (by decide) (by decide) hk1 hFc hP1 hD1
                        clear hz1 hk1 hFc hKc hDc hPc
                        generalize H1 = H at hP hS ⊢
                        have hP : va_P D vwCl [(m2, .inl (cI, 4, .inl gh)), (m1, .inl (cI, 4, .inl gw)), (h0, .inr (9, [.ref m1, .ref m2, .ref m3, .int ik, .int wy, .int op, .int cl, .int cx0, .int cx1, .int cy0, .int cy1, .int ds, .ref m4, .ref m5, .ref m6, .ref m7, .ref m8, .ref m9, .int pn, .ref m10, .ref m11, .ref m12, .ref m13])), (m3, .inl (cI, 16384, .inl (lysN wy gd ga gb gc kq.toNatClampNeg 4096))), (m4, .inl (cZ, 4096, .inl ga)), (m5, .inl (cI, 4096, .inl gb)), (m6, .inl (cI, 4096, .inl gc))] H := hP
                        have hD : va_D A [(m2, .inl (cI, 4, .inl gh)), (m1, .inl (cI, 4, .inl gw)), (h0, .inr (9, [.ref m1, .ref m2, .ref m3, .int ik, .int wy, .int op, .int cl, .int cx0, .int cx1, .int cy0, .int cy1, .int ds, .ref m4, .ref m5, .ref m6, .ref m7, .ref m8, .ref m9, .int pn, .ref m10, .ref m11, .ref m12, .ref m13])), (m3, .inl (cI, 16384, .inl (lysN wy gd ga gb gc kq.toNatClampNeg 4096))), (m4, .inl (cZ, 4096, .inl ga)), (m5, .inl (cI, 4096, .inl gb)), (m6, .inl (cI, 4096, .inl gc))] := hD
                        have hgx : ((ga, gb, gc) : M3) = ((gL (cyQ ax ay aw ah ox oy aw ah (gw k.toNatClampNeg) (gh k.toNatClampNeg) op (fun t => gd (4096 * k.toNatClampNeg + t))) aw.toNatClampNeg ah.toNatClampNeg).foldl (mkF (gw kq.toNatClampNeg) (gh kq.toNatClampNeg) cl cx0 cx1 cy0 cy1) (zrN gm 4096, ge, gv)) := by rw [eW9n, eH9n, ← show j = H9 by omega]; exact hgo
                        have hP : va_P D vwCl [(m2, .inl (cI, 4, .inl gh)), (m1, .inl (cI, 4, .inl gw)), (h0, .inr (9, [.ref m1, .ref m2, .ref m3, .int ik, .int wy, .int op, .int cl, .int cx0, .int cx1, .int cy0, .int cy1, .int ds, .ref m4, .ref m5, .ref m6, .ref m7, .ref m8, .ref m9, .int pn, .ref m10, .ref m11, .ref m12, .ref m13])), (m3, .inl (cI, 16384, .inl (lysN wy gd ((gL (cyQ ax ay aw ah ox oy aw ah (gw k.toNatClampNeg) (gh k.toNatClampNeg) op (fun t => gd (4096 * k.toNatClampNeg + t))) aw.toNatClampNeg ah.toNatClampNeg).foldl (mkF (gw kq.toNatClampNeg) (gh kq.toNatClampNeg) cl cx0 cx1 cy0 cy1) (zrN gm 4096, ge, gv)).1 ((gL (cyQ ax ay aw ah ox oy aw ah (gw k.toNatClampNeg) (gh k.toNatClampNeg) op (fun t => gd (4096 * k.toNatClampNeg + t))) aw.toNatClampNeg ah.toNatClampNeg).foldl (mkF (gw kq.toNatClampNeg) (gh kq.toNatClampNeg) cl cx0 cx1 cy0 cy1) (zrN gm 4096, ge, gv)).2.1 ((gL (cyQ ax ay aw ah ox oy aw ah (gw k.toNatClampNeg) (gh k.toNatClampNeg) op (fun t => gd (4096 * k.toNatClampNeg + t))) aw.toNatClampNeg ah.toNatClampNeg).foldl (mkF (gw kq.toNatClampNeg) (gh kq.toNatClampNeg) cl cx0 cx1 cy0 cy1) (zrN gm 4096, ge, gv)).2.2 kq.toNatClampNeg 4096))), (m4, .inl (cZ, 4096, .inl (((gL (cyQ ax ay aw ah ox oy aw ah (gw k.toNatClampNeg) (gh k.toNatClampNeg) op (fun t => gd (4096 * k.toNatClampNeg + t))) aw.toNatClampNeg ah.toNatClampNeg).foldl (mkF (gw kq.toNatClampNeg) (gh kq.toNatClampNeg) cl cx0 cx1 cy0 cy1) (zrN gm 4096, ge, gv)).1))), (m5, .inl (cI, 4096, .inl (((gL (cyQ ax ay aw ah ox oy aw ah (gw k.toNatClampNeg) (gh k.toNatClampNeg) op (fun t => gd (4096 * k.toNatClampNeg + t))) aw.toNatClampNeg ah.toNatClampNeg).foldl (mkF (gw kq.toNatClampNeg) (gh kq.toNatClampNeg) cl cx0 cx1 cy0 cy1) (zrN gm 4096, ge, gv)).2.1))), (m6, .inl (cI, 4096, .inl (((gL (cyQ ax ay aw ah ox oy aw ah (gw k.toNatClampNeg) (gh k.toNatClampNeg) op (fun t => gd (4096 * k.toNatClampNeg + t))) aw.toNatClampNeg ah.toNatClampNeg).foldl (mkF (gw kq.toNatClampNeg) (gh kq.toNatClampNeg) cl cx0 cx1 cy0 cy1) (zrN gm 4096, ge, gv)).2.2)))] H := by simp only [← hgx]; exact hP
                        have hD : va_D A [(m2, .inl (cI, 4, .inl gh)), (m1, .inl (cI, 4, .inl gw)), (h0, .inr (9, [.ref m1, .ref m2, .ref m3, .int ik, .int wy, .int op, .int cl, .int cx0, .int cx1, .int cy0, .int cy1, .int ds, .ref m4, .ref m5, .ref m6, .ref m7, .ref m8, .ref m9, .int pn, .ref m10, .ref m11, .ref m12, .ref m13])), (m3, .inl (cI, 16384, .inl (lysN wy gd ((gL (cyQ ax ay aw ah ox oy aw ah (gw k.toNatClampNeg) (gh k.toNatClampNeg) op (fun t => gd (4096 * k.toNatClampNeg + t))) aw.toNatClampNeg ah.toNatClampNeg).foldl (mkF (gw kq.toNatClampNeg) (gh kq.toNatClampNeg) cl cx0 cx1 cy0 cy1) (zrN gm 4096, ge, gv)).1 ((gL (cyQ ax ay aw ah ox oy aw ah (gw k.toNatClampNeg) (gh k.toNatClampNeg) op (fun t => gd (4096 * k.toNatClampNeg + t))) aw.toNatClampNeg ah.toNatClampNeg).foldl (mkF (gw kq.toNatClampNeg) (gh kq.toNatClampNeg) cl cx0 cx1 cy0 cy1) (zrN gm 4096, ge, gv)).2.1 ((gL (cyQ ax ay aw ah ox oy aw ah (gw k.toNatClampNeg) (gh k.toNatClampNeg) op (fun t => gd (4096 * k.toNatClampNeg + t))) aw.toNatClampNeg ah.toNatClampNeg).foldl (mkF (gw kq.toNatClampNeg) (gh kq.toNatClampNeg) cl cx0 cx1 cy0 cy1) (zrN gm 4096, ge, gv)).2.2 kq.toNatClampNeg 4096))), (m4, .inl (cZ, 4096, .inl (((gL (cyQ ax ay aw ah ox oy aw ah (gw k.toNatClampNeg) (gh k.toNatClampNeg) op (fun t => gd (4096 * k.toNatClampNeg + t))) aw.toNatClampNeg ah.toNatClampNeg).foldl (mkF (gw kq.toNatClampNeg) (gh kq.toNatClampNeg) cl cx0 cx1 cy0 cy1) (zrN gm 4096, ge, gv)).1))), (m5, .inl (cI, 4096, .inl (((gL (cyQ ax ay aw ah ox oy aw ah (gw k.toNatClampNeg) (gh k.toNatClampNeg) op (fun t => gd (4096 * k.toNatClampNeg + t))) aw.toNatClampNeg ah.toNatClampNeg).foldl (mkF (gw kq.toNatClampNeg) (gh kq.toNatClampNeg) cl cx0 cx1 cy0 cy1) (zrN gm 4096, ge, gv)).2.1))), (m6, .inl (cI, 4096, .inl (((gL (cyQ ax ay aw ah ox oy aw ah (gw k.toNatClampNeg) (gh k.toNatClampNeg) op (fun t => gd (4096 * k.toNatClampNeg + t))) aw.toNatClampNeg ah.toNatClampNeg).foldl (mkF (gw kq.toNatClampNeg) (gh kq.toNatClampNeg) cl cx0 cx1 cy0 cy1) (zrN gm 4096, ge, gv)).2.2)))] := by simp only [← hgx]; exact hD
                        have hP9 := hP.sub (ws' := [(h0, .inr (9, [.ref m1, .ref m2, .ref m3, .int ik, .int wy, .int op, .int cl, .int cx0, .int cx1, .int cy0, .int cy1, .int ds, .ref m4, .ref m5, .ref m6, .ref m7, .ref m8, .ref m9, .int pn, .ref m10, .ref m11, .ref m12, .ref m13])), (m1, .inl (cI, 4, .inl gw)), (m2, .inl (cI, 4, .inl gh)), (m3, .inl (cI, 16384, .inl (lysN wy gd ((gL (cyQ ax ay aw ah ox oy aw ah (gw k.toNatClampNeg) (gh k.toNatClampNeg) op (fun t => gd (4096 * k.toNatClampNeg + t))) aw.toNatClampNeg ah.toNatClampNeg).foldl (mkF (gw kq.toNatClampNeg) (gh kq.toNatClampNeg) cl cx0 cx1 cy0 cy1) (zrN gm 4096, ge, gv)).1 ((gL (cyQ ax ay aw ah ox oy aw ah (gw k.toNatClampNeg) (gh k.toNatClampNeg) op (fun t => gd (4096 * k.toNatClampNeg + t))) aw.toNatClampNeg ah.toNatClampNeg).foldl (mkF (gw kq.toNatClampNeg) (gh kq.toNatClampNeg) cl cx0 cx1 cy0 cy1) (zrN gm 4096, ge, gv)).2.1 ((gL (cyQ ax ay aw ah ox oy aw ah (gw k.toNatClampNeg) (gh k.toNatClampNeg) op (fun t => gd (4096 * k.toNatClampNeg + t))) aw.toNatClampNeg ah.toNatClampNeg).foldl (mkF (gw kq.toNatClampNeg) (gh kq.toNatClampNeg) cl cx0 cx1 cy0 cy1) (zrN gm 4096, ge, gv)).2.2 kq.toNatClampNeg 4096))), (m4, .inl (cZ, 4096, .inl (((gL (cyQ ax ay aw ah ox oy aw ah (gw k.toNatClampNeg) (gh k.toNatClampNeg) op (fun t => gd (4096 * k.toNatClampNeg + t))) aw.toNatClampNeg ah.toNatClampNeg).foldl (mkF (gw kq.toNatClampNeg) (gh kq.toNatClampNeg) cl cx0 cx1 cy0 cy1) (zrN gm 4096, ge, gv)).1))), (m5, .inl (cI, 4096, .inl (((gL (cyQ ax ay aw ah ox oy aw ah (gw k.toNatClampNeg) (gh k.toNatClampNeg) op (fun t => gd (4096 * k.toNatClampNeg + t))) aw.toNatClampNeg ah.toNatClampNeg).foldl (mkF (gw kq.toNatClampNeg) (gh kq.toNatClampNeg) cl cx0 cx1 cy0 cy1) (zrN gm 4096, ge, gv)).2.1))), (m6, .inl (cI, 4096, .inl (((gL (cyQ ax ay aw ah ox oy aw ah (gw k.toNatClampNeg) (gh k.toNatClampNeg) op (fun t => gd (4096 * k.toNatClampNeg + t))) aw.toNatClampNeg ah.toNatClampNeg).foldl (mkF (gw kq.toNatClampNeg) (gh kq.toNatClampNeg) cl cx0 cx1 cy0 cy1) (zrN gm 4096, ge, gv)).2.2)))]) [2, 1, 0, 3, 4, 5, 6] rfl
                        have hD9 := hD.sub (ws' := [(h0, .inr (9, [.ref m1, .ref m2, .ref m3, .int ik, .int wy, .int op, .int cl, .int cx0, .int cx1, .int cy0, .int cy1, .int ds, .ref m4, .ref m5, .ref m6, .ref m7, .ref m8, .ref m9, .int pn, .ref m10, .ref m11, .ref m12, .ref m13])), (m1, .inl (cI, 4, .inl gw)), (m2, .inl (cI, 4, .inl gh)), (m3, .inl (cI, 16384, .inl (lysN wy gd ((gL (cyQ ax ay aw ah ox oy aw ah (gw k.toNatClampNeg) (gh k.toNatClampNeg) op (fun t => gd (4096 * k.toNatClampNeg + t))) aw.toNatClampNeg ah.toNatClampNeg).foldl (mkF (gw kq.toNatClampNeg) (gh kq.toNatClampNeg) cl cx0 cx1 cy0 cy1) (zrN gm 4096, ge, gv)).1 ((gL (cyQ ax ay aw ah ox oy aw ah (gw k.toNatClampNeg) (gh k.toNatClampNeg) op (fun t => gd (4096 * k.toNatClampNeg + t))) aw.toNatClampNeg ah.toNatClampNeg).foldl (mkF (gw kq.toNatClampNeg) (gh kq.toNatClampNeg) cl cx0 cx1 cy0 cy1) (zrN gm 4096, ge, gv)).2.1 ((gL (cyQ ax ay aw ah ox oy aw ah (gw k.toNatClampNeg) (gh k.toNatClampNeg) op (fun t => gd (4096 * k.toNatClampNeg + t))) aw.toNatClampNeg ah.toNatClampNeg).foldl (mkF (gw kq.toNatClampNeg) (gh kq.toNatClampNeg) cl cx0 cx1 cy0 cy1) (zrN gm 4096, ge, gv)).2.2 kq.toNatClampNeg 4096))), (m4, .inl (cZ, 4096, .inl (((gL (cyQ ax ay aw ah ox oy aw ah (gw k.toNatClampNeg) (gh k.toNatClampNeg) op (fun t => gd (4096 * k.toNatClampNeg + t))) aw.toNatClampNeg ah.toNatClampNeg).foldl (mkF (gw kq.toNatClampNeg) (gh kq.toNatClampNeg) cl cx0 cx1 cy0 cy1) (zrN gm 4096, ge, gv)).1))), (m5, .inl (cI, 4096, .inl (((gL (cyQ ax ay aw ah ox oy aw ah (gw k.toNatClampNeg) (gh k.toNatClampNeg) op (fun t => gd (4096 * k.toNatClampNeg + t))) aw.toNatClampNeg ah.toNatClampNeg).foldl (mkF (gw kq.toNatClampNeg) (gh kq.toNatClampNeg) cl cx0 cx1 cy0 cy1) (zrN gm 4096, ge, gv)).2.1))), (m6, .inl (cI, 4096, .inl (((gL (cyQ ax ay aw ah ox oy aw ah (gw k.toNatClampNeg) (gh k.toNatClampNeg) op (fun t => gd (4096 * k.toNatClampNeg + t))) aw.toNatClampNeg ah.toNatClampNeg).foldl (mkF (gw kq.toNatClampNeg) (gh kq.toNatClampNeg) cl cx0 cx1 cy0 cy1) (zrN gm 4096, ge, gv)).2.2)))]) [2, 1, 0, 3, 4, 5, 6] (by decide) rfl
                        have hK9 := hK.sub (tys' := [(cI, .int), (cZ, .boolean)]) [0, 1] rfl
                        refine hQ _ _ _ _ _ ?_
                        exact W.iret (v := r_26) hx hb hr (fun t ht hW => ⟨⟨r_26, (), rfl, (by rw [← hgx]; exact hr_26), ⟨by rw [ht]; exact hP9, va_K.moved hW.alike hK9, hD9⟩⟩, hS.F ht⟩) hS.2.2 dX9_copy_156
                      · skip
                        have f_25 : ¬ (ah.toInt ≤ (j : Int)) := fn_le rfl hx_j c_24
                        refine lv_iconst (v := 0) hx hb dX9_copy_75 (by decide) ?_
                        refine lv_istore (lv' := [(10, .int 0), (9, .int x9), (0, .ref h0), (1, .int k), (2, .int ax), (3, .int ay), (4, .int aw), (5, .int ah), (6, .int kq), (7, .int ox), (8, .int oy)]) hx hb dX9_copy_76 hl (by decide) rfl (fun ls hl => ?_)
                        have loop_27 : ∀ (n : Nat) (i : Nat) (x10 : Int32) (gj : Nat → Int32) (gk : Nat → Int32) (gl : Nat → Int32) (H : Heap) (locs : List Loc) (ls : Array Slot), (i ≤ 64) → (64 + 1 ≤ i + n) → (x10 = nI i) → (i ≤ W9) → (((gj, gk, gl) : M3) = (gL (cyQ ax ay aw ah ox oy aw ah (gw k.toNatClampNeg) (gh k.toNatClampNeg) op (fun t => gd (4096 * k.toNatClampNeg + t))) W9 j ++ gR (cyQ ax ay aw ah ox oy aw ah (gw k.toNatClampNeg) (gh k.toNatClampNeg) op (fun t => gd (4096 * k.toNatClampNeg + t))) j i).foldl (mkF (gw kq.toNatClampNeg) (gh kq.toNatClampNeg) cl cx0 cx1 cy0 cy1) (zrN gm 4096, ge, gv)) → va_P D vwCl [(m2, .inl (cI, 4, .inl gh)), (m3, .inl (cI, 16384, .inl gd)), (m5, .inl (cI, 4096, .inl gk)), (m6, .inl (cI, 4096, .inl gl)), (m1, .inl (cI, 4, .inl gw)), (h0, .inr (9, [.ref m1, .ref m2, .ref m3, .int ik, .int wy, .int op, .int cl, .int cx0, .int cx1, .int cy0, .int cy1, .int ds, .ref m4, .ref m5, .ref m6, .ref m7, .ref m8, .ref m9, .int pn, .ref m10, .ref m11, .ref m12, .ref m13])), (m4, .inl (cZ, 4096, .inl gj))] H → va_D A [(m2, .inl (cI, 4, .inl gh)), (m3, .inl (cI, 16384, .inl gd)), (m5, .inl (cI, 4096, .inl gk)), (m6, .inl (cI, 4096, .inl gl)), (m1, .inl (cI, 4, .inl gw)), (h0, .inr (9, [.ref m1, .ref m2, .ref m3, .int ik, .int wy, .int op, .int cl, .int cx0, .int cx1, .int cy0, .int cy1, .int ds, .ref m4, .ref m5, .ref m6, .ref m7, .ref m8, .ref m9, .int pn, .ref m10, .ref m11, .ref m12, .ref m13])), (m4, .inl (cZ, 4096, .inl gj))] → va_S A s.heap H locs → lv_has ls 11 [(10, .int x10), (9, .int x9), (0, .ref h0), (1, .int k), (2, .int ax), (3, .int ay), (4, .int aw), (5, .int ah), (6, .int kq), (7, .int ox), (8, .int oy)] → W p l e R s m ([.ref h0, .int k, .int ax, .int ay, .int aw, .int ah, .int kq, .int ox, .int oy] : List Value).toArray below meth c H locs 0 0 Q (F0 m 78 ls []) := by
                          intro n
                          induction n with
                          | zero =>
                            intro i x10 gj gk gl H locs ls hi_i hm_i ex_i hio hgi hP hD hS hl
                            exact absurd (show False by omega) not_false
                          | succ n ih_28 =>
                            intro i x10 gj gk gl H locs ls hi_i hm_i ex_i hio hgi hP hD hS hl
                            have hx_i : x10.toInt = (i : Int) := by rw [ex_i]; exact nI_toInt (by omega)
                            have hc_i : x10.toNatClampNeg = i := by rw [ex_i]; exact nI_clamp (by omega)
                            refine lv_iload hx hb dX9_copy_78 (lv_at hl 0 rfl) ?_
                            refine lv_iload hx hb dX9_copy_80 (lv_at hl 6 rfl) ?_
                            refine lv_icmp_ge (tgt := 144) hx hb dX9_copy_82 (by decide) (fun c_29 => ?_) (fun c_29 => ?_)
                            · skip
                              have f_30 : aw.toInt ≤ (i : Int) := f_le rfl hx_i c_29
                              obtain ⟨y_31, ey_31⟩ : ∃ y : Int32, y = x9 + 1 := ⟨_, rfl⟩
                              refine lv_iinc (v := y_31) (lv' := [(9, .int y_31), (10, .int x10), (0, .ref h0), (1, .int k), (2, .int ax), (3, .int ay), (4, .int aw), (5, .int ah), (6, .int kq), (7, .int ox), (8, .int oy)]) hx hb dX9_copy_144 hl (k := 1) rfl (by rw [ey_31]; rfl) (by decide) rfl (fun ls hl => ?_)
                              refine lv_goto (tgt := 68) hx hb dX9_copy_147 (by decide) ?_
                              exact ih_23 (j + 1) y_31 gj gk gl _ _ _ (by omega) (by omega) (by rw [ey_31, ex_j]; exact nI_1 j) (by omega) (gl_nx hgi (by omega)) (hP.sub (ws' := [(m2, .inl (cI, 4, .inl gh)), (m3, .inl (cI, 16384, .inl gd)), (m5, .inl (cI, 4096, .inl gk)), (m6, .inl (cI, 4096, .inl gl)), (m1, .inl (cI, 4, .inl gw)), (h0, .inr (9, [.ref m1, .ref m2, .ref m3, .int ik, .int wy, .int op, .int cl, .int cx0, .int cx1, .int cy0, .int cy1, .int ds, .ref m4, .ref m5, .ref m6, .ref m7, .ref m8, .ref m9, .int pn, .ref m10, .ref m11, .ref m12, .ref m13])), (m4, .inl (cZ, 4096, .inl gj))]) [0, 1, 2, 3, 4, 5, 6] rfl) (hD.sub (ws' := [(m2, .inl (cI, 4, .inl gh)), (m3, .inl (cI, 16384, .inl gd)), (m5, .inl (cI, 4096, .inl gk)), (m6, .inl (cI, 4096, .inl gl)), (m1, .inl (cI, 4, .inl gw)), (h0, .inr (9, [.ref m1, .ref m2, .ref m3, .int ik, .int wy, .int op, .int cl, .int cx0, .int cx1, .int cy0, .int cy1, .int ds, .ref m4, .ref m5, .ref m6, .ref m7, .ref m8, .ref m9, .int pn, .ref m10, .ref m11, .ref m12, .ref m13])), (m4, .inl (cZ, 4096, .inl gj))]) [0, 1, 2, 3, 4, 5, 6] (by decide) rfl) hS (lv_sub hl [0, 2, 3, 4, 5, 6, 7, 8, 9, 10] rfl)
                            · skip
                              have f_30 : ¬ (aw.toInt ≤ (i : Int)) := fn_le rfl hx_i c_29
                              refine lv_aload_n hx hb dX9_copy_85 rfl (lv_at hl 2 rfl) ?_
                              refine lv_iload_n hx hb dX9_copy_86 rfl (lv_at hl 3 rfl) ?_
                              refine lv_iload_n hx hb dX9_copy_87 rfl (lv_at hl 4 rfl) ?_
                              refine lv_iload hx hb dX9_copy_88 (lv_at hl 0 rfl) ?_
                              refine lv_iadd hx hb dX9_copy_90 ?_
                              refine lv_topi (fun y_32 ey_32 => ?_)
                              have hcyy_32 : y_32 = cyX ax aw aw i := by rw [ey_32, ex_i]; exact (cy_id eW9 (by omega) (by omega)).symm
                              refine lv_iload_n hx hb dX9_copy_91 rfl (lv_at hl 5 rfl) ?_
                              refine lv_iload hx hb dX9_copy_92 (lv_at hl 1 rfl) ?_
                              refine lv_iadd hx hb dX9_copy_94 ?_
                              refine lv_topi (fun y_33 ey_33 => ?_)
                              have hcyy_33 : y_33 = cyX ay ah ah j := by rw [ey_33, ex_j]; exact (cy_id eH9 (by omega) (by omega)).symm
                              have hPc := hP.sub (ws' := [(h0, .inr (9, [.ref m1, .ref m2, .ref m3, .int ik, .int wy, .int op, .int cl, .int cx0, .int cx1, .int cy0, .int cy1, .int ds, .ref m4, .ref m5, .ref m6, .ref m7, .ref m8, .ref m9, .int pn, .ref m10, .ref m11, .ref m12, .ref m13])), (m1, .inl (cI, 4, .inl gw)), (m2, .inl (cI, 4, .inl gh))]) [5, 4, 0] rfl
                              have hDc := hD.sub (ws' := [(h0, .inr (9, [.ref m1, .ref m2, .ref m3, .int ik, .int wy, .int op, .int cl, .int cx0, .int cx1, .int cy0, .int cy1, .int ds, .ref m4, .ref m5, .ref m6, .ref m7, .ref m8, .ref m9, .int pn, .ref m10, .ref m11, .ref m12, .ref m13])), (m1, .inl (cI, 4, .inl gw)), (m2, .inl (cI, 4, .inl gh))]) [5, 4, 0] (by decide) rfl
                              have hKc := hK.sub (tys' := [(cI, .int)]) [0] rfl
                              have hFc := va_free (wc := [(h0, .inr (9, [.ref m1, .ref m2, .ref m3, .int ik, .int wy, .int op, .int cl, .int cx0, .int cx1, .int cy0, .int cy1, .int ds, .ref m4, .ref m5, .ref m6, .ref m7, .ref m8, .ref m9, .int pn, .ref m10, .ref m11, .ref m12, .ref m13])), (m1, .inl (cI, 4, .inl gw)), (m2, .inl (cI, 4, .inl gh))]) hD hS hA [5, 4, 0] rfl
                              refine va_calli (va_runV (As := [.int k, .int y_32, .int y_33]) (rest := []) ⟨hx, hb, hml, hown, hts⟩ (k_X9_isOn l D H.size h0 m1 m2 m3 m4 m5 m6 m7 m8 m9 m10 m11 m12 m13 ik wy op cl cx0 cx1 cy0 cy1 ds pn gw gh k y_32 y_33 cI (by omega)) (cwV 3 hts (gV bw_433 bw_418 bw_419 bw_391 bw_417) rfl rfl rfl (by decide +kernel) ⟨(by rw [hR]; exact Nat.le_of_ble_eq_true rfl), (by rw [hR]; exact Nat.le_of_ble_eq_true rfl)⟩) ⟨cP_blind, va_recv hKc hPc (ci := 9) (q0 := 0) rfl rfl, cP_at hPc hKc hDc hN⟩ rfl rfl hl.1 rfl (lv_room (Nat.le_of_ble_eq_true rfl)) dX9_copy_95 ⟨(by rw [hR]; exact Nat.le_of_ble_eq_true rfl), (by rw [hR]; exact Nat.le_of_ble_eq_true rfl)⟩) hS (fun q _ h => hFc q h) hFc (fun r_34 u9 t9 H1 locs ht hvm hr_34 hB hz1 hk1 hS => ?_)
                              try dsimp only at hr_34
                              obtain ⟨hP1, hK1, hD1⟩ := hB
                              rw [ht] at hP1
                              obtain ⟨hP, hD⟩ := va_join (wr := [(m3, .inl (cI, 16384, .inl gd)), (m5, .inl (cI, 4096, .inl gk)), (m6, .inl (cI, 4096, .inl gl)), (m4, .inl (cZ, 4096, .inl gj))]) (w1 := [(h0, .inr (9, [.ref m1, .ref m2, .ref m3, .int ik, .int wy, .int op, .int cl, .int cx0, .int cx1, .int cy0, .int cy1, .int ds, .ref m4, .ref m5, .ref m6, .ref m7, .ref m8, .ref m9, .int pn, .ref m10, .ref m11, .ref m12, .ref m13])), (m1, .inl (cI, 4, .inl gw)), (m2, .inl (cI, 4, .inl gh))]) hP hD [5, 4, 0] [1, 2, 3, 6] rfl rfl (by decide) (by decide) hk1 hFc hP1 hD1
                              clear hz1 hk1 hFc hKc hDc hPc
                              generalize H1 = H at hP hS ⊢
                              have hP : va_P D vwCl [(m3, .inl (cI, 16384, .inl gd)), (m5, .inl (cI, 4096, .inl gk)), (m6, .inl (cI, 4096, .inl gl)), (m4, .inl (cZ, 4096, .inl gj)), (h0, .inr (9, [.ref m1, .ref m2, .ref m3, .int ik, .int wy, .int op, .int cl, .int cx0, .int cx1, .int cy0, .int cy1, .int ds, .ref m4, .ref m5, .ref m6, .ref m7, .ref m8, .ref m9, .int pn, .ref m10, .ref m11, .ref m12, .ref m13])), (m1, .inl (cI, 4, .inl gw)), (m2, .inl (cI, 4, .inl gh))] H := hP
                              have hD : va_D A [(m3, .inl (cI, 16384, .inl gd)), (m5, .inl (cI, 4096, .inl gk)), (m6, .inl (cI, 4096, .inl gl)), (m4, .inl (cZ, 4096, .inl gj)), (h0, .inr (9, [.ref m1, .ref m2, .ref m3, .int ik, .int wy, .int op, .int cl, .int cx0, .int cx1, .int cy0, .int cy1, .int ds, .ref m4, .ref m5, .ref m6, .ref m7, .ref m8, .ref m9, .int pn, .ref m10, .ref m11, .ref m12, .ref m13])), (m1, .inl (cI, 4, .inl gw)), (m2, .inl (cI, 4, .inl gh))] := hD
                              refine lv_if_eq (tgt := 138) hx hb dX9_copy_98 (by decide) (fun c_35 => ?_) (fun c_35 => ?_)
                              · skip
                                have f_36 := bz0 hr_34 c_35
                                obtain ⟨y_37, ey_37⟩ : ∃ y : Int32, y = x10 + 1 := ⟨_, rfl⟩
                                refine lv_iinc (v := y_37) (lv' := [(10, .int y_37), (9, .int x9), (0, .ref h0), (1, .int k), (2, .int ax), (3, .int ay), (4, .int aw), (5, .int ah), (6, .int kq), (7, .int ox), (8, .int oy)]) hx hb dX9_copy_138 hl (k := 0) rfl (by rw [ey_37]; rfl) (by decide) rfl (fun ls hl => ?_)
                                refine lv_goto (tgt := 78) hx hb dX9_copy_141 (by decide) ?_
                                exact ih_28 (i + 1) y_37 gj gk gl _ _ _ (by omega) (by omega) (by rw [ey_37, ex_i]; exact nI_1 i) (by omega) (by rw [show gR (cyQ ax ay aw ah ox oy aw ah (gw k.toNatClampNeg) (gh k.toNatClampNeg) op (fun t => gd (4096 * k.toNatClampNeg + t))) j (i + 1) = gR (cyQ ax ay aw ah ox oy aw ah (gw k.toNatClampNeg) (gh k.toNatClampNeg) op (fun t => gd (4096 * k.toNatClampNeg + t))) j i ++ [] from congrArg (gR (cyQ ax ay aw ah ox oy aw ah (gw k.toNatClampNeg) (gh k.toNatClampNeg) op (fun t => gd (4096 * k.toNatClampNeg + t))) j i ++ ·) (show (cyQ ax ay aw ah ox oy aw ah (gw k.toNatClampNeg) (gh k.toNatClampNeg) op (fun t => gd (4096 * k.toNatClampNeg + t))) j i = [] from if_neg (by rw [← hcyy_32, ← hcyy_33]; exact f_36)), List.append_nil]; exact hgi) (hP.sub (ws' := [(m2, .inl (cI, 4, .inl gh)), (m3, .inl (cI, 16384, .inl gd)), (m5, .inl (cI, 4096, .inl gk)), (m6, .inl (cI, 4096, .inl gl)), (m1, .inl (cI, 4, .inl gw)), (h0, .inr (9, [.ref m1, .ref m2, .ref m3, .int ik, .int wy, .int op, .int cl, .int cx0, .int cx1, .int cy0, .int cy1, .int ds, .ref m4, .ref m5, .ref m6, .ref m7, .ref m8, .ref m9, .int pn, .ref m10, .ref m11, .ref m12, .ref m13])), (m4, .inl (cZ, 4096, .inl gj))]) [6, 0, 1, 2, 5, 4, 3] rfl) (hD.sub (ws' := [(m2, .inl (cI, 4, .inl gh)), (m3, .inl (cI, 16384, .inl gd)), (m5, .inl (cI, 4096, .inl gk)), (m6, .inl (cI, 4096, .inl gl)), (m1, .inl (cI, 4, .inl gw)), (h0, .inr (9, [.ref m1, .ref m2, .ref m3, .int ik, .int wy, .int op, .int cl, .int cx0, .int cx1, .int cy0, .int cy1, .int ds, .ref m4, .ref m5, .ref m6, .ref m7, .ref m8, .ref m9, .int pn, .ref m10, .ref m11, .ref m12, .ref m13])), (m4, .inl (cZ, 4096, .inl gj))]) [6, 0, 1, 2, 5, 4, 3] (by decide) rfl) hS (lv_sub hl [0, 1, 2, 3, 4, 5, 6, 7, 8, 9, 10] rfl)
                              · skip
                                have f_36 := bz1 hr_34 c_35
                                refine lv_aload_n hx hb dX9_copy_101 rfl (lv_at hl 2 rfl) ?_
                                refine lv_iload hx hb dX9_copy_102 (lv_at hl 8 rfl) ?_
                                refine lv_iload hx hb dX9_copy_104 (lv_at hl 9 rfl) ?_
                                refine lv_iload hx hb dX9_copy_106 (lv_at hl 0 rfl) ?_
                                refine lv_iadd hx hb dX9_copy_108 ?_
                                refine lv_topi (fun y_38 ey_38 => ?_)
                                have hply_38 : y_38 = ox + nI i := by rw [ey_38, ex_i]
                                refine lv_iload hx hb dX9_copy_109 (lv_at hl 10 rfl) ?_
                                refine lv_iload hx hb dX9_copy_111 (lv_at hl 1 rfl) ?_
                                refine lv_iadd hx hb dX9_copy_113 ?_
                                refine lv_topi (fun y_39 ey_39 => ?_)
                                have hply_39 : y_39 = oy + nI j := by rw [ey_39, ex_j]
                                refine lv_aload_n hx hb dX9_copy_114 rfl (lv_at hl 2 rfl) ?_
                                refine va_get (D := D) (ci := 9) (v := .ref m3) (C := RX9) (T := TX9) (N := 23) hx hb hts hi_X9 hown hK hP 4 rfl rfl 2 (by decide) (hts _ bw_398) (fun _ h9 => h9) rfl dX9_copy_115 ?_
                                refine lv_iload_n hx hb dX9_copy_118 rfl (lv_at hl 3 rfl) ?_
                                refine lv_iload_n hx hb dX9_copy_119 rfl (lv_at hl 4 rfl) ?_
                                refine lv_iload hx hb dX9_copy_120 (lv_at hl 0 rfl) ?_
                                refine lv_iadd hx hb dX9_copy_122 ?_
                                refine lv_topi (fun y_40 ey_40 => ?_)
                                have hcyy_40 : y_40 = cyX ax aw aw i := by rw [ey_40, ex_i]; exact (cy_id eW9 (by omega) (by omega)).symm
                                refine lv_iload_n hx hb dX9_copy_123 rfl (lv_at hl 5 rfl) ?_
                                refine lv_iload hx hb dX9_copy_124 (lv_at hl 1 rfl) ?_
                                refine lv_iadd hx hb dX9_copy_126 ?_
                                refine lv_topi (fun y_41 ey_41 => ?_)
                                have hcyy_41 : y_41 = cyX ay ah ah j := by rw [ey_41, ex_j]; exact (cy_id eH9 (by omega) (by omega)).symm
                                have hPc := hP.sub (ws' := []) [] rfl
                                have hDc := hD.sub (ws' := []) [] (by decide) rfl
                                have hKc := hK.sub (tys' := []) [] rfl
                                have hFc := va_free (wc := []) hD hS hA [] rfl
                                refine va_calli (va_runS (As := [.int k, .int y_40, .int y_41]) (rest := [.ref m3, .int y_39, .int y_38, .int kq, .ref h0]) ⟨hx, hb, hml, hown, hts⟩ (k_X9_spot l D H.size k y_40 y_41) (va_cwS 3 hts (gS bw_551 bw_421 bw_391 bw_420) rfl rfl rfl (by decide +kernel) ⟨(by rw [hR]; exact Nat.le_of_ble_eq_true rfl), (by rw [hR]; exact Nat.le_of_ble_eq_true rfl)⟩) ⟨cP_blind, cP_at hPc hKc hDc hN⟩ rfl rfl hl.1 rfl (lv_room (Nat.le_of_ble_eq_true rfl)) dX9_copy_127 ⟨(by rw [hR]; exact Nat.le_of_ble_eq_true rfl), (by rw [hR]; exact Nat.le_of_ble_eq_true rfl)⟩) hS (fun q _ h => hFc q h) hFc (fun r_42 u9 t9 H1 locs ht hvm hr_42 hB hz1 hk1 hS => ?_)
                                try dsimp only at hr_42
                                have hP1 : va_P D vwCl [] H1 := vP_nil
                                have hD1 : va_D (va_A [] H.size) [] := vD_nil
                                obtain ⟨hP, hD⟩ := va_join (wr := [(m3, .inl (cI, 16384, .inl gd)), (m5, .inl (cI, 4096, .inl gk)), (m6, .inl (cI, 4096, .inl gl)), (m4, .inl (cZ, 4096, .inl gj)), (h0, .inr (9, [.ref m1, .ref m2, .ref m3, .int ik, .int wy, .int op, .int cl, .int cx0, .int cx1, .int cy0, .int cy1, .int ds, .ref m4, .ref m5, .ref m6, .ref m7, .ref m8, .ref m9, .int pn, .ref m10, .ref m11, .ref m12, .ref m13])), (m1, .inl (cI, 4, .inl gw)), (m2, .inl (cI, 4, .inl gh))]) (w1 := []) hP hD [] [0, 1, 2, 3, 4, 5, 6] rfl rfl (by decide) (by decide) hk1 hFc hP1 hD1
                                clear hz1 hk1 hFc hKc hDc hPc
                                generalize H1 = H at hP hS ⊢
                                have hP : va_P D vwCl [(m3, .inl (cI, 16384, .inl gd)), (m5, .inl (cI, 4096, .inl gk)), (m6, .inl (cI, 4096, .inl gl)), (m4, .inl (cZ, 4096, .inl gj)), (h0, .inr (9, [.ref m1, .ref m2, .ref m3, .int ik, .int wy, .int op, .int cl, .int cx0, .int cx1, .int cy0, .int cy1, .int ds, .ref m4, .ref m5, .ref m6, .ref m7, .ref m8, .ref m9, .int pn, .ref m10, .ref m11, .ref m12, .ref m13])), (m1, .inl (cI, 4, .inl gw)), (m2, .inl (cI, 4, .inl gh))] H := hP
                                have hD : va_D A [(m3, .inl (cI, 16384, .inl gd)), (m5, .inl (cI, 4096, .inl gk)), (m6, .inl (cI, 4096, .inl gl)), (m4, .inl (cZ, 4096, .inl gj)), (h0, .inr (9, [.ref m1, .ref m2, .ref m3, .int ik, .int wy, .int op, .int cl, .int cx0, .int cx1, .int cy0, .int cy1, .int ds, .ref m4, .ref m5, .ref m6, .ref m7, .ref m8, .ref m9, .int pn, .ref m10, .ref m11, .ref m12, .ref m13])), (m1, .inl (cI, 4, .inl gw)), (m2, .inl (cI, 4, .inl gh))] := hD
                                have hq_43 : y_40 = y_32 := by rw [ey_40, ey_32]
                                have hq_44 : y_41 = y_33 := by rw [ey_41, ey_33]
                                refine va_iald hx hb hK hP 0 0 rfl rfl (by rw [hr_42, hq_43, hq_44]; exact sp_in (by omega) (by omega) (by omega) (by omega) (by omega) (by omega)) dX9_copy_130 ?_
                                refine my_fold (v := gd (4096 * k.toNatClampNeg + ixP y_32 y_33)) (congrArg gd (by rw [hr_42, hq_43, hq_44]; exact sp_cl (by omega) (by omega) (by omega) (by omega) (by omega) (by omega))) ?_
                                refine lv_aload_n hx hb dX9_copy_131 rfl (lv_at hl 2 rfl) ?_
                                refine va_get (D := D) (ci := 9) (v := .int op) (C := RX9) (T := TX9) (N := 23) hx hb hts hi_X9 hown hK hP 4 rfl rfl 5 (by decide) (hts _ bw_401) (fun _ h9 => h9) rfl dX9_copy_132 ?_
                                have hPc := hP.sub (ws' := [(h0, .inr (9, [.ref m1, .ref m2, .ref m3, .int ik, .int wy, .int op, .int cl, .int cx0, .int cx1, .int cy0, .int cy1, .int ds, .ref m4, .ref m5, .ref m6, .ref m7, .ref m8, .ref m9, .int pn, .ref m10, .ref m11, .ref m12, .ref m13])), (m1, .inl (cI, 4, .inl gw)), (m2, .inl (cI, 4, .inl gh)), (m4, .inl (cZ, 4096, .inl gj)), (m5, .inl (cI, 4096, .inl gk)), (m6, .inl (cI, 4096, .inl gl))]) [4, 5, 6, 3, 1, 2] rfl
                                have hDc := hD.sub (ws' := [(h0, .inr (9, [.ref m1, .ref m2, .ref m3, .int ik, .int wy, .int op, .int cl, .int cx0, .int cx1, .int cy0, .int cy1, .int ds, .ref m4, .ref m5, .ref m6, .ref m7, .ref m8, .ref m9, .int pn, .ref m10, .ref m11, .ref m12, .ref m13])), (m1, .inl (cI, 4, .inl gw)), (m2, .inl (cI, 4, .inl gh)), (m4, .inl (cZ, 4096, .inl gj)), (m5, .inl (cI, 4096, .inl gk)), (m6, .inl (cI, 4096, .inl gl))]) [4, 5, 6, 3, 1, 2] (by decide) rfl
                                have hKc := hK.sub (tys' := [(cI, .int), (cZ, .boolean)]) [0, 1] rfl
                                have hFc := va_free (wc := [(h0, .inr (9, [.ref m1, .ref m2, .ref m3, .int ik, .int wy, .int op, .int cl, .int cx0, .int cx1, .int cy0, .int cy1, .int ds, .ref m4, .ref m5, .ref m6, .ref m7, .ref m8, .ref m9, .int pn, .ref m10, .ref m11, .ref m12, .ref m13])), (m1, .inl (cI, 4, .inl gw)), (m2, .inl (cI, 4, .inl gh)), (m4, .inl (cZ, 4096, .inl gj)), (m5, .inl (cI, 4096, .inl gk)), (m6, .inl (cI, 4096, .inl gl))]) hD hS hA [4, 5, 6, 3, 1, 2] rfl
                                refine va_callv (va_runV (As := [.int kq, .int y_38, .int y_39, .int (gd (4096 * k.toNatClampNeg + ixP y_32 y_33)), .int op]) (rest := []) ⟨hx, hb, hml, hown, hts⟩ (k_X9_marks l D H.size h0 m1 m2 m3 m4 m5 m6 m7 m8 m9 m10 m11 m12 m13 ik wy op cl cx0 cx1 cy0 cy1 ds pn gw gh gj gk gl kq y_38 y_39 (gd (4096 * k.toNatClampNeg + ixP y_32 y_33)) op cI cZ (by omega) (by omega) (by omega)) (cwV 5 hts (gV bw_495 bw_458 bw_459 bw_391 bw_457) rfl rfl rfl (by decide +kernel) ⟨(by rw [hR]; exact Nat.le_of_ble_eq_true rfl), (by rw [hR]; exact Nat.le_of_ble_eq_true rfl)⟩) ⟨cP_blind, va_recv hKc hPc (ci := 9) (q0 := 0) rfl rfl, cP_at hPc hKc hDc hN⟩ rfl rfl hl.1 rfl (lv_room (Nat.le_of_ble_eq_true rfl)) dX9_copy_135 ⟨(by rw [hR]; exact Nat.le_of_ble_eq_true rfl), (by rw [hR]; exact Nat.le_of_ble_eq_true rfl)⟩) hS (fun q _ h => hFc q h) hFc (fun u9 t9 H1 locs ht hvm hr_45 hB hz1 hk1 hS => ?_)
                                try dsimp only at hr_45
                                obtain ⟨hP1, hK1, hD1⟩ := hB
                                rw [ht] at hP1
                                obtain ⟨hP, hD⟩ := va_join (wr := [(m3, .inl (cI, 16384, .inl gd))]) (w1 := [(h0, .inr (9, [.ref m1, .ref m2, .ref m3, .int ik, .int wy, .int op, .int cl, .int cx0, .int cx1, .int cy0, .int cy1, .int ds, .ref m4, .ref m5, .ref m6, .ref m7, .ref m8, .ref m9, .int pn, .ref m10, .ref m11, .ref m12, .ref m13])), (m1, .inl (cI, 4, .inl gw)), (m2, .inl (cI, 4, .inl gh)), (m4, .inl (cZ, 4096, .inl (if (0 ≤ y_38.toInt ∧ y_38.toInt < (gw kq.toNatClampNeg).toInt ∧ 0 ≤ y_39.toInt ∧ y_39.toInt < (gh kq.toNatClampNeg).toInt) ∧ (cl.toInt = 0 ∨ (cx0.toInt ≤ y_38.toInt ∧ y_38.toInt ≤ cx1.toInt ∧ cy0.toInt ≤ y_39.toInt ∧ y_39.toInt ≤ cy1.toInt)) then upd gj (ixP y_38 y_39) 1 else gj))), (m5, .inl (cI, 4096, .inl (if (0 ≤ y_38.toInt ∧ y_38.toInt < (gw kq.toNatClampNeg).toInt ∧ 0 ≤ y_39.toInt ∧ y_39.toInt < (gh kq.toNatClampNeg).toInt) ∧ (cl.toInt = 0 ∨ (cx0.toInt ≤ y_38.toInt ∧ y_38.toInt ≤ cx1.toInt ∧ cy0.toInt ≤ y_39.toInt ∧ y_39.toInt ≤ cy1.toInt)) then upd gk (ixP y_38 y_39) op else gk))), (m6, .inl (cI, 4096, .inl (if (0 ≤ y_38.toInt ∧ y_38.toInt < (gw kq.toNatClampNeg).toInt ∧ 0 ≤ y_39.toInt ∧ y_39.toInt < (gh kq.toNatClampNeg).toInt) ∧ (cl.toInt = 0 ∨ (cx0.toInt ≤ y_38.toInt ∧ y_38.toInt ≤ cx1.toInt ∧ cy0.toInt ≤ y_39.toInt ∧ y_39.toInt ≤ cy1.toInt)) then upd gl (ixP y_38 y_39) (gd (4096 * k.toNatClampNeg + ixP y_32 y_33)) else gl)))]) hP hD [4, 5, 6, 3, 1, 2] [0] rfl rfl (by decide) (by decide) hk1 hFc hP1 hD1
                                clear hz1 hk1 hFc hKc hDc hPc
                                generalize H1 = H at hP hS ⊢
                                have hP : va_P D vwCl [(m3, .inl (cI, 16384, .inl gd)), (h0, .inr (9, [.ref m1, .ref m2, .ref m3, .int ik, .int wy, .int op, .int cl, .int cx0, .int cx1, .int cy0, .int cy1, .int ds, .ref m4, .ref m5, .ref m6, .ref m7, .ref m8, .ref m9, .int pn, .ref m10, .ref m11, .ref m12, .ref m13])), (m1, .inl (cI, 4, .inl gw)), (m2, .inl (cI, 4, .inl gh)), (m4, .inl (cZ, 4096, .inl (if (0 ≤ y_38.toInt ∧ y_38.toInt < (gw kq.toNatClampNeg).toInt ∧ 0 ≤ y_39.toInt ∧ y_39.toInt < (gh kq.toNatClampNeg).toInt) ∧ (cl.toInt = 0 ∨ (cx0.toInt ≤ y_38.toInt ∧ y_38.toInt ≤ cx1.toInt ∧ cy0.toInt ≤ y_39.toInt ∧ y_39.toInt ≤ cy1.toInt)) then upd gj (ixP y_38 y_39) 1 else gj))), (m5, .inl (cI, 4096, .inl (if (0 ≤ y_38.toInt ∧ y_38.toInt < (gw kq.toNatClampNeg).toInt ∧ 0 ≤ y_39.toInt ∧ y_39.toInt < (gh kq.toNatClampNeg).toInt) ∧ (cl.toInt = 0 ∨ (cx0.toInt ≤ y_38.toInt ∧ y_38.toInt ≤ cx1.toInt ∧ cy0.toInt ≤ y_39.toInt ∧ y_39.toInt ≤ cy1.toInt)) then upd gk (ixP y_38 y_39) op else gk))), (m6, .inl (cI, 4096, .inl (if (0 ≤ y_38.toInt ∧ y_38.toInt < (gw kq.toNatClampNeg).toInt ∧ 0 ≤ y_39.toInt ∧ y_39.toInt < (gh kq.toNatClampNeg).toInt) ∧ (cl.toInt = 0 ∨ (cx0.toInt ≤ y_38.toInt ∧ y_38.toInt ≤ cx1.toInt ∧ cy0.toInt ≤ y_39.toInt ∧ y_39.toInt ≤ cy1.toInt)) then upd gl (ixP y_38 y_39) (gd (4096 * k.toNatClampNeg + ixP y_32 y_33)) else gl)))] H := hP
                                have hD : va_D A [(m3, .inl (cI, 16384, .inl gd)), (h0, .inr (9, [.ref m1, .ref m2, .ref m3, .int ik, .int wy, .int op, .int cl, .int cx0, .int cx1, .int cy0, .int cy1, .int ds, .ref m4, .ref m5, .ref m6, .ref m7, .ref m8, .ref m9, .int pn, .ref m10, .ref m11, .ref m12, .ref m13])), (m1, .inl (cI, 4, .inl gw)), (m2, .inl (cI, 4, .inl gh)), (m4, .inl (cZ, 4096, .inl (if (0 ≤ y_38.toInt ∧ y_38.toInt < (gw kq.toNatClampNeg).toInt ∧ 0 ≤ y_39.toInt ∧ y_39.toInt < (gh kq.toNatClampNeg).toInt) ∧ (cl.toInt = 0 ∨ (cx0.toInt ≤ y_38.toInt ∧ y_38.toInt ≤ cx1.toInt ∧ cy0.toInt ≤ y_39.toInt ∧ y_39.toInt ≤ cy1.toInt)) then upd gj (ixP y_38 y_39) 1 else gj))), (m5, .inl (cI, 4096, .inl (if (0 ≤ y_38.toInt ∧ y_38.toInt < (gw kq.toNatClampNeg).toInt ∧ 0 ≤ y_39.toInt ∧ y_39.toInt < (gh kq.toNatClampNeg).toInt) ∧ (cl.toInt = 0 ∨ (cx0.toInt ≤ y_38.toInt ∧ y_38.toInt ≤ cx1.toInt ∧ cy0.toInt ≤ y_39.toInt ∧ y_39.toInt ≤ cy1.toInt)) then upd gk (ixP y_38 y_39) op else gk))), (m6, .inl (cI, 4096, .inl (if (0 ≤ y_38.toInt ∧ y_38.toInt < (gw kq.toNatClampNeg).toInt ∧ 0 ≤ y_39.toInt ∧ y_39.toInt < (gh kq.toNatClampNeg).toInt) ∧ (cl.toInt = 0 ∨ (cx0.toInt ≤ y_38.toInt ∧ y_38.toInt ≤ cx1.toInt ∧ cy0.toInt ≤ y_39.toInt ∧ y_39.toInt ≤ cy1.toInt)) then upd gl (ixP y_38 y_39) (gd (4096 * k.toNatClampNeg + ixP y_32 y_33)) else gl)))] := hD
                                generalize eg_46 : (if (0 ≤ y_38.toInt ∧ y_38.toInt < (gw kq.toNatClampNeg).toInt ∧ 0 ≤ y_39.toInt ∧ y_39.toInt < (gh kq.toNatClampNeg).toInt) ∧ (cl.toInt = 0 ∨ (cx0.toInt ≤ y_38.toInt ∧ y_38.toInt ≤ cx1.toInt ∧ cy0.toInt ≤ y_39.toInt ∧ y_39.toInt ≤ cy1.toInt)) then upd gj (ixP y_38 y_39) 1 else gj) = g_46 at hP hD
                                generalize eg_47 : (if (0 ≤ y_38.toInt ∧ y_38.toInt < (gw kq.toNatClampNeg).toInt ∧ 0 ≤ y_39.toInt ∧ y_39.toInt < (gh kq.toNatClampNeg).toInt) ∧ (cl.toInt = 0 ∨ (cx0.toInt ≤ y_38.toInt ∧ y_38.toInt ≤ cx1.toInt ∧ cy0.toInt ≤ y_39.toInt ∧ y_39.toInt ≤ cy1.toInt)) then upd gk (ixP y_38 y_39) op else gk) = g_47 at hP hD
                                generalize eg_48 : (if (0 ≤ y_38.toInt ∧ y_38.toInt < (gw kq.toNatClampNeg).toInt ∧ 0 ≤ y_39.toInt ∧ y_39.toInt < (gh kq.toNatClampNeg).toInt) ∧ (cl.toInt = 0 ∨ (cx0.toInt ≤ y_38.toInt ∧ y_38.toInt ≤ cx1.toInt ∧ cy0.toInt ≤ y_39.toInt ∧ y_39.toInt ≤ cy1.toInt)) then upd gl (ixP y_38 y_39) (gd (4096 * k.toNatClampNeg + ixP y_32 y_33)) else gl) = g_48 at hP hD
                                have hP : va_P D vwCl [(m3, .inl (cI, 16384, .inl gd)), (h0, .inr (9, [.ref m1, .ref m2, .ref m3, .int ik, .int wy, .int op, .int cl, .int cx0, .int cx1, .int cy0, .int cy1, .int ds, .ref m4, .ref m5, .ref m6, .ref m7, .ref m8, .ref m9, .int pn, .ref m10, .ref m11, .ref m12, .ref m13])), (m1, .inl (cI, 4, .inl gw)), (m2, .inl (cI, 4, .inl gh)), (m4, .inl (cZ, 4096, .inl g_46)), (m5, .inl (cI, 4096, .inl g_47)), (m6, .inl (cI, 4096, .inl g_48))] H := hP
                                have hD : va_D A [(m3, .inl (cI, 16384, .inl gd)), (h0, .inr (9, [.ref m1, .ref m2, .ref m3, .int ik, .int wy, .int op, .int cl, .int cx0, .int cx1, .int cy0, .int cy1, .int ds, .ref m4, .ref m5, .ref m6, .ref m7, .ref m8, .ref m9, .int pn, .ref m10, .ref m11, .ref m12, .ref m13])), (m1, .inl (cI, 4, .inl gw)), (m2, .inl (cI, 4, .inl gh)), (m4, .inl (cZ, 4096, .inl g_46)), (m5, .inl (cI, 4096, .inl g_47)), (m6, .inl (cI, 4096, .inl g_48))] := hD
                                have hM : ((g_46, g_47, g_48) : M3) = (mkF (gw kq.toNatClampNeg) (gh kq.toNatClampNeg) cl cx0 cx1 cy0 cy1) (gj, gk, gl) (y_38, y_39, (gd (4096 * k.toNatClampNeg + ixP y_32 y_33)), op) := by rw [← eg_46, ← eg_47, ← eg_48]; rfl
                                obtain ⟨y_49, ey_49⟩ : ∃ y : Int32, y = x10 + 1 := ⟨_, rfl⟩
                                refine lv_iinc (v := y_49) (lv' := [(10, .int y_49), (9, .int x9), (0, .ref h0), (1, .int k), (2, .int ax), (3, .int ay), (4, .int aw), (5, .int ah), (6, .int kq), (7, .int ox), (8, .int oy)]) hx hb dX9_copy_138 hl (k := 0) rfl (by rw [ey_49]; rfl) (by decide) rfl (fun ls hl => ?_)
                                refine lv_goto (tgt := 78) hx hb dX9_copy_141 (by decide) ?_
                                exact ih_28 (i + 1) y_49 g_46 g_47 g_48 _ _ _ (by omega) (by omega) (by rw [ey_49, ex_i]; exact nI_1 i) (by omega) (by rw [show gR (cyQ ax ay aw ah ox oy aw ah (gw k.toNatClampNeg) (gh k.toNatClampNeg) op (fun t => gd (4096 * k.toNatClampNeg + t))) j (i + 1) = gR (cyQ ax ay aw ah ox oy aw ah (gw k.toNatClampNeg) (gh k.toNatClampNeg) op (fun t => gd (4096 * k.toNatClampNeg + t))) j i ++ [(y_38, y_39, gd (4096 * k.toNatClampNeg + ixP y_32 y_33), op)] from congrArg (gR (cyQ ax ay aw ah ox oy aw ah (gw k.toNatClampNeg) (gh k.toNatClampNeg) op (fun t => gd (4096 * k.toNatClampNeg + t))) j i ++ ·) (show (cyQ ax ay aw ah ox oy aw ah (gw k.toNatClampNeg) (gh k.toNatClampNeg) op (fun t => gd (4096 * k.toNatClampNeg + t))) j i = [(y_38, y_39, gd (4096 * k.toNatClampNeg + ixP y_32 y_33), op)] by unfold cyQ; rw [if_pos (by rw [← hcyy_32, ← hcyy_33]; exact f_36), ← hcyy_32, ← hcyy_33, ← hply_38, ← hply_39]), ← List.append_assoc, List.foldl_append, ← hgi]; exact hM) (hP.sub (ws' := [(m2, .inl (cI, 4, .inl gh)), (m3, .inl (cI, 16384, .inl gd)), (m5, .inl (cI, 4096, .inl g_47)), (m6, .inl (cI, 4096, .inl g_48)), (m1, .inl (cI, 4, .inl gw)), (h0, .inr (9, [.ref m1, .ref m2, .ref m3, .int ik, .int wy, .int op, .int cl, .int cx0, .int cx1, .int cy0, .int cy1, .int ds, .ref m4, .ref m5, .ref m6, .ref m7, .ref m8, .ref m9, .int pn, .ref m10, .ref m11, .ref m12, .ref m13])), (m4, .inl (cZ, 4096, .inl g_46))]) [3, 0, 5, 6, 2, 1, 4] rfl) (hD.sub (ws' := [(m2, .inl (cI, 4, .inl gh)), (m3, .inl (cI, 16384, .inl gd)), (m5, .inl (cI, 4096, .inl g_47)), (m6, .inl (cI, 4096, .inl g_48)), (m1, .inl (cI, 4, .inl gw)), (h0, .inr (9, [.ref m1, .ref m2, .ref m3, .int ik, .int wy, .int op, .int cl, .int cx0, .int cx1, .int cy0, .int cy1, .int ds, .ref m4, .ref m5, .ref m6, .ref m7, .ref m8, .ref m9, .int pn, .ref m10, .ref m11, .ref m12, .ref m13])), (m4, .inl (cZ, 4096, .inl g_46))]) [3, 0, 5, 6, 2, 1, 4] (by decide) rfl) hS (lv_sub hl [0, 1, 2, 3, 4, 5, 6, 7, 8, 9, 10] rfl)
                        exact loop_27 (64 + 1) 0 0 ga gb gc _ _ _ (by omega) (by omega) nI_0.symm (by omega) (by rw [show gR (cyQ ax ay aw ah ox oy aw ah (gw k.toNatClampNeg) (gh k.toNatClampNeg) op (fun t => gd (4096 * k.toNatClampNeg + t))) j 0 = [] from rfl, List.append_nil]; exact hgo) hP hD hS (lv_sub hl [0, 1, 2, 3, 4, 5, 6, 7, 8, 9, 10] rfl)
                  exact loop_22 (64 + 1) 0 0 (zrN gm 4096) ge gv _ _ _ (by omega) (by omega) nI_0.symm (by omega) rfl hP hD hS (lv_sub hl [0, 1, 2, 3, 4, 5, 6, 7, 8, 9] rfl)
                · skip
                  have f_20 := bz0 hr_18 c_19
                  exact False.elim (by omega)

set_option maxHeartbeats 4000000 in
set_option maxRecDepth 100000 in
theorem k_X9_copy_re (l : Launch) (D : va_G) (sz : Nat) (h0 m1 m2 m3 m4 m5 m6 m7 m8 m9 m10 m11 m12 m13 : Nat) (ik wy op cl cx0 cx1 cy0 cy1 ds pn : Int32) (gw : Nat → Int32) (k ax ay aw ah kq ox oy : Int32) (cI : ClassId) (hcd : ¬ (((0 ≤ k.toInt ∧ k.toInt ≤ 3 ∧ 0 < (gw k.toNatClampNeg).toInt) ∧ (0 ≤ kq.toInt ∧ kq.toInt ≤ 3 ∧ 0 < (gw kq.toNatClampNeg).toInt)) ∧ ((0 ≤ aw.toInt ∧ aw.toInt ≤ 64) ∧ (0 ≤ ah.toInt ∧ ah.toInt ≤ 64)) ∧ ((-200 ≤ ax.toInt ∧ ax.toInt ≤ 200) ∧ (-200 ≤ ay.toInt ∧ ay.toInt ≤ 200) ∧ (-200 ≤ ox.toInt ∧ ox.toInt ≤ 200) ∧ (-200 ≤ oy.toInt ∧ oy.toInt ≤ 200)))) : Met l yX9_copy (wB yX9_copy cX9_copy 11 (some .int)) ({ frames := 2, cells := 0, slots := 0, locals := 42 }) (cP D [(h0, .inr (9, [.ref m1, .ref m2, .ref m3, .int ik, .int wy, .int op, .int cl, .int cx0, .int cx1, .int cy0, .int cy1, .int ds, .ref m4, .ref m5, .ref m6, .ref m7, .ref m8, .ref m9, .int pn, .ref m10, .ref m11, .ref m12, .ref m13])), (m1, .inl (cI, 4, .inl gw))] [(cI, .int)] sz [.ref h0, .int k, .int ax, .int ay, .int aw, .int ah, .int kq, .int ox, .int oy]) (va_Qi (fun (r : Int32) (_ : Unit) => r = -1) (fun (_ : Unit) (t : State) => cB D (va_A [(h0, .inr (9, [.ref m1, .ref m2, .ref m3, .int ik, .int wy, .int op, .int cl, .int cx0, .int cx1, .int cy0, .int cy1, .int ds, .ref m4, .ref m5, .ref m6, .ref m7, .ref m8, .ref m9, .int pn, .ref m10, .ref m11, .ref m12, .ref m13])), (m1, .inl (cI, 4, .inl gw))] sz) [(h0, .inr (9, [.ref m1, .ref m2, .ref m3, .int ik, .int wy, .int op, .int cl, .int cx0, .int cx1, .int cy0, .int cy1, .int ds, .ref m4, .ref m5, .ref m6, .ref m7, .ref m8, .ref m9, .int pn, .ref m10, .ref m11, .ref m12, .ref m13])), (m1, .inl (cI, 4, .inl gw))] [(cI, .int)] t) (va_A [(h0, .inr (9, [.ref m1, .ref m2, .ref m3, .int ik, .int wy, .int op, .int cl, .int cx0, .int cx1, .int cy0, .int cy1, .int ds, .ref m4, .ref m5, .ref m6, .ref m7, .ref m8, .ref m9, .int pn, .ref m10, .ref m11, .ref m12, .ref m13])), (m1, .inl (cI, 4, .inl gw))] sz)) 0 0 (va_A [(h0, .inr (9, [.ref m1, .ref m2, .ref m3, .int ik, .int wy, .int op, .int cl, .int cx0, .int cx1, .int cy0, .int cy1, .int ds, .ref m4, .ref m5, .ref m6, .ref m7, .ref m8, .ref m9, .int pn, .ref m10, .ref m11, .ref m12, .ref m13])), (m1, .inl (cI, 4, .inl gw))] sz) := by
  refine Met.ofW (cc := cX9_copy) (maxL := 11) (ret := (some .int)) (by decide) rfl ?_
  intro p e s m args below meth c s₁ B hml hv
  obtain ⟨rfl, hsz, hP, hK, hD0, hN⟩ := hv
  have hx := B.exec
  have hb := B.bytes
  have hr := B.returns
  have hts0 := atoms_spec (ws := (wB yX9_copy cX9_copy 11 (some .int))) B.pre
  have hts : ∀ w ∈ bigW, w.before _ s = true := fun w h => hts0 w (List.mem_cons_of_mem _ h)
  have hown : s.vm.findClass RX9 = some m.cls := findClass_of_methodNamed B.named
  have hlocks := B.notSynchronized
  subst hsz
  have hD := hD0.self (sz := s.heap.size)
  generalize hAe : va_A [(h0, .inr (9, [.ref m1, .ref m2, .ref m3, .int ik, .int wy, .int op, .int cl, .int cx0, .int cx1, .int cy0, .int cy1, .int ds, .ref m4, .ref m5, .ref m6, .ref m7, .ref m8, .ref m9, .int pn, .ref m10, .ref m11, .ref m12, .ref m13])), (m1, .inl (cI, 4, .inl gw))] s.heap.size = A at hD ⊢
  have hA : ∀ q : Nat, s.heap.size ≤ q → A q := fun q h => by rw [← hAe]; exact Or.inr h
  have hS : va_S A s.heap s.heap [] := va_S.rf
  have hP : va_P D vwCl [(h0, .inr (9, [.ref m1, .ref m2, .ref m3, .int ik, .int wy, .int op, .int cl, .int cx0, .int cx1, .int cy0, .int cy1, .int ds, .ref m4, .ref m5, .ref m6, .ref m7, .ref m8, .ref m9, .int pn, .ref m10, .ref m11, .ref m12, .ref m13])), (m1, .inl (cI, 4, .inl gw))] s.heap := hP
  have hl := lv_entry ([.ref h0, .int k, .int ax, .int ay, .int aw, .int ah, .int kq, .int ox, .int oy]) (n := 11) (Nat.le_of_ble_eq_true rfl)
  rw [lg_entry_eq]
  generalize (lg_sl ([.ref h0, .int k, .int ax, .int ay, .int aw, .int ah, .int kq, .int ox, .int oy]) ++ List.replicate (11 - (lg_sl ([.ref h0, .int k, .int ax, .int ay, .int aw, .int ah, .int kq, .int ox, .int oy])).length) Slot.unset).toArray = ls at hl ⊢
  have hl : lv_has ls 11 [(0, .ref h0), (1, .int k), (2, .int ax), (3, .int ay), (4, .int aw), (5, .int ah), (6, .int kq), (7, .int ox), (8, .int oy)] := hl
  clear hts0 hD0 hAe
  refine my_abs (fun R Q hR hQ => ?_)
  refine lv_aload_n hx hb dX9_copy_0 rfl (lv_at hl 0 rfl) ?_
  refine lv_iload_n hx hb dX9_copy_1 rfl (lv_at hl 1 rfl) ?_
  have hPc := hP.sub (ws' := [(h0, .inr (9, [.ref m1, .ref m2, .ref m3, .int ik, .int wy, .int op, .int cl, .int cx0, .int cx1, .int cy0, .int cy1, .int ds, .ref m4, .ref m5, .ref m6, .ref m7, .ref m8, .ref m9, .int pn, .ref m10, .ref m11, .ref m12, .ref m13])), (m1, .inl (cI, 4, .inl gw))]) [0, 1] rfl
  have hDc := hD.sub (ws' := [(h0, .inr (9, [.ref m1, .ref m2, .ref m3, .int ik, .int wy, .int op, .int cl, .int cx0, .int cx1, .int cy0, .int cy1, .int ds, .ref m4, .ref m5, .ref m6, .ref m7, .ref m8, .ref m9, .int pn, .ref m10, .ref m11, .ref m12, .ref m13])), (m1, .inl (cI, 4, .inl gw))]) [0, 1] (by decide) rfl
  have hKc := hK.sub (tys' := [(cI, .int)]) [0] rfl
  have hFc := va_free (wc := [(h0, .inr (9, [.ref m1, .ref m2, .ref m3, .int ik, .int wy, .int op, .int cl, .int cx0, .int cx1, .int cy0, .int cy1, .int ds, .ref m4, .ref m5, .ref m6, .ref m7, .ref m8, .ref m9, .int pn, .ref m10, .ref m11, .ref m12, .ref m13])), (m1, .inl (cI, 4, .inl gw))]) hD hS hA [0, 1] rfl
  refine va_calli (va_runV (As := [.int k]) (rest := []) ⟨hx, hb, hml, hown, hts⟩ (k_X9_isSheet l D s.heap.size h0 m1 m2 m3 m4 m5 m6 m7 m8 m9 m10 m11 m12 m13 ik wy op cl cx0 cx1 cy0 cy1 ds pn gw k cI) (cwV 1 hts (gV bw_490 bw_415 bw_416 bw_391 bw_414) rfl rfl rfl (by decide +kernel) ⟨(by rw [hR]; exact Nat.le_of_ble_eq_true rfl), (by rw [hR]; exact Nat.le_of_ble_eq_true rfl)⟩) ⟨cP_blind, va_recv hKc hPc (ci := 9) (q0 := 0) rfl rfl, cP_at hPc hKc hDc hN⟩ rfl rfl hl.1 rfl (lv_room (Nat.le_of_ble_eq_true rfl)) dX9_copy_2 ⟨(by rw [hR]; exact Nat.le_of_ble_eq_true rfl), (by rw [hR]; exact Nat.le_of_ble_eq_true rfl)⟩) hS (fun q _ h => hFc q h) hFc (fun r_1 u9 t9 H1 locs ht hvm hr_1 hB hz1 hk1 hS => ?_)
  try dsimp only at hr_1
  obtain ⟨hP1, hK1, hD1⟩ := hB
  rw [ht] at hP1
  obtain ⟨hP, hD⟩ := va_join (wr := []) (w1 := [(h0, .inr (9, [.ref m1, .ref m2, .ref m3, .int ik, .int wy, .int op, .int cl, .int cx0, .int cx1, .int cy0, .int cy1, .int ds, .ref m4, .ref m5, .ref m6, .ref m7, .ref m8, .ref m9, .int pn, .ref m10, .ref m11, .ref m12, .ref m13])), (m1, .inl (cI, 4, .inl gw))]) hP hD [0, 1] [] rfl rfl (by decide) (by decide) hk1 hFc hP1 hD1
  clear hz1 hk1 hFc hKc hDc hPc
  generalize H1 = H at hP hS ⊢
  have hP : va_P D vwCl [(h0, .inr (9, [.ref m1, .ref m2, .ref m3, .int ik, .int wy, .int op, .int cl, .int cx0, .int cx1, .int cy0, .int cy1, .int ds, .ref m4, .ref m5, .ref m6, .ref m7, .ref m8, .ref m9, .int pn, .ref m10, .ref m11, .ref m12, .ref m13])), (m1, .inl (cI, 4, .inl gw))] H := hP
  have hD : va_D A [(h0, .inr (9, [.ref m1, .ref m2, .ref m3, .int ik, .int wy, .int op, .int cl, .int cx0, .int cx1, .int cy0, .int cy1, .int ds, .ref m4, .ref m5, .ref m6, .ref m7, .ref m8, .ref m9, .int pn, .ref m10, .ref m11, .ref m12, .ref m13])), (m1, .inl (cI, 4, .inl gw))] := hD
  refine lv_if_eq (tgt := 59) hx hb dX9_copy_5 (by decide) (fun c_2 => ?_) (fun c_2 => ?_)
  · skip
    have f_3 := bz0 hr_1 c_2
    refine lv_iconst (v := (-1)) hx hb dX9_copy_59 (by decide) ?_
    have hP9 := hP.sub (ws' := [(h0, .inr (9, [.ref m1, .ref m2, .ref m3, .int ik, .int wy, .int op, .int cl, .int cx0, .int cx1, .int cy0, .int cy1, .int ds, .ref m4, .ref m5, .ref m6, .ref m7, .ref m8, .ref m9, .int pn, .ref m10, .ref m11, .ref m12, .ref m13])), (m1, .inl (cI, 4, .inl gw))]) [0, 1] rfl
    have hD9 := hD.sub (ws' := [(h0, .inr (9, [.ref m1, .ref m2, .ref m3, .int ik, .int wy, .int op, .int cl, .int cx0, .int cx1, .int cy0, .int cy1, .int ds, .ref m4, .ref m5, .ref m6, .ref m7, .ref m8, .ref m9, .int pn, .ref m10, .ref m11, .ref m12, .ref m13])), (m1, .inl (cI, 4, .inl gw))]) [0, 1] (by decide) rfl
    have hK9 := hK.sub (tys' := [(cI, .int)]) [0] rfl
    refine hQ _ _ _ _ _ ?_
    exact W.iret (v := (-1)) hx hb hr (fun t ht hW => ⟨⟨(-1), (), rfl, rfl, ⟨by rw [ht]; exact hP9, va_K.moved hW.alike hK9, hD9⟩⟩, hS.F ht⟩) hS.2.2 dX9_copy_60
  · skip
    have f_3 := bz1 hr_1 c_2
    refine lv_aload_n hx hb dX9_copy_8 rfl (lv_at hl 0 rfl) ?_
    refine lv_iload hx hb dX9_copy_9 (lv_at hl 6 rfl) ?_
    have hPc := hP.sub (ws' := [(h0, .inr (9, [.ref m1, .ref m2, .ref m3, .int ik, .int wy, .int op, .int cl, .int cx0, .int cx1, .int cy0, .int cy1, .int ds, .ref m4, .ref m5, .ref m6, .ref m7, .ref m8, .ref m9, .int pn, .ref m10, .ref m11, .ref m12, .ref m13])), (m1, .inl (cI, 4, .inl gw))]) [0, 1] rfl
    have hDc := hD.sub (ws' := [(h0, .inr (9, [.ref m1, .ref m2, .ref m3, .int ik, .int wy, .int op, .int cl, .int cx0, .int cx1, .int cy0, .int cy1, .int ds, .ref m4, .ref m5, .ref m6, .ref m7, .ref m8, .ref m9, .int pn, .ref m10, .ref m11, .ref m12, .ref m13])), (m1, .inl (cI, 4, .inl gw))]) [0, 1] (by decide) rfl
    have hKc := hK.sub (tys' := [(cI, .int)]) [0] rfl
    have hFc := va_free (wc := [(h0, .inr (9, [.ref m1, .ref m2, .ref m3, .int ik, .int wy, .int op, .int cl, .int cx0, .int cx1, .int cy0, .int cy1, .int ds, .ref m4, .ref m5, .ref m6, .ref m7, .ref m8, .ref m9, .int pn, .ref m10, .ref m11, .ref m12, .ref m13])), (m1, .inl (cI, 4, .inl gw))]) hD hS hA [0, 1] rfl
    refine va_calli (va_runV (As := [.int kq]) (rest := []) ⟨hx, hb, hml, hown, hts⟩ (k_X9_isSheet l D H.size h0 m1 m2 m3 m4 m5 m6 m7 m8 m9 m10 m11 m12 m13 ik wy op cl cx0 cx1 cy0 cy1 ds pn gw kq cI) (cwV 1 hts (gV bw_490 bw_415 bw_416 bw_391 bw_414) rfl rfl rfl (by decide +kernel) ⟨(by rw [hR]; exact Nat.le_of_ble_eq_true rfl), (by rw [hR]; exact Nat.le_of_ble_eq_true rfl)⟩) ⟨cP_blind, va_recv hKc hPc (ci := 9) (q0 := 0) rfl rfl, cP_at hPc hKc hDc hN⟩ rfl rfl hl.1 rfl (lv_room (Nat.le_of_ble_eq_true rfl)) dX9_copy_11 ⟨(by rw [hR]; exact Nat.le_of_ble_eq_true rfl), (by rw [hR]; exact Nat.le_of_ble_eq_true rfl)⟩) hS (fun q _ h => hFc q h) hFc (fun r_4 u9 t9 H1 locs ht hvm hr_4 hB hz1 hk1 hS => ?_)
    try dsimp only at hr_4
    obtain ⟨hP1, hK1, hD1⟩ := hB
    rw [ht] at hP1
    obtain ⟨hP, hD⟩ := va_join (wr := []) (w1 := [(h0, .inr (9, [.ref m1, .ref m2, .ref m3, .int ik, .int wy, .int op, .int cl, .int cx0, .int cx1, .int cy0, .int cy1, .int ds, .ref m4, .ref m5, .ref m6, .ref m7, .ref m8, .ref m9, .int pn, .ref m10, .ref m11, .ref m12, .ref m13])), (m1, .inl (cI, 4, .inl gw))]) hP hD [0, 1] [] rfl rfl (by decide) (by decide) hk1 hFc hP1 hD1
    clear hz1 hk1 hFc hKc hDc hPc
    generalize H1 = H at hP hS ⊢
    have hP : va_P D vwCl [(h0, .inr (9, [.ref m1, .ref m2, .ref m3, .int ik, .int wy, .int op, .int cl, .int cx0, .int cx1, .int cy0, .int cy1, .int ds, .ref m4, .ref m5, .ref m6, .ref m7, .ref m8, .ref m9, .int pn, .ref m10, .ref m11, .ref m12, .ref m13])), (m1, .inl (cI, 4, .inl gw))] H := hP
    have hD : va_D A [(h0, .inr (9, [.ref m1, .ref m2, .ref m3, .int ik, .int wy, .int op, .int cl, .int cx0, .int cx1, .int cy0, .int cy1, .int ds, .ref m4, .ref m5, .ref m6, .ref m7, .ref m8, .ref m9, .int pn, .ref m10, .ref m11, .ref m12, .ref m13])), (m1, .inl (cI, 4, .inl gw))] := hD
    refine lv_if_eq (tgt := 59) hx hb dX9_copy_14 (by decide) (fun c_5 => ?_) (fun c_5 => ?_)
    · skip
      have f_6 := bz0 hr_4 c_5
      refine lv_iconst (v := (-1)) hx hb dX9_copy_59 (by decide) ?_
      have hP9 := hP.sub (ws' := [(h0, .inr (9, [.ref m1, .ref m2, .ref m3, .int ik, .int wy, .int op, .int cl, .int cx0, .int cx1, .int cy0, .int cy1, .int ds, .ref m4, .ref m5, .ref m6, .ref m7, .ref m8, .ref m9, .int pn, .ref m10, .ref m11, .ref m12, .ref m13])), (m1, .inl (cI, 4, .inl gw))]) [0, 1] rfl
      have hD9 := hD.sub (ws' := [(h0, .inr (9, [.ref m1, .ref m2, .ref m3, .int ik, .int wy, .int op, .int cl, .int cx0, .int cx1, .int cy0, .int cy1, .int ds, .ref m4, .ref m5, .ref m6, .ref m7, .ref m8, .ref m9, .int pn, .ref m10, .ref m11, .ref m12, .ref m13])), (m1, .inl (cI, 4, .inl gw))]) [0, 1] (by decide) rfl
      have hK9 := hK.sub (tys' := [(cI, .int)]) [0] rfl
      refine hQ _ _ _ _ _ ?_
      exact W.iret (v := (-1)) hx hb hr (fun t ht hW => ⟨⟨(-1), (), rfl, rfl, ⟨by rw [ht]; exact hP9, va_K.moved hW.alike hK9, hD9⟩⟩, hS.F ht⟩) hS.2.2 dX9_copy_60
    · skip
      have f_6 := bz1 hr_4 c_5
      refine lv_iload hx hb dX9_copy_17 (lv_at hl 4 rfl) ?_
      refine lv_if_lt (tgt := 59) hx hb dX9_copy_19 (by decide) (fun c_7 => ?_) (fun c_7 => ?_)
      · skip
        have f_8 : aw.toInt < 0 := f_lt rfl (by decide) c_7
        refine lv_iconst (v := (-1)) hx hb dX9_copy_59 (by decide) ?_
        have hP9 := hP.sub (ws' := [(h0, .inr (9, [.ref m1, .ref m2, .ref m3, .int ik, .int wy, .int op, .int cl, .int cx0, .int cx1, .int cy0, .int cy1, .int ds, .ref m4, .ref m5, .ref m6, .ref m7, .ref m8, .ref m9, .int pn, .ref m10, .ref m11, .ref m12, .ref m13])), (m1, .inl (cI, 4, .inl gw))]) [0, 1] rfl
        have hD9 := hD.sub (ws' := [(h0, .inr (9, [.ref m1, .ref m2, .ref m3, .int ik, .int wy, .int op, .int cl, .int cx0, .int cx1, .int cy0, .int cy1, .int ds, .ref m4, .ref m5, .ref m6, .ref m7, .ref m8, .ref m9, .int pn, .ref m10, .ref m11, .ref m12, .ref m13])), (m1, .inl (cI, 4, .inl gw))]) [0, 1] (by decide) rfl
        have hK9 := hK.sub (tys' := [(cI, .int)]) [0] rfl
        refine hQ _ _ _ _ _ ?_
        exact W.iret (v := (-1)) hx hb hr (fun t ht hW => ⟨⟨(-1), (), rfl, rfl, ⟨by rw [ht]; exact hP9, va_K.moved hW.alike hK9, hD9⟩⟩, hS.F ht⟩) hS.2.2 dX9_copy_60
      · skip
        have f_8 : ¬ (aw.toInt < 0) := fn_lt rfl (by decide) c_7
        refine lv_iload hx hb dX9_copy_22 (lv_at hl 4 rfl) ?_
        refine lv_bipush (v := 64) hx hb dX9_copy_24 (by decide) ?_
        refine lv_icmp_gt (tgt := 59) hx hb dX9_copy_26 (by decide) (fun c_9 => ?_) (fun c_9 => ?_)
        · skip
          have f_10 : 64 < aw.toInt := f_lt (by decide) rfl c_9
          refine lv_iconst (v := (-1)) hx hb dX9_copy_59 (by decide) ?_
          have hP9 := hP.sub (ws' := [(h0, .inr (9, [.ref m1, .ref m2, .ref m3, .int ik, .int wy, .int op, .int cl, .int cx0, .int cx1, .int cy0, .int cy1, .int ds, .ref m4, .ref m5, .ref m6, .ref m7, .ref m8, .ref m9, .int pn, .ref m10, .ref m11, .ref m12, .ref m13])), (m1, .inl (cI, 4, .inl gw))]) [0, 1] rfl
          have hD9 := hD.sub (ws' := [(h0, .inr (9, [.ref m1, .ref m2, .ref m3, .int ik, .int wy, .int op, .int cl, .int cx0, .int cx1, .int cy0, .int cy1, .int ds, .ref m4, .ref m5, .ref m6, .ref m7, .ref m8, .ref m9, .int pn, .ref m10, .ref m11, .ref m12, .ref m13])), (m1, .inl (cI, 4, .inl gw))]) [0, 1] (by decide) rfl
          have hK9 := hK.sub (tys' := [(cI, .int)]) [0] rfl
          refine hQ _ _ _ _ _ ?_
          exact W.iret (v := (-1)) hx hb hr (fun t ht hW => ⟨⟨(-1), (), rfl, rfl, ⟨by rw [ht]; exact hP9, va_K.moved hW.alike hK9, hD9⟩⟩, hS.F ht⟩) hS.2.2 dX9_copy_60
        · skip
          have f_10 : ¬ (64 < aw.toInt) := fn_lt (by decide) rfl c_9
          refine lv_iload hx hb dX9_copy_29 (lv_at hl 5 rfl) ?_
          refine lv_if_lt (tgt := 59) hx hb dX9_copy_31 (by decide) (fun c_11 => ?_) (fun c_11 => ?_)
          · skip
            have f_12 : ah.toInt < 0 := f_lt rfl (by decide) c_11
            refine lv_iconst (v := (-1)) hx hb dX9_copy_59 (by decide) ?_
            have hP9 := hP.sub (ws' := [(h0, .inr (9, [.ref m1, .ref m2, .ref m3, .int ik, .int wy, .int op, .int cl, .int cx0, .int cx1, .int cy0, .int cy1, .int ds, .ref m4, .ref m5, .ref m6, .ref m7, .ref m8, .ref m9, .int pn, .ref m10, .ref m11, .ref m12, .ref m13])), (m1, .inl (cI, 4, .inl gw))]) [0, 1] rfl
            have hD9 := hD.sub (ws' := [(h0, .inr (9, [.ref m1, .ref m2, .ref m3, .int ik, .int wy, .int op, .int cl, .int cx0, .int cx1, .int cy0, .int cy1, .int ds, .ref m4, .ref m5, .ref m6, .ref m7, .ref m8, .ref m9, .int pn, .ref m10, .ref m11, .ref m12, .ref m13])), (m1, .inl (cI, 4, .inl gw))]) [0, 1] (by decide) rfl
            have hK9 := hK.sub (tys' := [(cI, .int)]) [0] rfl
            refine hQ _ _ _ _ _ ?_
            exact W.iret (v := (-1)) hx hb hr (fun t ht hW => ⟨⟨(-1), (), rfl, rfl, ⟨by rw [ht]; exact hP9, va_K.moved hW.alike hK9, hD9⟩⟩, hS.F ht⟩) hS.2.2 dX9_copy_60
          · skip
            have f_12 : ¬ (ah.toInt < 0) := fn_lt rfl (by decide) c_11
            refine lv_iload hx hb dX9_copy_34 (lv_at hl 5 rfl) ?_
            refine lv_bipush (v := 64) hx hb dX9_copy_36 (by decide) ?_
            refine lv_icmp_gt (tgt := 59) hx hb dX9_copy_38 (by decide) (fun c_13 => ?_) (fun c_13 => ?_)
            · skip
              have f_14 : 64 < ah.toInt := f_lt (by decide) rfl c_13
              refine lv_iconst (v := (-1)) hx hb dX9_copy_59 (by decide) ?_
              have hP9 := hP.sub (ws' := [(h0, .inr (9, [.ref m1, .ref m2, .ref m3, .int ik, .int wy, .int op, .int cl, .int cx0, .int cx1, .int cy0, .int cy1, .int ds, .ref m4, .ref m5, .ref m6, .ref m7, .ref m8, .ref m9, .int pn, .ref m10, .ref m11, .ref m12, .ref m13])), (m1, .inl (cI, 4, .inl gw))]) [0, 1] rfl
              have hD9 := hD.sub (ws' := [(h0, .inr (9, [.ref m1, .ref m2, .ref m3, .int ik, .int wy, .int op, .int cl, .int cx0, .int cx1, .int cy0, .int cy1, .int ds, .ref m4, .ref m5, .ref m6, .ref m7, .ref m8, .ref m9, .int pn, .ref m10, .ref m11, .ref m12, .ref m13])), (m1, .inl (cI, 4, .inl gw))]) [0, 1] (by decide) rfl
              have hK9 := hK.sub (tys' := [(cI, .int)]) [0] rfl
              refine hQ _ _ _ _ _ ?_
              exact W.iret (v := (-1)) hx hb hr (fun t ht hW => ⟨⟨(-1), (), rfl, rfl, ⟨by rw [ht]; exact hP9, va_K.moved hW.alike hK9, hD9⟩⟩, hS.F ht⟩) hS.2.2 dX9_copy_60
            · skip
              have f_14 : ¬ (64 < ah.toInt) := fn_lt (by decide) rfl c_13
              refine lv_iload_n hx hb dX9_copy_41 rfl (lv_at hl 2 rfl) ?_
              refine lv_iload_n hx hb dX9_copy_42 rfl (lv_at hl 3 rfl) ?_
              have hPc := hP.sub (ws' := []) [] rfl
              have hDc := hD.sub (ws' := []) [] (by decide) rfl
              have hKc := hK.sub (tys' := []) [] rfl
              have hFc := va_free (wc := []) hD hS hA [] rfl
              refine va_calli (va_runS (As := [.int ax, .int ay]) (rest := []) ⟨hx, hb, hml, hown, hts⟩ (k_X9_isPlace l D H.size ax ay) (va_cwS 2 hts (gS bw_564 bw_560 bw_391 bw_559) rfl rfl rfl (by decide +kernel) ⟨(by rw [hR]; exact Nat.le_of_ble_eq_true rfl), (by rw [hR]; exact Nat.le_of_ble_eq_true rfl)⟩) ⟨cP_blind, cP_at hPc hKc hDc hN⟩ rfl rfl hl.1 rfl (lv_room (Nat.le_of_ble_eq_true rfl)) dX9_copy_43 ⟨(by rw [hR]; exact Nat.le_of_ble_eq_true rfl), (by rw [hR]; exact Nat.le_of_ble_eq_true rfl)⟩) hS (fun q _ h => hFc q h) hFc (fun r_15 u9 t9 H1 locs ht hvm hr_15 hB hz1 hk1 hS => ?_)
              try dsimp only at hr_15
              have hP1 : va_P D vwCl [] H1 := vP_nil
              have hD1 : va_D (va_A [] H.size) [] := vD_nil
              obtain ⟨hP, hD⟩ := va_join (wr := [(h0, .inr (9, [.ref m1, .ref m2, .ref m3, .int ik, .int wy, .int op, .int cl, .int cx0, .int cx1, .int cy0, .int cy1, .int ds, .ref m4, .ref m5, .ref m6, .ref m7, .ref m8, .ref m9, .int pn, .ref m10, .ref m11, .ref m12, .ref m13])), (m1, .inl (cI, 4, .inl gw))]) (w1 := []) hP hD [] [0, 1] rfl rfl (by decide) (by decide) hk1 hFc hP1 hD1
              clear hz1 hk1 hFc hKc hDc hPc
              generalize H1 = H at hP hS ⊢
              have hP : va_P D vwCl [(h0, .inr (9, [.ref m1, .ref m2, .ref m3, .int ik, .int wy, .int op, .int cl, .int cx0, .int cx1, .int cy0, .int cy1, .int ds, .ref m4, .ref m5, .ref m6, .ref m7, .ref m8, .ref m9, .int pn, .ref m10, .ref m11, .ref m12, .ref m13])), (m1, .inl (cI, 4, .inl gw))] H := hP
              have hD : va_D A [(h0, .inr (9, [.ref m1, .ref m2, .ref m3, .int ik, .int wy, .int op, .int cl, .int cx0, .int cx1, .int cy0, .int cy1, .int ds, .ref m4, .ref m5, .ref m6, .ref m7, .ref m8, .ref m9, .int pn, .ref m10, .ref m11, .ref m12, .ref m13])), (m1, .inl (cI, 4, .inl gw))] := hD
              refine lv_if_eq (tgt := 59) hx hb dX9_copy_46 (by decide) (fun c_16 => ?_) (fun c_16 => ?_)
              · skip
                have f_17 := bz0 hr_15 c_16
                refine lv_iconst (v := (-1)) hx hb dX9_copy_59 (by decide) ?_
                have hP9 := hP.sub (ws' := [(h0, .inr (9, [.ref m1, .ref m2, .ref m3, .int ik, .int wy, .int op, .int cl, .int cx0, .int cx1, .int cy0, .int cy1, .int ds, .ref m4, .ref m5, .ref m6, .ref m7, .ref m8, .ref m9, .int pn, .ref m10, .ref m11, .ref m12, .ref m13])), (m1, .inl (cI, 4, .inl gw))]) [0, 1] rfl
                have hD9 := hD.sub (ws' := [(h0, .inr (9, [.ref m1, .ref m2, .ref m3, .int ik, .int wy, .int op, .int cl, .int cx0, .int cx1, .int cy0, .int cy1, .int ds, .ref m4, .ref m5, .ref m6, .ref m7, .ref m8, .ref m9, .int pn, .ref m10, .ref m11, .ref m12, .ref m13])), (m1, .inl (cI, 4, .inl gw))]) [0, 1] (by decide) rfl
                have hK9 := hK.sub (tys' := [(cI, .int)]) [0] rfl
                refine hQ _ _ _ _ _ ?_
                exact W.iret (v := (-1)) hx hb hr (fun t ht hW => ⟨⟨(-1), (), rfl, rfl, ⟨by rw [ht]; exact hP9, va_K.moved hW.alike hK9, hD9⟩⟩, hS.F ht⟩) hS.2.2 dX9_copy_60
              · skip
                have f_17 := bz1 hr_15 c_16
                refine lv_iload hx hb dX9_copy_49 (lv_at hl 7 rfl) ?_
                refine lv_iload hx hb dX9_copy_51 (lv_at hl 8 rfl) ?_
                have hPc := hP.sub (ws' := []) [] rfl
                have hDc := hD.sub (ws' := []) [] (by decide) rfl
                have hKc := hK.sub (tys' := []) [] rfl
                have hFc := va_free (wc := []) hD hS hA [] rfl
                refine va_calli (va_runS (As := [.int ox, .int oy]) (rest := []) ⟨hx, hb, hml, hown, hts⟩ (k_X9_isPlace l D H.size ox oy) (va_cwS 2 hts (gS bw_564 bw_560 bw_391 bw_559) rfl rfl rfl (by decide +kernel) ⟨(by rw [hR]; exact Nat.le_of_ble_eq_true rfl), (by rw [hR]; exact Nat.le_of_ble_eq_true rfl)⟩) ⟨cP_blind, cP_at hPc hKc hDc hN⟩ rfl rfl hl.1 rfl (lv_room (Nat.le_of_ble_eq_true rfl)) dX9_copy_53 ⟨(by rw [hR]; exact Nat.le_of_ble_eq_true rfl), (by rw [hR]; exact Nat.le_of_ble_eq_true rfl)⟩) hS (fun q _ h => hFc q h) hFc (fun r_18 u9 t9 H1 locs ht hvm hr_18 hB hz1 hk1 hS => ?_)
                try dsimp only at hr_18
                have hP1 : va_P D vwCl [] H1 := vP_nil
                have hD1 : va_D (va_A [] H.size) [] := vD_nil
                obtain ⟨hP, hD⟩ := va_join (wr := [(h0, .inr (9, [.ref m1, .ref m2, .ref m3, .int ik, .int wy, .int op, .int cl, .int cx0, .int cx1, .int cy0, .int cy1, .int ds, .ref m4, .ref m5, .ref m6, .ref m7, .ref m8, .ref m9, .int pn, .ref m10, .ref m11, .ref m12, .ref m13])), (m1, .inl (cI, 4, .inl gw))]) (w1 := []) hP hD [] [0, 1] rfl rfl (by decide) (by decide) hk1 hFc hP1 hD1
                clear hz1 hk1 hFc hKc hDc hPc
                generalize H1 = H at hP hS ⊢
                have hP : va_P D vwCl [(h0, .inr (9, [.ref m1, .ref m2, .ref m3, .int ik, .int wy, .int op, .int cl, .int cx0, .int cx1, .int cy0, .int cy1, .int ds, .ref m4, .ref m5, .ref m6, .ref m7, .ref m8, .ref m9, .int pn, .ref m10, .ref m11, .ref m12, .ref m13])), (m1, .inl (cI, 4, .inl gw))] H := hP
                have hD : va_D A [(h0, .inr (9, [.ref m1, .ref m2, .ref m3, .int ik, .int wy, .int op, .int cl, .int cx0, .int cx1, .int cy0, .int cy1, .int ds, .ref m4, .ref m5, .ref m6, .ref m7, .ref m8, .ref m9, .int pn, .ref m10, .ref m11, .ref m12, .ref m13])), (m1, .inl (cI, 4, .inl gw))] := hD
                refine lv_if_ne (tgt := 61) hx hb dX9_copy_56 (by decide) (fun c_19 => ?_) (fun c_19 => ?_)
                · skip
                  have f_20 := bz1 hr_18 c_19
                  exact False.elim (by omega)
                · skip
                  have f_20 := bz0 hr_18 c_19
                  refine lv_iconst (v := (-1)) hx hb dX9_copy_59 (by decide) ?_
                  have hP9 := hP.sub (ws' := [(h0, .inr (9, [.ref m1, .ref m2, .ref m3, .int ik, .int wy, .int op, .int cl, .int cx0, .int cx1, .int cy0, .int cy1, .int ds, .ref m4, .ref m5, .ref m6, .ref m7, .ref m8, .ref m9, .int pn, .ref m10, .ref m11, .ref m12, .ref m13])), (m1, .inl (cI, 4, .inl gw))]) [0, 1] rfl
                  have hD9 := hD.sub (ws' := [(h0, .inr (9, [.ref m1, .ref m2, .ref m3, .int ik, .int wy, .int op, .int cl, .int cx0, .int cx1, .int cy0, .int cy1, .int ds, .ref m4, .ref m5, .ref m6, .ref m7, .ref m8, .ref m9, .int pn, .ref m10, .ref m11, .ref m12, .ref m13])), (m1, .inl (cI, 4, .inl gw))]) [0, 1] (by decide) rfl
                  have hK9 := hK.sub (tys' := [(cI, .int)]) [0] rfl
                  refine hQ _ _ _ _ _ ?_
                  exact W.iret (v := (-1)) hx hb hr (fun t ht hW => ⟨⟨(-1), (), rfl, rfl, ⟨by rw [ht]; exact hP9, va_K.moved hW.alike hK9, hD9⟩⟩, hS.F ht⟩) hS.2.2 dX9_copy_60

set_option maxHeartbeats 4000000 in
set_option maxRecDepth 100000 in
theorem k_X9_stretch_ye (l : Launch) (D : va_G) (sz : Nat) (h0 m1 m2 m3 m4 m5 m6 m7 m8 m9 m10 m11 m12 m13 : Nat) (ik wy op cl cx0 cx1 cy0 cy1 ds pn : Int32) (gw : Nat → Int32) (gh : Nat → Int32) (gd : Nat → Int32) (gm : Nat → Int32) (ge : Nat → Int32) (gv : Nat → Int32) (k ax ay aw ah kq ox oy ow oh : Int32) (cI : ClassId) (cZ : ClassId) (hgkw : 0 ≤ (gw k.toNatClampNeg).toInt ∧ (gw k.toNatClampNeg).toInt ≤ 64) (hgkh : 0 ≤ (gh k.toNatClampNeg).toInt ∧ (gh k.toNatClampNeg).toInt ≤ 64) (hgqw : 0 ≤ (gw kq.toNatClampNeg).toInt ∧ (gw kq.toNatClampNeg).toInt ≤ 64) (hgqh : 0 ≤ (gh kq.toNatClampNeg).toInt ∧ (gh kq.toNatClampNeg).toInt ≤ 64) (hwy : 0 ≤ wy.toInt ∧ wy.toInt ≤ 12) (hcd : ((0 ≤ k.toInt ∧ k.toInt ≤ 3 ∧ 0 < (gw k.toNatClampNeg).toInt) ∧ (0 ≤ kq.toInt ∧ kq.toInt ≤ 3 ∧ 0 < (gw kq.toNatClampNeg).toInt)) ∧ ((1 ≤ aw.toInt ∧ aw.toInt ≤ 64) ∧ (1 ≤ ah.toInt ∧ ah.toInt ≤ 64) ∧ (1 ≤ ow.toInt ∧ ow.toInt ≤ 64) ∧ (1 ≤ oh.toInt ∧ oh.toInt ≤ 64)) ∧ ((-200 ≤ ax.toInt ∧ ax.toInt ≤ 200) ∧ (-200 ≤ ay.toInt ∧ ay.toInt ≤ 200) ∧ (-200 ≤ ox.toInt ∧ ox.toInt ≤ 200) ∧ (-200 ≤ oy.toInt ∧ oy.toInt ≤ 200))) : Met l yX9_stretch (wB yX9_stretch cX9_stretch 15 (some .int)) ({ frames := 3, cells := 0, slots := 0, locals := 73 }) (cP D [(h0, .inr (9, [.ref m1, .ref m2, .ref m3, .int ik, .int wy, .int op, .int cl, .int cx0, .int cx1, .int cy0, .int cy1, .int ds, .ref m4, .ref m5, .ref m6, .ref m7, .ref m8, .ref m9, .int pn, .ref m10, .ref m11, .ref m12, .ref m13])), (m1, .inl (cI, 4, .inl gw)), (m2, .inl (cI, 4, .inl gh)), (m3, .inl (cI, 16384, .inl gd)), (m4, .inl (cZ, 4096, .inl gm)), (m5, .inl (cI, 4096, .inl ge)), (m6, .inl (cI, 4096, .inl gv))] [(cI, .int), (cZ, .boolean)] sz [.ref h0, .int k, .int ax, .int ay, .int aw, .int ah, .int kq, .int ox, .int oy, .int ow, .int oh]) (va_Qi (fun (r : Int32) (_ : Unit) => r = nI (cntP ((gL (cyQ ax ay aw ah ox oy ow oh (gw k.toNatClampNeg) (gh k.toNatClampNeg) op (fun t => gd (4096 * k.toNatClampNeg + t))) ow.toNatClampNeg oh.toNatClampNeg).foldl (mkF (gw kq.toNatClampNeg) (gh kq.toNatClampNeg) cl cx0 cx1 cy0 cy1) (zrN gm 4096, ge, gv)).1 4096)) (fun (_ : Unit) (t : State) => cB D (va_A [(h0, .inr (9, [.ref m1, .ref m2, .ref m3, .int ik, .int wy, .int op, .int cl, .int cx0, .int cx1, .int cy0, .int cy1, .int ds, .ref m4, .ref m5, .ref m6, .ref m7, .ref m8, .ref m9, .int pn, .ref m10, .ref m11, .ref m12, .ref m13])), (m1, .inl (cI, 4, .inl gw)), (m2, .inl (cI, 4, .inl gh)), (m3, .inl (cI, 16384, .inl gd)), (m4, .inl (cZ, 4096, .inl gm)), (m5, .inl (cI, 4096, .inl ge)), (m6, .inl (cI, 4096, .inl gv))] sz) [(h0, .inr (9, [.ref m1, .ref m2, .ref m3, .int ik, .int wy, .int op, .int cl, .int cx0, .int cx1, .int cy0, .int cy1, .int ds, .ref m4, .ref m5, .ref m6, .ref m7, .ref m8, .ref m9, .int pn, .ref m10, .ref m11, .ref m12, .ref m13])), (m1, .inl (cI, 4, .inl gw)), (m2, .inl (cI, 4, .inl gh)), (m3, .inl (cI, 16384, .inl (lysN wy gd ((gL (cyQ ax ay aw ah ox oy ow oh (gw k.toNatClampNeg) (gh k.toNatClampNeg) op (fun t => gd (4096 * k.toNatClampNeg + t))) ow.toNatClampNeg oh.toNatClampNeg).foldl (mkF (gw kq.toNatClampNeg) (gh kq.toNatClampNeg) cl cx0 cx1 cy0 cy1) (zrN gm 4096, ge, gv)).1 ((gL (cyQ ax ay aw ah ox oy ow oh (gw k.toNatClampNeg) (gh k.toNatClampNeg) op (fun t => gd (4096 * k.toNatClampNeg + t))) ow.toNatClampNeg oh.toNatClampNeg).foldl (mkF (gw kq.toNatClampNeg) (gh kq.toNatClampNeg) cl cx0 cx1 cy0 cy1) (zrN gm 4096, ge, gv)).2.1 ((gL (cyQ ax ay aw ah ox oy ow oh (gw k.toNatClampNeg) (gh k.toNatClampNeg) op (fun t => gd (4096 * k.toNatClampNeg + t))) ow.toNatClampNeg oh.toNatClampNeg).foldl (mkF (gw kq.toNatClampNeg) (gh kq.toNatClampNeg) cl cx0 cx1 cy0 cy1) (zrN gm 4096, ge, gv)).2.2 kq.toNatClampNeg 4096))), (m4, .inl (cZ, 4096, .inl (((gL (cyQ ax ay aw ah ox oy ow oh (gw k.toNatClampNeg) (gh k.toNatClampNeg) op (fun t => gd (4096 * k.toNatClampNeg + t))) ow.toNatClampNeg oh.toNatClampNeg).foldl (mkF (gw kq.toNatClampNeg) (gh kq.toNatClampNeg) cl cx0 cx1 cy0 cy1) (zrN gm 4096, ge, gv)).1))), (m5, .inl (cI, 4096, .inl (((gL (cyQ ax ay aw ah ox oy ow oh (gw k.toNatClampNeg) (gh k.toNatClampNeg) op (fun t => gd (4096 * k.toNatClampNeg + t))) ow.toNatClampNeg oh.toNatClampNeg).foldl (mkF (gw kq.toNatClampNeg) (gh kq.toNatClampNeg) cl cx0 cx1 cy0 cy1) (zrN gm 4096, ge, gv)).2.1))), (m6, .inl (cI, 4096, .inl (((gL (cyQ ax ay aw ah ox oy ow oh (gw k.toNatClampNeg) (gh k.toNatClampNeg) op (fun t => gd (4096 * k.toNatClampNeg + t))) ow.toNatClampNeg oh.toNatClampNeg).foldl (mkF (gw kq.toNatClampNeg) (gh kq.toNatClampNeg) cl cx0 cx1 cy0 cy1) (zrN gm 4096, ge, gv)).2.2)))] [(cI, .int), (cZ, .boolean)] t) (va_A [(h0, .inr (9, [.ref m1, .ref m2, .ref m3, .int ik, .int wy, .int op, .int cl, .int cx0, .int cx1, .int cy0, .int cy1, .int ds, .ref m4, .ref m5, .ref m6, .ref m7, .ref m8, .ref m9, .int pn, .ref m10, .ref m11, .ref m12, .ref m13])), (m1, .inl (cI, 4, .inl gw)), (m2, .inl (cI, 4, .inl gh)), (m3, .inl (cI, 16384, .inl gd)), (m4, .inl (cZ, 4096, .inl gm)), (m5, .inl (cI, 4096, .inl ge)), (m6, .inl (cI, 4096, .inl gv))] sz)) 0 0 (va_A [(h0, .inr (9, [.ref m1, .ref m2, .ref m3, .int ik, .int wy, .int op, .int cl, .int cx0, .int cx1, .int cy0, .int cy1, .int ds, .ref m4, .ref m5, .ref m6, .ref m7, .ref m8, .ref m9, .int pn, .ref m10, .ref m11, .ref m12, .ref m13])), (m1, .inl (cI, 4, .inl gw)), (m2, .inl (cI, 4, .inl gh)), (m3, .inl (cI, 16384, .inl gd)), (m4, .inl (cZ, 4096, .inl gm)), (m5, .inl (cI, 4096, .inl ge)), (m6, .inl (cI, 4096, .inl gv))] sz) := by
  refine Met.ofW (cc := cX9_stretch) (maxL := 15) (ret := (some .int)) (by decide) rfl ?_
  intro p e s m args below meth c s₁ B hml hv
  obtain ⟨rfl, hsz, hP, hK, hD0, hN⟩ := hv
  have hx := B.exec
  have hb := B.bytes
  have hr := B.returns
  have hts0 := atoms_spec (ws := (wB yX9_stretch cX9_stretch 15 (some .int))) B.pre
  have hts : ∀ w ∈ bigW, w.before _ s = true := fun w h => hts0 w (List.mem_cons_of_mem _ h)
  have hown : s.vm.findClass RX9 = some m.cls := findClass_of_methodNamed B.named
  have hlocks := B.notSynchronized
  subst hsz
  have hD := hD0.self (sz := s.heap.size)
  generalize hAe : va_A [(h0, .inr (9, [.ref m1, .ref m2, .ref m3, .int ik, .int wy, .int op, .int cl, .int cx0, .int cx1, .int cy0, .int cy1, .int ds, .ref m4, .ref m5, .ref m6, .ref m7, .ref m8, .ref m9, .int pn, .ref m10, .ref m11, .ref m12, .ref m13])), (m1, .inl (cI, 4, .inl gw)), (m2, .inl (cI, 4, .inl gh)), (m3, .inl (cI, 16384, .inl gd)), (m4, .inl (cZ, 4096, .inl gm)), (m5, .inl (cI, 4096, .inl ge)), (m6, .inl (cI, 4096, .inl gv))] s.heap.size = A at hD ⊢
  have hA : ∀ q : Nat, s.heap.size ≤ q → A q := fun q h => by rw [← hAe]; exact Or.inr h
  have hS : va_S A s.heap s.heap [] := va_S.rf
  have hP : va_P D vwCl [(h0, .inr (9, [.ref m1, .ref m2, .ref m3, .int ik, .int wy, .int op, .int cl, .int cx0, .int cx1, .int cy0, .int cy1, .int ds, .ref m4, .ref m5, .ref m6, .ref m7, .ref m8, .ref m9, .int pn, .ref m10, .ref m11, .ref m12, .ref m13])), (m1, .inl (cI, 4, .inl gw)), (m2, .inl (cI, 4, .inl gh)), (m3, .inl (cI, 16384, .inl gd)), (m4, .inl (cZ, 4096, .inl gm)), (m5, .inl (cI, 4096, .inl ge)), (m6, .inl (cI, 4096, .inl gv))] s.heap := hP
  have hl := lv_entry ([.ref h0, .int k, .int ax, .int ay, .int aw, .int ah, .int kq, .int ox, .int oy, .int ow, .int oh]) (n := 15) (Nat.le_of_ble_eq_true rfl)
  rw [lg_entry_eq]
  generalize (lg_sl ([.ref h0, .int k, .int ax, .int ay, .int aw, .int ah, .int kq, .int ox, .int oy, .int ow, .int oh]) ++ List.replicate (15 - (lg_sl ([.ref h0, .int k, .int ax, .int ay, .int aw, .int ah, .int kq, .int ox, .int oy, .int ow, .int oh])).length) Slot.unset).toArray = ls at hl ⊢
  have hl : lv_has ls 15 [(0, .ref h0), (1, .int k), (2, .int ax), (3, .int ay), (4, .int aw), (5, .int ah), (6, .int kq), (7, .int ox), (8, .int oy), (9, .int ow), (10, .int oh)] := hl
  clear hts0 hD0 hAe
  refine my_abs (fun R Q hR hQ => ?_)
  refine lv_aload_n hx hb dX9_stretch_0 rfl (lv_at hl 0 rfl) ?_
  refine lv_iload_n hx hb dX9_stretch_1 rfl (lv_at hl 1 rfl) ?_
  have hPc := hP.sub (ws' := [(h0, .inr (9, [.ref m1, .ref m2, .ref m3, .int ik, .int wy, .int op, .int cl, .int cx0, .int cx1, .int cy0, .int cy1, .int ds, .ref m4, .ref m5, .ref m6, .ref m7, .ref m8, .ref m9, .int pn, .ref m10, .ref m11, .ref m12, .ref m13])), (m1, .inl (cI, 4, .inl gw))]) [0, 1] rfl
  have hDc := hD.sub (ws' := [(h0, .inr (9, [.ref m1, .ref m2, .ref m3, .int ik, .int wy, .int op, .int cl, .int cx0, .int cx1, .int cy0, .int cy1, .int ds, .ref m4, .ref m5, .ref m6, .ref m7, .ref m8, .ref m9, .int pn, .ref m10, .ref m11, .ref m12, .ref m13])), (m1, .inl (cI, 4, .inl gw))]) [0, 1] (by decide) rfl
  have hKc := hK.sub (tys' := [(cI, .int)]) [0] rfl
  have hFc := va_free (wc := [(h0, .inr (9, [.ref m1, .ref m2, .ref m3, .int ik, .int wy, .int op, .int cl, .int cx0, .int cx1, .int cy0, .int cy1, .int ds, .ref m4, .ref m5, .ref m6, .ref m7, .ref m8, .ref m9, .int pn, .ref m10, .ref m11, .ref m12, .ref m13])), (m1, .inl (cI, 4, .inl gw))]) hD hS hA [0, 1] rfl
  refine va_calli (va_runV (As := [.int k]) (rest := []) ⟨hx, hb, hml, hown, hts⟩ (k_X9_isSheet l D s.heap.size h0 m1 m2 m3 m4 m5 m6 m7 m8 m9 m10 m11 m12 m13 ik wy op cl cx0 cx1 cy0 cy1 ds pn gw k cI) (cwV 1 hts (gV bw_490 bw_415 bw_416 bw_391 bw_414) rfl rfl rfl (by decide +kernel) ⟨(by rw [hR]; exact Nat.le_of_ble_eq_true rfl), (by rw [hR]; exact Nat.le_of_ble_eq_true rfl)⟩) ⟨cP_blind, va_recv hKc hPc (ci := 9) (q0 := 0) rfl rfl, cP_at hPc hKc hDc hN⟩ rfl rfl hl.1 rfl (lv_room (Nat.le_of_ble_eq_true rfl)) dX9_stretch_2 ⟨(by rw [hR]; exact Nat.le_of_ble_eq_true rfl), (by rw [hR]; exact Nat.le_of_ble_eq_true rfl)⟩) hS (fun q _ h => hFc q h) hFc (fun r_1 u9 t9 H1 locs ht hvm hr_1 hB hz1 hk1 hS => ?_)
  try dsimp only at hr_1
  obtain ⟨hP1, hK1, hD1⟩ := hB
  rw [ht] at hP1
  obtain ⟨hP, hD⟩ := va_join (wr := [(m2, .inl (cI, 4, .inl gh)), (m3, .inl (cI, 16384, .inl gd)), (m4, .inl (cZ, 4096, .inl gm)), (m5, .inl (cI, 4096, .inl ge)), (m6, .inl (cI, 4096, .inl gv))]) (w1 := [(h0, .inr (9, [.ref m1, .ref m2, .ref m3, .int ik, .int wy, .int op, .int cl, .int cx0, .int cx1, .int cy0, .int cy1, .int ds, .ref m4, .ref m5, .ref m6, .ref m7, .ref m8, .ref m9, .int pn, .ref m10, .ref m11, .ref m12, .ref m13])), (m1, .inl (cI, 4, .inl gw))]) hP hD [0, 1] [2, 3, 4, 5, 6] rfl rfl (by decide) (by decide) hk1 hFc hP1 hD1
  clear hz1 hk1 hFc hKc hDc hPc
  generalize H1 = H at hP hS ⊢
  have hP : va_P D vwCl [(m2, .inl (cI, 4, .inl gh)), (m3, .inl (cI, 16384, .inl gd)), (m4, .inl (cZ, 4096, .inl gm)), (m5, .inl (cI, 4096, .inl ge)), (m6, .inl (cI, 4096, .inl gv)), (h0, .inr (9, [.ref m1, .ref m2, .ref m3, .int ik, .int wy, .int op, .int cl, .int cx0, .int cx1, .int cy0, .int cy1, .int ds, .ref m4, .ref m5, .ref m6, .ref m7, .ref m8, .ref m9, .int pn, .ref m10, .ref m11, .ref m12, .ref m13])), (m1, .inl (cI, 4, .inl gw))] H := hP
  have hD : va_D A [(m2, .inl (cI, 4, .inl gh)), (m3, .inl (cI, 16384, .inl gd)), (m4, .inl (cZ, 4096, .inl gm)), (m5, .inl (cI, 4096, .inl ge)), (m6, .inl (cI, 4096, .inl gv)), (h0, .inr (9, [.ref m1, .ref m2, .ref m3, .int ik, .int wy, .int op, .int cl, .int cx0, .int cx1, .int cy0, .int cy1, .int ds, .ref m4, .ref m5, .ref m6, .ref m7, .ref m8, .ref m9, .int pn, .ref m10, .ref m11, .ref m12, .ref m13])), (m1, .inl (cI, 4, .inl gw))] := hD
  refine lv_if_eq (tgt := 87) hx hb dX9_stretch_5 (by decide) (fun c_2 => ?_) (fun c_2 => ?_)
  · skip
    have f_3 := bz0 hr_1 c_2
    exact False.elim (by omega)
  · skip
    have f_3 := bz1 hr_1 c_2
    refine lv_aload_n hx hb dX9_stretch_8 rfl (lv_at hl 0 rfl) ?_
    refine lv_iload hx hb dX9_stretch_9 (lv_at hl 6 rfl) ?_
    have hPc := hP.sub (ws' := [(h0, .inr (9, [.ref m1, .ref m2, .ref m3, .int ik, .int wy, .int op, .int cl, .int cx0, .int cx1, .int cy0, .int cy1, .int ds, .ref m4, .ref m5, .ref m6, .ref m7, .ref m8, .ref m9, .int pn, .ref m10, .ref m11, .ref m12, .ref m13])), (m1, .inl (cI, 4, .inl gw))]) [5, 6] rfl
    have hDc := hD.sub (ws' := [(h0, .inr (9, [.ref m1, .ref m2, .ref m3, .int ik, .int wy, .int op, .int cl, .int cx0, .int cx1, .int cy0, .int cy1, .int ds, .ref m4, .ref m5, .ref m6, .ref m7, .ref m8, .ref m9, .int pn, .ref m10, .ref m11, .ref m12, .ref m13])), (m1, .inl (cI, 4, .inl gw))]) [5, 6] (by decide) rfl
    have hKc := hK.sub (tys' := [(cI, .int)]) [0] rfl
    have hFc := va_free (wc := [(h0, .inr (9, [.ref m1, .ref m2, .ref m3, .int ik, .int wy, .int op, .int cl, .int cx0, .int cx1, .int cy0, .int cy1, .int ds, .ref m4, .ref m5, .ref m6, .ref m7, .ref m8, .ref m9, .int pn, .ref m10, .ref m11, .ref m12, .ref m13])), (m1, .inl (cI, 4, .inl gw))]) hD hS hA [5, 6] rfl
    refine va_calli (va_runV (As := [.int kq]) (rest := []) ⟨hx, hb, hml, hown, hts⟩ (k_X9_isSheet l D H.size h0 m1 m2 m3 m4 m5 m6 m7 m8 m9 m10 m11 m12 m13 ik wy op cl cx0 cx1 cy0 cy1 ds pn gw kq cI) (cwV 1 hts (gV bw_490 bw_415 bw_416 bw_391 bw_414) rfl rfl rfl (by decide +kernel) ⟨(by rw [hR]; exact Nat.le_of_ble_eq_true rfl), (by rw [hR]; exact Nat.le_of_ble_eq_true rfl)⟩) ⟨cP_blind, va_recv hKc hPc (ci := 9) (q0 := 0) rfl rfl, cP_at hPc hKc hDc hN⟩ rfl rfl hl.1 rfl (lv_room (Nat.le_of_ble_eq_true rfl)) dX9_stretch_11 ⟨(by rw [hR]; exact Nat.le_of_ble_eq_true rfl), (by rw [hR]; exact Nat.le_of_ble_eq_true rfl)⟩) hS (fun q _ h => hFc q h) hFc (fun r_4 u9 t9 H1 locs ht hvm hr_4 hB hz1 hk1 hS => ?_)
    try dsimp only at hr_4
    obtain ⟨hP1, hK1, hD1⟩ := hB
    rw [ht] at hP1
    obtain ⟨hP, hD⟩ := va_join (wr := [(m2, .inl (cI, 4, .inl gh)), (m3, .inl (cI, 16384, .inl gd)), (m4, .inl (cZ, 4096, .inl gm)), (m5, .inl (cI, 4096, .inl ge)), (m6, .inl (cI, 4096, .inl gv))]) (w1 := [(h0, .inr (9, [.ref m1, .ref m2, .ref m3, .int ik, .int wy, .int op, .int cl, .int cx0, .int cx1, .int cy0, .int cy1, .int ds, .ref m4, .ref m5, .ref m6, .ref m7, .ref m8, .ref m9, .int pn, .ref m10, .ref m11, .ref m12, .ref m13])), (m1, .inl (cI, 4, .inl gw))]) hP hD [5, 6] [0, 1, 2, 3, 4] rfl rfl (by decide) (by decide) hk1 hFc hP1 hD1
    clear hz1 hk1 hFc hKc hDc hPc
    generalize H1 = H at hP hS ⊢
    have hP : va_P D vwCl [(m2, .inl (cI, 4, .inl gh)), (m3, .inl (cI, 16384, .inl gd)), (m4, .inl (cZ, 4096, .inl gm)), (m5, .inl (cI, 4096, .inl ge)), (m6, .inl (cI, 4096, .inl gv)), (h0, .inr (9, [.ref m1, .ref m2, .ref m3, .int ik, .int wy, .int op, .int cl, .int cx0, .int cx1, .int cy0, .int cy1, .int ds, .ref m4, .ref m5, .ref m6, .ref m7, .ref m8, .ref m9, .int pn, .ref m10, .ref m11, .ref m12, .ref m13])), (m1, .inl (cI, 4, .inl gw))] H := hP
    have hD : va_D A [(m2, .inl (cI, 4, .inl gh)), (m3, .inl (cI, 16384, .inl gd)), (m4, .inl (cZ, 4096, .inl gm)), (m5, .inl (cI, 4096, .inl ge)), (m6, .inl (cI, 4096, .inl gv)), (h0, .inr (9, [.ref m1, .ref m2, .ref m3, .int ik, .int wy, .int op, .int cl, .int cx0, .int cx1, .int cy0, .int cy1, .int ds, .ref m4, .ref m5, .ref m6, .ref m7, .ref m8, .ref m9, .int pn, .ref m10, .ref m11, .ref m12, .ref m13])), (m1, .inl (cI, 4, .inl gw))] := hD
    refine lv_if_eq (tgt := 87) hx hb dX9_stretch_14 (by decide) (fun c_5 => ?_) (fun c_5 => ?_)
    · skip
      have f_6 := bz0 hr_4 c_5
      exact False.elim (by omega)
    · skip
      have f_6 := bz1 hr_4 c_5
      refine lv_iload hx hb dX9_stretch_17 (lv_at hl 4 rfl) ?_
      refine lv_iconst (v := 1) hx hb dX9_stretch_19 (by decide) ?_
      refine lv_icmp_lt (tgt := 87) hx hb dX9_stretch_20 (by decide) (fun c_7 => ?_) (fun c_7 => ?_)
      · skip
        have f_8 : aw.toInt < 1 := f_lt rfl (by decide) c_7
        exact False.elim (by omega)
      · skip
        have f_8 : ¬ (aw.toInt < 1) := fn_lt rfl (by decide) c_7
        refine lv_iload hx hb dX9_stretch_23 (lv_at hl 4 rfl) ?_
        refine lv_bipush (v := 64) hx hb dX9_stretch_25 (by decide) ?_
        refine lv_icmp_gt (tgt := 87) hx hb dX9_stretch_27 (by decide) (fun c_9 => ?_) (fun c_9 => ?_)
        · skip
          have f_10 : 64 < aw.toInt := f_lt (by decide) rfl c_9
          exact False.elim (by omega)
        · skip
          have f_10 : ¬ (64 < aw.toInt) := fn_lt (by decide) rfl c_9
          refine lv_iload hx hb dX9_stretch_30 (lv_at hl 5 rfl) ?_
          refine lv_iconst (v := 1) hx hb dX9_stretch_32 (by decide) ?_
          refine lv_icmp_lt (tgt := 87) hx hb dX9_stretch_33 (by decide) (fun c_11 => ?_) (fun c_11 => ?_)
          · skip
            have f_12 : ah.toInt < 1 := f_lt rfl (by decide) c_11
            exact False.elim (by omega)
          · skip
            have f_12 : ¬ (ah.toInt < 1) := fn_lt rfl (by decide) c_11
            refine lv_iload hx hb dX9_stretch_36 (lv_at hl 5 rfl) ?_
            refine lv_bipush (v := 64) hx hb dX9_stretch_38 (by decide) ?_
            refine lv_icmp_gt (tgt := 87) hx hb dX9_stretch_40 (by decide) (fun c_13 => ?_) (fun c_13 => ?_)
            · skip
              have f_14 : 64 < ah.toInt := f_lt (by decide) rfl c_13
              exact False.elim (by omega)
            · skip
              have f_14 : ¬ (64 < ah.toInt) := fn_lt (by decide) rfl c_13
              refine lv_iload hx hb dX9_stretch_43 (lv_at hl 9 rfl) ?_
              refine lv_iconst (v := 1) hx hb dX9_stretch_45 (by decide) ?_
              refine lv_icmp_lt (tgt := 87) hx hb dX9_stretch_46 (by decide) (fun c_15 => ?_) (fun c_15 => ?_)
              · skip
                have f_16 : ow.toInt < 1 := f_lt rfl (by decide) c_15
                exact False.elim (by omega)
              · skip
                have f_16 : ¬ (ow.toInt < 1) := fn_lt rfl (by decide) c_15
                refine lv_iload hx hb dX9_stretch_49 (lv_at hl 9 rfl) ?_
                refine lv_bipush (v := 64) hx hb dX9_stretch_51 (by decide) ?_
                refine lv_icmp_gt (tgt := 87) hx hb dX9_stretch_53 (by decide) (fun c_17 => ?_) (fun c_17 => ?_)
                · skip
                  have f_18 : 64 < ow.toInt := f_lt (by decide) rfl c_17
                  exact False.elim (by omega)
                · skip
                  have f_18 : ¬ (64 < ow.toInt) := fn_lt (by decide) rfl c_17
                  refine lv_iload hx hb dX9_stretch_56 (lv_at hl 10 rfl) ?_
                  refine lv_iconst (v := 1) hx hb dX9_stretch_58 (by decide) ?_
                  refine lv_icmp_lt (tgt := 87) hx hb dX9_stretch_59 (by decide) (fun c_19 => ?_) (fun c_19 => ?_)
                  · skip
                    have f_20 : oh.toInt < 1 := f_lt rfl (by decide) c_19
                    exact False.elim (by omega)
                  · skip
                    have f_20 : ¬ (oh.toInt < 1) := fn_lt rfl (by decide) c_19
                    refine lv_iload hx hb dX9_stretch_62 (lv_at hl 10 rfl) ?_
                    refine lv_bipush (v := 64) hx hb dX9_stretch_64 (by decide) ?_
                    refine lv_icmp_gt (tgt := 87) hx hb dX9_stretch_66 (by decide) (fun c_21 => ?_) (fun c_21 => ?_)
                    · skip
                      have f_22 : 64 < oh.toInt := f_lt (by decide) rfl c_21
                      exact False.elim (by omega)
                    · skip
                      have f_22 : ¬ (64 < oh.toInt) := fn_lt (by decide) rfl c_21
                      refine lv_iload_n hx hb dX9_stretch_69 rfl (lv_at hl 2 rfl) ?_
                      refine lv_iload_n hx hb dX9_stretch_70 rfl (lv_at hl 3 rfl) ?_
                      have hPc := hP.sub (ws' := []) [] rfl
                      have hDc := hD.sub (ws' := []) [] (by decide) rfl
                      have hKc := hK.sub (tys' := []) [] rfl
                      have hFc := va_free (wc := []) hD hS hA [] rfl
                      refine va_calli (va_runS (As := [.int ax, .int ay]) (rest := []) ⟨hx, hb, hml, hown, hts⟩ (k_X9_isPlace l D H.size ax ay) (va_cwS 2 hts (gS bw_564 bw_560 bw_391 bw_559) rfl rfl rfl (by decide +kernel) ⟨(by rw [hR]; exact Nat.le_of_ble_eq_true rfl), (by rw [hR]; exact Nat.le_of_ble_eq_true rfl)⟩) ⟨cP_blind, cP_at hPc hKc hDc hN⟩ rfl rfl hl.1 rfl (lv_room (Nat.le_of_ble_eq_true rfl)) dX9_stretch_71 ⟨(by rw [hR]; exact Nat.le_of_ble_eq_true rfl), (by rw [hR]; exact Nat.le_of_ble_eq_true rfl)⟩) hS (fun q _ h => hFc q h) hFc (fun r_23 u9 t9 H1 locs ht hvm hr_23 hB hz1 hk1 hS => ?_)
                      try dsimp only at hr_23
                      have hP1 : va_P D vwCl [] H1 := vP_nil
                      have hD1 : va_D (va_A [] H.size) [] := vD_nil
                      obtain ⟨hP, hD⟩ := va_join (wr := [(m2, .inl (cI, 4, .inl gh)), (m3, .inl (cI, 16384, .inl gd)), (m4, .inl (cZ, 4096, .inl gm)), (m5, .inl (cI, 4096, .inl ge)), (m6, .inl (cI, 4096, .inl gv)), (h0, .inr (9, [.ref m1, .ref m2, .ref m3, .int ik, .int wy, .int op, .int cl, .int cx0, .int cx1, .int cy0, .int cy1, .int ds, .ref m4, .ref m5, .ref m6, .ref m7, .ref m8, .ref m9, .int pn, .ref m10, .ref m11, .ref m12, .ref m13])), (m1, .inl (cI, 4, .inl gw))]) (w1 := []) hP hD [] [0, 1, 2, 3, 4, 5, 6] rfl rfl (by decide) (by decide) hk1 hFc hP1 hD1
                      clear hz1 hk1 hFc hKc hDc hPc
                      generalize H1 = H at hP hS ⊢
                      have hP : va_P D vwCl [(m2, .inl (cI, 4, .inl gh)), (m3, .inl (cI, 16384, .inl gd)), (m4, .inl (cZ, 4096, .inl gm)), (m5, .inl (cI, 4096, .inl ge)), (m6, .inl (cI, 4096, .inl gv)), (h0, .inr (9, [.ref m1, .ref m2, .ref m3, .int ik, .int wy, .int op, .int cl, .int cx0, .int cx1, .int cy0, .int cy1, .int ds, .ref m4, .ref m5, .ref m6, .ref m7, .ref m8, .ref m9, .int pn, .ref m10, .ref m11, .ref m12, .ref m13])), (m1, .inl (cI, 4, .inl gw))] H := hP
                      have hD : va_D A [(m2, .inl (cI, 4, .inl gh)), (m3, .inl (cI, 16384, .inl gd)), (m4, .inl (cZ, 4096, .inl gm)), (m5, .inl (cI, 4096, .inl ge)), (m6, .inl (cI, 4096, .inl gv)), (h0, .inr (9, [.ref m1, .ref m2, .ref m3, .int ik, .int wy, .int op, .int cl, .int cx0, .int cx1, .int cy0, .int cy1, .int ds, .ref m4, .ref m5, .ref m6, .ref m7, .ref m8, .ref m9, .int pn, .ref m10, .ref m11, .ref m12, .ref m13])), (m1, .inl (cI, 4, .inl gw))] := hD
                      refine lv_if_eq (tgt := 87) hx hb dX9_stretch_74 (by decide) (fun c_24 => ?_) (fun c_24 => ?_)
                      · skip
                        have f_25 := bz0 hr_23 c_24
                        exact False.elim (by omega)
                      · skip
                        have f_25 := bz1 hr_23 c_24
                        refine lv_iload hx hb dX9_stretch_77 (lv_at hl 7 rfl) ?_
                        refine lv_iload hx hb dX9_stretch_79 (lv_at hl 8 rfl) ?_
                        have hPc := hP.sub (ws' := []) [] rfl
                        have hDc := hD.sub (ws' := []) [] (by decide) rfl
                        have hKc := hK.sub (tys' := []) [] rfl
                        have hFc := va_free (wc := []) hD hS hA [] rfl
                        refine va_calli (va_runS (As := [.int ox, .int oy]) (rest := []) ⟨hx, hb, hml, hown, hts⟩ (k_X9_isPlace l D H.size ox oy) (va_cwS 2 hts (gS bw_564 bw_560 bw_391 bw_559) rfl rfl rfl (by decide +kernel) ⟨(by rw [hR]; exact Nat.le_of_ble_eq_true rfl), (by rw [hR]; exact Nat.le_of_ble_eq_true rfl)⟩) ⟨cP_blind, cP_at hPc hKc hDc hN⟩ rfl rfl hl.1 rfl (lv_room (Nat.le_of_ble_eq_true rfl)) dX9_stretch_81 ⟨(by rw [hR]; exact Nat.le_of_ble_eq_true rfl), (by rw [hR]; exact Nat.le_of_ble_eq_true rfl)⟩) hS (fun q _ h => hFc q h) hFc (fun r_26 u9 t9 H1 locs ht hvm hr_26 hB hz1 hk1 hS => ?_)
                        try dsimp only at hr_26
                        have hP1 : va_P D vwCl [] H1 := vP_nil
                        have hD1 : va_D (va_A [] H.size) [] := vD_nil
                        obtain ⟨hP, hD⟩ := va_join (wr := [(m2, .inl (cI, 4, .inl gh)), (m3, .inl (cI, 16384, .inl gd)), (m4, .inl (cZ, 4096, .inl gm)), (m5, .inl (cI, 4096, .inl ge)), (m6, .inl (cI, 4096, .inl gv)), (h0, .inr (9, [.ref m1, .ref m2, .ref m3, .int ik, .int wy, .int op, .int cl, .int cx0, .int cx1, .int cy0, .int cy1, .int ds, .ref m4, .ref m5, .ref m6, .ref m7, .ref m8, .ref m9, .int pn, .ref m10, .ref m11, .ref m12, .ref m13])), (m1, .inl (cI, 4, .inl gw))]) (w1 := []) hP hD [] [0, 1, 2, 3, 4, 5, 6] rfl rfl (by decide) (by decide) hk1 hFc hP1 hD1
                        clear hz1 hk1 hFc hKc hDc hPc
                        generalize H1 = H at hP hS ⊢
                        have hP : va_P D vwCl [(m2, .inl (cI, 4, .inl gh)), (m3, .inl (cI, 16384, .inl gd)), (m4, .inl (cZ, 4096, .inl gm)), (m5, .inl (cI, 4096, .inl ge)), (m6, .inl (cI, 4096, .inl gv)), (h0, .inr (9, [.ref m1, .ref m2, .ref m3, .int ik, .int wy, .int op, .int cl, .int cx0, .int cx1, .int cy0, .int cy1, .int ds, .ref m4, .ref m5, .ref m6, .ref m7, .ref m8, .ref m9, .int pn, .ref m10, .ref m11, .ref m12, .ref m13])), (m1, .inl (cI, 4, .inl gw))] H := hP
                        have hD : va_D A [(m2, .inl (cI, 4, .inl gh)), (m3, .inl (cI, 16384, .inl gd)), (m4, .inl (cZ, 4096, .inl gm)), (m5, .inl (cI, 4096, .inl ge)), (m6, .inl (cI, 4096, .inl gv)), (h0, .inr (9, [.ref m1, .ref m2, .ref m3, .int ik, .int wy, .int op, .int cl, .int cx0, .int cx1, .int cy0, .int cy1, .int ds, .ref m4, .ref m5, .ref m6, .ref m7, .ref m8, .ref m9, .int pn, .ref m10, .ref m11, .ref m12, .ref m13])), (m1, .inl (cI, 4, .inl gw))] := hD
                        refine lv_if_ne (tgt := 89) hx hb dX9_stretch_84 (by decide) (fun c_27 => ?_) (fun c_27 => ?_)
                        · skip
                          have f_28 := bz1 hr_26 c_27
                          obtain ⟨W9, hW9, eW9⟩ := i_of (x := ow) (N := 65) (by omega) (by omega) (by decide)
                          have eW9n : ow.toNatClampNeg = W9 := by rw [eW9]; exact nI_clamp (by omega)
                          have hW9t : ow.toInt = (W9 : Int) := by rw [eW9]; exact nI_toInt (by omega)
                          obtain ⟨H9, hH9, eH9⟩ := i_of (x := oh) (N := 65) (by omega) (by omega) (by decide)
                          have eH9n : oh.toNatClampNeg = H9 := by rw [eH9]; exact nI_clamp (by omega)
                          have hH9t : oh.toInt = (H9 : Int) := by rw [eH9]; exact nI_toInt (by omega)
                          refine lv_aload_n hx hb dX9_stretch_89 rfl (lv_at hl 0 rfl) ?_
                          have hPc := hP.sub (ws' := [(h0, .inr (9, [.ref m1, .ref m2, .ref m3, .int ik, .int wy, .int op, .int cl, .int cx0, .int cx1, .int cy0, .int cy1, .int ds, .ref m4, .ref m5, .ref m6, .ref m7, .ref m8, .ref m9, .int pn, .ref m10, .ref m11, .ref m12, .ref m13])), (m4, .inl (cZ, 4096, .inl gm))]) [5, 2] rfl
                          have hDc := hD.sub (ws' := [(h0, .inr (9, [.ref m1, .ref m2, .ref m3, .int ik, .int wy, .int op, .int cl, .int cx0, .int cx1, .int cy0, .int cy1, .int ds, .ref m4, .ref m5, .ref m6, .ref m7, .ref m8, .ref m9, .int pn, .ref m10, .ref m11, .ref m12, .ref m13])), (m4, .inl (cZ, 4096, .inl gm))]) [5, 2] (by decide) rfl
                          have hKc := hK.sub (tys' := [(cZ, .boolean)]) [1] rfl
                          have hFc := va_free (wc := [(h0, .inr (9, [.ref m1, .ref m2, .ref m3, .int ik, .int wy, .int op, .int cl, .int cx0, .int cx1, .int cy0, .int cy1, .int ds, .ref m4, .ref m5, .ref m6, .ref m7, .ref m8, .ref m9, .int pn, .ref m10, .ref m11, .ref m12, .ref m13])), (m4, .inl (cZ, 4096, .inl gm))]) hD hS hA [5, 2] rfl
                          refine va_callv (va_runV (As := []) (rest := []) ⟨hx, hb, hml, hown, hts⟩ (k_X9_begins l D H.size h0 m1 m2 m3 m4 m5 m6 m7 m8 m9 m10 m11 m12 m13 ik wy op cl cx0 cx1 cy0 cy1 ds pn gm cZ) (cwV 0 hts (gV bw_493 bw_455 bw_456 bw_391 bw_454) rfl rfl rfl (by decide +kernel) ⟨(by rw [hR]; exact Nat.le_of_ble_eq_true rfl), (by rw [hR]; exact Nat.le_of_ble_eq_true rfl)⟩) ⟨cP_blind, va_recv hKc hPc (ci := 9) (q0 := 0) rfl rfl, cP_at hPc hKc hDc hN⟩ rfl rfl hl.1 rfl (lv_room (Nat.le_of_ble_eq_true rfl)) dX9_stretch_90 ⟨(by rw [hR]; exact Nat.le_of_ble_eq_true rfl), (by rw [hR]; exact Nat.le_of_ble_eq_true rfl)⟩) hS (fun q _ h => hFc q h) hFc (fun u9 t9 H1 locs ht hvm hr_29 hB hz1 hk1 hS => ?_)
                          try dsimp only at hr_29
                          obtain ⟨hP1, hK1, hD1⟩ := hB
                          rw [ht] at hP1
                          obtain ⟨hP, hD⟩ := va_join (wr := [(m2, .inl (cI, 4, .inl gh)), (m3, .inl (cI, 16384, .inl gd)), (m5, .inl (cI, 4096, .inl ge)), (m6, .inl (cI, 4096, .inl gv)), (m1, .inl (cI, 4, .inl gw))]) (w1 := [(h0, .inr (9, [.ref m1, .ref m2, .ref m3, .int ik, .int wy, .int op, .int cl, .int cx0, .int cx1, .int cy0, .int cy1, .int ds, .ref m4, .ref m5, .ref m6, .ref m7, .ref m8, .ref m9, .int pn, .ref m10, .ref m11, .ref m12, .ref m13])), (m4, .inl (cZ, 4096, .inl (zrN gm 4096)))]) hP hD [5, 2] [0, 1, 3, 4, 6] rfl rfl (by decide) (by decide) hk1 hFc hP1 hD1
                          clear hz1 hk1 hFc hKc hDc hPc
                          generalize H1 = H at hP hS ⊢
                          have hP : va_P D vwCl [(m2, .inl (cI, 4, .inl gh)), (m3, .inl (cI, 16384, .inl gd)), (m5, .inl (cI, 4096, .inl ge)), (m6, .inl (cI, 4096, .inl gv)), (m1, .inl (cI, 4, .inl gw)), (h0, .inr (9, [.ref m1, .ref m2, .ref m3, .int ik, .int wy, .int op, .int cl, .int cx0, .int cx1, .int cy0, .int cy1, .int ds, .ref m4, .ref m5, .ref m6, .ref m7, .ref m8, .ref m9, .int pn, .ref m10, .ref m11, .ref m12, .ref m13])), (m4, .inl (cZ, 4096, .inl (zrN gm 4096)))] H := hP
                          have hD : va_D A [(m2, .inl (cI, 4, .inl gh)), (m3, .inl (cI, 16384, .inl gd)), (m5, .inl (cI, 4096, .inl ge)), (m6, .inl (cI, 4096, .inl gv)), (m1, .inl (cI, 4, .inl gw)), (h0, .inr (9, [.ref m1, .ref m2, .ref m3, .int ik, .int wy, .int op, .int cl, .int cx0, .int cx1, .int cy0, .int cy1, .int ds, .ref m4, .ref m5, .ref m6, .ref m7, .ref m8, .ref m9, .int pn, .ref m10, .ref m11, .ref m12, .ref m13])), (m4, .inl (cZ, 4096, .inl (zrN gm 4096)))] := hD
                          refine lv_iconst (v := 0) hx hb dX9_stretch_93 (by decide) ?_
                          refine lv_istore (lv' := [(11, .int 0), (0, .ref h0), (1, .int k), (2, .int ax), (3, .int ay), (4, .int aw), (5, .int ah), (6, .int kq), (7, .int ox), (8, .int oy), (9, .int ow), (10, .int oh)]) hx hb dX9_stretch_94 hl (by decide) rfl (fun ls hl => ?_)
                          have loop_30 : ∀ (n : Nat) (j : Nat) (x11 : Int32) (ga : Nat → Int32) (gb : Nat → Int32) (gc : Nat → Int32) (H : Heap) (locs : List Loc) (ls : Array Slot), (j ≤ 64) → (64 + 1 ≤ j + n) → (x11 = nI j) → (j ≤ H9) → (((ga, gb, gc) : M3) = (gL (cyQ ax ay aw ah ox oy ow oh (gw k.toNatClampNeg) (gh k.toNatClampNeg) op (fun t => gd (4096 * k.toNatClampNeg + t))) W9 j).foldl (mkF (gw kq.toNatClampNeg) (gh kq.toNatClampNeg) cl cx0 cx1 cy0 cy1) (zrN gm 4096, ge, gv)) → va_P D vwCl [(m2, .inl (cI, 4, .inl gh)), (m3, .inl (cI, 16384, .inl gd)), (m5, .inl (cI, 4096, .inl gb)), (m6, .inl (cI, 4096, .inl gc)), (m1, .inl (cI, 4, .inl gw)), (h0, .inr (9, [.ref m1, .ref m2, .ref m3, .int ik, .int wy, .int op, .int cl, .int cx0, .int cx1, .int cy0, .int cy1, .int ds, .ref m4, .ref m5, .ref m6, .ref m7, .ref m8, .ref m9, .int pn, .ref m10, .ref m11, .ref m12, .ref m13])), (m4, .inl (cZ, 4096, .inl ga))] H → va_D A [(m2, .inl (cI, 4, .inl gh)), (m3, .inl (cI, 16384, .inl gd)), (m5, .inl (cI, 4096, .inl gb)), (m6, .inl (cI, 4096, .inl gc)), (m1, .inl (cI, 4, .inl gw)), (h0, .inr (9, [.ref m1, .ref m2, .ref m3, .int ik, .int wy, .int op, .int cl, .int cx0, .int cx1, .int cy0, .int cy1, .int ds, .ref m4, .ref m5, .ref m6, .ref m7, .ref m8, .ref m9, .int pn, .ref m10, .ref m11, .ref m12, .ref m13])), (m4, .inl (cZ, 4096, .inl ga))] → va_S A s.heap H locs → lv_has ls 15 [(11, .int x11), (0, .ref h0), (1, .int k), (2, .int ax), (3, .int ay), (4, .int aw), (5, .int ah), (6, .int kq), (7, .int ox), (8, .int oy), (9, .int ow), (10, .int oh)] → W p l e R s m ([.ref h0, .int k, .int ax, .int ay, .int aw, .int ah, .int kq, .int ox, .int oy, .int ow, .int oh] : List Value).toArray below meth c H locs 0 0 Q (F0 m 96 ls []) := by
                            intro n
                            induction n with
                            | zero =>
                              intro j x11 ga gb gc H locs ls hi_j hm_j ex_j hjo hgo hP hD hS hl
                              exact absurd (show False by omega) not_false
                            | succ n ih_31 =>
                              intro j x11 ga gb gc H locs ls hi_j hm_j ex_j hjo hgo hP hD hS hl
                              have hx_j : x11.toInt = (j : Int) := by rw [ex_j]; exact nI_toInt (by omega)
                              have hc_j : x11.toNatClampNeg = j := by rw [ex_j]; exact nI_clamp (by omega)
                              refine lv_iload hx hb dX9_stretch_96 (lv_at hl 0 rfl) ?_
                              refine lv_iload hx hb dX9_stretch_98 (lv_at hl 11 rfl) ?_
                              refine lv_icmp_ge (tgt := 194) hx hb dX9_stretch_100 (by decide) (fun c_32 => ?_) (fun c_32 => ?_)
                              · skip
                                have f_33 : oh.toInt ≤ (j : Int) := f_le rfl hx_j c_32
                                refine lv_aload_n hx hb dX9_stretch_194 rfl (lv_at hl 1 rfl) ?_
                                refine lv_iload hx hb dX9_stretch_195 (lv_at hl 7 rfl) ?_
                                have hPc := hP.sub (ws' := [(h0, .inr (9, [.ref m1, .ref m2, .ref m3, .int ik, .int wy, .int op, .int cl, .int cx0, .int cx1, .int cy0, .int cy1, .int ds, .ref m4, .ref m5, .ref m6, .ref m7, .ref m8, .ref m9, .int pn, .ref m10, .ref m11, .ref m12, .ref m13])), (m3, .inl (cI, 16384, .inl gd)), (m4, .inl (cZ, 4096, .inl ga)), (m5, .inl (cI, 4096, .inl gb)), (m6, .inl (cI, 4096, .inl gc))]) [5, 1, 6, 2, 3] rfl
                                have hDc := hD.sub (ws' := [(h0, .inr (9, [.ref m1, .ref m2, .ref m3, .int ik, .int wy, .int op, .int cl, .int cx0, .int cx1, .int cy0, .int cy1, .int ds, .ref m4, .ref m5, .ref m6, .ref m7, .ref m8, .ref m9, .int pn, .ref m10, .ref m11, .ref m12, .ref m13])), (m3, .inl (cI, 16384, .inl gd)), (m4, .inl (cZ, 4096, .inl ga)), (m5, .inl (cI, 4096, .inl gb)), (m6, .inl (cI, 4096, .inl gc))]) [5, 1, 6, 2, 3] (by decide) rfl
                                have hKc := hK.sub (tys' := [(cI, .int), (cZ, .boolean)]) [0, 1] rfl
                                have hFc := va_free (wc := [(h0, .inr (9, [.ref m1, .ref m2, .ref m3, .int ik, .int wy, .int op, .int cl, .int cx0, .int cx1, .int cy0, .int cy1, .int ds, .ref m4, .ref m5, .ref m6, .ref m7, .ref m8, .ref m9, .int pn, .ref m10, .ref m11, .ref m12, .ref m13])), (m3, .inl (cI, 16384, .inl gd)), (m4, .inl (cZ, 4096, .inl ga)), (m5, .inl (cI, 4096, .inl gb)), (m6, .inl (cI, 4096, .inl gc))]) hD hS hA [5, 1, 6, 2, 3] rfl
                                refine va_calli (va_runV (As := [.int kq]) (rest := []) ⟨hx, hb, hml, hown, hts⟩ (k_X9_lays l D H.size h0 m1 m2 m3 m4 m5 m6 m7 m8 m9 m10 m11 m12 m13 ik wy op cl cx0 cx1 cy0 cy1 ds pn gd ga gb gc kq cI cZ (by omega) (by first | assumption | omega | decide)) (cwV 1 hts (gV bw_496 bw_462 bw_463 bw_391 bw_461) rfl rfl rfl (by decide +kernel) ⟨(by rw [hR]; exact Nat.le_of_ble_eq_true rfl), (by rw [hR]; exact Nat.le_of_ble_eq_true rfl)⟩) ⟨cP_blind, va_recv hKc hPc (ci := 9) (q0 := 0) rfl rfl, cP_at hPc hKc hDc hN⟩ rfl rfl hl.1 rfl (lv_room (Nat.le_of_ble_eq_true rfl)) dX9_stretch_197 ⟨(by rw [hR]; exact Nat.le_of_ble_eq_true rfl), (by rw [hR]; exact Nat.le_of_ble_eq_true rfl)⟩) hS (fun q _ h => hFc q h) hFc (fun r_34 u9 t9 H1 locs ht hvm hr_34 hB hz1 hk1 hS => ?_)
                                try dsimp only at hr_34
                                obtain ⟨hP1, hK1, hD1⟩ := hB
                                rw [ht] at hP1
                                obtain ⟨hP, hD⟩ := va_join (wr := [(m2, .inl (cI, 4, .inl gh)), (m1, .inl (cI, 4, .inl gw))]) (w1 := [(h0, .inr (9, [.ref m1, .ref m2, .ref m3, .int ik, .int wy, .int op, .int cl, .int cx0, .int cx1, .int cy0, .int cy1, .int ds, .ref m4, .ref m5, .ref m6, .ref m7, .ref m8, .ref m9, .int pn, .ref m10, .ref m11, .ref m12, .ref m13])), (m3, .inl (cI, 16384, .inl (lysN wy gd ga gb gc kq.toNatClampNeg 4096))), (m4, .inl (cZ, 4096, .inl ga)), (m5, .inl (cI, 4096, .inl gb)), (m6, .inl (cI, 4096, .inl gc))]) hP hD [5, 1, 6, 2, 3] [0, 4] rfl rfl (by decide) (by decide) hk1 hFc hP1 hD1
                                clear hz1 hk1 hFc hKc hDc hPc
                                generalize H1 = H at hP hS ⊢
                                have hP : va_P D vwCl [(m2, .inl (cI, 4, .inl gh)), (m1, .inl (cI, 4, .inl gw)), (h0, .inr (9, [.ref m1, .ref m2, .ref m3, .int ik, .int wy, .int op, .int cl, .int cx0, .int cx1, .int cy0, .int cy1, .int ds, .ref m4, .ref m5, .ref m6, .ref m7, .ref m8, .ref m9, .int pn, .ref m10, .ref m11, .ref m12, .ref m13])), (m3, .inl (cI, 16384, .inl (lysN wy gd ga gb gc kq.toNatClampNeg 4096))), (m4, .inl (cZ, 4096, .inl ga)), (m5, .inl (cI, 4096, .inl gb)), (m6, .inl (cI, 4096, .inl gc))] H := hP
                                have hD : va_D A [(m2, .inl (cI, 4, .inl gh)), (m1, .inl (cI, 4, .inl gw)), (h0, .inr (9, [.ref m1, .ref m2, .ref m3, .int ik, .int wy, .int op, .int cl, .int cx0, .int cx1, .int cy0, .int cy1, .int ds, .ref m4, .ref m5, .ref m6, .ref m7, .ref m8, .ref m9, .int pn, .ref m10, .ref m11, .ref m12, .ref m13])), (m3, .inl (cI, 16384, .inl (lysN wy gd ga gb gc kq.toNatClampNeg 4096))), (m4, .inl (cZ, 4096, .inl ga)), (m5, .inl (cI, 4096, .inl gb)), (m6, .inl (cI, 4096, .inl gc))] := hD
                                have hgx : ((ga, gb, gc) : M3) = ((gL (cyQ ax ay aw ah ox oy ow oh (gw k.toNatClampNeg) (gh k.toNatClampNeg) op (fun t => gd (4096 * k.toNatClampNeg + t))) ow.toNatClampNeg oh.toNatClampNeg).foldl (mkF (gw kq.toNatClampNeg) (gh kq.toNatClampNeg) cl cx0 cx1 cy0 cy1) (zrN gm 4096, ge, gv)) := by rw [eW9n, eH9n, ← show j = H9 by omega]; exact hgo
                                have hP : va_P D vwCl [(m2, .inl (cI, 4, .inl gh)), (m1, .inl (cI, 4, .inl gw)), (h0, .inr (9, [.ref m1, .ref m2, .ref m3, .int ik, .int wy, .int op, .int cl, .int cx0, .int cx1, .int cy0, .int cy1, .int ds, .ref m4, .ref m5, .ref m6, .ref m7, .ref m8, .ref m9, .int pn, .ref m10, .ref m11, .ref m12, .ref m13])), (m3, .inl (cI, 16384, .inl (lysN wy gd ((gL (cyQ ax ay aw ah ox oy ow oh (gw k.toNatClampNeg) (gh k.toNatClampNeg) op (fun t => gd (4096 * k.toNatClampNeg + t))) ow.toNatClampNeg oh.toNatClampNeg).foldl (mkF (gw kq.toNatClampNeg) (gh kq.toNatClampNeg) cl cx0 cx1 cy0 cy1) (zrN gm 4096, ge, gv)).1 ((gL (cyQ ax ay aw ah ox oy ow oh (gw k.toNatClampNeg) (gh k.toNatClampNeg) op (fun t => gd (4096 * k.toNatClampNeg + t))) ow.toNatClampNeg oh.toNatClampNeg).foldl (mkF (gw kq.toNatClampNeg) (gh kq.toNatClampNeg) cl cx0 cx1 cy0 cy1) (zrN gm 4096, ge, gv)).2.1 ((gL (cyQ ax ay aw ah ox oy ow oh (gw k.toNatClampNeg) (gh k.toNatClampNeg) op (fun t => gd (4096 * k.toNatClampNeg + t))) ow.toNatClampNeg oh.toNatClampNeg).foldl (mkF (gw kq.toNatClampNeg) (gh kq.toNatClampNeg) cl cx0 cx1 cy0 cy1) (zrN gm 4096, ge, gv)).2.2 kq.toNatClampNeg 4096))), (m4, .inl (cZ, 4096, .inl (((gL (cyQ ax ay aw ah ox oy ow oh (gw k.toNatClampNeg) (gh k.toNatClampNeg) op (fun t => gd (4096 * k.toNatClampNeg + t))) ow.toNatClampNeg oh.toNatClampNeg).foldl (mkF (gw kq.toNatClampNeg) (gh kq.toNatClampNeg) cl cx0 cx1 cy0 cy1) (zrN gm 4096, ge, gv)).1))), (m5, .inl (cI, 4096, .inl (((gL (cyQ ax ay aw ah ox oy ow oh (gw k.toNatClampNeg) (gh k.toNatClampNeg) op (fun t => gd (4096 * k.toNatClampNeg + t))) ow.toNatClampNeg oh.toNatClampNeg).foldl (mkF (gw kq.toNatClampNeg) (gh kq.toNatClampNeg) cl cx0 cx1 cy0 cy1) (zrN gm 4096, ge, gv)).2.1))), (m6, .inl (cI, 4096, .inl (((gL (cyQ ax ay aw ah ox oy ow oh (gw k.toNatClampNeg) (gh k.toNatClampNeg) op (fun t => gd (4096 * k.toNatClampNeg + t))) ow.toNatClampNeg oh.toNatClampNeg).foldl (mkF (gw kq.toNatClampNeg) (gh kq.toNatClampNeg) cl cx0 cx1 cy0 cy1) (zrN gm 4096, ge, gv)).2.2)))] H := by simp only [← hgx]; exact hP
                                have hD : va_D A [(m2, .inl (cI, 4, .inl gh)), (m1, .inl (cI, 4, .inl gw)), (h0, .inr (9, [.ref m1, .ref m2, .ref m3, .int ik, .int wy, .int op, .int cl, .int cx0, .int cx1, .int cy0, .int cy1, .int ds, .ref m4, .ref m5, .ref m6, .ref m7, .ref m8, .ref m9, .int pn, .ref m10, .ref m11, .ref m12, .ref m13])), (m3, .inl (cI, 16384, .inl (lysN wy gd ((gL (cyQ ax ay aw ah ox oy ow oh (gw k.toNatClampNeg) (gh k.toNatClampNeg) op (fun t => gd (4096 * k.toNatClampNeg + t))) ow.toNatClampNeg oh.toNatClampNeg).foldl (mkF (gw kq.toNatClampNeg) (gh kq.toNatClampNeg) cl cx0 cx1 cy0 cy1) (zrN gm 4096, ge, gv)).1 ((gL (cyQ ax ay aw ah ox oy ow oh (gw k.toNatClampNeg) (gh k.toNatClampNeg) op (fun t => gd (4096 * k.toNatClampNeg + t))) ow.toNatClampNeg oh.toNatClampNeg).foldl (mkF (gw kq.toNatClampNeg) (gh kq.toNatClampNeg) cl cx0 cx1 cy0 cy1) (zrN gm 4096, ge, gv)).2.1 ((gL (cyQ ax ay aw ah ox oy ow oh (gw k.toNatClampNeg) (gh k.toNatClampNeg) op (fun t => gd (4096 * k.toNatClampNeg + t))) ow.toNatClampNeg oh.toNatClampNeg).foldl (mkF (gw kq.toNatClampNeg) (gh kq.toNatClampNeg) cl cx0 cx1 cy0 cy1) (zrN gm 4096, ge, gv)).2.2 kq.toNatClampNeg 4096))), (m4, .inl (cZ, 4096, .inl (((gL (cyQ ax ay aw ah ox oy ow oh (gw k.toNatClampNeg) (gh k.toNatClampNeg) op (fun t => gd (4096 * k.toNatClampNeg + t))) ow.toNatClampNeg oh.toNatClampNeg).foldl (mkF (gw kq.toNatClampNeg) (gh kq.toNatClampNeg) cl cx0 cx1 cy0 cy1) (zrN gm 4096, ge, gv)).1))), (m5, .inl (cI, 4096, .inl (((gL (cyQ ax ay aw ah ox oy ow oh (gw k.toNatClampNeg) (gh k.toNatClampNeg) op (fun t => gd (4096 * k.toNatClampNeg + t))) ow.toNatClampNeg oh.toNatClampNeg).foldl (mkF (gw kq.toNatClampNeg) (gh kq.toNatClampNeg) cl cx0 cx1 cy0 cy1) (zrN gm 4096, ge, gv)).2.1))), (m6, .inl (cI, 4096, .inl (((gL (cyQ ax ay aw ah ox oy ow oh (gw k.toNatClampNeg) (gh k.toNatClampNeg) op (fun t => gd (4096 * k.toNatClampNeg + t))) ow.toNatClampNeg oh.toNatClampNeg).foldl (mkF (gw kq.toNatClampNeg) (gh kq.toNatClampNeg) cl cx0 cx1 cy0 cy1) (zrN gm 4096, ge, gv)).2.2)))] := by simp only [← hgx]; exact hD
                                have hP9 := hP.sub (ws' := [(h0, .inr (9, [.ref m1, .ref m2, .ref m3, .int ik, .int wy, .int op, .int cl, .int cx0, .int cx1, .int cy0, .int cy1, .int ds, .ref m4, .ref m5, .ref m6, .ref m7, .ref m8, .ref m9, .int pn, .ref m10, .ref m11, .ref m12, .ref m13])), (m1, .inl (cI, 4, .inl gw)), (m2, .inl (cI, 4, .inl gh)), (m3, .inl (cI, 16384, .inl (lysN wy gd ((gL (cyQ ax ay aw ah ox oy ow oh (gw k.toNatClampNeg) (gh k.toNatClampNeg) op (fun t => gd (4096 * k.toNatClampNeg + t))) ow.toNatClampNeg oh.toNatClampNeg).foldl (mkF (gw kq.toNatClampNeg) (gh kq.toNatClampNeg) cl cx0 cx1 cy0 cy1) (zrN gm 4096, ge, gv)).1 ((gL (cyQ ax ay aw ah ox oy ow oh (gw k.toNatClampNeg) (gh k.toNatClampNeg) op (fun t => gd (4096 * k.toNatClampNeg + t))) ow.toNatClampNeg oh.toNatClampNeg).foldl (mkF (gw kq.toNatClampNeg) (gh kq.toNatClampNeg) cl cx0 cx1 cy0 cy1) (zrN gm 4096, ge, gv)).2.1 ((gL (cyQ ax ay aw ah ox oy ow oh (gw k.toNatClampNeg) (gh k.toNatClampNeg) op (fun t => gd (4096 * k.toNatClampNeg + t))) ow.toNatClampNeg oh.toNatClampNeg).foldl (mkF (gw kq.toNatClampNeg) (gh kq.toNatClampNeg) cl cx0 cx1 cy0 cy1) (zrN gm 4096, ge, gv)).2.2 kq.toNatClampNeg 4096))), (m4, .inl (cZ, 4096, .inl (((gL (cyQ ax ay aw ah ox oy ow oh (gw k.toNatClampNeg) (gh k.toNatClampNeg) op (fun t => gd (4096 * k.toNatClampNeg + t))) ow.toNatClampNeg oh.toNatClampNeg).foldl (mkF (gw kq.toNatClampNeg) (gh kq.toNatClampNeg) cl cx0 cx1 cy0 cy1) (zrN gm 4096, ge, gv)).1))), (m5, .inl (cI, 4096, .inl (((gL (cyQ ax ay aw ah ox oy ow oh (gw k.toNatClampNeg) (gh k.toNatClampNeg) op (fun t => gd (4096 * k.toNatClampNeg + t))) ow.toNatClampNeg oh.toNatClampNeg).foldl (mkF (gw kq.toNatClampNeg) (gh kq.toNatClampNeg) cl cx0 cx1 cy0 cy1) (zrN gm 4096, ge, gv)).2.1))), (m6, .inl (cI, 4096, .inl (((gL (cyQ ax ay aw ah ox oy ow oh (gw k.toNatClampNeg) (gh k.toNatClampNeg) op (fun t => gd (4096 * k.toNatClampNeg + t))) ow.toNatClampNeg oh.toNatClampNeg).foldl (mkF (gw kq.toNatClampNeg) (gh kq.toNatClampNeg) cl cx0 cx1 cy0 cy1) (zrN gm 4096, ge, gv)).2.2)))]) [2, 1, 0, 3, 4, 5, 6] rfl
                                have hD9 := hD.sub (ws' := [(h0, .inr (9, [.ref m1, .ref m2, .ref m3, .int ik, .int wy, .int op, .int cl, .int cx0, .int cx1, .int cy0, .int cy1, .int ds, .ref m4, .ref m5, .ref m6, .ref m7, .ref m8, .ref m9, .int pn, .ref m10, .ref m11, .ref m12, .ref m13])), (m1, .inl (cI, 4, .inl gw)), (m2, .inl (cI, 4, .inl gh)), (m3, .inl (cI, 16384, .inl (lysN wy gd ((gL (cyQ ax ay aw ah ox oy ow oh (gw k.toNatClampNeg) (gh k.toNatClampNeg) op (fun t => gd (4096 * k.toNatClampNeg + t))) ow.toNatClampNeg oh.toNatClampNeg).foldl (mkF (gw kq.toNatClampNeg) (gh kq.toNatClampNeg) cl cx0 cx1 cy0 cy1) (zrN gm 4096, ge, gv)).1 ((gL (cyQ ax ay aw ah ox oy ow oh (gw k.toNatClampNeg) (gh k.toNatClampNeg) op (fun t => gd (4096 * k.toNatClampNeg + t))) ow.toNatClampNeg oh.toNatClampNeg).foldl (mkF (gw kq.toNatClampNeg) (gh kq.toNatClampNeg) cl cx0 cx1 cy0 cy1) (zrN gm 4096, ge, gv)).2.1 ((gL (cyQ ax ay aw ah ox oy ow oh (gw k.toNatClampNeg) (gh k.toNatClampNeg) op (fun t => gd (4096 * k.toNatClampNeg + t))) ow.toNatClampNeg oh.toNatClampNeg).foldl (mkF (gw kq.toNatClampNeg) (gh kq.toNatClampNeg) cl cx0 cx1 cy0 cy1) (zrN gm 4096, ge, gv)).2.2 kq.toNatClampNeg 4096))), (m4, .inl (cZ, 4096, .inl (((gL (cyQ ax ay aw ah ox oy ow oh (gw k.toNatClampNeg) (gh k.toNatClampNeg) op (fun t => gd (4096 * k.toNatClampNeg + t))) ow.toNatClampNeg oh.toNatClampNeg).foldl (mkF (gw kq.toNatClampNeg) (gh kq.toNatClampNeg) cl cx0 cx1 cy0 cy1) (zrN gm 4096, ge, gv)).1))), (m5, .inl (cI, 4096, .inl (((gL (cyQ ax ay aw ah ox oy ow oh (gw k.toNatClampNeg) (gh k.toNatClampNeg) op (fun t => gd (4096 * k.toNatClampNeg + t))) ow.toNatClampNeg oh.toNatClampNeg).foldl (mkF (gw kq.toNatClampNeg) (gh kq.toNatClampNeg) cl cx0 cx1 cy0 cy1) (zrN gm 4096, ge, gv)).2.1))), (m6, .inl (cI, 4096, .inl (((gL (cyQ ax ay aw ah ox oy ow oh (gw k.toNatClampNeg) (gh k.toNatClampNeg) op (fun t => gd (4096 * k.toNatClampNeg + t))) ow.toNatClampNeg oh.toNatClampNeg).foldl (mkF (gw kq.toNatClampNeg) (gh kq.toNatClampNeg) cl cx0 cx1 cy0 cy1) (zrN gm 4096, ge, gv)).2.2)))]) [2, 1, 0, 3, 4, 5, 6] (by decide) rfl
                                have hK9 := hK.sub (tys' := [(cI, .int), (cZ, .boolean)]) [0, 1] rfl
                                refine hQ _ _ _ _ _ ?_
                                exact W.iret (v := r_34) hx hb hr (fun t ht hW => ⟨⟨r_34, (), rfl, (by rw [← hgx]; exact hr_34), ⟨by rw [ht]; exact hP9, va_K.moved hW.alike hK9, hD9⟩⟩, hS.F ht⟩) hS.2.2 dX9_stretch_200
                              · skip
                                have f_33 : ¬ (oh.toInt ≤ (j : Int)) := fn_le rfl hx_j c_32
                                refine lv_iconst (v := 0) hx hb dX9_stretch_103 (by decide) ?_
                                refine lv_istore (lv' := [(12, .int 0), (11, .int x11), (0, .ref h0), (1, .int k), (2, .int ax), (3, .int ay), (4, .int aw), (5, .int ah), (6, .int kq), (7, .int ox), (8, .int oy), (9, .int ow), (10, .int oh)]) hx hb dX9_stretch_104 hl (by decide) rfl (fun ls hl => ?_)
                                have loop_35 : ∀ (n : Nat) (i : Nat) (x12 : Int32) (gj : Nat → Int32) (gk : Nat → Int32) (gl : Nat → Int32) (H : Heap) (locs : List Loc) (ls : Array Slot), (i ≤ 64) → (64 + 1 ≤ i + n) → (x12 = nI i) → (i ≤ W9) → (((gj, gk, gl) : M3) = (gL (cyQ ax ay aw ah ox oy ow oh (gw k.toNatClampNeg) (gh k.toNatClampNeg) op (fun t => gd (4096 * k.toNatClampNeg + t))) W9 j ++ gR (cyQ ax ay aw ah ox oy ow oh (gw k.toNatClampNeg) (gh k.toNatClampNeg) op (fun t => gd (4096 * k.toNatClampNeg + t))) j i).foldl (mkF (gw kq.toNatClampNeg) (gh kq.toNatClampNeg) cl cx0 cx1 cy0 cy1) (zrN gm 4096, ge, gv)) → va_P D vwCl [(m2, .inl (cI, 4, .inl gh)), (m3, .inl (cI, 16384, .inl gd)), (m5, .inl (cI, 4096, .inl gk)), (m6, .inl (cI, 4096, .inl gl)), (m1, .inl (cI, 4, .inl gw)), (h0, .inr (9, [.ref m1, .ref m2, .ref m3, .int ik, .int wy, .int op, .int cl, .int cx0, .int cx1, .int cy0, .int cy1, .int ds, .ref m4, .ref m5, .ref m6, .ref m7, .ref m8, .ref m9, .int pn, .ref m10, .ref m11, .ref m12, .ref m13])), (m4, .inl (cZ, 4096, .inl gj))] H → va_D A [(m2, .inl (cI, 4, .inl gh)), (m3, .inl (cI, 16384, .inl gd)), (m5, .inl (cI, 4096, .inl gk)), (m6, .inl (cI, 4096, .inl gl)), (m1, .inl (cI, 4, .inl gw)), (h0, .inr (9, [.ref m1, .ref m2, .ref m3, .int ik, .int wy, .int op, .int cl, .int cx0, .int cx1, .int cy0, .int cy1, .int ds, .ref m4, .ref m5, .ref m6, .ref m7, .ref m8, .ref m9, .int pn, .ref m10, .ref m11, .ref m12, .ref m13])), (m4, .inl (cZ, 4096, .inl gj))] → va_S A s.heap H locs → lv_has ls 15 [(12, .int x12), (11, .int x11), (0, .ref h0), (1, .int k), (2, .int ax), (3, .int ay), (4, .int aw), (5, .int ah), (6, .int kq), (7, .int ox), (8, .int oy), (9, .int ow), (10, .int oh)] → W p l e R s m ([.ref h0, .int k, .int ax, .int ay, .int aw, .int ah, .int kq, .int ox, .int oy, .int ow, .int oh] : List Value).toArray below meth c H locs 0 0 Q (F0 m 106 ls []) := by
                                  intro n
                                  induction n with
                                  | zero =>
                                    intro i x12 gj gk gl H locs ls hi_i hm_i ex_i hio hgi hP hD hS hl
                                    exact absurd (show False by omega) not_false
                                  | succ n ih_36 =>
                                    intro i x12 gj gk gl H locs ls hi_i hm_i ex_i hio hgi hP hD hS hl
                                    have hx_i : x12.toInt = (i : Int) := by rw [ex_i]; exact nI_toInt (by omega)
                                    have hc_i : x12.toNatClampNeg = i := by rw [ex_i]; exact nI_clamp (by omega)
                                    refine lv_iload hx hb dX9_stretch_106 (lv_at hl 0 rfl) ?_
                                    refine lv_iload hx hb dX9_stretch_108 (lv_at hl 11 rfl) ?_
                                    refine lv_icmp_ge (tgt := 188) hx hb dX9_stretch_110 (by decide) (fun c_37 => ?_) (fun c_37 => ?_)
                                    · skip
                                      have f_38 : ow.toInt ≤ (i : Int) := f_le rfl hx_i c_37
                                      obtain ⟨y_39, ey_39⟩ : ∃ y : Int32, y = x11 + 1 := ⟨_, rfl⟩
                                      refine lv_iinc (v := y_39) (lv' := [(11, .int y_39), (12, .int x12), (0, .ref h0), (1, .int k), (2, .int ax), (3, .int ay), (4, .int aw), (5, .int ah), (6, .int kq), (7, .int ox), (8, .int oy), (9, .int ow), (10, .int oh)]) hx hb dX9_stretch_188 hl (k := 1) rfl (by rw [ey_39]; rfl) (by decide) rfl (fun ls hl => ?_)
                                      refine lv_goto (tgt := 96) hx hb dX9_stretch_191 (by decide) ?_
                                      exact ih_31 (j + 1) y_39 gj gk gl _ _ _ (by omega) (by omega) (by rw [ey_39, ex_j]; exact nI_1 j) (by omega) (gl_nx hgi (by omega)) (hP.sub (ws' := [(m2, .inl (cI, 4, .inl gh)), (m3, .inl (cI, 16384, .inl gd)), (m5, .inl (cI, 4096, .inl gk)), (m6, .inl (cI, 4096, .inl gl)), (m1, .inl (cI, 4, .inl gw)), (h0, .inr (9, [.ref m1, .ref m2, .ref m3, .int ik, .int wy, .int op, .int cl, .int cx0, .int cx1, .int cy0, .int cy1, .int ds, .ref m4, .ref m5, .ref m6, .ref m7, .ref m8, .ref m9, .int pn, .ref m10, .ref m11, .ref m12, .ref m13])), (m4, .inl (cZ, 4096, .inl gj))]) [0, 1, 2, 3, 4, 5, 6] rfl) (hD.sub (ws' := [(m2, .inl (cI, 4, .inl gh)), (m3, .inl (cI, 16384, .inl gd)), (m5, .inl (cI, 4096, .inl gk)), (m6, .inl (cI, 4096, .inl gl)), (m1, .inl (cI, 4, .inl gw)), (h0, .inr (9, [.ref m1, .ref m2, .ref m3, .int ik, .int wy, .int op, .int cl, .int cx0, .int cx1, .int cy0, .int cy1, .int ds, .ref m4, .ref m5, .ref m6, .ref m7, .ref m8, .ref m9, .int pn, .ref m10, .ref m11, .ref m12, .ref m13])), (m4, .inl (cZ, 4096, .inl gj))]) [0, 1, 2, 3, 4, 5, 6] (by decide) rfl) hS (lv_sub hl [0, 2, 3, 4, 5, 6, 7, 8, 9, 10, 11, 12] rfl)
                                    · skip
                                      have f_38 : ¬ (ow.toInt ≤ (i : Int)) := fn_le rfl hx_i c_37
                                      refine lv_iload_n hx hb dX9_stretch_113 rfl (lv_at hl 4 rfl) ?_
                                      refine lv_iload hx hb dX9_stretch_114 (lv_at hl 0 rfl) ?_
                                      refine lv_iload hx hb dX9_stretch_116 (lv_at hl 6 rfl) ?_
                                      refine lv_imul hx hb dX9_stretch_118 ?_
                                      refine lv_topi (fun y_40 ey_40 => ?_)
                                      refine lv_iload hx hb dX9_stretch_119 (lv_at hl 11 rfl) ?_
                                      refine lv_idiv hx hb dX9_stretch_121 (ne0_of (by omega)) ?_
                                      refine lv_topi (fun y_41 ey_41 => ?_)
                                      refine lv_iadd hx hb dX9_stretch_122 ?_
                                      refine lv_topi (fun y_42 ey_42 => ?_)
                                      have hcyy_42 : y_42 = cyX ax aw ow i := by rw [ey_42, ey_41, ey_40, ex_i]; rfl
                                      refine lv_istore (lv' := [(13, .int y_42), (12, .int x12), (11, .int x11), (0, .ref h0), (1, .int k), (2, .int ax), (3, .int ay), (4, .int aw), (5, .int ah), (6, .int kq), (7, .int ox), (8, .int oy), (9, .int ow), (10, .int oh)]) hx hb dX9_stretch_123 hl (by decide) rfl (fun ls hl => ?_)
                                      refine lv_iload_n hx hb dX9_stretch_125 rfl (lv_at hl 6 rfl) ?_
                                      refine lv_iload hx hb dX9_stretch_126 (lv_at hl 2 rfl) ?_
                                      refine lv_iload hx hb dX9_stretch_128 (lv_at hl 8 rfl) ?_
                                      refine lv_imul hx hb dX9_stretch_130 ?_
                                      refine lv_topi (fun y_43 ey_43 => ?_)
                                      refine lv_iload hx hb dX9_stretch_131 (lv_at hl 13 rfl) ?_
                                      refine lv_idiv hx hb dX9_stretch_133 (ne0_of (by omega)) ?_
                                      refine lv_topi (fun y_44 ey_44 => ?_)
                                      refine lv_iadd hx hb dX9_stretch_134 ?_
                                      refine lv_topi (fun y_45 ey_45 => ?_)
                                      have hcyy_45 : y_45 = cyX ay ah oh j := by rw [ey_45, ey_44, ey_43, ex_j]; rfl
                                      refine lv_istore (lv' := [(14, .int y_45), (13, .int y_42), (12, .int x12), (11, .int x11), (0, .ref h0), (1, .int k), (2, .int ax), (3, .int ay), (4, .int aw), (5, .int ah), (6, .int kq), (7, .int ox), (8, .int oy), (9, .int ow), (10, .int oh)]) hx hb dX9_stretch_135 hl (by decide) rfl (fun ls hl => ?_)
                                      refine lv_aload_n hx hb dX9_stretch_137 rfl (lv_at hl 4 rfl) ?_
                                      refine lv_iload_n hx hb dX9_stretch_138 rfl (lv_at hl 5 rfl) ?_
                                      refine lv_iload hx hb dX9_stretch_139 (lv_at hl 1 rfl) ?_
                                      refine lv_iload hx hb dX9_stretch_141 (lv_at hl 0 rfl) ?_
                                      have hPc := hP.sub (ws' := [(h0, .inr (9, [.ref m1, .ref m2, .ref m3, .int ik, .int wy, .int op, .int cl, .int cx0, .int cx1, .int cy0, .int cy1, .int ds, .ref m4, .ref m5, .ref m6, .ref m7, .ref m8, .ref m9, .int pn, .ref m10, .ref m11, .ref m12, .ref m13])), (m1, .inl (cI, 4, .inl gw)), (m2, .inl (cI, 4, .inl gh))]) [5, 4, 0] rfl
                                      have hDc := hD.sub (ws' := [(h0, .inr (9, [.ref m1, .ref m2, .ref m3, .int ik, .int wy, .int op, .int cl, .int cx0, .int cx1, .int cy0, .int cy1, .int ds, .ref m4, .ref m5, .ref m6, .ref m7, .ref m8, .ref m9, .int pn, .ref m10, .ref m11, .ref m12, .ref m13])), (m1, .inl (cI, 4, .inl gw)), (m2, .inl (cI, 4, .inl gh))]) [5, 4, 0] (by decide) rfl
                                      have hKc := hK.sub (tys' := [(cI, .int)]) [0] rfl
                                      have hFc := va_free (wc := [(h0, .inr (9, [.ref m1, .ref m2, .ref m3, .int ik, .int wy, .int op, .int cl, .int cx0, .int cx1, .int cy0, .int cy1, .int ds, .ref m4, .ref m5, .ref m6, .ref m7, .ref m8, .ref m9, .int pn, .ref m10, .ref m11, .ref m12, .ref m13])), (m1, .inl (cI, 4, .inl gw)), (m2, .inl (cI, 4, .inl gh))]) hD hS hA [5, 4, 0] rfl
                                      refine va_calli (va_runV (As := [.int k, .int y_42, .int y_45]) (rest := []) ⟨hx, hb, hml, hown, hts⟩ (k_X9_isOn l D H.size h0 m1 m2 m3 m4 m5 m6 m7 m8 m9 m10 m11 m12 m13 ik wy op cl cx0 cx1 cy0 cy1 ds pn gw gh k y_42 y_45 cI (by omega)) (cwV 3 hts (gV bw_433 bw_418 bw_419 bw_391 bw_417) rfl rfl rfl (by decide +kernel) ⟨(by rw [hR]; exact Nat.le_of_ble_eq_true rfl), (by rw [hR]; exact Nat.le_of_ble_eq_true rfl)⟩) ⟨cP_blind, va_recv hKc hPc (ci := 9) (q0 := 0) rfl rfl, cP_at hPc hKc hDc hN⟩ rfl rfl hl.1 rfl (lv_room (Nat.le_of_ble_eq_true rfl)) dX9_stretch_143 ⟨(by rw [hR]; exact Nat.le_of_ble_eq_true rfl), (by rw [hR]; exact Nat.le_of_ble_eq_true rfl)⟩) hS (fun q _ h => hFc q h) hFc (fun r_46 u9 t9 H1 locs ht hvm hr_46 hB hz1 hk1 hS => ?_)
                                      try dsimp only at hr_46
                                      obtain ⟨hP1, hK1, hD1⟩ := hB
                                      rw [ht] at hP1
                                      obtain ⟨hP, hD⟩ := va_join (wr := [(m3, .inl (cI, 16384, .inl gd)), (m5, .inl (cI, 4096, .inl gk)), (m6, .inl (cI, 4096, .inl gl)), (m4, .inl (cZ, 4096, .inl gj))]) (w1 := [(h0, .inr (9, [.ref m1, .ref m2, .ref m3, .int ik, .int wy, .int op, .int cl, .int cx0, .int cx1, .int cy0, .int cy1, .int ds, .ref m4, .ref m5, .ref m6, .ref m7, .ref m8, .ref m9, .int pn, .ref m10, .ref m11, .ref m12, .ref m13])), (m1, .inl (cI, 4, .inl gw)), (m2, .inl (cI, 4, .inl gh))]) hP hD [5, 4, 0] [1, 2, 3, 6] rfl rfl (by decide) (by decide) hk1 hFc hP1 hD1
                                      clear hz1 hk1 hFc hKc hDc hPc
                                      generalize H1 = H at hP hS ⊢
                                      have hP : va_P D vwCl [(m3, .inl (cI, 16384, .inl gd)), (m5, .inl (cI, 4096, .inl gk)), (m6, .inl (cI, 4096, .inl gl)), (m4, .inl (cZ, 4096, .inl gj)), (h0, .inr (9, [.ref m1, .ref m2, .ref m3, .int ik, .int wy, .int op, .int cl, .int cx0, .int cx1, .int cy0, .int cy1, .int ds, .ref m4, .ref m5, .ref m6, .ref m7, .ref m8, .ref m9, .int pn, .ref m10, .ref m11, .ref m12, .ref m13])), (m1, .inl (cI, 4, .inl gw)), (m2, .inl (cI, 4, .inl gh))] H := hP
                                      have hD : va_D A [(m3, .inl (cI, 16384, .inl gd)), (m5, .inl (cI, 4096, .inl gk)), (m6, .inl (cI, 4096, .inl gl)), (m4, .inl (cZ, 4096, .inl gj)), (h0, .inr (9, [.ref m1, .ref m2, .ref m3, .int ik, .int wy, .int op, .int cl, .int cx0, .int cx1, .int cy0, .int cy1, .int ds, .ref m4, .ref m5, .ref m6, .ref m7, .ref m8, .ref m9, .int pn, .ref m10, .ref m11, .ref m12, .ref m13])), (m1, .inl (cI, 4, .inl gw)), (m2, .inl (cI, 4, .inl gh))] := hD
                                      refine lv_if_eq (tgt := 182) hx hb dX9_stretch_146 (by decide) (fun c_47 => ?_) (fun c_47 => ?_)
                                      · skip
                                        have f_48 := bz0 hr_46 c_47
                                        obtain ⟨y_49, ey_49⟩ : ∃ y : Int32, y = x12 + 1 := ⟨_, rfl⟩
                                        refine lv_iinc (v := y_49) (lv' := [(12, .int y_49), (14, .int y_45), (13, .int y_42), (11, .int x11), (0, .ref h0), (1, .int k), (2, .int ax), (3, .int ay), (4, .int aw), (5, .int ah), (6, .int kq), (7, .int ox), (8, .int oy), (9, .int ow), (10, .int oh)]) hx hb dX9_stretch_182 hl (k := 2) rfl (by rw [ey_49]; rfl) (by decide) rfl (fun ls hl => ?_)
                                        refine lv_goto (tgt := 106) hx hb dX9_stretch_185 (by decide) ?_
                                        exact ih_36 (i + 1) y_49 gj gk gl _ _ _ (by omega) (by omega) (by rw [ey_49, ex_i]; exact nI_1 i) (by omega) (by rw [show gR (cyQ ax ay aw ah ox oy ow oh (gw k.toNatClampNeg) (gh k.toNatClampNeg) op (fun t => gd (4096 * k.toNatClampNeg + t))) j (i + 1) = gR (cyQ ax ay aw ah ox oy ow oh (gw k.toNatClampNeg) (gh k.toNatClampNeg) op (fun t => gd (4096 * k.toNatClampNeg + t))) j i ++ [] from congrArg (gR (cyQ ax ay aw ah ox oy ow oh (gw k.toNatClampNeg) (gh k.toNatClampNeg) op (fun t => gd (4096 * k.toNatClampNeg + t))) j i ++ ·) (show (cyQ ax ay aw ah ox oy ow oh (gw k.toNatClampNeg) (gh k.toNatClampNeg) op (fun t => gd (4096 * k.toNatClampNeg + t))) j i = [] from if_neg (by rw [← hcyy_42, ← hcyy_45]; exact f_48)), List.append_nil]; exact hgi) (hP.sub (ws' := [(m2, .inl (cI, 4, .inl gh)), (m3, .inl (cI, 16384, .inl gd)), (m5, .inl (cI, 4096, .inl gk)), (m6, .inl (cI, 4096, .inl gl)), (m1, .inl (cI, 4, .inl gw)), (h0, .inr (9, [.ref m1, .ref m2, .ref m3, .int ik, .int wy, .int op, .int cl, .int cx0, .int cx1, .int cy0, .int cy1, .int ds, .ref m4, .ref m5, .ref m6, .ref m7, .ref m8, .ref m9, .int pn, .ref m10, .ref m11, .ref m12, .ref m13])), (m4, .inl (cZ, 4096, .inl gj))]) [6, 0, 1, 2, 5, 4, 3] rfl) (hD.sub (ws' := [(m2, .inl (cI, 4, .inl gh)), (m3, .inl (cI, 16384, .inl gd)), (m5, .inl (cI, 4096, .inl gk)), (m6, .inl (cI, 4096, .inl gl)), (m1, .inl (cI, 4, .inl gw)), (h0, .inr (9, [.ref m1, .ref m2, .ref m3, .int ik, .int wy, .int op, .int cl, .int cx0, .int cx1, .int cy0, .int cy1, .int ds, .ref m4, .ref m5, .ref m6, .ref m7, .ref m8, .ref m9, .int pn, .ref m10, .ref m11, .ref m12, .ref m13])), (m4, .inl (cZ, 4096, .inl gj))]) [6, 0, 1, 2, 5, 4, 3] (by decide) rfl) hS (lv_sub hl [0, 3, 4, 5, 6, 7, 8, 9, 10, 11, 12, 13, 14] rfl)
                                      · skip
                                        have f_48 := bz1 hr_46 c_47
                                        refine lv_aload_n hx hb dX9_stretch_149 rfl (lv_at hl 4 rfl) ?_
                                        refine lv_iload hx hb dX9_stretch_150 (lv_at hl 10 rfl) ?_
                                        refine lv_iload hx hb dX9_stretch_152 (lv_at hl 11 rfl) ?_
                                        refine lv_iload hx hb dX9_stretch_154 (lv_at hl 2 rfl) ?_
                                        refine lv_iadd hx hb dX9_stretch_156 ?_
                                        refine lv_topi (fun y_50 ey_50 => ?_)
                                        have hply_50 : y_50 = ox + nI i := by rw [ey_50, ex_i]
                                        refine lv_iload hx hb dX9_stretch_157 (lv_at hl 12 rfl) ?_
                                        refine lv_iload hx hb dX9_stretch_159 (lv_at hl 3 rfl) ?_
                                        refine lv_iadd hx hb dX9_stretch_161 ?_
                                        refine lv_topi (fun y_51 ey_51 => ?_)
                                        have hply_51 : y_51 = oy + nI j := by rw [ey_51, ex_j]
                                        refine lv_aload_n hx hb dX9_stretch_162 rfl (lv_at hl 4 rfl) ?_
                                        refine va_get (D := D) (ci := 9) (v := .ref m3) (C := RX9) (T := TX9) (N := 23) hx hb hts hi_X9 hown hK hP 4 rfl rfl 2 (by decide) (hts _ bw_398) (fun _ h9 => h9) rfl dX9_stretch_163 ?_
                                        refine lv_iload_n hx hb dX9_stretch_166 rfl (lv_at hl 5 rfl) ?_
                                        refine lv_iload hx hb dX9_stretch_167 (lv_at hl 1 rfl) ?_
                                        refine lv_iload hx hb dX9_stretch_169 (lv_at hl 0 rfl) ?_
                                        have hPc := hP.sub (ws' := []) [] rfl
                                        have hDc := hD.sub (ws' := []) [] (by decide) rfl
                                        have hKc := hK.sub (tys' := []) [] rfl
                                        have hFc := va_free (wc := []) hD hS hA [] rfl
                                        refine va_calli (va_runS (As := [.int k, .int y_42, .int y_45]) (rest := [.ref m3, .int y_51, .int y_50, .int kq, .ref h0]) ⟨hx, hb, hml, hown, hts⟩ (k_X9_spot l D H.size k y_42 y_45) (va_cwS 3 hts (gS bw_551 bw_421 bw_391 bw_420) rfl rfl rfl (by decide +kernel) ⟨(by rw [hR]; exact Nat.le_of_ble_eq_true rfl), (by rw [hR]; exact Nat.le_of_ble_eq_true rfl)⟩) ⟨cP_blind, cP_at hPc hKc hDc hN⟩ rfl rfl hl.1 rfl (lv_room (Nat.le_of_ble_eq_true rfl)) dX9_stretch_171 ⟨(by rw [hR]; exact Nat.le_of_ble_eq_true rfl), (by rw [hR]; exact Nat.le_of_ble_eq_true rfl)⟩) hS (fun q _ h => hFc q h) hFc (fun r_52 u9 t9 H1 locs ht hvm hr_52 hB hz1 hk1 hS => ?_)
                                        try dsimp only at hr_52
                                        have hP1 : va_P D vwCl [] H1 := vP_nil
                                        have hD1 : va_D (va_A [] H.size) [] := vD_nil
                                        obtain ⟨hP, hD⟩ := va_join (wr := [(m3, .inl (cI, 16384, .inl gd)), (m5, .inl (cI, 4096, .inl gk)), (m6, .inl (cI, 4096, .inl gl)), (m4, .inl (cZ, 4096, .inl gj)), (h0, .inr (9, [.ref m1, .ref m2, .ref m3, .int ik, .int wy, .int op, .int cl, .int cx0, .int cx1, .int cy0, .int cy1, .int ds, .ref m4, .ref m5, .ref m6, .ref m7, .ref m8, .ref m9, .int pn, .ref m10, .ref m11, .ref m12, .ref m13])), (m1, .inl (cI, 4, .inl gw)), (m2, .inl (cI, 4, .inl gh))]) (w1 := []) hP hD [] [0, 1, 2, 3, 4, 5, 6] rfl rfl (by decide) (by decide) hk1 hFc hP1 hD1
                                        clear hz1 hk1 hFc hKc hDc hPc
                                        generalize H1 = H at hP hS ⊢
                                        have hP : va_P D vwCl [(m3, .inl (cI, 16384, .inl gd)), (m5, .inl (cI, 4096, .inl gk)), (m6, .inl (cI, 4096, .inl gl)), (m4, .inl (cZ, 4096, .inl gj)), (h0, .inr (9, [.ref m1, .ref m2, .ref m3, .int ik, .int wy, .int op, .int cl, .int cx0, .int cx1, .int cy0, .int cy1, .int ds, .ref m4, .ref m5, .ref m6, .ref m7, .ref m8, .ref m9, .int pn, .ref m10, .ref m11, .ref m12, .ref m13])), (m1, .inl (cI, 4, .inl gw)), (m2, .inl (cI, 4, .inl gh))] H := hP
                                        have hD : va_D A [(m3, .inl (cI, 16384, .inl gd)), (m5, .inl (cI, 4096, .inl gk)), (m6, .inl (cI, 4096, .inl gl)), (m4, .inl (cZ, 4096, .inl gj)), (h0, .inr (9, [.ref m1, .ref m2, .ref m3, .int ik, .int wy, .int op, .int cl, .int cx0, .int cx1, .int cy0, .int cy1, .int ds, .ref m4, .ref m5, .ref m6, .ref m7, .ref m8, .ref m9, .int pn, .ref m10, .ref m11, .ref m12, .ref m13])), (m1, .inl (cI, 4, .inl gw)), (m2, .inl (cI, 4, .inl gh))] := hD
                                        refine va_iald hx hb hK hP 0 0 rfl rfl (by rw [hr_52]; exact sp_in (by omega) (by omega) (by omega) (by omega) (by omega) (by omega)) dX9_stretch_174 ?_
                                        refine my_fold (v := gd (4096 * k.toNatClampNeg + ixP y_42 y_45)) (congrArg gd (by rw [hr_52]; exact sp_cl (by omega) (by omega) (by omega) (by omega) (by omega) (by omega))) ?_
                                        refine lv_aload_n hx hb dX9_stretch_175 rfl (lv_at hl 4 rfl) ?_
                                        refine va_get (D := D) (ci := 9) (v := .int op) (C := RX9) (T := TX9) (N := 23) hx hb hts hi_X9 hown hK hP 4 rfl rfl 5 (by decide) (hts _ bw_401) (fun _ h9 => h9) rfl dX9_stretch_176 ?_
                                        have hPc := hP.sub (ws' := [(h0, .inr (9, [.ref m1, .ref m2, .ref m3, .int ik, .int wy, .int op, .int cl, .int cx0, .int cx1, .int cy0, .int cy1, .int ds, .ref m4, .ref m5, .ref m6, .ref m7, .ref m8, .ref m9, .int pn, .ref m10, .ref m11, .ref m12, .ref m13])), (m1, .inl (cI, 4, .inl gw)), (m2, .inl (cI, 4, .inl gh)), (m4, .inl (cZ, 4096, .inl gj)), (m5, .inl (cI, 4096, .inl gk)), (m6, .inl (cI, 4096, .inl gl))]) [4, 5, 6, 3, 1, 2] rfl
                                        have hDc := hD.sub (ws' := [(h0, .inr (9, [.ref m1, .ref m2, .ref m3, .int ik, .int wy, .int op, .int cl, .int cx0, .int cx1, .int cy0, .int cy1, .int ds, .ref m4, .ref m5, .ref m6, .ref m7, .ref m8, .ref m9, .int pn, .ref m10, .ref m11, .ref m12, .ref m13])), (m1, .inl (cI, 4, .inl gw)), (m2, .inl (cI, 4, .inl gh)), (m4, .inl (cZ, 4096, .inl gj)), (m5, .inl (cI, 4096, .inl gk)), (m6, .inl (cI, 4096, .inl gl))]) [4, 5, 6, 3, 1, 2] (by decide) rfl
                                        have hKc := hK.sub (tys' := [(cI, .int), (cZ, .boolean)]) [0, 1] rfl
                                        have hFc := va_free (wc := [(h0, .inr (9, [.ref m1, .ref m2, .ref m3, .int ik, .int wy, .int op, .int cl, .int cx0, .int cx1, .int cy0, .int cy1, .int ds, .ref m4, .ref m5, .ref m6, .ref m7, .ref m8, .ref m9, .int pn, .ref m10, .ref m11, .ref m12, .ref m13])), (m1, .inl (cI, 4, .inl gw)), (m2, .inl (cI, 4, .inl gh)), (m4, .inl (cZ, 4096, .inl gj)), (m5, .inl (cI, 4096, .inl gk)), (m6, .inl (cI, 4096, .inl gl))]) hD hS hA [4, 5, 6, 3, 1, 2] rfl
                                        refine va_callv (va_runV (As := [.int kq, .int y_50, .int y_51, .int (gd (4096 * k.toNatClampNeg + ixP y_42 y_45)), .int op]) (rest := []) ⟨hx, hb, hml, hown, hts⟩ (k_X9_marks l D H.size h0 m1 m2 m3 m4 m5 m6 m7 m8 m9 m10 m11 m12 m13 ik wy op cl cx0 cx1 cy0 cy1 ds pn gw gh gj gk gl kq y_50 y_51 (gd (4096 * k.toNatClampNeg + ixP y_42 y_45)) op cI cZ (by omega) (by omega) (by omega)) (cwV 5 hts (gV bw_495 bw_458 bw_459 bw_391 bw_457) rfl rfl rfl (by decide +kernel) ⟨(by rw [hR]; exact Nat.le_of_ble_eq_true rfl), (by rw [hR]; exact Nat.le_of_ble_eq_true rfl)⟩) ⟨cP_blind, va_recv hKc hPc (ci := 9) (q0 := 0) rfl rfl, cP_at hPc hKc hDc hN⟩ rfl rfl hl.1 rfl (lv_room (Nat.le_of_ble_eq_true rfl)) dX9_stretch_179 ⟨(by rw [hR]; exact Nat.le_of_ble_eq_true rfl), (by rw [hR]; exact Nat.le_of_ble_eq_true rfl)⟩) hS (fun q _ h => hFc q h) hFc (fun u9 t9 H1 locs ht hvm hr_53 hB hz1 hk1 hS => ?_)
                                        try dsimp only at hr_53
                                        obtain ⟨hP1, hK1, hD1⟩ := hB
                                        rw [ht] at hP1
                                        obtain ⟨hP, hD⟩ := va_join (wr := [(m3, .inl (cI, 16384, .inl gd))]) (w1 := [(h0, .inr (9, [.ref m1, .ref m2, .ref m3, .int ik, .int wy, .int op, .int cl, .int cx0, .int cx1, .int cy0, .int cy1, .int ds, .ref m4, .ref m5, .ref m6, .ref m7, .ref m8, .ref m9, .int pn, .ref m10, .ref m11, .ref m12, .ref m13])), (m1, .inl (cI, 4, .inl gw)), (m2, .inl (cI, 4, .inl gh)), (m4, .inl (cZ, 4096, .inl (if (0 ≤ y_50.toInt ∧ y_50.toInt < (gw kq.toNatClampNeg).toInt ∧ 0 ≤ y_51.toInt ∧ y_51.toInt < (gh kq.toNatClampNeg).toInt) ∧ (cl.toInt = 0 ∨ (cx0.toInt ≤ y_50.toInt ∧ y_50.toInt ≤ cx1.toInt ∧ cy0.toInt ≤ y_51.toInt ∧ y_51.toInt ≤ cy1.toInt)) then upd gj (ixP y_50 y_51) 1 else gj))), (m5, .inl (cI, 4096, .inl (if (0 ≤ y_50.toInt ∧ y_50.toInt < (gw kq.toNatClampNeg).toInt ∧ 0 ≤ y_51.toInt ∧ y_51.toInt < (gh kq.toNatClampNeg).toInt) ∧ (cl.toInt = 0 ∨ (cx0.toInt ≤ y_50.toInt ∧ y_50.toInt ≤ cx1.toInt ∧ cy0.toInt ≤ y_51.toInt ∧ y_51.toInt ≤ cy1.toInt)) then upd gk (ixP y_50 y_51) op else gk))), (m6, .inl (cI, 4096, .inl (if (0 ≤ y_50.toInt ∧ y_50.toInt < (gw kq.toNatClampNeg).toInt ∧ 0 ≤ y_51.toInt ∧ y_51.toInt < (gh kq.toNatClampNeg).toInt) ∧ (cl.toInt = 0 ∨ (cx0.toInt ≤ y_50.toInt ∧ y_50.toInt ≤ cx1.toInt ∧ cy0.toInt ≤ y_51.toInt ∧ y_51.toInt ≤ cy1.toInt)) then upd gl (ixP y_50 y_51) (gd (4096 * k.toNatClampNeg + ixP y_42 y_45)) else gl)))]) hP hD [4, 5, 6, 3, 1, 2] [0] rfl rfl (by decide) (by decide) hk1 hFc hP1 hD1
                                        clear hz1 hk1 hFc hKc hDc hPc
                                        generalize H1 = H at hP hS ⊢
                                        have hP : va_P D vwCl [(m3, .inl (cI, 16384, .inl gd)), (h0, .inr (9, [.ref m1, .ref m2, .ref m3, .int ik, .int wy, .int op, .int cl, .int cx0, .int cx1, .int cy0, .int cy1, .int ds, .ref m4, .ref m5, .ref m6, .ref m7, .ref m8, .ref m9, .int pn, .ref m10, .ref m11, .ref m12, .ref m13])), (m1, .inl (cI, 4, .inl gw)), (m2, .inl (cI, 4, .inl gh)), (m4, .inl (cZ, 4096, .inl (if (0 ≤ y_50.toInt ∧ y_50.toInt < (gw kq.toNatClampNeg).toInt ∧ 0 ≤ y_51.toInt ∧ y_51.toInt < (gh kq.toNatClampNeg).toInt) ∧ (cl.toInt = 0 ∨ (cx0.toInt ≤ y_50.toInt ∧ y_50.toInt ≤ cx1.toInt ∧ cy0.toInt ≤ y_51.toInt ∧ y_51.toInt ≤ cy1.toInt)) then upd gj (ixP y_50 y_51) 1 else gj))), (m5, .inl (cI, 4096, .inl (if (0 ≤ y_50.toInt ∧ y_50.toInt < (gw kq.toNatClampNeg).toInt ∧ 0 ≤ y_51.toInt ∧ y_51.toInt < (gh kq.toNatClampNeg).toInt) ∧ (cl.toInt = 0 ∨ (cx0.toInt ≤ y_50.toInt ∧ y_50.toInt ≤ cx1.toInt ∧ cy0.toInt ≤ y_51.toInt ∧ y_51.toInt ≤ cy1.toInt)) then upd gk (ixP y_50 y_51) op else gk))), (m6, .inl (cI, 4096, .inl (if (0 ≤ y_50.toInt ∧ y_50.toInt < (gw kq.toNatClampNeg).toInt ∧ 0 ≤ y_51.toInt ∧ y_51.toInt < (gh kq.toNatClampNeg).toInt) ∧ (cl.toInt = 0 ∨ (cx0.toInt ≤ y_50.toInt ∧ y_50.toInt ≤ cx1.toInt ∧ cy0.toInt ≤ y_51.toInt ∧ y_51.toInt ≤ cy1.toInt)) then upd gl (ixP y_50 y_51) (gd (4096 * k.toNatClampNeg + ixP y_42 y_45)) else gl)))] H := hP
                                        have hD : va_D A [(m3, .inl (cI, 16384, .inl gd)), (h0, .inr (9, [.ref m1, .ref m2, .ref m3, .int ik, .int wy, .int op, .int cl, .int cx0, .int cx1, .int cy0, .int cy1, .int ds, .ref m4, .ref m5, .ref m6, .ref m7, .ref m8, .ref m9, .int pn, .ref m10, .ref m11, .ref m12, .ref m13])), (m1, .inl (cI, 4, .inl gw)), (m2, .inl (cI, 4, .inl gh)), (m4, .inl (cZ, 4096, .inl (if (0 ≤ y_50.toInt ∧ y_50.toInt < (gw kq.toNatClampNeg).toInt ∧ 0 ≤ y_51.toInt ∧ y_51.toInt < (gh kq.toNatClampNeg).toInt) ∧ (cl.toInt = 0 ∨ (cx0.toInt ≤ y_50.toInt ∧ y_50.toInt ≤ cx1.toInt ∧ cy0.toInt ≤ y_51.toInt ∧ y_51.toInt ≤ cy1.toInt)) then upd gj (ixP y_50 y_51) 1 else gj))), (m5, .inl (cI, 4096, .inl (if (0 ≤ y_50.toInt ∧ y_50.toInt < (gw kq.toNatClampNeg).toInt ∧ 0 ≤ y_51.toInt ∧ y_51.toInt < (gh kq.toNatClampNeg).toInt) ∧ (cl.toInt = 0 ∨ (cx0.toInt ≤ y_50.toInt ∧ y_50.toInt ≤ cx1.toInt ∧ cy0.toInt ≤ y_51.toInt ∧ y_51.toInt ≤ cy1.toInt)) then upd gk (ixP y_50 y_51) op else gk))), (m6, .inl (cI, 4096, .inl (if (0 ≤ y_50.toInt ∧ y_50.toInt < (gw kq.toNatClampNeg).toInt ∧ 0 ≤ y_51.toInt ∧ y_51.toInt < (gh kq.toNatClampNeg).toInt) ∧ (cl.toInt = 0 ∨ (cx0.toInt ≤ y_50.toInt ∧ y_50.toInt ≤ cx1.toInt ∧ cy0.toInt ≤ y_51.toInt ∧ y_51.toInt ≤ cy1.toInt)) then upd gl (ixP y_50 y_51) (gd (4096 * k.toNatClampNeg + ixP y_42 y_45)) else gl)))] := hD
                                        generalize eg_54 : (if (0 ≤ y_50.toInt ∧ y_50.toInt < (gw kq.toNatClampNeg).toInt ∧ 0 ≤ y_51.toInt ∧ y_51.toInt < (gh kq.toNatClampNeg).toInt) ∧ (cl.toInt = 0 ∨ (cx0.toInt ≤ y_50.toInt ∧ y_50.toInt ≤ cx1.toInt ∧ cy0.toInt ≤ y_51.toInt ∧ y_51.toInt ≤ cy1.toInt)) then upd gj (ixP y_50 y_51) 1 else gj) = g_54 at hP hD
                                        generalize eg_55 : (if (0 ≤ y_50.toInt ∧ y_50.toInt < (gw kq.toNatClampNeg).toInt ∧ 0 ≤ y_51.toInt ∧ y_51.toInt < (gh kq.toNatClampNeg).toInt) ∧ (cl.toInt = 0 ∨ (cx0.toInt ≤ y_50.toInt ∧ y_50.toInt ≤ cx1.toInt ∧ cy0.toInt ≤ y_51.toInt ∧ y_51.toInt ≤ cy1.toInt)) then upd gk (ixP y_50 y_51) op else gk) = g_55 at hP hD
                                        generalize eg_56 : (if (0 ≤ y_50.toInt ∧ y_50.toInt < (gw kq.toNatClampNeg).toInt ∧ 0 ≤ y_51.toInt ∧ y_51.toInt < (gh kq.toNatClampNeg).toInt) ∧ (cl.toInt = 0 ∨ (cx0.toInt ≤ y_50.toInt ∧ y_50.toInt ≤ cx1.toInt ∧ cy0.toInt ≤ y_51.toInt ∧ y_51.toInt ≤ cy1.toInt)) then upd gl (ixP y_50 y_51) (gd (4096 * k.toNatClampNeg + ixP y_42 y_45)) else gl) = g_56 at hP hD
                                        have hP : va_P D vwCl [(m3, .inl (cI, 16384, .inl gd)), (h0, .inr (9, [.ref m1, .ref m2, .ref m3, .int ik, .int wy, .int op, .int cl, .int cx0, .int cx1, .int cy0, .int cy1, .int ds, .ref m4, .ref m5, .ref m6, .ref m7, .ref m8, .ref m9, .int pn, .ref m10, .ref m11, .ref m12, .ref m13])), (m1, .inl (cI, 4, .inl gw)), (m2, .inl (cI, 4, .inl gh)), (m4, .inl (cZ, 4096, .inl g_54)), (m5, .inl (cI, 4096, .inl g_55)), (m6, .inl (cI, 4096, .inl g_56))] H := hP
                                        have hD : va_D A [(m3, .inl (cI, 16384, .inl gd)), (h0, .inr (9, [.ref m1, .ref m2, .ref m3, .int ik, .int wy, .int op, .int cl, .int cx0, .int cx1, .int cy0, .int cy1, .int ds, .ref m4, .ref m5, .ref m6, .ref m7, .ref m8, .ref m9, .int pn, .ref m10, .ref m11, .ref m12, .ref m13])), (m1, .inl (cI, 4, .inl gw)), (m2, .inl (cI, 4, .inl gh)), (m4, .inl (cZ, 4096, .inl g_54)), (m5, .inl (cI, 4096, .inl g_55)), (m6, .inl (cI, 4096, .inl g_56))] := hD
                                        have hM : ((g_54, g_55, g_56) : M3) = (mkF (gw kq.toNatClampNeg) (gh kq.toNatClampNeg) cl cx0 cx1 cy0 cy1) (gj, gk, gl) (y_50, y_51, (gd (4096 * k.toNatClampNeg + ixP y_42 y_45)), op) := by rw [← eg_54, ← eg_55, ← eg_56]; rfl
                                        obtain ⟨y_57, ey_57⟩ : ∃ y : Int32, y = x12 + 1 := ⟨_, rfl⟩
                                        refine lv_iinc (v := y_57) (lv' := [(12, .int y_57), (14, .int y_45), (13, .int y_42), (11, .int x11), (0, .ref h0), (1, .int k), (2, .int ax), (3, .int ay), (4, .int aw), (5, .int ah), (6, .int kq), (7, .int ox), (8, .int oy), (9, .int ow), (10, .int oh)]) hx hb dX9_stretch_182 hl (k := 2) rfl (by rw [ey_57]; rfl) (by decide) rfl (fun ls hl => ?_)
                                        refine lv_goto (tgt := 106) hx hb dX9_stretch_185 (by decide) ?_
                                        exact ih_36 (i + 1) y_57 g_54 g_55 g_56 _ _ _ (by omega) (by omega) (by rw [ey_57, ex_i]; exact nI_1 i) (by omega) (by rw [show gR (cyQ ax ay aw ah ox oy ow oh (gw k.toNatClampNeg) (gh k.toNatClampNeg) op (fun t => gd (4096 * k.toNatClampNeg + t))) j (i + 1) = gR (cyQ ax ay aw ah ox oy ow oh (gw k.toNatClampNeg) (gh k.toNatClampNeg) op (fun t => gd (4096 * k.toNatClampNeg + t))) j i ++ [(y_50, y_51, gd (4096 * k.toNatClampNeg + ixP y_42 y_45), op)] from congrArg (gR (cyQ ax ay aw ah ox oy ow oh (gw k.toNatClampNeg) (gh k.toNatClampNeg) op (fun t => gd (4096 * k.toNatClampNeg + t))) j i ++ ·) (show (cyQ ax ay aw ah ox oy ow oh (gw k.toNatClampNeg) (gh k.toNatClampNeg) op (fun t => gd (4096 * k.toNatClampNeg + t))) j i = [(y_50, y_51, gd (4096 * k.toNatClampNeg + ixP y_42 y_45), op)] by unfold cyQ; rw [if_pos (by rw [← hcyy_42, ← hcyy_45]; exact f_48), ← hcyy_42, ← hcyy_45, ← hply_50, ← hply_51]), ← List.append_assoc, List.foldl_append, ← hgi]; exact hM) (hP.sub (ws' := [(m2, .inl (cI, 4, .inl gh)), (m3, .inl (cI, 16384, .inl gd)), (m5, .inl (cI, 4096, .inl g_55)), (m6, .inl (cI, 4096, .inl g_56)), (m1, .inl (cI, 4, .inl gw)), (h0, .inr (9, [.ref m1, .ref m2, .ref m3, .int ik, .int wy, .int op, .int cl, .int cx0, .int cx1, .int cy0, .int cy1, .int ds, .ref m4, .ref m5, .ref m6, .ref m7, .ref m8, .ref m9, .int pn, .ref m10, .ref m11, .ref m12, .ref m13])), (m4, .inl (cZ, 4096, .inl g_54))]) [3, 0, 5, 6, 2, 1, 4] rfl) (hD.sub (ws' := [(m2, .inl (cI, 4, .inl gh)), (m3, .inl (cI, 16384, .inl gd)), (m5, .inl (cI, 4096, .inl g_55)), (m6, .inl (cI, 4096, .inl g_56)), (m1, .inl (cI, 4, .inl gw)), (h0, .inr (9, [.ref m1, .ref m2, .ref m3, .int ik, .int wy, .int op, .int cl, .int cx0, .int cx1, .int cy0, .int cy1, .int ds, .ref m4, .ref m5, .ref m6, .ref m7, .ref m8, .ref m9, .int pn, .ref m10, .ref m11, .ref m12, .ref m13])), (m4, .inl (cZ, 4096, .inl g_54))]) [3, 0, 5, 6, 2, 1, 4] (by decide) rfl) hS (lv_sub hl [0, 3, 4, 5, 6, 7, 8, 9, 10, 11, 12, 13, 14] rfl)
                                exact loop_35 (64 + 1) 0 0 ga gb gc _ _ _ (by omega) (by omega) nI_0.symm (by omega) (by rw [show gR (cyQ ax ay aw ah ox oy ow oh (gw k.toNatClampNeg) (gh k.toNatClampNeg) op (fun t => gd (4096 * k.toNatClampNeg + t))) j 0 = [] from rfl, List.append_nil]; exact hgo) hP hD hS (lv_sub hl [0, 1, 2, 3, 4, 5, 6, 7, 8, 9, 10, 11, 12] rfl)
                          exact loop_30 (64 + 1) 0 0 (zrN gm 4096) ge gv _ _ _ (by omega) (by omega) nI_0.symm (by omega) rfl hP hD hS (lv_sub hl [0, 1, 2, 3, 4, 5, 6, 7, 8, 9, 10, 11] rfl)
                        · skip
                          have f_28 := bz0 hr_26 c_27
                          exact False.elim (by omega)

set_option maxHeartbeats 4000000 in
set_option maxRecDepth 100000 in
theorem k_X9_stretch_re (l : Launch) (D : va_G) (sz : Nat) (h0 m1 m2 m3 m4 m5 m6 m7 m8 m9 m10 m11 m12 m13 : Nat) (ik wy op cl cx0 cx1 cy0 cy1 ds pn : Int32) (gw : Nat → Int32) (k ax ay aw ah kq ox oy ow oh : Int32) (cI : ClassId) (hcd : ¬ (((0 ≤ k.toInt ∧ k.toInt ≤ 3 ∧ 0 < (gw k.toNatClampNeg).toInt) ∧ (0 ≤ kq.toInt ∧ kq.toInt ≤ 3 ∧ 0 < (gw kq.toNatClampNeg).toInt)) ∧ ((1 ≤ aw.toInt ∧ aw.toInt ≤ 64) ∧ (1 ≤ ah.toInt ∧ ah.toInt ≤ 64) ∧ (1 ≤ ow.toInt ∧ ow.toInt ≤ 64) ∧ (1 ≤ oh.toInt ∧ oh.toInt ≤ 64)) ∧ ((-200 ≤ ax.toInt ∧ ax.toInt ≤ 200) ∧ (-200 ≤ ay.toInt ∧ ay.toInt ≤ 200) ∧ (-200 ≤ ox.toInt ∧ ox.toInt ≤ 200) ∧ (-200 ≤ oy.toInt ∧ oy.toInt ≤ 200)))) : Met l yX9_stretch (wB yX9_stretch cX9_stretch 15 (some .int)) ({ frames := 2, cells := 0, slots := 0, locals := 42 }) (cP D [(h0, .inr (9, [.ref m1, .ref m2, .ref m3, .int ik, .int wy, .int op, .int cl, .int cx0, .int cx1, .int cy0, .int cy1, .int ds, .ref m4, .ref m5, .ref m6, .ref m7, .ref m8, .ref m9, .int pn, .ref m10, .ref m11, .ref m12, .ref m13])), (m1, .inl (cI, 4, .inl gw))] [(cI, .int)] sz [.ref h0, .int k, .int ax, .int ay, .int aw, .int ah, .int kq, .int ox, .int oy, .int ow, .int oh]) (va_Qi (fun (r : Int32) (_ : Unit) => r = -1) (fun (_ : Unit) (t : State) => cB D (va_A [(h0, .inr (9, [.ref m1, .ref m2, .ref m3, .int ik, .int wy, .int op, .int cl, .int cx0, .int cx1, .int cy0, .int cy1, .int ds, .ref m4, .ref m5, .ref m6, .ref m7, .ref m8, .ref m9, .int pn, .ref m10, .ref m11, .ref m12, .ref m13])), (m1, .inl (cI, 4, .inl gw))] sz) [(h0, .inr (9, [.ref m1, .ref m2, .ref m3, .int ik, .int wy, .int op, .int cl, .int cx0, .int cx1, .int cy0, .int cy1, .int ds, .ref m4, .ref m5, .ref m6, .ref m7, .ref m8, .ref m9, .int pn, .ref m10, .ref m11, .ref m12, .ref m13])), (m1, .inl (cI, 4, .inl gw))] [(cI, .int)] t) (va_A [(h0, .inr (9, [.ref m1, .ref m2, .ref m3, .int ik, .int wy, .int op, .int cl, .int cx0, .int cx1, .int cy0, .int cy1, .int ds, .ref m4, .ref m5, .ref m6, .ref m7, .ref m8, .ref m9, .int pn, .ref m10, .ref m11, .ref m12, .ref m13])), (m1, .inl (cI, 4, .inl gw))] sz)) 0 0 (va_A [(h0, .inr (9, [.ref m1, .ref m2, .ref m3, .int ik, .int wy, .int op, .int cl, .int cx0, .int cx1, .int cy0, .int cy1, .int ds, .ref m4, .ref m5, .ref m6, .ref m7, .ref m8, .ref m9, .int pn, .ref m10, .ref m11, .ref m12, .ref m13])), (m1, .inl (cI, 4, .inl gw))] sz) := by
  refine Met.ofW (cc := cX9_stretch) (maxL := 15) (ret := (some .int)) (by decide) rfl ?_
  intro p e s m args below meth c s₁ B hml hv
  obtain ⟨rfl, hsz, hP, hK, hD0, hN⟩ := hv
  have hx := B.exec
  have hb := B.bytes
  have hr := B.returns
  have hts0 := atoms_spec (ws := (wB yX9_stretch cX9_stretch 15 (some .int))) B.pre
  have hts : ∀ w ∈ bigW, w.before _ s = true := fun w h => hts0 w (List.mem_cons_of_mem _ h)
  have hown : s.vm.findClass RX9 = some m.cls := findClass_of_methodNamed B.named
  have hlocks := B.notSynchronized
  subst hsz
  have hD := hD0.self (sz := s.heap.size)
  generalize hAe : va_A [(h0, .inr (9, [.ref m1, .ref m2, .ref m3, .int ik, .int wy, .int op, .int cl, .int cx0, .int cx1, .int cy0, .int cy1, .int ds, .ref m4, .ref m5, .ref m6, .ref m7, .ref m8, .ref m9, .int pn, .ref m10, .ref m11, .ref m12, .ref m13])), (m1, .inl (cI, 4, .inl gw))] s.heap.size = A at hD ⊢
  have hA : ∀ q : Nat, s.heap.size ≤ q → A q := fun q h => by rw [← hAe]; exact Or.inr h
  have hS : va_S A s.heap s.heap [] := va_S.rf
  have hP : va_P D vwCl [(h0, .inr (9, [.ref m1, .ref m2, .ref m3, .int ik, .int wy, .int op, .int cl, .int cx0, .int cx1, .int cy0, .int cy1, .int ds, .ref m4, .ref m5, .ref m6, .ref m7, .ref m8, .ref m9, .int pn, .ref m10, .ref m11, .ref m12, .ref m13])), (m1, .inl (cI, 4, .inl gw))] s.heap := hP
  have hl := lv_entry ([.ref h0, .int k, .int ax, .int ay, .int aw, .int ah, .int kq, .int ox, .int oy, .int ow, .int oh]) (n := 15) (Nat.le_of_ble_eq_true rfl)
  rw [lg_entry_eq]
  generalize (lg_sl ([.ref h0, .int k, .int ax, .int ay, .int aw, .int ah, .int kq, .int ox, .int oy, .int ow, .int oh]) ++ List.replicate (15 - (lg_sl ([.ref h0, .int k, .int ax, .int ay, .int aw, .int ah, .int kq, .int ox, .int oy, .int ow, .int oh])).length) Slot.unset).toArray = ls at hl ⊢
  have hl : lv_has ls 15 [(0, .ref h0), (1, .int k), (2, .int ax), (3, .int ay), (4, .int aw), (5, .int ah), (6, .int kq), (7, .int ox), (8, .int oy), (9, .int ow), (10, .int oh)] := hl
  clear hts0 hD0 hAe
  refine my_abs (fun R Q hR hQ => ?_)
  refine lv_aload_n hx hb dX9_stretch_0 rfl (lv_at hl 0 rfl) ?_
  refine lv_iload_n hx hb dX9_stretch_1 rfl (lv_at hl 1 rfl) ?_
  have hPc := hP.sub (ws' := [(h0, .inr (9, [.ref m1, .ref m2, .ref m3, .int ik, .int wy, .int op, .int cl, .int cx0, .int cx1, .int cy0, .int cy1, .int ds, .ref m4, .ref m5, .ref m6, .ref m7, .ref m8, .ref m9, .int pn, .ref m10, .ref m11, .ref m12, .ref m13])), (m1, .inl (cI, 4, .inl gw))]) [0, 1] rfl
  have hDc := hD.sub (ws' := [(h0, .inr (9, [.ref m1, .ref m2, .ref m3, .int ik, .int wy, .int op, .int cl, .int cx0, .int cx1, .int cy0, .int cy1, .int ds, .ref m4, .ref m5, .ref m6, .ref m7, .ref m8, .ref m9, .int pn, .ref m10, .ref m11, .ref m12, .ref m13])), (m1, .inl (cI, 4, .inl gw))]) [0, 1] (by decide) rfl
  have hKc := hK.sub (tys' := [(cI, .int)]) [0] rfl
  have hFc := va_free (wc := [(h0, .inr (9, [.ref m1, .ref m2, .ref m3, .int ik, .int wy, .int op, .int cl, .int cx0, .int cx1, .int cy0, .int cy1, .int ds, .ref m4, .ref m5, .ref m6, .ref m7, .ref m8, .ref m9, .int pn, .ref m10, .ref m11, .ref m12, .ref m13])), (m1, .inl (cI, 4, .inl gw))]) hD hS hA [0, 1] rfl
  refine va_calli (va_runV (As := [.int k]) (rest := []) ⟨hx, hb, hml, hown, hts⟩ (k_X9_isSheet l D s.heap.size h0 m1 m2 m3 m4 m5 m6 m7 m8 m9 m10 m11 m12 m13 ik wy op cl cx0 cx1 cy0 cy1 ds pn gw k cI) (cwV 1 hts (gV bw_490 bw_415 bw_416 bw_391 bw_414) rfl rfl rfl (by decide +kernel) ⟨(by rw [hR]; exact Nat.le_of_ble_eq_true rfl), (by rw [hR]; exact Nat.le_of_ble_eq_true rfl)⟩) ⟨cP_blind, va_recv hKc hPc (ci := 9) (q0 := 0) rfl rfl, cP_at hPc hKc hDc hN⟩ rfl rfl hl.1 rfl (lv_room (Nat.le_of_ble_eq_true rfl)) dX9_stretch_2 ⟨(by rw [hR]; exact Nat.le_of_ble_eq_true rfl), (by rw [hR]; exact Nat.le_of_ble_eq_true rfl)⟩) hS (fun q _ h => hFc q h) hFc (fun r_1 u9 t9 H1 locs ht hvm hr_1 hB hz1 hk1 hS => ?_)
  try dsimp only at hr_1
  obtain ⟨hP1, hK1, hD1⟩ := hB
  rw [ht] at hP1
  obtain ⟨hP, hD⟩ := va_join (wr := []) (w1 := [(h0, .inr (9, [.ref m1, .ref m2, .ref m3, .int ik, .int wy, .int op, .int cl, .int cx0, .int cx1, .int cy0, .int cy1, .int ds, .ref m4, .ref m5, .ref m6, .ref m7, .ref m8, .ref m9, .int pn, .ref m10, .ref m11, .ref m12, .ref m13])), (m1, .inl (cI, 4, .inl gw))]) hP hD [0, 1] [] rfl rfl (by decide) (by decide) hk1 hFc hP1 hD1
  clear hz1 hk1 hFc hKc hDc hPc
  generalize H1 = H at hP hS ⊢
  have hP : va_P D vwCl [(h0, .inr (9, [.ref m1, .ref m2, .ref m3, .int ik, .int wy, .int op, .int cl, .int cx0, .int cx1, .int cy0, .int cy1, .int ds, .ref m4, .ref m5, .ref m6, .ref m7, .ref m8, .ref m9, .int pn, .ref m10, .ref m11, .ref m12, .ref m13])), (m1, .inl (cI, 4, .inl gw))] H := hP
  have hD : va_D A [(h0, .inr (9, [.ref m1, .ref m2, .ref m3, .int ik, .int wy, .int op, .int cl, .int cx0, .int cx1, .int cy0, .int cy1, .int ds, .ref m4, .ref m5, .ref m6, .ref m7, .ref m8, .ref m9, .int pn, .ref m10, .ref m11, .ref m12, .ref m13])), (m1, .inl (cI, 4, .inl gw))] := hD
  refine lv_if_eq (tgt := 87) hx hb dX9_stretch_5 (by decide) (fun c_2 => ?_) (fun c_2 => ?_)
  · skip
    have f_3 := bz0 hr_1 c_2
    refine lv_iconst (v := (-1)) hx hb dX9_stretch_87 (by decide) ?_
    have hP9 := hP.sub (ws' := [(h0, .inr (9, [.ref m1, .ref m2, .ref m3, .int ik, .int wy, .int op, .int cl, .int cx0, .int cx1, .int cy0, .int cy1, .int ds, .ref m4, .ref m5, .ref m6, .ref m7, .ref m8, .ref m9, .int pn, .ref m10, .ref m11, .ref m12, .ref m13])), (m1, .inl (cI, 4, .inl gw))]) [0, 1] rfl
    have hD9 := hD.sub (ws' := [(h0, .inr (9, [.ref m1, .ref m2, .ref m3, .int ik, .int wy, .int op, .int cl, .int cx0, .int cx1, .int cy0, .int cy1, .int ds, .ref m4, .ref m5, .ref m6, .ref m7, .ref m8, .ref m9, .int pn, .ref m10, .ref m11, .ref m12, .ref m13])), (m1, .inl (cI, 4, .inl gw))]) [0, 1] (by decide) rfl
    have hK9 := hK.sub (tys' := [(cI, .int)]) [0] rfl
    refine hQ _ _ _ _ _ ?_
    exact W.iret (v := (-1)) hx hb hr (fun t ht hW => ⟨⟨(-1), (), rfl, rfl, ⟨by rw [ht]; exact hP9, va_K.moved hW.alike hK9, hD9⟩⟩, hS.F ht⟩) hS.2.2 dX9_stretch_88
  · skip
    have f_3 := bz1 hr_1 c_2
    refine lv_aload_n hx hb dX9_stretch_8 rfl (lv_at hl 0 rfl) ?_
    refine lv_iload hx hb dX9_stretch_9 (lv_at hl 6 rfl) ?_
    have hPc := hP.sub (ws' := [(h0, .inr (9, [.ref m1, .ref m2, .ref m3, .int ik, .int wy, .int op, .int cl, .int cx0, .int cx1, .int cy0, .int cy1, .int ds, .ref m4, .ref m5, .ref m6, .ref m7, .ref m8, .ref m9, .int pn, .ref m10, .ref m11, .ref m12, .ref m13])), (m1, .inl (cI, 4, .inl gw))]) [0, 1] rfl
    have hDc := hD.sub (ws' := [(h0, .inr (9, [.ref m1, .ref m2, .ref m3, .int ik, .int wy, .int op, .int cl, .int cx0, .int cx1, .int cy0, .int cy1, .int ds, .ref m4, .ref m5, .ref m6, .ref m7, .ref m8, .ref m9, .int pn, .ref m10, .ref m11, .ref m12, .ref m13])), (m1, .inl (cI, 4, .inl gw))]) [0, 1] (by decide) rfl
    have hKc := hK.sub (tys' := [(cI, .int)]) [0] rfl
    have hFc := va_free (wc := [(h0, .inr (9, [.ref m1, .ref m2, .ref m3, .int ik, .int wy, .int op, .int cl, .int cx0, .int cx1, .int cy0, .int cy1, .int ds, .ref m4, .ref m5, .ref m6, .ref m7, .ref m8, .ref m9, .int pn, .ref m10, .ref m11, .ref m12, .ref m13])), (m1, .inl (cI, 4, .inl gw))]) hD hS hA [0, 1] rfl
    refine va_calli (va_runV (As := [.int kq]) (rest := []) ⟨hx, hb, hml, hown, hts⟩ (k_X9_isSheet l D H.size h0 m1 m2 m3 m4 m5 m6 m7 m8 m9 m10 m11 m12 m13 ik wy op cl cx0 cx1 cy0 cy1 ds pn gw kq cI) (cwV 1 hts (gV bw_490 bw_415 bw_416 bw_391 bw_414) rfl rfl rfl (by decide +kernel) ⟨(by rw [hR]; exact Nat.le_of_ble_eq_true rfl), (by rw [hR]; exact Nat.le_of_ble_eq_true rfl)⟩) ⟨cP_blind, va_recv hKc hPc (ci := 9) (q0 := 0) rfl rfl, cP_at hPc hKc hDc hN⟩ rfl rfl hl.1 rfl (lv_room (Nat.le_of_ble_eq_true rfl)) dX9_stretch_11 ⟨(by rw [hR]; exact Nat.le_of_ble_eq_true rfl), (by rw [hR]; exact Nat.le_of_ble_eq_true rfl)⟩) hS (fun q _ h => hFc q h) hFc (fun r_4 u9 t9 H1 locs ht hvm hr_4 hB hz1 hk1 hS => ?_)
    try dsimp only at hr_4
    obtain ⟨hP1, hK1, hD1⟩ := hB
    rw [ht] at hP1
    obtain ⟨hP, hD⟩ := va_join (wr := []) (w1 := [(h0, .inr (9, [.ref m1, .ref m2, .ref m3, .int ik, .int wy, .int op, .int cl, .int cx0, .int cx1, .int cy0, .int cy1, .int ds, .ref m4, .ref m5, .ref m6, .ref m7, .ref m8, .ref m9, .int pn, .ref m10, .ref m11, .ref m12, .ref m13])), (m1, .inl (cI, 4, .inl gw))]) hP hD [0, 1] [] rfl rfl (by decide) (by decide) hk1 hFc hP1 hD1
    clear hz1 hk1 hFc hKc hDc hPc
    generalize H1 = H at hP hS ⊢
    have hP : va_P D vwCl [(h0, .inr (9, [.ref m1, .ref m2, .ref m3, .int ik, .int wy, .int op, .int cl, .int cx0, .int cx1, .int cy0, .int cy1, .int ds, .ref m4, .ref m5, .ref m6, .ref m7, .ref m8, .ref m9, .int pn, .ref m10, .ref m11, .ref m12, .ref m13])), (m1, .inl (cI, 4, .inl gw))] H := hP
    have hD : va_D A [(h0, .inr (9, [.ref m1, .ref m2, .ref m3, .int ik, .int wy, .int op, .int cl, .int cx0, .int cx1, .int cy0, .int cy1, .int ds, .ref m4, .ref m5, .ref m6, .ref m7, .ref m8, .ref m9, .int pn, .ref m10, .ref m11, .ref m12, .ref m13])), (m1, .inl (cI, 4, .inl gw))] := hD
    refine lv_if_eq (tgt := 87) hx hb dX9_stretch_14 (by decide) (fun c_5 => ?_) (fun c_5 => ?_)
    · skip
      have f_6 := bz0 hr_4 c_5
      refine lv_iconst (v := (-1)) hx hb dX9_stretch_87 (by decide) ?_
      have hP9 := hP.sub (ws' := [(h0, .inr (9, [.ref m1, .ref m2, .ref m3, .int ik, .int wy, .int op, .int cl, .int cx0, .int cx1, .int cy0, .int cy1, .int ds, .ref m4, .ref m5, .ref m6, .ref m7, .ref m8, .ref m9, .int pn, .ref m10, .ref m11, .ref m12, .ref m13])), (m1, .inl (cI, 4, .inl gw))]) [0, 1] rfl
      have hD9 := hD.sub (ws' := [(h0, .inr (9, [.ref m1, .ref m2, .ref m3, .int ik, .int wy, .int op, .int cl, .int cx0, .int cx1, .int cy0, .int cy1, .int ds, .ref m4, .ref m5, .ref m6, .ref m7, .ref m8, .ref m9, .int pn, .ref m10, .ref m11, .ref m12, .ref m13])), (m1, .inl (cI, 4, .inl gw))]) [0, 1] (by decide) rfl
      have hK9 := hK.sub (tys' := [(cI, .int)]) [0] rfl
      refine hQ _ _ _ _ _ ?_
      exact W.iret (v := (-1)) hx hb hr (fun t ht hW => ⟨⟨(-1), (), rfl, rfl, ⟨by rw [ht]; exact hP9, va_K.moved hW.alike hK9, hD9⟩⟩, hS.F ht⟩) hS.2.2 dX9_stretch_88
    · skip
      have f_6 := bz1 hr_4 c_5
      refine lv_iload hx hb dX9_stretch_17 (lv_at hl 4 rfl) ?_
      refine lv_iconst (v := 1) hx hb dX9_stretch_19 (by decide) ?_
      refine lv_icmp_lt (tgt := 87) hx hb dX9_stretch_20 (by decide) (fun c_7 => ?_) (fun c_7 => ?_)
      · skip
        have f_8 : aw.toInt < 1 := f_lt rfl (by decide) c_7
        refine lv_iconst (v := (-1)) hx hb dX9_stretch_87 (by decide) ?_
        have hP9 := hP.sub (ws' := [(h0, .inr (9, [.ref m1, .ref m2, .ref m3, .int ik, .int wy, .int op, .int cl, .int cx0, .int cx1, .int cy0, .int cy1, .int ds, .ref m4, .ref m5, .ref m6, .ref m7, .ref m8, .ref m9, .int pn, .ref m10, .ref m11, .ref m12, .ref m13])), (m1, .inl (cI, 4, .inl gw))]) [0, 1] rfl
        have hD9 := hD.sub (ws' := [(h0, .inr (9, [.ref m1, .ref m2, .ref m3, .int ik, .int wy, .int op, .int cl, .int cx0, .int cx1, .int cy0, .int cy1, .int ds, .ref m4, .ref m5, .ref m6, .ref m7, .ref m8, .ref m9, .int pn, .ref m10, .ref m11, .ref m12, .ref m13])), (m1, .inl (cI, 4, .inl gw))]) [0, 1] (by decide) rfl
        have hK9 := hK.sub (tys' := [(cI, .int)]) [0] rfl
        refine hQ _ _ _ _ _ ?_
        exact W.iret (v := (-1)) hx hb hr (fun t ht hW => ⟨⟨(-1), (), rfl, rfl, ⟨by rw [ht]; exact hP9, va_K.moved hW.alike hK9, hD9⟩⟩, hS.F ht⟩) hS.2.2 dX9_stretch_88
      · skip
        have f_8 : ¬ (aw.toInt < 1) := fn_lt rfl (by decide) c_7
        refine lv_iload hx hb dX9_stretch_23 (lv_at hl 4 rfl) ?_
        refine lv_bipush (v := 64) hx hb dX9_stretch_25 (by decide) ?_
        refine lv_icmp_gt (tgt := 87) hx hb dX9_stretch_27 (by decide) (fun c_9 => ?_) (fun c_9 => ?_)
        · skip
          have f_10 : 64 < aw.toInt := f_lt (by decide) rfl c_9
          refine lv_iconst (v := (-1)) hx hb dX9_stretch_87 (by decide) ?_
          have hP9 := hP.sub (ws' := [(h0, .inr (9, [.ref m1, .ref m2, .ref m3, .int ik, .int wy, .int op, .int cl, .int cx0, .int cx1, .int cy0, .int cy1, .int ds, .ref m4, .ref m5, .ref m6, .ref m7, .ref m8, .ref m9, .int pn, .ref m10, .ref m11, .ref m12, .ref m13])), (m1, .inl (cI, 4, .inl gw))]) [0, 1] rfl
          have hD9 := hD.sub (ws' := [(h0, .inr (9, [.ref m1, .ref m2, .ref m3, .int ik, .int wy, .int op, .int cl, .int cx0, .int cx1, .int cy0, .int cy1, .int ds, .ref m4, .ref m5, .ref m6, .ref m7, .ref m8, .ref m9, .int pn, .ref m10, .ref m11, .ref m12, .ref m13])), (m1, .inl (cI, 4, .inl gw))]) [0, 1] (by decide) rfl
          have hK9 := hK.sub (tys' := [(cI, .int)]) [0] rfl
          refine hQ _ _ _ _ _ ?_
          exact W.iret (v := (-1)) hx hb hr (fun t ht hW => ⟨⟨(-1), (), rfl, rfl, ⟨by rw [ht]; exact hP9, va_K.moved hW.alike hK9, hD9⟩⟩, hS.F ht⟩) hS.2.2 dX9_stretch_88
        · skip
          have f_10 : ¬ (64 < aw.toInt) := fn_lt (by decide) rfl c_9
          refine lv_iload hx hb dX9_stretch_30 (lv_at hl 5 rfl) ?_
          refine lv_iconst (v := 1) hx hb dX9_stretch_32 (by decide) ?_
          refine lv_icmp_lt (tgt := 87) hx hb dX9_stretch_33 (by decide) (fun c_11 => ?_) (fun c_11 => ?_)
          · skip
            have f_12 : ah.toInt < 1 := f_lt rfl (by decide) c_11
            refine lv_iconst (v := (-1)) hx hb dX9_stretch_87 (by decide) ?_
            have hP9 := hP.sub (ws' := [(h0, .inr (9, [.ref m1, .ref m2, .ref m3, .int ik, .int wy, .int op, .int cl, .int cx0, .int cx1, .int cy0, .int cy1, .int ds, .ref m4, .ref m5, .ref m6, .ref m7, .ref m8, .ref m9, .int pn, .ref m10, .ref m11, .ref m12, .ref m13])), (m1, .inl (cI, 4, .inl gw))]) [0, 1] rfl
            have hD9 := hD.sub (ws' := [(h0, .inr (9, [.ref m1, .ref m2, .ref m3, .int ik, .int wy, .int op, .int cl, .int cx0, .int cx1, .int cy0, .int cy1, .int ds, .ref m4, .ref m5, .ref m6, .ref m7, .ref m8, .ref m9, .int pn, .ref m10, .ref m11, .ref m12, .ref m13])), (m1, .inl (cI, 4, .inl gw))]) [0, 1] (by decide) rfl
            have hK9 := hK.sub (tys' := [(cI, .int)]) [0] rfl
            refine hQ _ _ _ _ _ ?_
            exact W.iret (v := (-1)) hx hb hr (fun t ht hW => ⟨⟨(-1), (), rfl, rfl, ⟨by rw [ht]; exact hP9, va_K.moved hW.alike hK9, hD9⟩⟩, hS.F ht⟩) hS.2.2 dX9_stretch_88
          · skip
            have f_12 : ¬ (ah.toInt < 1) := fn_lt rfl (by decide) c_11
            refine lv_iload hx hb dX9_stretch_36 (lv_at hl 5 rfl) ?_
            refine lv_bipush (v := 64) hx hb dX9_stretch_38 (by decide) ?_
            refine lv_icmp_gt (tgt := 87) hx hb dX9_stretch_40 (by decide) (fun c_13 => ?_) (fun c_13 => ?_)
            · skip
              have f_14 : 64 < ah.toInt := f_lt (by decide) rfl c_13
              refine lv_iconst (v := (-1)) hx hb dX9_stretch_87 (by decide) ?_
              have hP9 := hP.sub (ws' := [(h0, .inr (9, [.ref m1, .ref m2, .ref m3, .int ik, .int wy, .int op, .int cl, .int cx0, .int cx1, .int cy0, .int cy1, .int ds, .ref m4, .ref m5, .ref m6, .ref m7, .ref m8, .ref m9, .int pn, .ref m10, .ref m11, .ref m12, .ref m13])), (m1, .inl (cI, 4, .inl gw))]) [0, 1] rfl
              have hD9 := hD.sub (ws' := [(h0, .inr (9, [.ref m1, .ref m2, .ref m3, .int ik, .int wy, .int op, .int cl, .int cx0, .int cx1, .int cy0, .int cy1, .int ds, .ref m4, .ref m5, .ref m6, .ref m7, .ref m8, .ref m9, .int pn, .ref m10, .ref m11, .ref m12, .ref m13])), (m1, .inl (cI, 4, .inl gw))]) [0, 1] (by decide) rfl
              have hK9 := hK.sub (tys' := [(cI, .int)]) [0] rfl
              refine hQ _ _ _ _ _ ?_
              exact W.iret (v := (-1)) hx hb hr (fun t ht hW => ⟨⟨(-1), (), rfl, rfl, ⟨by rw [ht]; exact hP9, va_K.moved hW.alike hK9, hD9⟩⟩, hS.F ht⟩) hS.2.2 dX9_stretch_88
            · skip
              have f_14 : ¬ (64 < ah.toInt) := fn_lt (by decide) rfl c_13
              refine lv_iload hx hb dX9_stretch_43 (lv_at hl 9 rfl) ?_
              refine lv_iconst (v := 1) hx hb dX9_stretch_45 (by decide) ?_
              refine lv_icmp_lt (tgt := 87) hx hb dX9_stretch_46 (by decide) (fun c_15 => ?_) (fun c_15 => ?_)
              · skip
                have f_16 : ow.toInt < 1 := f_lt rfl (by decide) c_15
                refine lv_iconst (v := (-1)) hx hb dX9_stretch_87 (by decide) ?_
                have hP9 := hP.sub (ws' := [(h0, .inr (9, [.ref m1, .ref m2, .ref m3, .int ik, .int wy, .int op, .int cl, .int cx0, .int cx1, .int cy0, .int cy1, .int ds, .ref m4, .ref m5, .ref m6, .ref m7, .ref m8, .ref m9, .int pn, .ref m10, .ref m11, .ref m12, .ref m13])), (m1, .inl (cI, 4, .inl gw))]) [0, 1] rfl
                have hD9 := hD.sub (ws' := [(h0, .inr (9, [.ref m1, .ref m2, .ref m3, .int ik, .int wy, .int op, .int cl, .int cx0, .int cx1, .int cy0, .int cy1, .int ds, .ref m4, .ref m5, .ref m6, .ref m7, .ref m8, .ref m9, .int pn, .ref m10, .ref m11, .ref m12, .ref m13])), (m1, .inl (cI, 4, .inl gw))]) [0, 1] (by decide) rfl
                have hK9 := hK.sub (tys' := [(cI, .int)]) [0] rfl
                refine hQ _ _ _ _ _ ?_
                exact W.iret (v := (-1)) hx hb hr (fun t ht hW => ⟨⟨(-1), (), rfl, rfl, ⟨by rw [ht]; exact hP9, va_K.moved hW.alike hK9, hD9⟩⟩, hS.F ht⟩) hS.2.2 dX9_stretch_88
              · skip
                have f_16 : ¬ (ow.toInt < 1) := fn_lt rfl (by decide) c_15
                refine lv_iload hx hb dX9_stretch_49 (lv_at hl 9 rfl) ?_
                refine lv_bipush (v := 64) hx hb dX9_stretch_51 (by decide) ?_
                refine lv_icmp_gt (tgt := 87) hx hb dX9_stretch_53 (by decide) (fun c_17 => ?_) (fun c_17 => ?_)
                · skip
                  have f_18 : 64 < ow.toInt := f_lt (by decide) rfl c_17
                  refine lv_iconst (v := (-1)) hx hb dX9_stretch_87 (by decide) ?_
                  have hP9 := hP.sub (ws' := [(h0, .inr (9, [.ref m1, .ref m2, .ref m3, .int ik, .int wy, .int op, .int cl, .int cx0, .int cx1, .int cy0, .int cy1, .int ds, .ref m4, .ref m5, .ref m6, .ref m7, .ref m8, .ref m9, .int pn, .ref m10, .ref m11, .ref m12, .ref m13])), (m1, .inl (cI, 4, .inl gw))]) [0, 1] rfl
                  have hD9 := hD.sub (ws' := [(h0, .inr (9, [.ref m1, .ref m2, .ref m3, .int ik, .int wy, .int op, .int cl, .int cx0, .int cx1, .int cy0, .int cy1, .int ds, .ref m4, .ref m5, .ref m6, .ref m7, .ref m8, .ref m9, .int pn, .ref m10, .ref m11, .ref m12, .ref m13])), (m1, .inl (cI, 4, .inl gw))]) [0, 1] (by decide) rfl
                  have hK9 := hK.sub (tys' := [(cI, .int)]) [0] rfl
                  refine hQ _ _ _ _ _ ?_
                  exact W.iret (v := (-1)) hx hb hr (fun t ht hW => ⟨⟨(-1), (), rfl, rfl, ⟨by rw [ht]; exact hP9, va_K.moved hW.alike hK9, hD9⟩⟩, hS.F ht⟩) hS.2.2 dX9_stretch_88
                · skip
                  have f_18 : ¬ (64 < ow.toInt) := fn_lt (by decide) rfl c_17
                  refine lv_iload hx hb dX9_stretch_56 (lv_at hl 10 rfl) ?_
                  refine lv_iconst (v := 1) hx hb dX9_stretch_58 (by decide) ?_
                  refine lv_icmp_lt (tgt := 87) hx hb dX9_stretch_59 (by decide) (fun c_19 => ?_) (fun c_19 => ?_)
                  · skip
                    have f_20 : oh.toInt < 1 := f_lt rfl (by decide) c_19
                    refine lv_iconst (v := (-1)) hx hb dX9_stretch_87 (by decide) ?_
                    have hP9 := hP.sub (ws' := [(h0, .inr (9, [.ref m1, .ref m2, .ref m3, .int ik, .int wy, .int op, .int cl, .int cx0, .int cx1, .int cy0, .int cy1, .int ds, .ref m4, .ref m5, .ref m6, .ref m7, .ref m8, .ref m9, .int pn, .ref m10, .ref m11, .ref m12, .ref m13])), (m1, .inl (cI, 4, .inl gw))]) [0, 1] rfl
                    have hD9 := hD.sub (ws' := [(h0, .inr (9, [.ref m1, .ref m2, .ref m3, .int ik, .int wy, .int op, .int cl, .int cx0, .int cx1, .int cy0, .int cy1, .int ds, .ref m4, .ref m5, .ref m6, .ref m7, .ref m8, .ref m9, .int pn, .ref m10, .ref m11, .ref m12, .ref m13])), (m1, .inl (cI, 4, .inl gw))]) [0, 1] (by decide) rfl
                    have hK9 := hK.sub (tys' := [(cI, .int)]) [0] rfl
                    refine hQ _ _ _ _ _ ?_
                    exact W.iret (v := (-1)) hx hb hr (fun t ht hW => ⟨⟨(-1), (), rfl, rfl, ⟨by rw [ht]; exact hP9, va_K.moved hW.alike hK9, hD9⟩⟩, hS.F ht⟩) hS.2.2 dX9_stretch_88
                  · skip
                    have f_20 : ¬ (oh.toInt < 1) := fn_lt rfl (by decide) c_19
                    refine lv_iload hx hb dX9_stretch_62 (lv_at hl 10 rfl) ?_
                    refine lv_bipush (v := 64) hx hb dX9_stretch_64 (by decide) ?_
                    refine lv_icmp_gt (tgt := 87) hx hb dX9_stretch_66 (by decide) (fun c_21 => ?_) (fun c_21 => ?_)
                    · skip
                      have f_22 : 64 < oh.toInt := f_lt (by decide) rfl c_21
                      refine lv_iconst (v := (-1)) hx hb dX9_stretch_87 (by decide) ?_
                      have hP9 := hP.sub (ws' := [(h0, .inr (9, [.ref m1, .ref m2, .ref m3, .int ik, .int wy, .int op, .int cl, .int cx0, .int cx1, .int cy0, .int cy1, .int ds, .ref m4, .ref m5, .ref m6, .ref m7, .ref m8, .ref m9, .int pn, .ref m10, .ref m11, .ref m12, .ref m13])), (m1, .inl (cI, 4, .inl gw))]) [0, 1] rfl
                      have hD9 := hD.sub (ws' := [(h0, .inr (9, [.ref m1, .ref m2, .ref m3, .int ik, .int wy, .int op, .int cl, .int cx0, .int cx1, .int cy0, .int cy1, .int ds, .ref m4, .ref m5, .ref m6, .ref m7, .ref m8, .ref m9, .int pn, .ref m10, .ref m11, .ref m12, .ref m13])), (m1, .inl (cI, 4, .inl gw))]) [0, 1] (by decide) rfl
                      have hK9 := hK.sub (tys' := [(cI, .int)]) [0] rfl
                      refine hQ _ _ _ _ _ ?_
                      exact W.iret (v := (-1)) hx hb hr (fun t ht hW => ⟨⟨(-1), (), rfl, rfl, ⟨by rw [ht]; exact hP9, va_K.moved hW.alike hK9, hD9⟩⟩, hS.F ht⟩) hS.2.2 dX9_stretch_88
                    · skip
                      have f_22 : ¬ (64 < oh.toInt) := fn_lt (by decide) rfl c_21
                      refine lv_iload_n hx hb dX9_stretch_69 rfl (lv_at hl 2 rfl) ?_
                      refine lv_iload_n hx hb dX9_stretch_70 rfl (lv_at hl 3 rfl) ?_
                      have hPc := hP.sub (ws' := []) [] rfl
                      have hDc := hD.sub (ws' := []) [] (by decide) rfl
                      have hKc := hK.sub (tys' := []) [] rfl
                      have hFc := va_free (wc := []) hD hS hA [] rfl
                      refine va_calli (va_runS (As := [.int ax, .int ay]) (rest := []) ⟨hx, hb, hml, hown, hts⟩ (k_X9_isPlace l D H.size ax ay) (va_cwS 2 hts (gS bw_564 bw_560 bw_391 bw_559) rfl rfl rfl (by decide +kernel) ⟨(by rw [hR]; exact Nat.le_of_ble_eq_true rfl), (by rw [hR]; exact Nat.le_of_ble_eq_true rfl)⟩) ⟨cP_blind, cP_at hPc hKc hDc hN⟩ rfl rfl hl.1 rfl (lv_room (Nat.le_of_ble_eq_true rfl)) dX9_stretch_71 ⟨(by rw [hR]; exact Nat.le_of_ble_eq_true rfl), (by rw [hR]; exact Nat.le_of_ble_eq_true rfl)⟩) hS (fun q _ h => hFc q h) hFc (fun r_23 u9 t9 H1 locs ht hvm hr_23 hB hz1 hk1 hS => ?_)
                      try dsimp only at hr_23
                      have hP1 : va_P D vwCl [] H1 := vP_nil
                      have hD1 : va_D (va_A [] H.size) [] := vD_nil
                      obtain ⟨hP, hD⟩ := va_join (wr := [(h0, .inr (9, [.ref m1, .ref m2, .ref m3, .int ik, .int wy, .int op, .int cl, .int cx0, .int cx1, .int cy0, .int cy1, .int ds, .ref m4, .ref m5, .ref m6, .ref m7, .ref m8, .ref m9, .int pn, .ref m10, .ref m11, .ref m12, .ref m13])), (m1, .inl (cI, 4, .inl gw))]) (w1 := []) hP hD [] [0, 1] rfl rfl (by decide) (by decide) hk1 hFc hP1 hD1
                      clear hz1 hk1 hFc hKc hDc hPc
                      generalize H1 = H at hP hS ⊢
                      have hP : va_P D vwCl [(h0, .inr (9, [.ref m1, .ref m2, .ref m3, .int ik, .int wy, .int op, .int cl, .int cx0, .int cx1, .int cy0, .int cy1, .int ds, .ref m4, .ref m5, .ref m6, .ref m7, .ref m8, .ref m9, .int pn, .ref m10, .ref m11, .ref m12, .ref m13])), (m1, .inl (cI, 4, .inl gw))] H := hP
                      have hD : va_D A [(h0, .inr (9, [.ref m1, .ref m2, .ref m3, .int ik, .int wy, .int op, .int cl, .int cx0, .int cx1, .int cy0, .int cy1, .int ds, .ref m4, .ref m5, .ref m6, .ref m7, .ref m8, .ref m9, .int pn, .ref m10, .ref m11, .ref m12, .ref m13])), (m1, .inl (cI, 4, .inl gw))] := hD
                      refine lv_if_eq (tgt := 87) hx hb dX9_stretch_74 (by decide) (fun c_24 => ?_) (fun c_24 => ?_)
                      · skip
                        have f_25 := bz0 hr_23 c_24
                        refine lv_iconst (v := (-1)) hx hb dX9_stretch_87 (by decide) ?_
                        have hP9 := hP.sub (ws' := [(h0, .inr (9, [.ref m1, .ref m2, .ref m3, .int ik, .int wy, .int op, .int cl, .int cx0, .int cx1, .int cy0, .int cy1, .int ds, .ref m4, .ref m5, .ref m6, .ref m7, .ref m8, .ref m9, .int pn, .ref m10, .ref m11, .ref m12, .ref m13])), (m1, .inl (cI, 4, .inl gw))]) [0, 1] rfl
                        have hD9 := hD.sub (ws' := [(h0, .inr (9, [.ref m1, .ref m2, .ref m3, .int ik, .int wy, .int op, .int cl, .int cx0, .int cx1, .int cy0, .int cy1, .int ds, .ref m4, .ref m5, .ref m6, .ref m7, .ref m8, .ref m9, .int pn, .ref m10, .ref m11, .ref m12, .ref m13])), (m1, .inl (cI, 4, .inl gw))]) [0, 1] (by decide) rfl
                        have hK9 := hK.sub (tys' := [(cI, .int)]) [0] rfl
                        refine hQ _ _ _ _ _ ?_
                        exact W.iret (v := (-1)) hx hb hr (fun t ht hW => ⟨⟨(-1), (), rfl, rfl, ⟨by rw [ht]; exact hP9, va_K.moved hW.alike hK9, hD9⟩⟩, hS.F ht⟩) hS.2.2 dX9_stretch_88
                      · skip
                        have f_25 := bz1 hr_23 c_24
                        refine lv_iload hx hb dX9_stretch_77 (lv_at hl 7 rfl) ?_
                        refine lv_iload hx hb dX9_stretch_79 (lv_at hl 8 rfl) ?_
                        have hPc := hP.sub (ws' := []) [] rfl
                        have hDc := hD.sub (ws' := []) [] (by decide) rfl
                        have hKc := hK.sub (tys' := []) [] rfl
                        have hFc := va_free (wc := []) hD hS hA [] rfl
                        refine va_calli (va_runS (As := [.int ox, .int oy]) (rest := []) ⟨hx, hb, hml, hown, hts⟩ (k_X9_isPlace l D H.size ox oy) (va_cwS 2 hts (gS bw_564 bw_560 bw_391 bw_559) rfl rfl rfl (by decide +kernel) ⟨(by rw [hR]; exact Nat.le_of_ble_eq_true rfl), (by rw [hR]; exact Nat.le_of_ble_eq_true rfl)⟩) ⟨cP_blind, cP_at hPc hKc hDc hN⟩ rfl rfl hl.1 rfl (lv_room (Nat.le_of_ble_eq_true rfl)) dX9_stretch_81 ⟨(by rw [hR]; exact Nat.le_of_ble_eq_true rfl), (by rw [hR]; exact Nat.le_of_ble_eq_true rfl)⟩) hS (fun q _ h => hFc q h) hFc (fun r_26 u9 t9 H1 locs ht hvm hr_26 hB hz1 hk1 hS => ?_)
                        try dsimp only at hr_26
                        have hP1 : va_P D vwCl [] H1 := vP_nil
                        have hD1 : va_D (va_A [] H.size) [] := vD_nil
                        obtain ⟨hP, hD⟩ := va_join (wr := [(h0, .inr (9, [.ref m1, .ref m2, .ref m3, .int ik, .int wy, .int op, .int cl, .int cx0, .int cx1, .int cy0, .int cy1, .int ds, .ref m4, .ref m5, .ref m6, .ref m7, .ref m8, .ref m9, .int pn, .ref m10, .ref m11, .ref m12, .ref m13])), (m1, .inl (cI, 4, .inl gw))]) (w1 := []) hP hD [] [0, 1] rfl rfl (by decide) (by decide) hk1 hFc hP1 hD1
                        clear hz1 hk1 hFc hKc hDc hPc
                        generalize H1 = H at hP hS ⊢
                        have hP : va_P D vwCl [(h0, .inr (9, [.ref m1, .ref m2, .ref m3, .int ik, .int wy, .int op, .int cl, .int cx0, .int cx1, .int cy0, .int cy1, .int ds, .ref m4, .ref m5, .ref m6, .ref m7, .ref m8, .ref m9, .int pn, .ref m10, .ref m11, .ref m12, .ref m13])), (m1, .inl (cI, 4, .inl gw))] H := hP
                        have hD : va_D A [(h0, .inr (9, [.ref m1, .ref m2, .ref m3, .int ik, .int wy, .int op, .int cl, .int cx0, .int cx1, .int cy0, .int cy1, .int ds, .ref m4, .ref m5, .ref m6, .ref m7, .ref m8, .ref m9, .int pn, .ref m10, .ref m11, .ref m12, .ref m13])), (m1, .inl (cI, 4, .inl gw))] := hD
                        refine lv_if_ne (tgt := 89) hx hb dX9_stretch_84 (by decide) (fun c_27 => ?_) (fun c_27 => ?_)
                        · skip
                          have f_28 := bz1 hr_26 c_27
                          exact False.elim (by omega)
                        · skip
                          have f_28 := bz0 hr_26 c_27
                          refine lv_iconst (v := (-1)) hx hb dX9_stretch_87 (by decide) ?_
                          have hP9 := hP.sub (ws' := [(h0, .inr (9, [.ref m1, .ref m2, .ref m3, .int ik, .int wy, .int op, .int cl, .int cx0, .int cx1, .int cy0, .int cy1, .int ds, .ref m4, .ref m5, .ref m6, .ref m7, .ref m8, .ref m9, .int pn, .ref m10, .ref m11, .ref m12, .ref m13])), (m1, .inl (cI, 4, .inl gw))]) [0, 1] rfl
                          have hD9 := hD.sub (ws' := [(h0, .inr (9, [.ref m1, .ref m2, .ref m3, .int ik, .int wy, .int op, .int cl, .int cx0, .int cx1, .int cy0, .int cy1, .int ds, .ref m4, .ref m5, .ref m6, .ref m7, .ref m8, .ref m9, .int pn, .ref m10, .ref m11, .ref m12, .ref m13])), (m1, .inl (cI, 4, .inl gw))]) [0, 1] (by decide) rfl
                          have hK9 := hK.sub (tys' := [(cI, .int)]) [0] rfl
                          refine hQ _ _ _ _ _ ?_
                          exact W.iret (v := (-1)) hx hb hr (fun t ht hW => ⟨⟨(-1), (), rfl, rfl, ⟨by rw [ht]; exact hP9, va_K.moved hW.alike hK9, hD9⟩⟩, hS.F ht⟩) hS.2.2 dX9_stretch_88

set_option maxHeartbeats 4000000 in
set_option maxRecDepth 100000 in
theorem k_X9_count_ye (l : Launch) (D : va_G) (sz : Nat) (h0 m1 m2 m3 m4 m5 m6 m7 m8 m9 m10 m11 m12 m13 : Nat) (ik wy op cl cx0 cx1 cy0 cy1 ds pn : Int32) (gw : Nat → Int32) (gh : Nat → Int32) (gd : Nat → Int32) (k vl : Int32) (cI : ClassId) (hk : 0 ≤ k.toInt ∧ k.toInt ≤ 3) (hgw : 0 ≤ (gw k.toNatClampNeg).toInt ∧ (gw k.toNatClampNeg).toInt ≤ 64) (hgh : 0 ≤ (gh k.toNatClampNeg).toInt ∧ (gh k.toNatClampNeg).toInt ≤ 64) (hgp : 0 < (gw k.toNatClampNeg).toInt) : Met l yX9_count (wB yX9_count cX9_count 6 (some .int)) ({ frames := 1, cells := 0, slots := 0, locals := 22 }) (cP D [(h0, .inr (9, [.ref m1, .ref m2, .ref m3, .int ik, .int wy, .int op, .int cl, .int cx0, .int cx1, .int cy0, .int cy1, .int ds, .ref m4, .ref m5, .ref m6, .ref m7, .ref m8, .ref m9, .int pn, .ref m10, .ref m11, .ref m12, .ref m13])), (m1, .inl (cI, 4, .inl gw)), (m2, .inl (cI, 4, .inl gh)), (m3, .inl (cI, 16384, .inl gd))] [(cI, .int)] sz [.ref h0, .int k, .int vl]) (va_Qi (fun (r : Int32) (_ : Unit) => r = smL (ctF (fun t => gd (4096 * k.toNatClampNeg + t)) vl) (gw k.toNatClampNeg).toNatClampNeg 0 (gh k.toNatClampNeg).toNatClampNeg) (fun (_ : Unit) (t : State) => cB D (va_A [(h0, .inr (9, [.ref m1, .ref m2, .ref m3, .int ik, .int wy, .int op, .int cl, .int cx0, .int cx1, .int cy0, .int cy1, .int ds, .ref m4, .ref m5, .ref m6, .ref m7, .ref m8, .ref m9, .int pn, .ref m10, .ref m11, .ref m12, .ref m13])), (m1, .inl (cI, 4, .inl gw)), (m2, .inl (cI, 4, .inl gh)), (m3, .inl (cI, 16384, .inl gd))] sz) [(h0, .inr (9, [.ref m1, .ref m2, .ref m3, .int ik, .int wy, .int op, .int cl, .int cx0, .int cx1, .int cy0, .int cy1, .int ds, .ref m4, .ref m5, .ref m6, .ref m7, .ref m8, .ref m9, .int pn, .ref m10, .ref m11, .ref m12, .ref m13])), (m1, .inl (cI, 4, .inl gw)), (m2, .inl (cI, 4, .inl gh)), (m3, .inl (cI, 16384, .inl gd))] [(cI, .int)] t) (va_A [(h0, .inr (9, [.ref m1, .ref m2, .ref m3, .int ik, .int wy, .int op, .int cl, .int cx0, .int cx1, .int cy0, .int cy1, .int ds, .ref m4, .ref m5, .ref m6, .ref m7, .ref m8, .ref m9, .int pn, .ref m10, .ref m11, .ref m12, .ref m13])), (m1, .inl (cI, 4, .inl gw)), (m2, .inl (cI, 4, .inl gh)), (m3, .inl (cI, 16384, .inl gd))] sz)) 0 0 (va_A [(h0, .inr (9, [.ref m1, .ref m2, .ref m3, .int ik, .int wy, .int op, .int cl, .int cx0, .int cx1, .int cy0, .int cy1, .int ds, .ref m4, .ref m5, .ref m6, .ref m7, .ref m8, .ref m9, .int pn, .ref m10, .ref m11, .ref m12, .ref m13])), (m1, .inl (cI, 4, .inl gw)), (m2, .inl (cI, 4, .inl gh)), (m3, .inl (cI, 16384, .inl gd))] sz) := by
  refine Met.ofW (cc := cX9_count) (maxL := 6) (ret := (some .int)) (by decide) rfl ?_
  intro p e s m args below meth c s₁ B hml hv
  obtain ⟨rfl, hsz, hP, hK, hD0, hN⟩ := hv
  have hx := B.exec
  have hb := B.bytes
  have hr := B.returns
  have hts0 := atoms_spec (ws := (wB yX9_count cX9_count 6 (some .int))) B.pre
  have hts : ∀ w ∈ bigW, w.before _ s = true := fun w h => hts0 w (List.mem_cons_of_mem _ h)
  have hown : s.vm.findClass RX9 = some m.cls := findClass_of_methodNamed B.named
  have hlocks := B.notSynchronized
  subst hsz
  have hD := hD0.self (sz := s.heap.size)
  generalize hAe : va_A [(h0, .inr (9, [.ref m1, .ref m2, .ref m3, .int ik, .int wy, .int op, .int cl, .int cx0, .int cx1, .int cy0, .int cy1, .int ds, .ref m4, .ref m5, .ref m6, .ref m7, .ref m8, .ref m9, .int pn, .ref m10, .ref m11, .ref m12, .ref m13])), (m1, .inl (cI, 4, .inl gw)), (m2, .inl (cI, 4, .inl gh)), (m3, .inl (cI, 16384, .inl gd))] s.heap.size = A at hD ⊢
  have hA : ∀ q : Nat, s.heap.size ≤ q → A q := fun q h => by rw [← hAe]; exact Or.inr h
  have hS : va_S A s.heap s.heap [] := va_S.rf
  have hP : va_P D vwCl [(h0, .inr (9, [.ref m1, .ref m2, .ref m3, .int ik, .int wy, .int op, .int cl, .int cx0, .int cx1, .int cy0, .int cy1, .int ds, .ref m4, .ref m5, .ref m6, .ref m7, .ref m8, .ref m9, .int pn, .ref m10, .ref m11, .ref m12, .ref m13])), (m1, .inl (cI, 4, .inl gw)), (m2, .inl (cI, 4, .inl gh)), (m3, .inl (cI, 16384, .inl gd))] s.heap := hP
  have hl := lv_entry ([.ref h0, .int k, .int vl]) (n := 6) (Nat.le_of_ble_eq_true rfl)
  rw [lg_entry_eq]
  generalize (lg_sl ([.ref h0, .int k, .int vl]) ++ List.replicate (6 - (lg_sl ([.ref h0, .int k, .int vl])).length) Slot.unset).toArray = ls at hl ⊢
  have hl : lv_has ls 6 [(0, .ref h0), (1, .int k), (2, .int vl)] := hl
  clear hts0 hD0 hAe
  refine my_abs (fun R Q hR hQ => ?_)
  obtain ⟨W9, hW9, eW9⟩ := i_of (x := gw k.toNatClampNeg) (N := 65) (by omega) (by omega) (by decide)
  have eW9n : (gw k.toNatClampNeg).toNatClampNeg = W9 := by rw [eW9]; exact nI_clamp (by omega)
  have hW9t : (gw k.toNatClampNeg).toInt = (W9 : Int) := by rw [eW9]; exact nI_toInt (by omega)
  obtain ⟨H9, hH9, eH9⟩ := i_of (x := gh k.toNatClampNeg) (N := 65) (by omega) (by omega) (by decide)
  have eH9n : (gh k.toNatClampNeg).toNatClampNeg = H9 := by rw [eH9]; exact nI_clamp (by omega)
  have hH9t : (gh k.toNatClampNeg).toInt = (H9 : Int) := by rw [eH9]; exact nI_toInt (by omega)
  refine lv_aload_n hx hb dX9_count_0 rfl (lv_at hl 0 rfl) ?_
  refine lv_iload_n hx hb dX9_count_1 rfl (lv_at hl 1 rfl) ?_
  have hPc := hP.sub (ws' := [(h0, .inr (9, [.ref m1, .ref m2, .ref m3, .int ik, .int wy, .int op, .int cl, .int cx0, .int cx1, .int cy0, .int cy1, .int ds, .ref m4, .ref m5, .ref m6, .ref m7, .ref m8, .ref m9, .int pn, .ref m10, .ref m11, .ref m12, .ref m13])), (m1, .inl (cI, 4, .inl gw))]) [0, 1] rfl
  have hDc := hD.sub (ws' := [(h0, .inr (9, [.ref m1, .ref m2, .ref m3, .int ik, .int wy, .int op, .int cl, .int cx0, .int cx1, .int cy0, .int cy1, .int ds, .ref m4, .ref m5, .ref m6, .ref m7, .ref m8, .ref m9, .int pn, .ref m10, .ref m11, .ref m12, .ref m13])), (m1, .inl (cI, 4, .inl gw))]) [0, 1] (by decide) rfl
  have hKc := hK.sub (tys' := [(cI, .int)]) [0] rfl
  have hFc := va_free (wc := [(h0, .inr (9, [.ref m1, .ref m2, .ref m3, .int ik, .int wy, .int op, .int cl, .int cx0, .int cx1, .int cy0, .int cy1, .int ds, .ref m4, .ref m5, .ref m6, .ref m7, .ref m8, .ref m9, .int pn, .ref m10, .ref m11, .ref m12, .ref m13])), (m1, .inl (cI, 4, .inl gw))]) hD hS hA [0, 1] rfl
  refine va_calli (va_runV (As := [.int k]) (rest := []) ⟨hx, hb, hml, hown, hts⟩ (k_X9_isSheet l D s.heap.size h0 m1 m2 m3 m4 m5 m6 m7 m8 m9 m10 m11 m12 m13 ik wy op cl cx0 cx1 cy0 cy1 ds pn gw k cI) (cwV 1 hts (gV bw_490 bw_415 bw_416 bw_391 bw_414) rfl rfl rfl (by decide +kernel) ⟨(by rw [hR]; exact Nat.le_of_ble_eq_true rfl), (by rw [hR]; exact Nat.le_of_ble_eq_true rfl)⟩) ⟨cP_blind, va_recv hKc hPc (ci := 9) (q0 := 0) rfl rfl, cP_at hPc hKc hDc hN⟩ rfl rfl hl.1 rfl (lv_room (Nat.le_of_ble_eq_true rfl)) dX9_count_2 ⟨(by rw [hR]; exact Nat.le_of_ble_eq_true rfl), (by rw [hR]; exact Nat.le_of_ble_eq_true rfl)⟩) hS (fun q _ h => hFc q h) hFc (fun r_1 u9 t9 H1 locs ht hvm hr_1 hB hz1 hk1 hS => ?_)
  try dsimp only at hr_1
  obtain ⟨hP1, hK1, hD1⟩ := hB
  rw [ht] at hP1
  obtain ⟨hP, hD⟩ := va_join (wr := [(m2, .inl (cI, 4, .inl gh)), (m3, .inl (cI, 16384, .inl gd))]) (w1 := [(h0, .inr (9, [.ref m1, .ref m2, .ref m3, .int ik, .int wy, .int op, .int cl, .int cx0, .int cx1, .int cy0, .int cy1, .int ds, .ref m4, .ref m5, .ref m6, .ref m7, .ref m8, .ref m9, .int pn, .ref m10, .ref m11, .ref m12, .ref m13])), (m1, .inl (cI, 4, .inl gw))]) hP hD [0, 1] [2, 3] rfl rfl (by decide) (by decide) hk1 hFc hP1 hD1
  clear hz1 hk1 hFc hKc hDc hPc
  generalize H1 = H at hP hS ⊢
  have hP : va_P D vwCl [(m2, .inl (cI, 4, .inl gh)), (m3, .inl (cI, 16384, .inl gd)), (h0, .inr (9, [.ref m1, .ref m2, .ref m3, .int ik, .int wy, .int op, .int cl, .int cx0, .int cx1, .int cy0, .int cy1, .int ds, .ref m4, .ref m5, .ref m6, .ref m7, .ref m8, .ref m9, .int pn, .ref m10, .ref m11, .ref m12, .ref m13])), (m1, .inl (cI, 4, .inl gw))] H := hP
  have hD : va_D A [(m2, .inl (cI, 4, .inl gh)), (m3, .inl (cI, 16384, .inl gd)), (h0, .inr (9, [.ref m1, .ref m2, .ref m3, .int ik, .int wy, .int op, .int cl, .int cx0, .int cx1, .int cy0, .int cy1, .int ds, .ref m4, .ref m5, .ref m6, .ref m7, .ref m8, .ref m9, .int pn, .ref m10, .ref m11, .ref m12, .ref m13])), (m1, .inl (cI, 4, .inl gw))] := hD
  refine lv_if_ne (tgt := 10) hx hb dX9_count_5 (by decide) (fun c_2 => ?_) (fun c_2 => ?_)
  · skip
    have f_3 := bz1 hr_1 c_2
    refine lv_iconst (v := 0) hx hb dX9_count_10 (by decide) ?_
    refine lv_istore_n (lv' := [(3, .int 0), (0, .ref h0), (1, .int k), (2, .int vl)]) hx hb dX9_count_11 rfl hl (by decide) rfl (fun ls hl => ?_)
    refine lv_iconst (v := 0) hx hb dX9_count_12 (by decide) ?_
    refine lv_istore (lv' := [(4, .int 0), (3, .int 0), (0, .ref h0), (1, .int k), (2, .int vl)]) hx hb dX9_count_13 hl (by decide) rfl (fun ls hl => ?_)
    have loop_4 : ∀ (n : Nat) (j : Nat) (x4 : Int32) (x3 : Int32) (H : Heap) (locs : List Loc) (ls : Array Slot), (j ≤ 64) → (64 + 1 ≤ j + n) → (x4 = nI j) → (j ≤ H9) → (x3 = smL (ctF (fun t => gd (4096 * k.toNatClampNeg + t)) vl) W9 0 j) → va_P D vwCl [(m2, .inl (cI, 4, .inl gh)), (m3, .inl (cI, 16384, .inl gd)), (h0, .inr (9, [.ref m1, .ref m2, .ref m3, .int ik, .int wy, .int op, .int cl, .int cx0, .int cx1, .int cy0, .int cy1, .int ds, .ref m4, .ref m5, .ref m6, .ref m7, .ref m8, .ref m9, .int pn, .ref m10, .ref m11, .ref m12, .ref m13])), (m1, .inl (cI, 4, .inl gw))] H → va_D A [(m2, .inl (cI, 4, .inl gh)), (m3, .inl (cI, 16384, .inl gd)), (h0, .inr (9, [.ref m1, .ref m2, .ref m3, .int ik, .int wy, .int op, .int cl, .int cx0, .int cx1, .int cy0, .int cy1, .int ds, .ref m4, .ref m5, .ref m6, .ref m7, .ref m8, .ref m9, .int pn, .ref m10, .ref m11, .ref m12, .ref m13])), (m1, .inl (cI, 4, .inl gw))] → va_S A s.heap H locs → lv_has ls 6 [(4, .int x4), (3, .int x3), (0, .ref h0), (1, .int k), (2, .int vl)] → W p l e R s m ([.ref h0, .int k, .int vl] : List Value).toArray below meth c H locs 0 0 Q (F0 m 15 ls []) := by
      intro n
      induction n with
      | zero =>
        intro j x4 x3 H locs ls hi_j hm_j ex_j hjo eto hP hD hS hl
        exact absurd (show False by omega) not_false
      | succ n ih_5 =>
        intro j x4 x3 H locs ls hi_j hm_j ex_j hjo eto hP hD hS hl
        have hx_j : x4.toInt = (j : Int) := by rw [ex_j]; exact nI_toInt (by omega)
        have hc_j : x4.toNatClampNeg = j := by rw [ex_j]; exact nI_clamp (by omega)
        refine lv_iload hx hb dX9_count_15 (lv_at hl 0 rfl) ?_
        refine lv_aload_n hx hb dX9_count_17 rfl (lv_at hl 2 rfl) ?_
        refine va_get (D := D) (ci := 9) (v := .ref m2) (C := RX9) (T := TX9) (N := 23) hx hb hts hi_X9 hown hK hP 2 rfl rfl 1 (by decide) (hts _ bw_397) (fun _ h9 => h9) rfl dX9_count_18 ?_
        refine lv_iload_n hx hb dX9_count_21 rfl (lv_at hl 3 rfl) ?_
        refine va_iald hx hb hK hP 0 0 rfl rfl (vp_in_iff.mpr ⟨by omega, by omega⟩) dX9_count_22 ?_
        refine lv_icmp_ge (tgt := 77) hx hb dX9_count_23 (by decide) (fun c_6 => ?_) (fun c_6 => ?_)
        · skip
          have f_7 : (gh k.toNatClampNeg).toInt ≤ (j : Int) := f_le rfl hx_j c_6
          refine lv_iload_n hx hb dX9_count_77 rfl (lv_at hl 1 rfl) ?_
          have hP9 := hP.sub (ws' := [(h0, .inr (9, [.ref m1, .ref m2, .ref m3, .int ik, .int wy, .int op, .int cl, .int cx0, .int cx1, .int cy0, .int cy1, .int ds, .ref m4, .ref m5, .ref m6, .ref m7, .ref m8, .ref m9, .int pn, .ref m10, .ref m11, .ref m12, .ref m13])), (m1, .inl (cI, 4, .inl gw)), (m2, .inl (cI, 4, .inl gh)), (m3, .inl (cI, 16384, .inl gd))]) [2, 3, 0, 1] rfl
          have hD9 := hD.sub (ws' := [(h0, .inr (9, [.ref m1, .ref m2, .ref m3, .int ik, .int wy, .int op, .int cl, .int cx0, .int cx1, .int cy0, .int cy1, .int ds, .ref m4, .ref m5, .ref m6, .ref m7, .ref m8, .ref m9, .int pn, .ref m10, .ref m11, .ref m12, .ref m13])), (m1, .inl (cI, 4, .inl gw)), (m2, .inl (cI, 4, .inl gh)), (m3, .inl (cI, 16384, .inl gd))]) [2, 3, 0, 1] (by decide) rfl
          have hK9 := hK.sub (tys' := [(cI, .int)]) [0] rfl
          refine hQ _ _ _ _ _ ?_
          exact W.iret (v := x3) hx hb hr (fun t ht hW => ⟨⟨x3, (), rfl, (by rw [eW9n, eH9n, ← show j = H9 by omega]; exact eto), ⟨by rw [ht]; exact hP9, va_K.moved hW.alike hK9, hD9⟩⟩, hS.F ht⟩) hS.2.2 dX9_count_78
        · skip
          have f_7 : ¬ ((gh k.toNatClampNeg).toInt ≤ (j : Int)) := fn_le rfl hx_j c_6
          refine lv_iconst (v := 0) hx hb dX9_count_26 (by decide) ?_
          refine lv_istore (lv' := [(5, .int 0), (4, .int x4), (3, .int x3), (0, .ref h0), (1, .int k), (2, .int vl)]) hx hb dX9_count_27 hl (by decide) rfl (fun ls hl => ?_)
          have loop_8 : ∀ (n : Nat) (i : Nat) (x5 : Int32) (z3 : Int32) (H : Heap) (locs : List Loc) (ls : Array Slot), (i ≤ 64) → (64 + 1 ≤ i + n) → (x5 = nI i) → (i ≤ W9) → (z3 = smR (ctF (fun t => gd (4096 * k.toNatClampNeg + t)) vl) j (smL (ctF (fun t => gd (4096 * k.toNatClampNeg + t)) vl) W9 0 j) i) → va_P D vwCl [(m2, .inl (cI, 4, .inl gh)), (m3, .inl (cI, 16384, .inl gd)), (h0, .inr (9, [.ref m1, .ref m2, .ref m3, .int ik, .int wy, .int op, .int cl, .int cx0, .int cx1, .int cy0, .int cy1, .int ds, .ref m4, .ref m5, .ref m6, .ref m7, .ref m8, .ref m9, .int pn, .ref m10, .ref m11, .ref m12, .ref m13])), (m1, .inl (cI, 4, .inl gw))] H → va_D A [(m2, .inl (cI, 4, .inl gh)), (m3, .inl (cI, 16384, .inl gd)), (h0, .inr (9, [.ref m1, .ref m2, .ref m3, .int ik, .int wy, .int op, .int cl, .int cx0, .int cx1, .int cy0, .int cy1, .int ds, .ref m4, .ref m5, .ref m6, .ref m7, .ref m8, .ref m9, .int pn, .ref m10, .ref m11, .ref m12, .ref m13])), (m1, .inl (cI, 4, .inl gw))] → va_S A s.heap H locs → lv_has ls 6 [(5, .int x5), (4, .int x4), (3, .int z3), (0, .ref h0), (1, .int k), (2, .int vl)] → W p l e R s m ([.ref h0, .int k, .int vl] : List Value).toArray below meth c H locs 0 0 Q (F0 m 29 ls []) := by
            intro n
            induction n with
            | zero =>
              intro i x5 z3 H locs ls hi_i hm_i ex_i hio eti hP hD hS hl
              exact absurd (show False by omega) not_false
            | succ n ih_9 =>
              intro i x5 z3 H locs ls hi_i hm_i ex_i hio eti hP hD hS hl
              have hx_i : x5.toInt = (i : Int) := by rw [ex_i]; exact nI_toInt (by omega)
              have hc_i : x5.toNatClampNeg = i := by rw [ex_i]; exact nI_clamp (by omega)
              refine lv_iload hx hb dX9_count_29 (lv_at hl 0 rfl) ?_
              refine lv_aload_n hx hb dX9_count_31 rfl (lv_at hl 3 rfl) ?_
              refine va_get (D := D) (ci := 9) (v := .ref m1) (C := RX9) (T := TX9) (N := 23) hx hb hts hi_X9 hown hK hP 2 rfl rfl 0 (by decide) (hts _ bw_396) (fun _ h9 => h9) rfl dX9_count_32 ?_
              refine lv_iload_n hx hb dX9_count_35 rfl (lv_at hl 4 rfl) ?_
              refine va_iald hx hb hK hP 3 0 rfl rfl (vp_in_iff.mpr ⟨by omega, by omega⟩) dX9_count_36 ?_
              refine lv_icmp_ge (tgt := 71) hx hb dX9_count_37 (by decide) (fun c_10 => ?_) (fun c_10 => ?_)
              · skip
                have f_11 : (gw k.toNatClampNeg).toInt ≤ (i : Int) := f_le rfl hx_i c_10
                obtain ⟨y_12, ey_12⟩ : ∃ y : Int32, y = x4 + 1 := ⟨_, rfl⟩
                refine lv_iinc (v := y_12) (lv' := [(4, .int y_12), (5, .int x5), (3, .int z3), (0, .ref h0), (1, .int k), (2, .int vl)]) hx hb dX9_count_71 hl (k := 1) rfl (by rw [ey_12]; rfl) (by decide) rfl (fun ls hl => ?_)
                refine lv_goto (tgt := 15) hx hb dX9_count_74 (by decide) ?_
                exact ih_5 (j + 1) y_12 z3 _ _ _ (by omega) (by omega) (by rw [ey_12, ex_j]; exact nI_1 j) (by omega) (sm_nx eti (by omega)) (hP.sub (ws' := [(m2, .inl (cI, 4, .inl gh)), (m3, .inl (cI, 16384, .inl gd)), (h0, .inr (9, [.ref m1, .ref m2, .ref m3, .int ik, .int wy, .int op, .int cl, .int cx0, .int cx1, .int cy0, .int cy1, .int ds, .ref m4, .ref m5, .ref m6, .ref m7, .ref m8, .ref m9, .int pn, .ref m10, .ref m11, .ref m12, .ref m13])), (m1, .inl (cI, 4, .inl gw))]) [0, 1, 2, 3] rfl) (hD.sub (ws' := [(m2, .inl (cI, 4, .inl gh)), (m3, .inl (cI, 16384, .inl gd)), (h0, .inr (9, [.ref m1, .ref m2, .ref m3, .int ik, .int wy, .int op, .int cl, .int cx0, .int cx1, .int cy0, .int cy1, .int ds, .ref m4, .ref m5, .ref m6, .ref m7, .ref m8, .ref m9, .int pn, .ref m10, .ref m11, .ref m12, .ref m13])), (m1, .inl (cI, 4, .inl gw))]) [0, 1, 2, 3] (by decide) rfl) hS (lv_sub hl [0, 2, 3, 4, 5] rfl)
              · skip
                have f_11 : ¬ ((gw k.toNatClampNeg).toInt ≤ (i : Int)) := fn_le rfl hx_i c_10
                refine lv_iload_n hx hb dX9_count_40 rfl (lv_at hl 2 rfl) ?_
                refine lv_aload_n hx hb dX9_count_41 rfl (lv_at hl 3 rfl) ?_
                refine va_get (D := D) (ci := 9) (v := .ref m3) (C := RX9) (T := TX9) (N := 23) hx hb hts hi_X9 hown hK hP 2 rfl rfl 2 (by decide) (hts _ bw_398) (fun _ h9 => h9) rfl dX9_count_42 ?_
                refine lv_iload_n hx hb dX9_count_45 rfl (lv_at hl 4 rfl) ?_
                refine lv_iload hx hb dX9_count_46 (lv_at hl 0 rfl) ?_
                refine lv_iload hx hb dX9_count_48 (lv_at hl 1 rfl) ?_
                have hPc := hP.sub (ws' := []) [] rfl
                have hDc := hD.sub (ws' := []) [] (by decide) rfl
                have hKc := hK.sub (tys' := []) [] rfl
                have hFc := va_free (wc := []) hD hS hA [] rfl
                refine va_calli (va_runS (As := [.int k, .int x5, .int x4]) (rest := [.ref m3, .int z3]) ⟨hx, hb, hml, hown, hts⟩ (k_X9_spot l D H.size k x5 x4) (va_cwS 3 hts (gS bw_551 bw_421 bw_391 bw_420) rfl rfl rfl (by decide +kernel) ⟨(by rw [hR]; exact Nat.le_of_ble_eq_true rfl), (by rw [hR]; exact Nat.le_of_ble_eq_true rfl)⟩) ⟨cP_blind, cP_at hPc hKc hDc hN⟩ rfl rfl hl.1 rfl (lv_room (Nat.le_of_ble_eq_true rfl)) dX9_count_50 ⟨(by rw [hR]; exact Nat.le_of_ble_eq_true rfl), (by rw [hR]; exact Nat.le_of_ble_eq_true rfl)⟩) hS (fun q _ h => hFc q h) hFc (fun r_13 u9 t9 H1 locs ht hvm hr_13 hB hz1 hk1 hS => ?_)
                try dsimp only at hr_13
                have hP1 : va_P D vwCl [] H1 := vP_nil
                have hD1 : va_D (va_A [] H.size) [] := vD_nil
                obtain ⟨hP, hD⟩ := va_join (wr := [(m2, .inl (cI, 4, .inl gh)), (m3, .inl (cI, 16384, .inl gd)), (h0, .inr (9, [.ref m1, .ref m2, .ref m3, .int ik, .int wy, .int op, .int cl, .int cx0, .int cx1, .int cy0, .int cy1, .int ds, .ref m4, .ref m5, .ref m6, .ref m7, .ref m8, .ref m9, .int pn, .ref m10, .ref m11, .ref m12, .ref m13])), (m1, .inl (cI, 4, .inl gw))]) (w1 := []) hP hD [] [0, 1, 2, 3] rfl rfl (by decide) (by decide) hk1 hFc hP1 hD1
                clear hz1 hk1 hFc hKc hDc hPc
                generalize H1 = H at hP hS ⊢
                have hP : va_P D vwCl [(m2, .inl (cI, 4, .inl gh)), (m3, .inl (cI, 16384, .inl gd)), (h0, .inr (9, [.ref m1, .ref m2, .ref m3, .int ik, .int wy, .int op, .int cl, .int cx0, .int cx1, .int cy0, .int cy1, .int ds, .ref m4, .ref m5, .ref m6, .ref m7, .ref m8, .ref m9, .int pn, .ref m10, .ref m11, .ref m12, .ref m13])), (m1, .inl (cI, 4, .inl gw))] H := hP
                have hD : va_D A [(m2, .inl (cI, 4, .inl gh)), (m3, .inl (cI, 16384, .inl gd)), (h0, .inr (9, [.ref m1, .ref m2, .ref m3, .int ik, .int wy, .int op, .int cl, .int cx0, .int cx1, .int cy0, .int cy1, .int ds, .ref m4, .ref m5, .ref m6, .ref m7, .ref m8, .ref m9, .int pn, .ref m10, .ref m11, .ref m12, .ref m13])), (m1, .inl (cI, 4, .inl gw))] := hD
                refine va_iald hx hb hK hP 1 0 rfl rfl (by rw [hr_13]; exact sp_in (by omega) (by omega) (by omega) (by omega) (by omega) (by omega)) dX9_count_53 ?_
                refine my_fold (v := gd (4096 * k.toNatClampNeg + ixP (nI i) (nI j))) (congrArg gd (by rw [hr_13, sp_cl (by omega) (by omega) (by omega) (by omega) (by omega) (by omega), ex_i, ex_j])) ?_
                refine lv_iload_n hx hb dX9_count_54 rfl (lv_at hl 5 rfl) ?_
                refine lv_icmp_ne (tgt := 62) hx hb dX9_count_55 (by decide) (fun c_14 => ?_) (fun c_14 => ?_)
                · skip
                  have f_15 : ¬ ((gd (4096 * k.toNatClampNeg + ixP (nI i) (nI j))).toInt = vl.toInt) := fn_eq rfl rfl c_14
                  refine lv_iconst (v := 0) hx hb dX9_count_62 (by decide) ?_
                  refine lv_iadd hx hb dX9_count_63 ?_
                  refine lv_topi (fun y_16 ey_16 => ?_)
                  refine lv_istore_n (lv' := [(3, .int y_16), (5, .int x5), (4, .int x4), (0, .ref h0), (1, .int k), (2, .int vl)]) hx hb dX9_count_64 rfl hl (by decide) rfl (fun ls hl => ?_)
                  obtain ⟨y_17, ey_17⟩ : ∃ y : Int32, y = x5 + 1 := ⟨_, rfl⟩
                  refine lv_iinc (v := y_17) (lv' := [(5, .int y_17), (3, .int y_16), (4, .int x4), (0, .ref h0), (1, .int k), (2, .int vl)]) hx hb dX9_count_65 hl (k := 1) rfl (by rw [ey_17]; rfl) (by decide) rfl (fun ls hl => ?_)
                  refine lv_goto (tgt := 29) hx hb dX9_count_68 (by decide) ?_
                  exact ih_9 (i + 1) y_17 y_16 _ _ _ (by omega) (by omega) (by rw [ey_17, ex_i]; exact nI_1 i) (by omega) (by rw [ey_16, Int32.add_zero, eti]; exact (ct_n (g := (fun t => gd (4096 * k.toNatClampNeg + t))) c_14).symm) (hP.sub (ws' := [(m2, .inl (cI, 4, .inl gh)), (m3, .inl (cI, 16384, .inl gd)), (h0, .inr (9, [.ref m1, .ref m2, .ref m3, .int ik, .int wy, .int op, .int cl, .int cx0, .int cx1, .int cy0, .int cy1, .int ds, .ref m4, .ref m5, .ref m6, .ref m7, .ref m8, .ref m9, .int pn, .ref m10, .ref m11, .ref m12, .ref m13])), (m1, .inl (cI, 4, .inl gw))]) [0, 1, 2, 3] rfl) (hD.sub (ws' := [(m2, .inl (cI, 4, .inl gh)), (m3, .inl (cI, 16384, .inl gd)), (h0, .inr (9, [.ref m1, .ref m2, .ref m3, .int ik, .int wy, .int op, .int cl, .int cx0, .int cx1, .int cy0, .int cy1, .int ds, .ref m4, .ref m5, .ref m6, .ref m7, .ref m8, .ref m9, .int pn, .ref m10, .ref m11, .ref m12, .ref m13])), (m1, .inl (cI, 4, .inl gw))]) [0, 1, 2, 3] (by decide) rfl) hS (lv_sub hl [0, 2, 1, 3, 4, 5] rfl)
                · skip
                  have f_15 : (gd (4096 * k.toNatClampNeg + ixP (nI i) (nI j))).toInt = vl.toInt := f_eq rfl rfl c_14
                  refine lv_iconst (v := 1) hx hb dX9_count_58 (by decide) ?_
                  refine lv_goto (tgt := 63) hx hb dX9_count_59 (by decide) ?_
                  refine lv_iadd hx hb dX9_count_63 ?_
                  refine lv_topi (fun y_18 ey_18 => ?_)
                  refine lv_istore_n (lv' := [(3, .int y_18), (5, .int x5), (4, .int x4), (0, .ref h0), (1, .int k), (2, .int vl)]) hx hb dX9_count_64 rfl hl (by decide) rfl (fun ls hl => ?_)
                  obtain ⟨y_19, ey_19⟩ : ∃ y : Int32, y = x5 + 1 := ⟨_, rfl⟩
                  refine lv_iinc (v := y_19) (lv' := [(5, .int y_19), (3, .int y_18), (4, .int x4), (0, .ref h0), (1, .int k), (2, .int vl)]) hx hb dX9_count_65 hl (k := 1) rfl (by rw [ey_19]; rfl) (by decide) rfl (fun ls hl => ?_)
                  refine lv_goto (tgt := 29) hx hb dX9_count_68 (by decide) ?_
                  exact ih_9 (i + 1) y_19 y_18 _ _ _ (by omega) (by omega) (by rw [ey_19, ex_i]; exact nI_1 i) (by omega) (by rw [ey_18, eti]; exact (ct_y (g := (fun t => gd (4096 * k.toNatClampNeg + t))) c_14).symm) (hP.sub (ws' := [(m2, .inl (cI, 4, .inl gh)), (m3, .inl (cI, 16384, .inl gd)), (h0, .inr (9, [.ref m1, .ref m2, .ref m3, .int ik, .int wy, .int op, .int cl, .int cx0, .int cx1, .int cy0, .int cy1, .int ds, .ref m4, .ref m5, .ref m6, .ref m7, .ref m8, .ref m9, .int pn, .ref m10, .ref m11, .ref m12, .ref m13])), (m1, .inl (cI, 4, .inl gw))]) [0, 1, 2, 3] rfl) (hD.sub (ws' := [(m2, .inl (cI, 4, .inl gh)), (m3, .inl (cI, 16384, .inl gd)), (h0, .inr (9, [.ref m1, .ref m2, .ref m3, .int ik, .int wy, .int op, .int cl, .int cx0, .int cx1, .int cy0, .int cy1, .int ds, .ref m4, .ref m5, .ref m6, .ref m7, .ref m8, .ref m9, .int pn, .ref m10, .ref m11, .ref m12, .ref m13])), (m1, .inl (cI, 4, .inl gw))]) [0, 1, 2, 3] (by decide) rfl) hS (lv_sub hl [0, 2, 1, 3, 4, 5] rfl)
          exact loop_8 (64 + 1) 0 0 x3 _ _ _ (by omega) (by omega) nI_0.symm (by omega) eto hP hD hS (lv_sub hl [0, 1, 2, 3, 4, 5] rfl)
    exact loop_4 (64 + 1) 0 0 0 _ _ _ (by omega) (by omega) nI_0.symm (by omega) rfl hP hD hS (lv_sub hl [0, 1, 2, 3, 4] rfl)
  · skip
    have f_3 := bz0 hr_1 c_2
    exact False.elim (by omega)

set_option maxHeartbeats 4000000 in
set_option maxRecDepth 100000 in
theorem k_X9_count_ne (l : Launch) (D : va_G) (sz : Nat) (h0 m1 m2 m3 m4 m5 m6 m7 m8 m9 m10 m11 m12 m13 : Nat) (ik wy op cl cx0 cx1 cy0 cy1 ds pn : Int32) (gw : Nat → Int32) (k vl : Int32) (cI : ClassId) (hns : ¬ (0 ≤ k.toInt ∧ k.toInt ≤ 3 ∧ 0 < (gw k.toNatClampNeg).toInt)) : Met l yX9_count (wB yX9_count cX9_count 6 (some .int)) ({ frames := 1, cells := 0, slots := 0, locals := 21 }) (cP D [(h0, .inr (9, [.ref m1, .ref m2, .ref m3, .int ik, .int wy, .int op, .int cl, .int cx0, .int cx1, .int cy0, .int cy1, .int ds, .ref m4, .ref m5, .ref m6, .ref m7, .ref m8, .ref m9, .int pn, .ref m10, .ref m11, .ref m12, .ref m13])), (m1, .inl (cI, 4, .inl gw))] [(cI, .int)] sz [.ref h0, .int k, .int vl]) (va_Qi (fun (r : Int32) (_ : Unit) => r = -1) (fun (_ : Unit) (t : State) => cB D (va_A [(h0, .inr (9, [.ref m1, .ref m2, .ref m3, .int ik, .int wy, .int op, .int cl, .int cx0, .int cx1, .int cy0, .int cy1, .int ds, .ref m4, .ref m5, .ref m6, .ref m7, .ref m8, .ref m9, .int pn, .ref m10, .ref m11, .ref m12, .ref m13])), (m1, .inl (cI, 4, .inl gw))] sz) [(h0, .inr (9, [.ref m1, .ref m2, .ref m3, .int ik, .int wy, .int op, .int cl, .int cx0, .int cx1, .int cy0, .int cy1, .int ds, .ref m4, .ref m5, .ref m6, .ref m7, .ref m8, .ref m9, .int pn, .ref m10, .ref m11, .ref m12, .ref m13])), (m1, .inl (cI, 4, .inl gw))] [(cI, .int)] t) (va_A [(h0, .inr (9, [.ref m1, .ref m2, .ref m3, .int ik, .int wy, .int op, .int cl, .int cx0, .int cx1, .int cy0, .int cy1, .int ds, .ref m4, .ref m5, .ref m6, .ref m7, .ref m8, .ref m9, .int pn, .ref m10, .ref m11, .ref m12, .ref m13])), (m1, .inl (cI, 4, .inl gw))] sz)) 0 0 (va_A [(h0, .inr (9, [.ref m1, .ref m2, .ref m3, .int ik, .int wy, .int op, .int cl, .int cx0, .int cx1, .int cy0, .int cy1, .int ds, .ref m4, .ref m5, .ref m6, .ref m7, .ref m8, .ref m9, .int pn, .ref m10, .ref m11, .ref m12, .ref m13])), (m1, .inl (cI, 4, .inl gw))] sz) := by
  refine Met.ofW (cc := cX9_count) (maxL := 6) (ret := (some .int)) (by decide) rfl ?_
  intro p e s m args below meth c s₁ B hml hv
  obtain ⟨rfl, hsz, hP, hK, hD0, hN⟩ := hv
  have hx := B.exec
  have hb := B.bytes
  have hr := B.returns
  have hts0 := atoms_spec (ws := (wB yX9_count cX9_count 6 (some .int))) B.pre
  have hts : ∀ w ∈ bigW, w.before _ s = true := fun w h => hts0 w (List.mem_cons_of_mem _ h)
  have hown : s.vm.findClass RX9 = some m.cls := findClass_of_methodNamed B.named
  have hlocks := B.notSynchronized
  subst hsz
  have hD := hD0.self (sz := s.heap.size)
  generalize hAe : va_A [(h0, .inr (9, [.ref m1, .ref m2, .ref m3, .int ik, .int wy, .int op, .int cl, .int cx0, .int cx1, .int cy0, .int cy1, .int ds, .ref m4, .ref m5, .ref m6, .ref m7, .ref m8, .ref m9, .int pn, .ref m10, .ref m11, .ref m12, .ref m13])), (m1, .inl (cI, 4, .inl gw))] s.heap.size = A at hD ⊢
  have hA : ∀ q : Nat, s.heap.size ≤ q → A q := fun q h => by rw [← hAe]; exact Or.inr h
  have hS : va_S A s.heap s.heap [] := va_S.rf
  have hP : va_P D vwCl [(h0, .inr (9, [.ref m1, .ref m2, .ref m3, .int ik, .int wy, .int op, .int cl, .int cx0, .int cx1, .int cy0, .int cy1, .int ds, .ref m4, .ref m5, .ref m6, .ref m7, .ref m8, .ref m9, .int pn, .ref m10, .ref m11, .ref m12, .ref m13])), (m1, .inl (cI, 4, .inl gw))] s.heap := hP
  have hl := lv_entry ([.ref h0, .int k, .int vl]) (n := 6) (Nat.le_of_ble_eq_true rfl)
  rw [lg_entry_eq]
  generalize (lg_sl ([.ref h0, .int k, .int vl]) ++ List.replicate (6 - (lg_sl ([.ref h0, .int k, .int vl])).length) Slot.unset).toArray = ls at hl ⊢
  have hl : lv_has ls 6 [(0, .ref h0), (1, .int k), (2, .int vl)] := hl
  clear hts0 hD0 hAe
  refine my_abs (fun R Q hR hQ => ?_)
  refine lv_aload_n hx hb dX9_count_0 rfl (lv_at hl 0 rfl) ?_
  refine lv_iload_n hx hb dX9_count_1 rfl (lv_at hl 1 rfl) ?_
  have hPc := hP.sub (ws' := [(h0, .inr (9, [.ref m1, .ref m2, .ref m3, .int ik, .int wy, .int op, .int cl, .int cx0, .int cx1, .int cy0, .int cy1, .int ds, .ref m4, .ref m5, .ref m6, .ref m7, .ref m8, .ref m9, .int pn, .ref m10, .ref m11, .ref m12, .ref m13])), (m1, .inl (cI, 4, .inl gw))]) [0, 1] rfl
  have hDc := hD.sub (ws' := [(h0, .inr (9, [.ref m1, .ref m2, .ref m3, .int ik, .int wy, .int op, .int cl, .int cx0, .int cx1, .int cy0, .int cy1, .int ds, .ref m4, .ref m5, .ref m6, .ref m7, .ref m8, .ref m9, .int pn, .ref m10, .ref m11, .ref m12, .ref m13])), (m1, .inl (cI, 4, .inl gw))]) [0, 1] (by decide) rfl
  have hKc := hK.sub (tys' := [(cI, .int)]) [0] rfl
  have hFc := va_free (wc := [(h0, .inr (9, [.ref m1, .ref m2, .ref m3, .int ik, .int wy, .int op, .int cl, .int cx0, .int cx1, .int cy0, .int cy1, .int ds, .ref m4, .ref m5, .ref m6, .ref m7, .ref m8, .ref m9, .int pn, .ref m10, .ref m11, .ref m12, .ref m13])), (m1, .inl (cI, 4, .inl gw))]) hD hS hA [0, 1] rfl
  refine va_calli (va_runV (As := [.int k]) (rest := []) ⟨hx, hb, hml, hown, hts⟩ (k_X9_isSheet l D s.heap.size h0 m1 m2 m3 m4 m5 m6 m7 m8 m9 m10 m11 m12 m13 ik wy op cl cx0 cx1 cy0 cy1 ds pn gw k cI) (cwV 1 hts (gV bw_490 bw_415 bw_416 bw_391 bw_414) rfl rfl rfl (by decide +kernel) ⟨(by rw [hR]; exact Nat.le_of_ble_eq_true rfl), (by rw [hR]; exact Nat.le_of_ble_eq_true rfl)⟩) ⟨cP_blind, va_recv hKc hPc (ci := 9) (q0 := 0) rfl rfl, cP_at hPc hKc hDc hN⟩ rfl rfl hl.1 rfl (lv_room (Nat.le_of_ble_eq_true rfl)) dX9_count_2 ⟨(by rw [hR]; exact Nat.le_of_ble_eq_true rfl), (by rw [hR]; exact Nat.le_of_ble_eq_true rfl)⟩) hS (fun q _ h => hFc q h) hFc (fun r_1 u9 t9 H1 locs ht hvm hr_1 hB hz1 hk1 hS => ?_)
  try dsimp only at hr_1
  obtain ⟨hP1, hK1, hD1⟩ := hB
  rw [ht] at hP1
  obtain ⟨hP, hD⟩ := va_join (wr := []) (w1 := [(h0, .inr (9, [.ref m1, .ref m2, .ref m3, .int ik, .int wy, .int op, .int cl, .int cx0, .int cx1, .int cy0, .int cy1, .int ds, .ref m4, .ref m5, .ref m6, .ref m7, .ref m8, .ref m9, .int pn, .ref m10, .ref m11, .ref m12, .ref m13])), (m1, .inl (cI, 4, .inl gw))]) hP hD [0, 1] [] rfl rfl (by decide) (by decide) hk1 hFc hP1 hD1
  clear hz1 hk1 hFc hKc hDc hPc
  generalize H1 = H at hP hS ⊢
  have hP : va_P D vwCl [(h0, .inr (9, [.ref m1, .ref m2, .ref m3, .int ik, .int wy, .int op, .int cl, .int cx0, .int cx1, .int cy0, .int cy1, .int ds, .ref m4, .ref m5, .ref m6, .ref m7, .ref m8, .ref m9, .int pn, .ref m10, .ref m11, .ref m12, .ref m13])), (m1, .inl (cI, 4, .inl gw))] H := hP
  have hD : va_D A [(h0, .inr (9, [.ref m1, .ref m2, .ref m3, .int ik, .int wy, .int op, .int cl, .int cx0, .int cx1, .int cy0, .int cy1, .int ds, .ref m4, .ref m5, .ref m6, .ref m7, .ref m8, .ref m9, .int pn, .ref m10, .ref m11, .ref m12, .ref m13])), (m1, .inl (cI, 4, .inl gw))] := hD
  refine lv_if_ne (tgt := 10) hx hb dX9_count_5 (by decide) (fun c_2 => ?_) (fun c_2 => ?_)
  · skip
    have f_3 := bz1 hr_1 c_2
    exact False.elim (by omega)
  · skip
    have f_3 := bz0 hr_1 c_2
    refine lv_iconst (v := (-1)) hx hb dX9_count_8 (by decide) ?_
    have hP9 := hP.sub (ws' := [(h0, .inr (9, [.ref m1, .ref m2, .ref m3, .int ik, .int wy, .int op, .int cl, .int cx0, .int cx1, .int cy0, .int cy1, .int ds, .ref m4, .ref m5, .ref m6, .ref m7, .ref m8, .ref m9, .int pn, .ref m10, .ref m11, .ref m12, .ref m13])), (m1, .inl (cI, 4, .inl gw))]) [0, 1] rfl
    have hD9 := hD.sub (ws' := [(h0, .inr (9, [.ref m1, .ref m2, .ref m3, .int ik, .int wy, .int op, .int cl, .int cx0, .int cx1, .int cy0, .int cy1, .int ds, .ref m4, .ref m5, .ref m6, .ref m7, .ref m8, .ref m9, .int pn, .ref m10, .ref m11, .ref m12, .ref m13])), (m1, .inl (cI, 4, .inl gw))]) [0, 1] (by decide) rfl
    have hK9 := hK.sub (tys' := [(cI, .int)]) [0] rfl
    refine hQ _ _ _ _ _ ?_
    exact W.iret (v := (-1)) hx hb hr (fun t ht hW => ⟨⟨(-1), (), rfl, rfl, ⟨by rw [ht]; exact hP9, va_K.moved hW.alike hK9, hD9⟩⟩, hS.F ht⟩) hS.2.2 dX9_count_9

set_option maxHeartbeats 4000000 in
set_option maxRecDepth 100000 in
theorem k_X9_differ_ye (l : Launch) (D : va_G) (sz : Nat) (h0 m1 m2 m3 m4 m5 m6 m7 m8 m9 m10 m11 m12 m13 : Nat) (ik wy op cl cx0 cx1 cy0 cy1 ds pn : Int32) (gw : Nat → Int32) (gh : Nat → Int32) (gd : Nat → Int32) (k kq : Int32) (cI : ClassId) (hgkw : 0 ≤ (gw k.toNatClampNeg).toInt ∧ (gw k.toNatClampNeg).toInt ≤ 64) (hgkh : 0 ≤ (gh k.toNatClampNeg).toInt ∧ (gh k.toNatClampNeg).toInt ≤ 64) (hgqw : 0 ≤ (gw kq.toNatClampNeg).toInt ∧ (gw kq.toNatClampNeg).toInt ≤ 64) (hgqh : 0 ≤ (gh kq.toNatClampNeg).toInt ∧ (gh kq.toNatClampNeg).toInt ≤ 64) (hcd : ((0 ≤ k.toInt ∧ k.toInt ≤ 3 ∧ 0 < (gw k.toNatClampNeg).toInt) ∧ (0 ≤ kq.toInt ∧ kq.toInt ≤ 3 ∧ 0 < (gw kq.toNatClampNeg).toInt)) ∧ ((gw k.toNatClampNeg).toInt = (gw kq.toNatClampNeg).toInt ∧ (gh k.toNatClampNeg).toInt = (gh kq.toNatClampNeg).toInt)) : Met l yX9_differ (wB yX9_differ cX9_differ 6 (some .int)) ({ frames := 1, cells := 0, slots := 0, locals := 22 }) (cP D [(h0, .inr (9, [.ref m1, .ref m2, .ref m3, .int ik, .int wy, .int op, .int cl, .int cx0, .int cx1, .int cy0, .int cy1, .int ds, .ref m4, .ref m5, .ref m6, .ref m7, .ref m8, .ref m9, .int pn, .ref m10, .ref m11, .ref m12, .ref m13])), (m1, .inl (cI, 4, .inl gw)), (m2, .inl (cI, 4, .inl gh)), (m3, .inl (cI, 16384, .inl gd))] [(cI, .int)] sz [.ref h0, .int k, .int kq]) (va_Qi (fun (r : Int32) (_ : Unit) => r = smL (dfF (fun t => gd (4096 * k.toNatClampNeg + t)) (fun t => gd (4096 * kq.toNatClampNeg + t))) (gw k.toNatClampNeg).toNatClampNeg 0 (gh k.toNatClampNeg).toNatClampNeg) (fun (_ : Unit) (t : State) => cB D (va_A [(h0, .inr (9, [.ref m1, .ref m2, .ref m3, .int ik, .int wy, .int op, .int cl, .int cx0, .int cx1, .int cy0, .int cy1, .int ds, .ref m4, .ref m5, .ref m6, .ref m7, .ref m8, .ref m9, .int pn, .ref m10, .ref m11, .ref m12, .ref m13])), (m1, .inl (cI, 4, .inl gw)), (m2, .inl (cI, 4, .inl gh)), (m3, .inl (cI, 16384, .inl gd))] sz) [(h0, .inr (9, [.ref m1, .ref m2, .ref m3, .int ik, .int wy, .int op, .int cl, .int cx0, .int cx1, .int cy0, .int cy1, .int ds, .ref m4, .ref m5, .ref m6, .ref m7, .ref m8, .ref m9, .int pn, .ref m10, .ref m11, .ref m12, .ref m13])), (m1, .inl (cI, 4, .inl gw)), (m2, .inl (cI, 4, .inl gh)), (m3, .inl (cI, 16384, .inl gd))] [(cI, .int)] t) (va_A [(h0, .inr (9, [.ref m1, .ref m2, .ref m3, .int ik, .int wy, .int op, .int cl, .int cx0, .int cx1, .int cy0, .int cy1, .int ds, .ref m4, .ref m5, .ref m6, .ref m7, .ref m8, .ref m9, .int pn, .ref m10, .ref m11, .ref m12, .ref m13])), (m1, .inl (cI, 4, .inl gw)), (m2, .inl (cI, 4, .inl gh)), (m3, .inl (cI, 16384, .inl gd))] sz)) 0 0 (va_A [(h0, .inr (9, [.ref m1, .ref m2, .ref m3, .int ik, .int wy, .int op, .int cl, .int cx0, .int cx1, .int cy0, .int cy1, .int ds, .ref m4, .ref m5, .ref m6, .ref m7, .ref m8, .ref m9, .int pn, .ref m10, .ref m11, .ref m12, .ref m13])), (m1, .inl (cI, 4, .inl gw)), (m2, .inl (cI, 4, .inl gh)), (m3, .inl (cI, 16384, .inl gd))] sz) := by
  refine Met.ofW (cc := cX9_differ) (maxL := 6) (ret := (some .int)) (by decide) rfl ?_
  intro p e s m args below meth c s₁ B hml hv
  obtain ⟨rfl, hsz, hP, hK, hD0, hN⟩ := hv
  have hx := B.exec
  have hb := B.bytes
  have hr := B.returns
  have hts0 := atoms_spec (ws := (wB yX9_differ cX9_differ 6 (some .int))) B.pre
  have hts : ∀ w ∈ bigW, w.before _ s = true := fun w h => hts0 w (List.mem_cons_of_mem _ h)
  have hown : s.vm.findClass RX9 = some m.cls := findClass_of_methodNamed B.named
  have hlocks := B.notSynchronized
  subst hsz
  have hD := hD0.self (sz := s.heap.size)
  generalize hAe : va_A [(h0, .inr (9, [.ref m1, .ref m2, .ref m3, .int ik, .int wy, .int op, .int cl, .int cx0, .int cx1, .int cy0, .int cy1, .int ds, .ref m4, .ref m5, .ref m6, .ref m7, .ref m8, .ref m9, .int pn, .ref m10, .ref m11, .ref m12, .ref m13])), (m1, .inl (cI, 4, .inl gw)), (m2, .inl (cI, 4, .inl gh)), (m3, .inl (cI, 16384, .inl gd))] s.heap.size = A at hD ⊢
  have hA : ∀ q : Nat, s.heap.size ≤ q → A q := fun q h => by rw [← hAe]; exact Or.inr h
  have hS : va_S A s.heap s.heap [] := va_S.rf
  have hP : va_P D vwCl [(h0, .inr (9, [.ref m1, .ref m2, .ref m3, .int ik, .int wy, .int op, .int cl, .int cx0, .int cx1, .int cy0, .int cy1, .int ds, .ref m4, .ref m5, .ref m6, .ref m7, .ref m8, .ref m9, .int pn, .ref m10, .ref m11, .ref m12, .ref m13])), (m1, .inl (cI, 4, .inl gw)), (m2, .inl (cI, 4, .inl gh)), (m3, .inl (cI, 16384, .inl gd))] s.heap := hP
  have hl := lv_entry ([.ref h0, .int k, .int kq]) (n := 6) (Nat.le_of_ble_eq_true rfl)
  rw [lg_entry_eq]
  generalize (lg_sl ([.ref h0, .int k, .int kq]) ++ List.replicate (6 - (lg_sl ([.ref h0, .int k, .int kq])).length) Slot.unset).toArray = ls at hl ⊢
  have hl : lv_has ls 6 [(0, .ref h0), (1, .int k), (2, .int kq)] := hl
  clear hts0 hD0 hAe
  refine my_abs (fun R Q hR hQ => ?_)
  obtain ⟨W9, hW9, eW9⟩ := i_of (x := gw k.toNatClampNeg) (N := 65) (by omega) (by omega) (by decide)
  have eW9n : (gw k.toNatClampNeg).toNatClampNeg = W9 := by rw [eW9]; exact nI_clamp (by omega)
  have hW9t : (gw k.toNatClampNeg).toInt = (W9 : Int) := by rw [eW9]; exact nI_toInt (by omega)
  obtain ⟨H9, hH9, eH9⟩ := i_of (x := gh k.toNatClampNeg) (N := 65) (by omega) (by omega) (by decide)
  have eH9n : (gh k.toNatClampNeg).toNatClampNeg = H9 := by rw [eH9]; exact nI_clamp (by omega)
  have hH9t : (gh k.toNatClampNeg).toInt = (H9 : Int) := by rw [eH9]; exact nI_toInt (by omega)
  refine lv_aload_n hx hb dX9_differ_0 rfl (lv_at hl 0 rfl) ?_
  refine lv_iload_n hx hb dX9_differ_1 rfl (lv_at hl 1 rfl) ?_
  have hPc := hP.sub (ws' := [(h0, .inr (9, [.ref m1, .ref m2, .ref m3, .int ik, .int wy, .int op, .int cl, .int cx0, .int cx1, .int cy0, .int cy1, .int ds, .ref m4, .ref m5, .ref m6, .ref m7, .ref m8, .ref m9, .int pn, .ref m10, .ref m11, .ref m12, .ref m13])), (m1, .inl (cI, 4, .inl gw))]) [0, 1] rfl
  have hDc := hD.sub (ws' := [(h0, .inr (9, [.ref m1, .ref m2, .ref m3, .int ik, .int wy, .int op, .int cl, .int cx0, .int cx1, .int cy0, .int cy1, .int ds, .ref m4, .ref m5, .ref m6, .ref m7, .ref m8, .ref m9, .int pn, .ref m10, .ref m11, .ref m12, .ref m13])), (m1, .inl (cI, 4, .inl gw))]) [0, 1] (by decide) rfl
  have hKc := hK.sub (tys' := [(cI, .int)]) [0] rfl
  have hFc := va_free (wc := [(h0, .inr (9, [.ref m1, .ref m2, .ref m3, .int ik, .int wy, .int op, .int cl, .int cx0, .int cx1, .int cy0, .int cy1, .int ds, .ref m4, .ref m5, .ref m6, .ref m7, .ref m8, .ref m9, .int pn, .ref m10, .ref m11, .ref m12, .ref m13])), (m1, .inl (cI, 4, .inl gw))]) hD hS hA [0, 1] rfl
  refine va_calli (va_runV (As := [.int k]) (rest := []) ⟨hx, hb, hml, hown, hts⟩ (k_X9_isSheet l D s.heap.size h0 m1 m2 m3 m4 m5 m6 m7 m8 m9 m10 m11 m12 m13 ik wy op cl cx0 cx1 cy0 cy1 ds pn gw k cI) (cwV 1 hts (gV bw_490 bw_415 bw_416 bw_391 bw_414) rfl rfl rfl (by decide +kernel) ⟨(by rw [hR]; exact Nat.le_of_ble_eq_true rfl), (by rw [hR]; exact Nat.le_of_ble_eq_true rfl)⟩) ⟨cP_blind, va_recv hKc hPc (ci := 9) (q0 := 0) rfl rfl, cP_at hPc hKc hDc hN⟩ rfl rfl hl.1 rfl (lv_room (Nat.le_of_ble_eq_true rfl)) dX9_differ_2 ⟨(by rw [hR]; exact Nat.le_of_ble_eq_true rfl), (by rw [hR]; exact Nat.le_of_ble_eq_true rfl)⟩) hS (fun q _ h => hFc q h) hFc (fun r_1 u9 t9 H1 locs ht hvm hr_1 hB hz1 hk1 hS => ?_)
  try dsimp only at hr_1
  obtain ⟨hP1, hK1, hD1⟩ := hB
  rw [ht] at hP1
  obtain ⟨hP, hD⟩ := va_join (wr := [(m2, .inl (cI, 4, .inl gh)), (m3, .inl (cI, 16384, .inl gd))]) (w1 := [(h0, .inr (9, [.ref m1, .ref m2, .ref m3, .int ik, .int wy, .int op, .int cl, .int cx0, .int cx1, .int cy0, .int cy1, .int ds, .ref m4, .ref m5, .ref m6, .ref m7, .ref m8, .ref m9, .int pn, .ref m10, .ref m11, .ref m12, .ref m13])), (m1, .inl (cI, 4, .inl gw))]) hP hD [0, 1] [2, 3] rfl rfl (by decide) (by decide) hk1 hFc hP1 hD1
  clear hz1 hk1 hFc hKc hDc hPc
  generalize H1 = H at hP hS ⊢
  have hP : va_P D vwCl [(m2, .inl (cI, 4, .inl gh)), (m3, .inl (cI, 16384, .inl gd)), (h0, .inr (9, [.ref m1, .ref m2, .ref m3, .int ik, .int wy, .int op, .int cl, .int cx0, .int cx1, .int cy0, .int cy1, .int ds, .ref m4, .ref m5, .ref m6, .ref m7, .ref m8, .ref m9, .int pn, .ref m10, .ref m11, .ref m12, .ref m13])), (m1, .inl (cI, 4, .inl gw))] H := hP
  have hD : va_D A [(m2, .inl (cI, 4, .inl gh)), (m3, .inl (cI, 16384, .inl gd)), (h0, .inr (9, [.ref m1, .ref m2, .ref m3, .int ik, .int wy, .int op, .int cl, .int cx0, .int cx1, .int cy0, .int cy1, .int ds, .ref m4, .ref m5, .ref m6, .ref m7, .ref m8, .ref m9, .int pn, .ref m10, .ref m11, .ref m12, .ref m13])), (m1, .inl (cI, 4, .inl gw))] := hD
  refine lv_if_eq (tgt := 46) hx hb dX9_differ_5 (by decide) (fun c_2 => ?_) (fun c_2 => ?_)
  · skip
    have f_3 := bz0 hr_1 c_2
    exact False.elim (by omega)
  · skip
    have f_3 := bz1 hr_1 c_2
    refine lv_aload_n hx hb dX9_differ_8 rfl (lv_at hl 0 rfl) ?_
    refine lv_iload_n hx hb dX9_differ_9 rfl (lv_at hl 2 rfl) ?_
    have hPc := hP.sub (ws' := [(h0, .inr (9, [.ref m1, .ref m2, .ref m3, .int ik, .int wy, .int op, .int cl, .int cx0, .int cx1, .int cy0, .int cy1, .int ds, .ref m4, .ref m5, .ref m6, .ref m7, .ref m8, .ref m9, .int pn, .ref m10, .ref m11, .ref m12, .ref m13])), (m1, .inl (cI, 4, .inl gw))]) [2, 3] rfl
    have hDc := hD.sub (ws' := [(h0, .inr (9, [.ref m1, .ref m2, .ref m3, .int ik, .int wy, .int op, .int cl, .int cx0, .int cx1, .int cy0, .int cy1, .int ds, .ref m4, .ref m5, .ref m6, .ref m7, .ref m8, .ref m9, .int pn, .ref m10, .ref m11, .ref m12, .ref m13])), (m1, .inl (cI, 4, .inl gw))]) [2, 3] (by decide) rfl
    have hKc := hK.sub (tys' := [(cI, .int)]) [0] rfl
    have hFc := va_free (wc := [(h0, .inr (9, [.ref m1, .ref m2, .ref m3, .int ik, .int wy, .int op, .int cl, .int cx0, .int cx1, .int cy0, .int cy1, .int ds, .ref m4, .ref m5, .ref m6, .ref m7, .ref m8, .ref m9, .int pn, .ref m10, .ref m11, .ref m12, .ref m13])), (m1, .inl (cI, 4, .inl gw))]) hD hS hA [2, 3] rfl
    refine va_calli (va_runV (As := [.int kq]) (rest := []) ⟨hx, hb, hml, hown, hts⟩ (k_X9_isSheet l D H.size h0 m1 m2 m3 m4 m5 m6 m7 m8 m9 m10 m11 m12 m13 ik wy op cl cx0 cx1 cy0 cy1 ds pn gw kq cI) (cwV 1 hts (gV bw_490 bw_415 bw_416 bw_391 bw_414) rfl rfl rfl (by decide +kernel) ⟨(by rw [hR]; exact Nat.le_of_ble_eq_true rfl), (by rw [hR]; exact Nat.le_of_ble_eq_true rfl)⟩) ⟨cP_blind, va_recv hKc hPc (ci := 9) (q0 := 0) rfl rfl, cP_at hPc hKc hDc hN⟩ rfl rfl hl.1 rfl (lv_room (Nat.le_of_ble_eq_true rfl)) dX9_differ_10 ⟨(by rw [hR]; exact Nat.le_of_ble_eq_true rfl), (by rw [hR]; exact Nat.le_of_ble_eq_true rfl)⟩) hS (fun q _ h => hFc q h) hFc (fun r_4 u9 t9 H1 locs ht hvm hr_4 hB hz1 hk1 hS => ?_)
    try dsimp only at hr_4
    obtain ⟨hP1, hK1, hD1⟩ := hB
    rw [ht] at hP1
    obtain ⟨hP, hD⟩ := va_join (wr := [(m2, .inl (cI, 4, .inl gh)), (m3, .inl (cI, 16384, .inl gd))]) (w1 := [(h0, .inr (9, [.ref m1, .ref m2, .ref m3, .int ik, .int wy, .int op, .int cl, .int cx0, .int cx1, .int cy0, .int cy1, .int ds, .ref m4, .ref m5, .ref m6, .ref m7, .ref m8, .ref m9, .int pn, .ref m10, .ref m11, .ref m12, .ref m13])), (m1, .inl (cI, 4, .inl gw))]) hP hD [2, 3] [0, 1] rfl rfl (by decide) (by decide) hk1 hFc hP1 hD1
    clear hz1 hk1 hFc hKc hDc hPc
    generalize H1 = H at hP hS ⊢
    have hP : va_P D vwCl [(m2, .inl (cI, 4, .inl gh)), (m3, .inl (cI, 16384, .inl gd)), (h0, .inr (9, [.ref m1, .ref m2, .ref m3, .int ik, .int wy, .int op, .int cl, .int cx0, .int cx1, .int cy0, .int cy1, .int ds, .ref m4, .ref m5, .ref m6, .ref m7, .ref m8, .ref m9, .int pn, .ref m10, .ref m11, .ref m12, .ref m13])), (m1, .inl (cI, 4, .inl gw))] H := hP
    have hD : va_D A [(m2, .inl (cI, 4, .inl gh)), (m3, .inl (cI, 16384, .inl gd)), (h0, .inr (9, [.ref m1, .ref m2, .ref m3, .int ik, .int wy, .int op, .int cl, .int cx0, .int cx1, .int cy0, .int cy1, .int ds, .ref m4, .ref m5, .ref m6, .ref m7, .ref m8, .ref m9, .int pn, .ref m10, .ref m11, .ref m12, .ref m13])), (m1, .inl (cI, 4, .inl gw))] := hD
    refine lv_if_eq (tgt := 46) hx hb dX9_differ_13 (by decide) (fun c_5 => ?_) (fun c_5 => ?_)
    · skip
      have f_6 := bz0 hr_4 c_5
      exact False.elim (by omega)
    · skip
      have f_6 := bz1 hr_4 c_5
      refine lv_aload_n hx hb dX9_differ_16 rfl (lv_at hl 0 rfl) ?_
      refine va_get (D := D) (ci := 9) (v := .ref m1) (C := RX9) (T := TX9) (N := 23) hx hb hts hi_X9 hown hK hP 2 rfl rfl 0 (by decide) (hts _ bw_396) (fun _ h9 => h9) rfl dX9_differ_17 ?_
      refine lv_iload_n hx hb dX9_differ_20 rfl (lv_at hl 1 rfl) ?_
      refine va_iald hx hb hK hP 3 0 rfl rfl (vp_in_iff.mpr ⟨by omega, by omega⟩) dX9_differ_21 ?_
      refine lv_aload_n hx hb dX9_differ_22 rfl (lv_at hl 0 rfl) ?_
      refine va_get (D := D) (ci := 9) (v := .ref m1) (C := RX9) (T := TX9) (N := 23) hx hb hts hi_X9 hown hK hP 2 rfl rfl 0 (by decide) (hts _ bw_396) (fun _ h9 => h9) rfl dX9_differ_23 ?_
      refine lv_iload_n hx hb dX9_differ_26 rfl (lv_at hl 2 rfl) ?_
      refine va_iald hx hb hK hP 3 0 rfl rfl (vp_in_iff.mpr ⟨by omega, by omega⟩) dX9_differ_27 ?_
      refine lv_icmp_ne (tgt := 46) hx hb dX9_differ_28 (by decide) (fun c_7 => ?_) (fun c_7 => ?_)
      · skip
        have f_8 : ¬ ((gw k.toNatClampNeg).toInt = (gw kq.toNatClampNeg).toInt) := fn_eq rfl rfl c_7
        exact False.elim (by omega)
      · skip
        have f_8 : (gw k.toNatClampNeg).toInt = (gw kq.toNatClampNeg).toInt := f_eq rfl rfl c_7
        refine lv_aload_n hx hb dX9_differ_31 rfl (lv_at hl 0 rfl) ?_
        refine va_get (D := D) (ci := 9) (v := .ref m2) (C := RX9) (T := TX9) (N := 23) hx hb hts hi_X9 hown hK hP 2 rfl rfl 1 (by decide) (hts _ bw_397) (fun _ h9 => h9) rfl dX9_differ_32 ?_
        refine lv_iload_n hx hb dX9_differ_35 rfl (lv_at hl 1 rfl) ?_
        refine va_iald hx hb hK hP 0 0 rfl rfl (vp_in_iff.mpr ⟨by omega, by omega⟩) dX9_differ_36 ?_
        refine lv_aload_n hx hb dX9_differ_37 rfl (lv_at hl 0 rfl) ?_
        refine va_get (D := D) (ci := 9) (v := .ref m2) (C := RX9) (T := TX9) (N := 23) hx hb hts hi_X9 hown hK hP 2 rfl rfl 1 (by decide) (hts _ bw_397) (fun _ h9 => h9) rfl dX9_differ_38 ?_
        refine lv_iload_n hx hb dX9_differ_41 rfl (lv_at hl 2 rfl) ?_
        refine va_iald hx hb hK hP 0 0 rfl rfl (vp_in_iff.mpr ⟨by omega, by omega⟩) dX9_differ_42 ?_
        refine lv_icmp_eq (tgt := 48) hx hb dX9_differ_43 (by decide) (fun c_9 => ?_) (fun c_9 => ?_)
        · skip
          have f_10 : (gh k.toNatClampNeg).toInt = (gh kq.toNatClampNeg).toInt := f_eq rfl rfl c_9
          refine lv_iconst (v := 0) hx hb dX9_differ_48 (by decide) ?_
          refine lv_istore_n (lv' := [(3, .int 0), (0, .ref h0), (1, .int k), (2, .int kq)]) hx hb dX9_differ_49 rfl hl (by decide) rfl (fun ls hl => ?_)
          refine lv_iconst (v := 0) hx hb dX9_differ_50 (by decide) ?_
          refine lv_istore (lv' := [(4, .int 0), (3, .int 0), (0, .ref h0), (1, .int k), (2, .int kq)]) hx hb dX9_differ_51 hl (by decide) rfl (fun ls hl => ?_)
          have loop_11 : ∀ (n : Nat) (j : Nat) (x4 : Int32) (x3 : Int32) (H : Heap) (locs : List Loc) (ls : Array Slot), (j ≤ 64) → (64 + 1 ≤ j + n) → (x4 = nI j) → (j ≤ H9) → (x3 = smL (dfF (fun t => gd (4096 * k.toNatClampNeg + t)) (fun t => gd (4096 * kq.toNatClampNeg + t))) W9 0 j) → va_P D vwCl [(m2, .inl (cI, 4, .inl gh)), (m3, .inl (cI, 16384, .inl gd)), (h0, .inr (9, [.ref m1, .ref m2, .ref m3, .int ik, .int wy, .int op, .int cl, .int cx0, .int cx1, .int cy0, .int cy1, .int ds, .ref m4, .ref m5, .ref m6, .ref m7, .ref m8, .ref m9, .int pn, .ref m10, .ref m11, .ref m12, .ref m13])), (m1, .inl (cI, 4, .inl gw))] H → va_D A [(m2, .inl (cI, 4, .inl gh)), (m3, .inl (cI, 16384, .inl gd)), (h0, .inr (9, [.ref m1, .ref m2, .ref m3, .int ik, .int wy, .int op, .int cl, .int cx0, .int cx1, .int cy0, .int cy1, .int ds, .ref m4, .ref m5, .ref m6, .ref m7, .ref m8, .ref m9, .int pn, .ref m10, .ref m11, .ref m12, .ref m13])), (m1, .inl (cI, 4, .inl gw))] → va_S A s.heap H locs → lv_has ls 6 [(4, .int x4), (3, .int x3), (0, .ref h0), (1, .int k), (2, .int kq)] → W p l e R s m ([.ref h0, .int k, .int kq] : List Value).toArray below meth c H locs 0 0 Q (F0 m 53 ls []) := by
            intro n
            induction n with
            | zero =>
              intro j x4 x3 H locs ls hi_j hm_j ex_j hjo eto hP hD hS hl
              exact absurd (show False by omega) not_false
            | succ n ih_12 =>
              intro j x4 x3 H locs ls hi_j hm_j ex_j hjo eto hP hD hS hl
              have hx_j : x4.toInt = (j : Int) := by rw [ex_j]; exact nI_toInt (by omega)
              have hc_j : x4.toNatClampNeg = j := by rw [ex_j]; exact nI_clamp (by omega)
              refine lv_iload hx hb dX9_differ_53 (lv_at hl 0 rfl) ?_
              refine lv_aload_n hx hb dX9_differ_55 rfl (lv_at hl 2 rfl) ?_
              refine va_get (D := D) (ci := 9) (v := .ref m2) (C := RX9) (T := TX9) (N := 23) hx hb hts hi_X9 hown hK hP 2 rfl rfl 1 (by decide) (hts _ bw_397) (fun _ h9 => h9) rfl dX9_differ_56 ?_
              refine lv_iload_n hx hb dX9_differ_59 rfl (lv_at hl 3 rfl) ?_
              refine va_iald hx hb hK hP 0 0 rfl rfl (vp_in_iff.mpr ⟨by omega, by omega⟩) dX9_differ_60 ?_
              refine lv_icmp_ge (tgt := 127) hx hb dX9_differ_61 (by decide) (fun c_13 => ?_) (fun c_13 => ?_)
              · skip
                have f_14 : (gh k.toNatClampNeg).toInt ≤ (j : Int) := f_le rfl hx_j c_13
                refine lv_iload_n hx hb dX9_differ_127 rfl (lv_at hl 1 rfl) ?_
                have hP9 := hP.sub (ws' := [(h0, .inr (9, [.ref m1, .ref m2, .ref m3, .int ik, .int wy, .int op, .int cl, .int cx0, .int cx1, .int cy0, .int cy1, .int ds, .ref m4, .ref m5, .ref m6, .ref m7, .ref m8, .ref m9, .int pn, .ref m10, .ref m11, .ref m12, .ref m13])), (m1, .inl (cI, 4, .inl gw)), (m2, .inl (cI, 4, .inl gh)), (m3, .inl (cI, 16384, .inl gd))]) [2, 3, 0, 1] rfl
                have hD9 := hD.sub (ws' := [(h0, .inr (9, [.ref m1, .ref m2, .ref m3, .int ik, .int wy, .int op, .int cl, .int cx0, .int cx1, .int cy0, .int cy1, .int ds, .ref m4, .ref m5, .ref m6, .ref m7, .ref m8, .ref m9, .int pn, .ref m10, .ref m11, .ref m12, .ref m13])), (m1, .inl (cI, 4, .inl gw)), (m2, .inl (cI, 4, .inl gh)), (m3, .inl (cI, 16384, .inl gd))]) [2, 3, 0, 1] (by decide) rfl
                have hK9 := hK.sub (tys' := [(cI, .int)]) [0] rfl
                refine hQ _ _ _ _ _ ?_
                exact W.iret (v := x3) hx hb hr (fun t ht hW => ⟨⟨x3, (), rfl, (by rw [eW9n, eH9n, ← show j = H9 by omega]; exact eto), ⟨by rw [ht]; exact hP9, va_K.moved hW.alike hK9, hD9⟩⟩, hS.F ht⟩) hS.2.2 dX9_differ_128
              · skip
                have f_14 : ¬ ((gh k.toNatClampNeg).toInt ≤ (j : Int)) := fn_le rfl hx_j c_13
                refine lv_iconst (v := 0) hx hb dX9_differ_64 (by decide) ?_
                refine lv_istore (lv' := [(5, .int 0), (4, .int x4), (3, .int x3), (0, .ref h0), (1, .int k), (2, .int kq)]) hx hb dX9_differ_65 hl (by decide) rfl (fun ls hl => ?_)
                have loop_15 : ∀ (n : Nat) (i : Nat) (x5 : Int32) (z3 : Int32) (H : Heap) (locs : List Loc) (ls : Array Slot), (i ≤ 64) → (64 + 1 ≤ i + n) → (x5 = nI i) → (i ≤ W9) → (z3 = smR (dfF (fun t => gd (4096 * k.toNatClampNeg + t)) (fun t => gd (4096 * kq.toNatClampNeg + t))) j (smL (dfF (fun t => gd (4096 * k.toNatClampNeg + t)) (fun t => gd (4096 * kq.toNatClampNeg + t))) W9 0 j) i) → va_P D vwCl [(m2, .inl (cI, 4, .inl gh)), (m3, .inl (cI, 16384, .inl gd)), (h0, .inr (9, [.ref m1, .ref m2, .ref m3, .int ik, .int wy, .int op, .int cl, .int cx0, .int cx1, .int cy0, .int cy1, .int ds, .ref m4, .ref m5, .ref m6, .ref m7, .ref m8, .ref m9, .int pn, .ref m10, .ref m11, .ref m12, .ref m13])), (m1, .inl (cI, 4, .inl gw))] H → va_D A [(m2, .inl (cI, 4, .inl gh)), (m3, .inl (cI, 16384, .inl gd)), (h0, .inr (9, [.ref m1, .ref m2, .ref m3, .int ik, .int wy, .int op, .int cl, .int cx0, .int cx1, .int cy0, .int cy1, .int ds, .ref m4, .ref m5, .ref m6, .ref m7, .ref m8, .ref m9, .int pn, .ref m10, .ref m11, .ref m12, .ref m13])), (m1, .inl (cI, 4, .inl gw))] → va_S A s.heap H locs → lv_has ls 6 [(5, .int x5), (4, .int x4), (3, .int z3), (0, .ref h0), (1, .int k), (2, .int kq)] → W p l e R s m ([.ref h0, .int k, .int kq] : List Value).toArray below meth c H locs 0 0 Q (F0 m 67 ls []) := by
                  intro n
                  induction n with
                  | zero =>
                    intro i x5 z3 H locs ls hi_i hm_i ex_i hio eti hP hD hS hl
                    exact absurd (show False by omega) not_false
                  | succ n ih_16 =>
                    intro i x5 z3 H locs ls hi_i hm_i ex_i hio eti hP hD hS hl
                    have hx_i : x5.toInt = (i : Int) := by rw [ex_i]; exact nI_toInt (by omega)
                    have hc_i : x5.toNatClampNeg = i := by rw [ex_i]; exact nI_clamp (by omega)
                    refine lv_iload hx hb dX9_differ_67 (lv_at hl 0 rfl) ?_
                    refine lv_aload_n hx hb dX9_differ_69 rfl (lv_at hl 3 rfl) ?_
                    refine va_get (D := D) (ci := 9) (v := .ref m1) (C := RX9) (T := TX9) (N := 23) hx hb hts hi_X9 hown hK hP 2 rfl rfl 0 (by decide) (hts _ bw_396) (fun _ h9 => h9) rfl dX9_differ_70 ?_
                    refine lv_iload_n hx hb dX9_differ_73 rfl (lv_at hl 4 rfl) ?_
                    refine va_iald hx hb hK hP 3 0 rfl rfl (vp_in_iff.mpr ⟨by omega, by omega⟩) dX9_differ_74 ?_
                    refine lv_icmp_ge (tgt := 121) hx hb dX9_differ_75 (by decide) (fun c_17 => ?_) (fun c_17 => ?_)
                    · skip
                      have f_18 : (gw k.toNatClampNeg).toInt ≤ (i : Int) := f_le rfl hx_i c_17
                      obtain ⟨y_19, ey_19⟩ : ∃ y : Int32, y = x4 + 1 := ⟨_, rfl⟩
                      refine lv_iinc (v := y_19) (lv' := [(4, .int y_19), (5, .int x5), (3, .int z3), (0, .ref h0), (1, .int k), (2, .int kq)]) hx hb dX9_differ_121 hl (k := 1) rfl (by rw [ey_19]; rfl) (by decide) rfl (fun ls hl => ?_)
                      refine lv_goto (tgt := 53) hx hb dX9_differ_124 (by decide) ?_
                      exact ih_12 (j + 1) y_19 z3 _ _ _ (by omega) (by omega) (by rw [ey_19, ex_j]; exact nI_1 j) (by omega) (sm_nx eti (by omega)) (hP.sub (ws' := [(m2, .inl (cI, 4, .inl gh)), (m3, .inl (cI, 16384, .inl gd)), (h0, .inr (9, [.ref m1, .ref m2, .ref m3, .int ik, .int wy, .int op, .int cl, .int cx0, .int cx1, .int cy0, .int cy1, .int ds, .ref m4, .ref m5, .ref m6, .ref m7, .ref m8, .ref m9, .int pn, .ref m10, .ref m11, .ref m12, .ref m13])), (m1, .inl (cI, 4, .inl gw))]) [0, 1, 2, 3] rfl) (hD.sub (ws' := [(m2, .inl (cI, 4, .inl gh)), (m3, .inl (cI, 16384, .inl gd)), (h0, .inr (9, [.ref m1, .ref m2, .ref m3, .int ik, .int wy, .int op, .int cl, .int cx0, .int cx1, .int cy0, .int cy1, .int ds, .ref m4, .ref m5, .ref m6, .ref m7, .ref m8, .ref m9, .int pn, .ref m10, .ref m11, .ref m12, .ref m13])), (m1, .inl (cI, 4, .inl gw))]) [0, 1, 2, 3] (by decide) rfl) hS (lv_sub hl [0, 2, 3, 4, 5] rfl)
                    · skip
                      have f_18 : ¬ ((gw k.toNatClampNeg).toInt ≤ (i : Int)) := fn_le rfl hx_i c_17
                      refine lv_iload_n hx hb dX9_differ_78 rfl (lv_at hl 2 rfl) ?_
                      refine lv_aload_n hx hb dX9_differ_79 rfl (lv_at hl 3 rfl) ?_
                      refine va_get (D := D) (ci := 9) (v := .ref m3) (C := RX9) (T := TX9) (N := 23) hx hb hts hi_X9 hown hK hP 2 rfl rfl 2 (by decide) (hts _ bw_398) (fun _ h9 => h9) rfl dX9_differ_80 ?_
                      refine lv_iload_n hx hb dX9_differ_83 rfl (lv_at hl 4 rfl) ?_
                      refine lv_iload hx hb dX9_differ_84 (lv_at hl 0 rfl) ?_
                      refine lv_iload hx hb dX9_differ_86 (lv_at hl 1 rfl) ?_
                      have hPc := hP.sub (ws' := []) [] rfl
                      have hDc := hD.sub (ws' := []) [] (by decide) rfl
                      have hKc := hK.sub (tys' := []) [] rfl
                      have hFc := va_free (wc := []) hD hS hA [] rfl
                      refine va_calli (va_runS (As := [.int k, .int x5, .int x4]) (rest := [.ref m3, .int z3]) ⟨hx, hb, hml, hown, hts⟩ (k_X9_spot l D H.size k x5 x4) (va_cwS 3 hts (gS bw_551 bw_421 bw_391 bw_420) rfl rfl rfl (by decide +kernel) ⟨(by rw [hR]; exact Nat.le_of_ble_eq_true rfl), (by rw [hR]; exact Nat.le_of_ble_eq_true rfl)⟩) ⟨cP_blind, cP_at hPc hKc hDc hN⟩ rfl rfl hl.1 rfl (lv_room (Nat.le_of_ble_eq_true rfl)) dX9_differ_88 ⟨(by rw [hR]; exact Nat.le_of_ble_eq_true rfl), (by rw [hR]; exact Nat.le_of_ble_eq_true rfl)⟩) hS (fun q _ h => hFc q h) hFc (fun r_20 u9 t9 H1 locs ht hvm hr_20 hB hz1 hk1 hS => ?_)
                      try dsimp only at hr_20
                      have hP1 : va_P D vwCl [] H1 := vP_nil
                      have hD1 : va_D (va_A [] H.size) [] := vD_nil
                      obtain ⟨hP, hD⟩ := va_join (wr := [(m2, .inl (cI, 4, .inl gh)), (m3, .inl (cI, 16384, .inl gd)), (h0, .inr (9, [.ref m1, .ref m2, .ref m3, .int ik, .int wy, .int op, .int cl, .int cx0, .int cx1, .int cy0, .int cy1, .int ds, .ref m4, .ref m5, .ref m6, .ref m7, .ref m8, .ref m9, .int pn, .ref m10, .ref m11, .ref m12, .ref m13])), (m1, .inl (cI, 4, .inl gw))]) (w1 := []) hP hD [] [0, 1, 2, 3] rfl rfl (by decide) (by decide) hk1 hFc hP1 hD1
                      clear hz1 hk1 hFc hKc hDc hPc
                      generalize H1 = H at hP hS ⊢
                      have hP : va_P D vwCl [(m2, .inl (cI, 4, .inl gh)), (m3, .inl (cI, 16384, .inl gd)), (h0, .inr (9, [.ref m1, .ref m2, .ref m3, .int ik, .int wy, .int op, .int cl, .int cx0, .int cx1, .int cy0, .int cy1, .int ds, .ref m4, .ref m5, .ref m6, .ref m7, .ref m8, .ref m9, .int pn, .ref m10, .ref m11, .ref m12, .ref m13])), (m1, .inl (cI, 4, .inl gw))] H := hP
                      have hD : va_D A [(m2, .inl (cI, 4, .inl gh)), (m3, .inl (cI, 16384, .inl gd)), (h0, .inr (9, [.ref m1, .ref m2, .ref m3, .int ik, .int wy, .int op, .int cl, .int cx0, .int cx1, .int cy0, .int cy1, .int ds, .ref m4, .ref m5, .ref m6, .ref m7, .ref m8, .ref m9, .int pn, .ref m10, .ref m11, .ref m12, .ref m13])), (m1, .inl (cI, 4, .inl gw))] := hD
                      refine va_iald hx hb hK hP 1 0 rfl rfl (by rw [hr_20]; exact sp_in (by omega) (by omega) (by omega) (by omega) (by omega) (by omega)) dX9_differ_91 ?_
                      refine my_fold (v := gd (4096 * k.toNatClampNeg + ixP (nI i) (nI j))) (congrArg gd (by rw [hr_20, sp_cl (by omega) (by omega) (by omega) (by omega) (by omega) (by omega), ex_i, ex_j])) ?_
                      refine lv_aload_n hx hb dX9_differ_92 rfl (lv_at hl 3 rfl) ?_
                      refine va_get (D := D) (ci := 9) (v := .ref m3) (C := RX9) (T := TX9) (N := 23) hx hb hts hi_X9 hown hK hP 2 rfl rfl 2 (by decide) (hts _ bw_398) (fun _ h9 => h9) rfl dX9_differ_93 ?_
                      refine lv_iload_n hx hb dX9_differ_96 rfl (lv_at hl 5 rfl) ?_
                      refine lv_iload hx hb dX9_differ_97 (lv_at hl 0 rfl) ?_
                      refine lv_iload hx hb dX9_differ_99 (lv_at hl 1 rfl) ?_
                      have hPc := hP.sub (ws' := []) [] rfl
                      have hDc := hD.sub (ws' := []) [] (by decide) rfl
                      have hKc := hK.sub (tys' := []) [] rfl
                      have hFc := va_free (wc := []) hD hS hA [] rfl
                      refine va_calli (va_runS (As := [.int kq, .int x5, .int x4]) (rest := [.ref m3, .int (gd (4096 * k.toNatClampNeg + ixP (nI i) (nI j))), .int z3]) ⟨hx, hb, hml, hown, hts⟩ (k_X9_spot l D H.size kq x5 x4) (va_cwS 3 hts (gS bw_551 bw_421 bw_391 bw_420) rfl rfl rfl (by decide +kernel) ⟨(by rw [hR]; exact Nat.le_of_ble_eq_true rfl), (by rw [hR]; exact Nat.le_of_ble_eq_true rfl)⟩) ⟨cP_blind, cP_at hPc hKc hDc hN⟩ rfl rfl hl.1 rfl (lv_room (Nat.le_of_ble_eq_true rfl)) dX9_differ_101 ⟨(by rw [hR]; exact Nat.le_of_ble_eq_true rfl), (by rw [hR]; exact Nat.le_of_ble_eq_true rfl)⟩) hS (fun q _ h => hFc q h) hFc (fun r_21 u9 t9 H1 locs ht hvm hr_21 hB hz1 hk1 hS => ?_)
                      try dsimp only at hr_21
                      have hP1 : va_P D vwCl [] H1 := vP_nil
                      have hD1 : va_D (va_A [] H.size) [] := vD_nil
                      obtain ⟨hP, hD⟩ := va_join (wr := [(m2, .inl (cI, 4, .inl gh)), (m3, .inl (cI, 16384, .inl gd)), (h0, .inr (9, [.ref m1, .ref m2, .ref m3, .int ik, .int wy, .int op, .int cl, .int cx0, .int cx1, .int cy0, .int cy1, .int ds, .ref m4, .ref m5, .ref m6, .ref m7, .ref m8, .ref m9, .int pn, .ref m10, .ref m11, .ref m12, .ref m13])), (m1, .inl (cI, 4, .inl gw))]) (w1 := []) hP hD [] [0, 1, 2, 3] rfl rfl (by decide) (by decide) hk1 hFc hP1 hD1
                      clear hz1 hk1 hFc hKc hDc hPc
                      generalize H1 = H at hP hS ⊢
                      have hP : va_P D vwCl [(m2, .inl (cI, 4, .inl gh)), (m3, .inl (cI, 16384, .inl gd)), (h0, .inr (9, [.ref m1, .ref m2, .ref m3, .int ik, .int wy, .int op, .int cl, .int cx0, .int cx1, .int cy0, .int cy1, .int ds, .ref m4, .ref m5, .ref m6, .ref m7, .ref m8, .ref m9, .int pn, .ref m10, .ref m11, .ref m12, .ref m13])), (m1, .inl (cI, 4, .inl gw))] H := hP
                      have hD : va_D A [(m2, .inl (cI, 4, .inl gh)), (m3, .inl (cI, 16384, .inl gd)), (h0, .inr (9, [.ref m1, .ref m2, .ref m3, .int ik, .int wy, .int op, .int cl, .int cx0, .int cx1, .int cy0, .int cy1, .int ds, .ref m4, .ref m5, .ref m6, .ref m7, .ref m8, .ref m9, .int pn, .ref m10, .ref m11, .ref m12, .ref m13])), (m1, .inl (cI, 4, .inl gw))] := hD
                      refine va_iald hx hb hK hP 1 0 rfl rfl (by rw [hr_21]; exact sp_in (by omega) (by omega) (by omega) (by omega) (by omega) (by omega)) dX9_differ_104 ?_
                      refine my_fold (v := gd (4096 * kq.toNatClampNeg + ixP (nI i) (nI j))) (congrArg gd (by rw [hr_21, sp_cl (by omega) (by omega) (by omega) (by omega) (by omega) (by omega), ex_i, ex_j])) ?_
                      refine lv_icmp_eq (tgt := 112) hx hb dX9_differ_105 (by decide) (fun c_22 => ?_) (fun c_22 => ?_)
                      · skip
                        have f_23 : (gd (4096 * k.toNatClampNeg + ixP (nI i) (nI j))).toInt = (gd (4096 * kq.toNatClampNeg + ixP (nI i) (nI j))).toInt := f_eq rfl rfl c_22
                        refine lv_iconst (v := 0) hx hb dX9_differ_112 (by decide) ?_
                        refine lv_iadd hx hb dX9_differ_113 ?_
                        refine lv_topi (fun y_24 ey_24 => ?_)
                        refine lv_istore_n (lv' := [(3, .int y_24), (5, .int x5), (4, .int x4), (0, .ref h0), (1, .int k), (2, .int kq)]) hx hb dX9_differ_114 rfl hl (by decide) rfl (fun ls hl => ?_)
                        obtain ⟨y_25, ey_25⟩ : ∃ y : Int32, y = x5 + 1 := ⟨_, rfl⟩
                        refine lv_iinc (v := y_25) (lv' := [(5, .int y_25), (3, .int y_24), (4, .int x4), (0, .ref h0), (1, .int k), (2, .int kq)]) hx hb dX9_differ_115 hl (k := 1) rfl (by rw [ey_25]; rfl) (by decide) rfl (fun ls hl => ?_)
                        refine lv_goto (tgt := 67) hx hb dX9_differ_118 (by decide) ?_
                        exact ih_16 (i + 1) y_25 y_24 _ _ _ (by omega) (by omega) (by rw [ey_25, ex_i]; exact nI_1 i) (by omega) (by rw [ey_24, Int32.add_zero, eti]; exact (df_y (g := (fun t => gd (4096 * k.toNatClampNeg + t))) (g' := (fun t => gd (4096 * kq.toNatClampNeg + t))) c_22).symm) (hP.sub (ws' := [(m2, .inl (cI, 4, .inl gh)), (m3, .inl (cI, 16384, .inl gd)), (h0, .inr (9, [.ref m1, .ref m2, .ref m3, .int ik, .int wy, .int op, .int cl, .int cx0, .int cx1, .int cy0, .int cy1, .int ds, .ref m4, .ref m5, .ref m6, .ref m7, .ref m8, .ref m9, .int pn, .ref m10, .ref m11, .ref m12, .ref m13])), (m1, .inl (cI, 4, .inl gw))]) [0, 1, 2, 3] rfl) (hD.sub (ws' := [(m2, .inl (cI, 4, .inl gh)), (m3, .inl (cI, 16384, .inl gd)), (h0, .inr (9, [.ref m1, .ref m2, .ref m3, .int ik, .int wy, .int op, .int cl, .int cx0, .int cx1, .int cy0, .int cy1, .int ds, .ref m4, .ref m5, .ref m6, .ref m7, .ref m8, .ref m9, .int pn, .ref m10, .ref m11, .ref m12, .ref m13])), (m1, .inl (cI, 4, .inl gw))]) [0, 1, 2, 3] (by decide) rfl) hS (lv_sub hl [0, 2, 1, 3, 4, 5] rfl)
                      · skip
                        have f_23 : ¬ ((gd (4096 * k.toNatClampNeg + ixP (nI i) (nI j))).toInt = (gd (4096 * kq.toNatClampNeg + ixP (nI i) (nI j))).toInt) := fn_eq rfl rfl c_22
                        refine lv_iconst (v := 1) hx hb dX9_differ_108 (by decide) ?_
                        refine lv_goto (tgt := 113) hx hb dX9_differ_109 (by decide) ?_
                        refine lv_iadd hx hb dX9_differ_113 ?_
                        refine lv_topi (fun y_26 ey_26 => ?_)
                        refine lv_istore_n (lv' := [(3, .int y_26), (5, .int x5), (4, .int x4), (0, .ref h0), (1, .int k), (2, .int kq)]) hx hb dX9_differ_114 rfl hl (by decide) rfl (fun ls hl => ?_)
                        obtain ⟨y_27, ey_27⟩ : ∃ y : Int32, y = x5 + 1 := ⟨_, rfl⟩
                        refine lv_iinc (v := y_27) (lv' := [(5, .int y_27), (3, .int y_26), (4, .int x4), (0, .ref h0), (1, .int k), (2, .int kq)]) hx hb dX9_differ_115 hl (k := 1) rfl (by rw [ey_27]; rfl) (by decide) rfl (fun ls hl => ?_)
                        refine lv_goto (tgt := 67) hx hb dX9_differ_118 (by decide) ?_
                        exact ih_16 (i + 1) y_27 y_26 _ _ _ (by omega) (by omega) (by rw [ey_27, ex_i]; exact nI_1 i) (by omega) (by rw [ey_26, eti]; exact (df_n (g := (fun t => gd (4096 * k.toNatClampNeg + t))) (g' := (fun t => gd (4096 * kq.toNatClampNeg + t))) c_22).symm) (hP.sub (ws' := [(m2, .inl (cI, 4, .inl gh)), (m3, .inl (cI, 16384, .inl gd)), (h0, .inr (9, [.ref m1, .ref m2, .ref m3, .int ik, .int wy, .int op, .int cl, .int cx0, .int cx1, .int cy0, .int cy1, .int ds, .ref m4, .ref m5, .ref m6, .ref m7, .ref m8, .ref m9, .int pn, .ref m10, .ref m11, .ref m12, .ref m13])), (m1, .inl (cI, 4, .inl gw))]) [0, 1, 2, 3] rfl) (hD.sub (ws' := [(m2, .inl (cI, 4, .inl gh)), (m3, .inl (cI, 16384, .inl gd)), (h0, .inr (9, [.ref m1, .ref m2, .ref m3, .int ik, .int wy, .int op, .int cl, .int cx0, .int cx1, .int cy0, .int cy1, .int ds, .ref m4, .ref m5, .ref m6, .ref m7, .ref m8, .ref m9, .int pn, .ref m10, .ref m11, .ref m12, .ref m13])), (m1, .inl (cI, 4, .inl gw))]) [0, 1, 2, 3] (by decide) rfl) hS (lv_sub hl [0, 2, 1, 3, 4, 5] rfl)
                exact loop_15 (64 + 1) 0 0 x3 _ _ _ (by omega) (by omega) nI_0.symm (by omega) eto hP hD hS (lv_sub hl [0, 1, 2, 3, 4, 5] rfl)
          exact loop_11 (64 + 1) 0 0 0 _ _ _ (by omega) (by omega) nI_0.symm (by omega) rfl hP hD hS (lv_sub hl [0, 1, 2, 3, 4] rfl)
        · skip
          have f_10 : ¬ ((gh k.toNatClampNeg).toInt = (gh kq.toNatClampNeg).toInt) := fn_eq rfl rfl c_9
          exact False.elim (by omega)

set_option maxHeartbeats 4000000 in
set_option maxRecDepth 100000 in
theorem k_X9_differ_ne (l : Launch) (D : va_G) (sz : Nat) (h0 m1 m2 m3 m4 m5 m6 m7 m8 m9 m10 m11 m12 m13 : Nat) (ik wy op cl cx0 cx1 cy0 cy1 ds pn : Int32) (gw : Nat → Int32) (gh : Nat → Int32) (k kq : Int32) (cI : ClassId) (hcd : ¬ (((0 ≤ k.toInt ∧ k.toInt ≤ 3 ∧ 0 < (gw k.toNatClampNeg).toInt) ∧ (0 ≤ kq.toInt ∧ kq.toInt ≤ 3 ∧ 0 < (gw kq.toNatClampNeg).toInt)) ∧ ((gw k.toNatClampNeg).toInt = (gw kq.toNatClampNeg).toInt ∧ (gh k.toNatClampNeg).toInt = (gh kq.toNatClampNeg).toInt))) : Met l yX9_differ (wB yX9_differ cX9_differ 6 (some .int)) ({ frames := 1, cells := 0, slots := 0, locals := 21 }) (cP D [(h0, .inr (9, [.ref m1, .ref m2, .ref m3, .int ik, .int wy, .int op, .int cl, .int cx0, .int cx1, .int cy0, .int cy1, .int ds, .ref m4, .ref m5, .ref m6, .ref m7, .ref m8, .ref m9, .int pn, .ref m10, .ref m11, .ref m12, .ref m13])), (m1, .inl (cI, 4, .inl gw)), (m2, .inl (cI, 4, .inl gh))] [(cI, .int)] sz [.ref h0, .int k, .int kq]) (va_Qi (fun (r : Int32) (_ : Unit) => r = -1) (fun (_ : Unit) (t : State) => cB D (va_A [(h0, .inr (9, [.ref m1, .ref m2, .ref m3, .int ik, .int wy, .int op, .int cl, .int cx0, .int cx1, .int cy0, .int cy1, .int ds, .ref m4, .ref m5, .ref m6, .ref m7, .ref m8, .ref m9, .int pn, .ref m10, .ref m11, .ref m12, .ref m13])), (m1, .inl (cI, 4, .inl gw)), (m2, .inl (cI, 4, .inl gh))] sz) [(h0, .inr (9, [.ref m1, .ref m2, .ref m3, .int ik, .int wy, .int op, .int cl, .int cx0, .int cx1, .int cy0, .int cy1, .int ds, .ref m4, .ref m5, .ref m6, .ref m7, .ref m8, .ref m9, .int pn, .ref m10, .ref m11, .ref m12, .ref m13])), (m1, .inl (cI, 4, .inl gw)), (m2, .inl (cI, 4, .inl gh))] [(cI, .int)] t) (va_A [(h0, .inr (9, [.ref m1, .ref m2, .ref m3, .int ik, .int wy, .int op, .int cl, .int cx0, .int cx1, .int cy0, .int cy1, .int ds, .ref m4, .ref m5, .ref m6, .ref m7, .ref m8, .ref m9, .int pn, .ref m10, .ref m11, .ref m12, .ref m13])), (m1, .inl (cI, 4, .inl gw)), (m2, .inl (cI, 4, .inl gh))] sz)) 0 0 (va_A [(h0, .inr (9, [.ref m1, .ref m2, .ref m3, .int ik, .int wy, .int op, .int cl, .int cx0, .int cx1, .int cy0, .int cy1, .int ds, .ref m4, .ref m5, .ref m6, .ref m7, .ref m8, .ref m9, .int pn, .ref m10, .ref m11, .ref m12, .ref m13])), (m1, .inl (cI, 4, .inl gw)), (m2, .inl (cI, 4, .inl gh))] sz) := by
  refine Met.ofW (cc := cX9_differ) (maxL := 6) (ret := (some .int)) (by decide) rfl ?_
  intro p e s m args below meth c s₁ B hml hv
  obtain ⟨rfl, hsz, hP, hK, hD0, hN⟩ := hv
  have hx := B.exec
  have hb := B.bytes
  have hr := B.returns
  have hts0 := atoms_spec (ws := (wB yX9_differ cX9_differ 6 (some .int))) B.pre
  have hts : ∀ w ∈ bigW, w.before _ s = true := fun w h => hts0 w (List.mem_cons_of_mem _ h)
  have hown : s.vm.findClass RX9 = some m.cls := findClass_of_methodNamed B.named
  have hlocks := B.notSynchronized
  subst hsz
  have hD := hD0.self (sz := s.heap.size)
  generalize hAe : va_A [(h0, .inr (9, [.ref m1, .ref m2, .ref m3, .int ik, .int wy, .int op, .int cl, .int cx0, .int cx1, .int cy0, .int cy1, .int ds, .ref m4, .ref m5, .ref m6, .ref m7, .ref m8, .ref m9, .int pn, .ref m10, .ref m11, .ref m12, .ref m13])), (m1, .inl (cI, 4, .inl gw)), (m2, .inl (cI, 4, .inl gh))] s.heap.size = A at hD ⊢
  have hA : ∀ q : Nat, s.heap.size ≤ q → A q := fun q h => by rw [← hAe]; exact Or.inr h
  have hS : va_S A s.heap s.heap [] := va_S.rf
  have hP : va_P D vwCl [(h0, .inr (9, [.ref m1, .ref m2, .ref m3, .int ik, .int wy, .int op, .int cl, .int cx0, .int cx1, .int cy0, .int cy1, .int ds, .ref m4, .ref m5, .ref m6, .ref m7, .ref m8, .ref m9, .int pn, .ref m10, .ref m11, .ref m12, .ref m13])), (m1, .inl (cI, 4, .inl gw)), (m2, .inl (cI, 4, .inl gh))] s.heap := hP
  have hl := lv_entry ([.ref h0, .int k, .int kq]) (n := 6) (Nat.le_of_ble_eq_true rfl)
  rw [lg_entry_eq]
  generalize (lg_sl ([.ref h0, .int k, .int kq]) ++ List.replicate (6 - (lg_sl ([.ref h0, .int k, .int kq])).length) Slot.unset).toArray = ls at hl ⊢
  have hl : lv_has ls 6 [(0, .ref h0), (1, .int k), (2, .int kq)] := hl
  clear hts0 hD0 hAe
  refine my_abs (fun R Q hR hQ => ?_)
  refine lv_aload_n hx hb dX9_differ_0 rfl (lv_at hl 0 rfl) ?_
  refine lv_iload_n hx hb dX9_differ_1 rfl (lv_at hl 1 rfl) ?_
  have hPc := hP.sub (ws' := [(h0, .inr (9, [.ref m1, .ref m2, .ref m3, .int ik, .int wy, .int op, .int cl, .int cx0, .int cx1, .int cy0, .int cy1, .int ds, .ref m4, .ref m5, .ref m6, .ref m7, .ref m8, .ref m9, .int pn, .ref m10, .ref m11, .ref m12, .ref m13])), (m1, .inl (cI, 4, .inl gw))]) [0, 1] rfl
  have hDc := hD.sub (ws' := [(h0, .inr (9, [.ref m1, .ref m2, .ref m3, .int ik, .int wy, .int op, .int cl, .int cx0, .int cx1, .int cy0, .int cy1, .int ds, .ref m4, .ref m5, .ref m6, .ref m7, .ref m8, .ref m9, .int pn, .ref m10, .ref m11, .ref m12, .ref m13])), (m1, .inl (cI, 4, .inl gw))]) [0, 1] (by decide) rfl
  have hKc := hK.sub (tys' := [(cI, .int)]) [0] rfl
  have hFc := va_free (wc := [(h0, .inr (9, [.ref m1, .ref m2, .ref m3, .int ik, .int wy, .int op, .int cl, .int cx0, .int cx1, .int cy0, .int cy1, .int ds, .ref m4, .ref m5, .ref m6, .ref m7, .ref m8, .ref m9, .int pn, .ref m10, .ref m11, .ref m12, .ref m13])), (m1, .inl (cI, 4, .inl gw))]) hD hS hA [0, 1] rfl
  refine va_calli (va_runV (As := [.int k]) (rest := []) ⟨hx, hb, hml, hown, hts⟩ (k_X9_isSheet l D s.heap.size h0 m1 m2 m3 m4 m5 m6 m7 m8 m9 m10 m11 m12 m13 ik wy op cl cx0 cx1 cy0 cy1 ds pn gw k cI) (cwV 1 hts (gV bw_490 bw_415 bw_416 bw_391 bw_414) rfl rfl rfl (by decide +kernel) ⟨(by rw [hR]; exact Nat.le_of_ble_eq_true rfl), (by rw [hR]; exact Nat.le_of_ble_eq_true rfl)⟩) ⟨cP_blind, va_recv hKc hPc (ci := 9) (q0 := 0) rfl rfl, cP_at hPc hKc hDc hN⟩ rfl rfl hl.1 rfl (lv_room (Nat.le_of_ble_eq_true rfl)) dX9_differ_2 ⟨(by rw [hR]; exact Nat.le_of_ble_eq_true rfl), (by rw [hR]; exact Nat.le_of_ble_eq_true rfl)⟩) hS (fun q _ h => hFc q h) hFc (fun r_1 u9 t9 H1 locs ht hvm hr_1 hB hz1 hk1 hS => ?_)
  try dsimp only at hr_1
  obtain ⟨hP1, hK1, hD1⟩ := hB
  rw [ht] at hP1
  obtain ⟨hP, hD⟩ := va_join (wr := [(m2, .inl (cI, 4, .inl gh))]) (w1 := [(h0, .inr (9, [.ref m1, .ref m2, .ref m3, .int ik, .int wy, .int op, .int cl, .int cx0, .int cx1, .int cy0, .int cy1, .int ds, .ref m4, .ref m5, .ref m6, .ref m7, .ref m8, .ref m9, .int pn, .ref m10, .ref m11, .ref m12, .ref m13])), (m1, .inl (cI, 4, .inl gw))]) hP hD [0, 1] [2] rfl rfl (by decide) (by decide) hk1 hFc hP1 hD1
  clear hz1 hk1 hFc hKc hDc hPc
  generalize H1 = H at hP hS ⊢
  have hP : va_P D vwCl [(m2, .inl (cI, 4, .inl gh)), (h0, .inr (9, [.ref m1, .ref m2, .ref m3, .int ik, .int wy, .int op, .int cl, .int cx0, .int cx1, .int cy0, .int cy1, .int ds, .ref m4, .ref m5, .ref m6, .ref m7, .ref m8, .ref m9, .int pn, .ref m10, .ref m11, .ref m12, .ref m13])), (m1, .inl (cI, 4, .inl gw))] H := hP
  have hD : va_D A [(m2, .inl (cI, 4, .inl gh)), (h0, .inr (9, [.ref m1, .ref m2, .ref m3, .int ik, .int wy, .int op, .int cl, .int cx0, .int cx1, .int cy0, .int cy1, .int ds, .ref m4, .ref m5, .ref m6, .ref m7, .ref m8, .ref m9, .int pn, .ref m10, .ref m11, .ref m12, .ref m13])), (m1, .inl (cI, 4, .inl gw))] := hD
  refine lv_if_eq (tgt := 46) hx hb dX9_differ_5 (by decide) (fun c_2 => ?_) (fun c_2 => ?_)
  · skip
    have f_3 := bz0 hr_1 c_2
    refine lv_iconst (v := (-1)) hx hb dX9_differ_46 (by decide) ?_
    have hP9 := hP.sub (ws' := [(h0, .inr (9, [.ref m1, .ref m2, .ref m3, .int ik, .int wy, .int op, .int cl, .int cx0, .int cx1, .int cy0, .int cy1, .int ds, .ref m4, .ref m5, .ref m6, .ref m7, .ref m8, .ref m9, .int pn, .ref m10, .ref m11, .ref m12, .ref m13])), (m1, .inl (cI, 4, .inl gw)), (m2, .inl (cI, 4, .inl gh))]) [1, 2, 0] rfl
    have hD9 := hD.sub (ws' := [(h0, .inr (9, [.ref m1, .ref m2, .ref m3, .int ik, .int wy, .int op, .int cl, .int cx0, .int cx1, .int cy0, .int cy1, .int ds, .ref m4, .ref m5, .ref m6, .ref m7, .ref m8, .ref m9, .int pn, .ref m10, .ref m11, .ref m12, .ref m13])), (m1, .inl (cI, 4, .inl gw)), (m2, .inl (cI, 4, .inl gh))]) [1, 2, 0] (by decide) rfl
    have hK9 := hK.sub (tys' := [(cI, .int)]) [0] rfl
    refine hQ _ _ _ _ _ ?_
    exact W.iret (v := (-1)) hx hb hr (fun t ht hW => ⟨⟨(-1), (), rfl, rfl, ⟨by rw [ht]; exact hP9, va_K.moved hW.alike hK9, hD9⟩⟩, hS.F ht⟩) hS.2.2 dX9_differ_47
  · skip
    have f_3 := bz1 hr_1 c_2
    refine lv_aload_n hx hb dX9_differ_8 rfl (lv_at hl 0 rfl) ?_
    refine lv_iload_n hx hb dX9_differ_9 rfl (lv_at hl 2 rfl) ?_
    have hPc := hP.sub (ws' := [(h0, .inr (9, [.ref m1, .ref m2, .ref m3, .int ik, .int wy, .int op, .int cl, .int cx0, .int cx1, .int cy0, .int cy1, .int ds, .ref m4, .ref m5, .ref m6, .ref m7, .ref m8, .ref m9, .int pn, .ref m10, .ref m11, .ref m12, .ref m13])), (m1, .inl (cI, 4, .inl gw))]) [1, 2] rfl
    have hDc := hD.sub (ws' := [(h0, .inr (9, [.ref m1, .ref m2, .ref m3, .int ik, .int wy, .int op, .int cl, .int cx0, .int cx1, .int cy0, .int cy1, .int ds, .ref m4, .ref m5, .ref m6, .ref m7, .ref m8, .ref m9, .int pn, .ref m10, .ref m11, .ref m12, .ref m13])), (m1, .inl (cI, 4, .inl gw))]) [1, 2] (by decide) rfl
    have hKc := hK.sub (tys' := [(cI, .int)]) [0] rfl
    have hFc := va_free (wc := [(h0, .inr (9, [.ref m1, .ref m2, .ref m3, .int ik, .int wy, .int op, .int cl, .int cx0, .int cx1, .int cy0, .int cy1, .int ds, .ref m4, .ref m5, .ref m6, .ref m7, .ref m8, .ref m9, .int pn, .ref m10, .ref m11, .ref m12, .ref m13])), (m1, .inl (cI, 4, .inl gw))]) hD hS hA [1, 2] rfl
    refine va_calli (va_runV (As := [.int kq]) (rest := []) ⟨hx, hb, hml, hown, hts⟩ (k_X9_isSheet l D H.size h0 m1 m2 m3 m4 m5 m6 m7 m8 m9 m10 m11 m12 m13 ik wy op cl cx0 cx1 cy0 cy1 ds pn gw kq cI) (cwV 1 hts (gV bw_490 bw_415 bw_416 bw_391 bw_414) rfl rfl rfl (by decide +kernel) ⟨(by rw [hR]; exact Nat.le_of_ble_eq_true rfl), (by rw [hR]; exact Nat.le_of_ble_eq_true rfl)⟩) ⟨cP_blind, va_recv hKc hPc (ci := 9) (q0 := 0) rfl rfl, cP_at hPc hKc hDc hN⟩ rfl rfl hl.1 rfl (lv_room (Nat.le_of_ble_eq_true rfl)) dX9_differ_10 ⟨(by rw [hR]; exact Nat.le_of_ble_eq_true rfl), (by rw [hR]; exact Nat.le_of_ble_eq_true rfl)⟩) hS (fun q _ h => hFc q h) hFc (fun r_4 u9 t9 H1 locs ht hvm hr_4 hB hz1 hk1 hS => ?_)
    try dsimp only at hr_4
    obtain ⟨hP1, hK1, hD1⟩ := hB
    rw [ht] at hP1
    obtain ⟨hP, hD⟩ := va_join (wr := [(m2, .inl (cI, 4, .inl gh))]) (w1 := [(h0, .inr (9, [.ref m1, .ref m2, .ref m3, .int ik, .int wy, .int op, .int cl, .int cx0, .int cx1, .int cy0, .int cy1, .int ds, .ref m4, .ref m5, .ref m6, .ref m7, .ref m8, .ref m9, .int pn, .ref m10, .ref m11, .ref m12, .ref m13])), (m1, .inl (cI, 4, .inl gw))]) hP hD [1, 2] [0] rfl rfl (by decide) (by decide) hk1 hFc hP1 hD1
    clear hz1 hk1 hFc hKc hDc hPc
    generalize H1 = H at hP hS ⊢
    have hP : va_P D vwCl [(m2, .inl (cI, 4, .inl gh)), (h0, .inr (9, [.ref m1, .ref m2, .ref m3, .int ik, .int wy, .int op, .int cl, .int cx0, .int cx1, .int cy0, .int cy1, .int ds, .ref m4, .ref m5, .ref m6, .ref m7, .ref m8, .ref m9, .int pn, .ref m10, .ref m11, .ref m12, .ref m13])), (m1, .inl (cI, 4, .inl gw))] H := hP
    have hD : va_D A [(m2, .inl (cI, 4, .inl gh)), (h0, .inr (9, [.ref m1, .ref m2, .ref m3, .int ik, .int wy, .int op, .int cl, .int cx0, .int cx1, .int cy0, .int cy1, .int ds, .ref m4, .ref m5, .ref m6, .ref m7, .ref m8, .ref m9, .int pn, .ref m10, .ref m11, .ref m12, .ref m13])), (m1, .inl (cI, 4, .inl gw))] := hD
    refine lv_if_eq (tgt := 46) hx hb dX9_differ_13 (by decide) (fun c_5 => ?_) (fun c_5 => ?_)
    · skip
      have f_6 := bz0 hr_4 c_5
      refine lv_iconst (v := (-1)) hx hb dX9_differ_46 (by decide) ?_
      have hP9 := hP.sub (ws' := [(h0, .inr (9, [.ref m1, .ref m2, .ref m3, .int ik, .int wy, .int op, .int cl, .int cx0, .int cx1, .int cy0, .int cy1, .int ds, .ref m4, .ref m5, .ref m6, .ref m7, .ref m8, .ref m9, .int pn, .ref m10, .ref m11, .ref m12, .ref m13])), (m1, .inl (cI, 4, .inl gw)), (m2, .inl (cI, 4, .inl gh))]) [1, 2, 0] rfl
      have hD9 := hD.sub (ws' := [(h0, .inr (9, [.ref m1, .ref m2, .ref m3, .int ik, .int wy, .int op, .int cl, .int cx0, .int cx1, .int cy0, .int cy1, .int ds, .ref m4, .ref m5, .ref m6, .ref m7, .ref m8, .ref m9, .int pn, .ref m10, .ref m11, .ref m12, .ref m13])), (m1, .inl (cI, 4, .inl gw)), (m2, .inl (cI, 4, .inl gh))]) [1, 2, 0] (by decide) rfl
      have hK9 := hK.sub (tys' := [(cI, .int)]) [0] rfl
      refine hQ _ _ _ _ _ ?_
      exact W.iret (v := (-1)) hx hb hr (fun t ht hW => ⟨⟨(-1), (), rfl, rfl, ⟨by rw [ht]; exact hP9, va_K.moved hW.alike hK9, hD9⟩⟩, hS.F ht⟩) hS.2.2 dX9_differ_47
    · skip
      have f_6 := bz1 hr_4 c_5
      refine lv_aload_n hx hb dX9_differ_16 rfl (lv_at hl 0 rfl) ?_
      refine va_get (D := D) (ci := 9) (v := .ref m1) (C := RX9) (T := TX9) (N := 23) hx hb hts hi_X9 hown hK hP 1 rfl rfl 0 (by decide) (hts _ bw_396) (fun _ h9 => h9) rfl dX9_differ_17 ?_
      refine lv_iload_n hx hb dX9_differ_20 rfl (lv_at hl 1 rfl) ?_
      refine va_iald hx hb hK hP 2 0 rfl rfl (vp_in_iff.mpr ⟨by omega, by omega⟩) dX9_differ_21 ?_
      refine lv_aload_n hx hb dX9_differ_22 rfl (lv_at hl 0 rfl) ?_
      refine va_get (D := D) (ci := 9) (v := .ref m1) (C := RX9) (T := TX9) (N := 23) hx hb hts hi_X9 hown hK hP 1 rfl rfl 0 (by decide) (hts _ bw_396) (fun _ h9 => h9) rfl dX9_differ_23 ?_
      refine lv_iload_n hx hb dX9_differ_26 rfl (lv_at hl 2 rfl) ?_
      refine va_iald hx hb hK hP 2 0 rfl rfl (vp_in_iff.mpr ⟨by omega, by omega⟩) dX9_differ_27 ?_
      refine lv_icmp_ne (tgt := 46) hx hb dX9_differ_28 (by decide) (fun c_7 => ?_) (fun c_7 => ?_)
      · skip
        have f_8 : ¬ ((gw k.toNatClampNeg).toInt = (gw kq.toNatClampNeg).toInt) := fn_eq rfl rfl c_7
        refine lv_iconst (v := (-1)) hx hb dX9_differ_46 (by decide) ?_
        have hP9 := hP.sub (ws' := [(h0, .inr (9, [.ref m1, .ref m2, .ref m3, .int ik, .int wy, .int op, .int cl, .int cx0, .int cx1, .int cy0, .int cy1, .int ds, .ref m4, .ref m5, .ref m6, .ref m7, .ref m8, .ref m9, .int pn, .ref m10, .ref m11, .ref m12, .ref m13])), (m1, .inl (cI, 4, .inl gw)), (m2, .inl (cI, 4, .inl gh))]) [1, 2, 0] rfl
        have hD9 := hD.sub (ws' := [(h0, .inr (9, [.ref m1, .ref m2, .ref m3, .int ik, .int wy, .int op, .int cl, .int cx0, .int cx1, .int cy0, .int cy1, .int ds, .ref m4, .ref m5, .ref m6, .ref m7, .ref m8, .ref m9, .int pn, .ref m10, .ref m11, .ref m12, .ref m13])), (m1, .inl (cI, 4, .inl gw)), (m2, .inl (cI, 4, .inl gh))]) [1, 2, 0] (by decide) rfl
        have hK9 := hK.sub (tys' := [(cI, .int)]) [0] rfl
        refine hQ _ _ _ _ _ ?_
        exact W.iret (v := (-1)) hx hb hr (fun t ht hW => ⟨⟨(-1), (), rfl, rfl, ⟨by rw [ht]; exact hP9, va_K.moved hW.alike hK9, hD9⟩⟩, hS.F ht⟩) hS.2.2 dX9_differ_47
      · skip
        have f_8 : (gw k.toNatClampNeg).toInt = (gw kq.toNatClampNeg).toInt := f_eq rfl rfl c_7
        refine lv_aload_n hx hb dX9_differ_31 rfl (lv_at hl 0 rfl) ?_
        refine va_get (D := D) (ci := 9) (v := .ref m2) (C := RX9) (T := TX9) (N := 23) hx hb hts hi_X9 hown hK hP 1 rfl rfl 1 (by decide) (hts _ bw_397) (fun _ h9 => h9) rfl dX9_differ_32 ?_
        refine lv_iload_n hx hb dX9_differ_35 rfl (lv_at hl 1 rfl) ?_
        refine va_iald hx hb hK hP 0 0 rfl rfl (vp_in_iff.mpr ⟨by omega, by omega⟩) dX9_differ_36 ?_
        refine lv_aload_n hx hb dX9_differ_37 rfl (lv_at hl 0 rfl) ?_
        refine va_get (D := D) (ci := 9) (v := .ref m2) (C := RX9) (T := TX9) (N := 23) hx hb hts hi_X9 hown hK hP 1 rfl rfl 1 (by decide) (hts _ bw_397) (fun _ h9 => h9) rfl dX9_differ_38 ?_
        refine lv_iload_n hx hb dX9_differ_41 rfl (lv_at hl 2 rfl) ?_
        refine va_iald hx hb hK hP 0 0 rfl rfl (vp_in_iff.mpr ⟨by omega, by omega⟩) dX9_differ_42 ?_
        refine lv_icmp_eq (tgt := 48) hx hb dX9_differ_43 (by decide) (fun c_9 => ?_) (fun c_9 => ?_)
        · skip
          have f_10 : (gh k.toNatClampNeg).toInt = (gh kq.toNatClampNeg).toInt := f_eq rfl rfl c_9
          exact False.elim (by omega)
        · skip
          have f_10 : ¬ ((gh k.toNatClampNeg).toInt = (gh kq.toNatClampNeg).toInt) := fn_eq rfl rfl c_9
          refine lv_iconst (v := (-1)) hx hb dX9_differ_46 (by decide) ?_
          have hP9 := hP.sub (ws' := [(h0, .inr (9, [.ref m1, .ref m2, .ref m3, .int ik, .int wy, .int op, .int cl, .int cx0, .int cx1, .int cy0, .int cy1, .int ds, .ref m4, .ref m5, .ref m6, .ref m7, .ref m8, .ref m9, .int pn, .ref m10, .ref m11, .ref m12, .ref m13])), (m1, .inl (cI, 4, .inl gw)), (m2, .inl (cI, 4, .inl gh))]) [1, 2, 0] rfl
          have hD9 := hD.sub (ws' := [(h0, .inr (9, [.ref m1, .ref m2, .ref m3, .int ik, .int wy, .int op, .int cl, .int cx0, .int cx1, .int cy0, .int cy1, .int ds, .ref m4, .ref m5, .ref m6, .ref m7, .ref m8, .ref m9, .int pn, .ref m10, .ref m11, .ref m12, .ref m13])), (m1, .inl (cI, 4, .inl gw)), (m2, .inl (cI, 4, .inl gh))]) [1, 2, 0] (by decide) rfl
          have hK9 := hK.sub (tys' := [(cI, .int)]) [0] rfl
          refine hQ _ _ _ _ _ ?_
          exact W.iret (v := (-1)) hx hb hr (fun t ht hW => ⟨⟨(-1), (), rfl, rfl, ⟨by rw [ht]; exact hP9, va_K.moved hW.alike hK9, hD9⟩⟩, hS.F ht⟩) hS.2.2 dX9_differ_47

set_option maxHeartbeats 4000000 in
set_option maxRecDepth 100000 in
theorem k_X9_look_ye (l : Launch) (D : va_G) (sz : Nat) (h0 m1 m2 m3 m4 m5 m6 m7 m8 m9 m10 m11 m12 m13 : Nat) (ik wy op cl cx0 cx1 cy0 cy1 ds pn : Int32) (gw : Nat → Int32) (gh : Nat → Int32) (gd : Nat → Int32) (k wh : Int32) (cI : ClassId) (hk : 0 ≤ k.toInt ∧ k.toInt ≤ 3) (hgw : 0 ≤ (gw k.toNatClampNeg).toInt ∧ (gw k.toNatClampNeg).toInt ≤ 64) (hgh : 0 ≤ (gh k.toNatClampNeg).toInt ∧ (gh k.toNatClampNeg).toInt ≤ 64) (hgp : 0 < (gw k.toNatClampNeg).toInt) (hwh : 0 ≤ wh.toInt ∧ wh.toInt ≤ 9) : Met l yX9_look (wB yX9_look cX9_look 8 (some .int)) ({ frames := 1, cells := 0, slots := 0, locals := 22 }) (cP D [(h0, .inr (9, [.ref m1, .ref m2, .ref m3, .int ik, .int wy, .int op, .int cl, .int cx0, .int cx1, .int cy0, .int cy1, .int ds, .ref m4, .ref m5, .ref m6, .ref m7, .ref m8, .ref m9, .int pn, .ref m10, .ref m11, .ref m12, .ref m13])), (m1, .inl (cI, 4, .inl gw)), (m2, .inl (cI, 4, .inl gh)), (m3, .inl (cI, 16384, .inl gd))] [(cI, .int)] sz [.ref h0, .int k, .int wh]) (va_Qi (fun (r : Int32) (_ : Unit) => r = lkP (fun t => gd (4096 * k.toNatClampNeg + t)) (gw k.toNatClampNeg) (gh k.toNatClampNeg) wh) (fun (_ : Unit) (t : State) => cB D (va_A [(h0, .inr (9, [.ref m1, .ref m2, .ref m3, .int ik, .int wy, .int op, .int cl, .int cx0, .int cx1, .int cy0, .int cy1, .int ds, .ref m4, .ref m5, .ref m6, .ref m7, .ref m8, .ref m9, .int pn, .ref m10, .ref m11, .ref m12, .ref m13])), (m1, .inl (cI, 4, .inl gw)), (m2, .inl (cI, 4, .inl gh)), (m3, .inl (cI, 16384, .inl gd))] sz) [(h0, .inr (9, [.ref m1, .ref m2, .ref m3, .int ik, .int wy, .int op, .int cl, .int cx0, .int cx1, .int cy0, .int cy1, .int ds, .ref m4, .ref m5, .ref m6, .ref m7, .ref m8, .ref m9, .int pn, .ref m10, .ref m11, .ref m12, .ref m13])), (m1, .inl (cI, 4, .inl gw)), (m2, .inl (cI, 4, .inl gh)), (m3, .inl (cI, 16384, .inl gd))] [(cI, .int)] t) (va_A [(h0, .inr (9, [.ref m1, .ref m2, .ref m3, .int ik, .int wy, .int op, .int cl, .int cx0, .int cx1, .int cy0, .int cy1, .int ds, .ref m4, .ref m5, .ref m6, .ref m7, .ref m8, .ref m9, .int pn, .ref m10, .ref m11, .ref m12, .ref m13])), (m1, .inl (cI, 4, .inl gw)), (m2, .inl (cI, 4, .inl gh)), (m3, .inl (cI, 16384, .inl gd))] sz)) 0 0 (va_A [(h0, .inr (9, [.ref m1, .ref m2, .ref m3, .int ik, .int wy, .int op, .int cl, .int cx0, .int cx1, .int cy0, .int cy1, .int ds, .ref m4, .ref m5, .ref m6, .ref m7, .ref m8, .ref m9, .int pn, .ref m10, .ref m11, .ref m12, .ref m13])), (m1, .inl (cI, 4, .inl gw)), (m2, .inl (cI, 4, .inl gh)), (m3, .inl (cI, 16384, .inl gd))] sz) := by
  refine Met.ofW (cc := cX9_look) (maxL := 8) (ret := (some .int)) (by decide) rfl ?_
  intro p e s m args below meth c s₁ B hml hv
  obtain ⟨rfl, hsz, hP, hK, hD0, hN⟩ := hv
  have hx := B.exec
  have hb := B.bytes
  have hr := B.returns
  have hts0 := atoms_spec (ws := (wB yX9_look cX9_look 8 (some .int))) B.pre
  have hts : ∀ w ∈ bigW, w.before _ s = true := fun w h => hts0 w (List.mem_cons_of_mem _ h)
  have hown : s.vm.findClass RX9 = some m.cls := findClass_of_methodNamed B.named
  have hlocks := B.notSynchronized
  subst hsz
  have hD := hD0.self (sz := s.heap.size)
  generalize hAe : va_A [(h0, .inr (9, [.ref m1, .ref m2, .ref m3, .int ik, .int wy, .int op, .int cl, .int cx0, .int cx1, .int cy0, .int cy1, .int ds, .ref m4, .ref m5, .ref m6, .ref m7, .ref m8, .ref m9, .int pn, .ref m10, .ref m11, .ref m12, .ref m13])), (m1, .inl (cI, 4, .inl gw)), (m2, .inl (cI, 4, .inl gh)), (m3, .inl (cI, 16384, .inl gd))] s.heap.size = A at hD ⊢
  have hA : ∀ q : Nat, s.heap.size ≤ q → A q := fun q h => by rw [← hAe]; exact Or.inr h
  have hS : va_S A s.heap s.heap [] := va_S.rf
  have hP : va_P D vwCl [(h0, .inr (9, [.ref m1, .ref m2, .ref m3, .int ik, .int wy, .int op, .int cl, .int cx0, .int cx1, .int cy0, .int cy1, .int ds, .ref m4, .ref m5, .ref m6, .ref m7, .ref m8, .ref m9, .int pn, .ref m10, .ref m11, .ref m12, .ref m13])), (m1, .inl (cI, 4, .inl gw)), (m2, .inl (cI, 4, .inl gh)), (m3, .inl (cI, 16384, .inl gd))] s.heap := hP
  have hl := lv_entry ([.ref h0, .int k, .int wh]) (n := 8) (Nat.le_of_ble_eq_true rfl)
  rw [lg_entry_eq]
  generalize (lg_sl ([.ref h0, .int k, .int wh]) ++ List.replicate (8 - (lg_sl ([.ref h0, .int k, .int wh])).length) Slot.unset).toArray = ls at hl ⊢
  have hl : lv_has ls 8 [(0, .ref h0), (1, .int k), (2, .int wh)] := hl
  clear hts0 hD0 hAe
  refine my_abs (fun R Q hR hQ => ?_)
  obtain ⟨W9, hW9, eW9⟩ := i_of (x := gw k.toNatClampNeg) (N := 65) (by omega) (by omega) (by decide)
  have eW9n : (gw k.toNatClampNeg).toNatClampNeg = W9 := by rw [eW9]; exact nI_clamp (by omega)
  have hW9t : (gw k.toNatClampNeg).toInt = (W9 : Int) := by rw [eW9]; exact nI_toInt (by omega)
  obtain ⟨H9, hH9, eH9⟩ := i_of (x := gh k.toNatClampNeg) (N := 65) (by omega) (by omega) (by decide)
  have eH9n : (gh k.toNatClampNeg).toNatClampNeg = H9 := by rw [eH9]; exact nI_clamp (by omega)
  have hH9t : (gh k.toNatClampNeg).toInt = (H9 : Int) := by rw [eH9]; exact nI_toInt (by omega)
  refine lv_aload_n hx hb dX9_look_0 rfl (lv_at hl 0 rfl) ?_
  refine lv_iload_n hx hb dX9_look_1 rfl (lv_at hl 1 rfl) ?_
  have hPc := hP.sub (ws' := [(h0, .inr (9, [.ref m1, .ref m2, .ref m3, .int ik, .int wy, .int op, .int cl, .int cx0, .int cx1, .int cy0, .int cy1, .int ds, .ref m4, .ref m5, .ref m6, .ref m7, .ref m8, .ref m9, .int pn, .ref m10, .ref m11, .ref m12, .ref m13])), (m1, .inl (cI, 4, .inl gw))]) [0, 1] rfl
  have hDc := hD.sub (ws' := [(h0, .inr (9, [.ref m1, .ref m2, .ref m3, .int ik, .int wy, .int op, .int cl, .int cx0, .int cx1, .int cy0, .int cy1, .int ds, .ref m4, .ref m5, .ref m6, .ref m7, .ref m8, .ref m9, .int pn, .ref m10, .ref m11, .ref m12, .ref m13])), (m1, .inl (cI, 4, .inl gw))]) [0, 1] (by decide) rfl
  have hKc := hK.sub (tys' := [(cI, .int)]) [0] rfl
  have hFc := va_free (wc := [(h0, .inr (9, [.ref m1, .ref m2, .ref m3, .int ik, .int wy, .int op, .int cl, .int cx0, .int cx1, .int cy0, .int cy1, .int ds, .ref m4, .ref m5, .ref m6, .ref m7, .ref m8, .ref m9, .int pn, .ref m10, .ref m11, .ref m12, .ref m13])), (m1, .inl (cI, 4, .inl gw))]) hD hS hA [0, 1] rfl
  refine va_calli (va_runV (As := [.int k]) (rest := []) ⟨hx, hb, hml, hown, hts⟩ (k_X9_isSheet l D s.heap.size h0 m1 m2 m3 m4 m5 m6 m7 m8 m9 m10 m11 m12 m13 ik wy op cl cx0 cx1 cy0 cy1 ds pn gw k cI) (cwV 1 hts (gV bw_490 bw_415 bw_416 bw_391 bw_414) rfl rfl rfl (by decide +kernel) ⟨(by rw [hR]; exact Nat.le_of_ble_eq_true rfl), (by rw [hR]; exact Nat.le_of_ble_eq_true rfl)⟩) ⟨cP_blind, va_recv hKc hPc (ci := 9) (q0 := 0) rfl rfl, cP_at hPc hKc hDc hN⟩ rfl rfl hl.1 rfl (lv_room (Nat.le_of_ble_eq_true rfl)) dX9_look_2 ⟨(by rw [hR]; exact Nat.le_of_ble_eq_true rfl), (by rw [hR]; exact Nat.le_of_ble_eq_true rfl)⟩) hS (fun q _ h => hFc q h) hFc (fun r_1 u9 t9 H1 locs ht hvm hr_1 hB hz1 hk1 hS => ?_)
  try dsimp only at hr_1
  obtain ⟨hP1, hK1, hD1⟩ := hB
  rw [ht] at hP1
  obtain ⟨hP, hD⟩ := va_join (wr := [(m2, .inl (cI, 4, .inl gh)), (m3, .inl (cI, 16384, .inl gd))]) (w1 := [(h0, .inr (9, [.ref m1, .ref m2, .ref m3, .int ik, .int wy, .int op, .int cl, .int cx0, .int cx1, .int cy0, .int cy1, .int ds, .ref m4, .ref m5, .ref m6, .ref m7, .ref m8, .ref m9, .int pn, .ref m10, .ref m11, .ref m12, .ref m13])), (m1, .inl (cI, 4, .inl gw))]) hP hD [0, 1] [2, 3] rfl rfl (by decide) (by decide) hk1 hFc hP1 hD1
  clear hz1 hk1 hFc hKc hDc hPc
  generalize H1 = H at hP hS ⊢
  have hP : va_P D vwCl [(m2, .inl (cI, 4, .inl gh)), (m3, .inl (cI, 16384, .inl gd)), (h0, .inr (9, [.ref m1, .ref m2, .ref m3, .int ik, .int wy, .int op, .int cl, .int cx0, .int cx1, .int cy0, .int cy1, .int ds, .ref m4, .ref m5, .ref m6, .ref m7, .ref m8, .ref m9, .int pn, .ref m10, .ref m11, .ref m12, .ref m13])), (m1, .inl (cI, 4, .inl gw))] H := hP
  have hD : va_D A [(m2, .inl (cI, 4, .inl gh)), (m3, .inl (cI, 16384, .inl gd)), (h0, .inr (9, [.ref m1, .ref m2, .ref m3, .int ik, .int wy, .int op, .int cl, .int cx0, .int cx1, .int cy0, .int cy1, .int ds, .ref m4, .ref m5, .ref m6, .ref m7, .ref m8, .ref m9, .int pn, .ref m10, .ref m11, .ref m12, .ref m13])), (m1, .inl (cI, 4, .inl gw))] := hD
  refine lv_if_eq (tgt := 18) hx hb dX9_look_5 (by decide) (fun c_2 => ?_) (fun c_2 => ?_)
  · skip
    have f_3 := bz0 hr_1 c_2
    exact False.elim (by omega)
  · skip
    have f_3 := bz1 hr_1 c_2
    refine lv_iload_n hx hb dX9_look_8 rfl (lv_at hl 2 rfl) ?_
    refine lv_if_lt (tgt := 18) hx hb dX9_look_9 (by decide) (fun c_4 => ?_) (fun c_4 => ?_)
    · skip
      have f_5 : wh.toInt < 0 := f_lt rfl (by decide) c_4
      exact False.elim (by omega)
    · skip
      have f_5 : ¬ (wh.toInt < 0) := fn_lt rfl (by decide) c_4
      refine lv_iload_n hx hb dX9_look_12 rfl (lv_at hl 2 rfl) ?_
      refine lv_bipush (v := 9) hx hb dX9_look_13 (by decide) ?_
      refine lv_icmp_le (tgt := 20) hx hb dX9_look_15 (by decide) (fun c_6 => ?_) (fun c_6 => ?_)
      · skip
        have f_7 : wh.toInt ≤ 9 := f_le rfl (by decide) c_6
        obtain ⟨j9, hj9, ej9⟩ := i_of (x := wh) (N := 10) (by omega) (by omega) (by decide)
        subst ej9
        rcases (show j9 = 0 ∨ j9 = 1 ∨ j9 = 2 ∨ j9 = 3 ∨ j9 = 4 ∨ j9 = 5 ∨ j9 = 6 ∨ j9 = 7 ∨ j9 = 8 ∨ j9 = 9 by omega) with rfl | rfl | rfl | rfl | rfl | rfl | rfl | rfl | rfl | rfl
        · skip
          have hl : lv_has ls 8 [(0, .ref h0), (1, .int k), (2, .int 0)] := hl
          refine lv_iload_n hx hb dX9_look_20 rfl (lv_at hl 2 rfl) ?_
          refine lv_iconst (v := 4) hx hb dX9_look_21 (by decide) ?_
          refine lv_icmp_ne (tgt := 32) hx hb dX9_look_22 (by decide) (fun c_8 => ?_) (fun c_8 => ?_)
          · skip
            refine lv_iload_n hx hb dX9_look_32 rfl (lv_at hl 2 rfl) ?_
            refine lv_iconst (v := 5) hx hb dX9_look_33 (by decide) ?_
            refine lv_icmp_ne (tgt := 44) hx hb dX9_look_34 (by decide) (fun c_10 => ?_) (fun c_10 => ?_)
            · skip
              refine lv_iload_n hx hb dX9_look_44 rfl (lv_at hl 2 rfl) ?_
              refine lv_bipush (v := 6) hx hb dX9_look_45 (by decide) ?_
              refine lv_icmp_ge (tgt := 54) hx hb dX9_look_47 (by decide) (fun c_12 => ?_) (fun c_12 => ?_)
              · skip
                exact absurd c_12 (by decide)
              · skip
                refine lv_iconst (v := (-1)) hx hb dX9_look_50 (by decide) ?_
                refine lv_goto (tgt := 55) hx hb dX9_look_51 (by decide) ?_
                refine lv_istore_n (lv' := [(3, .int (-1)), (0, .ref h0), (1, .int k), (2, .int 0)]) hx hb dX9_look_55 rfl hl (by decide) rfl (fun ls hl => ?_)
                refine lv_iconst (v := 0) hx hb dX9_look_56 (by decide) ?_
                refine lv_istore (lv' := [(4, .int 0), (3, .int (-1)), (0, .ref h0), (1, .int k), (2, .int 0)]) hx hb dX9_look_57 hl (by decide) rfl (fun ls hl => ?_)
                have loop_14 : ∀ (n : Nat) (j : Nat) (x4 : Int32) (x3 : Int32) (H : Heap) (locs : List Loc) (ls : Array Slot), (j ≤ 64) → (64 + 1 ≤ j + n) → (x4 = nI j) → (j ≤ H9) → (x3 = smL (blF (fun t => gd (4096 * k.toNatClampNeg + t)) 1) W9 (-1) j) → va_P D vwCl [(m2, .inl (cI, 4, .inl gh)), (m3, .inl (cI, 16384, .inl gd)), (h0, .inr (9, [.ref m1, .ref m2, .ref m3, .int ik, .int wy, .int op, .int cl, .int cx0, .int cx1, .int cy0, .int cy1, .int ds, .ref m4, .ref m5, .ref m6, .ref m7, .ref m8, .ref m9, .int pn, .ref m10, .ref m11, .ref m12, .ref m13])), (m1, .inl (cI, 4, .inl gw))] H → va_D A [(m2, .inl (cI, 4, .inl gh)), (m3, .inl (cI, 16384, .inl gd)), (h0, .inr (9, [.ref m1, .ref m2, .ref m3, .int ik, .int wy, .int op, .int cl, .int cx0, .int cx1, .int cy0, .int cy1, .int ds, .ref m4, .ref m5, .ref m6, .ref m7, .ref m8, .ref m9, .int pn, .ref m10, .ref m11, .ref m12, .ref m13])), (m1, .inl (cI, 4, .inl gw))] → va_S A s.heap H locs → lv_has ls 8 [(4, .int x4), (3, .int x3), (0, .ref h0), (1, .int k), (2, .int 0)] → W p l e R s m ([.ref h0, .int k, .int (nI 0)] : List Value).toArray below meth c H locs 0 0 Q (F0 m 59 ls []) := by
                  intro n
                  induction n with
                  | zero =>
                    intro j x4 x3 H locs ls hi_j hm_j ex_j hjo eto hP hD hS hl
                    exact absurd (show False by omega) not_false
                  | succ n ih_15 =>
                    intro j x4 x3 H locs ls hi_j hm_j ex_j hjo eto hP hD hS hl
                    have hx_j : x4.toInt = (j : Int) := by rw [ex_j]; exact nI_toInt (by omega)
                    have hc_j : x4.toNatClampNeg = j := by rw [ex_j]; exact nI_clamp (by omega)
                    refine lv_iload hx hb dX9_look_59 (lv_at hl 0 rfl) ?_
                    refine lv_aload_n hx hb dX9_look_61 rfl (lv_at hl 2 rfl) ?_
                    refine va_get (D := D) (ci := 9) (v := .ref m2) (C := RX9) (T := TX9) (N := 23) hx hb hts hi_X9 hown hK hP 2 rfl rfl 1 (by decide) (hts _ bw_397) (fun _ h9 => h9) rfl dX9_look_62 ?_
                    refine lv_iload_n hx hb dX9_look_65 rfl (lv_at hl 3 rfl) ?_
                    refine va_iald hx hb hK hP 0 0 rfl rfl (vp_in_iff.mpr ⟨by omega, by omega⟩) dX9_look_66 ?_
                    refine lv_icmp_ge (tgt := 187) hx hb dX9_look_67 (by decide) (fun c_16 => ?_) (fun c_16 => ?_)
                    · skip
                      have f_17 : (gh k.toNatClampNeg).toInt ≤ (j : Int) := f_le rfl hx_j c_16
                      refine lv_iload_n hx hb dX9_look_187 rfl (lv_at hl 1 rfl) ?_
                      have hP9 := hP.sub (ws' := [(h0, .inr (9, [.ref m1, .ref m2, .ref m3, .int ik, .int wy, .int op, .int cl, .int cx0, .int cx1, .int cy0, .int cy1, .int ds, .ref m4, .ref m5, .ref m6, .ref m7, .ref m8, .ref m9, .int pn, .ref m10, .ref m11, .ref m12, .ref m13])), (m1, .inl (cI, 4, .inl gw)), (m2, .inl (cI, 4, .inl gh)), (m3, .inl (cI, 16384, .inl gd))]) [2, 3, 0, 1] rfl
                      have hD9 := hD.sub (ws' := [(h0, .inr (9, [.ref m1, .ref m2, .ref m3, .int ik, .int wy, .int op, .int cl, .int cx0, .int cx1, .int cy0, .int cy1, .int ds, .ref m4, .ref m5, .ref m6, .ref m7, .ref m8, .ref m9, .int pn, .ref m10, .ref m11, .ref m12, .ref m13])), (m1, .inl (cI, 4, .inl gw)), (m2, .inl (cI, 4, .inl gh)), (m3, .inl (cI, 16384, .inl gd))]) [2, 3, 0, 1] (by decide) rfl
                      have hK9 := hK.sub (tys' := [(cI, .int)]) [0] rfl
                      refine hQ _ _ _ _ _ ?_
                      exact W.iret (v := x3) hx hb hr (fun t ht hW => ⟨⟨x3, (), rfl, (show _ = lkP (fun t => gd (4096 * k.toNatClampNeg + t)) (gw k.toNatClampNeg) (gh k.toNatClampNeg) (nI 0) from (show _ = smL (blF (fun t => gd (4096 * k.toNatClampNeg + t)) 1) (gw k.toNatClampNeg).toNatClampNeg (-1) (gh k.toNatClampNeg).toNatClampNeg from (by rw [eW9n, eH9n, ← show j = H9 by omega]; exact eto)).trans (if_pos (by decide)).symm), ⟨by rw [ht]; exact hP9, va_K.moved hW.alike hK9, hD9⟩⟩, hS.F ht⟩) hS.2.2 dX9_look_188
                    · skip
                      have f_17 : ¬ ((gh k.toNatClampNeg).toInt ≤ (j : Int)) := fn_le rfl hx_j c_16
                      refine lv_iconst (v := 0) hx hb dX9_look_70 (by decide) ?_
                      refine lv_istore (lv' := [(5, .int 0), (4, .int x4), (3, .int x3), (0, .ref h0), (1, .int k), (2, .int 0)]) hx hb dX9_look_71 hl (by decide) rfl (fun ls hl => ?_)
                      have loop_18 : ∀ (n : Nat) (i : Nat) (x5 : Int32) (z3 : Int32) (H : Heap) (locs : List Loc) (ls : Array Slot), (i ≤ 64) → (64 + 1 ≤ i + n) → (x5 = nI i) → (i ≤ W9) → (z3 = smR (blF (fun t => gd (4096 * k.toNatClampNeg + t)) 1) j (smL (blF (fun t => gd (4096 * k.toNatClampNeg + t)) 1) W9 (-1) j) i) → va_P D vwCl [(m2, .inl (cI, 4, .inl gh)), (m3, .inl (cI, 16384, .inl gd)), (h0, .inr (9, [.ref m1, .ref m2, .ref m3, .int ik, .int wy, .int op, .int cl, .int cx0, .int cx1, .int cy0, .int cy1, .int ds, .ref m4, .ref m5, .ref m6, .ref m7, .ref m8, .ref m9, .int pn, .ref m10, .ref m11, .ref m12, .ref m13])), (m1, .inl (cI, 4, .inl gw))] H → va_D A [(m2, .inl (cI, 4, .inl gh)), (m3, .inl (cI, 16384, .inl gd)), (h0, .inr (9, [.ref m1, .ref m2, .ref m3, .int ik, .int wy, .int op, .int cl, .int cx0, .int cx1, .int cy0, .int cy1, .int ds, .ref m4, .ref m5, .ref m6, .ref m7, .ref m8, .ref m9, .int pn, .ref m10, .ref m11, .ref m12, .ref m13])), (m1, .inl (cI, 4, .inl gw))] → va_S A s.heap H locs → lv_has ls 8 [(5, .int x5), (4, .int x4), (3, .int z3), (0, .ref h0), (1, .int k), (2, .int 0)] → W p l e R s m ([.ref h0, .int k, .int (nI 0)] : List Value).toArray below meth c H locs 0 0 Q (F0 m 73 ls []) := by
                        intro n
                        induction n with
                        | zero =>
                          intro i x5 z3 H locs ls hi_i hm_i ex_i hio eti hP hD hS hl
                          exact absurd (show False by omega) not_false
                        | succ n ih_19 =>
                          intro i x5 z3 H locs ls hi_i hm_i ex_i hio eti hP hD hS hl
                          have hx_i : x5.toInt = (i : Int) := by rw [ex_i]; exact nI_toInt (by omega)
                          have hc_i : x5.toNatClampNeg = i := by rw [ex_i]; exact nI_clamp (by omega)
                          refine lv_iload hx hb dX9_look_73 (lv_at hl 0 rfl) ?_
                          refine lv_aload_n hx hb dX9_look_75 rfl (lv_at hl 3 rfl) ?_
                          refine va_get (D := D) (ci := 9) (v := .ref m1) (C := RX9) (T := TX9) (N := 23) hx hb hts hi_X9 hown hK hP 2 rfl rfl 0 (by decide) (hts _ bw_396) (fun _ h9 => h9) rfl dX9_look_76 ?_
                          refine lv_iload_n hx hb dX9_look_79 rfl (lv_at hl 4 rfl) ?_
                          refine va_iald hx hb hK hP 3 0 rfl rfl (vp_in_iff.mpr ⟨by omega, by omega⟩) dX9_look_80 ?_
                          refine lv_icmp_ge (tgt := 181) hx hb dX9_look_81 (by decide) (fun c_20 => ?_) (fun c_20 => ?_)
                          · skip
                            have f_21 : (gw k.toNatClampNeg).toInt ≤ (i : Int) := f_le rfl hx_i c_20
                            obtain ⟨y_22, ey_22⟩ : ∃ y : Int32, y = x4 + 1 := ⟨_, rfl⟩
                            refine lv_iinc (v := y_22) (lv' := [(4, .int y_22), (5, .int x5), (3, .int z3), (0, .ref h0), (1, .int k), (2, .int 0)]) hx hb dX9_look_181 hl (k := 1) rfl (by rw [ey_22]; rfl) (by decide) rfl (fun ls hl => ?_)
                            refine lv_goto (tgt := 59) hx hb dX9_look_184 (by decide) ?_
                            exact ih_15 (j + 1) y_22 z3 _ _ _ (by omega) (by omega) (by rw [ey_22, ex_j]; exact nI_1 j) (by omega) (sm_nx eti (by omega)) (hP.sub (ws' := [(m2, .inl (cI, 4, .inl gh)), (m3, .inl (cI, 16384, .inl gd)), (h0, .inr (9, [.ref m1, .ref m2, .ref m3, .int ik, .int wy, .int op, .int cl, .int cx0, .int cx1, .int cy0, .int cy1, .int ds, .ref m4, .ref m5, .ref m6, .ref m7, .ref m8, .ref m9, .int pn, .ref m10, .ref m11, .ref m12, .ref m13])), (m1, .inl (cI, 4, .inl gw))]) [0, 1, 2, 3] rfl) (hD.sub (ws' := [(m2, .inl (cI, 4, .inl gh)), (m3, .inl (cI, 16384, .inl gd)), (h0, .inr (9, [.ref m1, .ref m2, .ref m3, .int ik, .int wy, .int op, .int cl, .int cx0, .int cx1, .int cy0, .int cy1, .int ds, .ref m4, .ref m5, .ref m6, .ref m7, .ref m8, .ref m9, .int pn, .ref m10, .ref m11, .ref m12, .ref m13])), (m1, .inl (cI, 4, .inl gw))]) [0, 1, 2, 3] (by decide) rfl) hS (lv_sub hl [0, 2, 3, 4, 5] rfl)
                          · skip
                            have f_21 : ¬ ((gw k.toNatClampNeg).toInt ≤ (i : Int)) := fn_le rfl hx_i c_20
                            refine lv_aload_n hx hb dX9_look_84 rfl (lv_at hl 3 rfl) ?_
                            refine va_get (D := D) (ci := 9) (v := .ref m3) (C := RX9) (T := TX9) (N := 23) hx hb hts hi_X9 hown hK hP 2 rfl rfl 2 (by decide) (hts _ bw_398) (fun _ h9 => h9) rfl dX9_look_85 ?_
                            refine lv_iload_n hx hb dX9_look_88 rfl (lv_at hl 4 rfl) ?_
                            refine lv_iload hx hb dX9_look_89 (lv_at hl 0 rfl) ?_
                            refine lv_iload hx hb dX9_look_91 (lv_at hl 1 rfl) ?_
                            have hPc := hP.sub (ws' := []) [] rfl
                            have hDc := hD.sub (ws' := []) [] (by decide) rfl
                            have hKc := hK.sub (tys' := []) [] rfl
                            have hFc := va_free (wc := []) hD hS hA [] rfl
                            refine va_calli (va_runS (As := [.int k, .int x5, .int x4]) (rest := [.ref m3]) ⟨hx, hb, hml, hown, hts⟩ (k_X9_spot l D H.size k x5 x4) (va_cwS 3 hts (gS bw_551 bw_421 bw_391 bw_420) rfl rfl rfl (by decide +kernel) ⟨(by rw [hR]; exact Nat.le_of_ble_eq_true rfl), (by rw [hR]; exact Nat.le_of_ble_eq_true rfl)⟩) ⟨cP_blind, cP_at hPc hKc hDc hN⟩ rfl rfl hl.1 rfl (lv_room (Nat.le_of_ble_eq_true rfl)) dX9_look_93 ⟨(by rw [hR]; exact Nat.le_of_ble_eq_true rfl), (by rw [hR]; exact Nat.le_of_ble_eq_true rfl)⟩) hS (fun q _ h => hFc q h) hFc (fun r_23 u9 t9 H1 locs ht hvm hr_23 hB hz1 hk1 hS => ?_)
                            try dsimp only at hr_23
                            have hP1 : va_P D vwCl [] H1 := vP_nil
                            have hD1 : va_D (va_A [] H.size) [] := vD_nil
                            obtain ⟨hP, hD⟩ := va_join (wr := [(m2, .inl (cI, 4, .inl gh)), (m3, .inl (cI, 16384, .inl gd)), (h0, .inr (9, [.ref m1, .ref m2, .ref m3, .int ik, .int wy, .int op, .int cl, .int cx0, .int cx1, .int cy0, .int cy1, .int ds, .ref m4, .ref m5, .ref m6, .ref m7, .ref m8, .ref m9, .int pn, .ref m10, .ref m11, .ref m12, .ref m13])), (m1, .inl (cI, 4, .inl gw))]) (w1 := []) hP hD [] [0, 1, 2, 3] rfl rfl (by decide) (by decide) hk1 hFc hP1 hD1
                            clear hz1 hk1 hFc hKc hDc hPc
                            generalize H1 = H at hP hS ⊢
                            have hP : va_P D vwCl [(m2, .inl (cI, 4, .inl gh)), (m3, .inl (cI, 16384, .inl gd)), (h0, .inr (9, [.ref m1, .ref m2, .ref m3, .int ik, .int wy, .int op, .int cl, .int cx0, .int cx1, .int cy0, .int cy1, .int ds, .ref m4, .ref m5, .ref m6, .ref m7, .ref m8, .ref m9, .int pn, .ref m10, .ref m11, .ref m12, .ref m13])), (m1, .inl (cI, 4, .inl gw))] H := hP
                            have hD : va_D A [(m2, .inl (cI, 4, .inl gh)), (m3, .inl (cI, 16384, .inl gd)), (h0, .inr (9, [.ref m1, .ref m2, .ref m3, .int ik, .int wy, .int op, .int cl, .int cx0, .int cx1, .int cy0, .int cy1, .int ds, .ref m4, .ref m5, .ref m6, .ref m7, .ref m8, .ref m9, .int pn, .ref m10, .ref m11, .ref m12, .ref m13])), (m1, .inl (cI, 4, .inl gw))] := hD
                            refine va_iald hx hb hK hP 1 0 rfl rfl (by rw [hr_23]; exact sp_in (by omega) (by omega) (by omega) (by omega) (by omega) (by omega)) dX9_look_96 ?_
                            refine my_fold (v := gd (4096 * k.toNatClampNeg + ixP (nI i) (nI j))) (congrArg gd (by rw [hr_23, sp_cl (by omega) (by omega) (by omega) (by omega) (by omega) (by omega), ex_i, ex_j])) ?_
                            refine lv_istore (lv' := [(6, .int (gd (4096 * k.toNatClampNeg + ixP (nI i) (nI j)))), (5, .int x5), (4, .int x4), (3, .int z3), (0, .ref h0), (1, .int k), (2, .int 0)]) hx hb dX9_look_97 hl (by decide) rfl (fun ls hl => ?_)
                            refine lv_iload_n hx hb dX9_look_99 rfl (lv_at hl 6 rfl) ?_
                            refine lv_iconst (v := 5) hx hb dX9_look_100 (by decide) ?_
                            refine lv_icmp_le (tgt := 119) hx hb dX9_look_101 (by decide) (fun c_24 => ?_) (fun c_24 => ?_)
                            · skip
                              refine lv_iload hx hb dX9_look_119 (lv_at hl 0 rfl) ?_
                              refine lv_iconst (v := 0) hx hb dX9_look_121 (by decide) ?_
                              have hPc := hP.sub (ws' := []) [] rfl
                              have hDc := hD.sub (ws' := []) [] (by decide) rfl
                              have hKc := hK.sub (tys' := []) [] rfl
                              have hFc := va_free (wc := []) hD hS hA [] rfl
                              refine va_calli (va_runS (As := [.int (gd (4096 * k.toNatClampNeg + ixP (nI i) (nI j))), .int 0]) (rest := []) ⟨hx, hb, hml, hown, hts⟩ (k_X9_channel_0 l D H.size (gd (4096 * k.toNatClampNeg + ixP (nI i) (nI j)))) (va_cwS 2 hts (gS bw_441 bw_438 bw_391 bw_437) rfl rfl rfl (by decide +kernel) ⟨(by rw [hR]; exact Nat.le_of_ble_eq_true rfl), (by rw [hR]; exact Nat.le_of_ble_eq_true rfl)⟩) ⟨cP_blind, cP_at hPc hKc hDc hN⟩ rfl rfl hl.1 rfl (lv_room (Nat.le_of_ble_eq_true rfl)) dX9_look_122 ⟨(by rw [hR]; exact Nat.le_of_ble_eq_true rfl), (by rw [hR]; exact Nat.le_of_ble_eq_true rfl)⟩) hS (fun q _ h => hFc q h) hFc (fun r_26 u9 t9 H1 locs ht hvm hr_26 hB hz1 hk1 hS => ?_)
                              try dsimp only at hr_26
                              have hP1 : va_P D vwCl [] H1 := vP_nil
                              have hD1 : va_D (va_A [] H.size) [] := vD_nil
                              obtain ⟨hP, hD⟩ := va_join (wr := [(m2, .inl (cI, 4, .inl gh)), (m3, .inl (cI, 16384, .inl gd)), (h0, .inr (9, [.ref m1, .ref m2, .ref m3, .int ik, .int wy, .int op, .int cl, .int cx0, .int cx1, .int cy0, .int cy1, .int ds, .ref m4, .ref m5, .ref m6, .ref m7, .ref m8, .ref m9, .int pn, .ref m10, .ref m11, .ref m12, .ref m13])), (m1, .inl (cI, 4, .inl gw))]) (w1 := []) hP hD [] [0, 1, 2, 3] rfl rfl (by decide) (by decide) hk1 hFc hP1 hD1
                              clear hz1 hk1 hFc hKc hDc hPc
                              generalize H1 = H at hP hS ⊢
                              have hP : va_P D vwCl [(m2, .inl (cI, 4, .inl gh)), (m3, .inl (cI, 16384, .inl gd)), (h0, .inr (9, [.ref m1, .ref m2, .ref m3, .int ik, .int wy, .int op, .int cl, .int cx0, .int cx1, .int cy0, .int cy1, .int ds, .ref m4, .ref m5, .ref m6, .ref m7, .ref m8, .ref m9, .int pn, .ref m10, .ref m11, .ref m12, .ref m13])), (m1, .inl (cI, 4, .inl gw))] H := hP
                              have hD : va_D A [(m2, .inl (cI, 4, .inl gh)), (m3, .inl (cI, 16384, .inl gd)), (h0, .inr (9, [.ref m1, .ref m2, .ref m3, .int ik, .int wy, .int op, .int cl, .int cx0, .int cx1, .int cy0, .int cy1, .int ds, .ref m4, .ref m5, .ref m6, .ref m7, .ref m8, .ref m9, .int pn, .ref m10, .ref m11, .ref m12, .ref m13])), (m1, .inl (cI, 4, .inl gw))] := hD
                              refine lv_if_eq (tgt := 175) hx hb dX9_look_125 (by decide) (fun c_27 => ?_) (fun c_27 => ?_)
                              · skip
                                have f_28 : r_26.toInt = 0 := f_eq rfl (by decide) c_27
                                obtain ⟨y_29, ey_29⟩ : ∃ y : Int32, y = x5 + 1 := ⟨_, rfl⟩
                                refine lv_iinc (v := y_29) (lv' := [(5, .int y_29), (6, .int (gd (4096 * k.toNatClampNeg + ixP (nI i) (nI j)))), (4, .int x4), (3, .int z3), (0, .ref h0), (1, .int k), (2, .int 0)]) hx hb dX9_look_175 hl (k := 1) rfl (by rw [ey_29]; rfl) (by decide) rfl (fun ls hl => ?_)
                                refine lv_goto (tgt := 73) hx hb dX9_look_178 (by decide) ?_
                                exact ih_19 (i + 1) y_29 z3 _ _ _ (by omega) (by omega) (by rw [ey_29, ex_i]; exact nI_1 i) (by omega) (by rw [show smR (blF (fun t => gd (4096 * k.toNatClampNeg + t)) 1) j (smL (blF (fun t => gd (4096 * k.toNatClampNeg + t)) 1) W9 (-1) j) (i + 1) = (blF (fun t => gd (4096 * k.toNatClampNeg + t)) 1) j i z3 from congrArg ((blF (fun t => gd (4096 * k.toNatClampNeg + t)) 1) j i) eti.symm]; exact (show (blF (fun t => gd (4096 * k.toNatClampNeg + t)) 1) j i z3 = z3 from if_pos (hr_26.symm.trans c_27)).symm) (hP.sub (ws' := [(m2, .inl (cI, 4, .inl gh)), (m3, .inl (cI, 16384, .inl gd)), (h0, .inr (9, [.ref m1, .ref m2, .ref m3, .int ik, .int wy, .int op, .int cl, .int cx0, .int cx1, .int cy0, .int cy1, .int ds, .ref m4, .ref m5, .ref m6, .ref m7, .ref m8, .ref m9, .int pn, .ref m10, .ref m11, .ref m12, .ref m13])), (m1, .inl (cI, 4, .inl gw))]) [0, 1, 2, 3] rfl) (hD.sub (ws' := [(m2, .inl (cI, 4, .inl gh)), (m3, .inl (cI, 16384, .inl gd)), (h0, .inr (9, [.ref m1, .ref m2, .ref m3, .int ik, .int wy, .int op, .int cl, .int cx0, .int cx1, .int cy0, .int cy1, .int ds, .ref m4, .ref m5, .ref m6, .ref m7, .ref m8, .ref m9, .int pn, .ref m10, .ref m11, .ref m12, .ref m13])), (m1, .inl (cI, 4, .inl gw))]) [0, 1, 2, 3] (by decide) rfl) hS (lv_sub hl [0, 2, 3, 4, 5, 6] rfl)
                              · skip
                                have f_28 : ¬ (r_26.toInt = 0) := fn_eq rfl (by decide) c_27
                                refine lv_iload_n hx hb dX9_look_128 rfl (lv_at hl 6 rfl) ?_
                                refine lv_iconst (v := 2) hx hb dX9_look_129 (by decide) ?_
                                refine lv_icmp_ge (tgt := 138) hx hb dX9_look_130 (by decide) (fun c_30 => ?_) (fun c_30 => ?_)
                                · skip
                                  exact absurd c_30 (by decide)
                                · skip
                                  refine lv_iload hx hb dX9_look_133 (lv_at hl 1 rfl) ?_
                                  refine lv_goto (tgt := 140) hx hb dX9_look_135 (by decide) ?_
                                  refine lv_istore (lv' := [(7, .int x5), (6, .int (gd (4096 * k.toNatClampNeg + ixP (nI i) (nI j)))), (5, .int x5), (4, .int x4), (3, .int z3), (0, .ref h0), (1, .int k), (2, .int 0)]) hx hb dX9_look_140 hl (by decide) rfl (fun ls hl => ?_)
                                  refine lv_iload_n hx hb dX9_look_142 rfl (lv_at hl 4 rfl) ?_
                                  refine lv_iconst (v := (-1)) hx hb dX9_look_143 (by decide) ?_
                                  refine lv_icmp_eq (tgt := 172) hx hb dX9_look_144 (by decide) (fun c_32 => ?_) (fun c_32 => ?_)
                                  · skip
                                    have f_33 : z3.toInt = (-1) := f_eq rfl (by decide) c_32
                                    refine lv_iload hx hb dX9_look_172 (lv_at hl 0 rfl) ?_
                                    refine lv_istore_n (lv' := [(3, .int x5), (7, .int x5), (6, .int (gd (4096 * k.toNatClampNeg + ixP (nI i) (nI j)))), (5, .int x5), (4, .int x4), (0, .ref h0), (1, .int k), (2, .int 0)]) hx hb dX9_look_174 rfl hl (by decide) rfl (fun ls hl => ?_)
                                    obtain ⟨y_34, ey_34⟩ : ∃ y : Int32, y = x5 + 1 := ⟨_, rfl⟩
                                    refine lv_iinc (v := y_34) (lv' := [(5, .int y_34), (3, .int x5), (7, .int x5), (6, .int (gd (4096 * k.toNatClampNeg + ixP (nI i) (nI j)))), (4, .int x4), (0, .ref h0), (1, .int k), (2, .int 0)]) hx hb dX9_look_175 hl (k := 3) rfl (by rw [ey_34]; rfl) (by decide) rfl (fun ls hl => ?_)
                                    refine lv_goto (tgt := 73) hx hb dX9_look_178 (by decide) ?_
                                    exact ih_19 (i + 1) y_34 x5 _ _ _ (by omega) (by omega) (by rw [ey_34, ex_i]; exact nI_1 i) (by omega) (by rw [show smR (blF (fun t => gd (4096 * k.toNatClampNeg + t)) 1) j (smL (blF (fun t => gd (4096 * k.toNatClampNeg + t)) 1) W9 (-1) j) (i + 1) = (blF (fun t => gd (4096 * k.toNatClampNeg + t)) 1) j i z3 from congrArg ((blF (fun t => gd (4096 * k.toNatClampNeg + t)) 1) j i) eti.symm]; unfold blF; rw [if_neg (fun q => c_27 (hr_26.trans q)), if_pos c_32, (show plC 1 j i = x5 from (if_neg (by decide)).trans ex_i.symm)]) (hP.sub (ws' := [(m2, .inl (cI, 4, .inl gh)), (m3, .inl (cI, 16384, .inl gd)), (h0, .inr (9, [.ref m1, .ref m2, .ref m3, .int ik, .int wy, .int op, .int cl, .int cx0, .int cx1, .int cy0, .int cy1, .int ds, .ref m4, .ref m5, .ref m6, .ref m7, .ref m8, .ref m9, .int pn, .ref m10, .ref m11, .ref m12, .ref m13])), (m1, .inl (cI, 4, .inl gw))]) [0, 1, 2, 3] rfl) (hD.sub (ws' := [(m2, .inl (cI, 4, .inl gh)), (m3, .inl (cI, 16384, .inl gd)), (h0, .inr (9, [.ref m1, .ref m2, .ref m3, .int ik, .int wy, .int op, .int cl, .int cx0, .int cx1, .int cy0, .int cy1, .int ds, .ref m4, .ref m5, .ref m6, .ref m7, .ref m8, .ref m9, .int pn, .ref m10, .ref m11, .ref m12, .ref m13])), (m1, .inl (cI, 4, .inl gw))]) [0, 1, 2, 3] (by decide) rfl) hS (lv_sub hl [0, 4, 1, 5, 6, 7] rfl)
                                  · skip
                                    have f_33 : ¬ (z3.toInt = (-1)) := fn_eq rfl (by decide) c_32
                                    refine lv_iload_n hx hb dX9_look_147 rfl (lv_at hl 7 rfl) ?_
                                    refine lv_iconst (v := 2) hx hb dX9_look_148 (by decide) ?_
                                    refine lv_irem hx hb dX9_look_149 (by decide) ?_
                                    refine my_fold (v := 0) (by decide) ?_
                                    refine lv_if_ne (tgt := 159) hx hb dX9_look_150 (by decide) (fun c_35 => ?_) (fun c_35 => ?_)
                                    · skip
                                      exact absurd c_35 (by decide)
                                    · skip
                                      refine lv_iload hx hb dX9_look_153 (lv_at hl 0 rfl) ?_
                                      refine lv_iload_n hx hb dX9_look_155 rfl (lv_at hl 4 rfl) ?_
                                      refine lv_icmp_lt (tgt := 172) hx hb dX9_look_156 (by decide) (fun c_37 => ?_) (fun c_37 => ?_)
                                      · skip
                                        have f_38 : (i : Int) < z3.toInt := f_lt hx_i rfl c_37
                                        refine lv_iload hx hb dX9_look_172 (lv_at hl 0 rfl) ?_
                                        refine lv_istore_n (lv' := [(3, .int x5), (7, .int x5), (6, .int (gd (4096 * k.toNatClampNeg + ixP (nI i) (nI j)))), (5, .int x5), (4, .int x4), (0, .ref h0), (1, .int k), (2, .int 0)]) hx hb dX9_look_174 rfl hl (by decide) rfl (fun ls hl => ?_)
                                        obtain ⟨y_39, ey_39⟩ : ∃ y : Int32, y = x5 + 1 := ⟨_, rfl⟩
                                        refine lv_iinc (v := y_39) (lv' := [(5, .int y_39), (3, .int x5), (7, .int x5), (6, .int (gd (4096 * k.toNatClampNeg + ixP (nI i) (nI j)))), (4, .int x4), (0, .ref h0), (1, .int k), (2, .int 0)]) hx hb dX9_look_175 hl (k := 3) rfl (by rw [ey_39]; rfl) (by decide) rfl (fun ls hl => ?_)
                                        refine lv_goto (tgt := 73) hx hb dX9_look_178 (by decide) ?_
                                        exact ih_19 (i + 1) y_39 x5 _ _ _ (by omega) (by omega) (by rw [ey_39, ex_i]; exact nI_1 i) (by omega) (by rw [show smR (blF (fun t => gd (4096 * k.toNatClampNeg + t)) 1) j (smL (blF (fun t => gd (4096 * k.toNatClampNeg + t)) 1) W9 (-1) j) (i + 1) = (blF (fun t => gd (4096 * k.toNatClampNeg + t)) 1) j i z3 from congrArg ((blF (fun t => gd (4096 * k.toNatClampNeg + t)) 1) j i) eti.symm]; unfold blF; rw [if_neg (fun q => c_27 (hr_26.trans q)), if_neg c_32, (show plC 1 j i = x5 from (if_neg (by decide)).trans ex_i.symm), if_pos c_37]) (hP.sub (ws' := [(m2, .inl (cI, 4, .inl gh)), (m3, .inl (cI, 16384, .inl gd)), (h0, .inr (9, [.ref m1, .ref m2, .ref m3, .int ik, .int wy, .int op, .int cl, .int cx0, .int cx1, .int cy0, .int cy1, .int ds, .ref m4, .ref m5, .ref m6, .ref m7, .ref m8, .ref m9, .int pn, .ref m10, .ref m11, .ref m12, .ref m13])), (m1, .inl (cI, 4, .inl gw))]) [0, 1, 2, 3] rfl) (hD.sub (ws' := [(m2, .inl (cI, 4, .inl gh)), (m3, .inl (cI, 16384, .inl gd)), (h0, .inr (9, [.ref m1, .ref m2, .ref m3, .int ik, .int wy, .int op, .int cl, .int cx0, .int cx1, .int cy0, .int cy1, .int ds, .ref m4, .ref m5, .ref m6, .ref m7, .ref m8, .ref m9, .int pn, .ref m10, .ref m11, .ref m12, .ref m13])), (m1, .inl (cI, 4, .inl gw))]) [0, 1, 2, 3] (by decide) rfl) hS (lv_sub hl [0, 4, 1, 5, 6, 7] rfl)
                                      · skip
                                        have f_38 : ¬ ((i : Int) < z3.toInt) := fn_lt hx_i rfl c_37
                                        refine lv_iload_n hx hb dX9_look_159 rfl (lv_at hl 7 rfl) ?_
                                        refine lv_iconst (v := 2) hx hb dX9_look_160 (by decide) ?_
                                        refine lv_irem hx hb dX9_look_161 (by decide) ?_
                                        refine my_fold (v := 0) (by decide) ?_
                                        refine lv_iconst (v := 1) hx hb dX9_look_162 (by decide) ?_
                                        refine lv_icmp_ne (tgt := 175) hx hb dX9_look_163 (by decide) (fun c_40 => ?_) (fun c_40 => ?_)
                                        · skip
                                          obtain ⟨y_42, ey_42⟩ : ∃ y : Int32, y = x5 + 1 := ⟨_, rfl⟩
                                          refine lv_iinc (v := y_42) (lv' := [(5, .int y_42), (7, .int x5), (6, .int (gd (4096 * k.toNatClampNeg + ixP (nI i) (nI j)))), (4, .int x4), (3, .int z3), (0, .ref h0), (1, .int k), (2, .int 0)]) hx hb dX9_look_175 hl (k := 2) rfl (by rw [ey_42]; rfl) (by decide) rfl (fun ls hl => ?_)
                                          refine lv_goto (tgt := 73) hx hb dX9_look_178 (by decide) ?_
                                          exact ih_19 (i + 1) y_42 z3 _ _ _ (by omega) (by omega) (by rw [ey_42, ex_i]; exact nI_1 i) (by omega) (by rw [show smR (blF (fun t => gd (4096 * k.toNatClampNeg + t)) 1) j (smL (blF (fun t => gd (4096 * k.toNatClampNeg + t)) 1) W9 (-1) j) (i + 1) = (blF (fun t => gd (4096 * k.toNatClampNeg + t)) 1) j i z3 from congrArg ((blF (fun t => gd (4096 * k.toNatClampNeg + t)) 1) j i) eti.symm]; unfold blF; rw [if_neg (fun q => c_27 (hr_26.trans q)), if_neg c_32, (show plC 1 j i = x5 from (if_neg (by decide)).trans ex_i.symm), if_neg c_37]) (hP.sub (ws' := [(m2, .inl (cI, 4, .inl gh)), (m3, .inl (cI, 16384, .inl gd)), (h0, .inr (9, [.ref m1, .ref m2, .ref m3, .int ik, .int wy, .int op, .int cl, .int cx0, .int cx1, .int cy0, .int cy1, .int ds, .ref m4, .ref m5, .ref m6, .ref m7, .ref m8, .ref m9, .int pn, .ref m10, .ref m11, .ref m12, .ref m13])), (m1, .inl (cI, 4, .inl gw))]) [0, 1, 2, 3] rfl) (hD.sub (ws' := [(m2, .inl (cI, 4, .inl gh)), (m3, .inl (cI, 16384, .inl gd)), (h0, .inr (9, [.ref m1, .ref m2, .ref m3, .int ik, .int wy, .int op, .int cl, .int cx0, .int cx1, .int cy0, .int cy1, .int ds, .ref m4, .ref m5, .ref m6, .ref m7, .ref m8, .ref m9, .int pn, .ref m10, .ref m11, .ref m12, .ref m13])), (m1, .inl (cI, 4, .inl gw))]) [0, 1, 2, 3] (by decide) rfl) hS (lv_sub hl [0, 3, 4, 5, 6, 7] rfl)
                                        · skip
                                          exact absurd c_40 (by decide)
                            · skip
                              exact absurd c_24 (by decide)
                      exact loop_18 (64 + 1) 0 0 x3 _ _ _ (by omega) (by omega) nI_0.symm (by omega) eto hP hD hS (lv_sub hl [0, 1, 2, 3, 4, 5] rfl)
                exact loop_14 (64 + 1) 0 0 (-1) _ _ _ (by omega) (by omega) nI_0.symm (by omega) rfl hP hD hS (lv_sub hl [0, 1, 2, 3, 4] rfl)
            · skip
              exact absurd c_10 (by decide)
          · skip
            exact absurd c_8 (by decide)
        · skip
          have hl : lv_has ls 8 [(0, .ref h0), (1, .int k), (2, .int 1)] := hl
          refine lv_iload_n hx hb dX9_look_20 rfl (lv_at hl 2 rfl) ?_
          refine lv_iconst (v := 4) hx hb dX9_look_21 (by decide) ?_
          refine lv_icmp_ne (tgt := 32) hx hb dX9_look_22 (by decide) (fun c_43 => ?_) (fun c_43 => ?_)
          · skip
            refine lv_iload_n hx hb dX9_look_32 rfl (lv_at hl 2 rfl) ?_
            refine lv_iconst (v := 5) hx hb dX9_look_33 (by decide) ?_
            refine lv_icmp_ne (tgt := 44) hx hb dX9_look_34 (by decide) (fun c_45 => ?_) (fun c_45 => ?_)
            · skip
              refine lv_iload_n hx hb dX9_look_44 rfl (lv_at hl 2 rfl) ?_
              refine lv_bipush (v := 6) hx hb dX9_look_45 (by decide) ?_
              refine lv_icmp_ge (tgt := 54) hx hb dX9_look_47 (by decide) (fun c_47 => ?_) (fun c_47 => ?_)
              · skip
                exact absurd c_47 (by decide)
              · skip
                refine lv_iconst (v := (-1)) hx hb dX9_look_50 (by decide) ?_
                refine lv_goto (tgt := 55) hx hb dX9_look_51 (by decide) ?_
                refine lv_istore_n (lv' := [(3, .int (-1)), (0, .ref h0), (1, .int k), (2, .int 1)]) hx hb dX9_look_55 rfl hl (by decide) rfl (fun ls hl => ?_)
                refine lv_iconst (v := 0) hx hb dX9_look_56 (by decide) ?_
                refine lv_istore (lv' := [(4, .int 0), (3, .int (-1)), (0, .ref h0), (1, .int k), (2, .int 1)]) hx hb dX9_look_57 hl (by decide) rfl (fun ls hl => ?_)
                have loop_49 : ∀ (n : Nat) (j : Nat) (x4 : Int32) (x3 : Int32) (H : Heap) (locs : List Loc) (ls : Array Slot), (j ≤ 64) → (64 + 1 ≤ j + n) → (x4 = nI j) → (j ≤ H9) → (x3 = smL (bhF (fun t => gd (4096 * k.toNatClampNeg + t)) 1) W9 (-1) j) → va_P D vwCl [(m2, .inl (cI, 4, .inl gh)), (m3, .inl (cI, 16384, .inl gd)), (h0, .inr (9, [.ref m1, .ref m2, .ref m3, .int ik, .int wy, .int op, .int cl, .int cx0, .int cx1, .int cy0, .int cy1, .int ds, .ref m4, .ref m5, .ref m6, .ref m7, .ref m8, .ref m9, .int pn, .ref m10, .ref m11, .ref m12, .ref m13])), (m1, .inl (cI, 4, .inl gw))] H → va_D A [(m2, .inl (cI, 4, .inl gh)), (m3, .inl (cI, 16384, .inl gd)), (h0, .inr (9, [.ref m1, .ref m2, .ref m3, .int ik, .int wy, .int op, .int cl, .int cx0, .int cx1, .int cy0, .int cy1, .int ds, .ref m4, .ref m5, .ref m6, .ref m7, .ref m8, .ref m9, .int pn, .ref m10, .ref m11, .ref m12, .ref m13])), (m1, .inl (cI, 4, .inl gw))] → va_S A s.heap H locs → lv_has ls 8 [(4, .int x4), (3, .int x3), (0, .ref h0), (1, .int k), (2, .int 1)] → W p l e R s m ([.ref h0, .int k, .int (nI 1)] : List Value).toArray below meth c H locs 0 0 Q (F0 m 59 ls []) := by
                  intro n
                  induction n with
                  | zero =>
                    intro j x4 x3 H locs ls hi_j hm_j ex_j hjo eto hP hD hS hl
                    exact absurd (show False by omega) not_false
                  | succ n ih_50 =>
                    intro j x4 x3 H locs ls hi_j hm_j ex_j hjo eto hP hD hS hl
                    have hx_j : x4.toInt = (j : Int) := by rw [ex_j]; exact nI_toInt (by omega)
                    have hc_j : x4.toNatClampNeg = j := by rw [ex_j]; exact nI_clamp (by omega)
                    refine lv_iload hx hb dX9_look_59 (lv_at hl 0 rfl) ?_
                    refine lv_aload_n hx hb dX9_look_61 rfl (lv_at hl 2 rfl) ?_
                    refine va_get (D := D) (ci := 9) (v := .ref m2) (C := RX9) (T := TX9) (N := 23) hx hb hts hi_X9 hown hK hP 2 rfl rfl 1 (by decide) (hts _ bw_397) (fun _ h9 => h9) rfl dX9_look_62 ?_
                    refine lv_iload_n hx hb dX9_look_65 rfl (lv_at hl 3 rfl) ?_
                    refine va_iald hx hb hK hP 0 0 rfl rfl (vp_in_iff.mpr ⟨by omega, by omega⟩) dX9_look_66 ?_
                    refine lv_icmp_ge (tgt := 187) hx hb dX9_look_67 (by decide) (fun c_51 => ?_) (fun c_51 => ?_)
                    · skip
                      have f_52 : (gh k.toNatClampNeg).toInt ≤ (j : Int) := f_le rfl hx_j c_51
                      refine lv_iload_n hx hb dX9_look_187 rfl (lv_at hl 1 rfl) ?_
                      have hP9 := hP.sub (ws' := [(h0, .inr (9, [.ref m1, .ref m2, .ref m3, .int ik, .int wy, .int op, .int cl, .int cx0, .int cx1, .int cy0, .int cy1, .int ds, .ref m4, .ref m5, .ref m6, .ref m7, .ref m8, .ref m9, .int pn, .ref m10, .ref m11, .ref m12, .ref m13])), (m1, .inl (cI, 4, .inl gw)), (m2, .inl (cI, 4, .inl gh)), (m3, .inl (cI, 16384, .inl gd))]) [2, 3, 0, 1] rfl
                      have hD9 := hD.sub (ws' := [(h0, .inr (9, [.ref m1, .ref m2, .ref m3, .int ik, .int wy, .int op, .int cl, .int cx0, .int cx1, .int cy0, .int cy1, .int ds, .ref m4, .ref m5, .ref m6, .ref m7, .ref m8, .ref m9, .int pn, .ref m10, .ref m11, .ref m12, .ref m13])), (m1, .inl (cI, 4, .inl gw)), (m2, .inl (cI, 4, .inl gh)), (m3, .inl (cI, 16384, .inl gd))]) [2, 3, 0, 1] (by decide) rfl
                      have hK9 := hK.sub (tys' := [(cI, .int)]) [0] rfl
                      refine hQ _ _ _ _ _ ?_
                      exact W.iret (v := x3) hx hb hr (fun t ht hW => ⟨⟨x3, (), rfl, (show _ = lkP (fun t => gd (4096 * k.toNatClampNeg + t)) (gw k.toNatClampNeg) (gh k.toNatClampNeg) (nI 1) from (show _ = smL (bhF (fun t => gd (4096 * k.toNatClampNeg + t)) 1) (gw k.toNatClampNeg).toNatClampNeg (-1) (gh k.toNatClampNeg).toNatClampNeg from (by rw [eW9n, eH9n, ← show j = H9 by omega]; exact eto)).trans (if_pos (by decide)).symm), ⟨by rw [ht]; exact hP9, va_K.moved hW.alike hK9, hD9⟩⟩, hS.F ht⟩) hS.2.2 dX9_look_188
                    · skip
                      have f_52 : ¬ ((gh k.toNatClampNeg).toInt ≤ (j : Int)) := fn_le rfl hx_j c_51
                      refine lv_iconst (v := 0) hx hb dX9_look_70 (by decide) ?_
                      refine lv_istore (lv' := [(5, .int 0), (4, .int x4), (3, .int x3), (0, .ref h0), (1, .int k), (2, .int 1)]) hx hb dX9_look_71 hl (by decide) rfl (fun ls hl => ?_)
                      have loop_53 : ∀ (n : Nat) (i : Nat) (x5 : Int32) (z3 : Int32) (H : Heap) (locs : List Loc) (ls : Array Slot), (i ≤ 64) → (64 + 1 ≤ i + n) → (x5 = nI i) → (i ≤ W9) → (z3 = smR (bhF (fun t => gd (4096 * k.toNatClampNeg + t)) 1) j (smL (bhF (fun t => gd (4096 * k.toNatClampNeg + t)) 1) W9 (-1) j) i) → va_P D vwCl [(m2, .inl (cI, 4, .inl gh)), (m3, .inl (cI, 16384, .inl gd)), (h0, .inr (9, [.ref m1, .ref m2, .ref m3, .int ik, .int wy, .int op, .int cl, .int cx0, .int cx1, .int cy0, .int cy1, .int ds, .ref m4, .ref m5, .ref m6, .ref m7, .ref m8, .ref m9, .int pn, .ref m10, .ref m11, .ref m12, .ref m13])), (m1, .inl (cI, 4, .inl gw))] H → va_D A [(m2, .inl (cI, 4, .inl gh)), (m3, .inl (cI, 16384, .inl gd)), (h0, .inr (9, [.ref m1, .ref m2, .ref m3, .int ik, .int wy, .int op, .int cl, .int cx0, .int cx1, .int cy0, .int cy1, .int ds, .ref m4, .ref m5, .ref m6, .ref m7, .ref m8, .ref m9, .int pn, .ref m10, .ref m11, .ref m12, .ref m13])), (m1, .inl (cI, 4, .inl gw))] → va_S A s.heap H locs → lv_has ls 8 [(5, .int x5), (4, .int x4), (3, .int z3), (0, .ref h0), (1, .int k), (2, .int 1)] → W p l e R s m ([.ref h0, .int k, .int (nI 1)] : List Value).toArray below meth c H locs 0 0 Q (F0 m 73 ls []) := by
                        intro n
                        induction n with
                        | zero =>
                          intro i x5 z3 H locs ls hi_i hm_i ex_i hio eti hP hD hS hl
                          exact absurd (show False by omega) not_false
                        | succ n ih_54 =>
                          intro i x5 z3 H locs ls hi_i hm_i ex_i hio eti hP hD hS hl
                          have hx_i : x5.toInt = (i : Int) := by rw [ex_i]; exact nI_toInt (by omega)
                          have hc_i : x5.toNatClampNeg = i := by rw [ex_i]; exact nI_clamp (by omega)
                          refine lv_iload hx hb dX9_look_73 (lv_at hl 0 rfl) ?_
                          refine lv_aload_n hx hb dX9_look_75 rfl (lv_at hl 3 rfl) ?_
                          refine va_get (D := D) (ci := 9) (v := .ref m1) (C := RX9) (T := TX9) (N := 23) hx hb hts hi_X9 hown hK hP 2 rfl rfl 0 (by decide) (hts _ bw_396) (fun _ h9 => h9) rfl dX9_look_76 ?_
                          refine lv_iload_n hx hb dX9_look_79 rfl (lv_at hl 4 rfl) ?_
                          refine va_iald hx hb hK hP 3 0 rfl rfl (vp_in_iff.mpr ⟨by omega, by omega⟩) dX9_look_80 ?_
                          refine lv_icmp_ge (tgt := 181) hx hb dX9_look_81 (by decide) (fun c_55 => ?_) (fun c_55 => ?_)
                          · skip
                            have f_56 : (gw k.toNatClampNeg).toInt ≤ (i : Int) := f_le rfl hx_i c_55
                            obtain ⟨y_57, ey_57⟩ : ∃ y : Int32, y = x4 + 1 := ⟨_, rfl⟩
                            refine lv_iinc (v := y_57) (lv' := [(4, .int y_57), (5, .int x5), (3, .int z3), (0, .ref h0), (1, .int k), (2, .int 1)]) hx hb dX9_look_181 hl (k := 1) rfl (by rw [ey_57]; rfl) (by decide) rfl (fun ls hl => ?_)
                            refine lv_goto (tgt := 59) hx hb dX9_look_184 (by decide) ?_
                            exact ih_50 (j + 1) y_57 z3 _ _ _ (by omega) (by omega) (by rw [ey_57, ex_j]; exact nI_1 j) (by omega) (sm_nx eti (by omega)) (hP.sub (ws' := [(m2, .inl (cI, 4, .inl gh)), (m3, .inl (cI, 16384, .inl gd)), (h0, .inr (9, [.ref m1, .ref m2, .ref m3, .int ik, .int wy, .int op, .int cl, .int cx0, .int cx1, .int cy0, .int cy1, .int ds, .ref m4, .ref m5, .ref m6, .ref m7, .ref m8, .ref m9, .int pn, .ref m10, .ref m11, .ref m12, .ref m13])), (m1, .inl (cI, 4, .inl gw))]) [0, 1, 2, 3] rfl) (hD.sub (ws' := [(m2, .inl (cI, 4, .inl gh)), (m3, .inl (cI, 16384, .inl gd)), (h0, .inr (9, [.ref m1, .ref m2, .ref m3, .int ik, .int wy, .int op, .int cl, .int cx0, .int cx1, .int cy0, .int cy1, .int ds, .ref m4, .ref m5, .ref m6, .ref m7, .ref m8, .ref m9, .int pn, .ref m10, .ref m11, .ref m12, .ref m13])), (m1, .inl (cI, 4, .inl gw))]) [0, 1, 2, 3] (by decide) rfl) hS (lv_sub hl [0, 2, 3, 4, 5] rfl)
                          · skip
                            have f_56 : ¬ ((gw k.toNatClampNeg).toInt ≤ (i : Int)) := fn_le rfl hx_i c_55
                            refine lv_aload_n hx hb dX9_look_84 rfl (lv_at hl 3 rfl) ?_
                            refine va_get (D := D) (ci := 9) (v := .ref m3) (C := RX9) (T := TX9) (N := 23) hx hb hts hi_X9 hown hK hP 2 rfl rfl 2 (by decide) (hts _ bw_398) (fun _ h9 => h9) rfl dX9_look_85 ?_
                            refine lv_iload_n hx hb dX9_look_88 rfl (lv_at hl 4 rfl) ?_
                            refine lv_iload hx hb dX9_look_89 (lv_at hl 0 rfl) ?_
                            refine lv_iload hx hb dX9_look_91 (lv_at hl 1 rfl) ?_
                            have hPc := hP.sub (ws' := []) [] rfl
                            have hDc := hD.sub (ws' := []) [] (by decide) rfl
                            have hKc := hK.sub (tys' := []) [] rfl
                            have hFc := va_free (wc := []) hD hS hA [] rfl
                            refine va_calli (va_runS (As := [.int k, .int x5, .int x4]) (rest := [.ref m3]) ⟨hx, hb, hml, hown, hts⟩ (k_X9_spot l D H.size k x5 x4) (va_cwS 3 hts (gS bw_551 bw_421 bw_391 bw_420) rfl rfl rfl (by decide +kernel) ⟨(by rw [hR]; exact Nat.le_of_ble_eq_true rfl), (by rw [hR]; exact Nat.le_of_ble_eq_true rfl)⟩) ⟨cP_blind, cP_at hPc hKc hDc hN⟩ rfl rfl hl.1 rfl (lv_room (Nat.le_of_ble_eq_true rfl)) dX9_look_93 ⟨(by rw [hR]; exact Nat.le_of_ble_eq_true rfl), (by rw [hR]; exact Nat.le_of_ble_eq_true rfl)⟩) hS (fun q _ h => hFc q h) hFc (fun r_58 u9 t9 H1 locs ht hvm hr_58 hB hz1 hk1 hS => ?_)
                            try dsimp only at hr_58
                            have hP1 : va_P D vwCl [] H1 := vP_nil
                            have hD1 : va_D (va_A [] H.size) [] := vD_nil
                            obtain ⟨hP, hD⟩ := va_join (wr := [(m2, .inl (cI, 4, .inl gh)), (m3, .inl (cI, 16384, .inl gd)), (h0, .inr (9, [.ref m1, .ref m2, .ref m3, .int ik, .int wy, .int op, .int cl, .int cx0, .int cx1, .int cy0, .int cy1, .int ds, .ref m4, .ref m5, .ref m6, .ref m7, .ref m8, .ref m9, .int pn, .ref m10, .ref m11, .ref m12, .ref m13])), (m1, .inl (cI, 4, .inl gw))]) (w1 := []) hP hD [] [0, 1, 2, 3] rfl rfl (by decide) (by decide) hk1 hFc hP1 hD1
                            clear hz1 hk1 hFc hKc hDc hPc
                            generalize H1 = H at hP hS ⊢
                            have hP : va_P D vwCl [(m2, .inl (cI, 4, .inl gh)), (m3, .inl (cI, 16384, .inl gd)), (h0, .inr (9, [.ref m1, .ref m2, .ref m3, .int ik, .int wy, .int op, .int cl, .int cx0, .int cx1, .int cy0, .int cy1, .int ds, .ref m4, .ref m5, .ref m6, .ref m7, .ref m8, .ref m9, .int pn, .ref m10, .ref m11, .ref m12, .ref m13])), (m1, .inl (cI, 4, .inl gw))] H := hP
                            have hD : va_D A [(m2, .inl (cI, 4, .inl gh)), (m3, .inl (cI, 16384, .inl gd)), (h0, .inr (9, [.ref m1, .ref m2, .ref m3, .int ik, .int wy, .int op, .int cl, .int cx0, .int cx1, .int cy0, .int cy1, .int ds, .ref m4, .ref m5, .ref m6, .ref m7, .ref m8, .ref m9, .int pn, .ref m10, .ref m11, .ref m12, .ref m13])), (m1, .inl (cI, 4, .inl gw))] := hD
                            refine va_iald hx hb hK hP 1 0 rfl rfl (by rw [hr_58]; exact sp_in (by omega) (by omega) (by omega) (by omega) (by omega) (by omega)) dX9_look_96 ?_
                            refine my_fold (v := gd (4096 * k.toNatClampNeg + ixP (nI i) (nI j))) (congrArg gd (by rw [hr_58, sp_cl (by omega) (by omega) (by omega) (by omega) (by omega) (by omega), ex_i, ex_j])) ?_
                            refine lv_istore (lv' := [(6, .int (gd (4096 * k.toNatClampNeg + ixP (nI i) (nI j)))), (5, .int x5), (4, .int x4), (3, .int z3), (0, .ref h0), (1, .int k), (2, .int 1)]) hx hb dX9_look_97 hl (by decide) rfl (fun ls hl => ?_)
                            refine lv_iload_n hx hb dX9_look_99 rfl (lv_at hl 6 rfl) ?_
                            refine lv_iconst (v := 5) hx hb dX9_look_100 (by decide) ?_
                            refine lv_icmp_le (tgt := 119) hx hb dX9_look_101 (by decide) (fun c_59 => ?_) (fun c_59 => ?_)
                            · skip
                              refine lv_iload hx hb dX9_look_119 (lv_at hl 0 rfl) ?_
                              refine lv_iconst (v := 0) hx hb dX9_look_121 (by decide) ?_
                              have hPc := hP.sub (ws' := []) [] rfl
                              have hDc := hD.sub (ws' := []) [] (by decide) rfl
                              have hKc := hK.sub (tys' := []) [] rfl
                              have hFc := va_free (wc := []) hD hS hA [] rfl
                              refine va_calli (va_runS (As := [.int (gd (4096 * k.toNatClampNeg + ixP (nI i) (nI j))), .int 0]) (rest := []) ⟨hx, hb, hml, hown, hts⟩ (k_X9_channel_0 l D H.size (gd (4096 * k.toNatClampNeg + ixP (nI i) (nI j)))) (va_cwS 2 hts (gS bw_441 bw_438 bw_391 bw_437) rfl rfl rfl (by decide +kernel) ⟨(by rw [hR]; exact Nat.le_of_ble_eq_true rfl), (by rw [hR]; exact Nat.le_of_ble_eq_true rfl)⟩) ⟨cP_blind, cP_at hPc hKc hDc hN⟩ rfl rfl hl.1 rfl (lv_room (Nat.le_of_ble_eq_true rfl)) dX9_look_122 ⟨(by rw [hR]; exact Nat.le_of_ble_eq_true rfl), (by rw [hR]; exact Nat.le_of_ble_eq_true rfl)⟩) hS (fun q _ h => hFc q h) hFc (fun r_61 u9 t9 H1 locs ht hvm hr_61 hB hz1 hk1 hS => ?_)
                              try dsimp only at hr_61
                              have hP1 : va_P D vwCl [] H1 := vP_nil
                              have hD1 : va_D (va_A [] H.size) [] := vD_nil
                              obtain ⟨hP, hD⟩ := va_join (wr := [(m2, .inl (cI, 4, .inl gh)), (m3, .inl (cI, 16384, .inl gd)), (h0, .inr (9, [.ref m1, .ref m2, .ref m3, .int ik, .int wy, .int op, .int cl, .int cx0, .int cx1, .int cy0, .int cy1, .int ds, .ref m4, .ref m5, .ref m6, .ref m7, .ref m8, .ref m9, .int pn, .ref m10, .ref m11, .ref m12, .ref m13])), (m1, .inl (cI, 4, .inl gw))]) (w1 := []) hP hD [] [0, 1, 2, 3] rfl rfl (by decide) (by decide) hk1 hFc hP1 hD1
                              clear hz1 hk1 hFc hKc hDc hPc
                              generalize H1 = H at hP hS ⊢
                              have hP : va_P D vwCl [(m2, .inl (cI, 4, .inl gh)), (m3, .inl (cI, 16384, .inl gd)), (h0, .inr (9, [.ref m1, .ref m2, .ref m3, .int ik, .int wy, .int op, .int cl, .int cx0, .int cx1, .int cy0, .int cy1, .int ds, .ref m4, .ref m5, .ref m6, .ref m7, .ref m8, .ref m9, .int pn, .ref m10, .ref m11, .ref m12, .ref m13])), (m1, .inl (cI, 4, .inl gw))] H := hP
                              have hD : va_D A [(m2, .inl (cI, 4, .inl gh)), (m3, .inl (cI, 16384, .inl gd)), (h0, .inr (9, [.ref m1, .ref m2, .ref m3, .int ik, .int wy, .int op, .int cl, .int cx0, .int cx1, .int cy0, .int cy1, .int ds, .ref m4, .ref m5, .ref m6, .ref m7, .ref m8, .ref m9, .int pn, .ref m10, .ref m11, .ref m12, .ref m13])), (m1, .inl (cI, 4, .inl gw))] := hD
                              refine lv_if_eq (tgt := 175) hx hb dX9_look_125 (by decide) (fun c_62 => ?_) (fun c_62 => ?_)
                              · skip
                                have f_63 : r_61.toInt = 0 := f_eq rfl (by decide) c_62
                                obtain ⟨y_64, ey_64⟩ : ∃ y : Int32, y = x5 + 1 := ⟨_, rfl⟩
                                refine lv_iinc (v := y_64) (lv' := [(5, .int y_64), (6, .int (gd (4096 * k.toNatClampNeg + ixP (nI i) (nI j)))), (4, .int x4), (3, .int z3), (0, .ref h0), (1, .int k), (2, .int 1)]) hx hb dX9_look_175 hl (k := 1) rfl (by rw [ey_64]; rfl) (by decide) rfl (fun ls hl => ?_)
                                refine lv_goto (tgt := 73) hx hb dX9_look_178 (by decide) ?_
                                exact ih_54 (i + 1) y_64 z3 _ _ _ (by omega) (by omega) (by rw [ey_64, ex_i]; exact nI_1 i) (by omega) (by rw [show smR (bhF (fun t => gd (4096 * k.toNatClampNeg + t)) 1) j (smL (bhF (fun t => gd (4096 * k.toNatClampNeg + t)) 1) W9 (-1) j) (i + 1) = (bhF (fun t => gd (4096 * k.toNatClampNeg + t)) 1) j i z3 from congrArg ((bhF (fun t => gd (4096 * k.toNatClampNeg + t)) 1) j i) eti.symm]; exact (show (bhF (fun t => gd (4096 * k.toNatClampNeg + t)) 1) j i z3 = z3 from if_pos (hr_61.symm.trans c_62)).symm) (hP.sub (ws' := [(m2, .inl (cI, 4, .inl gh)), (m3, .inl (cI, 16384, .inl gd)), (h0, .inr (9, [.ref m1, .ref m2, .ref m3, .int ik, .int wy, .int op, .int cl, .int cx0, .int cx1, .int cy0, .int cy1, .int ds, .ref m4, .ref m5, .ref m6, .ref m7, .ref m8, .ref m9, .int pn, .ref m10, .ref m11, .ref m12, .ref m13])), (m1, .inl (cI, 4, .inl gw))]) [0, 1, 2, 3] rfl) (hD.sub (ws' := [(m2, .inl (cI, 4, .inl gh)), (m3, .inl (cI, 16384, .inl gd)), (h0, .inr (9, [.ref m1, .ref m2, .ref m3, .int ik, .int wy, .int op, .int cl, .int cx0, .int cx1, .int cy0, .int cy1, .int ds, .ref m4, .ref m5, .ref m6, .ref m7, .ref m8, .ref m9, .int pn, .ref m10, .ref m11, .ref m12, .ref m13])), (m1, .inl (cI, 4, .inl gw))]) [0, 1, 2, 3] (by decide) rfl) hS (lv_sub hl [0, 2, 3, 4, 5, 6] rfl)
                              · skip
                                have f_63 : ¬ (r_61.toInt = 0) := fn_eq rfl (by decide) c_62
                                refine lv_iload_n hx hb dX9_look_128 rfl (lv_at hl 6 rfl) ?_
                                refine lv_iconst (v := 2) hx hb dX9_look_129 (by decide) ?_
                                refine lv_icmp_ge (tgt := 138) hx hb dX9_look_130 (by decide) (fun c_65 => ?_) (fun c_65 => ?_)
                                · skip
                                  exact absurd c_65 (by decide)
                                · skip
                                  refine lv_iload hx hb dX9_look_133 (lv_at hl 1 rfl) ?_
                                  refine lv_goto (tgt := 140) hx hb dX9_look_135 (by decide) ?_
                                  refine lv_istore (lv' := [(7, .int x5), (6, .int (gd (4096 * k.toNatClampNeg + ixP (nI i) (nI j)))), (5, .int x5), (4, .int x4), (3, .int z3), (0, .ref h0), (1, .int k), (2, .int 1)]) hx hb dX9_look_140 hl (by decide) rfl (fun ls hl => ?_)
                                  refine lv_iload_n hx hb dX9_look_142 rfl (lv_at hl 4 rfl) ?_
                                  refine lv_iconst (v := (-1)) hx hb dX9_look_143 (by decide) ?_
                                  refine lv_icmp_eq (tgt := 172) hx hb dX9_look_144 (by decide) (fun c_67 => ?_) (fun c_67 => ?_)
                                  · skip
                                    have f_68 : z3.toInt = (-1) := f_eq rfl (by decide) c_67
                                    refine lv_iload hx hb dX9_look_172 (lv_at hl 0 rfl) ?_
                                    refine lv_istore_n (lv' := [(3, .int x5), (7, .int x5), (6, .int (gd (4096 * k.toNatClampNeg + ixP (nI i) (nI j)))), (5, .int x5), (4, .int x4), (0, .ref h0), (1, .int k), (2, .int 1)]) hx hb dX9_look_174 rfl hl (by decide) rfl (fun ls hl => ?_)
                                    obtain ⟨y_69, ey_69⟩ : ∃ y : Int32, y = x5 + 1 := ⟨_, rfl⟩
                                    refine lv_iinc (v := y_69) (lv' := [(5, .int y_69), (3, .int x5), (7, .int x5), (6, .int (gd (4096 * k.toNatClampNeg + ixP (nI i) (nI j)))), (4, .int x4), (0, .ref h0), (1, .int k), (2, .int 1)]) hx hb dX9_look_175 hl (k := 3) rfl (by rw [ey_69]; rfl) (by decide) rfl (fun ls hl => ?_)
                                    refine lv_goto (tgt := 73) hx hb dX9_look_178 (by decide) ?_
                                    exact ih_54 (i + 1) y_69 x5 _ _ _ (by omega) (by omega) (by rw [ey_69, ex_i]; exact nI_1 i) (by omega) (by rw [show smR (bhF (fun t => gd (4096 * k.toNatClampNeg + t)) 1) j (smL (bhF (fun t => gd (4096 * k.toNatClampNeg + t)) 1) W9 (-1) j) (i + 1) = (bhF (fun t => gd (4096 * k.toNatClampNeg + t)) 1) j i z3 from congrArg ((bhF (fun t => gd (4096 * k.toNatClampNeg + t)) 1) j i) eti.symm]; unfold bhF; rw [if_neg (fun q => c_62 (hr_61.trans q)), (show plC 1 j i = x5 from (if_neg (by decide)).trans ex_i.symm), if_pos (m1_lt c_67 (by omega))]) (hP.sub (ws' := [(m2, .inl (cI, 4, .inl gh)), (m3, .inl (cI, 16384, .inl gd)), (h0, .inr (9, [.ref m1, .ref m2, .ref m3, .int ik, .int wy, .int op, .int cl, .int cx0, .int cx1, .int cy0, .int cy1, .int ds, .ref m4, .ref m5, .ref m6, .ref m7, .ref m8, .ref m9, .int pn, .ref m10, .ref m11, .ref m12, .ref m13])), (m1, .inl (cI, 4, .inl gw))]) [0, 1, 2, 3] rfl) (hD.sub (ws' := [(m2, .inl (cI, 4, .inl gh)), (m3, .inl (cI, 16384, .inl gd)), (h0, .inr (9, [.ref m1, .ref m2, .ref m3, .int ik, .int wy, .int op, .int cl, .int cx0, .int cx1, .int cy0, .int cy1, .int ds, .ref m4, .ref m5, .ref m6, .ref m7, .ref m8, .ref m9, .int pn, .ref m10, .ref m11, .ref m12, .ref m13])), (m1, .inl (cI, 4, .inl gw))]) [0, 1, 2, 3] (by decide) rfl) hS (lv_sub hl [0, 4, 1, 5, 6, 7] rfl)
                                  · skip
                                    have f_68 : ¬ (z3.toInt = (-1)) := fn_eq rfl (by decide) c_67
                                    refine lv_iload_n hx hb dX9_look_147 rfl (lv_at hl 7 rfl) ?_
                                    refine lv_iconst (v := 2) hx hb dX9_look_148 (by decide) ?_
                                    refine lv_irem hx hb dX9_look_149 (by decide) ?_
                                    refine my_fold (v := 1) (by decide) ?_
                                    refine lv_if_ne (tgt := 159) hx hb dX9_look_150 (by decide) (fun c_70 => ?_) (fun c_70 => ?_)
                                    · skip
                                      refine lv_iload_n hx hb dX9_look_159 rfl (lv_at hl 7 rfl) ?_
                                      refine lv_iconst (v := 2) hx hb dX9_look_160 (by decide) ?_
                                      refine lv_irem hx hb dX9_look_161 (by decide) ?_
                                      refine my_fold (v := 1) (by decide) ?_
                                      refine lv_iconst (v := 1) hx hb dX9_look_162 (by decide) ?_
                                      refine lv_icmp_ne (tgt := 175) hx hb dX9_look_163 (by decide) (fun c_72 => ?_) (fun c_72 => ?_)
                                      · skip
                                        exact absurd c_72 (by decide)
                                      · skip
                                        refine lv_iload hx hb dX9_look_166 (lv_at hl 0 rfl) ?_
                                        refine lv_iload_n hx hb dX9_look_168 rfl (lv_at hl 4 rfl) ?_
                                        refine lv_icmp_le (tgt := 175) hx hb dX9_look_169 (by decide) (fun c_74 => ?_) (fun c_74 => ?_)
                                        · skip
                                          have f_75 : (i : Int) ≤ z3.toInt := f_le hx_i rfl c_74
                                          obtain ⟨y_76, ey_76⟩ : ∃ y : Int32, y = x5 + 1 := ⟨_, rfl⟩
                                          refine lv_iinc (v := y_76) (lv' := [(5, .int y_76), (7, .int x5), (6, .int (gd (4096 * k.toNatClampNeg + ixP (nI i) (nI j)))), (4, .int x4), (3, .int z3), (0, .ref h0), (1, .int k), (2, .int 1)]) hx hb dX9_look_175 hl (k := 2) rfl (by rw [ey_76]; rfl) (by decide) rfl (fun ls hl => ?_)
                                          refine lv_goto (tgt := 73) hx hb dX9_look_178 (by decide) ?_
                                          exact ih_54 (i + 1) y_76 z3 _ _ _ (by omega) (by omega) (by rw [ey_76, ex_i]; exact nI_1 i) (by omega) (by rw [show smR (bhF (fun t => gd (4096 * k.toNatClampNeg + t)) 1) j (smL (bhF (fun t => gd (4096 * k.toNatClampNeg + t)) 1) W9 (-1) j) (i + 1) = (bhF (fun t => gd (4096 * k.toNatClampNeg + t)) 1) j i z3 from congrArg ((bhF (fun t => gd (4096 * k.toNatClampNeg + t)) 1) j i) eti.symm]; unfold bhF; rw [if_neg (fun q => c_62 (hr_61.trans q)), (show plC 1 j i = x5 from (if_neg (by decide)).trans ex_i.symm), if_neg (Int32.not_lt.mpr c_74)]) (hP.sub (ws' := [(m2, .inl (cI, 4, .inl gh)), (m3, .inl (cI, 16384, .inl gd)), (h0, .inr (9, [.ref m1, .ref m2, .ref m3, .int ik, .int wy, .int op, .int cl, .int cx0, .int cx1, .int cy0, .int cy1, .int ds, .ref m4, .ref m5, .ref m6, .ref m7, .ref m8, .ref m9, .int pn, .ref m10, .ref m11, .ref m12, .ref m13])), (m1, .inl (cI, 4, .inl gw))]) [0, 1, 2, 3] rfl) (hD.sub (ws' := [(m2, .inl (cI, 4, .inl gh)), (m3, .inl (cI, 16384, .inl gd)), (h0, .inr (9, [.ref m1, .ref m2, .ref m3, .int ik, .int wy, .int op, .int cl, .int cx0, .int cx1, .int cy0, .int cy1, .int ds, .ref m4, .ref m5, .ref m6, .ref m7, .ref m8, .ref m9, .int pn, .ref m10, .ref m11, .ref m12, .ref m13])), (m1, .inl (cI, 4, .inl gw))]) [0, 1, 2, 3] (by decide) rfl) hS (lv_sub hl [0, 3, 4, 5, 6, 7] rfl)
                                        · skip
                                          have f_75 : ¬ ((i : Int) ≤ z3.toInt) := fn_le hx_i rfl c_74
                                          refine lv_iload hx hb dX9_look_172 (lv_at hl 0 rfl) ?_
                                          refine lv_istore_n (lv' := [(3, .int x5), (7, .int x5), (6, .int (gd (4096 * k.toNatClampNeg + ixP (nI i) (nI j)))), (5, .int x5), (4, .int x4), (0, .ref h0), (1, .int k), (2, .int 1)]) hx hb dX9_look_174 rfl hl (by decide) rfl (fun ls hl => ?_)
                                          obtain ⟨y_77, ey_77⟩ : ∃ y : Int32, y = x5 + 1 := ⟨_, rfl⟩
                                          refine lv_iinc (v := y_77) (lv' := [(5, .int y_77), (3, .int x5), (7, .int x5), (6, .int (gd (4096 * k.toNatClampNeg + ixP (nI i) (nI j)))), (4, .int x4), (0, .ref h0), (1, .int k), (2, .int 1)]) hx hb dX9_look_175 hl (k := 3) rfl (by rw [ey_77]; rfl) (by decide) rfl (fun ls hl => ?_)
                                          refine lv_goto (tgt := 73) hx hb dX9_look_178 (by decide) ?_
                                          exact ih_54 (i + 1) y_77 x5 _ _ _ (by omega) (by omega) (by rw [ey_77, ex_i]; exact nI_1 i) (by omega) (by rw [show smR (bhF (fun t => gd (4096 * k.toNatClampNeg + t)) 1) j (smL (bhF (fun t => gd (4096 * k.toNatClampNeg + t)) 1) W9 (-1) j) (i + 1) = (bhF (fun t => gd (4096 * k.toNatClampNeg + t)) 1) j i z3 from congrArg ((bhF (fun t => gd (4096 * k.toNatClampNeg + t)) 1) j i) eti.symm]; unfold bhF; rw [if_neg (fun q => c_62 (hr_61.trans q)), (show plC 1 j i = x5 from (if_neg (by decide)).trans ex_i.symm), if_pos (Int32.not_le.mp c_74)]) (hP.sub (ws' := [(m2, .inl (cI, 4, .inl gh)), (m3, .inl (cI, 16384, .inl gd)), (h0, .inr (9, [.ref m1, .ref m2, .ref m3, .int ik, .int wy, .int op, .int cl, .int cx0, .int cx1, .int cy0, .int cy1, .int ds, .ref m4, .ref m5, .ref m6, .ref m7, .ref m8, .ref m9, .int pn, .ref m10, .ref m11, .ref m12, .ref m13])), (m1, .inl (cI, 4, .inl gw))]) [0, 1, 2, 3] rfl) (hD.sub (ws' := [(m2, .inl (cI, 4, .inl gh)), (m3, .inl (cI, 16384, .inl gd)), (h0, .inr (9, [.ref m1, .ref m2, .ref m3, .int ik, .int wy, .int op, .int cl, .int cx0, .int cx1, .int cy0, .int cy1, .int ds, .ref m4, .ref m5, .ref m6, .ref m7, .ref m8, .ref m9, .int pn, .ref m10, .ref m11, .ref m12, .ref m13])), (m1, .inl (cI, 4, .inl gw))]) [0, 1, 2, 3] (by decide) rfl) hS (lv_sub hl [0, 4, 1, 5, 6, 7] rfl)
                                    · skip
                                      exact absurd c_70 (by decide)
                            · skip
                              exact absurd c_59 (by decide)
                      exact loop_53 (64 + 1) 0 0 x3 _ _ _ (by omega) (by omega) nI_0.symm (by omega) eto hP hD hS (lv_sub hl [0, 1, 2, 3, 4, 5] rfl)
                exact loop_49 (64 + 1) 0 0 (-1) _ _ _ (by omega) (by omega) nI_0.symm (by omega) rfl hP hD hS (lv_sub hl [0, 1, 2, 3, 4] rfl)
            · skip
              exact absurd c_45 (by decide)
          · skip
            exact absurd c_43 (by decide)
        · skip
          have hl : lv_has ls 8 [(0, .ref h0), (1, .int k), (2, .int 2)] := hl
          refine lv_iload_n hx hb dX9_look_20 rfl (lv_at hl 2 rfl) ?_
          refine lv_iconst (v := 4) hx hb dX9_look_21 (by decide) ?_
          refine lv_icmp_ne (tgt := 32) hx hb dX9_look_22 (by decide) (fun c_78 => ?_) (fun c_78 => ?_)
          · skip
            refine lv_iload_n hx hb dX9_look_32 rfl (lv_at hl 2 rfl) ?_
            refine lv_iconst (v := 5) hx hb dX9_look_33 (by decide) ?_
            refine lv_icmp_ne (tgt := 44) hx hb dX9_look_34 (by decide) (fun c_80 => ?_) (fun c_80 => ?_)
            · skip
              refine lv_iload_n hx hb dX9_look_44 rfl (lv_at hl 2 rfl) ?_
              refine lv_bipush (v := 6) hx hb dX9_look_45 (by decide) ?_
              refine lv_icmp_ge (tgt := 54) hx hb dX9_look_47 (by decide) (fun c_82 => ?_) (fun c_82 => ?_)
              · skip
                exact absurd c_82 (by decide)
              · skip
                refine lv_iconst (v := (-1)) hx hb dX9_look_50 (by decide) ?_
                refine lv_goto (tgt := 55) hx hb dX9_look_51 (by decide) ?_
                refine lv_istore_n (lv' := [(3, .int (-1)), (0, .ref h0), (1, .int k), (2, .int 2)]) hx hb dX9_look_55 rfl hl (by decide) rfl (fun ls hl => ?_)
                refine lv_iconst (v := 0) hx hb dX9_look_56 (by decide) ?_
                refine lv_istore (lv' := [(4, .int 0), (3, .int (-1)), (0, .ref h0), (1, .int k), (2, .int 2)]) hx hb dX9_look_57 hl (by decide) rfl (fun ls hl => ?_)
                have loop_84 : ∀ (n : Nat) (j : Nat) (x4 : Int32) (x3 : Int32) (H : Heap) (locs : List Loc) (ls : Array Slot), (j ≤ 64) → (64 + 1 ≤ j + n) → (x4 = nI j) → (j ≤ H9) → (x3 = smL (blF (fun t => gd (4096 * k.toNatClampNeg + t)) 0) W9 (-1) j) → va_P D vwCl [(m2, .inl (cI, 4, .inl gh)), (m3, .inl (cI, 16384, .inl gd)), (h0, .inr (9, [.ref m1, .ref m2, .ref m3, .int ik, .int wy, .int op, .int cl, .int cx0, .int cx1, .int cy0, .int cy1, .int ds, .ref m4, .ref m5, .ref m6, .ref m7, .ref m8, .ref m9, .int pn, .ref m10, .ref m11, .ref m12, .ref m13])), (m1, .inl (cI, 4, .inl gw))] H → va_D A [(m2, .inl (cI, 4, .inl gh)), (m3, .inl (cI, 16384, .inl gd)), (h0, .inr (9, [.ref m1, .ref m2, .ref m3, .int ik, .int wy, .int op, .int cl, .int cx0, .int cx1, .int cy0, .int cy1, .int ds, .ref m4, .ref m5, .ref m6, .ref m7, .ref m8, .ref m9, .int pn, .ref m10, .ref m11, .ref m12, .ref m13])), (m1, .inl (cI, 4, .inl gw))] → va_S A s.heap H locs → lv_has ls 8 [(4, .int x4), (3, .int x3), (0, .ref h0), (1, .int k), (2, .int 2)] → W p l e R s m ([.ref h0, .int k, .int (nI 2)] : List Value).toArray below meth c H locs 0 0 Q (F0 m 59 ls []) := by
                  intro n
                  induction n with
                  | zero =>
                    intro j x4 x3 H locs ls hi_j hm_j ex_j hjo eto hP hD hS hl
                    exact absurd (show False by omega) not_false
                  | succ n ih_85 =>
                    intro j x4 x3 H locs ls hi_j hm_j ex_j hjo eto hP hD hS hl
                    have hx_j : x4.toInt = (j : Int) := by rw [ex_j]; exact nI_toInt (by omega)
                    have hc_j : x4.toNatClampNeg = j := by rw [ex_j]; exact nI_clamp (by omega)
                    refine lv_iload hx hb dX9_look_59 (lv_at hl 0 rfl) ?_
                    refine lv_aload_n hx hb dX9_look_61 rfl (lv_at hl 2 rfl) ?_
                    refine va_get (D := D) (ci := 9) (v := .ref m2) (C := RX9) (T := TX9) (N := 23) hx hb hts hi_X9 hown hK hP 2 rfl rfl 1 (by decide) (hts _ bw_397) (fun _ h9 => h9) rfl dX9_look_62 ?_
                    refine lv_iload_n hx hb dX9_look_65 rfl (lv_at hl 3 rfl) ?_
                    refine va_iald hx hb hK hP 0 0 rfl rfl (vp_in_iff.mpr ⟨by omega, by omega⟩) dX9_look_66 ?_
                    refine lv_icmp_ge (tgt := 187) hx hb dX9_look_67 (by decide) (fun c_86 => ?_) (fun c_86 => ?_)
                    · skip
                      have f_87 : (gh k.toNatClampNeg).toInt ≤ (j : Int) := f_le rfl hx_j c_86
                      refine lv_iload_n hx hb dX9_look_187 rfl (lv_at hl 1 rfl) ?_
                      have hP9 := hP.sub (ws' := [(h0, .inr (9, [.ref m1, .ref m2, .ref m3, .int ik, .int wy, .int op, .int cl, .int cx0, .int cx1, .int cy0, .int cy1, .int ds, .ref m4, .ref m5, .ref m6, .ref m7, .ref m8, .ref m9, .int pn, .ref m10, .ref m11, .ref m12, .ref m13])), (m1, .inl (cI, 4, .inl gw)), (m2, .inl (cI, 4, .inl gh)), (m3, .inl (cI, 16384, .inl gd))]) [2, 3, 0, 1] rfl
                      have hD9 := hD.sub (ws' := [(h0, .inr (9, [.ref m1, .ref m2, .ref m3, .int ik, .int wy, .int op, .int cl, .int cx0, .int cx1, .int cy0, .int cy1, .int ds, .ref m4, .ref m5, .ref m6, .ref m7, .ref m8, .ref m9, .int pn, .ref m10, .ref m11, .ref m12, .ref m13])), (m1, .inl (cI, 4, .inl gw)), (m2, .inl (cI, 4, .inl gh)), (m3, .inl (cI, 16384, .inl gd))]) [2, 3, 0, 1] (by decide) rfl
                      have hK9 := hK.sub (tys' := [(cI, .int)]) [0] rfl
                      refine hQ _ _ _ _ _ ?_
                      exact W.iret (v := x3) hx hb hr (fun t ht hW => ⟨⟨x3, (), rfl, (show _ = lkP (fun t => gd (4096 * k.toNatClampNeg + t)) (gw k.toNatClampNeg) (gh k.toNatClampNeg) (nI 2) from (show _ = smL (blF (fun t => gd (4096 * k.toNatClampNeg + t)) 0) (gw k.toNatClampNeg).toNatClampNeg (-1) (gh k.toNatClampNeg).toNatClampNeg from (by rw [eW9n, eH9n, ← show j = H9 by omega]; exact eto)).trans (if_pos (by decide)).symm), ⟨by rw [ht]; exact hP9, va_K.moved hW.alike hK9, hD9⟩⟩, hS.F ht⟩) hS.2.2 dX9_look_188
                    · skip
                      have f_87 : ¬ ((gh k.toNatClampNeg).toInt ≤ (j : Int)) := fn_le rfl hx_j c_86
                      refine lv_iconst (v := 0) hx hb dX9_look_70 (by decide) ?_
                      refine lv_istore (lv' := [(5, .int 0), (4, .int x4), (3, .int x3), (0, .ref h0), (1, .int k), (2, .int 2)]) hx hb dX9_look_71 hl (by decide) rfl (fun ls hl => ?_)
                      have loop_88 : ∀ (n : Nat) (i : Nat) (x5 : Int32) (z3 : Int32) (H : Heap) (locs : List Loc) (ls : Array Slot), (i ≤ 64) → (64 + 1 ≤ i + n) → (x5 = nI i) → (i ≤ W9) → (z3 = smR (blF (fun t => gd (4096 * k.toNatClampNeg + t)) 0) j (smL (blF (fun t => gd (4096 * k.toNatClampNeg + t)) 0) W9 (-1) j) i) → va_P D vwCl [(m2, .inl (cI, 4, .inl gh)), (m3, .inl (cI, 16384, .inl gd)), (h0, .inr (9, [.ref m1, .ref m2, .ref m3, .int ik, .int wy, .int op, .int cl, .int cx0, .int cx1, .int cy0, .int cy1, .int ds, .ref m4, .ref m5, .ref m6, .ref m7, .ref m8, .ref m9, .int pn, .ref m10, .ref m11, .ref m12, .ref m13])), (m1, .inl (cI, 4, .inl gw))] H → va_D A [(m2, .inl (cI, 4, .inl gh)), (m3, .inl (cI, 16384, .inl gd)), (h0, .inr (9, [.ref m1, .ref m2, .ref m3, .int ik, .int wy, .int op, .int cl, .int cx0, .int cx1, .int cy0, .int cy1, .int ds, .ref m4, .ref m5, .ref m6, .ref m7, .ref m8, .ref m9, .int pn, .ref m10, .ref m11, .ref m12, .ref m13])), (m1, .inl (cI, 4, .inl gw))] → va_S A s.heap H locs → lv_has ls 8 [(5, .int x5), (4, .int x4), (3, .int z3), (0, .ref h0), (1, .int k), (2, .int 2)] → W p l e R s m ([.ref h0, .int k, .int (nI 2)] : List Value).toArray below meth c H locs 0 0 Q (F0 m 73 ls []) := by
                        intro n
                        induction n with
                        | zero =>
                          intro i x5 z3 H locs ls hi_i hm_i ex_i hio eti hP hD hS hl
                          exact absurd (show False by omega) not_false
                        | succ n ih_89 =>
                          intro i x5 z3 H locs ls hi_i hm_i ex_i hio eti hP hD hS hl
                          have hx_i : x5.toInt = (i : Int) := by rw [ex_i]; exact nI_toInt (by omega)
                          have hc_i : x5.toNatClampNeg = i := by rw [ex_i]; exact nI_clamp (by omega)
                          refine lv_iload hx hb dX9_look_73 (lv_at hl 0 rfl) ?_
                          refine lv_aload_n hx hb dX9_look_75 rfl (lv_at hl 3 rfl) ?_
                          refine va_get (D := D) (ci := 9) (v := .ref m1) (C := RX9) (T := TX9) (N := 23) hx hb hts hi_X9 hown hK hP 2 rfl rfl 0 (by decide) (hts _ bw_396) (fun _ h9 => h9) rfl dX9_look_76 ?_
                          refine lv_iload_n hx hb dX9_look_79 rfl (lv_at hl 4 rfl) ?_
                          refine va_iald hx hb hK hP 3 0 rfl rfl (vp_in_iff.mpr ⟨by omega, by omega⟩) dX9_look_80 ?_
                          refine lv_icmp_ge (tgt := 181) hx hb dX9_look_81 (by decide) (fun c_90 => ?_) (fun c_90 => ?_)
                          · skip
                            have f_91 : (gw k.toNatClampNeg).toInt ≤ (i : Int) := f_le rfl hx_i c_90
                            obtain ⟨y_92, ey_92⟩ : ∃ y : Int32, y = x4 + 1 := ⟨_, rfl⟩
                            refine lv_iinc (v := y_92) (lv' := [(4, .int y_92), (5, .int x5), (3, .int z3), (0, .ref h0), (1, .int k), (2, .int 2)]) hx hb dX9_look_181 hl (k := 1) rfl (by rw [ey_92]; rfl) (by decide) rfl (fun ls hl => ?_)
                            refine lv_goto (tgt := 59) hx hb dX9_look_184 (by decide) ?_
                            exact ih_85 (j + 1) y_92 z3 _ _ _ (by omega) (by omega) (by rw [ey_92, ex_j]; exact nI_1 j) (by omega) (sm_nx eti (by omega)) (hP.sub (ws' := [(m2, .inl (cI, 4, .inl gh)), (m3, .inl (cI, 16384, .inl gd)), (h0, .inr (9, [.ref m1, .ref m2, .ref m3, .int ik, .int wy, .int op, .int cl, .int cx0, .int cx1, .int cy0, .int cy1, .int ds, .ref m4, .ref m5, .ref m6, .ref m7, .ref m8, .ref m9, .int pn, .ref m10, .ref m11, .ref m12, .ref m13])), (m1, .inl (cI, 4, .inl gw))]) [0, 1, 2, 3] rfl) (hD.sub (ws' := [(m2, .inl (cI, 4, .inl gh)), (m3, .inl (cI, 16384, .inl gd)), (h0, .inr (9, [.ref m1, .ref m2, .ref m3, .int ik, .int wy, .int op, .int cl, .int cx0, .int cx1, .int cy0, .int cy1, .int ds, .ref m4, .ref m5, .ref m6, .ref m7, .ref m8, .ref m9, .int pn, .ref m10, .ref m11, .ref m12, .ref m13])), (m1, .inl (cI, 4, .inl gw))]) [0, 1, 2, 3] (by decide) rfl) hS (lv_sub hl [0, 2, 3, 4, 5] rfl)
                          · skip
                            have f_91 : ¬ ((gw k.toNatClampNeg).toInt ≤ (i : Int)) := fn_le rfl hx_i c_90
                            refine lv_aload_n hx hb dX9_look_84 rfl (lv_at hl 3 rfl) ?_
                            refine va_get (D := D) (ci := 9) (v := .ref m3) (C := RX9) (T := TX9) (N := 23) hx hb hts hi_X9 hown hK hP 2 rfl rfl 2 (by decide) (hts _ bw_398) (fun _ h9 => h9) rfl dX9_look_85 ?_
                            refine lv_iload_n hx hb dX9_look_88 rfl (lv_at hl 4 rfl) ?_
                            refine lv_iload hx hb dX9_look_89 (lv_at hl 0 rfl) ?_
                            refine lv_iload hx hb dX9_look_91 (lv_at hl 1 rfl) ?_
                            have hPc := hP.sub (ws' := []) [] rfl
                            have hDc := hD.sub (ws' := []) [] (by decide) rfl
                            have hKc := hK.sub (tys' := []) [] rfl
                            have hFc := va_free (wc := []) hD hS hA [] rfl
                            refine va_calli (va_runS (As := [.int k, .int x5, .int x4]) (rest := [.ref m3]) ⟨hx, hb, hml, hown, hts⟩ (k_X9_spot l D H.size k x5 x4) (va_cwS 3 hts (gS bw_551 bw_421 bw_391 bw_420) rfl rfl rfl (by decide +kernel) ⟨(by rw [hR]; exact Nat.le_of_ble_eq_true rfl), (by rw [hR]; exact Nat.le_of_ble_eq_true rfl)⟩) ⟨cP_blind, cP_at hPc hKc hDc hN⟩ rfl rfl hl.1 rfl (lv_room (Nat.le_of_ble_eq_true rfl)) dX9_look_93 ⟨(by rw [hR]; exact Nat.le_of_ble_eq_true rfl), (by rw [hR]; exact Nat.le_of_ble_eq_true rfl)⟩) hS (fun q _ h => hFc q h) hFc (fun r_93 u9 t9 H1 locs ht hvm hr_93 hB hz1 hk1 hS => ?_)
                            try dsimp only at hr_93
                            have hP1 : va_P D vwCl [] H1 := vP_nil
                            have hD1 : va_D (va_A [] H.size) [] := vD_nil
                            obtain ⟨hP, hD⟩ := va_join (wr := [(m2, .inl (cI, 4, .inl gh)), (m3, .inl (cI, 16384, .inl gd)), (h0, .inr (9, [.ref m1, .ref m2, .ref m3, .int ik, .int wy, .int op, .int cl, .int cx0, .int cx1, .int cy0, .int cy1, .int ds, .ref m4, .ref m5, .ref m6, .ref m7, .ref m8, .ref m9, .int pn, .ref m10, .ref m11, .ref m12, .ref m13])), (m1, .inl (cI, 4, .inl gw))]) (w1 := []) hP hD [] [0, 1, 2, 3] rfl rfl (by decide) (by decide) hk1 hFc hP1 hD1
                            clear hz1 hk1 hFc hKc hDc hPc
                            generalize H1 = H at hP hS ⊢
                            have hP : va_P D vwCl [(m2, .inl (cI, 4, .inl gh)), (m3, .inl (cI, 16384, .inl gd)), (h0, .inr (9, [.ref m1, .ref m2, .ref m3, .int ik, .int wy, .int op, .int cl, .int cx0, .int cx1, .int cy0, .int cy1, .int ds, .ref m4, .ref m5, .ref m6, .ref m7, .ref m8, .ref m9, .int pn, .ref m10, .ref m11, .ref m12, .ref m13])), (m1, .inl (cI, 4, .inl gw))] H := hP
                            have hD : va_D A [(m2, .inl (cI, 4, .inl gh)), (m3, .inl (cI, 16384, .inl gd)), (h0, .inr (9, [.ref m1, .ref m2, .ref m3, .int ik, .int wy, .int op, .int cl, .int cx0, .int cx1, .int cy0, .int cy1, .int ds, .ref m4, .ref m5, .ref m6, .ref m7, .ref m8, .ref m9, .int pn, .ref m10, .ref m11, .ref m12, .ref m13])), (m1, .inl (cI, 4, .inl gw))] := hD
                            refine va_iald hx hb hK hP 1 0 rfl rfl (by rw [hr_93]; exact sp_in (by omega) (by omega) (by omega) (by omega) (by omega) (by omega)) dX9_look_96 ?_
                            refine my_fold (v := gd (4096 * k.toNatClampNeg + ixP (nI i) (nI j))) (congrArg gd (by rw [hr_93, sp_cl (by omega) (by omega) (by omega) (by omega) (by omega) (by omega), ex_i, ex_j])) ?_
                            refine lv_istore (lv' := [(6, .int (gd (4096 * k.toNatClampNeg + ixP (nI i) (nI j)))), (5, .int x5), (4, .int x4), (3, .int z3), (0, .ref h0), (1, .int k), (2, .int 2)]) hx hb dX9_look_97 hl (by decide) rfl (fun ls hl => ?_)
                            refine lv_iload_n hx hb dX9_look_99 rfl (lv_at hl 6 rfl) ?_
                            refine lv_iconst (v := 5) hx hb dX9_look_100 (by decide) ?_
                            refine lv_icmp_le (tgt := 119) hx hb dX9_look_101 (by decide) (fun c_94 => ?_) (fun c_94 => ?_)
                            · skip
                              refine lv_iload hx hb dX9_look_119 (lv_at hl 0 rfl) ?_
                              refine lv_iconst (v := 0) hx hb dX9_look_121 (by decide) ?_
                              have hPc := hP.sub (ws' := []) [] rfl
                              have hDc := hD.sub (ws' := []) [] (by decide) rfl
                              have hKc := hK.sub (tys' := []) [] rfl
                              have hFc := va_free (wc := []) hD hS hA [] rfl
                              refine va_calli (va_runS (As := [.int (gd (4096 * k.toNatClampNeg + ixP (nI i) (nI j))), .int 0]) (rest := []) ⟨hx, hb, hml, hown, hts⟩ (k_X9_channel_0 l D H.size (gd (4096 * k.toNatClampNeg + ixP (nI i) (nI j)))) (va_cwS 2 hts (gS bw_441 bw_438 bw_391 bw_437) rfl rfl rfl (by decide +kernel) ⟨(by rw [hR]; exact Nat.le_of_ble_eq_true rfl), (by rw [hR]; exact Nat.le_of_ble_eq_true rfl)⟩) ⟨cP_blind, cP_at hPc hKc hDc hN⟩ rfl rfl hl.1 rfl (lv_room (Nat.le_of_ble_eq_true rfl)) dX9_look_122 ⟨(by rw [hR]; exact Nat.le_of_ble_eq_true rfl), (by rw [hR]; exact Nat.le_of_ble_eq_true rfl)⟩) hS (fun q _ h => hFc q h) hFc (fun r_96 u9 t9 H1 locs ht hvm hr_96 hB hz1 hk1 hS => ?_)
                              try dsimp only at hr_96
                              have hP1 : va_P D vwCl [] H1 := vP_nil
                              have hD1 : va_D (va_A [] H.size) [] := vD_nil
                              obtain ⟨hP, hD⟩ := va_join (wr := [(m2, .inl (cI, 4, .inl gh)), (m3, .inl (cI, 16384, .inl gd)), (h0, .inr (9, [.ref m1, .ref m2, .ref m3, .int ik, .int wy, .int op, .int cl, .int cx0, .int cx1, .int cy0, .int cy1, .int ds, .ref m4, .ref m5, .ref m6, .ref m7, .ref m8, .ref m9, .int pn, .ref m10, .ref m11, .ref m12, .ref m13])), (m1, .inl (cI, 4, .inl gw))]) (w1 := []) hP hD [] [0, 1, 2, 3] rfl rfl (by decide) (by decide) hk1 hFc hP1 hD1
                              clear hz1 hk1 hFc hKc hDc hPc
                              generalize H1 = H at hP hS ⊢
                              have hP : va_P D vwCl [(m2, .inl (cI, 4, .inl gh)), (m3, .inl (cI, 16384, .inl gd)), (h0, .inr (9, [.ref m1, .ref m2, .ref m3, .int ik, .int wy, .int op, .int cl, .int cx0, .int cx1, .int cy0, .int cy1, .int ds, .ref m4, .ref m5, .ref m6, .ref m7, .ref m8, .ref m9, .int pn, .ref m10, .ref m11, .ref m12, .ref m13])), (m1, .inl (cI, 4, .inl gw))] H := hP
                              have hD : va_D A [(m2, .inl (cI, 4, .inl gh)), (m3, .inl (cI, 16384, .inl gd)), (h0, .inr (9, [.ref m1, .ref m2, .ref m3, .int ik, .int wy, .int op, .int cl, .int cx0, .int cx1, .int cy0, .int cy1, .int ds, .ref m4, .ref m5, .ref m6, .ref m7, .ref m8, .ref m9, .int pn, .ref m10, .ref m11, .ref m12, .ref m13])), (m1, .inl (cI, 4, .inl gw))] := hD
                              refine lv_if_eq (tgt := 175) hx hb dX9_look_125 (by decide) (fun c_97 => ?_) (fun c_97 => ?_)
                              · skip
                                have f_98 : r_96.toInt = 0 := f_eq rfl (by decide) c_97
                                obtain ⟨y_99, ey_99⟩ : ∃ y : Int32, y = x5 + 1 := ⟨_, rfl⟩
                                refine lv_iinc (v := y_99) (lv' := [(5, .int y_99), (6, .int (gd (4096 * k.toNatClampNeg + ixP (nI i) (nI j)))), (4, .int x4), (3, .int z3), (0, .ref h0), (1, .int k), (2, .int 2)]) hx hb dX9_look_175 hl (k := 1) rfl (by rw [ey_99]; rfl) (by decide) rfl (fun ls hl => ?_)
                                refine lv_goto (tgt := 73) hx hb dX9_look_178 (by decide) ?_
                                exact ih_89 (i + 1) y_99 z3 _ _ _ (by omega) (by omega) (by rw [ey_99, ex_i]; exact nI_1 i) (by omega) (by rw [show smR (blF (fun t => gd (4096 * k.toNatClampNeg + t)) 0) j (smL (blF (fun t => gd (4096 * k.toNatClampNeg + t)) 0) W9 (-1) j) (i + 1) = (blF (fun t => gd (4096 * k.toNatClampNeg + t)) 0) j i z3 from congrArg ((blF (fun t => gd (4096 * k.toNatClampNeg + t)) 0) j i) eti.symm]; exact (show (blF (fun t => gd (4096 * k.toNatClampNeg + t)) 0) j i z3 = z3 from if_pos (hr_96.symm.trans c_97)).symm) (hP.sub (ws' := [(m2, .inl (cI, 4, .inl gh)), (m3, .inl (cI, 16384, .inl gd)), (h0, .inr (9, [.ref m1, .ref m2, .ref m3, .int ik, .int wy, .int op, .int cl, .int cx0, .int cx1, .int cy0, .int cy1, .int ds, .ref m4, .ref m5, .ref m6, .ref m7, .ref m8, .ref m9, .int pn, .ref m10, .ref m11, .ref m12, .ref m13])), (m1, .inl (cI, 4, .inl gw))]) [0, 1, 2, 3] rfl) (hD.sub (ws' := [(m2, .inl (cI, 4, .inl gh)), (m3, .inl (cI, 16384, .inl gd)), (h0, .inr (9, [.ref m1, .ref m2, .ref m3, .int ik, .int wy, .int op, .int cl, .int cx0, .int cx1, .int cy0, .int cy1, .int ds, .ref m4, .ref m5, .ref m6, .ref m7, .ref m8, .ref m9, .int pn, .ref m10, .ref m11, .ref m12, .ref m13])), (m1, .inl (cI, 4, .inl gw))]) [0, 1, 2, 3] (by decide) rfl) hS (lv_sub hl [0, 2, 3, 4, 5, 6] rfl)
                              · skip
                                have f_98 : ¬ (r_96.toInt = 0) := fn_eq rfl (by decide) c_97
                                refine lv_iload_n hx hb dX9_look_128 rfl (lv_at hl 6 rfl) ?_
                                refine lv_iconst (v := 2) hx hb dX9_look_129 (by decide) ?_
                                refine lv_icmp_ge (tgt := 138) hx hb dX9_look_130 (by decide) (fun c_100 => ?_) (fun c_100 => ?_)
                                · skip
                                  refine lv_iload hx hb dX9_look_138 (lv_at hl 2 rfl) ?_
                                  refine lv_istore (lv' := [(7, .int x4), (6, .int (gd (4096 * k.toNatClampNeg + ixP (nI i) (nI j)))), (5, .int x5), (4, .int x4), (3, .int z3), (0, .ref h0), (1, .int k), (2, .int 2)]) hx hb dX9_look_140 hl (by decide) rfl (fun ls hl => ?_)
                                  refine lv_iload_n hx hb dX9_look_142 rfl (lv_at hl 4 rfl) ?_
                                  refine lv_iconst (v := (-1)) hx hb dX9_look_143 (by decide) ?_
                                  refine lv_icmp_eq (tgt := 172) hx hb dX9_look_144 (by decide) (fun c_102 => ?_) (fun c_102 => ?_)
                                  · skip
                                    have f_103 : z3.toInt = (-1) := f_eq rfl (by decide) c_102
                                    refine lv_iload hx hb dX9_look_172 (lv_at hl 0 rfl) ?_
                                    refine lv_istore_n (lv' := [(3, .int x4), (7, .int x4), (6, .int (gd (4096 * k.toNatClampNeg + ixP (nI i) (nI j)))), (5, .int x5), (4, .int x4), (0, .ref h0), (1, .int k), (2, .int 2)]) hx hb dX9_look_174 rfl hl (by decide) rfl (fun ls hl => ?_)
                                    obtain ⟨y_104, ey_104⟩ : ∃ y : Int32, y = x5 + 1 := ⟨_, rfl⟩
                                    refine lv_iinc (v := y_104) (lv' := [(5, .int y_104), (3, .int x4), (7, .int x4), (6, .int (gd (4096 * k.toNatClampNeg + ixP (nI i) (nI j)))), (4, .int x4), (0, .ref h0), (1, .int k), (2, .int 2)]) hx hb dX9_look_175 hl (k := 3) rfl (by rw [ey_104]; rfl) (by decide) rfl (fun ls hl => ?_)
                                    refine lv_goto (tgt := 73) hx hb dX9_look_178 (by decide) ?_
                                    exact ih_89 (i + 1) y_104 x4 _ _ _ (by omega) (by omega) (by rw [ey_104, ex_i]; exact nI_1 i) (by omega) (by rw [show smR (blF (fun t => gd (4096 * k.toNatClampNeg + t)) 0) j (smL (blF (fun t => gd (4096 * k.toNatClampNeg + t)) 0) W9 (-1) j) (i + 1) = (blF (fun t => gd (4096 * k.toNatClampNeg + t)) 0) j i z3 from congrArg ((blF (fun t => gd (4096 * k.toNatClampNeg + t)) 0) j i) eti.symm]; unfold blF; rw [if_neg (fun q => c_97 (hr_96.trans q)), if_pos c_102, (show plC 0 j i = x4 from (if_pos (by decide)).trans ex_j.symm)]) (hP.sub (ws' := [(m2, .inl (cI, 4, .inl gh)), (m3, .inl (cI, 16384, .inl gd)), (h0, .inr (9, [.ref m1, .ref m2, .ref m3, .int ik, .int wy, .int op, .int cl, .int cx0, .int cx1, .int cy0, .int cy1, .int ds, .ref m4, .ref m5, .ref m6, .ref m7, .ref m8, .ref m9, .int pn, .ref m10, .ref m11, .ref m12, .ref m13])), (m1, .inl (cI, 4, .inl gw))]) [0, 1, 2, 3] rfl) (hD.sub (ws' := [(m2, .inl (cI, 4, .inl gh)), (m3, .inl (cI, 16384, .inl gd)), (h0, .inr (9, [.ref m1, .ref m2, .ref m3, .int ik, .int wy, .int op, .int cl, .int cx0, .int cx1, .int cy0, .int cy1, .int ds, .ref m4, .ref m5, .ref m6, .ref m7, .ref m8, .ref m9, .int pn, .ref m10, .ref m11, .ref m12, .ref m13])), (m1, .inl (cI, 4, .inl gw))]) [0, 1, 2, 3] (by decide) rfl) hS (lv_sub hl [0, 4, 1, 5, 6, 7] rfl)
                                  · skip
                                    have f_103 : ¬ (z3.toInt = (-1)) := fn_eq rfl (by decide) c_102
                                    refine lv_iload_n hx hb dX9_look_147 rfl (lv_at hl 7 rfl) ?_
                                    refine lv_iconst (v := 2) hx hb dX9_look_148 (by decide) ?_
                                    refine lv_irem hx hb dX9_look_149 (by decide) ?_
                                    refine my_fold (v := 0) (by decide) ?_
                                    refine lv_if_ne (tgt := 159) hx hb dX9_look_150 (by decide) (fun c_105 => ?_) (fun c_105 => ?_)
                                    · skip
                                      exact absurd c_105 (by decide)
                                    · skip
                                      refine lv_iload hx hb dX9_look_153 (lv_at hl 0 rfl) ?_
                                      refine lv_iload_n hx hb dX9_look_155 rfl (lv_at hl 4 rfl) ?_
                                      refine lv_icmp_lt (tgt := 172) hx hb dX9_look_156 (by decide) (fun c_107 => ?_) (fun c_107 => ?_)
                                      · skip
                                        have f_108 : (j : Int) < z3.toInt := f_lt hx_j rfl c_107
                                        refine lv_iload hx hb dX9_look_172 (lv_at hl 0 rfl) ?_
                                        refine lv_istore_n (lv' := [(3, .int x4), (7, .int x4), (6, .int (gd (4096 * k.toNatClampNeg + ixP (nI i) (nI j)))), (5, .int x5), (4, .int x4), (0, .ref h0), (1, .int k), (2, .int 2)]) hx hb dX9_look_174 rfl hl (by decide) rfl (fun ls hl => ?_)
                                        obtain ⟨y_109, ey_109⟩ : ∃ y : Int32, y = x5 + 1 := ⟨_, rfl⟩
                                        refine lv_iinc (v := y_109) (lv' := [(5, .int y_109), (3, .int x4), (7, .int x4), (6, .int (gd (4096 * k.toNatClampNeg + ixP (nI i) (nI j)))), (4, .int x4), (0, .ref h0), (1, .int k), (2, .int 2)]) hx hb dX9_look_175 hl (k := 3) rfl (by rw [ey_109]; rfl) (by decide) rfl (fun ls hl => ?_)
                                        refine lv_goto (tgt := 73) hx hb dX9_look_178 (by decide) ?_
                                        exact ih_89 (i + 1) y_109 x4 _ _ _ (by omega) (by omega) (by rw [ey_109, ex_i]; exact nI_1 i) (by omega) (by rw [show smR (blF (fun t => gd (4096 * k.toNatClampNeg + t)) 0) j (smL (blF (fun t => gd (4096 * k.toNatClampNeg + t)) 0) W9 (-1) j) (i + 1) = (blF (fun t => gd (4096 * k.toNatClampNeg + t)) 0) j i z3 from congrArg ((blF (fun t => gd (4096 * k.toNatClampNeg + t)) 0) j i) eti.symm]; unfold blF; rw [if_neg (fun q => c_97 (hr_96.trans q)), if_neg c_102, (show plC 0 j i = x4 from (if_pos (by decide)).trans ex_j.symm), if_pos c_107]) (hP.sub (ws' := [(m2, .inl (cI, 4, .inl gh)), (m3, .inl (cI, 16384, .inl gd)), (h0, .inr (9, [.ref m1, .ref m2, .ref m3, .int ik, .int wy, .int op, .int cl, .int cx0, .int cx1, .int cy0, .int cy1, .int ds, .ref m4, .ref m5, .ref m6, .ref m7, .ref m8, .ref m9, .int pn, .ref m10, .ref m11, .ref m12, .ref m13])), (m1, .inl (cI, 4, .inl gw))]) [0, 1, 2, 3] rfl) (hD.sub (ws' := [(m2, .inl (cI, 4, .inl gh)), (m3, .inl (cI, 16384, .inl gd)), (h0, .inr (9, [.ref m1, .ref m2, .ref m3, .int ik, .int wy, .int op, .int cl, .int cx0, .int cx1, .int cy0, .int cy1, .int ds, .ref m4, .ref m5, .ref m6, .ref m7, .ref m8, .ref m9, .int pn, .ref m10, .ref m11, .ref m12, .ref m13])), (m1, .inl (cI, 4, .inl gw))]) [0, 1, 2, 3] (by decide) rfl) hS (lv_sub hl [0, 4, 1, 5, 6, 7] rfl)
                                      · skip
                                        have f_108 : ¬ ((j : Int) < z3.toInt) := fn_lt hx_j rfl c_107
                                        refine lv_iload_n hx hb dX9_look_159 rfl (lv_at hl 7 rfl) ?_
                                        refine lv_iconst (v := 2) hx hb dX9_look_160 (by decide) ?_
                                        refine lv_irem hx hb dX9_look_161 (by decide) ?_
                                        refine my_fold (v := 0) (by decide) ?_
                                        refine lv_iconst (v := 1) hx hb dX9_look_162 (by decide) ?_
                                        refine lv_icmp_ne (tgt := 175) hx hb dX9_look_163 (by decide) (fun c_110 => ?_) (fun c_110 => ?_)
                                        · skip
                                          obtain ⟨y_112, ey_112⟩ : ∃ y : Int32, y = x5 + 1 := ⟨_, rfl⟩
                                          refine lv_iinc (v := y_112) (lv' := [(5, .int y_112), (7, .int x4), (6, .int (gd (4096 * k.toNatClampNeg + ixP (nI i) (nI j)))), (4, .int x4), (3, .int z3), (0, .ref h0), (1, .int k), (2, .int 2)]) hx hb dX9_look_175 hl (k := 2) rfl (by rw [ey_112]; rfl) (by decide) rfl (fun ls hl => ?_)
                                          refine lv_goto (tgt := 73) hx hb dX9_look_178 (by decide) ?_
                                          exact ih_89 (i + 1) y_112 z3 _ _ _ (by omega) (by omega) (by rw [ey_112, ex_i]; exact nI_1 i) (by omega) (by rw [show smR (blF (fun t => gd (4096 * k.toNatClampNeg + t)) 0) j (smL (blF (fun t => gd (4096 * k.toNatClampNeg + t)) 0) W9 (-1) j) (i + 1) = (blF (fun t => gd (4096 * k.toNatClampNeg + t)) 0) j i z3 from congrArg ((blF (fun t => gd (4096 * k.toNatClampNeg + t)) 0) j i) eti.symm]; unfold blF; rw [if_neg (fun q => c_97 (hr_96.trans q)), if_neg c_102, (show plC 0 j i = x4 from (if_pos (by decide)).trans ex_j.symm), if_neg c_107]) (hP.sub (ws' := [(m2, .inl (cI, 4, .inl gh)), (m3, .inl (cI, 16384, .inl gd)), (h0, .inr (9, [.ref m1, .ref m2, .ref m3, .int ik, .int wy, .int op, .int cl, .int cx0, .int cx1, .int cy0, .int cy1, .int ds, .ref m4, .ref m5, .ref m6, .ref m7, .ref m8, .ref m9, .int pn, .ref m10, .ref m11, .ref m12, .ref m13])), (m1, .inl (cI, 4, .inl gw))]) [0, 1, 2, 3] rfl) (hD.sub (ws' := [(m2, .inl (cI, 4, .inl gh)), (m3, .inl (cI, 16384, .inl gd)), (h0, .inr (9, [.ref m1, .ref m2, .ref m3, .int ik, .int wy, .int op, .int cl, .int cx0, .int cx1, .int cy0, .int cy1, .int ds, .ref m4, .ref m5, .ref m6, .ref m7, .ref m8, .ref m9, .int pn, .ref m10, .ref m11, .ref m12, .ref m13])), (m1, .inl (cI, 4, .inl gw))]) [0, 1, 2, 3] (by decide) rfl) hS (lv_sub hl [0, 3, 4, 5, 6, 7] rfl)
                                        · skip
                                          exact absurd c_110 (by decide)
                                · skip
                                  exact absurd c_100 (by decide)
                            · skip
                              exact absurd c_94 (by decide)
                      exact loop_88 (64 + 1) 0 0 x3 _ _ _ (by omega) (by omega) nI_0.symm (by omega) eto hP hD hS (lv_sub hl [0, 1, 2, 3, 4, 5] rfl)
                exact loop_84 (64 + 1) 0 0 (-1) _ _ _ (by omega) (by omega) nI_0.symm (by omega) rfl hP hD hS (lv_sub hl [0, 1, 2, 3, 4] rfl)
            · skip
              exact absurd c_80 (by decide)
          · skip
            exact absurd c_78 (by decide)
        · skip
          have hl : lv_has ls 8 [(0, .ref h0), (1, .int k), (2, .int 3)] := hl
          refine lv_iload_n hx hb dX9_look_20 rfl (lv_at hl 2 rfl) ?_
          refine lv_iconst (v := 4) hx hb dX9_look_21 (by decide) ?_
          refine lv_icmp_ne (tgt := 32) hx hb dX9_look_22 (by decide) (fun c_113 => ?_) (fun c_113 => ?_)
          · skip
            refine lv_iload_n hx hb dX9_look_32 rfl (lv_at hl 2 rfl) ?_
            refine lv_iconst (v := 5) hx hb dX9_look_33 (by decide) ?_
            refine lv_icmp_ne (tgt := 44) hx hb dX9_look_34 (by decide) (fun c_115 => ?_) (fun c_115 => ?_)
            · skip
              refine lv_iload_n hx hb dX9_look_44 rfl (lv_at hl 2 rfl) ?_
              refine lv_bipush (v := 6) hx hb dX9_look_45 (by decide) ?_
              refine lv_icmp_ge (tgt := 54) hx hb dX9_look_47 (by decide) (fun c_117 => ?_) (fun c_117 => ?_)
              · skip
                exact absurd c_117 (by decide)
              · skip
                refine lv_iconst (v := (-1)) hx hb dX9_look_50 (by decide) ?_
                refine lv_goto (tgt := 55) hx hb dX9_look_51 (by decide) ?_
                refine lv_istore_n (lv' := [(3, .int (-1)), (0, .ref h0), (1, .int k), (2, .int 3)]) hx hb dX9_look_55 rfl hl (by decide) rfl (fun ls hl => ?_)
                refine lv_iconst (v := 0) hx hb dX9_look_56 (by decide) ?_
                refine lv_istore (lv' := [(4, .int 0), (3, .int (-1)), (0, .ref h0), (1, .int k), (2, .int 3)]) hx hb dX9_look_57 hl (by decide) rfl (fun ls hl => ?_)
                have loop_119 : ∀ (n : Nat) (j : Nat) (x4 : Int32) (x3 : Int32) (H : Heap) (locs : List Loc) (ls : Array Slot), (j ≤ 64) → (64 + 1 ≤ j + n) → (x4 = nI j) → (j ≤ H9) → (x3 = smL (bhF (fun t => gd (4096 * k.toNatClampNeg + t)) 0) W9 (-1) j) → va_P D vwCl [(m2, .inl (cI, 4, .inl gh)), (m3, .inl (cI, 16384, .inl gd)), (h0, .inr (9, [.ref m1, .ref m2, .ref m3, .int ik, .int wy, .int op, .int cl, .int cx0, .int cx1, .int cy0, .int cy1, .int ds, .ref m4, .ref m5, .ref m6, .ref m7, .ref m8, .ref m9, .int pn, .ref m10, .ref m11, .ref m12, .ref m13])), (m1, .inl (cI, 4, .inl gw))] H → va_D A [(m2, .inl (cI, 4, .inl gh)), (m3, .inl (cI, 16384, .inl gd)), (h0, .inr (9, [.ref m1, .ref m2, .ref m3, .int ik, .int wy, .int op, .int cl, .int cx0, .int cx1, .int cy0, .int cy1, .int ds, .ref m4, .ref m5, .ref m6, .ref m7, .ref m8, .ref m9, .int pn, .ref m10, .ref m11, .ref m12, .ref m13])), (m1, .inl (cI, 4, .inl gw))] → va_S A s.heap H locs → lv_has ls 8 [(4, .int x4), (3, .int x3), (0, .ref h0), (1, .int k), (2, .int 3)] → W p l e R s m ([.ref h0, .int k, .int (nI 3)] : List Value).toArray below meth c H locs 0 0 Q (F0 m 59 ls []) := by
                  intro n
                  induction n with
                  | zero =>
                    intro j x4 x3 H locs ls hi_j hm_j ex_j hjo eto hP hD hS hl
                    exact absurd (show False by omega) not_false
                  | succ n ih_120 =>
                    intro j x4 x3 H locs ls hi_j hm_j ex_j hjo eto hP hD hS hl
                    have hx_j : x4.toInt = (j : Int) := by rw [ex_j]; exact nI_toInt (by omega)
                    have hc_j : x4.toNatClampNeg = j := by rw [ex_j]; exact nI_clamp (by omega)
                    refine lv_iload hx hb dX9_look_59 (lv_at hl 0 rfl) ?_
                    refine lv_aload_n hx hb dX9_look_61 rfl (lv_at hl 2 rfl) ?_
                    refine va_get (D := D) (ci := 9) (v := .ref m2) (C := RX9) (T := TX9) (N := 23) hx hb hts hi_X9 hown hK hP 2 rfl rfl 1 (by decide) (hts _ bw_397) (fun _ h9 => h9) rfl dX9_look_62 ?_
                    refine lv_iload_n hx hb dX9_look_65 rfl (lv_at hl 3 rfl) ?_
                    refine va_iald hx hb hK hP 0 0 rfl rfl (vp_in_iff.mpr ⟨by omega, by omega⟩) dX9_look_66 ?_
                    refine lv_icmp_ge (tgt := 187) hx hb dX9_look_67 (by decide) (fun c_121 => ?_) (fun c_121 => ?_)
                    · skip
                      have f_122 : (gh k.toNatClampNeg).toInt ≤ (j : Int) := f_le rfl hx_j c_121
                      refine lv_iload_n hx hb dX9_look_187 rfl (lv_at hl 1 rfl) ?_
                      have hP9 := hP.sub (ws' := [(h0, .inr (9, [.ref m1, .ref m2, .ref m3, .int ik, .int wy, .int op, .int cl, .int cx0, .int cx1, .int cy0, .int cy1, .int ds, .ref m4, .ref m5, .ref m6, .ref m7, .ref m8, .ref m9, .int pn, .ref m10, .ref m11, .ref m12, .ref m13])), (m1, .inl (cI, 4, .inl gw)), (m2, .inl (cI, 4, .inl gh)), (m3, .inl (cI, 16384, .inl gd))]) [2, 3, 0, 1] rfl
                      have hD9 := hD.sub (ws' := [(h0, .inr (9, [.ref m1, .ref m2, .ref m3, .int ik, .int wy, .int op, .int cl, .int cx0, .int cx1, .int cy0, .int cy1, .int ds, .ref m4, .ref m5, .ref m6, .ref m7, .ref m8, .ref m9, .int pn, .ref m10, .ref m11, .ref m12, .ref m13])), (m1, .inl (cI, 4, .inl gw)), (m2, .inl (cI, 4, .inl gh)), (m3, .inl (cI, 16384, .inl gd))]) [2, 3, 0, 1] (by decide) rfl
                      have hK9 := hK.sub (tys' := [(cI, .int)]) [0] rfl
                      refine hQ _ _ _ _ _ ?_
                      exact W.iret (v := x3) hx hb hr (fun t ht hW => ⟨⟨x3, (), rfl, (show _ = lkP (fun t => gd (4096 * k.toNatClampNeg + t)) (gw k.toNatClampNeg) (gh k.toNatClampNeg) (nI 3) from (show _ = smL (bhF (fun t => gd (4096 * k.toNatClampNeg + t)) 0) (gw k.toNatClampNeg).toNatClampNeg (-1) (gh k.toNatClampNeg).toNatClampNeg from (by rw [eW9n, eH9n, ← show j = H9 by omega]; exact eto)).trans (if_pos (by decide)).symm), ⟨by rw [ht]; exact hP9, va_K.moved hW.alike hK9, hD9⟩⟩, hS.F ht⟩) hS.2.2 dX9_look_188
                    · skip
                      have f_122 : ¬ ((gh k.toNatClampNeg).toInt ≤ (j : Int)) := fn_le rfl hx_j c_121
                      refine lv_iconst (v := 0) hx hb dX9_look_70 (by decide) ?_
                      refine lv_istore (lv' := [(5, .int 0), (4, .int x4), (3, .int x3), (0, .ref h0), (1, .int k), (2, .int 3)]) hx hb dX9_look_71 hl (by decide) rfl (fun ls hl => ?_)
                      have loop_123 : ∀ (n : Nat) (i : Nat) (x5 : Int32) (z3 : Int32) (H : Heap) (locs : List Loc) (ls : Array Slot), (i ≤ 64) → (64 + 1 ≤ i + n) → (x5 = nI i) → (i ≤ W9) → (z3 = smR (bhF (fun t => gd (4096 * k.toNatClampNeg + t)) 0) j (smL (bhF (fun t => gd (4096 * k.toNatClampNeg + t)) 0) W9 (-1) j) i) → va_P D vwCl [(m2, .inl (cI, 4, .inl gh)), (m3, .inl (cI, 16384, .inl gd)), (h0, .inr (9, [.ref m1, .ref m2, .ref m3, .int ik, .int wy, .int op, .int cl, .int cx0, .int cx1, .int cy0, .int cy1, .int ds, .ref m4, .ref m5, .ref m6, .ref m7, .ref m8, .ref m9, .int pn, .ref m10, .ref m11, .ref m12, .ref m13])), (m1, .inl (cI, 4, .inl gw))] H → va_D A [(m2, .inl (cI, 4, .inl gh)), (m3, .inl (cI, 16384, .inl gd)), (h0, .inr (9, [.ref m1, .ref m2, .ref m3, .int ik, .int wy, .int op, .int cl, .int cx0, .int cx1, .int cy0, .int cy1, .int ds, .ref m4, .ref m5, .ref m6, .ref m7, .ref m8, .ref m9, .int pn, .ref m10, .ref m11, .ref m12, .ref m13])), (m1, .inl (cI, 4, .inl gw))] → va_S A s.heap H locs → lv_has ls 8 [(5, .int x5), (4, .int x4), (3, .int z3), (0, .ref h0), (1, .int k), (2, .int 3)] → W p l e R s m ([.ref h0, .int k, .int (nI 3)] : List Value).toArray below meth c H locs 0 0 Q (F0 m 73 ls []) := by
                        intro n
                        induction n with
                        | zero =>
                          intro i x5 z3 H locs ls hi_i hm_i ex_i hio eti hP hD hS hl
                          exact absurd (show False by omega) not_false
                        | succ n ih_124 =>
                          intro i x5 z3 H locs ls hi_i hm_i ex_i hio eti hP hD hS hl
                          have hx_i : x5.toInt = (i : Int) := by rw [ex_i]; exact nI_toInt (by omega)
                          have hc_i : x5.toNatClampNeg = i := by rw [ex_i]; exact nI_clamp (by omega)
                          refine lv_iload hx hb dX9_look_73 (lv_at hl 0 rfl) ?_
                          refine lv_aload_n hx hb dX9_look_75 rfl (lv_at hl 3 rfl) ?_
                          refine va_get (D := D) (ci := 9) (v := .ref m1) (C := RX9) (T := TX9) (N := 23) hx hb hts hi_X9 hown hK hP 2 rfl rfl 0 (by decide) (hts _ bw_396) (fun _ h9 => h9) rfl dX9_look_76 ?_
                          refine lv_iload_n hx hb dX9_look_79 rfl (lv_at hl 4 rfl) ?_
                          refine va_iald hx hb hK hP 3 0 rfl rfl (vp_in_iff.mpr ⟨by omega, by omega⟩) dX9_look_80 ?_
                          refine lv_icmp_ge (tgt := 181) hx hb dX9_look_81 (by decide) (fun c_125 => ?_) (fun c_125 => ?_)
                          · skip
                            have f_126 : (gw k.toNatClampNeg).toInt ≤ (i : Int) := f_le rfl hx_i c_125
                            obtain ⟨y_127, ey_127⟩ : ∃ y : Int32, y = x4 + 1 := ⟨_, rfl⟩
                            refine lv_iinc (v := y_127) (lv' := [(4, .int y_127), (5, .int x5), (3, .int z3), (0, .ref h0), (1, .int k), (2, .int 3)]) hx hb dX9_look_181 hl (k := 1) rfl (by rw [ey_127]; rfl) (by decide) rfl (fun ls hl => ?_)
                            refine lv_goto (tgt := 59) hx hb dX9_look_184 (by decide) ?_
                            exact ih_120 (j + 1) y_127 z3 _ _ _ (by omega) (by omega) (by rw [ey_127, ex_j]; exact nI_1 j) (by omega) (sm_nx eti (by omega)) (hP.sub (ws' := [(m2, .inl (cI, 4, .inl gh)), (m3, .inl (cI, 16384, .inl gd)), (h0, .inr (9, [.ref m1, .ref m2, .ref m3, .int ik, .int wy, .int op, .int cl, .int cx0, .int cx1, .int cy0, .int cy1, .int ds, .ref m4, .ref m5, .ref m6, .ref m7, .ref m8, .ref m9, .int pn, .ref m10, .ref m11, .ref m12, .ref m13])), (m1, .inl (cI, 4, .inl gw))]) [0, 1, 2, 3] rfl) (hD.sub (ws' := [(m2, .inl (cI, 4, .inl gh)), (m3, .inl (cI, 16384, .inl gd)), (h0, .inr (9, [.ref m1, .ref m2, .ref m3, .int ik, .int wy, .int op, .int cl, .int cx0, .int cx1, .int cy0, .int cy1, .int ds, .ref m4, .ref m5, .ref m6, .ref m7, .ref m8, .ref m9, .int pn, .ref m10, .ref m11, .ref m12, .ref m13])), (m1, .inl (cI, 4, .inl gw))]) [0, 1, 2, 3] (by decide) rfl) hS (lv_sub hl [0, 2, 3, 4, 5] rfl)
                          · skip
                            have f_126 : ¬ ((gw k.toNatClampNeg).toInt ≤ (i : Int)) := fn_le rfl hx_i c_125
                            refine lv_aload_n hx hb dX9_look_84 rfl (lv_at hl 3 rfl) ?_
                            refine va_get (D := D) (ci := 9) (v := .ref m3) (C := RX9) (T := TX9) (N := 23) hx hb hts hi_X9 hown hK hP 2 rfl rfl 2 (by decide) (hts _ bw_398) (fun _ h9 => h9) rfl dX9_look_85 ?_
                            refine lv_iload_n hx hb dX9_look_88 rfl (lv_at hl 4 rfl) ?_
                            refine lv_iload hx hb dX9_look_89 (lv_at hl 0 rfl) ?_
                            refine lv_iload hx hb dX9_look_91 (lv_at hl 1 rfl) ?_
                            have hPc := hP.sub (ws' := []) [] rfl
                            have hDc := hD.sub (ws' := []) [] (by decide) rfl
                            have hKc := hK.sub (tys' := []) [] rfl
                            have hFc := va_free (wc := []) hD hS hA [] rfl
                            refine va_calli (va_runS (As := [.int k, .int x5, .int x4]) (rest := [.ref m3]) ⟨hx, hb, hml, hown, hts⟩ (k_X9_spot l D H.size k x5 x4) (va_cwS 3 hts (gS bw_551 bw_421 bw_391 bw_420) rfl rfl rfl (by decide +kernel) ⟨(by rw [hR]; exact Nat.le_of_ble_eq_true rfl), (by rw [hR]; exact Nat.le_of_ble_eq_true rfl)⟩) ⟨cP_blind, cP_at hPc hKc hDc hN⟩ rfl rfl hl.1 rfl (lv_room (Nat.le_of_ble_eq_true rfl)) dX9_look_93 ⟨(by rw [hR]; exact Nat.le_of_ble_eq_true rfl), (by rw [hR]; exact Nat.le_of_ble_eq_true rfl)⟩) hS (fun q _ h => hFc q h) hFc (fun r_128 u9 t9 H1 locs ht hvm hr_128 hB hz1 hk1 hS => ?_)
                            try dsimp only at hr_128
                            have hP1 : va_P D vwCl [] H1 := vP_nil
                            have hD1 : va_D (va_A [] H.size) [] := vD_nil
                            obtain ⟨hP, hD⟩ := va_join (wr := [(m2, .inl (cI, 4, .inl gh)), (m3, .inl (cI, 16384, .inl gd)), (h0, .inr (9, [.ref m1, .ref m2, .ref m3, .int ik, .int wy, .int op, .int cl, .int cx0, .int cx1, .int cy0, .int cy1, .int ds, .ref m4, .ref m5, .ref m6, .ref m7, .ref m8, .ref m9, .int pn, .ref m10, .ref m11, .ref m12, .ref m13])), (m1, .inl (cI, 4, .inl gw))]) (w1 := []) hP hD [] [0, 1, 2, 3] rfl rfl (by decide) (by decide) hk1 hFc hP1 hD1
                            clear hz1 hk1 hFc hKc hDc hPc
                            generalize H1 = H at hP hS ⊢
                            have hP : va_P D vwCl [(m2, .inl (cI, 4, .inl gh)), (m3, .inl (cI, 16384, .inl gd)), (h0, .inr (9, [.ref m1, .ref m2, .ref m3, .int ik, .int wy, .int op, .int cl, .int cx0, .int cx1, .int cy0, .int cy1, .int ds, .ref m4, .ref m5, .ref m6, .ref m7, .ref m8, .ref m9, .int pn, .ref m10, .ref m11, .ref m12, .ref m13])), (m1, .inl (cI, 4, .inl gw))] H := hP
                            have hD : va_D A [(m2, .inl (cI, 4, .inl gh)), (m3, .inl (cI, 16384, .inl gd)), (h0, .inr (9, [.ref m1, .ref m2, .ref m3, .int ik, .int wy, .int op, .int cl, .int cx0, .int cx1, .int cy0, .int cy1, .int ds, .ref m4, .ref m5, .ref m6, .ref m7, .ref m8, .ref m9, .int pn, .ref m10, .ref m11, .ref m12, .ref m13])), (m1, .inl (cI, 4, .inl gw))] := hD
                            refine va_iald hx hb hK hP 1 0 rfl rfl (by rw [hr_128]; exact sp_in (by omega) (by omega) (by omega) (by omega) (by omega) (by omega)) dX9_look_96 ?_
                            refine my_fold (v := gd (4096 * k.toNatClampNeg + ixP (nI i) (nI j))) (congrArg gd (by rw [hr_128, sp_cl (by omega) (by omega) (by omega) (by omega) (by omega) (by omega), ex_i, ex_j])) ?_
                            refine lv_istore (lv' := [(6, .int (gd (4096 * k.toNatClampNeg + ixP (nI i) (nI j)))), (5, .int x5), (4, .int x4), (3, .int z3), (0, .ref h0), (1, .int k), (2, .int 3)]) hx hb dX9_look_97 hl (by decide) rfl (fun ls hl => ?_)
                            refine lv_iload_n hx hb dX9_look_99 rfl (lv_at hl 6 rfl) ?_
                            refine lv_iconst (v := 5) hx hb dX9_look_100 (by decide) ?_
                            refine lv_icmp_le (tgt := 119) hx hb dX9_look_101 (by decide) (fun c_129 => ?_) (fun c_129 => ?_)
                            · skip
                              refine lv_iload hx hb dX9_look_119 (lv_at hl 0 rfl) ?_
                              refine lv_iconst (v := 0) hx hb dX9_look_121 (by decide) ?_
                              have hPc := hP.sub (ws' := []) [] rfl
                              have hDc := hD.sub (ws' := []) [] (by decide) rfl
                              have hKc := hK.sub (tys' := []) [] rfl
                              have hFc := va_free (wc := []) hD hS hA [] rfl
                              refine va_calli (va_runS (As := [.int (gd (4096 * k.toNatClampNeg + ixP (nI i) (nI j))), .int 0]) (rest := []) ⟨hx, hb, hml, hown, hts⟩ (k_X9_channel_0 l D H.size (gd (4096 * k.toNatClampNeg + ixP (nI i) (nI j)))) (va_cwS 2 hts (gS bw_441 bw_438 bw_391 bw_437) rfl rfl rfl (by decide +kernel) ⟨(by rw [hR]; exact Nat.le_of_ble_eq_true rfl), (by rw [hR]; exact Nat.le_of_ble_eq_true rfl)⟩) ⟨cP_blind, cP_at hPc hKc hDc hN⟩ rfl rfl hl.1 rfl (lv_room (Nat.le_of_ble_eq_true rfl)) dX9_look_122 ⟨(by rw [hR]; exact Nat.le_of_ble_eq_true rfl), (by rw [hR]; exact Nat.le_of_ble_eq_true rfl)⟩) hS (fun q _ h => hFc q h) hFc (fun r_131 u9 t9 H1 locs ht hvm hr_131 hB hz1 hk1 hS => ?_)
                              try dsimp only at hr_131
                              have hP1 : va_P D vwCl [] H1 := vP_nil
                              have hD1 : va_D (va_A [] H.size) [] := vD_nil
                              obtain ⟨hP, hD⟩ := va_join (wr := [(m2, .inl (cI, 4, .inl gh)), (m3, .inl (cI, 16384, .inl gd)), (h0, .inr (9, [.ref m1, .ref m2, .ref m3, .int ik, .int wy, .int op, .int cl, .int cx0, .int cx1, .int cy0, .int cy1, .int ds, .ref m4, .ref m5, .ref m6, .ref m7, .ref m8, .ref m9, .int pn, .ref m10, .ref m11, .ref m12, .ref m13])), (m1, .inl (cI, 4, .inl gw))]) (w1 := []) hP hD [] [0, 1, 2, 3] rfl rfl (by decide) (by decide) hk1 hFc hP1 hD1
                              clear hz1 hk1 hFc hKc hDc hPc
                              generalize H1 = H at hP hS ⊢
                              have hP : va_P D vwCl [(m2, .inl (cI, 4, .inl gh)), (m3, .inl (cI, 16384, .inl gd)), (h0, .inr (9, [.ref m1, .ref m2, .ref m3, .int ik, .int wy, .int op, .int cl, .int cx0, .int cx1, .int cy0, .int cy1, .int ds, .ref m4, .ref m5, .ref m6, .ref m7, .ref m8, .ref m9, .int pn, .ref m10, .ref m11, .ref m12, .ref m13])), (m1, .inl (cI, 4, .inl gw))] H := hP
                              have hD : va_D A [(m2, .inl (cI, 4, .inl gh)), (m3, .inl (cI, 16384, .inl gd)), (h0, .inr (9, [.ref m1, .ref m2, .ref m3, .int ik, .int wy, .int op, .int cl, .int cx0, .int cx1, .int cy0, .int cy1, .int ds, .ref m4, .ref m5, .ref m6, .ref m7, .ref m8, .ref m9, .int pn, .ref m10, .ref m11, .ref m12, .ref m13])), (m1, .inl (cI, 4, .inl gw))] := hD
                              refine lv_if_eq (tgt := 175) hx hb dX9_look_125 (by decide) (fun c_132 => ?_) (fun c_132 => ?_)
                              · skip
                                have f_133 : r_131.toInt = 0 := f_eq rfl (by decide) c_132
                                obtain ⟨y_134, ey_134⟩ : ∃ y : Int32, y = x5 + 1 := ⟨_, rfl⟩
                                refine lv_iinc (v := y_134) (lv' := [(5, .int y_134), (6, .int (gd (4096 * k.toNatClampNeg + ixP (nI i) (nI j)))), (4, .int x4), (3, .int z3), (0, .ref h0), (1, .int k), (2, .int 3)]) hx hb dX9_look_175 hl (k := 1) rfl (by rw [ey_134]; rfl) (by decide) rfl (fun ls hl => ?_)
                                refine lv_goto (tgt := 73) hx hb dX9_look_178 (by decide) ?_
                                exact ih_124 (i + 1) y_134 z3 _ _ _ (by omega) (by omega) (by rw [ey_134, ex_i]; exact nI_1 i) (by omega) (by rw [show smR (bhF (fun t => gd (4096 * k.toNatClampNeg + t)) 0) j (smL (bhF (fun t => gd (4096 * k.toNatClampNeg + t)) 0) W9 (-1) j) (i + 1) = (bhF (fun t => gd (4096 * k.toNatClampNeg + t)) 0) j i z3 from congrArg ((bhF (fun t => gd (4096 * k.toNatClampNeg + t)) 0) j i) eti.symm]; exact (show (bhF (fun t => gd (4096 * k.toNatClampNeg + t)) 0) j i z3 = z3 from if_pos (hr_131.symm.trans c_132)).symm) (hP.sub (ws' := [(m2, .inl (cI, 4, .inl gh)), (m3, .inl (cI, 16384, .inl gd)), (h0, .inr (9, [.ref m1, .ref m2, .ref m3, .int ik, .int wy, .int op, .int cl, .int cx0, .int cx1, .int cy0, .int cy1, .int ds, .ref m4, .ref m5, .ref m6, .ref m7, .ref m8, .ref m9, .int pn, .ref m10, .ref m11, .ref m12, .ref m13])), (m1, .inl (cI, 4, .inl gw))]) [0, 1, 2, 3] rfl) (hD.sub (ws' := [(m2, .inl (cI, 4, .inl gh)), (m3, .inl (cI, 16384, .inl gd)), (h0, .inr (9, [.ref m1, .ref m2, .ref m3, .int ik, .int wy, .int op, .int cl, .int cx0, .int cx1, .int cy0, .int cy1, .int ds, .ref m4, .ref m5, .ref m6, .ref m7, .ref m8, .ref m9, .int pn, .ref m10, .ref m11, .ref m12, .ref m13])), (m1, .inl (cI, 4, .inl gw))]) [0, 1, 2, 3] (by decide) rfl) hS (lv_sub hl [0, 2, 3, 4, 5, 6] rfl)
                              · skip
                                have f_133 : ¬ (r_131.toInt = 0) := fn_eq rfl (by decide) c_132
                                refine lv_iload_n hx hb dX9_look_128 rfl (lv_at hl 6 rfl) ?_
                                refine lv_iconst (v := 2) hx hb dX9_look_129 (by decide) ?_
                                refine lv_icmp_ge (tgt := 138) hx hb dX9_look_130 (by decide) (fun c_135 => ?_) (fun c_135 => ?_)
                                · skip
                                  refine lv_iload hx hb dX9_look_138 (lv_at hl 2 rfl) ?_
                                  refine lv_istore (lv' := [(7, .int x4), (6, .int (gd (4096 * k.toNatClampNeg + ixP (nI i) (nI j)))), (5, .int x5), (4, .int x4), (3, .int z3), (0, .ref h0), (1, .int k), (2, .int 3)]) hx hb dX9_look_140 hl (by decide) rfl (fun ls hl => ?_)
                                  refine lv_iload_n hx hb dX9_look_142 rfl (lv_at hl 4 rfl) ?_
                                  refine lv_iconst (v := (-1)) hx hb dX9_look_143 (by decide) ?_
                                  refine lv_icmp_eq (tgt := 172) hx hb dX9_look_144 (by decide) (fun c_137 => ?_) (fun c_137 => ?_)
                                  · skip
                                    have f_138 : z3.toInt = (-1) := f_eq rfl (by decide) c_137
                                    refine lv_iload hx hb dX9_look_172 (lv_at hl 0 rfl) ?_
                                    refine lv_istore_n (lv' := [(3, .int x4), (7, .int x4), (6, .int (gd (4096 * k.toNatClampNeg + ixP (nI i) (nI j)))), (5, .int x5), (4, .int x4), (0, .ref h0), (1, .int k), (2, .int 3)]) hx hb dX9_look_174 rfl hl (by decide) rfl (fun ls hl => ?_)
                                    obtain ⟨y_139, ey_139⟩ : ∃ y : Int32, y = x5 + 1 := ⟨_, rfl⟩
                                    refine lv_iinc (v := y_139) (lv' := [(5, .int y_139), (3, .int x4), (7, .int x4), (6, .int (gd (4096 * k.toNatClampNeg + ixP (nI i) (nI j)))), (4, .int x4), (0, .ref h0), (1, .int k), (2, .int 3)]) hx hb dX9_look_175 hl (k := 3) rfl (by rw [ey_139]; rfl) (by decide) rfl (fun ls hl => ?_)
                                    refine lv_goto (tgt := 73) hx hb dX9_look_178 (by decide) ?_
                                    exact ih_124 (i + 1) y_139 x4 _ _ _ (by omega) (by omega) (by rw [ey_139, ex_i]; exact nI_1 i) (by omega) (by rw [show smR (bhF (fun t => gd (4096 * k.toNatClampNeg + t)) 0) j (smL (bhF (fun t => gd (4096 * k.toNatClampNeg + t)) 0) W9 (-1) j) (i + 1) = (bhF (fun t => gd (4096 * k.toNatClampNeg + t)) 0) j i z3 from congrArg ((bhF (fun t => gd (4096 * k.toNatClampNeg + t)) 0) j i) eti.symm]; unfold bhF; rw [if_neg (fun q => c_132 (hr_131.trans q)), (show plC 0 j i = x4 from (if_pos (by decide)).trans ex_j.symm), if_pos (m1_lt c_137 (by omega))]) (hP.sub (ws' := [(m2, .inl (cI, 4, .inl gh)), (m3, .inl (cI, 16384, .inl gd)), (h0, .inr (9, [.ref m1, .ref m2, .ref m3, .int ik, .int wy, .int op, .int cl, .int cx0, .int cx1, .int cy0, .int cy1, .int ds, .ref m4, .ref m5, .ref m6, .ref m7, .ref m8, .ref m9, .int pn, .ref m10, .ref m11, .ref m12, .ref m13])), (m1, .inl (cI, 4, .inl gw))]) [0, 1, 2, 3] rfl) (hD.sub (ws' := [(m2, .inl (cI, 4, .inl gh)), (m3, .inl (cI, 16384, .inl gd)), (h0, .inr (9, [.ref m1, .ref m2, .ref m3, .int ik, .int wy, .int op, .int cl, .int cx0, .int cx1, .int cy0, .int cy1, .int ds, .ref m4, .ref m5, .ref m6, .ref m7, .ref m8, .ref m9, .int pn, .ref m10, .ref m11, .ref m12, .ref m13])), (m1, .inl (cI, 4, .inl gw))]) [0, 1, 2, 3] (by decide) rfl) hS (lv_sub hl [0, 4, 1, 5, 6, 7] rfl)
                                  · skip
                                    have f_138 : ¬ (z3.toInt = (-1)) := fn_eq rfl (by decide) c_137
                                    refine lv_iload_n hx hb dX9_look_147 rfl (lv_at hl 7 rfl) ?_
                                    refine lv_iconst (v := 2) hx hb dX9_look_148 (by decide) ?_
                                    refine lv_irem hx hb dX9_look_149 (by decide) ?_
                                    refine my_fold (v := 1) (by decide) ?_
                                    refine lv_if_ne (tgt := 159) hx hb dX9_look_150 (by decide) (fun c_140 => ?_) (fun c_140 => ?_)
                                    · skip
                                      refine lv_iload_n hx hb dX9_look_159 rfl (lv_at hl 7 rfl) ?_
                                      refine lv_iconst (v := 2) hx hb dX9_look_160 (by decide) ?_
                                      refine lv_irem hx hb dX9_look_161 (by decide) ?_
                                      refine my_fold (v := 1) (by decide) ?_
                                      refine lv_iconst (v := 1) hx hb dX9_look_162 (by decide) ?_
                                      refine lv_icmp_ne (tgt := 175) hx hb dX9_look_163 (by decide) (fun c_142 => ?_) (fun c_142 => ?_)
                                      · skip
                                        exact absurd c_142 (by decide)
                                      · skip
                                        refine lv_iload hx hb dX9_look_166 (lv_at hl 0 rfl) ?_
                                        refine lv_iload_n hx hb dX9_look_168 rfl (lv_at hl 4 rfl) ?_
                                        refine lv_icmp_le (tgt := 175) hx hb dX9_look_169 (by decide) (fun c_144 => ?_) (fun c_144 => ?_)
                                        · skip
                                          have f_145 : (j : Int) ≤ z3.toInt := f_le hx_j rfl c_144
                                          obtain ⟨y_146, ey_146⟩ : ∃ y : Int32, y = x5 + 1 := ⟨_, rfl⟩
                                          refine lv_iinc (v := y_146) (lv' := [(5, .int y_146), (7, .int x4), (6, .int (gd (4096 * k.toNatClampNeg + ixP (nI i) (nI j)))), (4, .int x4), (3, .int z3), (0, .ref h0), (1, .int k), (2, .int 3)]) hx hb dX9_look_175 hl (k := 2) rfl (by rw [ey_146]; rfl) (by decide) rfl (fun ls hl => ?_)
                                          refine lv_goto (tgt := 73) hx hb dX9_look_178 (by decide) ?_
                                          exact ih_124 (i + 1) y_146 z3 _ _ _ (by omega) (by omega) (by rw [ey_146, ex_i]; exact nI_1 i) (by omega) (by rw [show smR (bhF (fun t => gd (4096 * k.toNatClampNeg + t)) 0) j (smL (bhF (fun t => gd (4096 * k.toNatClampNeg + t)) 0) W9 (-1) j) (i + 1) = (bhF (fun t => gd (4096 * k.toNatClampNeg + t)) 0) j i z3 from congrArg ((bhF (fun t => gd (4096 * k.toNatClampNeg + t)) 0) j i) eti.symm]; unfold bhF; rw [if_neg (fun q => c_132 (hr_131.trans q)), (show plC 0 j i = x4 from (if_pos (by decide)).trans ex_j.symm), if_neg (Int32.not_lt.mpr c_144)]) (hP.sub (ws' := [(m2, .inl (cI, 4, .inl gh)), (m3, .inl (cI, 16384, .inl gd)), (h0, .inr (9, [.ref m1, .ref m2, .ref m3, .int ik, .int wy, .int op, .int cl, .int cx0, .int cx1, .int cy0, .int cy1, .int ds, .ref m4, .ref m5, .ref m6, .ref m7, .ref m8, .ref m9, .int pn, .ref m10, .ref m11, .ref m12, .ref m13])), (m1, .inl (cI, 4, .inl gw))]) [0, 1, 2, 3] rfl) (hD.sub (ws' := [(m2, .inl (cI, 4, .inl gh)), (m3, .inl (cI, 16384, .inl gd)), (h0, .inr (9, [.ref m1, .ref m2, .ref m3, .int ik, .int wy, .int op, .int cl, .int cx0, .int cx1, .int cy0, .int cy1, .int ds, .ref m4, .ref m5, .ref m6, .ref m7, .ref m8, .ref m9, .int pn, .ref m10, .ref m11, .ref m12, .ref m13])), (m1, .inl (cI, 4, .inl gw))]) [0, 1, 2, 3] (by decide) rfl) hS (lv_sub hl [0, 3, 4, 5, 6, 7] rfl)
                                        · skip
                                          have f_145 : ¬ ((j : Int) ≤ z3.toInt) := fn_le hx_j rfl c_144
                                          refine lv_iload hx hb dX9_look_172 (lv_at hl 0 rfl) ?_
                                          refine lv_istore_n (lv' := [(3, .int x4), (7, .int x4), (6, .int (gd (4096 * k.toNatClampNeg + ixP (nI i) (nI j)))), (5, .int x5), (4, .int x4), (0, .ref h0), (1, .int k), (2, .int 3)]) hx hb dX9_look_174 rfl hl (by decide) rfl (fun ls hl => ?_)
                                          obtain ⟨y_147, ey_147⟩ : ∃ y : Int32, y = x5 + 1 := ⟨_, rfl⟩
                                          refine lv_iinc (v := y_147) (lv' := [(5, .int y_147), (3, .int x4), (7, .int x4), (6, .int (gd (4096 * k.toNatClampNeg + ixP (nI i) (nI j)))), (4, .int x4), (0, .ref h0), (1, .int k), (2, .int 3)]) hx hb dX9_look_175 hl (k := 3) rfl (by rw [ey_147]; rfl) (by decide) rfl (fun ls hl => ?_)
                                          refine lv_goto (tgt := 73) hx hb dX9_look_178 (by decide) ?_
                                          exact ih_124 (i + 1) y_147 x4 _ _ _ (by omega) (by omega) (by rw [ey_147, ex_i]; exact nI_1 i) (by omega) (by rw [show smR (bhF (fun t => gd (4096 * k.toNatClampNeg + t)) 0) j (smL (bhF (fun t => gd (4096 * k.toNatClampNeg + t)) 0) W9 (-1) j) (i + 1) = (bhF (fun t => gd (4096 * k.toNatClampNeg + t)) 0) j i z3 from congrArg ((bhF (fun t => gd (4096 * k.toNatClampNeg + t)) 0) j i) eti.symm]; unfold bhF; rw [if_neg (fun q => c_132 (hr_131.trans q)), (show plC 0 j i = x4 from (if_pos (by decide)).trans ex_j.symm), if_pos (Int32.not_le.mp c_144)]) (hP.sub (ws' := [(m2, .inl (cI, 4, .inl gh)), (m3, .inl (cI, 16384, .inl gd)), (h0, .inr (9, [.ref m1, .ref m2, .ref m3, .int ik, .int wy, .int op, .int cl, .int cx0, .int cx1, .int cy0, .int cy1, .int ds, .ref m4, .ref m5, .ref m6, .ref m7, .ref m8, .ref m9, .int pn, .ref m10, .ref m11, .ref m12, .ref m13])), (m1, .inl (cI, 4, .inl gw))]) [0, 1, 2, 3] rfl) (hD.sub (ws' := [(m2, .inl (cI, 4, .inl gh)), (m3, .inl (cI, 16384, .inl gd)), (h0, .inr (9, [.ref m1, .ref m2, .ref m3, .int ik, .int wy, .int op, .int cl, .int cx0, .int cx1, .int cy0, .int cy1, .int ds, .ref m4, .ref m5, .ref m6, .ref m7, .ref m8, .ref m9, .int pn, .ref m10, .ref m11, .ref m12, .ref m13])), (m1, .inl (cI, 4, .inl gw))]) [0, 1, 2, 3] (by decide) rfl) hS (lv_sub hl [0, 4, 1, 5, 6, 7] rfl)
                                    · skip
                                      exact absurd c_140 (by decide)
                                · skip
                                  exact absurd c_135 (by decide)
                            · skip
                              exact absurd c_129 (by decide)
                      exact loop_123 (64 + 1) 0 0 x3 _ _ _ (by omega) (by omega) nI_0.symm (by omega) eto hP hD hS (lv_sub hl [0, 1, 2, 3, 4, 5] rfl)
                exact loop_119 (64 + 1) 0 0 (-1) _ _ _ (by omega) (by omega) nI_0.symm (by omega) rfl hP hD hS (lv_sub hl [0, 1, 2, 3, 4] rfl)
            · skip
              exact absurd c_115 (by decide)
          · skip
            exact absurd c_113 (by decide)
        · skip
          have hl : lv_has ls 8 [(0, .ref h0), (1, .int k), (2, .int 4)] := hl
          refine lv_iload_n hx hb dX9_look_20 rfl (lv_at hl 2 rfl) ?_
          refine lv_iconst (v := 4) hx hb dX9_look_21 (by decide) ?_
          refine lv_icmp_ne (tgt := 32) hx hb dX9_look_22 (by decide) (fun c_148 => ?_) (fun c_148 => ?_)
          · skip
            exact absurd c_148 (by decide)
          · skip
            refine lv_aload_n hx hb dX9_look_25 rfl (lv_at hl 0 rfl) ?_
            refine va_get (D := D) (ci := 9) (v := .ref m1) (C := RX9) (T := TX9) (N := 23) hx hb hts hi_X9 hown hK hP 2 rfl rfl 0 (by decide) (hts _ bw_396) (fun _ h9 => h9) rfl dX9_look_26 ?_
            refine lv_iload_n hx hb dX9_look_29 rfl (lv_at hl 1 rfl) ?_
            refine va_iald hx hb hK hP 3 0 rfl rfl (vp_in_iff.mpr ⟨by omega, by omega⟩) dX9_look_30 ?_
            have hP9 := hP.sub (ws' := [(h0, .inr (9, [.ref m1, .ref m2, .ref m3, .int ik, .int wy, .int op, .int cl, .int cx0, .int cx1, .int cy0, .int cy1, .int ds, .ref m4, .ref m5, .ref m6, .ref m7, .ref m8, .ref m9, .int pn, .ref m10, .ref m11, .ref m12, .ref m13])), (m1, .inl (cI, 4, .inl gw)), (m2, .inl (cI, 4, .inl gh)), (m3, .inl (cI, 16384, .inl gd))]) [2, 3, 0, 1] rfl
            have hD9 := hD.sub (ws' := [(h0, .inr (9, [.ref m1, .ref m2, .ref m3, .int ik, .int wy, .int op, .int cl, .int cx0, .int cx1, .int cy0, .int cy1, .int ds, .ref m4, .ref m5, .ref m6, .ref m7, .ref m8, .ref m9, .int pn, .ref m10, .ref m11, .ref m12, .ref m13])), (m1, .inl (cI, 4, .inl gw)), (m2, .inl (cI, 4, .inl gh)), (m3, .inl (cI, 16384, .inl gd))]) [2, 3, 0, 1] (by decide) rfl
            have hK9 := hK.sub (tys' := [(cI, .int)]) [0] rfl
            refine hQ _ _ _ _ _ ?_
            exact W.iret (v := gw k.toNatClampNeg) hx hb hr (fun t ht hW => ⟨⟨gw k.toNatClampNeg, (), rfl, (show _ = lkP (fun t => gd (4096 * k.toNatClampNeg + t)) (gw k.toNatClampNeg) (gh k.toNatClampNeg) (nI 4) from (if_pos (by decide)).symm), ⟨by rw [ht]; exact hP9, va_K.moved hW.alike hK9, hD9⟩⟩, hS.F ht⟩) hS.2.2 dX9_look_31
        · skip
          have hl : lv_has ls 8 [(0, .ref h0), (1, .int k), (2, .int 5)] := hl
          refine lv_iload_n hx hb dX9_look_20 rfl (lv_at hl 2 rfl) ?_
          refine lv_iconst (v := 4) hx hb dX9_look_21 (by decide) ?_
          refine lv_icmp_ne (tgt := 32) hx hb dX9_look_22 (by decide) (fun c_150 => ?_) (fun c_150 => ?_)
          · skip
            refine lv_iload_n hx hb dX9_look_32 rfl (lv_at hl 2 rfl) ?_
            refine lv_iconst (v := 5) hx hb dX9_look_33 (by decide) ?_
            refine lv_icmp_ne (tgt := 44) hx hb dX9_look_34 (by decide) (fun c_152 => ?_) (fun c_152 => ?_)
            · skip
              exact absurd c_152 (by decide)
            · skip
              refine lv_aload_n hx hb dX9_look_37 rfl (lv_at hl 0 rfl) ?_
              refine va_get (D := D) (ci := 9) (v := .ref m2) (C := RX9) (T := TX9) (N := 23) hx hb hts hi_X9 hown hK hP 2 rfl rfl 1 (by decide) (hts _ bw_397) (fun _ h9 => h9) rfl dX9_look_38 ?_
              refine lv_iload_n hx hb dX9_look_41 rfl (lv_at hl 1 rfl) ?_
              refine va_iald hx hb hK hP 0 0 rfl rfl (vp_in_iff.mpr ⟨by omega, by omega⟩) dX9_look_42 ?_
              have hP9 := hP.sub (ws' := [(h0, .inr (9, [.ref m1, .ref m2, .ref m3, .int ik, .int wy, .int op, .int cl, .int cx0, .int cx1, .int cy0, .int cy1, .int ds, .ref m4, .ref m5, .ref m6, .ref m7, .ref m8, .ref m9, .int pn, .ref m10, .ref m11, .ref m12, .ref m13])), (m1, .inl (cI, 4, .inl gw)), (m2, .inl (cI, 4, .inl gh)), (m3, .inl (cI, 16384, .inl gd))]) [2, 3, 0, 1] rfl
              have hD9 := hD.sub (ws' := [(h0, .inr (9, [.ref m1, .ref m2, .ref m3, .int ik, .int wy, .int op, .int cl, .int cx0, .int cx1, .int cy0, .int cy1, .int ds, .ref m4, .ref m5, .ref m6, .ref m7, .ref m8, .ref m9, .int pn, .ref m10, .ref m11, .ref m12, .ref m13])), (m1, .inl (cI, 4, .inl gw)), (m2, .inl (cI, 4, .inl gh)), (m3, .inl (cI, 16384, .inl gd))]) [2, 3, 0, 1] (by decide) rfl
              have hK9 := hK.sub (tys' := [(cI, .int)]) [0] rfl
              refine hQ _ _ _ _ _ ?_
              exact W.iret (v := gh k.toNatClampNeg) hx hb hr (fun t ht hW => ⟨⟨gh k.toNatClampNeg, (), rfl, (show _ = lkP (fun t => gd (4096 * k.toNatClampNeg + t)) (gw k.toNatClampNeg) (gh k.toNatClampNeg) (nI 5) from (if_pos (by decide)).symm), ⟨by rw [ht]; exact hP9, va_K.moved hW.alike hK9, hD9⟩⟩, hS.F ht⟩) hS.2.2 dX9_look_43
          · skip
            exact absurd c_150 (by decide)
        · skip
          have hl : lv_has ls 8 [(0, .ref h0), (1, .int k), (2, .int 6)] := hl
          refine lv_iload_n hx hb dX9_look_20 rfl (lv_at hl 2 rfl) ?_
          refine lv_iconst (v := 4) hx hb dX9_look_21 (by decide) ?_
          refine lv_icmp_ne (tgt := 32) hx hb dX9_look_22 (by decide) (fun c_154 => ?_) (fun c_154 => ?_)
          · skip
            refine lv_iload_n hx hb dX9_look_32 rfl (lv_at hl 2 rfl) ?_
            refine lv_iconst (v := 5) hx hb dX9_look_33 (by decide) ?_
            refine lv_icmp_ne (tgt := 44) hx hb dX9_look_34 (by decide) (fun c_156 => ?_) (fun c_156 => ?_)
            · skip
              refine lv_iload_n hx hb dX9_look_44 rfl (lv_at hl 2 rfl) ?_
              refine lv_bipush (v := 6) hx hb dX9_look_45 (by decide) ?_
              refine lv_icmp_ge (tgt := 54) hx hb dX9_look_47 (by decide) (fun c_158 => ?_) (fun c_158 => ?_)
              · skip
                refine lv_iconst (v := 0) hx hb dX9_look_54 (by decide) ?_
                refine lv_istore_n (lv' := [(3, .int 0), (0, .ref h0), (1, .int k), (2, .int 6)]) hx hb dX9_look_55 rfl hl (by decide) rfl (fun ls hl => ?_)
                refine lv_iconst (v := 0) hx hb dX9_look_56 (by decide) ?_
                refine lv_istore (lv' := [(4, .int 0), (3, .int 0), (0, .ref h0), (1, .int k), (2, .int 6)]) hx hb dX9_look_57 hl (by decide) rfl (fun ls hl => ?_)
                have loop_160 : ∀ (n : Nat) (j : Nat) (x4 : Int32) (x3 : Int32) (H : Heap) (locs : List Loc) (ls : Array Slot), (j ≤ 64) → (64 + 1 ≤ j + n) → (x4 = nI j) → (j ≤ H9) → (x3 = smL (chF (fun t => gd (4096 * k.toNatClampNeg + t)) 24) W9 0 j) → va_P D vwCl [(m2, .inl (cI, 4, .inl gh)), (m3, .inl (cI, 16384, .inl gd)), (h0, .inr (9, [.ref m1, .ref m2, .ref m3, .int ik, .int wy, .int op, .int cl, .int cx0, .int cx1, .int cy0, .int cy1, .int ds, .ref m4, .ref m5, .ref m6, .ref m7, .ref m8, .ref m9, .int pn, .ref m10, .ref m11, .ref m12, .ref m13])), (m1, .inl (cI, 4, .inl gw))] H → va_D A [(m2, .inl (cI, 4, .inl gh)), (m3, .inl (cI, 16384, .inl gd)), (h0, .inr (9, [.ref m1, .ref m2, .ref m3, .int ik, .int wy, .int op, .int cl, .int cx0, .int cx1, .int cy0, .int cy1, .int ds, .ref m4, .ref m5, .ref m6, .ref m7, .ref m8, .ref m9, .int pn, .ref m10, .ref m11, .ref m12, .ref m13])), (m1, .inl (cI, 4, .inl gw))] → va_S A s.heap H locs → lv_has ls 8 [(4, .int x4), (3, .int x3), (0, .ref h0), (1, .int k), (2, .int 6)] → W p l e R s m ([.ref h0, .int k, .int (nI 6)] : List Value).toArray below meth c H locs 0 0 Q (F0 m 59 ls []) := by
                  intro n
                  induction n with
                  | zero =>
                    intro j x4 x3 H locs ls hi_j hm_j ex_j hjo eto hP hD hS hl
                    exact absurd (show False by omega) not_false
                  | succ n ih_161 =>
                    intro j x4 x3 H locs ls hi_j hm_j ex_j hjo eto hP hD hS hl
                    have hx_j : x4.toInt = (j : Int) := by rw [ex_j]; exact nI_toInt (by omega)
                    have hc_j : x4.toNatClampNeg = j := by rw [ex_j]; exact nI_clamp (by omega)
                    refine lv_iload hx hb dX9_look_59 (lv_at hl 0 rfl) ?_
                    refine lv_aload_n hx hb dX9_look_61 rfl (lv_at hl 2 rfl) ?_
                    refine va_get (D := D) (ci := 9) (v := .ref m2) (C := RX9) (T := TX9) (N := 23) hx hb hts hi_X9 hown hK hP 2 rfl rfl 1 (by decide) (hts _ bw_397) (fun _ h9 => h9) rfl dX9_look_62 ?_
                    refine lv_iload_n hx hb dX9_look_65 rfl (lv_at hl 3 rfl) ?_
                    refine va_iald hx hb hK hP 0 0 rfl rfl (vp_in_iff.mpr ⟨by omega, by omega⟩) dX9_look_66 ?_
                    refine lv_icmp_ge (tgt := 187) hx hb dX9_look_67 (by decide) (fun c_162 => ?_) (fun c_162 => ?_)
                    · skip
                      have f_163 : (gh k.toNatClampNeg).toInt ≤ (j : Int) := f_le rfl hx_j c_162
                      refine lv_iload_n hx hb dX9_look_187 rfl (lv_at hl 1 rfl) ?_
                      have hP9 := hP.sub (ws' := [(h0, .inr (9, [.ref m1, .ref m2, .ref m3, .int ik, .int wy, .int op, .int cl, .int cx0, .int cx1, .int cy0, .int cy1, .int ds, .ref m4, .ref m5, .ref m6, .ref m7, .ref m8, .ref m9, .int pn, .ref m10, .ref m11, .ref m12, .ref m13])), (m1, .inl (cI, 4, .inl gw)), (m2, .inl (cI, 4, .inl gh)), (m3, .inl (cI, 16384, .inl gd))]) [2, 3, 0, 1] rfl
                      have hD9 := hD.sub (ws' := [(h0, .inr (9, [.ref m1, .ref m2, .ref m3, .int ik, .int wy, .int op, .int cl, .int cx0, .int cx1, .int cy0, .int cy1, .int ds, .ref m4, .ref m5, .ref m6, .ref m7, .ref m8, .ref m9, .int pn, .ref m10, .ref m11, .ref m12, .ref m13])), (m1, .inl (cI, 4, .inl gw)), (m2, .inl (cI, 4, .inl gh)), (m3, .inl (cI, 16384, .inl gd))]) [2, 3, 0, 1] (by decide) rfl
                      have hK9 := hK.sub (tys' := [(cI, .int)]) [0] rfl
                      refine hQ _ _ _ _ _ ?_
                      exact W.iret (v := x3) hx hb hr (fun t ht hW => ⟨⟨x3, (), rfl, (show _ = lkP (fun t => gd (4096 * k.toNatClampNeg + t)) (gw k.toNatClampNeg) (gh k.toNatClampNeg) (nI 6) from (show _ = smL (chF (fun t => gd (4096 * k.toNatClampNeg + t)) 24) (gw k.toNatClampNeg).toNatClampNeg 0 (gh k.toNatClampNeg).toNatClampNeg from (by rw [eW9n, eH9n, ← show j = H9 by omega]; exact eto)).trans (if_pos (by decide)).symm), ⟨by rw [ht]; exact hP9, va_K.moved hW.alike hK9, hD9⟩⟩, hS.F ht⟩) hS.2.2 dX9_look_188
                    · skip
                      have f_163 : ¬ ((gh k.toNatClampNeg).toInt ≤ (j : Int)) := fn_le rfl hx_j c_162
                      refine lv_iconst (v := 0) hx hb dX9_look_70 (by decide) ?_
                      refine lv_istore (lv' := [(5, .int 0), (4, .int x4), (3, .int x3), (0, .ref h0), (1, .int k), (2, .int 6)]) hx hb dX9_look_71 hl (by decide) rfl (fun ls hl => ?_)
                      have loop_164 : ∀ (n : Nat) (i : Nat) (x5 : Int32) (z3 : Int32) (H : Heap) (locs : List Loc) (ls : Array Slot), (i ≤ 64) → (64 + 1 ≤ i + n) → (x5 = nI i) → (i ≤ W9) → (z3 = smR (chF (fun t => gd (4096 * k.toNatClampNeg + t)) 24) j (smL (chF (fun t => gd (4096 * k.toNatClampNeg + t)) 24) W9 0 j) i) → va_P D vwCl [(m2, .inl (cI, 4, .inl gh)), (m3, .inl (cI, 16384, .inl gd)), (h0, .inr (9, [.ref m1, .ref m2, .ref m3, .int ik, .int wy, .int op, .int cl, .int cx0, .int cx1, .int cy0, .int cy1, .int ds, .ref m4, .ref m5, .ref m6, .ref m7, .ref m8, .ref m9, .int pn, .ref m10, .ref m11, .ref m12, .ref m13])), (m1, .inl (cI, 4, .inl gw))] H → va_D A [(m2, .inl (cI, 4, .inl gh)), (m3, .inl (cI, 16384, .inl gd)), (h0, .inr (9, [.ref m1, .ref m2, .ref m3, .int ik, .int wy, .int op, .int cl, .int cx0, .int cx1, .int cy0, .int cy1, .int ds, .ref m4, .ref m5, .ref m6, .ref m7, .ref m8, .ref m9, .int pn, .ref m10, .ref m11, .ref m12, .ref m13])), (m1, .inl (cI, 4, .inl gw))] → va_S A s.heap H locs → lv_has ls 8 [(5, .int x5), (4, .int x4), (3, .int z3), (0, .ref h0), (1, .int k), (2, .int 6)] → W p l e R s m ([.ref h0, .int k, .int (nI 6)] : List Value).toArray below meth c H locs 0 0 Q (F0 m 73 ls []) := by
                        intro n
                        induction n with
                        | zero =>
                          intro i x5 z3 H locs ls hi_i hm_i ex_i hio eti hP hD hS hl
                          exact absurd (show False by omega) not_false
                        | succ n ih_165 =>
                          intro i x5 z3 H locs ls hi_i hm_i ex_i hio eti hP hD hS hl
                          have hx_i : x5.toInt = (i : Int) := by rw [ex_i]; exact nI_toInt (by omega)
                          have hc_i : x5.toNatClampNeg = i := by rw [ex_i]; exact nI_clamp (by omega)
                          refine lv_iload hx hb dX9_look_73 (lv_at hl 0 rfl) ?_
                          refine lv_aload_n hx hb dX9_look_75 rfl (lv_at hl 3 rfl) ?_
                          refine va_get (D := D) (ci := 9) (v := .ref m1) (C := RX9) (T := TX9) (N := 23) hx hb hts hi_X9 hown hK hP 2 rfl rfl 0 (by decide) (hts _ bw_396) (fun _ h9 => h9) rfl dX9_look_76 ?_
                          refine lv_iload_n hx hb dX9_look_79 rfl (lv_at hl 4 rfl) ?_
                          refine va_iald hx hb hK hP 3 0 rfl rfl (vp_in_iff.mpr ⟨by omega, by omega⟩) dX9_look_80 ?_
                          refine lv_icmp_ge (tgt := 181) hx hb dX9_look_81 (by decide) (fun c_166 => ?_) (fun c_166 => ?_)
                          · skip
                            have f_167 : (gw k.toNatClampNeg).toInt ≤ (i : Int) := f_le rfl hx_i c_166
                            obtain ⟨y_168, ey_168⟩ : ∃ y : Int32, y = x4 + 1 := ⟨_, rfl⟩
                            refine lv_iinc (v := y_168) (lv' := [(4, .int y_168), (5, .int x5), (3, .int z3), (0, .ref h0), (1, .int k), (2, .int 6)]) hx hb dX9_look_181 hl (k := 1) rfl (by rw [ey_168]; rfl) (by decide) rfl (fun ls hl => ?_)
                            refine lv_goto (tgt := 59) hx hb dX9_look_184 (by decide) ?_
                            exact ih_161 (j + 1) y_168 z3 _ _ _ (by omega) (by omega) (by rw [ey_168, ex_j]; exact nI_1 j) (by omega) (sm_nx eti (by omega)) (hP.sub (ws' := [(m2, .inl (cI, 4, .inl gh)), (m3, .inl (cI, 16384, .inl gd)), (h0, .inr (9, [.ref m1, .ref m2, .ref m3, .int ik, .int wy, .int op, .int cl, .int cx0, .int cx1, .int cy0, .int cy1, .int ds, .ref m4, .ref m5, .ref m6, .ref m7, .ref m8, .ref m9, .int pn, .ref m10, .ref m11, .ref m12, .ref m13])), (m1, .inl (cI, 4, .inl gw))]) [0, 1, 2, 3] rfl) (hD.sub (ws' := [(m2, .inl (cI, 4, .inl gh)), (m3, .inl (cI, 16384, .inl gd)), (h0, .inr (9, [.ref m1, .ref m2, .ref m3, .int ik, .int wy, .int op, .int cl, .int cx0, .int cx1, .int cy0, .int cy1, .int ds, .ref m4, .ref m5, .ref m6, .ref m7, .ref m8, .ref m9, .int pn, .ref m10, .ref m11, .ref m12, .ref m13])), (m1, .inl (cI, 4, .inl gw))]) [0, 1, 2, 3] (by decide) rfl) hS (lv_sub hl [0, 2, 3, 4, 5] rfl)
                          · skip
                            have f_167 : ¬ ((gw k.toNatClampNeg).toInt ≤ (i : Int)) := fn_le rfl hx_i c_166
                            refine lv_aload_n hx hb dX9_look_84 rfl (lv_at hl 3 rfl) ?_
                            refine va_get (D := D) (ci := 9) (v := .ref m3) (C := RX9) (T := TX9) (N := 23) hx hb hts hi_X9 hown hK hP 2 rfl rfl 2 (by decide) (hts _ bw_398) (fun _ h9 => h9) rfl dX9_look_85 ?_
                            refine lv_iload_n hx hb dX9_look_88 rfl (lv_at hl 4 rfl) ?_
                            refine lv_iload hx hb dX9_look_89 (lv_at hl 0 rfl) ?_
                            refine lv_iload hx hb dX9_look_91 (lv_at hl 1 rfl) ?_
                            have hPc := hP.sub (ws' := []) [] rfl
                            have hDc := hD.sub (ws' := []) [] (by decide) rfl
                            have hKc := hK.sub (tys' := []) [] rfl
                            have hFc := va_free (wc := []) hD hS hA [] rfl
                            refine va_calli (va_runS (As := [.int k, .int x5, .int x4]) (rest := [.ref m3]) ⟨hx, hb, hml, hown, hts⟩ (k_X9_spot l D H.size k x5 x4) (va_cwS 3 hts (gS bw_551 bw_421 bw_391 bw_420) rfl rfl rfl (by decide +kernel) ⟨(by rw [hR]; exact Nat.le_of_ble_eq_true rfl), (by rw [hR]; exact Nat.le_of_ble_eq_true rfl)⟩) ⟨cP_blind, cP_at hPc hKc hDc hN⟩ rfl rfl hl.1 rfl (lv_room (Nat.le_of_ble_eq_true rfl)) dX9_look_93 ⟨(by rw [hR]; exact Nat.le_of_ble_eq_true rfl), (by rw [hR]; exact Nat.le_of_ble_eq_true rfl)⟩) hS (fun q _ h => hFc q h) hFc (fun r_169 u9 t9 H1 locs ht hvm hr_169 hB hz1 hk1 hS => ?_)
                            try dsimp only at hr_169
                            have hP1 : va_P D vwCl [] H1 := vP_nil
                            have hD1 : va_D (va_A [] H.size) [] := vD_nil
                            obtain ⟨hP, hD⟩ := va_join (wr := [(m2, .inl (cI, 4, .inl gh)), (m3, .inl (cI, 16384, .inl gd)), (h0, .inr (9, [.ref m1, .ref m2, .ref m3, .int ik, .int wy, .int op, .int cl, .int cx0, .int cx1, .int cy0, .int cy1, .int ds, .ref m4, .ref m5, .ref m6, .ref m7, .ref m8, .ref m9, .int pn, .ref m10, .ref m11, .ref m12, .ref m13])), (m1, .inl (cI, 4, .inl gw))]) (w1 := []) hP hD [] [0, 1, 2, 3] rfl rfl (by decide) (by decide) hk1 hFc hP1 hD1
                            clear hz1 hk1 hFc hKc hDc hPc
                            generalize H1 = H at hP hS ⊢
                            have hP : va_P D vwCl [(m2, .inl (cI, 4, .inl gh)), (m3, .inl (cI, 16384, .inl gd)), (h0, .inr (9, [.ref m1, .ref m2, .ref m3, .int ik, .int wy, .int op, .int cl, .int cx0, .int cx1, .int cy0, .int cy1, .int ds, .ref m4, .ref m5, .ref m6, .ref m7, .ref m8, .ref m9, .int pn, .ref m10, .ref m11, .ref m12, .ref m13])), (m1, .inl (cI, 4, .inl gw))] H := hP
                            have hD : va_D A [(m2, .inl (cI, 4, .inl gh)), (m3, .inl (cI, 16384, .inl gd)), (h0, .inr (9, [.ref m1, .ref m2, .ref m3, .int ik, .int wy, .int op, .int cl, .int cx0, .int cx1, .int cy0, .int cy1, .int ds, .ref m4, .ref m5, .ref m6, .ref m7, .ref m8, .ref m9, .int pn, .ref m10, .ref m11, .ref m12, .ref m13])), (m1, .inl (cI, 4, .inl gw))] := hD
                            refine va_iald hx hb hK hP 1 0 rfl rfl (by rw [hr_169]; exact sp_in (by omega) (by omega) (by omega) (by omega) (by omega) (by omega)) dX9_look_96 ?_
                            refine my_fold (v := gd (4096 * k.toNatClampNeg + ixP (nI i) (nI j))) (congrArg gd (by rw [hr_169, sp_cl (by omega) (by omega) (by omega) (by omega) (by omega) (by omega), ex_i, ex_j])) ?_
                            refine lv_istore (lv' := [(6, .int (gd (4096 * k.toNatClampNeg + ixP (nI i) (nI j)))), (5, .int x5), (4, .int x4), (3, .int z3), (0, .ref h0), (1, .int k), (2, .int 6)]) hx hb dX9_look_97 hl (by decide) rfl (fun ls hl => ?_)
                            refine lv_iload_n hx hb dX9_look_99 rfl (lv_at hl 6 rfl) ?_
                            refine lv_iconst (v := 5) hx hb dX9_look_100 (by decide) ?_
                            refine lv_icmp_le (tgt := 119) hx hb dX9_look_101 (by decide) (fun c_170 => ?_) (fun c_170 => ?_)
                            · skip
                              exact absurd c_170 (by decide)
                            · skip
                              refine lv_iload_n hx hb dX9_look_104 rfl (lv_at hl 3 rfl) ?_
                              refine lv_iload hx hb dX9_look_105 (lv_at hl 0 rfl) ?_
                              refine lv_iload_n hx hb dX9_look_107 rfl (lv_at hl 6 rfl) ?_
                              refine lv_bipush (v := 6) hx hb dX9_look_108 (by decide) ?_
                              refine lv_isub hx hb dX9_look_110 ?_
                              refine my_fold (v := 0) (by decide) ?_
                              have hPc := hP.sub (ws' := []) [] rfl
                              have hDc := hD.sub (ws' := []) [] (by decide) rfl
                              have hKc := hK.sub (tys' := []) [] rfl
                              have hFc := va_free (wc := []) hD hS hA [] rfl
                              refine va_calli (va_runS (As := [.int (gd (4096 * k.toNatClampNeg + ixP (nI i) (nI j))), .int 0]) (rest := [.int z3]) ⟨hx, hb, hml, hown, hts⟩ (k_X9_channel_0 l D H.size (gd (4096 * k.toNatClampNeg + ixP (nI i) (nI j)))) (va_cwS 2 hts (gS bw_441 bw_438 bw_391 bw_437) rfl rfl rfl (by decide +kernel) ⟨(by rw [hR]; exact Nat.le_of_ble_eq_true rfl), (by rw [hR]; exact Nat.le_of_ble_eq_true rfl)⟩) ⟨cP_blind, cP_at hPc hKc hDc hN⟩ rfl rfl hl.1 rfl (lv_room (Nat.le_of_ble_eq_true rfl)) dX9_look_111 ⟨(by rw [hR]; exact Nat.le_of_ble_eq_true rfl), (by rw [hR]; exact Nat.le_of_ble_eq_true rfl)⟩) hS (fun q _ h => hFc q h) hFc (fun r_172 u9 t9 H1 locs ht hvm hr_172 hB hz1 hk1 hS => ?_)
                              try dsimp only at hr_172
                              have hP1 : va_P D vwCl [] H1 := vP_nil
                              have hD1 : va_D (va_A [] H.size) [] := vD_nil
                              obtain ⟨hP, hD⟩ := va_join (wr := [(m2, .inl (cI, 4, .inl gh)), (m3, .inl (cI, 16384, .inl gd)), (h0, .inr (9, [.ref m1, .ref m2, .ref m3, .int ik, .int wy, .int op, .int cl, .int cx0, .int cx1, .int cy0, .int cy1, .int ds, .ref m4, .ref m5, .ref m6, .ref m7, .ref m8, .ref m9, .int pn, .ref m10, .ref m11, .ref m12, .ref m13])), (m1, .inl (cI, 4, .inl gw))]) (w1 := []) hP hD [] [0, 1, 2, 3] rfl rfl (by decide) (by decide) hk1 hFc hP1 hD1
                              clear hz1 hk1 hFc hKc hDc hPc
                              generalize H1 = H at hP hS ⊢
                              have hP : va_P D vwCl [(m2, .inl (cI, 4, .inl gh)), (m3, .inl (cI, 16384, .inl gd)), (h0, .inr (9, [.ref m1, .ref m2, .ref m3, .int ik, .int wy, .int op, .int cl, .int cx0, .int cx1, .int cy0, .int cy1, .int ds, .ref m4, .ref m5, .ref m6, .ref m7, .ref m8, .ref m9, .int pn, .ref m10, .ref m11, .ref m12, .ref m13])), (m1, .inl (cI, 4, .inl gw))] H := hP
                              have hD : va_D A [(m2, .inl (cI, 4, .inl gh)), (m3, .inl (cI, 16384, .inl gd)), (h0, .inr (9, [.ref m1, .ref m2, .ref m3, .int ik, .int wy, .int op, .int cl, .int cx0, .int cx1, .int cy0, .int cy1, .int ds, .ref m4, .ref m5, .ref m6, .ref m7, .ref m8, .ref m9, .int pn, .ref m10, .ref m11, .ref m12, .ref m13])), (m1, .inl (cI, 4, .inl gw))] := hD
                              refine lv_iadd hx hb dX9_look_114 ?_
                              refine lv_topi (fun y_173 ey_173 => ?_)
                              refine lv_istore_n (lv' := [(3, .int y_173), (6, .int (gd (4096 * k.toNatClampNeg + ixP (nI i) (nI j)))), (5, .int x5), (4, .int x4), (0, .ref h0), (1, .int k), (2, .int 6)]) hx hb dX9_look_115 rfl hl (by decide) rfl (fun ls hl => ?_)
                              refine lv_goto (tgt := 175) hx hb dX9_look_116 (by decide) ?_
                              obtain ⟨y_174, ey_174⟩ : ∃ y : Int32, y = x5 + 1 := ⟨_, rfl⟩
                              refine lv_iinc (v := y_174) (lv' := [(5, .int y_174), (3, .int y_173), (6, .int (gd (4096 * k.toNatClampNeg + ixP (nI i) (nI j)))), (4, .int x4), (0, .ref h0), (1, .int k), (2, .int 6)]) hx hb dX9_look_175 hl (k := 2) rfl (by rw [ey_174]; rfl) (by decide) rfl (fun ls hl => ?_)
                              refine lv_goto (tgt := 73) hx hb dX9_look_178 (by decide) ?_
                              exact ih_165 (i + 1) y_174 y_173 _ _ _ (by omega) (by omega) (by rw [ey_174, ex_i]; exact nI_1 i) (by omega) (by rw [show smR (chF (fun t => gd (4096 * k.toNatClampNeg + t)) 24) j (smL (chF (fun t => gd (4096 * k.toNatClampNeg + t)) 24) W9 0 j) (i + 1) = (chF (fun t => gd (4096 * k.toNatClampNeg + t)) 24) j i z3 from congrArg ((chF (fun t => gd (4096 * k.toNatClampNeg + t)) 24) j i) eti.symm, ey_173, hr_172]; rfl) (hP.sub (ws' := [(m2, .inl (cI, 4, .inl gh)), (m3, .inl (cI, 16384, .inl gd)), (h0, .inr (9, [.ref m1, .ref m2, .ref m3, .int ik, .int wy, .int op, .int cl, .int cx0, .int cx1, .int cy0, .int cy1, .int ds, .ref m4, .ref m5, .ref m6, .ref m7, .ref m8, .ref m9, .int pn, .ref m10, .ref m11, .ref m12, .ref m13])), (m1, .inl (cI, 4, .inl gw))]) [0, 1, 2, 3] rfl) (hD.sub (ws' := [(m2, .inl (cI, 4, .inl gh)), (m3, .inl (cI, 16384, .inl gd)), (h0, .inr (9, [.ref m1, .ref m2, .ref m3, .int ik, .int wy, .int op, .int cl, .int cx0, .int cx1, .int cy0, .int cy1, .int ds, .ref m4, .ref m5, .ref m6, .ref m7, .ref m8, .ref m9, .int pn, .ref m10, .ref m11, .ref m12, .ref m13])), (m1, .inl (cI, 4, .inl gw))]) [0, 1, 2, 3] (by decide) rfl) hS (lv_sub hl [0, 3, 1, 4, 5, 6] rfl)
                      exact loop_164 (64 + 1) 0 0 x3 _ _ _ (by omega) (by omega) nI_0.symm (by omega) eto hP hD hS (lv_sub hl [0, 1, 2, 3, 4, 5] rfl)
                exact loop_160 (64 + 1) 0 0 0 _ _ _ (by omega) (by omega) nI_0.symm (by omega) rfl hP hD hS (lv_sub hl [0, 1, 2, 3, 4] rfl)
              · skip
                exact absurd c_158 (by decide)
            · skip
              exact absurd c_156 (by decide)
          · skip
            exact absurd c_154 (by decide)
        · skip
          have hl : lv_has ls 8 [(0, .ref h0), (1, .int k), (2, .int 7)] := hl
          refine lv_iload_n hx hb dX9_look_20 rfl (lv_at hl 2 rfl) ?_
          refine lv_iconst (v := 4) hx hb dX9_look_21 (by decide) ?_
          refine lv_icmp_ne (tgt := 32) hx hb dX9_look_22 (by decide) (fun c_175 => ?_) (fun c_175 => ?_)
          · skip
            refine lv_iload_n hx hb dX9_look_32 rfl (lv_at hl 2 rfl) ?_
            refine lv_iconst (v := 5) hx hb dX9_look_33 (by decide) ?_
            refine lv_icmp_ne (tgt := 44) hx hb dX9_look_34 (by decide) (fun c_177 => ?_) (fun c_177 => ?_)
            · skip
              refine lv_iload_n hx hb dX9_look_44 rfl (lv_at hl 2 rfl) ?_
              refine lv_bipush (v := 6) hx hb dX9_look_45 (by decide) ?_
              refine lv_icmp_ge (tgt := 54) hx hb dX9_look_47 (by decide) (fun c_179 => ?_) (fun c_179 => ?_)
              · skip
                refine lv_iconst (v := 0) hx hb dX9_look_54 (by decide) ?_
                refine lv_istore_n (lv' := [(3, .int 0), (0, .ref h0), (1, .int k), (2, .int 7)]) hx hb dX9_look_55 rfl hl (by decide) rfl (fun ls hl => ?_)
                refine lv_iconst (v := 0) hx hb dX9_look_56 (by decide) ?_
                refine lv_istore (lv' := [(4, .int 0), (3, .int 0), (0, .ref h0), (1, .int k), (2, .int 7)]) hx hb dX9_look_57 hl (by decide) rfl (fun ls hl => ?_)
                have loop_181 : ∀ (n : Nat) (j : Nat) (x4 : Int32) (x3 : Int32) (H : Heap) (locs : List Loc) (ls : Array Slot), (j ≤ 64) → (64 + 1 ≤ j + n) → (x4 = nI j) → (j ≤ H9) → (x3 = smL (chF (fun t => gd (4096 * k.toNatClampNeg + t)) 16) W9 0 j) → va_P D vwCl [(m2, .inl (cI, 4, .inl gh)), (m3, .inl (cI, 16384, .inl gd)), (h0, .inr (9, [.ref m1, .ref m2, .ref m3, .int ik, .int wy, .int op, .int cl, .int cx0, .int cx1, .int cy0, .int cy1, .int ds, .ref m4, .ref m5, .ref m6, .ref m7, .ref m8, .ref m9, .int pn, .ref m10, .ref m11, .ref m12, .ref m13])), (m1, .inl (cI, 4, .inl gw))] H → va_D A [(m2, .inl (cI, 4, .inl gh)), (m3, .inl (cI, 16384, .inl gd)), (h0, .inr (9, [.ref m1, .ref m2, .ref m3, .int ik, .int wy, .int op, .int cl, .int cx0, .int cx1, .int cy0, .int cy1, .int ds, .ref m4, .ref m5, .ref m6, .ref m7, .ref m8, .ref m9, .int pn, .ref m10, .ref m11, .ref m12, .ref m13])), (m1, .inl (cI, 4, .inl gw))] → va_S A s.heap H locs → lv_has ls 8 [(4, .int x4), (3, .int x3), (0, .ref h0), (1, .int k), (2, .int 7)] → W p l e R s m ([.ref h0, .int k, .int (nI 7)] : List Value).toArray below meth c H locs 0 0 Q (F0 m 59 ls []) := by
                  intro n
                  induction n with
                  | zero =>
                    intro j x4 x3 H locs ls hi_j hm_j ex_j hjo eto hP hD hS hl
                    exact absurd (show False by omega) not_false
                  | succ n ih_182 =>
                    intro j x4 x3 H locs ls hi_j hm_j ex_j hjo eto hP hD hS hl
                    have hx_j : x4.toInt = (j : Int) := by rw [ex_j]; exact nI_toInt (by omega)
                    have hc_j : x4.toNatClampNeg = j := by rw [ex_j]; exact nI_clamp (by omega)
                    refine lv_iload hx hb dX9_look_59 (lv_at hl 0 rfl) ?_
                    refine lv_aload_n hx hb dX9_look_61 rfl (lv_at hl 2 rfl) ?_
                    refine va_get (D := D) (ci := 9) (v := .ref m2) (C := RX9) (T := TX9) (N := 23) hx hb hts hi_X9 hown hK hP 2 rfl rfl 1 (by decide) (hts _ bw_397) (fun _ h9 => h9) rfl dX9_look_62 ?_
                    refine lv_iload_n hx hb dX9_look_65 rfl (lv_at hl 3 rfl) ?_
                    refine va_iald hx hb hK hP 0 0 rfl rfl (vp_in_iff.mpr ⟨by omega, by omega⟩) dX9_look_66 ?_
                    refine lv_icmp_ge (tgt := 187) hx hb dX9_look_67 (by decide) (fun c_183 => ?_) (fun c_183 => ?_)
                    · skip
                      have f_184 : (gh k.toNatClampNeg).toInt ≤ (j : Int) := f_le rfl hx_j c_183
                      refine lv_iload_n hx hb dX9_look_187 rfl (lv_at hl 1 rfl) ?_
                      have hP9 := hP.sub (ws' := [(h0, .inr (9, [.ref m1, .ref m2, .ref m3, .int ik, .int wy, .int op, .int cl, .int cx0, .int cx1, .int cy0, .int cy1, .int ds, .ref m4, .ref m5, .ref m6, .ref m7, .ref m8, .ref m9, .int pn, .ref m10, .ref m11, .ref m12, .ref m13])), (m1, .inl (cI, 4, .inl gw)), (m2, .inl (cI, 4, .inl gh)), (m3, .inl (cI, 16384, .inl gd))]) [2, 3, 0, 1] rfl
                      have hD9 := hD.sub (ws' := [(h0, .inr (9, [.ref m1, .ref m2, .ref m3, .int ik, .int wy, .int op, .int cl, .int cx0, .int cx1, .int cy0, .int cy1, .int ds, .ref m4, .ref m5, .ref m6, .ref m7, .ref m8, .ref m9, .int pn, .ref m10, .ref m11, .ref m12, .ref m13])), (m1, .inl (cI, 4, .inl gw)), (m2, .inl (cI, 4, .inl gh)), (m3, .inl (cI, 16384, .inl gd))]) [2, 3, 0, 1] (by decide) rfl
                      have hK9 := hK.sub (tys' := [(cI, .int)]) [0] rfl
                      refine hQ _ _ _ _ _ ?_
                      exact W.iret (v := x3) hx hb hr (fun t ht hW => ⟨⟨x3, (), rfl, (show _ = lkP (fun t => gd (4096 * k.toNatClampNeg + t)) (gw k.toNatClampNeg) (gh k.toNatClampNeg) (nI 7) from (show _ = smL (chF (fun t => gd (4096 * k.toNatClampNeg + t)) 16) (gw k.toNatClampNeg).toNatClampNeg 0 (gh k.toNatClampNeg).toNatClampNeg from (by rw [eW9n, eH9n, ← show j = H9 by omega]; exact eto)).trans (if_pos (by decide)).symm), ⟨by rw [ht]; exact hP9, va_K.moved hW.alike hK9, hD9⟩⟩, hS.F ht⟩) hS.2.2 dX9_look_188
                    · skip
                      have f_184 : ¬ ((gh k.toNatClampNeg).toInt ≤ (j : Int)) := fn_le rfl hx_j c_183
                      refine lv_iconst (v := 0) hx hb dX9_look_70 (by decide) ?_
                      refine lv_istore (lv' := [(5, .int 0), (4, .int x4), (3, .int x3), (0, .ref h0), (1, .int k), (2, .int 7)]) hx hb dX9_look_71 hl (by decide) rfl (fun ls hl => ?_)
                      have loop_185 : ∀ (n : Nat) (i : Nat) (x5 : Int32) (z3 : Int32) (H : Heap) (locs : List Loc) (ls : Array Slot), (i ≤ 64) → (64 + 1 ≤ i + n) → (x5 = nI i) → (i ≤ W9) → (z3 = smR (chF (fun t => gd (4096 * k.toNatClampNeg + t)) 16) j (smL (chF (fun t => gd (4096 * k.toNatClampNeg + t)) 16) W9 0 j) i) → va_P D vwCl [(m2, .inl (cI, 4, .inl gh)), (m3, .inl (cI, 16384, .inl gd)), (h0, .inr (9, [.ref m1, .ref m2, .ref m3, .int ik, .int wy, .int op, .int cl, .int cx0, .int cx1, .int cy0, .int cy1, .int ds, .ref m4, .ref m5, .ref m6, .ref m7, .ref m8, .ref m9, .int pn, .ref m10, .ref m11, .ref m12, .ref m13])), (m1, .inl (cI, 4, .inl gw))] H → va_D A [(m2, .inl (cI, 4, .inl gh)), (m3, .inl (cI, 16384, .inl gd)), (h0, .inr (9, [.ref m1, .ref m2, .ref m3, .int ik, .int wy, .int op, .int cl, .int cx0, .int cx1, .int cy0, .int cy1, .int ds, .ref m4, .ref m5, .ref m6, .ref m7, .ref m8, .ref m9, .int pn, .ref m10, .ref m11, .ref m12, .ref m13])), (m1, .inl (cI, 4, .inl gw))] → va_S A s.heap H locs → lv_has ls 8 [(5, .int x5), (4, .int x4), (3, .int z3), (0, .ref h0), (1, .int k), (2, .int 7)] → W p l e R s m ([.ref h0, .int k, .int (nI 7)] : List Value).toArray below meth c H locs 0 0 Q (F0 m 73 ls []) := by
                        intro n
                        induction n with
                        | zero =>
                          intro i x5 z3 H locs ls hi_i hm_i ex_i hio eti hP hD hS hl
                          exact absurd (show False by omega) not_false
                        | succ n ih_186 =>
                          intro i x5 z3 H locs ls hi_i hm_i ex_i hio eti hP hD hS hl
                          have hx_i : x5.toInt = (i : Int) := by rw [ex_i]; exact nI_toInt (by omega)
                          have hc_i : x5.toNatClampNeg = i := by rw [ex_i]; exact nI_clamp (by omega)
                          refine lv_iload hx hb dX9_look_73 (lv_at hl 0 rfl) ?_
                          refine lv_aload_n hx hb dX9_look_75 rfl (lv_at hl 3 rfl) ?_
                          refine va_get (D := D) (ci := 9) (v := .ref m1) (C := RX9) (T := TX9) (N := 23) hx hb hts hi_X9 hown hK hP 2 rfl rfl 0 (by decide) (hts _ bw_396) (fun _ h9 => h9) rfl dX9_look_76 ?_
                          refine lv_iload_n hx hb dX9_look_79 rfl (lv_at hl 4 rfl) ?_
                          refine va_iald hx hb hK hP 3 0 rfl rfl (vp_in_iff.mpr ⟨by omega, by omega⟩) dX9_look_80 ?_
                          refine lv_icmp_ge (tgt := 181) hx hb dX9_look_81 (by decide) (fun c_187 => ?_) (fun c_187 => ?_)
                          · skip
                            have f_188 : (gw k.toNatClampNeg).toInt ≤ (i : Int) := f_le rfl hx_i c_187
                            obtain ⟨y_189, ey_189⟩ : ∃ y : Int32, y = x4 + 1 := ⟨_, rfl⟩
                            refine lv_iinc (v := y_189) (lv' := [(4, .int y_189), (5, .int x5), (3, .int z3), (0, .ref h0), (1, .int k), (2, .int 7)]) hx hb dX9_look_181 hl (k := 1) rfl (by rw [ey_189]; rfl) (by decide) rfl (fun ls hl => ?_)
                            refine lv_goto (tgt := 59) hx hb dX9_look_184 (by decide) ?_
                            exact ih_182 (j + 1) y_189 z3 _ _ _ (by omega) (by omega) (by rw [ey_189, ex_j]; exact nI_1 j) (by omega) (sm_nx eti (by omega)) (hP.sub (ws' := [(m2, .inl (cI, 4, .inl gh)), (m3, .inl (cI, 16384, .inl gd)), (h0, .inr (9, [.ref m1, .ref m2, .ref m3, .int ik, .int wy, .int op, .int cl, .int cx0, .int cx1, .int cy0, .int cy1, .int ds, .ref m4, .ref m5, .ref m6, .ref m7, .ref m8, .ref m9, .int pn, .ref m10, .ref m11, .ref m12, .ref m13])), (m1, .inl (cI, 4, .inl gw))]) [0, 1, 2, 3] rfl) (hD.sub (ws' := [(m2, .inl (cI, 4, .inl gh)), (m3, .inl (cI, 16384, .inl gd)), (h0, .inr (9, [.ref m1, .ref m2, .ref m3, .int ik, .int wy, .int op, .int cl, .int cx0, .int cx1, .int cy0, .int cy1, .int ds, .ref m4, .ref m5, .ref m6, .ref m7, .ref m8, .ref m9, .int pn, .ref m10, .ref m11, .ref m12, .ref m13])), (m1, .inl (cI, 4, .inl gw))]) [0, 1, 2, 3] (by decide) rfl) hS (lv_sub hl [0, 2, 3, 4, 5] rfl)
                          · skip
                            have f_188 : ¬ ((gw k.toNatClampNeg).toInt ≤ (i : Int)) := fn_le rfl hx_i c_187
                            refine lv_aload_n hx hb dX9_look_84 rfl (lv_at hl 3 rfl) ?_
                            refine va_get (D := D) (ci := 9) (v := .ref m3) (C := RX9) (T := TX9) (N := 23) hx hb hts hi_X9 hown hK hP 2 rfl rfl 2 (by decide) (hts _ bw_398) (fun _ h9 => h9) rfl dX9_look_85 ?_
                            refine lv_iload_n hx hb dX9_look_88 rfl (lv_at hl 4 rfl) ?_
                            refine lv_iload hx hb dX9_look_89 (lv_at hl 0 rfl) ?_
                            refine lv_iload hx hb dX9_look_91 (lv_at hl 1 rfl) ?_
                            have hPc := hP.sub (ws' := []) [] rfl
                            have hDc := hD.sub (ws' := []) [] (by decide) rfl
                            have hKc := hK.sub (tys' := []) [] rfl
                            have hFc := va_free (wc := []) hD hS hA [] rfl
                            refine va_calli (va_runS (As := [.int k, .int x5, .int x4]) (rest := [.ref m3]) ⟨hx, hb, hml, hown, hts⟩ (k_X9_spot l D H.size k x5 x4) (va_cwS 3 hts (gS bw_551 bw_421 bw_391 bw_420) rfl rfl rfl (by decide +kernel) ⟨(by rw [hR]; exact Nat.le_of_ble_eq_true rfl), (by rw [hR]; exact Nat.le_of_ble_eq_true rfl)⟩) ⟨cP_blind, cP_at hPc hKc hDc hN⟩ rfl rfl hl.1 rfl (lv_room (Nat.le_of_ble_eq_true rfl)) dX9_look_93 ⟨(by rw [hR]; exact Nat.le_of_ble_eq_true rfl), (by rw [hR]; exact Nat.le_of_ble_eq_true rfl)⟩) hS (fun q _ h => hFc q h) hFc (fun r_190 u9 t9 H1 locs ht hvm hr_190 hB hz1 hk1 hS => ?_)
                            try dsimp only at hr_190
                            have hP1 : va_P D vwCl [] H1 := vP_nil
                            have hD1 : va_D (va_A [] H.size) [] := vD_nil
                            obtain ⟨hP, hD⟩ := va_join (wr := [(m2, .inl (cI, 4, .inl gh)), (m3, .inl (cI, 16384, .inl gd)), (h0, .inr (9, [.ref m1, .ref m2, .ref m3, .int ik, .int wy, .int op, .int cl, .int cx0, .int cx1, .int cy0, .int cy1, .int ds, .ref m4, .ref m5, .ref m6, .ref m7, .ref m8, .ref m9, .int pn, .ref m10, .ref m11, .ref m12, .ref m13])), (m1, .inl (cI, 4, .inl gw))]) (w1 := []) hP hD [] [0, 1, 2, 3] rfl rfl (by decide) (by decide) hk1 hFc hP1 hD1
                            clear hz1 hk1 hFc hKc hDc hPc
                            generalize H1 = H at hP hS ⊢
                            have hP : va_P D vwCl [(m2, .inl (cI, 4, .inl gh)), (m3, .inl (cI, 16384, .inl gd)), (h0, .inr (9, [.ref m1, .ref m2, .ref m3, .int ik, .int wy, .int op, .int cl, .int cx0, .int cx1, .int cy0, .int cy1, .int ds, .ref m4, .ref m5, .ref m6, .ref m7, .ref m8, .ref m9, .int pn, .ref m10, .ref m11, .ref m12, .ref m13])), (m1, .inl (cI, 4, .inl gw))] H := hP
                            have hD : va_D A [(m2, .inl (cI, 4, .inl gh)), (m3, .inl (cI, 16384, .inl gd)), (h0, .inr (9, [.ref m1, .ref m2, .ref m3, .int ik, .int wy, .int op, .int cl, .int cx0, .int cx1, .int cy0, .int cy1, .int ds, .ref m4, .ref m5, .ref m6, .ref m7, .ref m8, .ref m9, .int pn, .ref m10, .ref m11, .ref m12, .ref m13])), (m1, .inl (cI, 4, .inl gw))] := hD
                            refine va_iald hx hb hK hP 1 0 rfl rfl (by rw [hr_190]; exact sp_in (by omega) (by omega) (by omega) (by omega) (by omega) (by omega)) dX9_look_96 ?_
                            refine my_fold (v := gd (4096 * k.toNatClampNeg + ixP (nI i) (nI j))) (congrArg gd (by rw [hr_190, sp_cl (by omega) (by omega) (by omega) (by omega) (by omega) (by omega), ex_i, ex_j])) ?_
                            refine lv_istore (lv' := [(6, .int (gd (4096 * k.toNatClampNeg + ixP (nI i) (nI j)))), (5, .int x5), (4, .int x4), (3, .int z3), (0, .ref h0), (1, .int k), (2, .int 7)]) hx hb dX9_look_97 hl (by decide) rfl (fun ls hl => ?_)
                            refine lv_iload_n hx hb dX9_look_99 rfl (lv_at hl 6 rfl) ?_
                            refine lv_iconst (v := 5) hx hb dX9_look_100 (by decide) ?_
                            refine lv_icmp_le (tgt := 119) hx hb dX9_look_101 (by decide) (fun c_191 => ?_) (fun c_191 => ?_)
                            · skip
                              exact absurd c_191 (by decide)
                            · skip
                              refine lv_iload_n hx hb dX9_look_104 rfl (lv_at hl 3 rfl) ?_
                              refine lv_iload hx hb dX9_look_105 (lv_at hl 0 rfl) ?_
                              refine lv_iload_n hx hb dX9_look_107 rfl (lv_at hl 6 rfl) ?_
                              refine lv_bipush (v := 6) hx hb dX9_look_108 (by decide) ?_
                              refine lv_isub hx hb dX9_look_110 ?_
                              refine my_fold (v := 1) (by decide) ?_
                              have hPc := hP.sub (ws' := []) [] rfl
                              have hDc := hD.sub (ws' := []) [] (by decide) rfl
                              have hKc := hK.sub (tys' := []) [] rfl
                              have hFc := va_free (wc := []) hD hS hA [] rfl
                              refine va_calli (va_runS (As := [.int (gd (4096 * k.toNatClampNeg + ixP (nI i) (nI j))), .int 1]) (rest := [.int z3]) ⟨hx, hb, hml, hown, hts⟩ (k_X9_channel_1 l D H.size (gd (4096 * k.toNatClampNeg + ixP (nI i) (nI j)))) (va_cwS 2 hts (gS bw_441 bw_438 bw_391 bw_437) rfl rfl rfl (by decide +kernel) ⟨(by rw [hR]; exact Nat.le_of_ble_eq_true rfl), (by rw [hR]; exact Nat.le_of_ble_eq_true rfl)⟩) ⟨cP_blind, cP_at hPc hKc hDc hN⟩ rfl rfl hl.1 rfl (lv_room (Nat.le_of_ble_eq_true rfl)) dX9_look_111 ⟨(by rw [hR]; exact Nat.le_of_ble_eq_true rfl), (by rw [hR]; exact Nat.le_of_ble_eq_true rfl)⟩) hS (fun q _ h => hFc q h) hFc (fun r_193 u9 t9 H1 locs ht hvm hr_193 hB hz1 hk1 hS => ?_)
                              try dsimp only at hr_193
                              have hP1 : va_P D vwCl [] H1 := vP_nil
                              have hD1 : va_D (va_A [] H.size) [] := vD_nil
                              obtain ⟨hP, hD⟩ := va_join (wr := [(m2, .inl (cI, 4, .inl gh)), (m3, .inl (cI, 16384, .inl gd)), (h0, .inr (9, [.ref m1, .ref m2, .ref m3, .int ik, .int wy, .int op, .int cl, .int cx0, .int cx1, .int cy0, .int cy1, .int ds, .ref m4, .ref m5, .ref m6, .ref m7, .ref m8, .ref m9, .int pn, .ref m10, .ref m11, .ref m12, .ref m13])), (m1, .inl (cI, 4, .inl gw))]) (w1 := []) hP hD [] [0, 1, 2, 3] rfl rfl (by decide) (by decide) hk1 hFc hP1 hD1
                              clear hz1 hk1 hFc hKc hDc hPc
                              generalize H1 = H at hP hS ⊢
                              have hP : va_P D vwCl [(m2, .inl (cI, 4, .inl gh)), (m3, .inl (cI, 16384, .inl gd)), (h0, .inr (9, [.ref m1, .ref m2, .ref m3, .int ik, .int wy, .int op, .int cl, .int cx0, .int cx1, .int cy0, .int cy1, .int ds, .ref m4, .ref m5, .ref m6, .ref m7, .ref m8, .ref m9, .int pn, .ref m10, .ref m11, .ref m12, .ref m13])), (m1, .inl (cI, 4, .inl gw))] H := hP
                              have hD : va_D A [(m2, .inl (cI, 4, .inl gh)), (m3, .inl (cI, 16384, .inl gd)), (h0, .inr (9, [.ref m1, .ref m2, .ref m3, .int ik, .int wy, .int op, .int cl, .int cx0, .int cx1, .int cy0, .int cy1, .int ds, .ref m4, .ref m5, .ref m6, .ref m7, .ref m8, .ref m9, .int pn, .ref m10, .ref m11, .ref m12, .ref m13])), (m1, .inl (cI, 4, .inl gw))] := hD
                              refine lv_iadd hx hb dX9_look_114 ?_
                              refine lv_topi (fun y_194 ey_194 => ?_)
                              refine lv_istore_n (lv' := [(3, .int y_194), (6, .int (gd (4096 * k.toNatClampNeg + ixP (nI i) (nI j)))), (5, .int x5), (4, .int x4), (0, .ref h0), (1, .int k), (2, .int 7)]) hx hb dX9_look_115 rfl hl (by decide) rfl (fun ls hl => ?_)
                              refine lv_goto (tgt := 175) hx hb dX9_look_116 (by decide) ?_
                              obtain ⟨y_195, ey_195⟩ : ∃ y : Int32, y = x5 + 1 := ⟨_, rfl⟩
                              refine lv_iinc (v := y_195) (lv' := [(5, .int y_195), (3, .int y_194), (6, .int (gd (4096 * k.toNatClampNeg + ixP (nI i) (nI j)))), (4, .int x4), (0, .ref h0), (1, .int k), (2, .int 7)]) hx hb dX9_look_175 hl (k := 2) rfl (by rw [ey_195]; rfl) (by decide) rfl (fun ls hl => ?_)
                              refine lv_goto (tgt := 73) hx hb dX9_look_178 (by decide) ?_
                              exact ih_186 (i + 1) y_195 y_194 _ _ _ (by omega) (by omega) (by rw [ey_195, ex_i]; exact nI_1 i) (by omega) (by rw [show smR (chF (fun t => gd (4096 * k.toNatClampNeg + t)) 16) j (smL (chF (fun t => gd (4096 * k.toNatClampNeg + t)) 16) W9 0 j) (i + 1) = (chF (fun t => gd (4096 * k.toNatClampNeg + t)) 16) j i z3 from congrArg ((chF (fun t => gd (4096 * k.toNatClampNeg + t)) 16) j i) eti.symm, ey_194, hr_193]; rfl) (hP.sub (ws' := [(m2, .inl (cI, 4, .inl gh)), (m3, .inl (cI, 16384, .inl gd)), (h0, .inr (9, [.ref m1, .ref m2, .ref m3, .int ik, .int wy, .int op, .int cl, .int cx0, .int cx1, .int cy0, .int cy1, .int ds, .ref m4, .ref m5, .ref m6, .ref m7, .ref m8, .ref m9, .int pn, .ref m10, .ref m11, .ref m12, .ref m13])), (m1, .inl (cI, 4, .inl gw))]) [0, 1, 2, 3] rfl) (hD.sub (ws' := [(m2, .inl (cI, 4, .inl gh)), (m3, .inl (cI, 16384, .inl gd)), (h0, .inr (9, [.ref m1, .ref m2, .ref m3, .int ik, .int wy, .int op, .int cl, .int cx0, .int cx1, .int cy0, .int cy1, .int ds, .ref m4, .ref m5, .ref m6, .ref m7, .ref m8, .ref m9, .int pn, .ref m10, .ref m11, .ref m12, .ref m13])), (m1, .inl (cI, 4, .inl gw))]) [0, 1, 2, 3] (by decide) rfl) hS (lv_sub hl [0, 3, 1, 4, 5, 6] rfl)
                      exact loop_185 (64 + 1) 0 0 x3 _ _ _ (by omega) (by omega) nI_0.symm (by omega) eto hP hD hS (lv_sub hl [0, 1, 2, 3, 4, 5] rfl)
                exact loop_181 (64 + 1) 0 0 0 _ _ _ (by omega) (by omega) nI_0.symm (by omega) rfl hP hD hS (lv_sub hl [0, 1, 2, 3, 4] rfl)
              · skip
                exact absurd c_179 (by decide)
            · skip
              exact absurd c_177 (by decide)
          · skip
            exact absurd c_175 (by decide)
        · skip
          have hl : lv_has ls 8 [(0, .ref h0), (1, .int k), (2, .int 8)] := hl
          refine lv_iload_n hx hb dX9_look_20 rfl (lv_at hl 2 rfl) ?_
          refine lv_iconst (v := 4) hx hb dX9_look_21 (by decide) ?_
          refine lv_icmp_ne (tgt := 32) hx hb dX9_look_22 (by decide) (fun c_196 => ?_) (fun c_196 => ?_)
          · skip
            refine lv_iload_n hx hb dX9_look_32 rfl (lv_at hl 2 rfl) ?_
            refine lv_iconst (v := 5) hx hb dX9_look_33 (by decide) ?_
            refine lv_icmp_ne (tgt := 44) hx hb dX9_look_34 (by decide) (fun c_198 => ?_) (fun c_198 => ?_)
            · skip
              refine lv_iload_n hx hb dX9_look_44 rfl (lv_at hl 2 rfl) ?_
              refine lv_bipush (v := 6) hx hb dX9_look_45 (by decide) ?_
              refine lv_icmp_ge (tgt := 54) hx hb dX9_look_47 (by decide) (fun c_200 => ?_) (fun c_200 => ?_)
              · skip
                refine lv_iconst (v := 0) hx hb dX9_look_54 (by decide) ?_
                refine lv_istore_n (lv' := [(3, .int 0), (0, .ref h0), (1, .int k), (2, .int 8)]) hx hb dX9_look_55 rfl hl (by decide) rfl (fun ls hl => ?_)
                refine lv_iconst (v := 0) hx hb dX9_look_56 (by decide) ?_
                refine lv_istore (lv' := [(4, .int 0), (3, .int 0), (0, .ref h0), (1, .int k), (2, .int 8)]) hx hb dX9_look_57 hl (by decide) rfl (fun ls hl => ?_)
                have loop_202 : ∀ (n : Nat) (j : Nat) (x4 : Int32) (x3 : Int32) (H : Heap) (locs : List Loc) (ls : Array Slot), (j ≤ 64) → (64 + 1 ≤ j + n) → (x4 = nI j) → (j ≤ H9) → (x3 = smL (chF (fun t => gd (4096 * k.toNatClampNeg + t)) 8) W9 0 j) → va_P D vwCl [(m2, .inl (cI, 4, .inl gh)), (m3, .inl (cI, 16384, .inl gd)), (h0, .inr (9, [.ref m1, .ref m2, .ref m3, .int ik, .int wy, .int op, .int cl, .int cx0, .int cx1, .int cy0, .int cy1, .int ds, .ref m4, .ref m5, .ref m6, .ref m7, .ref m8, .ref m9, .int pn, .ref m10, .ref m11, .ref m12, .ref m13])), (m1, .inl (cI, 4, .inl gw))] H → va_D A [(m2, .inl (cI, 4, .inl gh)), (m3, .inl (cI, 16384, .inl gd)), (h0, .inr (9, [.ref m1, .ref m2, .ref m3, .int ik, .int wy, .int op, .int cl, .int cx0, .int cx1, .int cy0, .int cy1, .int ds, .ref m4, .ref m5, .ref m6, .ref m7, .ref m8, .ref m9, .int pn, .ref m10, .ref m11, .ref m12, .ref m13])), (m1, .inl (cI, 4, .inl gw))] → va_S A s.heap H locs → lv_has ls 8 [(4, .int x4), (3, .int x3), (0, .ref h0), (1, .int k), (2, .int 8)] → W p l e R s m ([.ref h0, .int k, .int (nI 8)] : List Value).toArray below meth c H locs 0 0 Q (F0 m 59 ls []) := by
                  intro n
                  induction n with
                  | zero =>
                    intro j x4 x3 H locs ls hi_j hm_j ex_j hjo eto hP hD hS hl
                    exact absurd (show False by omega) not_false
                  | succ n ih_203 =>
                    intro j x4 x3 H locs ls hi_j hm_j ex_j hjo eto hP hD hS hl
                    have hx_j : x4.toInt = (j : Int) := by rw [ex_j]; exact nI_toInt (by omega)
                    have hc_j : x4.toNatClampNeg = j := by rw [ex_j]; exact nI_clamp (by omega)
                    refine lv_iload hx hb dX9_look_59 (lv_at hl 0 rfl) ?_
                    refine lv_aload_n hx hb dX9_look_61 rfl (lv_at hl 2 rfl) ?_
                    refine va_get (D := D) (ci := 9) (v := .ref m2) (C := RX9) (T := TX9) (N := 23) hx hb hts hi_X9 hown hK hP 2 rfl rfl 1 (by decide) (hts _ bw_397) (fun _ h9 => h9) rfl dX9_look_62 ?_
                    refine lv_iload_n hx hb dX9_look_65 rfl (lv_at hl 3 rfl) ?_
                    refine va_iald hx hb hK hP 0 0 rfl rfl (vp_in_iff.mpr ⟨by omega, by omega⟩) dX9_look_66 ?_
                    refine lv_icmp_ge (tgt := 187) hx hb dX9_look_67 (by decide) (fun c_204 => ?_) (fun c_204 => ?_)
                    · skip
                      have f_205 : (gh k.toNatClampNeg).toInt ≤ (j : Int) := f_le rfl hx_j c_204
                      refine lv_iload_n hx hb dX9_look_187 rfl (lv_at hl 1 rfl) ?_
                      have hP9 := hP.sub (ws' := [(h0, .inr (9, [.ref m1, .ref m2, .ref m3, .int ik, .int wy, .int op, .int cl, .int cx0, .int cx1, .int cy0, .int cy1, .int ds, .ref m4, .ref m5, .ref m6, .ref m7, .ref m8, .ref m9, .int pn, .ref m10, .ref m11, .ref m12, .ref m13])), (m1, .inl (cI, 4, .inl gw)), (m2, .inl (cI, 4, .inl gh)), (m3, .inl (cI, 16384, .inl gd))]) [2, 3, 0, 1] rfl
                      have hD9 := hD.sub (ws' := [(h0, .inr (9, [.ref m1, .ref m2, .ref m3, .int ik, .int wy, .int op, .int cl, .int cx0, .int cx1, .int cy0, .int cy1, .int ds, .ref m4, .ref m5, .ref m6, .ref m7, .ref m8, .ref m9, .int pn, .ref m10, .ref m11, .ref m12, .ref m13])), (m1, .inl (cI, 4, .inl gw)), (m2, .inl (cI, 4, .inl gh)), (m3, .inl (cI, 16384, .inl gd))]) [2, 3, 0, 1] (by decide) rfl
                      have hK9 := hK.sub (tys' := [(cI, .int)]) [0] rfl
                      refine hQ _ _ _ _ _ ?_
                      exact W.iret (v := x3) hx hb hr (fun t ht hW => ⟨⟨x3, (), rfl, (show _ = lkP (fun t => gd (4096 * k.toNatClampNeg + t)) (gw k.toNatClampNeg) (gh k.toNatClampNeg) (nI 8) from (show _ = smL (chF (fun t => gd (4096 * k.toNatClampNeg + t)) 8) (gw k.toNatClampNeg).toNatClampNeg 0 (gh k.toNatClampNeg).toNatClampNeg from (by rw [eW9n, eH9n, ← show j = H9 by omega]; exact eto)).trans (if_pos (by decide)).symm), ⟨by rw [ht]; exact hP9, va_K.moved hW.alike hK9, hD9⟩⟩, hS.F ht⟩) hS.2.2 dX9_look_188
                    · skip
                      have f_205 : ¬ ((gh k.toNatClampNeg).toInt ≤ (j : Int)) := fn_le rfl hx_j c_204
                      refine lv_iconst (v := 0) hx hb dX9_look_70 (by decide) ?_
                      refine lv_istore (lv' := [(5, .int 0), (4, .int x4), (3, .int x3), (0, .ref h0), (1, .int k), (2, .int 8)]) hx hb dX9_look_71 hl (by decide) rfl (fun ls hl => ?_)
                      have loop_206 : ∀ (n : Nat) (i : Nat) (x5 : Int32) (z3 : Int32) (H : Heap) (locs : List Loc) (ls : Array Slot), (i ≤ 64) → (64 + 1 ≤ i + n) → (x5 = nI i) → (i ≤ W9) → (z3 = smR (chF (fun t => gd (4096 * k.toNatClampNeg + t)) 8) j (smL (chF (fun t => gd (4096 * k.toNatClampNeg + t)) 8) W9 0 j) i) → va_P D vwCl [(m2, .inl (cI, 4, .inl gh)), (m3, .inl (cI, 16384, .inl gd)), (h0, .inr (9, [.ref m1, .ref m2, .ref m3, .int ik, .int wy, .int op, .int cl, .int cx0, .int cx1, .int cy0, .int cy1, .int ds, .ref m4, .ref m5, .ref m6, .ref m7, .ref m8, .ref m9, .int pn, .ref m10, .ref m11, .ref m12, .ref m13])), (m1, .inl (cI, 4, .inl gw))] H → va_D A [(m2, .inl (cI, 4, .inl gh)), (m3, .inl (cI, 16384, .inl gd)), (h0, .inr (9, [.ref m1, .ref m2, .ref m3, .int ik, .int wy, .int op, .int cl, .int cx0, .int cx1, .int cy0, .int cy1, .int ds, .ref m4, .ref m5, .ref m6, .ref m7, .ref m8, .ref m9, .int pn, .ref m10, .ref m11, .ref m12, .ref m13])), (m1, .inl (cI, 4, .inl gw))] → va_S A s.heap H locs → lv_has ls 8 [(5, .int x5), (4, .int x4), (3, .int z3), (0, .ref h0), (1, .int k), (2, .int 8)] → W p l e R s m ([.ref h0, .int k, .int (nI 8)] : List Value).toArray below meth c H locs 0 0 Q (F0 m 73 ls []) := by
                        intro n
                        induction n with
                        | zero =>
                          intro i x5 z3 H locs ls hi_i hm_i ex_i hio eti hP hD hS hl
                          exact absurd (show False by omega) not_false
                        | succ n ih_207 =>
                          intro i x5 z3 H locs ls hi_i hm_i ex_i hio eti hP hD hS hl
                          have hx_i : x5.toInt = (i : Int) := by rw [ex_i]; exact nI_toInt (by omega)
                          have hc_i : x5.toNatClampNeg = i := by rw [ex_i]; exact nI_clamp (by omega)
                          refine lv_iload hx hb dX9_look_73 (lv_at hl 0 rfl) ?_
                          refine lv_aload_n hx hb dX9_look_75 rfl (lv_at hl 3 rfl) ?_
                          refine va_get (D := D) (ci := 9) (v := .ref m1) (C := RX9) (T := TX9) (N := 23) hx hb hts hi_X9 hown hK hP 2 rfl rfl 0 (by decide) (hts _ bw_396) (fun _ h9 => h9) rfl dX9_look_76 ?_
                          refine lv_iload_n hx hb dX9_look_79 rfl (lv_at hl 4 rfl) ?_
                          refine va_iald hx hb hK hP 3 0 rfl rfl (vp_in_iff.mpr ⟨by omega, by omega⟩) dX9_look_80 ?_
                          refine lv_icmp_ge (tgt := 181) hx hb dX9_look_81 (by decide) (fun c_208 => ?_) (fun c_208 => ?_)
                          · skip
                            have f_209 : (gw k.toNatClampNeg).toInt ≤ (i : Int) := f_le rfl hx_i c_208
                            obtain ⟨y_210, ey_210⟩ : ∃ y : Int32, y = x4 + 1 := ⟨_, rfl⟩
                            refine lv_iinc (v := y_210) (lv' := [(4, .int y_210), (5, .int x5), (3, .int z3), (0, .ref h0), (1, .int k), (2, .int 8)]) hx hb dX9_look_181 hl (k := 1) rfl (by rw [ey_210]; rfl) (by decide) rfl (fun ls hl => ?_)
                            refine lv_goto (tgt := 59) hx hb dX9_look_184 (by decide) ?_
                            exact ih_203 (j + 1) y_210 z3 _ _ _ (by omega) (by omega) (by rw [ey_210, ex_j]; exact nI_1 j) (by omega) (sm_nx eti (by omega)) (hP.sub (ws' := [(m2, .inl (cI, 4, .inl gh)), (m3, .inl (cI, 16384, .inl gd)), (h0, .inr (9, [.ref m1, .ref m2, .ref m3, .int ik, .int wy, .int op, .int cl, .int cx0, .int cx1, .int cy0, .int cy1, .int ds, .ref m4, .ref m5, .ref m6, .ref m7, .ref m8, .ref m9, .int pn, .ref m10, .ref m11, .ref m12, .ref m13])), (m1, .inl (cI, 4, .inl gw))]) [0, 1, 2, 3] rfl) (hD.sub (ws' := [(m2, .inl (cI, 4, .inl gh)), (m3, .inl (cI, 16384, .inl gd)), (h0, .inr (9, [.ref m1, .ref m2, .ref m3, .int ik, .int wy, .int op, .int cl, .int cx0, .int cx1, .int cy0, .int cy1, .int ds, .ref m4, .ref m5, .ref m6, .ref m7, .ref m8, .ref m9, .int pn, .ref m10, .ref m11, .ref m12, .ref m13])), (m1, .inl (cI, 4, .inl gw))]) [0, 1, 2, 3] (by decide) rfl) hS (lv_sub hl [0, 2, 3, 4, 5] rfl)
                          · skip
                            have f_209 : ¬ ((gw k.toNatClampNeg).toInt ≤ (i : Int)) := fn_le rfl hx_i c_208
                            refine lv_aload_n hx hb dX9_look_84 rfl (lv_at hl 3 rfl) ?_
                            refine va_get (D := D) (ci := 9) (v := .ref m3) (C := RX9) (T := TX9) (N := 23) hx hb hts hi_X9 hown hK hP 2 rfl rfl 2 (by decide) (hts _ bw_398) (fun _ h9 => h9) rfl dX9_look_85 ?_
                            refine lv_iload_n hx hb dX9_look_88 rfl (lv_at hl 4 rfl) ?_
                            refine lv_iload hx hb dX9_look_89 (lv_at hl 0 rfl) ?_
                            refine lv_iload hx hb dX9_look_91 (lv_at hl 1 rfl) ?_
                            have hPc := hP.sub (ws' := []) [] rfl
                            have hDc := hD.sub (ws' := []) [] (by decide) rfl
                            have hKc := hK.sub (tys' := []) [] rfl
                            have hFc := va_free (wc := []) hD hS hA [] rfl
                            refine va_calli (va_runS (As := [.int k, .int x5, .int x4]) (rest := [.ref m3]) ⟨hx, hb, hml, hown, hts⟩ (k_X9_spot l D H.size k x5 x4) (va_cwS 3 hts (gS bw_551 bw_421 bw_391 bw_420) rfl rfl rfl (by decide +kernel) ⟨(by rw [hR]; exact Nat.le_of_ble_eq_true rfl), (by rw [hR]; exact Nat.le_of_ble_eq_true rfl)⟩) ⟨cP_blind, cP_at hPc hKc hDc hN⟩ rfl rfl hl.1 rfl (lv_room (Nat.le_of_ble_eq_true rfl)) dX9_look_93 ⟨(by rw [hR]; exact Nat.le_of_ble_eq_true rfl), (by rw [hR]; exact Nat.le_of_ble_eq_true rfl)⟩) hS (fun q _ h => hFc q h) hFc (fun r_211 u9 t9 H1 locs ht hvm hr_211 hB hz1 hk1 hS => ?_)
                            try dsimp only at hr_211
                            have hP1 : va_P D vwCl [] H1 := vP_nil
                            have hD1 : va_D (va_A [] H.size) [] := vD_nil
                            obtain ⟨hP, hD⟩ := va_join (wr := [(m2, .inl (cI, 4, .inl gh)), (m3, .inl (cI, 16384, .inl gd)), (h0, .inr (9, [.ref m1, .ref m2, .ref m3, .int ik, .int wy, .int op, .int cl, .int cx0, .int cx1, .int cy0, .int cy1, .int ds, .ref m4, .ref m5, .ref m6, .ref m7, .ref m8, .ref m9, .int pn, .ref m10, .ref m11, .ref m12, .ref m13])), (m1, .inl (cI, 4, .inl gw))]) (w1 := []) hP hD [] [0, 1, 2, 3] rfl rfl (by decide) (by decide) hk1 hFc hP1 hD1
                            clear hz1 hk1 hFc hKc hDc hPc
                            generalize H1 = H at hP hS ⊢
                            have hP : va_P D vwCl [(m2, .inl (cI, 4, .inl gh)), (m3, .inl (cI, 16384, .inl gd)), (h0, .inr (9, [.ref m1, .ref m2, .ref m3, .int ik, .int wy, .int op, .int cl, .int cx0, .int cx1, .int cy0, .int cy1, .int ds, .ref m4, .ref m5, .ref m6, .ref m7, .ref m8, .ref m9, .int pn, .ref m10, .ref m11, .ref m12, .ref m13])), (m1, .inl (cI, 4, .inl gw))] H := hP
                            have hD : va_D A [(m2, .inl (cI, 4, .inl gh)), (m3, .inl (cI, 16384, .inl gd)), (h0, .inr (9, [.ref m1, .ref m2, .ref m3, .int ik, .int wy, .int op, .int cl, .int cx0, .int cx1, .int cy0, .int cy1, .int ds, .ref m4, .ref m5, .ref m6, .ref m7, .ref m8, .ref m9, .int pn, .ref m10, .ref m11, .ref m12, .ref m13])), (m1, .inl (cI, 4, .inl gw))] := hD
                            refine va_iald hx hb hK hP 1 0 rfl rfl (by rw [hr_211]; exact sp_in (by omega) (by omega) (by omega) (by omega) (by omega) (by omega)) dX9_look_96 ?_
                            refine my_fold (v := gd (4096 * k.toNatClampNeg + ixP (nI i) (nI j))) (congrArg gd (by rw [hr_211, sp_cl (by omega) (by omega) (by omega) (by omega) (by omega) (by omega), ex_i, ex_j])) ?_
                            refine lv_istore (lv' := [(6, .int (gd (4096 * k.toNatClampNeg + ixP (nI i) (nI j)))), (5, .int x5), (4, .int x4), (3, .int z3), (0, .ref h0), (1, .int k), (2, .int 8)]) hx hb dX9_look_97 hl (by decide) rfl (fun ls hl => ?_)
                            refine lv_iload_n hx hb dX9_look_99 rfl (lv_at hl 6 rfl) ?_
                            refine lv_iconst (v := 5) hx hb dX9_look_100 (by decide) ?_
                            refine lv_icmp_le (tgt := 119) hx hb dX9_look_101 (by decide) (fun c_212 => ?_) (fun c_212 => ?_)
                            · skip
                              exact absurd c_212 (by decide)
                            · skip
                              refine lv_iload_n hx hb dX9_look_104 rfl (lv_at hl 3 rfl) ?_
                              refine lv_iload hx hb dX9_look_105 (lv_at hl 0 rfl) ?_
                              refine lv_iload_n hx hb dX9_look_107 rfl (lv_at hl 6 rfl) ?_
                              refine lv_bipush (v := 6) hx hb dX9_look_108 (by decide) ?_
                              refine lv_isub hx hb dX9_look_110 ?_
                              refine my_fold (v := 2) (by decide) ?_
                              have hPc := hP.sub (ws' := []) [] rfl
                              have hDc := hD.sub (ws' := []) [] (by decide) rfl
                              have hKc := hK.sub (tys' := []) [] rfl
                              have hFc := va_free (wc := []) hD hS hA [] rfl
                              refine va_calli (va_runS (As := [.int (gd (4096 * k.toNatClampNeg + ixP (nI i) (nI j))), .int 2]) (rest := [.int z3]) ⟨hx, hb, hml, hown, hts⟩ (k_X9_channel_2 l D H.size (gd (4096 * k.toNatClampNeg + ixP (nI i) (nI j)))) (va_cwS 2 hts (gS bw_441 bw_438 bw_391 bw_437) rfl rfl rfl (by decide +kernel) ⟨(by rw [hR]; exact Nat.le_of_ble_eq_true rfl), (by rw [hR]; exact Nat.le_of_ble_eq_true rfl)⟩) ⟨cP_blind, cP_at hPc hKc hDc hN⟩ rfl rfl hl.1 rfl (lv_room (Nat.le_of_ble_eq_true rfl)) dX9_look_111 ⟨(by rw [hR]; exact Nat.le_of_ble_eq_true rfl), (by rw [hR]; exact Nat.le_of_ble_eq_true rfl)⟩) hS (fun q _ h => hFc q h) hFc (fun r_214 u9 t9 H1 locs ht hvm hr_214 hB hz1 hk1 hS => ?_)
                              try dsimp only at hr_214
                              have hP1 : va_P D vwCl [] H1 := vP_nil
                              have hD1 : va_D (va_A [] H.size) [] := vD_nil
                              obtain ⟨hP, hD⟩ := va_join (wr := [(m2, .inl (cI, 4, .inl gh)), (m3, .inl (cI, 16384, .inl gd)), (h0, .inr (9, [.ref m1, .ref m2, .ref m3, .int ik, .int wy, .int op, .int cl, .int cx0, .int cx1, .int cy0, .int cy1, .int ds, .ref m4, .ref m5, .ref m6, .ref m7, .ref m8, .ref m9, .int pn, .ref m10, .ref m11, .ref m12, .ref m13])), (m1, .inl (cI, 4, .inl gw))]) (w1 := []) hP hD [] [0, 1, 2, 3] rfl rfl (by decide) (by decide) hk1 hFc hP1 hD1
                              clear hz1 hk1 hFc hKc hDc hPc
                              generalize H1 = H at hP hS ⊢
                              have hP : va_P D vwCl [(m2, .inl (cI, 4, .inl gh)), (m3, .inl (cI, 16384, .inl gd)), (h0, .inr (9, [.ref m1, .ref m2, .ref m3, .int ik, .int wy, .int op, .int cl, .int cx0, .int cx1, .int cy0, .int cy1, .int ds, .ref m4, .ref m5, .ref m6, .ref m7, .ref m8, .ref m9, .int pn, .ref m10, .ref m11, .ref m12, .ref m13])), (m1, .inl (cI, 4, .inl gw))] H := hP
                              have hD : va_D A [(m2, .inl (cI, 4, .inl gh)), (m3, .inl (cI, 16384, .inl gd)), (h0, .inr (9, [.ref m1, .ref m2, .ref m3, .int ik, .int wy, .int op, .int cl, .int cx0, .int cx1, .int cy0, .int cy1, .int ds, .ref m4, .ref m5, .ref m6, .ref m7, .ref m8, .ref m9, .int pn, .ref m10, .ref m11, .ref m12, .ref m13])), (m1, .inl (cI, 4, .inl gw))] := hD
                              refine lv_iadd hx hb dX9_look_114 ?_
                              refine lv_topi (fun y_215 ey_215 => ?_)
                              refine lv_istore_n (lv' := [(3, .int y_215), (6, .int (gd (4096 * k.toNatClampNeg + ixP (nI i) (nI j)))), (5, .int x5), (4, .int x4), (0, .ref h0), (1, .int k), (2, .int 8)]) hx hb dX9_look_115 rfl hl (by decide) rfl (fun ls hl => ?_)
                              refine lv_goto (tgt := 175) hx hb dX9_look_116 (by decide) ?_
                              obtain ⟨y_216, ey_216⟩ : ∃ y : Int32, y = x5 + 1 := ⟨_, rfl⟩
                              refine lv_iinc (v := y_216) (lv' := [(5, .int y_216), (3, .int y_215), (6, .int (gd (4096 * k.toNatClampNeg + ixP (nI i) (nI j)))), (4, .int x4), (0, .ref h0), (1, .int k), (2, .int 8)]) hx hb dX9_look_175 hl (k := 2) rfl (by rw [ey_216]; rfl) (by decide) rfl (fun ls hl => ?_)
                              refine lv_goto (tgt := 73) hx hb dX9_look_178 (by decide) ?_
                              exact ih_207 (i + 1) y_216 y_215 _ _ _ (by omega) (by omega) (by rw [ey_216, ex_i]; exact nI_1 i) (by omega) (by rw [show smR (chF (fun t => gd (4096 * k.toNatClampNeg + t)) 8) j (smL (chF (fun t => gd (4096 * k.toNatClampNeg + t)) 8) W9 0 j) (i + 1) = (chF (fun t => gd (4096 * k.toNatClampNeg + t)) 8) j i z3 from congrArg ((chF (fun t => gd (4096 * k.toNatClampNeg + t)) 8) j i) eti.symm, ey_215, hr_214]; rfl) (hP.sub (ws' := [(m2, .inl (cI, 4, .inl gh)), (m3, .inl (cI, 16384, .inl gd)), (h0, .inr (9, [.ref m1, .ref m2, .ref m3, .int ik, .int wy, .int op, .int cl, .int cx0, .int cx1, .int cy0, .int cy1, .int ds, .ref m4, .ref m5, .ref m6, .ref m7, .ref m8, .ref m9, .int pn, .ref m10, .ref m11, .ref m12, .ref m13])), (m1, .inl (cI, 4, .inl gw))]) [0, 1, 2, 3] rfl) (hD.sub (ws' := [(m2, .inl (cI, 4, .inl gh)), (m3, .inl (cI, 16384, .inl gd)), (h0, .inr (9, [.ref m1, .ref m2, .ref m3, .int ik, .int wy, .int op, .int cl, .int cx0, .int cx1, .int cy0, .int cy1, .int ds, .ref m4, .ref m5, .ref m6, .ref m7, .ref m8, .ref m9, .int pn, .ref m10, .ref m11, .ref m12, .ref m13])), (m1, .inl (cI, 4, .inl gw))]) [0, 1, 2, 3] (by decide) rfl) hS (lv_sub hl [0, 3, 1, 4, 5, 6] rfl)
                      exact loop_206 (64 + 1) 0 0 x3 _ _ _ (by omega) (by omega) nI_0.symm (by omega) eto hP hD hS (lv_sub hl [0, 1, 2, 3, 4, 5] rfl)
                exact loop_202 (64 + 1) 0 0 0 _ _ _ (by omega) (by omega) nI_0.symm (by omega) rfl hP hD hS (lv_sub hl [0, 1, 2, 3, 4] rfl)
              · skip
                exact absurd c_200 (by decide)
            · skip
              exact absurd c_198 (by decide)
          · skip
            exact absurd c_196 (by decide)
        · skip
          have hl : lv_has ls 8 [(0, .ref h0), (1, .int k), (2, .int 9)] := hl
          refine lv_iload_n hx hb dX9_look_20 rfl (lv_at hl 2 rfl) ?_
          refine lv_iconst (v := 4) hx hb dX9_look_21 (by decide) ?_
          refine lv_icmp_ne (tgt := 32) hx hb dX9_look_22 (by decide) (fun c_217 => ?_) (fun c_217 => ?_)
          · skip
            refine lv_iload_n hx hb dX9_look_32 rfl (lv_at hl 2 rfl) ?_
            refine lv_iconst (v := 5) hx hb dX9_look_33 (by decide) ?_
            refine lv_icmp_ne (tgt := 44) hx hb dX9_look_34 (by decide) (fun c_219 => ?_) (fun c_219 => ?_)
            · skip
              refine lv_iload_n hx hb dX9_look_44 rfl (lv_at hl 2 rfl) ?_
              refine lv_bipush (v := 6) hx hb dX9_look_45 (by decide) ?_
              refine lv_icmp_ge (tgt := 54) hx hb dX9_look_47 (by decide) (fun c_221 => ?_) (fun c_221 => ?_)
              · skip
                refine lv_iconst (v := 0) hx hb dX9_look_54 (by decide) ?_
                refine lv_istore_n (lv' := [(3, .int 0), (0, .ref h0), (1, .int k), (2, .int 9)]) hx hb dX9_look_55 rfl hl (by decide) rfl (fun ls hl => ?_)
                refine lv_iconst (v := 0) hx hb dX9_look_56 (by decide) ?_
                refine lv_istore (lv' := [(4, .int 0), (3, .int 0), (0, .ref h0), (1, .int k), (2, .int 9)]) hx hb dX9_look_57 hl (by decide) rfl (fun ls hl => ?_)
                have loop_223 : ∀ (n : Nat) (j : Nat) (x4 : Int32) (x3 : Int32) (H : Heap) (locs : List Loc) (ls : Array Slot), (j ≤ 64) → (64 + 1 ≤ j + n) → (x4 = nI j) → (j ≤ H9) → (x3 = smL (chF (fun t => gd (4096 * k.toNatClampNeg + t)) 0) W9 0 j) → va_P D vwCl [(m2, .inl (cI, 4, .inl gh)), (m3, .inl (cI, 16384, .inl gd)), (h0, .inr (9, [.ref m1, .ref m2, .ref m3, .int ik, .int wy, .int op, .int cl, .int cx0, .int cx1, .int cy0, .int cy1, .int ds, .ref m4, .ref m5, .ref m6, .ref m7, .ref m8, .ref m9, .int pn, .ref m10, .ref m11, .ref m12, .ref m13])), (m1, .inl (cI, 4, .inl gw))] H → va_D A [(m2, .inl (cI, 4, .inl gh)), (m3, .inl (cI, 16384, .inl gd)), (h0, .inr (9, [.ref m1, .ref m2, .ref m3, .int ik, .int wy, .int op, .int cl, .int cx0, .int cx1, .int cy0, .int cy1, .int ds, .ref m4, .ref m5, .ref m6, .ref m7, .ref m8, .ref m9, .int pn, .ref m10, .ref m11, .ref m12, .ref m13])), (m1, .inl (cI, 4, .inl gw))] → va_S A s.heap H locs → lv_has ls 8 [(4, .int x4), (3, .int x3), (0, .ref h0), (1, .int k), (2, .int 9)] → W p l e R s m ([.ref h0, .int k, .int (nI 9)] : List Value).toArray below meth c H locs 0 0 Q (F0 m 59 ls []) := by
                  intro n
                  induction n with
                  | zero =>
                    intro j x4 x3 H locs ls hi_j hm_j ex_j hjo eto hP hD hS hl
                    exact absurd (show False by omega) not_false
                  | succ n ih_224 =>
                    intro j x4 x3 H locs ls hi_j hm_j ex_j hjo eto hP hD hS hl
                    have hx_j : x4.toInt = (j : Int) := by rw [ex_j]; exact nI_toInt (by omega)
                    have hc_j : x4.toNatClampNeg = j := by rw [ex_j]; exact nI_clamp (by omega)
                    refine lv_iload hx hb dX9_look_59 (lv_at hl 0 rfl) ?_
                    refine lv_aload_n hx hb dX9_look_61 rfl (lv_at hl 2 rfl) ?_
                    refine va_get (D := D) (ci := 9) (v := .ref m2) (C := RX9) (T := TX9) (N := 23) hx hb hts hi_X9 hown hK hP 2 rfl rfl 1 (by decide) (hts _ bw_397) (fun _ h9 => h9) rfl dX9_look_62 ?_
                    refine lv_iload_n hx hb dX9_look_65 rfl (lv_at hl 3 rfl) ?_
                    refine va_iald hx hb hK hP 0 0 rfl rfl (vp_in_iff.mpr ⟨by omega, by omega⟩) dX9_look_66 ?_
                    refine lv_icmp_ge (tgt := 187) hx hb dX9_look_67 (by decide) (fun c_225 => ?_) (fun c_225 => ?_)
                    · skip
                      have f_226 : (gh k.toNatClampNeg).toInt ≤ (j : Int) := f_le rfl hx_j c_225
                      refine lv_iload_n hx hb dX9_look_187 rfl (lv_at hl 1 rfl) ?_
                      have hP9 := hP.sub (ws' := [(h0, .inr (9, [.ref m1, .ref m2, .ref m3, .int ik, .int wy, .int op, .int cl, .int cx0, .int cx1, .int cy0, .int cy1, .int ds, .ref m4, .ref m5, .ref m6, .ref m7, .ref m8, .ref m9, .int pn, .ref m10, .ref m11, .ref m12, .ref m13])), (m1, .inl (cI, 4, .inl gw)), (m2, .inl (cI, 4, .inl gh)), (m3, .inl (cI, 16384, .inl gd))]) [2, 3, 0, 1] rfl
                      have hD9 := hD.sub (ws' := [(h0, .inr (9, [.ref m1, .ref m2, .ref m3, .int ik, .int wy, .int op, .int cl, .int cx0, .int cx1, .int cy0, .int cy1, .int ds, .ref m4, .ref m5, .ref m6, .ref m7, .ref m8, .ref m9, .int pn, .ref m10, .ref m11, .ref m12, .ref m13])), (m1, .inl (cI, 4, .inl gw)), (m2, .inl (cI, 4, .inl gh)), (m3, .inl (cI, 16384, .inl gd))]) [2, 3, 0, 1] (by decide) rfl
                      have hK9 := hK.sub (tys' := [(cI, .int)]) [0] rfl
                      refine hQ _ _ _ _ _ ?_
                      exact W.iret (v := x3) hx hb hr (fun t ht hW => ⟨⟨x3, (), rfl, (show _ = lkP (fun t => gd (4096 * k.toNatClampNeg + t)) (gw k.toNatClampNeg) (gh k.toNatClampNeg) (nI 9) from (show _ = smL (chF (fun t => gd (4096 * k.toNatClampNeg + t)) 0) (gw k.toNatClampNeg).toNatClampNeg 0 (gh k.toNatClampNeg).toNatClampNeg from (by rw [eW9n, eH9n, ← show j = H9 by omega]; exact eto)).trans (if_pos (by decide)).symm), ⟨by rw [ht]; exact hP9, va_K.moved hW.alike hK9, hD9⟩⟩, hS.F ht⟩) hS.2.2 dX9_look_188
                    · skip
                      have f_226 : ¬ ((gh k.toNatClampNeg).toInt ≤ (j : Int)) := fn_le rfl hx_j c_225
                      refine lv_iconst (v := 0) hx hb dX9_look_70 (by decide) ?_
                      refine lv_istore (lv' := [(5, .int 0), (4, .int x4), (3, .int x3), (0, .ref h0), (1, .int k), (2, .int 9)]) hx hb dX9_look_71 hl (by decide) rfl (fun ls hl => ?_)
                      have loop_227 : ∀ (n : Nat) (i : Nat) (x5 : Int32) (z3 : Int32) (H : Heap) (locs : List Loc) (ls : Array Slot), (i ≤ 64) → (64 + 1 ≤ i + n) → (x5 = nI i) → (i ≤ W9) → (z3 = smR (chF (fun t => gd (4096 * k.toNatClampNeg + t)) 0) j (smL (chF (fun t => gd (4096 * k.toNatClampNeg + t)) 0) W9 0 j) i) → va_P D vwCl [(m2, .inl (cI, 4, .inl gh)), (m3, .inl (cI, 16384, .inl gd)), (h0, .inr (9, [.ref m1, .ref m2, .ref m3, .int ik, .int wy, .int op, .int cl, .int cx0, .int cx1, .int cy0, .int cy1, .int ds, .ref m4, .ref m5, .ref m6, .ref m7, .ref m8, .ref m9, .int pn, .ref m10, .ref m11, .ref m12, .ref m13])), (m1, .inl (cI, 4, .inl gw))] H → va_D A [(m2, .inl (cI, 4, .inl gh)), (m3, .inl (cI, 16384, .inl gd)), (h0, .inr (9, [.ref m1, .ref m2, .ref m3, .int ik, .int wy, .int op, .int cl, .int cx0, .int cx1, .int cy0, .int cy1, .int ds, .ref m4, .ref m5, .ref m6, .ref m7, .ref m8, .ref m9, .int pn, .ref m10, .ref m11, .ref m12, .ref m13])), (m1, .inl (cI, 4, .inl gw))] → va_S A s.heap H locs → lv_has ls 8 [(5, .int x5), (4, .int x4), (3, .int z3), (0, .ref h0), (1, .int k), (2, .int 9)] → W p l e R s m ([.ref h0, .int k, .int (nI 9)] : List Value).toArray below meth c H locs 0 0 Q (F0 m 73 ls []) := by
                        intro n
                        induction n with
                        | zero =>
                          intro i x5 z3 H locs ls hi_i hm_i ex_i hio eti hP hD hS hl
                          exact absurd (show False by omega) not_false
                        | succ n ih_228 =>
                          intro i x5 z3 H locs ls hi_i hm_i ex_i hio eti hP hD hS hl
                          have hx_i : x5.toInt = (i : Int) := by rw [ex_i]; exact nI_toInt (by omega)
                          have hc_i : x5.toNatClampNeg = i := by rw [ex_i]; exact nI_clamp (by omega)
                          refine lv_iload hx hb dX9_look_73 (lv_at hl 0 rfl) ?_
                          refine lv_aload_n hx hb dX9_look_75 rfl (lv_at hl 3 rfl) ?_
                          refine va_get (D := D) (ci := 9) (v := .ref m1) (C := RX9) (T := TX9) (N := 23) hx hb hts hi_X9 hown hK hP 2 rfl rfl 0 (by decide) (hts _ bw_396) (fun _ h9 => h9) rfl dX9_look_76 ?_
                          refine lv_iload_n hx hb dX9_look_79 rfl (lv_at hl 4 rfl) ?_
                          refine va_iald hx hb hK hP 3 0 rfl rfl (vp_in_iff.mpr ⟨by omega, by omega⟩) dX9_look_80 ?_
                          refine lv_icmp_ge (tgt := 181) hx hb dX9_look_81 (by decide) (fun c_229 => ?_) (fun c_229 => ?_)
                          · skip
                            have f_230 : (gw k.toNatClampNeg).toInt ≤ (i : Int) := f_le rfl hx_i c_229
                            obtain ⟨y_231, ey_231⟩ : ∃ y : Int32, y = x4 + 1 := ⟨_, rfl⟩
                            refine lv_iinc (v := y_231) (lv' := [(4, .int y_231), (5, .int x5), (3, .int z3), (0, .ref h0), (1, .int k), (2, .int 9)]) hx hb dX9_look_181 hl (k := 1) rfl (by rw [ey_231]; rfl) (by decide) rfl (fun ls hl => ?_)
                            refine lv_goto (tgt := 59) hx hb dX9_look_184 (by decide) ?_
                            exact ih_224 (j + 1) y_231 z3 _ _ _ (by omega) (by omega) (by rw [ey_231, ex_j]; exact nI_1 j) (by omega) (sm_nx eti (by omega)) (hP.sub (ws' := [(m2, .inl (cI, 4, .inl gh)), (m3, .inl (cI, 16384, .inl gd)), (h0, .inr (9, [.ref m1, .ref m2, .ref m3, .int ik, .int wy, .int op, .int cl, .int cx0, .int cx1, .int cy0, .int cy1, .int ds, .ref m4, .ref m5, .ref m6, .ref m7, .ref m8, .ref m9, .int pn, .ref m10, .ref m11, .ref m12, .ref m13])), (m1, .inl (cI, 4, .inl gw))]) [0, 1, 2, 3] rfl) (hD.sub (ws' := [(m2, .inl (cI, 4, .inl gh)), (m3, .inl (cI, 16384, .inl gd)), (h0, .inr (9, [.ref m1, .ref m2, .ref m3, .int ik, .int wy, .int op, .int cl, .int cx0, .int cx1, .int cy0, .int cy1, .int ds, .ref m4, .ref m5, .ref m6, .ref m7, .ref m8, .ref m9, .int pn, .ref m10, .ref m11, .ref m12, .ref m13])), (m1, .inl (cI, 4, .inl gw))]) [0, 1, 2, 3] (by decide) rfl) hS (lv_sub hl [0, 2, 3, 4, 5] rfl)
                          · skip
                            have f_230 : ¬ ((gw k.toNatClampNeg).toInt ≤ (i : Int)) := fn_le rfl hx_i c_229
                            refine lv_aload_n hx hb dX9_look_84 rfl (lv_at hl 3 rfl) ?_
                            refine va_get (D := D) (ci := 9) (v := .ref m3) (C := RX9) (T := TX9) (N := 23) hx hb hts hi_X9 hown hK hP 2 rfl rfl 2 (by decide) (hts _ bw_398) (fun _ h9 => h9) rfl dX9_look_85 ?_
                            refine lv_iload_n hx hb dX9_look_88 rfl (lv_at hl 4 rfl) ?_
                            refine lv_iload hx hb dX9_look_89 (lv_at hl 0 rfl) ?_
                            refine lv_iload hx hb dX9_look_91 (lv_at hl 1 rfl) ?_
                            have hPc := hP.sub (ws' := []) [] rfl
                            have hDc := hD.sub (ws' := []) [] (by decide) rfl
                            have hKc := hK.sub (tys' := []) [] rfl
                            have hFc := va_free (wc := []) hD hS hA [] rfl
                            refine va_calli (va_runS (As := [.int k, .int x5, .int x4]) (rest := [.ref m3]) ⟨hx, hb, hml, hown, hts⟩ (k_X9_spot l D H.size k x5 x4) (va_cwS 3 hts (gS bw_551 bw_421 bw_391 bw_420) rfl rfl rfl (by decide +kernel) ⟨(by rw [hR]; exact Nat.le_of_ble_eq_true rfl), (by rw [hR]; exact Nat.le_of_ble_eq_true rfl)⟩) ⟨cP_blind, cP_at hPc hKc hDc hN⟩ rfl rfl hl.1 rfl (lv_room (Nat.le_of_ble_eq_true rfl)) dX9_look_93 ⟨(by rw [hR]; exact Nat.le_of_ble_eq_true rfl), (by rw [hR]; exact Nat.le_of_ble_eq_true rfl)⟩) hS (fun q _ h => hFc q h) hFc (fun r_232 u9 t9 H1 locs ht hvm hr_232 hB hz1 hk1 hS => ?_)
                            try dsimp only at hr_232
                            have hP1 : va_P D vwCl [] H1 := vP_nil
                            have hD1 : va_D (va_A [] H.size) [] := vD_nil
                            obtain ⟨hP, hD⟩ := va_join (wr := [(m2, .inl (cI, 4, .inl gh)), (m3, .inl (cI, 16384, .inl gd)), (h0, .inr (9, [.ref m1, .ref m2, .ref m3, .int ik, .int wy, .int op, .int cl, .int cx0, .int cx1, .int cy0, .int cy1, .int ds, .ref m4, .ref m5, .ref m6, .ref m7, .ref m8, .ref m9, .int pn, .ref m10, .ref m11, .ref m12, .ref m13])), (m1, .inl (cI, 4, .inl gw))]) (w1 := []) hP hD [] [0, 1, 2, 3] rfl rfl (by decide) (by decide) hk1 hFc hP1 hD1
                            clear hz1 hk1 hFc hKc hDc hPc
                            generalize H1 = H at hP hS ⊢
                            have hP : va_P D vwCl [(m2, .inl (cI, 4, .inl gh)), (m3, .inl (cI, 16384, .inl gd)), (h0, .inr (9, [.ref m1, .ref m2, .ref m3, .int ik, .int wy, .int op, .int cl, .int cx0, .int cx1, .int cy0, .int cy1, .int ds, .ref m4, .ref m5, .ref m6, .ref m7, .ref m8, .ref m9, .int pn, .ref m10, .ref m11, .ref m12, .ref m13])), (m1, .inl (cI, 4, .inl gw))] H := hP
                            have hD : va_D A [(m2, .inl (cI, 4, .inl gh)), (m3, .inl (cI, 16384, .inl gd)), (h0, .inr (9, [.ref m1, .ref m2, .ref m3, .int ik, .int wy, .int op, .int cl, .int cx0, .int cx1, .int cy0, .int cy1, .int ds, .ref m4, .ref m5, .ref m6, .ref m7, .ref m8, .ref m9, .int pn, .ref m10, .ref m11, .ref m12, .ref m13])), (m1, .inl (cI, 4, .inl gw))] := hD
                            refine va_iald hx hb hK hP 1 0 rfl rfl (by rw [hr_232]; exact sp_in (by omega) (by omega) (by omega) (by omega) (by omega) (by omega)) dX9_look_96 ?_
                            refine my_fold (v := gd (4096 * k.toNatClampNeg + ixP (nI i) (nI j))) (congrArg gd (by rw [hr_232, sp_cl (by omega) (by omega) (by omega) (by omega) (by omega) (by omega), ex_i, ex_j])) ?_
                            refine lv_istore (lv' := [(6, .int (gd (4096 * k.toNatClampNeg + ixP (nI i) (nI j)))), (5, .int x5), (4, .int x4), (3, .int z3), (0, .ref h0), (1, .int k), (2, .int 9)]) hx hb dX9_look_97 hl (by decide) rfl (fun ls hl => ?_)
                            refine lv_iload_n hx hb dX9_look_99 rfl (lv_at hl 6 rfl) ?_
                            refine lv_iconst (v := 5) hx hb dX9_look_100 (by decide) ?_
                            refine lv_icmp_le (tgt := 119) hx hb dX9_look_101 (by decide) (fun c_233 => ?_) (fun c_233 => ?_)
                            · skip
                              exact absurd c_233 (by decide)
                            · skip
                              refine lv_iload_n hx hb dX9_look_104 rfl (lv_at hl 3 rfl) ?_
                              refine lv_iload hx hb dX9_look_105 (lv_at hl 0 rfl) ?_
                              refine lv_iload_n hx hb dX9_look_107 rfl (lv_at hl 6 rfl) ?_
                              refine lv_bipush (v := 6) hx hb dX9_look_108 (by decide) ?_
                              refine lv_isub hx hb dX9_look_110 ?_
                              refine my_fold (v := 3) (by decide) ?_
                              have hPc := hP.sub (ws' := []) [] rfl
                              have hDc := hD.sub (ws' := []) [] (by decide) rfl
                              have hKc := hK.sub (tys' := []) [] rfl
                              have hFc := va_free (wc := []) hD hS hA [] rfl
                              refine va_calli (va_runS (As := [.int (gd (4096 * k.toNatClampNeg + ixP (nI i) (nI j))), .int 3]) (rest := [.int z3]) ⟨hx, hb, hml, hown, hts⟩ (k_X9_channel_3 l D H.size (gd (4096 * k.toNatClampNeg + ixP (nI i) (nI j)))) (va_cwS 2 hts (gS bw_441 bw_438 bw_391 bw_437) rfl rfl rfl (by decide +kernel) ⟨(by rw [hR]; exact Nat.le_of_ble_eq_true rfl), (by rw [hR]; exact Nat.le_of_ble_eq_true rfl)⟩) ⟨cP_blind, cP_at hPc hKc hDc hN⟩ rfl rfl hl.1 rfl (lv_room (Nat.le_of_ble_eq_true rfl)) dX9_look_111 ⟨(by rw [hR]; exact Nat.le_of_ble_eq_true rfl), (by rw [hR]; exact Nat.le_of_ble_eq_true rfl)⟩) hS (fun q _ h => hFc q h) hFc (fun r_235 u9 t9 H1 locs ht hvm hr_235 hB hz1 hk1 hS => ?_)
                              try dsimp only at hr_235
                              have hP1 : va_P D vwCl [] H1 := vP_nil
                              have hD1 : va_D (va_A [] H.size) [] := vD_nil
                              obtain ⟨hP, hD⟩ := va_join (wr := [(m2, .inl (cI, 4, .inl gh)), (m3, .inl (cI, 16384, .inl gd)), (h0, .inr (9, [.ref m1, .ref m2, .ref m3, .int ik, .int wy, .int op, .int cl, .int cx0, .int cx1, .int cy0, .int cy1, .int ds, .ref m4, .ref m5, .ref m6, .ref m7, .ref m8, .ref m9, .int pn, .ref m10, .ref m11, .ref m12, .ref m13])), (m1, .inl (cI, 4, .inl gw))]) (w1 := []) hP hD [] [0, 1, 2, 3] rfl rfl (by decide) (by decide) hk1 hFc hP1 hD1
                              clear hz1 hk1 hFc hKc hDc hPc
                              generalize H1 = H at hP hS ⊢
                              have hP : va_P D vwCl [(m2, .inl (cI, 4, .inl gh)), (m3, .inl (cI, 16384, .inl gd)), (h0, .inr (9, [.ref m1, .ref m2, .ref m3, .int ik, .int wy, .int op, .int cl, .int cx0, .int cx1, .int cy0, .int cy1, .int ds, .ref m4, .ref m5, .ref m6, .ref m7, .ref m8, .ref m9, .int pn, .ref m10, .ref m11, .ref m12, .ref m13])), (m1, .inl (cI, 4, .inl gw))] H := hP
                              have hD : va_D A [(m2, .inl (cI, 4, .inl gh)), (m3, .inl (cI, 16384, .inl gd)), (h0, .inr (9, [.ref m1, .ref m2, .ref m3, .int ik, .int wy, .int op, .int cl, .int cx0, .int cx1, .int cy0, .int cy1, .int ds, .ref m4, .ref m5, .ref m6, .ref m7, .ref m8, .ref m9, .int pn, .ref m10, .ref m11, .ref m12, .ref m13])), (m1, .inl (cI, 4, .inl gw))] := hD
                              refine lv_iadd hx hb dX9_look_114 ?_
                              refine lv_topi (fun y_236 ey_236 => ?_)
                              refine lv_istore_n (lv' := [(3, .int y_236), (6, .int (gd (4096 * k.toNatClampNeg + ixP (nI i) (nI j)))), (5, .int x5), (4, .int x4), (0, .ref h0), (1, .int k), (2, .int 9)]) hx hb dX9_look_115 rfl hl (by decide) rfl (fun ls hl => ?_)
                              refine lv_goto (tgt := 175) hx hb dX9_look_116 (by decide) ?_
                              obtain ⟨y_237, ey_237⟩ : ∃ y : Int32, y = x5 + 1 := ⟨_, rfl⟩
                              refine lv_iinc (v := y_237) (lv' := [(5, .int y_237), (3, .int y_236), (6, .int (gd (4096 * k.toNatClampNeg + ixP (nI i) (nI j)))), (4, .int x4), (0, .ref h0), (1, .int k), (2, .int 9)]) hx hb dX9_look_175 hl (k := 2) rfl (by rw [ey_237]; rfl) (by decide) rfl (fun ls hl => ?_)
                              refine lv_goto (tgt := 73) hx hb dX9_look_178 (by decide) ?_
                              exact ih_228 (i + 1) y_237 y_236 _ _ _ (by omega) (by omega) (by rw [ey_237, ex_i]; exact nI_1 i) (by omega) (by rw [show smR (chF (fun t => gd (4096 * k.toNatClampNeg + t)) 0) j (smL (chF (fun t => gd (4096 * k.toNatClampNeg + t)) 0) W9 0 j) (i + 1) = (chF (fun t => gd (4096 * k.toNatClampNeg + t)) 0) j i z3 from congrArg ((chF (fun t => gd (4096 * k.toNatClampNeg + t)) 0) j i) eti.symm, ey_236, hr_235]; rfl) (hP.sub (ws' := [(m2, .inl (cI, 4, .inl gh)), (m3, .inl (cI, 16384, .inl gd)), (h0, .inr (9, [.ref m1, .ref m2, .ref m3, .int ik, .int wy, .int op, .int cl, .int cx0, .int cx1, .int cy0, .int cy1, .int ds, .ref m4, .ref m5, .ref m6, .ref m7, .ref m8, .ref m9, .int pn, .ref m10, .ref m11, .ref m12, .ref m13])), (m1, .inl (cI, 4, .inl gw))]) [0, 1, 2, 3] rfl) (hD.sub (ws' := [(m2, .inl (cI, 4, .inl gh)), (m3, .inl (cI, 16384, .inl gd)), (h0, .inr (9, [.ref m1, .ref m2, .ref m3, .int ik, .int wy, .int op, .int cl, .int cx0, .int cx1, .int cy0, .int cy1, .int ds, .ref m4, .ref m5, .ref m6, .ref m7, .ref m8, .ref m9, .int pn, .ref m10, .ref m11, .ref m12, .ref m13])), (m1, .inl (cI, 4, .inl gw))]) [0, 1, 2, 3] (by decide) rfl) hS (lv_sub hl [0, 3, 1, 4, 5, 6] rfl)
                      exact loop_227 (64 + 1) 0 0 x3 _ _ _ (by omega) (by omega) nI_0.symm (by omega) eto hP hD hS (lv_sub hl [0, 1, 2, 3, 4, 5] rfl)
                exact loop_223 (64 + 1) 0 0 0 _ _ _ (by omega) (by omega) nI_0.symm (by omega) rfl hP hD hS (lv_sub hl [0, 1, 2, 3, 4] rfl)
              · skip
                exact absurd c_221 (by decide)
            · skip
              exact absurd c_219 (by decide)
          · skip
            exact absurd c_217 (by decide)
      · skip
        have f_7 : ¬ (wh.toInt ≤ 9) := fn_le rfl (by decide) c_6
        exact False.elim (by omega)

set_option maxHeartbeats 4000000 in
set_option maxRecDepth 100000 in
theorem k_X9_look_ne (l : Launch) (D : va_G) (sz : Nat) (h0 m1 m2 m3 m4 m5 m6 m7 m8 m9 m10 m11 m12 m13 : Nat) (ik wy op cl cx0 cx1 cy0 cy1 ds pn : Int32) (gw : Nat → Int32) (k wh : Int32) (cI : ClassId) (hns : ¬ ((0 ≤ k.toInt ∧ k.toInt ≤ 3 ∧ 0 < (gw k.toNatClampNeg).toInt) ∧ (0 ≤ wh.toInt ∧ wh.toInt ≤ 9))) : Met l yX9_look (wB yX9_look cX9_look 8 (some .int)) ({ frames := 1, cells := 0, slots := 0, locals := 21 }) (cP D [(h0, .inr (9, [.ref m1, .ref m2, .ref m3, .int ik, .int wy, .int op, .int cl, .int cx0, .int cx1, .int cy0, .int cy1, .int ds, .ref m4, .ref m5, .ref m6, .ref m7, .ref m8, .ref m9, .int pn, .ref m10, .ref m11, .ref m12, .ref m13])), (m1, .inl (cI, 4, .inl gw))] [(cI, .int)] sz [.ref h0, .int k, .int wh]) (va_Qi (fun (r : Int32) (_ : Unit) => r = -1) (fun (_ : Unit) (t : State) => cB D (va_A [(h0, .inr (9, [.ref m1, .ref m2, .ref m3, .int ik, .int wy, .int op, .int cl, .int cx0, .int cx1, .int cy0, .int cy1, .int ds, .ref m4, .ref m5, .ref m6, .ref m7, .ref m8, .ref m9, .int pn, .ref m10, .ref m11, .ref m12, .ref m13])), (m1, .inl (cI, 4, .inl gw))] sz) [(h0, .inr (9, [.ref m1, .ref m2, .ref m3, .int ik, .int wy, .int op, .int cl, .int cx0, .int cx1, .int cy0, .int cy1, .int ds, .ref m4, .ref m5, .ref m6, .ref m7, .ref m8, .ref m9, .int pn, .ref m10, .ref m11, .ref m12, .ref m13])), (m1, .inl (cI, 4, .inl gw))] [(cI, .int)] t) (va_A [(h0, .inr (9, [.ref m1, .ref m2, .ref m3, .int ik, .int wy, .int op, .int cl, .int cx0, .int cx1, .int cy0, .int cy1, .int ds, .ref m4, .ref m5, .ref m6, .ref m7, .ref m8, .ref m9, .int pn, .ref m10, .ref m11, .ref m12, .ref m13])), (m1, .inl (cI, 4, .inl gw))] sz)) 0 0 (va_A [(h0, .inr (9, [.ref m1, .ref m2, .ref m3, .int ik, .int wy, .int op, .int cl, .int cx0, .int cx1, .int cy0, .int cy1, .int ds, .ref m4, .ref m5, .ref m6, .ref m7, .ref m8, .ref m9, .int pn, .ref m10, .ref m11, .ref m12, .ref m13])), (m1, .inl (cI, 4, .inl gw))] sz) := by
  refine Met.ofW (cc := cX9_look) (maxL := 8) (ret := (some .int)) (by decide) rfl ?_
  intro p e s m args below meth c s₁ B hml hv
  obtain ⟨rfl, hsz, hP, hK, hD0, hN⟩ := hv
  have hx := B.exec
  have hb := B.bytes
  have hr := B.returns
  have hts0 := atoms_spec (ws := (wB yX9_look cX9_look 8 (some .int))) B.pre
  have hts : ∀ w ∈ bigW, w.before _ s = true := fun w h => hts0 w (List.mem_cons_of_mem _ h)
  have hown : s.vm.findClass RX9 = some m.cls := findClass_of_methodNamed B.named
  have hlocks := B.notSynchronized
  subst hsz
  have hD := hD0.self (sz := s.heap.size)
  generalize hAe : va_A [(h0, .inr (9, [.ref m1, .ref m2, .ref m3, .int ik, .int wy, .int op, .int cl, .int cx0, .int cx1, .int cy0, .int cy1, .int ds, .ref m4, .ref m5, .ref m6, .ref m7, .ref m8, .ref m9, .int pn, .ref m10, .ref m11, .ref m12, .ref m13])), (m1, .inl (cI, 4, .inl gw))] s.heap.size = A at hD ⊢
  have hA : ∀ q : Nat, s.heap.size ≤ q → A q := fun q h => by rw [← hAe]; exact Or.inr h
  have hS : va_S A s.heap s.heap [] := va_S.rf
  have hP : va_P D vwCl [(h0, .inr (9, [.ref m1, .ref m2, .ref m3, .int ik, .int wy, .int op, .int cl, .int cx0, .int cx1, .int cy0, .int cy1, .int ds, .ref m4, .ref m5, .ref m6, .ref m7, .ref m8, .ref m9, .int pn, .ref m10, .ref m11, .ref m12, .ref m13])), (m1, .inl (cI, 4, .inl gw))] s.heap := hP
  have hl := lv_entry ([.ref h0, .int k, .int wh]) (n := 8) (Nat.le_of_ble_eq_true rfl)
  rw [lg_entry_eq]
  generalize (lg_sl ([.ref h0, .int k, .int wh]) ++ List.replicate (8 - (lg_sl ([.ref h0, .int k, .int wh])).length) Slot.unset).toArray = ls at hl ⊢
  have hl : lv_has ls 8 [(0, .ref h0), (1, .int k), (2, .int wh)] := hl
  clear hts0 hD0 hAe
  refine my_abs (fun R Q hR hQ => ?_)
  refine lv_aload_n hx hb dX9_look_0 rfl (lv_at hl 0 rfl) ?_
  refine lv_iload_n hx hb dX9_look_1 rfl (lv_at hl 1 rfl) ?_
  have hPc := hP.sub (ws' := [(h0, .inr (9, [.ref m1, .ref m2, .ref m3, .int ik, .int wy, .int op, .int cl, .int cx0, .int cx1, .int cy0, .int cy1, .int ds, .ref m4, .ref m5, .ref m6, .ref m7, .ref m8, .ref m9, .int pn, .ref m10, .ref m11, .ref m12, .ref m13])), (m1, .inl (cI, 4, .inl gw))]) [0, 1] rfl
  have hDc := hD.sub (ws' := [(h0, .inr (9, [.ref m1, .ref m2, .ref m3, .int ik, .int wy, .int op, .int cl, .int cx0, .int cx1, .int cy0, .int cy1, .int ds, .ref m4, .ref m5, .ref m6, .ref m7, .ref m8, .ref m9, .int pn, .ref m10, .ref m11, .ref m12, .ref m13])), (m1, .inl (cI, 4, .inl gw))]) [0, 1] (by decide) rfl
  have hKc := hK.sub (tys' := [(cI, .int)]) [0] rfl
  have hFc := va_free (wc := [(h0, .inr (9, [.ref m1, .ref m2, .ref m3, .int ik, .int wy, .int op, .int cl, .int cx0, .int cx1, .int cy0, .int cy1, .int ds, .ref m4, .ref m5, .ref m6, .ref m7, .ref m8, .ref m9, .int pn, .ref m10, .ref m11, .ref m12, .ref m13])), (m1, .inl (cI, 4, .inl gw))]) hD hS hA [0, 1] rfl
  refine va_calli (va_runV (As := [.int k]) (rest := []) ⟨hx, hb, hml, hown, hts⟩ (k_X9_isSheet l D s.heap.size h0 m1 m2 m3 m4 m5 m6 m7 m8 m9 m10 m11 m12 m13 ik wy op cl cx0 cx1 cy0 cy1 ds pn gw k cI) (cwV 1 hts (gV bw_490 bw_415 bw_416 bw_391 bw_414) rfl rfl rfl (by decide +kernel) ⟨(by rw [hR]; exact Nat.le_of_ble_eq_true rfl), (by rw [hR]; exact Nat.le_of_ble_eq_true rfl)⟩) ⟨cP_blind, va_recv hKc hPc (ci := 9) (q0 := 0) rfl rfl, cP_at hPc hKc hDc hN⟩ rfl rfl hl.1 rfl (lv_room (Nat.le_of_ble_eq_true rfl)) dX9_look_2 ⟨(by rw [hR]; exact Nat.le_of_ble_eq_true rfl), (by rw [hR]; exact Nat.le_of_ble_eq_true rfl)⟩) hS (fun q _ h => hFc q h) hFc (fun r_1 u9 t9 H1 locs ht hvm hr_1 hB hz1 hk1 hS => ?_)
  try dsimp only at hr_1
  obtain ⟨hP1, hK1, hD1⟩ := hB
  rw [ht] at hP1
  obtain ⟨hP, hD⟩ := va_join (wr := []) (w1 := [(h0, .inr (9, [.ref m1, .ref m2, .ref m3, .int ik, .int wy, .int op, .int cl, .int cx0, .int cx1, .int cy0, .int cy1, .int ds, .ref m4, .ref m5, .ref m6, .ref m7, .ref m8, .ref m9, .int pn, .ref m10, .ref m11, .ref m12, .ref m13])), (m1, .inl (cI, 4, .inl gw))]) hP hD [0, 1] [] rfl rfl (by decide) (by decide) hk1 hFc hP1 hD1
  clear hz1 hk1 hFc hKc hDc hPc
  generalize H1 = H at hP hS ⊢
  have hP : va_P D vwCl [(h0, .inr (9, [.ref m1, .ref m2, .ref m3, .int ik, .int wy, .int op, .int cl, .int cx0, .int cx1, .int cy0, .int cy1, .int ds, .ref m4, .ref m5, .ref m6, .ref m7, .ref m8, .ref m9, .int pn, .ref m10, .ref m11, .ref m12, .ref m13])), (m1, .inl (cI, 4, .inl gw))] H := hP
  have hD : va_D A [(h0, .inr (9, [.ref m1, .ref m2, .ref m3, .int ik, .int wy, .int op, .int cl, .int cx0, .int cx1, .int cy0, .int cy1, .int ds, .ref m4, .ref m5, .ref m6, .ref m7, .ref m8, .ref m9, .int pn, .ref m10, .ref m11, .ref m12, .ref m13])), (m1, .inl (cI, 4, .inl gw))] := hD
  refine lv_if_eq (tgt := 18) hx hb dX9_look_5 (by decide) (fun c_2 => ?_) (fun c_2 => ?_)
  · skip
    have f_3 := bz0 hr_1 c_2
    refine lv_iconst (v := (-1)) hx hb dX9_look_18 (by decide) ?_
    have hP9 := hP.sub (ws' := [(h0, .inr (9, [.ref m1, .ref m2, .ref m3, .int ik, .int wy, .int op, .int cl, .int cx0, .int cx1, .int cy0, .int cy1, .int ds, .ref m4, .ref m5, .ref m6, .ref m7, .ref m8, .ref m9, .int pn, .ref m10, .ref m11, .ref m12, .ref m13])), (m1, .inl (cI, 4, .inl gw))]) [0, 1] rfl
    have hD9 := hD.sub (ws' := [(h0, .inr (9, [.ref m1, .ref m2, .ref m3, .int ik, .int wy, .int op, .int cl, .int cx0, .int cx1, .int cy0, .int cy1, .int ds, .ref m4, .ref m5, .ref m6, .ref m7, .ref m8, .ref m9, .int pn, .ref m10, .ref m11, .ref m12, .ref m13])), (m1, .inl (cI, 4, .inl gw))]) [0, 1] (by decide) rfl
    have hK9 := hK.sub (tys' := [(cI, .int)]) [0] rfl
    refine hQ _ _ _ _ _ ?_
    exact W.iret (v := (-1)) hx hb hr (fun t ht hW => ⟨⟨(-1), (), rfl, rfl, ⟨by rw [ht]; exact hP9, va_K.moved hW.alike hK9, hD9⟩⟩, hS.F ht⟩) hS.2.2 dX9_look_19
  · skip
    have f_3 := bz1 hr_1 c_2
    refine lv_iload_n hx hb dX9_look_8 rfl (lv_at hl 2 rfl) ?_
    refine lv_if_lt (tgt := 18) hx hb dX9_look_9 (by decide) (fun c_4 => ?_) (fun c_4 => ?_)
    · skip
      have f_5 : wh.toInt < 0 := f_lt rfl (by decide) c_4
      refine lv_iconst (v := (-1)) hx hb dX9_look_18 (by decide) ?_
      have hP9 := hP.sub (ws' := [(h0, .inr (9, [.ref m1, .ref m2, .ref m3, .int ik, .int wy, .int op, .int cl, .int cx0, .int cx1, .int cy0, .int cy1, .int ds, .ref m4, .ref m5, .ref m6, .ref m7, .ref m8, .ref m9, .int pn, .ref m10, .ref m11, .ref m12, .ref m13])), (m1, .inl (cI, 4, .inl gw))]) [0, 1] rfl
      have hD9 := hD.sub (ws' := [(h0, .inr (9, [.ref m1, .ref m2, .ref m3, .int ik, .int wy, .int op, .int cl, .int cx0, .int cx1, .int cy0, .int cy1, .int ds, .ref m4, .ref m5, .ref m6, .ref m7, .ref m8, .ref m9, .int pn, .ref m10, .ref m11, .ref m12, .ref m13])), (m1, .inl (cI, 4, .inl gw))]) [0, 1] (by decide) rfl
      have hK9 := hK.sub (tys' := [(cI, .int)]) [0] rfl
      refine hQ _ _ _ _ _ ?_
      exact W.iret (v := (-1)) hx hb hr (fun t ht hW => ⟨⟨(-1), (), rfl, rfl, ⟨by rw [ht]; exact hP9, va_K.moved hW.alike hK9, hD9⟩⟩, hS.F ht⟩) hS.2.2 dX9_look_19
    · skip
      have f_5 : ¬ (wh.toInt < 0) := fn_lt rfl (by decide) c_4
      refine lv_iload_n hx hb dX9_look_12 rfl (lv_at hl 2 rfl) ?_
      refine lv_bipush (v := 9) hx hb dX9_look_13 (by decide) ?_
      refine lv_icmp_le (tgt := 20) hx hb dX9_look_15 (by decide) (fun c_6 => ?_) (fun c_6 => ?_)
      · skip
        have f_7 : wh.toInt ≤ 9 := f_le rfl (by decide) c_6
        exact False.elim (by omega)
      · skip
        have f_7 : ¬ (wh.toInt ≤ 9) := fn_le rfl (by decide) c_6
        refine lv_iconst (v := (-1)) hx hb dX9_look_18 (by decide) ?_
        have hP9 := hP.sub (ws' := [(h0, .inr (9, [.ref m1, .ref m2, .ref m3, .int ik, .int wy, .int op, .int cl, .int cx0, .int cx1, .int cy0, .int cy1, .int ds, .ref m4, .ref m5, .ref m6, .ref m7, .ref m8, .ref m9, .int pn, .ref m10, .ref m11, .ref m12, .ref m13])), (m1, .inl (cI, 4, .inl gw))]) [0, 1] rfl
        have hD9 := hD.sub (ws' := [(h0, .inr (9, [.ref m1, .ref m2, .ref m3, .int ik, .int wy, .int op, .int cl, .int cx0, .int cx1, .int cy0, .int cy1, .int ds, .ref m4, .ref m5, .ref m6, .ref m7, .ref m8, .ref m9, .int pn, .ref m10, .ref m11, .ref m12, .ref m13])), (m1, .inl (cI, 4, .inl gw))]) [0, 1] (by decide) rfl
        have hK9 := hK.sub (tys' := [(cI, .int)]) [0] rfl
        refine hQ _ _ _ _ _ ?_
        exact W.iret (v := (-1)) hx hb hr (fun t ht hW => ⟨⟨(-1), (), rfl, rfl, ⟨by rw [ht]; exact hP9, va_K.moved hW.alike hK9, hD9⟩⟩, hS.F ht⟩) hS.2.2 dX9_look_19
