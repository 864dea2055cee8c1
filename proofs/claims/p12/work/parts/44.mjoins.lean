set_option maxHeartbeats 4000000 in
set_option maxRecDepth 100000 in
theorem k_X9_joins (l : Launch) (D : va_G) (sz : Nat) (h0 m1 m2 m3 m4 m5 m6 m7 m8 m9 m10 m11 m12 m13 : Nat) (ik wy op cl cx0 cx1 cy0 cy1 ds pn : Int32) (gw : Nat → Int32) (gh : Nat → Int32) (gd : Nat → Int32) (gm : Nat → Int32) (wt : Nat → Int32) (k x y co ic : Int32) (cI : ClassId) (cZ : ClassId) (hk : 0 ≤ k.toInt ∧ k.toInt ≤ 3) (hgw : (gw k.toNatClampNeg).toInt ≤ 64) (hgh : (gh k.toNatClampNeg).toInt ≤ 64) (hon : 0 ≤ x.toInt ∧ x.toInt < (gw k.toNatClampNeg).toInt ∧ 0 ≤ y.toInt ∧ y.toInt < (gh k.toNatClampNeg).toInt) : Met l yX9_joins (wB yX9_joins cX9_joins 15 none) ({ frames := 1, cells := 0, slots := 0, locals := 23 }) (cP D [(h0, .inr (9, [.ref m1, .ref m2, .ref m3, .int ik, .int wy, .int op, .int cl, .int cx0, .int cx1, .int cy0, .int cy1, .int ds, .ref m4, .ref m5, .ref m6, .ref m7, .ref m8, .ref m9, .int pn, .ref m10, .ref m11, .ref m12, .ref m13])), (m1, .inl (cI, 4, .inl gw)), (m2, .inl (cI, 4, .inl gh)), (m3, .inl (cI, 16384, .inl gd)), (m4, .inl (cZ, 4096, .inl gm)), (m13, .inl (cI, 4096, .inl wt))] [(cI, .int), (cZ, .boolean)] sz [.ref h0, .int k, .int x, .int y, .int co, .int ic]) (va_Qv (fun (_ : Unit) => True) (fun (_ : Unit) (t : State) => ∃ (g3 g6 : Nat → Int32), cB D (va_A [(h0, .inr (9, [.ref m1, .ref m2, .ref m3, .int ik, .int wy, .int op, .int cl, .int cx0, .int cx1, .int cy0, .int cy1, .int ds, .ref m4, .ref m5, .ref m6, .ref m7, .ref m8, .ref m9, .int pn, .ref m10, .ref m11, .ref m12, .ref m13])), (m1, .inl (cI, 4, .inl gw)), (m2, .inl (cI, 4, .inl gh)), (m3, .inl (cI, 16384, .inl gd)), (m4, .inl (cZ, 4096, .inl gm)), (m13, .inl (cI, 4096, .inl wt))] sz) [(h0, .inr (9, [.ref m1, .ref m2, .ref m3, .int ik, .int wy, .int op, .int cl, .int cx0, .int cx1, .int cy0, .int cy1, .int ds, .ref m4, .ref m5, .ref m6, .ref m7, .ref m8, .ref m9, .int pn, .ref m10, .ref m11, .ref m12, .ref m13])), (m1, .inl (cI, 4, .inl gw)), (m2, .inl (cI, 4, .inl gh)), (m3, .inl (cI, 16384, .inl gd)), (m4, .inl (cZ, 4096, .inl g3)), (m13, .inl (cI, 4096, .inl g6))] [(cI, .int), (cZ, .boolean)] t) (va_A [(h0, .inr (9, [.ref m1, .ref m2, .ref m3, .int ik, .int wy, .int op, .int cl, .int cx0, .int cx1, .int cy0, .int cy1, .int ds, .ref m4, .ref m5, .ref m6, .ref m7, .ref m8, .ref m9, .int pn, .ref m10, .ref m11, .ref m12, .ref m13])), (m1, .inl (cI, 4, .inl gw)), (m2, .inl (cI, 4, .inl gh)), (m3, .inl (cI, 16384, .inl gd)), (m4, .inl (cZ, 4096, .inl gm)), (m13, .inl (cI, 4096, .inl wt))] sz)) 0 0 (va_A [(h0, .inr (9, [.ref m1, .ref m2, .ref m3, .int ik, .int wy, .int op, .int cl, .int cx0, .int cx1, .int cy0, .int cy1, .int ds, .ref m4, .ref m5, .ref m6, .ref m7, .ref m8, .ref m9, .int pn, .ref m10, .ref m11, .ref m12, .ref m13])), (m1, .inl (cI, 4, .inl gw)), (m2, .inl (cI, 4, .inl gh)), (m3, .inl (cI, 16384, .inl gd)), (m4, .inl (cZ, 4096, .inl gm)), (m13, .inl (cI, 4096, .inl wt))] sz) := by
  refine Met.ofW (cc := cX9_joins) (maxL := 15) (ret := none) (by decide) rfl ?_
  intro p e s m args below meth c s₁ B hml hv
  obtain ⟨rfl, hsz, hP, hK, hD0, hN⟩ := hv
  have hx := B.exec
  have hb := B.bytes
  have hr := B.returns
  have hts0 := atoms_spec (ws := (wB yX9_joins cX9_joins 15 none)) B.pre
  have hts : ∀ w ∈ bigW, w.before _ s = true := fun w h => hts0 w (List.mem_cons_of_mem _ h)
  have hown : s.vm.findClass RX9 = some m.cls := findClass_of_methodNamed B.named
  have hlocks := B.notSynchronized
  subst hsz
  have hD := hD0.self (sz := s.heap.size)
  generalize hAe : va_A [(h0, .inr (9, [.ref m1, .ref m2, .ref m3, .int ik, .int wy, .int op, .int cl, .int cx0, .int cx1, .int cy0, .int cy1, .int ds, .ref m4, .ref m5, .ref m6, .ref m7, .ref m8, .ref m9, .int pn, .ref m10, .ref m11, .ref m12, .ref m13])), (m1, .inl (cI, 4, .inl gw)), (m2, .inl (cI, 4, .inl gh)), (m3, .inl (cI, 16384, .inl gd)), (m4, .inl (cZ, 4096, .inl gm)), (m13, .inl (cI, 4096, .inl wt))] s.heap.size = A at hD ⊢
  have hA : ∀ q : Nat, s.heap.size ≤ q → A q := fun q h => by rw [← hAe]; exact Or.inr h
  have hS : va_S A s.heap s.heap [] := va_S.rf
  have hP : va_P D vwCl [(h0, .inr (9, [.ref m1, .ref m2, .ref m3, .int ik, .int wy, .int op, .int cl, .int cx0, .int cx1, .int cy0, .int cy1, .int ds, .ref m4, .ref m5, .ref m6, .ref m7, .ref m8, .ref m9, .int pn, .ref m10, .ref m11, .ref m12, .ref m13])), (m1, .inl (cI, 4, .inl gw)), (m2, .inl (cI, 4, .inl gh)), (m3, .inl (cI, 16384, .inl gd)), (m4, .inl (cZ, 4096, .inl gm)), (m13, .inl (cI, 4096, .inl wt))] s.heap := hP
  have hl := lv_entry ([.ref h0, .int k, .int x, .int y, .int co, .int ic]) (n := 15) (Nat.le_of_ble_eq_true rfl)
  rw [lg_entry_eq]
  generalize (lg_sl ([.ref h0, .int k, .int x, .int y, .int co, .int ic]) ++ List.replicate (15 - (lg_sl ([.ref h0, .int k, .int x, .int y, .int co, .int ic])).length) Slot.unset).toArray = ls at hl ⊢
  have hl : lv_has ls 15 [(0, .ref h0), (1, .int k), (2, .int x), (3, .int y), (4, .int co), (5, .int ic)] := hl
  clear hts0 hD0 hAe
  refine my_abs (fun R Q hR hQ => ?_)
  refine lv_aload_n hx hb dX9_joins_0 rfl (lv_at hl 0 rfl) ?_
  have hPc := hP.sub (ws' := [(h0, .inr (9, [.ref m1, .ref m2, .ref m3, .int ik, .int wy, .int op, .int cl, .int cx0, .int cx1, .int cy0, .int cy1, .int ds, .ref m4, .ref m5, .ref m6, .ref m7, .ref m8, .ref m9, .int pn, .ref m10, .ref m11, .ref m12, .ref m13])), (m4, .inl (cZ, 4096, .inl gm))]) [0, 4] rfl
  have hDc := hD.sub (ws' := [(h0, .inr (9, [.ref m1, .ref m2, .ref m3, .int ik, .int wy, .int op, .int cl, .int cx0, .int cx1, .int cy0, .int cy1, .int ds, .ref m4, .ref m5, .ref m6, .ref m7, .ref m8, .ref m9, .int pn, .ref m10, .ref m11, .ref m12, .ref m13])), (m4, .inl (cZ, 4096, .inl gm))]) [0, 4] (by decide) rfl
  have hKc := hK.sub (tys' := [(cZ, .boolean)]) [1] rfl
  have hFc := va_free (wc := [(h0, .inr (9, [.ref m1, .ref m2, .ref m3, .int ik, .int wy, .int op, .int cl, .int cx0, .int cx1, .int cy0, .int cy1, .int ds, .ref m4, .ref m5, .ref m6, .ref m7, .ref m8, .ref m9, .int pn, .ref m10, .ref m11, .ref m12, .ref m13])), (m4, .inl (cZ, 4096, .inl gm))]) hD hS hA [0, 4] rfl
  refine va_callv (va_runV (As := []) (rest := []) ⟨hx, hb, hml, hown, hts⟩ (k_X9_begins l D s.heap.size h0 m1 m2 m3 m4 m5 m6 m7 m8 m9 m10 m11 m12 m13 ik wy op cl cx0 cx1 cy0 cy1 ds pn gm cZ) (cwV 0 hts (gV bw_493 bw_455 bw_456 bw_391 bw_454) rfl rfl rfl (by decide +kernel) ⟨(by rw [hR]; exact Nat.le_of_ble_eq_true rfl), (by rw [hR]; exact Nat.le_of_ble_eq_true rfl)⟩) ⟨cP_blind, va_recv hKc hPc (ci := 9) (q0 := 0) rfl rfl, cP_at hPc hKc hDc hN⟩ rfl rfl hl.1 rfl (lv_room (Nat.le_of_ble_eq_true rfl)) dX9_joins_1 ⟨(by rw [hR]; exact Nat.le_of_ble_eq_true rfl), (by rw [hR]; exact Nat.le_of_ble_eq_true rfl)⟩) hS (fun q _ h => hFc q h) hFc (fun u9 t9 H1 locs ht hvm hr_1 hB hz1 hk1 hS => ?_)
  try dsimp only at hr_1
  obtain ⟨hP1, hK1, hD1⟩ := hB
  rw [ht] at hP1
  obtain ⟨hP, hD⟩ := va_join (wr := [(m1, .inl (cI, 4, .inl gw)), (m2, .inl (cI, 4, .inl gh)), (m3, .inl (cI, 16384, .inl gd)), (m13, .inl (cI, 4096, .inl wt))]) (w1 := [(h0, .inr (9, [.ref m1, .ref m2, .ref m3, .int ik, .int wy, .int op, .int cl, .int cx0, .int cx1, .int cy0, .int cy1, .int ds, .ref m4, .ref m5, .ref m6, .ref m7, .ref m8, .ref m9, .int pn, .ref m10, .ref m11, .ref m12, .ref m13])), (m4, .inl (cZ, 4096, .inl (zrN gm 4096)))]) hP hD [0, 4] [1, 2, 3, 5] rfl rfl (by decide) (by decide) hk1 hFc hP1 hD1
  clear hz1 hk1 hFc hKc hDc hPc
  generalize H1 = H at hP hS ⊢
  have hP : va_P D vwCl [(m1, .inl (cI, 4, .inl gw)), (m2, .inl (cI, 4, .inl gh)), (m3, .inl (cI, 16384, .inl gd)), (m13, .inl (cI, 4096, .inl wt)), (h0, .inr (9, [.ref m1, .ref m2, .ref m3, .int ik, .int wy, .int op, .int cl, .int cx0, .int cx1, .int cy0, .int cy1, .int ds, .ref m4, .ref m5, .ref m6, .ref m7, .ref m8, .ref m9, .int pn, .ref m10, .ref m11, .ref m12, .ref m13])), (m4, .inl (cZ, 4096, .inl (zrN gm 4096)))] H := hP
  have hD : va_D A [(m1, .inl (cI, 4, .inl gw)), (m2, .inl (cI, 4, .inl gh)), (m3, .inl (cI, 16384, .inl gd)), (m13, .inl (cI, 4096, .inl wt)), (h0, .inr (9, [.ref m1, .ref m2, .ref m3, .int ik, .int wy, .int op, .int cl, .int cx0, .int cx1, .int cy0, .int cy1, .int ds, .ref m4, .ref m5, .ref m6, .ref m7, .ref m8, .ref m9, .int pn, .ref m10, .ref m11, .ref m12, .ref m13])), (m4, .inl (cZ, 4096, .inl (zrN gm 4096)))] := hD
  refine lv_aload_n hx hb dX9_joins_4 rfl (lv_at hl 0 rfl) ?_
  refine va_get (D := D) (ci := 9) (v := .ref m3) (C := RX9) (T := TX9) (N := 23) hx hb hts hi_X9 hown hK hP 4 rfl rfl 2 (by decide) (hts _ bw_398) (fun _ h9 => h9) rfl dX9_joins_5 ?_
  refine lv_iload_n hx hb dX9_joins_8 rfl (lv_at hl 1 rfl) ?_
  refine lv_iload_n hx hb dX9_joins_9 rfl (lv_at hl 2 rfl) ?_
  refine lv_iload_n hx hb dX9_joins_10 rfl (lv_at hl 3 rfl) ?_
  have hPc := hP.sub (ws' := []) [] rfl
  have hDc := hD.sub (ws' := []) [] (by decide) rfl
  have hKc := hK.sub (tys' := []) [] rfl
  have hFc := va_free (wc := []) hD hS hA [] rfl
  refine va_calli (va_runS (As := [.int k, .int x, .int y]) (rest := [.ref m3]) ⟨hx, hb, hml, hown, hts⟩ (k_X9_spot l D H.size k x y) (va_cwS 3 hts (gS bw_551 bw_421 bw_391 bw_420) rfl rfl rfl (by decide +kernel) ⟨(by rw [hR]; exact Nat.le_of_ble_eq_true rfl), (by rw [hR]; exact Nat.le_of_ble_eq_true rfl)⟩) ⟨cP_blind, cP_at hPc hKc hDc hN⟩ rfl rfl hl.1 rfl (lv_room (Nat.le_of_ble_eq_true rfl)) dX9_joins_11 ⟨(by rw [hR]; exact Nat.le_of_ble_eq_true rfl), (by rw [hR]; exact Nat.le_of_ble_eq_true rfl)⟩) hS (fun q _ h => hFc q h) hFc (fun r_2 u9 t9 H1 locs ht hvm hr_2 hB hz1 hk1 hS => ?_)
  try dsimp only at hr_2
  have hP1 : va_P D vwCl [] H1 := vP_nil
  have hD1 : va_D (va_A [] H.size) [] := vD_nil
  obtain ⟨hP, hD⟩ := va_join (wr := [(m1, .inl (cI, 4, .inl gw)), (m2, .inl (cI, 4, .inl gh)), (m3, .inl (cI, 16384, .inl gd)), (m13, .inl (cI, 4096, .inl wt)), (h0, .inr (9, [.ref m1, .ref m2, .ref m3, .int ik, .int wy, .int op, .int cl, .int cx0, .int cx1, .int cy0, .int cy1, .int ds, .ref m4, .ref m5, .ref m6, .ref m7, .ref m8, .ref m9, .int pn, .ref m10, .ref m11, .ref m12, .ref m13])), (m4, .inl (cZ, 4096, .inl (zrN gm 4096)))]) (w1 := []) hP hD [] [0, 1, 2, 3, 4, 5] rfl rfl (by decide) (by decide) hk1 hFc hP1 hD1
  clear hz1 hk1 hFc hKc hDc hPc
  generalize H1 = H at hP hS ⊢
  have hP : va_P D vwCl [(m1, .inl (cI, 4, .inl gw)), (m2, .inl (cI, 4, .inl gh)), (m3, .inl (cI, 16384, .inl gd)), (m13, .inl (cI, 4096, .inl wt)), (h0, .inr (9, [.ref m1, .ref m2, .ref m3, .int ik, .int wy, .int op, .int cl, .int cx0, .int cx1, .int cy0, .int cy1, .int ds, .ref m4, .ref m5, .ref m6, .ref m7, .ref m8, .ref m9, .int pn, .ref m10, .ref m11, .ref m12, .ref m13])), (m4, .inl (cZ, 4096, .inl (zrN gm 4096)))] H := hP
  have hD : va_D A [(m1, .inl (cI, 4, .inl gw)), (m2, .inl (cI, 4, .inl gh)), (m3, .inl (cI, 16384, .inl gd)), (m13, .inl (cI, 4096, .inl wt)), (h0, .inr (9, [.ref m1, .ref m2, .ref m3, .int ik, .int wy, .int op, .int cl, .int cx0, .int cx1, .int cy0, .int cy1, .int ds, .ref m4, .ref m5, .ref m6, .ref m7, .ref m8, .ref m9, .int pn, .ref m10, .ref m11, .ref m12, .ref m13])), (m4, .inl (cZ, 4096, .inl (zrN gm 4096)))] := hD
  refine va_iald hx hb hK hP 2 0 rfl rfl (by rw [hr_2]; exact sp_in (by omega) (by omega) (by omega) (by omega) (by omega) (by omega)) dX9_joins_14 ?_
  refine lv_topi (fun y_3 ey_3 => ?_)
  refine lv_istore (lv' := [(6, .int y_3), (0, .ref h0), (1, .int k), (2, .int x), (3, .int y), (4, .int co), (5, .int ic)]) hx hb dX9_joins_15 hl (by decide) rfl (fun ls hl => ?_)
  refine lv_iconst (v := 1) hx hb dX9_joins_17 (by decide) ?_
  refine lv_istore (lv' := [(7, .int 1), (6, .int y_3), (0, .ref h0), (1, .int k), (2, .int x), (3, .int y), (4, .int co), (5, .int ic)]) hx hb dX9_joins_18 hl (by decide) rfl (fun ls hl => ?_)
  refine lv_iconst (v := 0) hx hb dX9_joins_20 (by decide) ?_
  refine lv_istore (lv' := [(8, .int 0), (7, .int 1), (6, .int y_3), (0, .ref h0), (1, .int k), (2, .int x), (3, .int y), (4, .int co), (5, .int ic)]) hx hb dX9_joins_21 hl (by decide) rfl (fun ls hl => ?_)
  refine lv_aload_n hx hb dX9_joins_23 rfl (lv_at hl 3 rfl) ?_
  refine va_get (D := D) (ci := 9) (v := .ref m13) (C := RX9) (T := TX9) (N := 23) hx hb hts hi_X9 hown hK hP 4 rfl rfl 22 (by decide) (hts _ bw_413) (fun _ h9 => h9) rfl dX9_joins_24 ?_
  refine lv_iconst (v := 0) hx hb dX9_joins_27 (by decide) ?_
  refine lv_bipush (v := 64) hx hb dX9_joins_28 (by decide) ?_
  refine lv_iload_n hx hb dX9_joins_30 rfl (lv_at hl 6 rfl) ?_
  refine lv_imul hx hb dX9_joins_31 ?_
  refine lv_topi (fun y_4 ey_4 => ?_)
  refine lv_iload_n hx hb dX9_joins_32 rfl (lv_at hl 5 rfl) ?_
  refine lv_iadd hx hb dX9_joins_33 ?_
  refine lv_topi (fun y_5 ey_5 => ?_)
  refine va_iast hx hb hK hP hD hS 3 0 rfl rfl (my_in (by decide) (by decide)) dX9_joins_34 (fun H locs hP hD hS => ?_)
  have hP : va_P D vwCl [(m1, .inl (cI, 4, .inl gw)), (m2, .inl (cI, 4, .inl gh)), (m3, .inl (cI, 16384, .inl gd)), (m13, .inl (cI, 4096, .inl (upd wt (0 : Int32).toNatClampNeg y_5))), (h0, .inr (9, [.ref m1, .ref m2, .ref m3, .int ik, .int wy, .int op, .int cl, .int cx0, .int cx1, .int cy0, .int cy1, .int ds, .ref m4, .ref m5, .ref m6, .ref m7, .ref m8, .ref m9, .int pn, .ref m10, .ref m11, .ref m12, .ref m13])), (m4, .inl (cZ, 4096, .inl (zrN gm 4096)))] H := hP
  have hD : va_D A [(m1, .inl (cI, 4, .inl gw)), (m2, .inl (cI, 4, .inl gh)), (m3, .inl (cI, 16384, .inl gd)), (m13, .inl (cI, 4096, .inl (upd wt (0 : Int32).toNatClampNeg y_5))), (h0, .inr (9, [.ref m1, .ref m2, .ref m3, .int ik, .int wy, .int op, .int cl, .int cx0, .int cx1, .int cy0, .int cy1, .int ds, .ref m4, .ref m5, .ref m6, .ref m7, .ref m8, .ref m9, .int pn, .ref m10, .ref m11, .ref m12, .ref m13])), (m4, .inl (cZ, 4096, .inl (zrN gm 4096)))] := hD
  generalize eg_6 : upd wt (0 : Int32).toNatClampNeg y_5 = g_6 at hP hD
  have hP : va_P D vwCl [(m1, .inl (cI, 4, .inl gw)), (m2, .inl (cI, 4, .inl gh)), (m3, .inl (cI, 16384, .inl gd)), (m13, .inl (cI, 4096, .inl g_6)), (h0, .inr (9, [.ref m1, .ref m2, .ref m3, .int ik, .int wy, .int op, .int cl, .int cx0, .int cx1, .int cy0, .int cy1, .int ds, .ref m4, .ref m5, .ref m6, .ref m7, .ref m8, .ref m9, .int pn, .ref m10, .ref m11, .ref m12, .ref m13])), (m4, .inl (cZ, 4096, .inl (zrN gm 4096)))] H := hP
  have hD : va_D A [(m1, .inl (cI, 4, .inl gw)), (m2, .inl (cI, 4, .inl gh)), (m3, .inl (cI, 16384, .inl gd)), (m13, .inl (cI, 4096, .inl g_6)), (h0, .inr (9, [.ref m1, .ref m2, .ref m3, .int ik, .int wy, .int op, .int cl, .int cx0, .int cx1, .int cy0, .int cy1, .int ds, .ref m4, .ref m5, .ref m6, .ref m7, .ref m8, .ref m9, .int pn, .ref m10, .ref m11, .ref m12, .ref m13])), (m4, .inl (cZ, 4096, .inl (zrN gm 4096)))] := hD
  refine lv_aload_n hx hb dX9_joins_35 rfl (lv_at hl 3 rfl) ?_
  refine va_get (D := D) (ci := 9) (v := .ref m4) (C := RX9) (T := TX9) (N := 23) hx hb hts hi_X9 hown hK hP 4 rfl rfl 12 (by decide) (hts _ bw_404) (fun _ h9 => h9) rfl dX9_joins_36 ?_
  refine lv_aload_n hx hb dX9_joins_39 rfl (lv_at hl 3 rfl) ?_
  refine va_get (D := D) (ci := 9) (v := .ref m13) (C := RX9) (T := TX9) (N := 23) hx hb hts hi_X9 hown hK hP 4 rfl rfl 22 (by decide) (hts _ bw_413) (fun _ h9 => h9) rfl dX9_joins_40 ?_
  refine lv_iconst (v := 0) hx hb dX9_joins_43 (by decide) ?_
  refine va_iald hx hb hK hP 3 0 rfl rfl (my_in (by decide) (by decide)) dX9_joins_44 ?_
  refine my_fold (v := y_5) (by rw [← eg_6]; exact pk_us) ?_
  refine lv_iconst (v := 1) hx hb dX9_joins_45 (by decide) ?_
  refine va_zast hx hb hK hP hD hS 5 1 rfl rfl (by rw [ey_5, ey_4]; exact ix_in2 (by omega) (by omega) (by omega) (by omega)) dX9_joins_46 (fun H locs hP hD hS => ?_)
  have hP : va_P D vwCl [(m1, .inl (cI, 4, .inl gw)), (m2, .inl (cI, 4, .inl gh)), (m3, .inl (cI, 16384, .inl gd)), (m13, .inl (cI, 4096, .inl g_6)), (h0, .inr (9, [.ref m1, .ref m2, .ref m3, .int ik, .int wy, .int op, .int cl, .int cx0, .int cx1, .int cy0, .int cy1, .int ds, .ref m4, .ref m5, .ref m6, .ref m7, .ref m8, .ref m9, .int pn, .ref m10, .ref m11, .ref m12, .ref m13])), (m4, .inl (cZ, 4096, .inl (upd (zrN gm 4096) y_5.toNatClampNeg (vp_nar .boolean 1))))] H := hP
  have hD : va_D A [(m1, .inl (cI, 4, .inl gw)), (m2, .inl (cI, 4, .inl gh)), (m3, .inl (cI, 16384, .inl gd)), (m13, .inl (cI, 4096, .inl g_6)), (h0, .inr (9, [.ref m1, .ref m2, .ref m3, .int ik, .int wy, .int op, .int cl, .int cx0, .int cx1, .int cy0, .int cy1, .int ds, .ref m4, .ref m5, .ref m6, .ref m7, .ref m8, .ref m9, .int pn, .ref m10, .ref m11, .ref m12, .ref m13])), (m4, .inl (cZ, 4096, .inl (upd (zrN gm 4096) y_5.toNatClampNeg (vp_nar .boolean 1))))] := hD
  generalize eg_7 : upd (zrN gm 4096) y_5.toNatClampNeg (vp_nar .boolean 1) = g_7 at hP hD
  have hP : va_P D vwCl [(m1, .inl (cI, 4, .inl gw)), (m2, .inl (cI, 4, .inl gh)), (m3, .inl (cI, 16384, .inl gd)), (m13, .inl (cI, 4096, .inl g_6)), (h0, .inr (9, [.ref m1, .ref m2, .ref m3, .int ik, .int wy, .int op, .int cl, .int cx0, .int cx1, .int cy0, .int cy1, .int ds, .ref m4, .ref m5, .ref m6, .ref m7, .ref m8, .ref m9, .int pn, .ref m10, .ref m11, .ref m12, .ref m13])), (m4, .inl (cZ, 4096, .inl g_7))] H := hP
  have hD : va_D A [(m1, .inl (cI, 4, .inl gw)), (m2, .inl (cI, 4, .inl gh)), (m3, .inl (cI, 16384, .inl gd)), (m13, .inl (cI, 4096, .inl g_6)), (h0, .inr (9, [.ref m1, .ref m2, .ref m3, .int ik, .int wy, .int op, .int cl, .int cx0, .int cx1, .int cy0, .int cy1, .int ds, .ref m4, .ref m5, .ref m6, .ref m7, .ref m8, .ref m9, .int pn, .ref m10, .ref m11, .ref m12, .ref m13])), (m4, .inl (cZ, 4096, .inl g_7))] := hD
  have hc0 : cntP g_7 4096 = 1 := by rw [← eg_7, cnt_new (cl_in (by rw [ey_5, ey_4]; exact ix_in2 (by omega) (by omega) (by omega) (by omega))) (zr_at (cl_in (by rw [ey_5, ey_4]; exact ix_in2 (by omega) (by omega) (by omega) (by omega)))), cnt_zr]
  have loop_8 : ∀ (n : Nat) (dn : Nat) (my : Nat) (x7 : Int32) (x8 : Int32) (gq : Nat → Int32) (gt : Nat → Int32) (H : Heap) (locs : List Loc) (ls : Array Slot), (4097 ≤ dn + n) → (dn ≤ my) → (x7 = nI my) → (x8 = nI dn) → (cntP gq 4096 = my) → va_P D vwCl [(m1, .inl (cI, 4, .inl gw)), (m2, .inl (cI, 4, .inl gh)), (m3, .inl (cI, 16384, .inl gd)), (m13, .inl (cI, 4096, .inl gt)), (h0, .inr (9, [.ref m1, .ref m2, .ref m3, .int ik, .int wy, .int op, .int cl, .int cx0, .int cx1, .int cy0, .int cy1, .int ds, .ref m4, .ref m5, .ref m6, .ref m7, .ref m8, .ref m9, .int pn, .ref m10, .ref m11, .ref m12, .ref m13])), (m4, .inl (cZ, 4096, .inl gq))] H → va_D A [(m1, .inl (cI, 4, .inl gw)), (m2, .inl (cI, 4, .inl gh)), (m3, .inl (cI, 16384, .inl gd)), (m13, .inl (cI, 4096, .inl gt)), (h0, .inr (9, [.ref m1, .ref m2, .ref m3, .int ik, .int wy, .int op, .int cl, .int cx0, .int cx1, .int cy0, .int cy1, .int ds, .ref m4, .ref m5, .ref m6, .ref m7, .ref m8, .ref m9, .int pn, .ref m10, .ref m11, .ref m12, .ref m13])), (m4, .inl (cZ, 4096, .inl gq))] → va_S A s.heap H locs → lv_has ls 15 [(8, .int x8), (7, .int x7), (6, .int y_3), (0, .ref h0), (1, .int k), (2, .int x), (3, .int y), (4, .int co), (5, .int ic)] → W p l e R s m ([.ref h0, .int k, .int x, .int y, .int co, .int ic] : List Value).toArray below meth c H locs 0 0 Q (F0 m 47 ls []) := by
    intro n
    induction n with
    | zero =>
      intro dn my x7 x8 gq gt H locs ls hm hd e7 e8 hcn hP hD hS hl
      exact absurd (show False by have := cntP_le gq 4096; omega) not_false
    | succ n ih_9 =>
      intro dn my x7 x8 gq gt H locs ls hm hd e7 e8 hcn hP hD hS hl
      have hmy : my ≤ 4096 := by rw [← hcn]; exact cntP_le gq 4096
      have hx8 : x8.toInt = (dn : Int) := by rw [e8]; exact nI_toInt (by omega)
      have hx7 : x7.toInt = (my : Int) := by rw [e7]; exact nI_toInt (by omega)
      refine lv_iload hx hb dX9_joins_47 (lv_at hl 0 rfl) ?_
      refine lv_iload hx hb dX9_joins_49 (lv_at hl 1 rfl) ?_
      refine lv_icmp_ge (tgt := 247) hx hb dX9_joins_51 (by decide) (fun c_10 => ?_) (fun c_10 => ?_)
      · skip
        have f_11 : (my : Int) ≤ (dn : Int) := f_le hx7 hx8 c_10
        have hP9 := hP.sub (ws' := [(h0, .inr (9, [.ref m1, .ref m2, .ref m3, .int ik, .int wy, .int op, .int cl, .int cx0, .int cx1, .int cy0, .int cy1, .int ds, .ref m4, .ref m5, .ref m6, .ref m7, .ref m8, .ref m9, .int pn, .ref m10, .ref m11, .ref m12, .ref m13])), (m1, .inl (cI, 4, .inl gw)), (m2, .inl (cI, 4, .inl gh)), (m3, .inl (cI, 16384, .inl gd)), (m4, .inl (cZ, 4096, .inl gq)), (m13, .inl (cI, 4096, .inl gt))]) [4, 0, 1, 2, 5, 3] rfl
        have hD9 := hD.sub (ws' := [(h0, .inr (9, [.ref m1, .ref m2, .ref m3, .int ik, .int wy, .int op, .int cl, .int cx0, .int cx1, .int cy0, .int cy1, .int ds, .ref m4, .ref m5, .ref m6, .ref m7, .ref m8, .ref m9, .int pn, .ref m10, .ref m11, .ref m12, .ref m13])), (m1, .inl (cI, 4, .inl gw)), (m2, .inl (cI, 4, .inl gh)), (m3, .inl (cI, 16384, .inl gd)), (m4, .inl (cZ, 4096, .inl gq)), (m13, .inl (cI, 4096, .inl gt))]) [4, 0, 1, 2, 5, 3] (by decide) rfl
        have hK9 := hK.sub (tys' := [(cI, .int), (cZ, .boolean)]) [0, 1] rfl
        refine hQ _ _ _ _ _ ?_
        exact W.vret hx hb hr (fun t ht hW => ⟨⟨(), rfl, trivial, ⟨gq, gt, by rw [ht]; exact hP9, va_K.moved hW.alike hK9, hD9⟩⟩, hS.F ht⟩) hS.2.2 dX9_joins_247
      · skip
        have f_11 : ¬ ((my : Int) ≤ (dn : Int)) := fn_le hx7 hx8 c_10
        refine lv_aload_n hx hb dX9_joins_54 rfl (lv_at hl 3 rfl) ?_
        refine va_get (D := D) (ci := 9) (v := .ref m13) (C := RX9) (T := TX9) (N := 23) hx hb hts hi_X9 hown hK hP 4 rfl rfl 22 (by decide) (hts _ bw_413) (fun _ h9 => h9) rfl dX9_joins_55 ?_
        refine lv_iload hx hb dX9_joins_58 (lv_at hl 0 rfl) ?_
        refine va_iald hx hb hK hP 3 0 rfl rfl (vp_in_iff.mpr ⟨by omega, by omega⟩) dX9_joins_60 ?_
        refine lv_topi (fun y_12 ey_12 => ?_)
        refine lv_bipush (v := 64) hx hb dX9_joins_61 (by decide) ?_
        refine lv_irem hx hb dX9_joins_63 (by decide) ?_
        refine lv_topi (fun y_13 ey_13 => ?_)
        refine lv_istore (lv' := [(9, .int y_13), (8, .int x8), (7, .int x7), (6, .int y_3), (0, .ref h0), (1, .int k), (2, .int x), (3, .int y), (4, .int co), (5, .int ic)]) hx hb dX9_joins_64 hl (by decide) rfl (fun ls hl => ?_)
        refine lv_aload_n hx hb dX9_joins_66 rfl (lv_at hl 4 rfl) ?_
        refine va_get (D := D) (ci := 9) (v := .ref m13) (C := RX9) (T := TX9) (N := 23) hx hb hts hi_X9 hown hK hP 4 rfl rfl 22 (by decide) (hts _ bw_413) (fun _ h9 => h9) rfl dX9_joins_67 ?_
        refine lv_iload hx hb dX9_joins_70 (lv_at hl 1 rfl) ?_
        refine va_iald hx hb hK hP 3 0 rfl rfl (vp_in_iff.mpr ⟨by omega, by omega⟩) dX9_joins_72 ?_
        refine lv_topi (fun y_14 ey_14 => ?_)
        refine lv_bipush (v := 64) hx hb dX9_joins_73 (by decide) ?_
        refine lv_idiv hx hb dX9_joins_75 (by decide) ?_
        refine lv_topi (fun y_15 ey_15 => ?_)
        refine lv_istore (lv' := [(10, .int y_15), (9, .int y_13), (8, .int x8), (7, .int x7), (6, .int y_3), (0, .ref h0), (1, .int k), (2, .int x), (3, .int y), (4, .int co), (5, .int ic)]) hx hb dX9_joins_76 hl (by decide) rfl (fun ls hl => ?_)
        refine lv_iload hx hb dX9_joins_78 (lv_at hl 2 rfl) ?_
        refine lv_iconst (v := 1) hx hb dX9_joins_80 (by decide) ?_
        refine lv_iadd hx hb dX9_joins_81 ?_
        refine lv_topi (fun y_16 ey_16 => ?_)
        refine lv_istore (lv' := [(8, .int y_16), (10, .int y_15), (9, .int y_13), (7, .int x7), (6, .int y_3), (0, .ref h0), (1, .int k), (2, .int x), (3, .int y), (4, .int co), (5, .int ic)]) hx hb dX9_joins_82 hl (by decide) rfl (fun ls hl => ?_)
        refine lv_iconst (v := 0) hx hb dX9_joins_84 (by decide) ?_
        refine lv_istore (lv' := [(11, .int 0), (8, .int y_16), (10, .int y_15), (9, .int y_13), (7, .int x7), (6, .int y_3), (0, .ref h0), (1, .int k), (2, .int x), (3, .int y), (4, .int co), (5, .int ic)]) hx hb dX9_joins_85 hl (by decide) rfl (fun ls hl => ?_)
        have loop_17 : ∀ (n : Nat) (i : Nat) (my2 : Nat) (x11 : Int32) (z7 : Int32) (gu : Nat → Int32) (gs : Nat → Int32) (H : Heap) (locs : List Loc) (ls : Array Slot), (i ≤ 9) → (9 + 1 ≤ i + n) → (x11 = nI i) → (z7 = nI my2) → (cntP gu 4096 = my2) → (my ≤ my2) → va_P D vwCl [(m1, .inl (cI, 4, .inl gw)), (m2, .inl (cI, 4, .inl gh)), (m3, .inl (cI, 16384, .inl gd)), (m13, .inl (cI, 4096, .inl gs)), (h0, .inr (9, [.ref m1, .ref m2, .ref m3, .int ik, .int wy, .int op, .int cl, .int cx0, .int cx1, .int cy0, .int cy1, .int ds, .ref m4, .ref m5, .ref m6, .ref m7, .ref m8, .ref m9, .int pn, .ref m10, .ref m11, .ref m12, .ref m13])), (m4, .inl (cZ, 4096, .inl gu))] H → va_D A [(m1, .inl (cI, 4, .inl gw)), (m2, .inl (cI, 4, .inl gh)), (m3, .inl (cI, 16384, .inl gd)), (m13, .inl (cI, 4096, .inl gs)), (h0, .inr (9, [.ref m1, .ref m2, .ref m3, .int ik, .int wy, .int op, .int cl, .int cx0, .int cx1, .int cy0, .int cy1, .int ds, .ref m4, .ref m5, .ref m6, .ref m7, .ref m8, .ref m9, .int pn, .ref m10, .ref m11, .ref m12, .ref m13])), (m4, .inl (cZ, 4096, .inl gu))] → va_S A s.heap H locs → lv_has ls 15 [(11, .int x11), (8, .int y_16), (10, .int y_15), (9, .int y_13), (7, .int z7), (6, .int y_3), (0, .ref h0), (1, .int k), (2, .int x), (3, .int y), (4, .int co), (5, .int ic)] → W p l e R s m ([.ref h0, .int k, .int x, .int y, .int co, .int ic] : List Value).toArray below meth c H locs 0 0 Q (F0 m 87 ls []) := by
          intro n
          induction n with
          | zero =>
            intro i my2 x11 z7 gu gs H locs ls hi_i hm_i ex_i f7 fcn fd hP hD hS hl
            exact absurd (show False by omega) not_false
          | succ n ih_18 =>
            intro i my2 x11 z7 gu gs H locs ls hi_i hm_i ex_i f7 fcn fd hP hD hS hl
            have hx_i : x11.toInt = (i : Int) := by rw [ex_i]; exact nI_toInt (by omega)
            have hc_i : x11.toNatClampNeg = i := by rw [ex_i]; exact nI_clamp (by omega)
            have hmy2 : my2 ≤ 4096 := by rw [← fcn]; exact cntP_le gu 4096
            have hz7 : z7.toInt = (my2 : Int) := by rw [f7]; exact nI_toInt (by omega)
            refine lv_iload hx hb dX9_joins_87 (lv_at hl 0 rfl) ?_
            refine lv_bipush (v := 9) hx hb dX9_joins_89 (by decide) ?_
            refine lv_icmp_ge (tgt := 244) hx hb dX9_joins_91 (by decide) (fun c_19 => ?_) (fun c_19 => ?_)
            · skip
              have f_20 : 9 ≤ (i : Int) := f_le (by decide) hx_i c_19
              refine lv_goto (tgt := 47) hx hb dX9_joins_244 (by decide) ?_
              exact ih_9 (dn + 1) my2 z7 y_16 gu gs _ _ _ (by omega) (by omega) f7 (by rw [ey_16, e8]; exact nI_1 dn) fcn (hP.sub (ws' := [(m1, .inl (cI, 4, .inl gw)), (m2, .inl (cI, 4, .inl gh)), (m3, .inl (cI, 16384, .inl gd)), (m13, .inl (cI, 4096, .inl gs)), (h0, .inr (9, [.ref m1, .ref m2, .ref m3, .int ik, .int wy, .int op, .int cl, .int cx0, .int cx1, .int cy0, .int cy1, .int ds, .ref m4, .ref m5, .ref m6, .ref m7, .ref m8, .ref m9, .int pn, .ref m10, .ref m11, .ref m12, .ref m13])), (m4, .inl (cZ, 4096, .inl gu))]) [0, 1, 2, 3, 4, 5] rfl) (hD.sub (ws' := [(m1, .inl (cI, 4, .inl gw)), (m2, .inl (cI, 4, .inl gh)), (m3, .inl (cI, 16384, .inl gd)), (m13, .inl (cI, 4096, .inl gs)), (h0, .inr (9, [.ref m1, .ref m2, .ref m3, .int ik, .int wy, .int op, .int cl, .int cx0, .int cx1, .int cy0, .int cy1, .int ds, .ref m4, .ref m5, .ref m6, .ref m7, .ref m8, .ref m9, .int pn, .ref m10, .ref m11, .ref m12, .ref m13])), (m4, .inl (cZ, 4096, .inl gu))]) [0, 1, 2, 3, 4, 5] (by decide) rfl) hS (lv_sub hl [1, 4, 5, 6, 7, 8, 9, 10, 11] rfl)
            · skip
              have f_20 : ¬ (9 ≤ (i : Int)) := fn_le (by decide) hx_i c_19
              refine lv_iload hx hb dX9_joins_94 (lv_at hl 0 rfl) ?_
              refine lv_iconst (v := 3) hx hb dX9_joins_96 (by decide) ?_
              refine lv_irem hx hb dX9_joins_97 (by decide) ?_
              refine lv_topi (fun y_21 ey_21 => ?_)
              refine lv_iconst (v := 1) hx hb dX9_joins_98 (by decide) ?_
              refine lv_isub hx hb dX9_joins_99 ?_
              refine lv_topi (fun y_22 ey_22 => ?_)
              refine lv_istore (lv' := [(12, .int y_22), (11, .int x11), (8, .int y_16), (10, .int y_15), (9, .int y_13), (7, .int z7), (6, .int y_3), (0, .ref h0), (1, .int k), (2, .int x), (3, .int y), (4, .int co), (5, .int ic)]) hx hb dX9_joins_100 hl (by decide) rfl (fun ls hl => ?_)
              refine lv_iload hx hb dX9_joins_102 (lv_at hl 1 rfl) ?_
              refine lv_iconst (v := 3) hx hb dX9_joins_104 (by decide) ?_
              refine lv_idiv hx hb dX9_joins_105 (by decide) ?_
              refine lv_topi (fun y_23 ey_23 => ?_)
              refine lv_iconst (v := 1) hx hb dX9_joins_106 (by decide) ?_
              refine lv_isub hx hb dX9_joins_107 ?_
              refine lv_topi (fun y_24 ey_24 => ?_)
              refine lv_istore (lv' := [(13, .int y_24), (12, .int y_22), (11, .int x11), (8, .int y_16), (10, .int y_15), (9, .int y_13), (7, .int z7), (6, .int y_3), (0, .ref h0), (1, .int k), (2, .int x), (3, .int y), (4, .int co), (5, .int ic)]) hx hb dX9_joins_108 hl (by decide) rfl (fun ls hl => ?_)
              refine lv_iload hx hb dX9_joins_110 (lv_at hl 12 rfl) ?_
              refine lv_if_ne (tgt := 125) hx hb dX9_joins_112 (by decide) (fun c_25 => ?_) (fun c_25 => ?_)
              · skip
                have f_26 : ¬ (co.toInt = 0) := fn_eq rfl (by decide) c_25
                refine lv_aload_n hx hb dX9_joins_125 rfl (lv_at hl 8 rfl) ?_
                refine lv_iload_n hx hb dX9_joins_126 rfl (lv_at hl 9 rfl) ?_
                refine lv_iload hx hb dX9_joins_127 (lv_at hl 5 rfl) ?_
                refine lv_iload hx hb dX9_joins_129 (lv_at hl 1 rfl) ?_
                refine lv_iadd hx hb dX9_joins_131 ?_
                refine lv_topi (fun y_27 ey_27 => ?_)
                refine lv_iload hx hb dX9_joins_132 (lv_at hl 4 rfl) ?_
                refine lv_iload hx hb dX9_joins_134 (lv_at hl 0 rfl) ?_
                refine lv_iadd hx hb dX9_joins_136 ?_
                refine lv_topi (fun y_28 ey_28 => ?_)
                have hPc := hP.sub (ws' := [(h0, .inr (9, [.ref m1, .ref m2, .ref m3, .int ik, .int wy, .int op, .int cl, .int cx0, .int cx1, .int cy0, .int cy1, .int ds, .ref m4, .ref m5, .ref m6, .ref m7, .ref m8, .ref m9, .int pn, .ref m10, .ref m11, .ref m12, .ref m13])), (m1, .inl (cI, 4, .inl gw)), (m2, .inl (cI, 4, .inl gh))]) [4, 0, 1] rfl
                have hDc := hD.sub (ws' := [(h0, .inr (9, [.ref m1, .ref m2, .ref m3, .int ik, .int wy, .int op, .int cl, .int cx0, .int cx1, .int cy0, .int cy1, .int ds, .ref m4, .ref m5, .ref m6, .ref m7, .ref m8, .ref m9, .int pn, .ref m10, .ref m11, .ref m12, .ref m13])), (m1, .inl (cI, 4, .inl gw)), (m2, .inl (cI, 4, .inl gh))]) [4, 0, 1] (by decide) rfl
                have hKc := hK.sub (tys' := [(cI, .int)]) [0] rfl
                have hFc := va_free (wc := [(h0, .inr (9, [.ref m1, .ref m2, .ref m3, .int ik, .int wy, .int op, .int cl, .int cx0, .int cx1, .int cy0, .int cy1, .int ds, .ref m4, .ref m5, .ref m6, .ref m7, .ref m8, .ref m9, .int pn, .ref m10, .ref m11, .ref m12, .ref m13])), (m1, .inl (cI, 4, .inl gw)), (m2, .inl (cI, 4, .inl gh))]) hD hS hA [4, 0, 1] rfl
                refine va_calli (va_runV (As := [.int k, .int y_27, .int y_28]) (rest := []) ⟨hx, hb, hml, hown, hts⟩ (k_X9_isOn l D H.size h0 m1 m2 m3 m4 m5 m6 m7 m8 m9 m10 m11 m12 m13 ik wy op cl cx0 cx1 cy0 cy1 ds pn gw gh k y_27 y_28 cI (by omega)) (cwV 3 hts (gV bw_433 bw_418 bw_419 bw_391 bw_417) rfl rfl rfl (by decide +kernel) ⟨(by rw [hR]; exact Nat.le_of_ble_eq_true rfl), (by rw [hR]; exact Nat.le_of_ble_eq_true rfl)⟩) ⟨cP_blind, va_recv hKc hPc (ci := 9) (q0 := 0) rfl rfl, cP_at hPc hKc hDc hN⟩ rfl rfl hl.1 rfl (lv_room (Nat.le_of_ble_eq_true rfl)) dX9_joins_137 ⟨(by rw [hR]; exact Nat.le_of_ble_eq_true rfl), (by rw [hR]; exact Nat.le_of_ble_eq_true rfl)⟩) hS (fun q _ h => hFc q h) hFc (fun r_29 u9 t9 H1 locs ht hvm hr_29 hB hz1 hk1 hS => ?_)
                try dsimp only at hr_29
                obtain ⟨hP1, hK1, hD1⟩ := hB
                rw [ht] at hP1
                obtain ⟨hP, hD⟩ := va_join (wr := [(m3, .inl (cI, 16384, .inl gd)), (m13, .inl (cI, 4096, .inl gs)), (m4, .inl (cZ, 4096, .inl gu))]) (w1 := [(h0, .inr (9, [.ref m1, .ref m2, .ref m3, .int ik, .int wy, .int op, .int cl, .int cx0, .int cx1, .int cy0, .int cy1, .int ds, .ref m4, .ref m5, .ref m6, .ref m7, .ref m8, .ref m9, .int pn, .ref m10, .ref m11, .ref m12, .ref m13])), (m1, .inl (cI, 4, .inl gw)), (m2, .inl (cI, 4, .inl gh))]) hP hD [4, 0, 1] [2, 3, 5] rfl rfl (by decide) (by decide) hk1 hFc hP1 hD1
                clear hz1 hk1 hFc hKc hDc hPc
                generalize H1 = H at hP hS ⊢
                have hP : va_P D vwCl [(m3, .inl (cI, 16384, .inl gd)), (m13, .inl (cI, 4096, .inl gs)), (m4, .inl (cZ, 4096, .inl gu)), (h0, .inr (9, [.ref m1, .ref m2, .ref m3, .int ik, .int wy, .int op, .int cl, .int cx0, .int cx1, .int cy0, .int cy1, .int ds, .ref m4, .ref m5, .ref m6, .ref m7, .ref m8, .ref m9, .int pn, .ref m10, .ref m11, .ref m12, .ref m13])), (m1, .inl (cI, 4, .inl gw)), (m2, .inl (cI, 4, .inl gh))] H := hP
                have hD : va_D A [(m3, .inl (cI, 16384, .inl gd)), (m13, .inl (cI, 4096, .inl gs)), (m4, .inl (cZ, 4096, .inl gu)), (h0, .inr (9, [.ref m1, .ref m2, .ref m3, .int ik, .int wy, .int op, .int cl, .int cx0, .int cx1, .int cy0, .int cy1, .int ds, .ref m4, .ref m5, .ref m6, .ref m7, .ref m8, .ref m9, .int pn, .ref m10, .ref m11, .ref m12, .ref m13])), (m1, .inl (cI, 4, .inl gw)), (m2, .inl (cI, 4, .inl gh))] := hD
                refine lv_if_eq (tgt := 238) hx hb dX9_joins_140 (by decide) (fun c_30 => ?_) (fun c_30 => ?_)
                · skip
                  have f_31 := bz0 hr_29 c_30
                  obtain ⟨y_32, ey_32⟩ : ∃ y : Int32, y = x11 + 1 := ⟨_, rfl⟩
                  refine lv_iinc (v := y_32) (lv' := [(11, .int y_32), (13, .int y_24), (12, .int y_22), (8, .int y_16), (10, .int y_15), (9, .int y_13), (7, .int z7), (6, .int y_3), (0, .ref h0), (1, .int k), (2, .int x), (3, .int y), (4, .int co), (5, .int ic)]) hx hb dX9_joins_238 hl (k := 2) rfl (by rw [ey_32]; rfl) (by decide) rfl (fun ls hl => ?_)
                  refine lv_goto (tgt := 87) hx hb dX9_joins_241 (by decide) ?_
                  exact ih_18 (i + 1) my2 y_32 z7 gu gs _ _ _ (by omega) (by omega) (by rw [ey_32, ex_i]; exact nI_1 i) f7 fcn (by omega) (hP.sub (ws' := [(m1, .inl (cI, 4, .inl gw)), (m2, .inl (cI, 4, .inl gh)), (m3, .inl (cI, 16384, .inl gd)), (m13, .inl (cI, 4096, .inl gs)), (h0, .inr (9, [.ref m1, .ref m2, .ref m3, .int ik, .int wy, .int op, .int cl, .int cx0, .int cx1, .int cy0, .int cy1, .int ds, .ref m4, .ref m5, .ref m6, .ref m7, .ref m8, .ref m9, .int pn, .ref m10, .ref m11, .ref m12, .ref m13])), (m4, .inl (cZ, 4096, .inl gu))]) [4, 5, 0, 1, 3, 2] rfl) (hD.sub (ws' := [(m1, .inl (cI, 4, .inl gw)), (m2, .inl (cI, 4, .inl gh)), (m3, .inl (cI, 16384, .inl gd)), (m13, .inl (cI, 4096, .inl gs)), (h0, .inr (9, [.ref m1, .ref m2, .ref m3, .int ik, .int wy, .int op, .int cl, .int cx0, .int cx1, .int cy0, .int cy1, .int ds, .ref m4, .ref m5, .ref m6, .ref m7, .ref m8, .ref m9, .int pn, .ref m10, .ref m11, .ref m12, .ref m13])), (m4, .inl (cZ, 4096, .inl gu))]) [4, 5, 0, 1, 3, 2] (by decide) rfl) hS (lv_sub hl [0, 3, 4, 5, 6, 7, 8, 9, 10, 11, 12, 13] rfl)
                · skip
                  have f_31 := bz1 hr_29 c_30
                  refine lv_iload hx hb dX9_joins_143 (lv_at hl 13 rfl) ?_
                  refine lv_if_eq (tgt := 168) hx hb dX9_joins_145 (by decide) (fun c_33 => ?_) (fun c_33 => ?_)
                  · skip
                    have f_34 : ic.toInt = 0 := f_eq rfl (by decide) c_33
                    refine lv_bipush (v := 64) hx hb dX9_joins_168 (by decide) ?_
                    refine lv_iload hx hb dX9_joins_170 (lv_at hl 4 rfl) ?_
                    refine lv_iload hx hb dX9_joins_172 (lv_at hl 0 rfl) ?_
                    refine lv_iadd hx hb dX9_joins_174 ?_
                    refine lv_topi (fun y_35 ey_35 => ?_)
                    refine lv_imul hx hb dX9_joins_175 ?_
                    refine lv_topi (fun y_36 ey_36 => ?_)
                    refine lv_iload hx hb dX9_joins_176 (lv_at hl 5 rfl) ?_
                    refine lv_iadd hx hb dX9_joins_178 ?_
                    refine lv_topi (fun y_37 ey_37 => ?_)
                    refine lv_iload hx hb dX9_joins_179 (lv_at hl 1 rfl) ?_
                    refine lv_iadd hx hb dX9_joins_181 ?_
                    refine lv_topi (fun y_38 ey_38 => ?_)
                    have htoy_38 : y_38 = 64 * y_28 + y_27 := by rw [ey_38, ey_37, ey_36, ey_35, ey_28, ey_27, Int32.add_assoc]
                    have hiny_38 : vp_in y_38 4096 := by rw [htoy_38]; exact ix_in2 (by omega) (by omega) (by omega) (by omega)
                    refine lv_istore (lv' := [(14, .int y_38), (13, .int y_24), (12, .int y_22), (11, .int x11), (8, .int y_16), (10, .int y_15), (9, .int y_13), (7, .int z7), (6, .int y_3), (0, .ref h0), (1, .int k), (2, .int x), (3, .int y), (4, .int co), (5, .int ic)]) hx hb dX9_joins_182 hl (by decide) rfl (fun ls hl => ?_)
                    refine lv_aload_n hx hb dX9_joins_184 rfl (lv_at hl 9 rfl) ?_
                    refine va_get (D := D) (ci := 9) (v := .ref m4) (C := RX9) (T := TX9) (N := 23) hx hb hts hi_X9 hown hK hP 3 rfl rfl 12 (by decide) (hts _ bw_404) (fun _ h9 => h9) rfl dX9_joins_185 ?_
                    refine lv_iload hx hb dX9_joins_188 (lv_at hl 0 rfl) ?_
                    refine va_zald hx hb hK hP 2 1 rfl rfl hiny_38 dX9_joins_190 ?_
                    refine lv_if_ne (tgt := 238) hx hb dX9_joins_191 (by decide) (fun c_39 => ?_) (fun c_39 => ?_)
                    · skip
                      have f_40 : ¬ ((gu y_38.toNatClampNeg).toInt = 0) := fn_eq rfl (by decide) c_39
                      obtain ⟨y_41, ey_41⟩ : ∃ y : Int32, y = x11 + 1 := ⟨_, rfl⟩
                      refine lv_iinc (v := y_41) (lv' := [(11, .int y_41), (14, .int y_38), (13, .int y_24), (12, .int y_22), (8, .int y_16), (10, .int y_15), (9, .int y_13), (7, .int z7), (6, .int y_3), (0, .ref h0), (1, .int k), (2, .int x), (3, .int y), (4, .int co), (5, .int ic)]) hx hb dX9_joins_238 hl (k := 3) rfl (by rw [ey_41]; rfl) (by decide) rfl (fun ls hl => ?_)
                      refine lv_goto (tgt := 87) hx hb dX9_joins_241 (by decide) ?_
                      exact ih_18 (i + 1) my2 y_41 z7 gu gs _ _ _ (by omega) (by omega) (by rw [ey_41, ex_i]; exact nI_1 i) f7 fcn (by omega) (hP.sub (ws' := [(m1, .inl (cI, 4, .inl gw)), (m2, .inl (cI, 4, .inl gh)), (m3, .inl (cI, 16384, .inl gd)), (m13, .inl (cI, 4096, .inl gs)), (h0, .inr (9, [.ref m1, .ref m2, .ref m3, .int ik, .int wy, .int op, .int cl, .int cx0, .int cx1, .int cy0, .int cy1, .int ds, .ref m4, .ref m5, .ref m6, .ref m7, .ref m8, .ref m9, .int pn, .ref m10, .ref m11, .ref m12, .ref m13])), (m4, .inl (cZ, 4096, .inl gu))]) [4, 5, 0, 1, 3, 2] rfl) (hD.sub (ws' := [(m1, .inl (cI, 4, .inl gw)), (m2, .inl (cI, 4, .inl gh)), (m3, .inl (cI, 16384, .inl gd)), (m13, .inl (cI, 4096, .inl gs)), (h0, .inr (9, [.ref m1, .ref m2, .ref m3, .int ik, .int wy, .int op, .int cl, .int cx0, .int cx1, .int cy0, .int cy1, .int ds, .ref m4, .ref m5, .ref m6, .ref m7, .ref m8, .ref m9, .int pn, .ref m10, .ref m11, .ref m12, .ref m13])), (m4, .inl (cZ, 4096, .inl gu))]) [4, 5, 0, 1, 3, 2] (by decide) rfl) hS (lv_sub hl [0, 4, 5, 6, 7, 8, 9, 10, 11, 12, 13, 14] rfl)
                    · skip
                      have f_40 : (gu y_38.toNatClampNeg).toInt = 0 := f_eq rfl (by decide) c_39
                      refine lv_aload_n hx hb dX9_joins_194 rfl (lv_at hl 9 rfl) ?_
                      refine va_get (D := D) (ci := 9) (v := .ref m3) (C := RX9) (T := TX9) (N := 23) hx hb hts hi_X9 hown hK hP 3 rfl rfl 2 (by decide) (hts _ bw_398) (fun _ h9 => h9) rfl dX9_joins_195 ?_
                      refine lv_sipush (v := 4096) hx hb dX9_joins_198 (by decide) ?_
                      refine lv_iload_n hx hb dX9_joins_201 rfl (lv_at hl 10 rfl) ?_
                      refine lv_imul hx hb dX9_joins_202 ?_
                      refine lv_topi (fun y_42 ey_42 => ?_)
                      refine lv_iload hx hb dX9_joins_203 (lv_at hl 0 rfl) ?_
                      refine lv_iadd hx hb dX9_joins_205 ?_
                      refine lv_topi (fun y_43 ey_43 => ?_)
                      refine va_iald hx hb hK hP 0 0 rfl rfl (by rw [ey_43, ey_42]; exact kp_in (by omega) hiny_38) dX9_joins_206 ?_
                      refine lv_topi (fun y_44 ey_44 => ?_)
                      refine lv_iload hx hb dX9_joins_207 (lv_at hl 8 rfl) ?_
                      refine lv_icmp_eq (tgt := 215) hx hb dX9_joins_209 (by decide) (fun c_45 => ?_) (fun c_45 => ?_)
                      · skip
                        have f_46 : y_44.toInt = y_3.toInt := f_eq rfl rfl c_45
                        refine lv_aload_n hx hb dX9_joins_215 rfl (lv_at hl 9 rfl) ?_
                        refine va_get (D := D) (ci := 9) (v := .ref m4) (C := RX9) (T := TX9) (N := 23) hx hb hts hi_X9 hown hK hP 3 rfl rfl 12 (by decide) (hts _ bw_404) (fun _ h9 => h9) rfl dX9_joins_216 ?_
                        refine lv_iload hx hb dX9_joins_219 (lv_at hl 0 rfl) ?_
                        refine lv_iconst (v := 1) hx hb dX9_joins_221 (by decide) ?_
                        refine va_zast hx hb hK hP hD hS 2 1 rfl rfl hiny_38 dX9_joins_222 (fun H locs hP hD hS => ?_)
                        have hP : va_P D vwCl [(m3, .inl (cI, 16384, .inl gd)), (m13, .inl (cI, 4096, .inl gs)), (m4, .inl (cZ, 4096, .inl (upd gu y_38.toNatClampNeg (vp_nar .boolean 1)))), (h0, .inr (9, [.ref m1, .ref m2, .ref m3, .int ik, .int wy, .int op, .int cl, .int cx0, .int cx1, .int cy0, .int cy1, .int ds, .ref m4, .ref m5, .ref m6, .ref m7, .ref m8, .ref m9, .int pn, .ref m10, .ref m11, .ref m12, .ref m13])), (m1, .inl (cI, 4, .inl gw)), (m2, .inl (cI, 4, .inl gh))] H := hP
                        have hD : va_D A [(m3, .inl (cI, 16384, .inl gd)), (m13, .inl (cI, 4096, .inl gs)), (m4, .inl (cZ, 4096, .inl (upd gu y_38.toNatClampNeg (vp_nar .boolean 1)))), (h0, .inr (9, [.ref m1, .ref m2, .ref m3, .int ik, .int wy, .int op, .int cl, .int cx0, .int cx1, .int cy0, .int cy1, .int ds, .ref m4, .ref m5, .ref m6, .ref m7, .ref m8, .ref m9, .int pn, .ref m10, .ref m11, .ref m12, .ref m13])), (m1, .inl (cI, 4, .inl gw)), (m2, .inl (cI, 4, .inl gh))] := hD
                        generalize eg_47 : upd gu y_38.toNatClampNeg (vp_nar .boolean 1) = g_47 at hP hD
                        have hP : va_P D vwCl [(m3, .inl (cI, 16384, .inl gd)), (m13, .inl (cI, 4096, .inl gs)), (m4, .inl (cZ, 4096, .inl g_47)), (h0, .inr (9, [.ref m1, .ref m2, .ref m3, .int ik, .int wy, .int op, .int cl, .int cx0, .int cx1, .int cy0, .int cy1, .int ds, .ref m4, .ref m5, .ref m6, .ref m7, .ref m8, .ref m9, .int pn, .ref m10, .ref m11, .ref m12, .ref m13])), (m1, .inl (cI, 4, .inl gw)), (m2, .inl (cI, 4, .inl gh))] H := hP
                        have hD : va_D A [(m3, .inl (cI, 16384, .inl gd)), (m13, .inl (cI, 4096, .inl gs)), (m4, .inl (cZ, 4096, .inl g_47)), (h0, .inr (9, [.ref m1, .ref m2, .ref m3, .int ik, .int wy, .int op, .int cl, .int cx0, .int cx1, .int cy0, .int cy1, .int ds, .ref m4, .ref m5, .ref m6, .ref m7, .ref m8, .ref m9, .int pn, .ref m10, .ref m11, .ref m12, .ref m13])), (m1, .inl (cI, 4, .inl gw)), (m2, .inl (cI, 4, .inl gh))] := hD
                        have hcn2 : cntP g_47 4096 = my2 + 1 := by rw [← eg_47, cnt_new (cl_in hiny_38) c_39, fcn]
                        have hm2 : my2 + 1 ≤ 4096 := by rw [← hcn2]; exact cntP_le _ _
                        refine lv_aload_n hx hb dX9_joins_223 rfl (lv_at hl 9 rfl) ?_
                        refine va_get (D := D) (ci := 9) (v := .ref m13) (C := RX9) (T := TX9) (N := 23) hx hb hts hi_X9 hown hK hP 3 rfl rfl 22 (by decide) (hts _ bw_413) (fun _ h9 => h9) rfl dX9_joins_224 ?_
                        refine lv_iload hx hb dX9_joins_227 (lv_at hl 7 rfl) ?_
                        refine lv_iload hx hb dX9_joins_229 (lv_at hl 0 rfl) ?_
                        refine va_iast hx hb hK hP hD hS 1 0 rfl rfl (vp_in_iff.mpr ⟨by omega, by omega⟩) dX9_joins_231 (fun H locs hP hD hS => ?_)
                        have hP : va_P D vwCl [(m3, .inl (cI, 16384, .inl gd)), (m13, .inl (cI, 4096, .inl (upd gs z7.toNatClampNeg y_38))), (m4, .inl (cZ, 4096, .inl g_47)), (h0, .inr (9, [.ref m1, .ref m2, .ref m3, .int ik, .int wy, .int op, .int cl, .int cx0, .int cx1, .int cy0, .int cy1, .int ds, .ref m4, .ref m5, .ref m6, .ref m7, .ref m8, .ref m9, .int pn, .ref m10, .ref m11, .ref m12, .ref m13])), (m1, .inl (cI, 4, .inl gw)), (m2, .inl (cI, 4, .inl gh))] H := hP
                        have hD : va_D A [(m3, .inl (cI, 16384, .inl gd)), (m13, .inl (cI, 4096, .inl (upd gs z7.toNatClampNeg y_38))), (m4, .inl (cZ, 4096, .inl g_47)), (h0, .inr (9, [.ref m1, .ref m2, .ref m3, .int ik, .int wy, .int op, .int cl, .int cx0, .int cx1, .int cy0, .int cy1, .int ds, .ref m4, .ref m5, .ref m6, .ref m7, .ref m8, .ref m9, .int pn, .ref m10, .ref m11, .ref m12, .ref m13])), (m1, .inl (cI, 4, .inl gw)), (m2, .inl (cI, 4, .inl gh))] := hD
                        generalize eg_48 : upd gs z7.toNatClampNeg y_38 = g_48 at hP hD
                        have hP : va_P D vwCl [(m3, .inl (cI, 16384, .inl gd)), (m13, .inl (cI, 4096, .inl g_48)), (m4, .inl (cZ, 4096, .inl g_47)), (h0, .inr (9, [.ref m1, .ref m2, .ref m3, .int ik, .int wy, .int op, .int cl, .int cx0, .int cx1, .int cy0, .int cy1, .int ds, .ref m4, .ref m5, .ref m6, .ref m7, .ref m8, .ref m9, .int pn, .ref m10, .ref m11, .ref m12, .ref m13])), (m1, .inl (cI, 4, .inl gw)), (m2, .inl (cI, 4, .inl gh))] H := hP
                        have hD : va_D A [(m3, .inl (cI, 16384, .inl gd)), (m13, .inl (cI, 4096, .inl g_48)), (m4, .inl (cZ, 4096, .inl g_47)), (h0, .inr (9, [.ref m1, .ref m2, .ref m3, .int ik, .int wy, .int op, .int cl, .int cx0, .int cx1, .int cy0, .int cy1, .int ds, .ref m4, .ref m5, .ref m6, .ref m7, .ref m8, .ref m9, .int pn, .ref m10, .ref m11, .ref m12, .ref m13])), (m1, .inl (cI, 4, .inl gw)), (m2, .inl (cI, 4, .inl gh))] := hD
                        refine lv_iload hx hb dX9_joins_232 (lv_at hl 7 rfl) ?_
                        refine lv_iconst (v := 1) hx hb dX9_joins_234 (by decide) ?_
                        refine lv_iadd hx hb dX9_joins_235 ?_
                        refine lv_topi (fun y_49 ey_49 => ?_)
                        refine lv_istore (lv' := [(7, .int y_49), (14, .int y_38), (13, .int y_24), (12, .int y_22), (11, .int x11), (8, .int y_16), (10, .int y_15), (9, .int y_13), (6, .int y_3), (0, .ref h0), (1, .int k), (2, .int x), (3, .int y), (4, .int co), (5, .int ic)]) hx hb dX9_joins_236 hl (by decide) rfl (fun ls hl => ?_)
                        obtain ⟨y_50, ey_50⟩ : ∃ y : Int32, y = x11 + 1 := ⟨_, rfl⟩
                        refine lv_iinc (v := y_50) (lv' := [(11, .int y_50), (7, .int y_49), (14, .int y_38), (13, .int y_24), (12, .int y_22), (8, .int y_16), (10, .int y_15), (9, .int y_13), (6, .int y_3), (0, .ref h0), (1, .int k), (2, .int x), (3, .int y), (4, .int co), (5, .int ic)]) hx hb dX9_joins_238 hl (k := 4) rfl (by rw [ey_50]; rfl) (by decide) rfl (fun ls hl => ?_)
                        refine lv_goto (tgt := 87) hx hb dX9_joins_241 (by decide) ?_
                        exact ih_18 (i + 1) (my2 + 1) y_50 y_49 g_47 g_48 _ _ _ (by omega) (by omega) (by rw [ey_50, ex_i]; exact nI_1 i) (by rw [ey_49, f7]; exact nI_1 my2) hcn2 (by omega) (hP.sub (ws' := [(m1, .inl (cI, 4, .inl gw)), (m2, .inl (cI, 4, .inl gh)), (m3, .inl (cI, 16384, .inl gd)), (m13, .inl (cI, 4096, .inl g_48)), (h0, .inr (9, [.ref m1, .ref m2, .ref m3, .int ik, .int wy, .int op, .int cl, .int cx0, .int cx1, .int cy0, .int cy1, .int ds, .ref m4, .ref m5, .ref m6, .ref m7, .ref m8, .ref m9, .int pn, .ref m10, .ref m11, .ref m12, .ref m13])), (m4, .inl (cZ, 4096, .inl g_47))]) [4, 5, 0, 1, 3, 2] rfl) (hD.sub (ws' := [(m1, .inl (cI, 4, .inl gw)), (m2, .inl (cI, 4, .inl gh)), (m3, .inl (cI, 16384, .inl gd)), (m13, .inl (cI, 4096, .inl g_48)), (h0, .inr (9, [.ref m1, .ref m2, .ref m3, .int ik, .int wy, .int op, .int cl, .int cx0, .int cx1, .int cy0, .int cy1, .int ds, .ref m4, .ref m5, .ref m6, .ref m7, .ref m8, .ref m9, .int pn, .ref m10, .ref m11, .ref m12, .ref m13])), (m4, .inl (cZ, 4096, .inl g_47))]) [4, 5, 0, 1, 3, 2] (by decide) rfl) hS (lv_sub hl [0, 5, 6, 7, 1, 8, 9, 10, 11, 12, 13, 14] rfl)
                      · skip
                        have f_46 : ¬ (y_44.toInt = y_3.toInt) := fn_eq rfl rfl c_45
                        refine lv_goto (tgt := 238) hx hb dX9_joins_212 (by decide) ?_
                        obtain ⟨y_51, ey_51⟩ : ∃ y : Int32, y = x11 + 1 := ⟨_, rfl⟩
                        refine lv_iinc (v := y_51) (lv' := [(11, .int y_51), (14, .int y_38), (13, .int y_24), (12, .int y_22), (8, .int y_16), (10, .int y_15), (9, .int y_13), (7, .int z7), (6, .int y_3), (0, .ref h0), (1, .int k), (2, .int x), (3, .int y), (4, .int co), (5, .int ic)]) hx hb dX9_joins_238 hl (k := 3) rfl (by rw [ey_51]; rfl) (by decide) rfl (fun ls hl => ?_)
                        refine lv_goto (tgt := 87) hx hb dX9_joins_241 (by decide) ?_
                        exact ih_18 (i + 1) my2 y_51 z7 gu gs _ _ _ (by omega) (by omega) (by rw [ey_51, ex_i]; exact nI_1 i) f7 fcn (by omega) (hP.sub (ws' := [(m1, .inl (cI, 4, .inl gw)), (m2, .inl (cI, 4, .inl gh)), (m3, .inl (cI, 16384, .inl gd)), (m13, .inl (cI, 4096, .inl gs)), (h0, .inr (9, [.ref m1, .ref m2, .ref m3, .int ik, .int wy, .int op, .int cl, .int cx0, .int cx1, .int cy0, .int cy1, .int ds, .ref m4, .ref m5, .ref m6, .ref m7, .ref m8, .ref m9, .int pn, .ref m10, .ref m11, .ref m12, .ref m13])), (m4, .inl (cZ, 4096, .inl gu))]) [4, 5, 0, 1, 3, 2] rfl) (hD.sub (ws' := [(m1, .inl (cI, 4, .inl gw)), (m2, .inl (cI, 4, .inl gh)), (m3, .inl (cI, 16384, .inl gd)), (m13, .inl (cI, 4096, .inl gs)), (h0, .inr (9, [.ref m1, .ref m2, .ref m3, .int ik, .int wy, .int op, .int cl, .int cx0, .int cx1, .int cy0, .int cy1, .int ds, .ref m4, .ref m5, .ref m6, .ref m7, .ref m8, .ref m9, .int pn, .ref m10, .ref m11, .ref m12, .ref m13])), (m4, .inl (cZ, 4096, .inl gu))]) [4, 5, 0, 1, 3, 2] (by decide) rfl) hS (lv_sub hl [0, 4, 5, 6, 7, 8, 9, 10, 11, 12, 13, 14] rfl)
                  · skip
                    have f_34 : ¬ (ic.toInt = 0) := fn_eq rfl (by decide) c_33
                    refine lv_aload_n hx hb dX9_joins_148 rfl (lv_at hl 8 rfl) ?_
                    refine lv_iload hx hb dX9_joins_149 (lv_at hl 5 rfl) ?_
                    refine lv_iload hx hb dX9_joins_151 (lv_at hl 1 rfl) ?_
                    refine lv_iadd hx hb dX9_joins_153 ?_
                    refine lv_topi (fun y_52 ey_52 => ?_)
                    refine lv_iload hx hb dX9_joins_154 (lv_at hl 4 rfl) ?_
                    refine lv_iload hx hb dX9_joins_156 (lv_at hl 0 rfl) ?_
                    refine lv_iadd hx hb dX9_joins_158 ?_
                    refine lv_topi (fun y_53 ey_53 => ?_)
                    have hPc := hP.sub (ws' := [(h0, .inr (9, [.ref m1, .ref m2, .ref m3, .int ik, .int wy, .int op, .int cl, .int cx0, .int cx1, .int cy0, .int cy1, .int ds, .ref m4, .ref m5, .ref m6, .ref m7, .ref m8, .ref m9, .int pn, .ref m10, .ref m11, .ref m12, .ref m13]))]) [3] rfl
                    have hDc := hD.sub (ws' := [(h0, .inr (9, [.ref m1, .ref m2, .ref m3, .int ik, .int wy, .int op, .int cl, .int cx0, .int cx1, .int cy0, .int cy1, .int ds, .ref m4, .ref m5, .ref m6, .ref m7, .ref m8, .ref m9, .int pn, .ref m10, .ref m11, .ref m12, .ref m13]))]) [3] (by decide) rfl
                    have hKc := hK.sub (tys' := []) [] rfl
                    have hFc := va_free (wc := [(h0, .inr (9, [.ref m1, .ref m2, .ref m3, .int ik, .int wy, .int op, .int cl, .int cx0, .int cx1, .int cy0, .int cy1, .int ds, .ref m4, .ref m5, .ref m6, .ref m7, .ref m8, .ref m9, .int pn, .ref m10, .ref m11, .ref m12, .ref m13]))]) hD hS hA [3] rfl
                    refine va_calli (va_runV (As := [.int y_52, .int y_53]) (rest := []) ⟨hx, hb, hml, hown, hts⟩ (k_X9_isInClip l D H.size h0 m1 m2 m3 m4 m5 m6 m7 m8 m9 m10 m11 m12 m13 ik wy op cl cx0 cx1 cy0 cy1 ds pn y_52 y_53) (cwV 2 hts (gV bw_434 bw_423 bw_424 bw_391 bw_422) rfl rfl rfl (by decide +kernel) ⟨(by rw [hR]; exact Nat.le_of_ble_eq_true rfl), (by rw [hR]; exact Nat.le_of_ble_eq_true rfl)⟩) ⟨cP_blind, va_recv hKc hPc (ci := 9) (q0 := 0) rfl rfl, cP_at hPc hKc hDc hN⟩ rfl rfl hl.1 rfl (lv_room (Nat.le_of_ble_eq_true rfl)) dX9_joins_159 ⟨(by rw [hR]; exact Nat.le_of_ble_eq_true rfl), (by rw [hR]; exact Nat.le_of_ble_eq_true rfl)⟩) hS (fun q _ h => hFc q h) hFc (fun r_54 u9 t9 H1 locs ht hvm hr_54 hB hz1 hk1 hS => ?_)
                    try dsimp only at hr_54
                    obtain ⟨hP1, hK1, hD1⟩ := hB
                    rw [ht] at hP1
                    obtain ⟨hP, hD⟩ := va_join (wr := [(m3, .inl (cI, 16384, .inl gd)), (m13, .inl (cI, 4096, .inl gs)), (m4, .inl (cZ, 4096, .inl gu)), (m1, .inl (cI, 4, .inl gw)), (m2, .inl (cI, 4, .inl gh))]) (w1 := [(h0, .inr (9, [.ref m1, .ref m2, .ref m3, .int ik, .int wy, .int op, .int cl, .int cx0, .int cx1, .int cy0, .int cy1, .int ds, .ref m4, .ref m5, .ref m6, .ref m7, .ref m8, .ref m9, .int pn, .ref m10, .ref m11, .ref m12, .ref m13]))]) hP hD [3] [0, 1, 2, 4, 5] rfl rfl (by decide) (by decide) hk1 hFc hP1 hD1
                    clear hz1 hk1 hFc hKc hDc hPc
                    generalize H1 = H at hP hS ⊢
                    have hP : va_P D vwCl [(m3, .inl (cI, 16384, .inl gd)), (m13, .inl (cI, 4096, .inl gs)), (m4, .inl (cZ, 4096, .inl gu)), (m1, .inl (cI, 4, .inl gw)), (m2, .inl (cI, 4, .inl gh)), (h0, .inr (9, [.ref m1, .ref m2, .ref m3, .int ik, .int wy, .int op, .int cl, .int cx0, .int cx1, .int cy0, .int cy1, .int ds, .ref m4, .ref m5, .ref m6, .ref m7, .ref m8, .ref m9, .int pn, .ref m10, .ref m11, .ref m12, .ref m13]))] H := hP
                    have hD : va_D A [(m3, .inl (cI, 16384, .inl gd)), (m13, .inl (cI, 4096, .inl gs)), (m4, .inl (cZ, 4096, .inl gu)), (m1, .inl (cI, 4, .inl gw)), (m2, .inl (cI, 4, .inl gh)), (h0, .inr (9, [.ref m1, .ref m2, .ref m3, .int ik, .int wy, .int op, .int cl, .int cx0, .int cx1, .int cy0, .int cy1, .int ds, .ref m4, .ref m5, .ref m6, .ref m7, .ref m8, .ref m9, .int pn, .ref m10, .ref m11, .ref m12, .ref m13]))] := hD
                    refine lv_if_ne (tgt := 168) hx hb dX9_joins_162 (by decide) (fun c_55 => ?_) (fun c_55 => ?_)
                    · skip
                      have f_56 := bz1 hr_54 c_55
                      refine lv_bipush (v := 64) hx hb dX9_joins_168 (by decide) ?_
                      refine lv_iload hx hb dX9_joins_170 (lv_at hl 4 rfl) ?_
                      refine lv_iload hx hb dX9_joins_172 (lv_at hl 0 rfl) ?_
                      refine lv_iadd hx hb dX9_joins_174 ?_
                      refine lv_topi (fun y_57 ey_57 => ?_)
                      refine lv_imul hx hb dX9_joins_175 ?_
                      refine lv_topi (fun y_58 ey_58 => ?_)
                      refine lv_iload hx hb dX9_joins_176 (lv_at hl 5 rfl) ?_
                      refine lv_iadd hx hb dX9_joins_178 ?_
                      refine lv_topi (fun y_59 ey_59 => ?_)
                      refine lv_iload hx hb dX9_joins_179 (lv_at hl 1 rfl) ?_
                      refine lv_iadd hx hb dX9_joins_181 ?_
                      refine lv_topi (fun y_60 ey_60 => ?_)
                      have htoy_60 : y_60 = 64 * y_28 + y_27 := by rw [ey_60, ey_59, ey_58, ey_57, ey_28, ey_27, Int32.add_assoc]
                      have hiny_60 : vp_in y_60 4096 := by rw [htoy_60]; exact ix_in2 (by omega) (by omega) (by omega) (by omega)
                      refine lv_istore (lv' := [(14, .int y_60), (13, .int y_24), (12, .int y_22), (11, .int x11), (8, .int y_16), (10, .int y_15), (9, .int y_13), (7, .int z7), (6, .int y_3), (0, .ref h0), (1, .int k), (2, .int x), (3, .int y), (4, .int co), (5, .int ic)]) hx hb dX9_joins_182 hl (by decide) rfl (fun ls hl => ?_)
                      refine lv_aload_n hx hb dX9_joins_184 rfl (lv_at hl 9 rfl) ?_
                      refine va_get (D := D) (ci := 9) (v := .ref m4) (C := RX9) (T := TX9) (N := 23) hx hb hts hi_X9 hown hK hP 5 rfl rfl 12 (by decide) (hts _ bw_404) (fun _ h9 => h9) rfl dX9_joins_185 ?_
                      refine lv_iload hx hb dX9_joins_188 (lv_at hl 0 rfl) ?_
                      refine va_zald hx hb hK hP 2 1 rfl rfl hiny_60 dX9_joins_190 ?_
                      refine lv_if_ne (tgt := 238) hx hb dX9_joins_191 (by decide) (fun c_61 => ?_) (fun c_61 => ?_)
                      · skip
                        have f_62 : ¬ ((gu y_60.toNatClampNeg).toInt = 0) := fn_eq rfl (by decide) c_61
                        obtain ⟨y_63, ey_63⟩ : ∃ y : Int32, y = x11 + 1 := ⟨_, rfl⟩
                        refine lv_iinc (v := y_63) (lv' := [(11, .int y_63), (14, .int y_60), (13, .int y_24), (12, .int y_22), (8, .int y_16), (10, .int y_15), (9, .int y_13), (7, .int z7), (6, .int y_3), (0, .ref h0), (1, .int k), (2, .int x), (3, .int y), (4, .int co), (5, .int ic)]) hx hb dX9_joins_238 hl (k := 3) rfl (by rw [ey_63]; rfl) (by decide) rfl (fun ls hl => ?_)
                        refine lv_goto (tgt := 87) hx hb dX9_joins_241 (by decide) ?_
                        exact ih_18 (i + 1) my2 y_63 z7 gu gs _ _ _ (by omega) (by omega) (by rw [ey_63, ex_i]; exact nI_1 i) f7 fcn (by omega) (hP.sub (ws' := [(m1, .inl (cI, 4, .inl gw)), (m2, .inl (cI, 4, .inl gh)), (m3, .inl (cI, 16384, .inl gd)), (m13, .inl (cI, 4096, .inl gs)), (h0, .inr (9, [.ref m1, .ref m2, .ref m3, .int ik, .int wy, .int op, .int cl, .int cx0, .int cx1, .int cy0, .int cy1, .int ds, .ref m4, .ref m5, .ref m6, .ref m7, .ref m8, .ref m9, .int pn, .ref m10, .ref m11, .ref m12, .ref m13])), (m4, .inl (cZ, 4096, .inl gu))]) [3, 4, 0, 1, 5, 2] rfl) (hD.sub (ws' := [(m1, .inl (cI, 4, .inl gw)), (m2, .inl (cI, 4, .inl gh)), (m3, .inl (cI, 16384, .inl gd)), (m13, .inl (cI, 4096, .inl gs)), (h0, .inr (9, [.ref m1, .ref m2, .ref m3, .int ik, .int wy, .int op, .int cl, .int cx0, .int cx1, .int cy0, .int cy1, .int ds, .ref m4, .ref m5, .ref m6, .ref m7, .ref m8, .ref m9, .int pn, .ref m10, .ref m11, .ref m12, .ref m13])), (m4, .inl (cZ, 4096, .inl gu))]) [3, 4, 0, 1, 5, 2] (by decide) rfl) hS (lv_sub hl [0, 4, 5, 6, 7, 8, 9, 10, 11, 12, 13, 14] rfl)
                      · skip
                        have f_62 : (gu y_60.toNatClampNeg).toInt = 0 := f_eq rfl (by decide) c_61
                        refine lv_aload_n hx hb dX9_joins_194 rfl (lv_at hl 9 rfl) ?_
                        refine va_get (D := D) (ci := 9) (v := .ref m3) (C := RX9) (T := TX9) (N := 23) hx hb hts hi_X9 hown hK hP 5 rfl rfl 2 (by decide) (hts _ bw_398) (fun _ h9 => h9) rfl dX9_joins_195 ?_
                        refine lv_sipush (v := 4096) hx hb dX9_joins_198 (by decide) ?_
                        refine lv_iload_n hx hb dX9_joins_201 rfl (lv_at hl 10 rfl) ?_
                        refine lv_imul hx hb dX9_joins_202 ?_
                        refine lv_topi (fun y_64 ey_64 => ?_)
                        refine lv_iload hx hb dX9_joins_203 (lv_at hl 0 rfl) ?_
                        refine lv_iadd hx hb dX9_joins_205 ?_
                        refine lv_topi (fun y_65 ey_65 => ?_)
                        refine va_iald hx hb hK hP 0 0 rfl rfl (by rw [ey_65, ey_64]; exact kp_in (by omega) hiny_60) dX9_joins_206 ?_
                        refine lv_topi (fun y_66 ey_66 => ?_)
                        refine lv_iload hx hb dX9_joins_207 (lv_at hl 8 rfl) ?_
                        refine lv_icmp_eq (tgt := 215) hx hb dX9_joins_209 (by decide) (fun c_67 => ?_) (fun c_67 => ?_)
                        · skip
                          have f_68 : y_66.toInt = y_3.toInt := f_eq rfl rfl c_67
                          refine lv_aload_n hx hb dX9_joins_215 rfl (lv_at hl 9 rfl) ?_
                          refine va_get (D := D) (ci := 9) (v := .ref m4) (C := RX9) (T := TX9) (N := 23) hx hb hts hi_X9 hown hK hP 5 rfl rfl 12 (by decide) (hts _ bw_404) (fun _ h9 => h9) rfl dX9_joins_216 ?_
                          refine lv_iload hx hb dX9_joins_219 (lv_at hl 0 rfl) ?_
                          refine lv_iconst (v := 1) hx hb dX9_joins_221 (by decide) ?_
                          refine va_zast hx hb hK hP hD hS 2 1 rfl rfl hiny_60 dX9_joins_222 (fun H locs hP hD hS => ?_)
                          have hP : va_P D vwCl [(m3, .inl (cI, 16384, .inl gd)), (m13, .inl (cI, 4096, .inl gs)), (m4, .inl (cZ, 4096, .inl (upd gu y_60.toNatClampNeg (vp_nar .boolean 1)))), (m1, .inl (cI, 4, .inl gw)), (m2, .inl (cI, 4, .inl gh)), (h0, .inr (9, [.ref m1, .ref m2, .ref m3, .int ik, .int wy, .int op, .int cl, .int cx0, .int cx1, .int cy0, .int cy1, .int ds, .ref m4, .ref m5, .ref m6, .ref m7, .ref m8, .ref m9, .int pn, .ref m10, .ref m11, .ref m12, .ref m13]))] H := hP
                          have hD : va_D A [(m3, .inl (cI, 16384, .inl gd)), (m13, .inl (cI, 4096, .inl gs)), (m4, .inl (cZ, 4096, .inl (upd gu y_60.toNatClampNeg (vp_nar .boolean 1)))), (m1, .inl (cI, 4, .inl gw)), (m2, .inl (cI, 4, .inl gh)), (h0, .inr (9, [.ref m1, .ref m2, .ref m3, .int ik, .int wy, .int op, .int cl, .int cx0, .int cx1, .int cy0, .int cy1, .int ds, .ref m4, .ref m5, .ref m6, .ref m7, .ref m8, .ref m9, .int pn, .ref m10, .ref m11, .ref m12, .ref m13]))] := hD
                          generalize eg_69 : upd gu y_60.toNatClampNeg (vp_nar .boolean 1) = g_69 at hP hD
                          have hP : va_P D vwCl [(m3, .inl (cI, 16384, .inl gd)), (m13, .inl (cI, 4096, .inl gs)), (m4, .inl (cZ, 4096, .inl g_69)), (m1, .inl (cI, 4, .inl gw)), (m2, .inl (cI, 4, .inl gh)), (h0, .inr (9, [.ref m1, .ref m2, .ref m3, .int ik, .int wy, .int op, .int cl, .int cx0, .int cx1, .int cy0, .int cy1, .int ds, .ref m4, .ref m5, .ref m6, .ref m7, .ref m8, .ref m9, .int pn, .ref m10, .ref m11, .ref m12, .ref m13]))] H := hP
                          have hD : va_D A [(m3, .inl (cI, 16384, .inl gd)), (m13, .inl (cI, 4096, .inl gs)), (m4, .inl (cZ, 4096, .inl g_69)), (m1, .inl (cI, 4, .inl gw)), (m2, .inl (cI, 4, .inl gh)), (h0, .inr (9, [.ref m1, .ref m2, .ref m3, .int ik, .int wy, .int op, .int cl, .int cx0, .int cx1, .int cy0, .int cy1, .int ds, .ref m4, .ref m5, .ref m6, .ref m7, .ref m8, .ref m9, .int pn, .ref m10, .ref m11, .ref m12, .ref m13]))] := hD
                          have hcn2 : cntP g_69 4096 = my2 + 1 := by rw [← eg_69, cnt_new (cl_in hiny_60) c_61, fcn]
                          have hm2 : my2 + 1 ≤ 4096 := by rw [← hcn2]; exact cntP_le _ _
                          refine lv_aload_n hx hb dX9_joins_223 rfl (lv_at hl 9 rfl) ?_
                          refine va_get (D := D) (ci := 9) (v := .ref m13) (C := RX9) (T := TX9) (N := 23) hx hb hts hi_X9 hown hK hP 5 rfl rfl 22 (by decide) (hts _ bw_413) (fun _ h9 => h9) rfl dX9_joins_224 ?_
                          refine lv_iload hx hb dX9_joins_227 (lv_at hl 7 rfl) ?_
                          refine lv_iload hx hb dX9_joins_229 (lv_at hl 0 rfl) ?_
                          refine va_iast hx hb hK hP hD hS 1 0 rfl rfl (vp_in_iff.mpr ⟨by omega, by omega⟩) dX9_joins_231 (fun H locs hP hD hS => ?_)
                          have hP : va_P D vwCl [(m3, .inl (cI, 16384, .inl gd)), (m13, .inl (cI, 4096, .inl (upd gs z7.toNatClampNeg y_60))), (m4, .inl (cZ, 4096, .inl g_69)), (m1, .inl (cI, 4, .inl gw)), (m2, .inl (cI, 4, .inl gh)), (h0, .inr (9, [.ref m1, .ref m2, .ref m3, .int ik, .int wy, .int op, .int cl, .int cx0, .int cx1, .int cy0, .int cy1, .int ds, .ref m4, .ref m5, .ref m6, .ref m7, .ref m8, .ref m9, .int pn, .ref m10, .ref m11, .ref m12, .ref m13]))] H := hP
                          have hD : va_D A [(m3, .inl (cI, 16384, .inl gd)), (m13, .inl (cI, 4096, .inl (upd gs z7.toNatClampNeg y_60))), (m4, .inl (cZ, 4096, .inl g_69)), (m1, .inl (cI, 4, .inl gw)), (m2, .inl (cI, 4, .inl gh)), (h0, .inr (9, [.ref m1, .ref m2, .ref m3, .int ik, .int wy, .int op, .int cl, .int cx0, .int cx1, .int cy0, .int cy1, .int ds, .ref m4, .ref m5, .ref m6, .ref m7, .ref m8, .ref m9, .int pn, .ref m10, .ref m11, .ref m12, .ref m13]))] := hD
                          generalize eg_70 : upd gs z7.toNatClampNeg y_60 = g_70 at hP hD
                          have hP : va_P D vwCl [(m3, .inl (cI, 16384, .inl gd)), (m13, .inl (cI, 4096, .inl g_70)), (m4, .inl (cZ, 4096, .inl g_69)), (m1, .inl (cI, 4, .inl gw)), (m2, .inl (cI, 4, .inl gh)), (h0, .inr (9, [.ref m1, .ref m2, .ref m3, .int ik, .int wy, .int op, .int cl, .int cx0, .int cx1, .int cy0, .int cy1, .int ds, .ref m4, .ref m5, .ref m6, .ref m7, .ref m8, .ref m9, .int pn, .ref m10, .ref m11, .ref m12, .ref m13]))] H := hP
                          have hD : va_D A [(m3, .inl (cI, 16384, .inl gd)), (m13, .inl (cI, 4096, .inl g_70)), (m4, .inl (cZ, 4096, .inl g_69)), (m1, .inl (cI, 4, .inl gw)), (m2, .inl (cI, 4, .inl gh)), (h0, .inr (9, [.ref m1, .ref m2, .ref m3, .int ik, .int wy, .int op, .int cl, .int cx0, .int cx1, .int cy0, .int cy1, .int ds, .ref m4, .ref m5, .ref m6, .ref m7, .ref m8, .ref m9, .int pn, .ref m10, .ref m11, .ref m12, .ref m13]))] := hD
                          refine lv_iload hx hb dX9_joins_232 (lv_at hl 7 rfl) ?_
                          refine lv_iconst (v := 1) hx hb dX9_joins_234 (by decide) ?_
                          refine lv_iadd hx hb dX9_joins_235 ?_
                          refine lv_topi (fun y_71 ey_71 => ?_)
                          refine lv_istore (lv' := [(7, .int y_71), (14, .int y_60), (13, .int y_24), (12, .int y_22), (11, .int x11), (8, .int y_16), (10, .int y_15), (9, .int y_13), (6, .int y_3), (0, .ref h0), (1, .int k), (2, .int x), (3, .int y), (4, .int co), (5, .int ic)]) hx hb dX9_joins_236 hl (by decide) rfl (fun ls hl => ?_)
                          obtain ⟨y_72, ey_72⟩ : ∃ y : Int32, y = x11 + 1 := ⟨_, rfl⟩
                          refine lv_iinc (v := y_72) (lv' := [(11, .int y_72), (7, .int y_71), (14, .int y_60), (13, .int y_24), (12, .int y_22), (8, .int y_16), (10, .int y_15), (9, .int y_13), (6, .int y_3), (0, .ref h0), (1, .int k), (2, .int x), (3, .int y), (4, .int co), (5, .int ic)]) hx hb dX9_joins_238 hl (k := 4) rfl (by rw [ey_72]; rfl) (by decide) rfl (fun ls hl => ?_)
                          refine lv_goto (tgt := 87) hx hb dX9_joins_241 (by decide) ?_
                          exact ih_18 (i + 1) (my2 + 1) y_72 y_71 g_69 g_70 _ _ _ (by omega) (by omega) (by rw [ey_72, ex_i]; exact nI_1 i) (by rw [ey_71, f7]; exact nI_1 my2) hcn2 (by omega) (hP.sub (ws' := [(m1, .inl (cI, 4, .inl gw)), (m2, .inl (cI, 4, .inl gh)), (m3, .inl (cI, 16384, .inl gd)), (m13, .inl (cI, 4096, .inl g_70)), (h0, .inr (9, [.ref m1, .ref m2, .ref m3, .int ik, .int wy, .int op, .int cl, .int cx0, .int cx1, .int cy0, .int cy1, .int ds, .ref m4, .ref m5, .ref m6, .ref m7, .ref m8, .ref m9, .int pn, .ref m10, .ref m11, .ref m12, .ref m13])), (m4, .inl (cZ, 4096, .inl g_69))]) [3, 4, 0, 1, 5, 2] rfl) (hD.sub (ws' := [(m1, .inl (cI, 4, .inl gw)), (m2, .inl (cI, 4, .inl gh)), (m3, .inl (cI, 16384, .inl gd)), (m13, .inl (cI, 4096, .inl g_70)), (h0, .inr (9, [.ref m1, .ref m2, .ref m3, .int ik, .int wy, .int op, .int cl, .int cx0, .int cx1, .int cy0, .int cy1, .int ds, .ref m4, .ref m5, .ref m6, .ref m7, .ref m8, .ref m9, .int pn, .ref m10, .ref m11, .ref m12, .ref m13])), (m4, .inl (cZ, 4096, .inl g_69))]) [3, 4, 0, 1, 5, 2] (by decide) rfl) hS (lv_sub hl [0, 5, 6, 7, 1, 8, 9, 10, 11, 12, 13, 14] rfl)
                        · skip
                          have f_68 : ¬ (y_66.toInt = y_3.toInt) := fn_eq rfl rfl c_67
                          refine lv_goto (tgt := 238) hx hb dX9_joins_212 (by decide) ?_
                          obtain ⟨y_73, ey_73⟩ : ∃ y : Int32, y = x11 + 1 := ⟨_, rfl⟩
                          refine lv_iinc (v := y_73) (lv' := [(11, .int y_73), (14, .int y_60), (13, .int y_24), (12, .int y_22), (8, .int y_16), (10, .int y_15), (9, .int y_13), (7, .int z7), (6, .int y_3), (0, .ref h0), (1, .int k), (2, .int x), (3, .int y), (4, .int co), (5, .int ic)]) hx hb dX9_joins_238 hl (k := 3) rfl (by rw [ey_73]; rfl) (by decide) rfl (fun ls hl => ?_)
                          refine lv_goto (tgt := 87) hx hb dX9_joins_241 (by decide) ?_
                          exact ih_18 (i + 1) my2 y_73 z7 gu gs _ _ _ (by omega) (by omega) (by rw [ey_73, ex_i]; exact nI_1 i) f7 fcn (by omega) (hP.sub (ws' := [(m1, .inl (cI, 4, .inl gw)), (m2, .inl (cI, 4, .inl gh)), (m3, .inl (cI, 16384, .inl gd)), (m13, .inl (cI, 4096, .inl gs)), (h0, .inr (9, [.ref m1, .ref m2, .ref m3, .int ik, .int wy, .int op, .int cl, .int cx0, .int cx1, .int cy0, .int cy1, .int ds, .ref m4, .ref m5, .ref m6, .ref m7, .ref m8, .ref m9, .int pn, .ref m10, .ref m11, .ref m12, .ref m13])), (m4, .inl (cZ, 4096, .inl gu))]) [3, 4, 0, 1, 5, 2] rfl) (hD.sub (ws' := [(m1, .inl (cI, 4, .inl gw)), (m2, .inl (cI, 4, .inl gh)), (m3, .inl (cI, 16384, .inl gd)), (m13, .inl (cI, 4096, .inl gs)), (h0, .inr (9, [.ref m1, .ref m2, .ref m3, .int ik, .int wy, .int op, .int cl, .int cx0, .int cx1, .int cy0, .int cy1, .int ds, .ref m4, .ref m5, .ref m6, .ref m7, .ref m8, .ref m9, .int pn, .ref m10, .ref m11, .ref m12, .ref m13])), (m4, .inl (cZ, 4096, .inl gu))]) [3, 4, 0, 1, 5, 2] (by decide) rfl) hS (lv_sub hl [0, 4, 5, 6, 7, 8, 9, 10, 11, 12, 13, 14] rfl)
                    · skip
                      have f_56 := bz0 hr_54 c_55
                      refine lv_goto (tgt := 238) hx hb dX9_joins_165 (by decide) ?_
                      obtain ⟨y_74, ey_74⟩ : ∃ y : Int32, y = x11 + 1 := ⟨_, rfl⟩
                      refine lv_iinc (v := y_74) (lv' := [(11, .int y_74), (13, .int y_24), (12, .int y_22), (8, .int y_16), (10, .int y_15), (9, .int y_13), (7, .int z7), (6, .int y_3), (0, .ref h0), (1, .int k), (2, .int x), (3, .int y), (4, .int co), (5, .int ic)]) hx hb dX9_joins_238 hl (k := 2) rfl (by rw [ey_74]; rfl) (by decide) rfl (fun ls hl => ?_)
                      refine lv_goto (tgt := 87) hx hb dX9_joins_241 (by decide) ?_
                      exact ih_18 (i + 1) my2 y_74 z7 gu gs _ _ _ (by omega) (by omega) (by rw [ey_74, ex_i]; exact nI_1 i) f7 fcn (by omega) (hP.sub (ws' := [(m1, .inl (cI, 4, .inl gw)), (m2, .inl (cI, 4, .inl gh)), (m3, .inl (cI, 16384, .inl gd)), (m13, .inl (cI, 4096, .inl gs)), (h0, .inr (9, [.ref m1, .ref m2, .ref m3, .int ik, .int wy, .int op, .int cl, .int cx0, .int cx1, .int cy0, .int cy1, .int ds, .ref m4, .ref m5, .ref m6, .ref m7, .ref m8, .ref m9, .int pn, .ref m10, .ref m11, .ref m12, .ref m13])), (m4, .inl (cZ, 4096, .inl gu))]) [3, 4, 0, 1, 5, 2] rfl) (hD.sub (ws' := [(m1, .inl (cI, 4, .inl gw)), (m2, .inl (cI, 4, .inl gh)), (m3, .inl (cI, 16384, .inl gd)), (m13, .inl (cI, 4096, .inl gs)), (h0, .inr (9, [.ref m1, .ref m2, .ref m3, .int ik, .int wy, .int op, .int cl, .int cx0, .int cx1, .int cy0, .int cy1, .int ds, .ref m4, .ref m5, .ref m6, .ref m7, .ref m8, .ref m9, .int pn, .ref m10, .ref m11, .ref m12, .ref m13])), (m4, .inl (cZ, 4096, .inl gu))]) [3, 4, 0, 1, 5, 2] (by decide) rfl) hS (lv_sub hl [0, 3, 4, 5, 6, 7, 8, 9, 10, 11, 12, 13] rfl)
              · skip
                have f_26 : co.toInt = 0 := f_eq rfl (by decide) c_25
                refine lv_iload hx hb dX9_joins_115 (lv_at hl 1 rfl) ?_
                refine lv_if_eq (tgt := 125) hx hb dX9_joins_117 (by decide) (fun c_75 => ?_) (fun c_75 => ?_)
                · skip
                  have f_76 : y_22.toInt = 0 := f_eq rfl (by decide) c_75
                  refine lv_aload_n hx hb dX9_joins_125 rfl (lv_at hl 8 rfl) ?_
                  refine lv_iload_n hx hb dX9_joins_126 rfl (lv_at hl 9 rfl) ?_
                  refine lv_iload hx hb dX9_joins_127 (lv_at hl 5 rfl) ?_
                  refine lv_iload hx hb dX9_joins_129 (lv_at hl 1 rfl) ?_
                  refine lv_iadd hx hb dX9_joins_131 ?_
                  refine lv_topi (fun y_77 ey_77 => ?_)
                  refine lv_iload hx hb dX9_joins_132 (lv_at hl 4 rfl) ?_
                  refine lv_iload hx hb dX9_joins_134 (lv_at hl 0 rfl) ?_
                  refine lv_iadd hx hb dX9_joins_136 ?_
                  refine lv_topi (fun y_78 ey_78 => ?_)
                  have hPc := hP.sub (ws' := [(h0, .inr (9, [.ref m1, .ref m2, .ref m3, .int ik, .int wy, .int op, .int cl, .int cx0, .int cx1, .int cy0, .int cy1, .int ds, .ref m4, .ref m5, .ref m6, .ref m7, .ref m8, .ref m9, .int pn, .ref m10, .ref m11, .ref m12, .ref m13])), (m1, .inl (cI, 4, .inl gw)), (m2, .inl (cI, 4, .inl gh))]) [4, 0, 1] rfl
                  have hDc := hD.sub (ws' := [(h0, .inr (9, [.ref m1, .ref m2, .ref m3, .int ik, .int wy, .int op, .int cl, .int cx0, .int cx1, .int cy0, .int cy1, .int ds, .ref m4, .ref m5, .ref m6, .ref m7, .ref m8, .ref m9, .int pn, .ref m10, .ref m11, .ref m12, .ref m13])), (m1, .inl (cI, 4, .inl gw)), (m2, .inl (cI, 4, .inl gh))]) [4, 0, 1] (by decide) rfl
                  have hKc := hK.sub (tys' := [(cI, .int)]) [0] rfl
                  have hFc := va_free (wc := [(h0, .inr (9, [.ref m1, .ref m2, .ref m3, .int ik, .int wy, .int op, .int cl, .int cx0, .int cx1, .int cy0, .int cy1, .int ds, .ref m4, .ref m5, .ref m6, .ref m7, .ref m8, .ref m9, .int pn, .ref m10, .ref m11, .ref m12, .ref m13])), (m1, .inl (cI, 4, .inl gw)), (m2, .inl (cI, 4, .inl gh))]) hD hS hA [4, 0, 1] rfl
                  refine va_calli (va_runV (As := [.int k, .int y_77, .int y_78]) (rest := []) ⟨hx, hb, hml, hown, hts⟩ (k_X9_isOn l D H.size h0 m1 m2 m3 m4 m5 m6 m7 m8 m9 m10 m11 m12 m13 ik wy op cl cx0 cx1 cy0 cy1 ds pn gw gh k y_77 y_78 cI (by omega)) (cwV 3 hts (gV bw_433 bw_418 bw_419 bw_391 bw_417) rfl rfl rfl (by decide +kernel) ⟨(by rw [hR]; exact Nat.le_of_ble_eq_true rfl), (by rw [hR]; exact Nat.le_of_ble_eq_true rfl)⟩) ⟨cP_blind, va_recv hKc hPc (ci := 9) (q0 := 0) rfl rfl, cP_at hPc hKc hDc hN⟩ rfl rfl hl.1 rfl (lv_room (Nat.le_of_ble_eq_true rfl)) dX9_joins_137 ⟨(by rw [hR]; exact Nat.le_of_ble_eq_true rfl), (by rw [hR]; exact Nat.le_of_ble_eq_true rfl)⟩) hS (fun q _ h => hFc q h) hFc (fun r_79 u9 t9 H1 locs ht hvm hr_79 hB hz1 hk1 hS => ?_)
                  try dsimp only at hr_79
                  obtain ⟨hP1, hK1, hD1⟩ := hB
                  rw [ht] at hP1
                  obtain ⟨hP, hD⟩ := va_join (wr := [(m3, .inl (cI, 16384, .inl gd)), (m13, .inl (cI, 4096, .inl gs)), (m4, .inl (cZ, 4096, .inl gu))]) (w1 := [(h0, .inr (9, [.ref m1, .ref m2, .ref m3, .int ik, .int wy, .int op, .int cl, .int cx0, .int cx1, .int cy0, .int cy1, .int ds, .ref m4, .ref m5, .ref m6, .ref m7, .ref m8, .ref m9, .int pn, .ref m10, .ref m11, .ref m12, .ref m13])), (m1, .inl (cI, 4, .inl gw)), (m2, .inl (cI, 4, .inl gh))]) hP hD [4, 0, 1] [2, 3, 5] rfl rfl (by decide) (by decide) hk1 hFc hP1 hD1
                  clear hz1 hk1 hFc hKc hDc hPc
                  generalize H1 = H at hP hS ⊢
                  have hP : va_P D vwCl [(m3, .inl (cI, 16384, .inl gd)), (m13, .inl (cI, 4096, .inl gs)), (m4, .inl (cZ, 4096, .inl gu)), (h0, .inr (9, [.ref m1, .ref m2, .ref m3, .int ik, .int wy, .int op, .int cl, .int cx0, .int cx1, .int cy0, .int cy1, .int ds, .ref m4, .ref m5, .ref m6, .ref m7, .ref m8, .ref m9, .int pn, .ref m10, .ref m11, .ref m12, .ref m13])), (m1, .inl (cI, 4, .inl gw)), (m2, .inl (cI, 4, .inl gh))] H := hP
                  have hD : va_D A [(m3, .inl (cI, 16384, .inl gd)), (m13, .inl (cI, 4096, .inl gs)), (m4, .inl (cZ, 4096, .inl gu)), (h0, .inr (9, [.ref m1, .ref m2, .ref m3, .int ik, .int wy, .int op, .int cl, .int cx0, .int cx1, .int cy0, .int cy1, .int ds, .ref m4, .ref m5, .ref m6, .ref m7, .ref m8, .ref m9, .int pn, .ref m10, .ref m11, .ref m12, .ref m13])), (m1, .inl (cI, 4, .inl gw)), (m2, .inl (cI, 4, .inl gh))] := hD
                  refine lv_if_eq (tgt := 238) hx hb dX9_joins_140 (by decide) (fun c_80 => ?_) (fun c_80 => ?_)
                  · skip
                    have f_81 := bz0 hr_79 c_80
                    obtain ⟨y_82, ey_82⟩ : ∃ y : Int32, y = x11 + 1 := ⟨_, rfl⟩
                    refine lv_iinc (v := y_82) (lv' := [(11, .int y_82), (13, .int y_24), (12, .int y_22), (8, .int y_16), (10, .int y_15), (9, .int y_13), (7, .int z7), (6, .int y_3), (0, .ref h0), (1, .int k), (2, .int x), (3, .int y), (4, .int co), (5, .int ic)]) hx hb dX9_joins_238 hl (k := 2) rfl (by rw [ey_82]; rfl) (by decide) rfl (fun ls hl => ?_)
                    refine lv_goto (tgt := 87) hx hb dX9_joins_241 (by decide) ?_
                    exact ih_18 (i + 1) my2 y_82 z7 gu gs _ _ _ (by omega) (by omega) (by rw [ey_82, ex_i]; exact nI_1 i) f7 fcn (by omega) (hP.sub (ws' := [(m1, .inl (cI, 4, .inl gw)), (m2, .inl (cI, 4, .inl gh)), (m3, .inl (cI, 16384, .inl gd)), (m13, .inl (cI, 4096, .inl gs)), (h0, .inr (9, [.ref m1, .ref m2, .ref m3, .int ik, .int wy, .int op, .int cl, .int cx0, .int cx1, .int cy0, .int cy1, .int ds, .ref m4, .ref m5, .ref m6, .ref m7, .ref m8, .ref m9, .int pn, .ref m10, .ref m11, .ref m12, .ref m13])), (m4, .inl (cZ, 4096, .inl gu))]) [4, 5, 0, 1, 3, 2] rfl) (hD.sub (ws' := [(m1, .inl (cI, 4, .inl gw)), (m2, .inl (cI, 4, .inl gh)), (m3, .inl (cI, 16384, .inl gd)), (m13, .inl (cI, 4096, .inl gs)), (h0, .inr (9, [.ref m1, .ref m2, .ref m3, .int ik, .int wy, .int op, .int cl, .int cx0, .int cx1, .int cy0, .int cy1, .int ds, .ref m4, .ref m5, .ref m6, .ref m7, .ref m8, .ref m9, .int pn, .ref m10, .ref m11, .ref m12, .ref m13])), (m4, .inl (cZ, 4096, .inl gu))]) [4, 5, 0, 1, 3, 2] (by decide) rfl) hS (lv_sub hl [0, 3, 4, 5, 6, 7, 8, 9, 10, 11, 12, 13] rfl)
                  · skip
                    have f_81 := bz1 hr_79 c_80
                    refine lv_iload hx hb dX9_joins_143 (lv_at hl 13 rfl) ?_
                    refine lv_if_eq (tgt := 168) hx hb dX9_joins_145 (by decide) (fun c_83 => ?_) (fun c_83 => ?_)
                    · skip
                      have f_84 : ic.toInt = 0 := f_eq rfl (by decide) c_83
                      refine lv_bipush (v := 64) hx hb dX9_joins_168 (by decide) ?_
                      refine lv_iload hx hb dX9_joins_170 (lv_at hl 4 rfl) ?_
                      refine lv_iload hx hb dX9_joins_172 (lv_at hl 0 rfl) ?_
                      refine lv_iadd hx hb dX9_joins_174 ?_
                      refine lv_topi (fun y_85 ey_85 => ?_)
                      refine lv_imul hx hb dX9_joins_175 ?_
                      refine lv_topi (fun y_86 ey_86 => ?_)
                      refine lv_iload hx hb dX9_joins_176 (lv_at hl 5 rfl) ?_
                      refine lv_iadd hx hb dX9_joins_178 ?_
                      refine lv_topi (fun y_87 ey_87 => ?_)
                      refine lv_iload hx hb dX9_joins_179 (lv_at hl 1 rfl) ?_
                      refine lv_iadd hx hb dX9_joins_181 ?_
                      refine lv_topi (fun y_88 ey_88 => ?_)
                      have htoy_88 : y_88 = 64 * y_78 + y_77 := by rw [ey_88, ey_87, ey_86, ey_85, ey_78, ey_77, Int32.add_assoc]
                      have hiny_88 : vp_in y_88 4096 := by rw [htoy_88]; exact ix_in2 (by omega) (by omega) (by omega) (by omega)
                      refine lv_istore (lv' := [(14, .int y_88), (13, .int y_24), (12, .int y_22), (11, .int x11), (8, .int y_16), (10, .int y_15), (9, .int y_13), (7, .int z7), (6, .int y_3), (0, .ref h0), (1, .int k), (2, .int x), (3, .int y), (4, .int co), (5, .int ic)]) hx hb dX9_joins_182 hl (by decide) rfl (fun ls hl => ?_)
                      refine lv_aload_n hx hb dX9_joins_184 rfl (lv_at hl 9 rfl) ?_
                      refine va_get (D := D) (ci := 9) (v := .ref m4) (C := RX9) (T := TX9) (N := 23) hx hb hts hi_X9 hown hK hP 3 rfl rfl 12 (by decide) (hts _ bw_404) (fun _ h9 => h9) rfl dX9_joins_185 ?_
                      refine lv_iload hx hb dX9_joins_188 (lv_at hl 0 rfl) ?_
                      refine va_zald hx hb hK hP 2 1 rfl rfl hiny_88 dX9_joins_190 ?_
                      refine lv_if_ne (tgt := 238) hx hb dX9_joins_191 (by decide) (fun c_89 => ?_) (fun c_89 => ?_)
                      · skip
                        have f_90 : ¬ ((gu y_88.toNatClampNeg).toInt = 0) := fn_eq rfl (by decide) c_89
                        obtain ⟨y_91, ey_91⟩ : ∃ y : Int32, y = x11 + 1 := ⟨_, rfl⟩
                        refine lv_iinc (v := y_91) (lv' := [(11, .int y_91), (14, .int y_88), (13, .int y_24), (12, .int y_22), (8, .int y_16), (10, .int y_15), (9, .int y_13), (7, .int z7), (6, .int y_3), (0, .ref h0), (1, .int k), (2, .int x), (3, .int y), (4, .int co), (5, .int ic)]) hx hb dX9_joins_238 hl (k := 3) rfl (by rw [ey_91]; rfl) (by decide) rfl (fun ls hl => ?_)
                        refine lv_goto (tgt := 87) hx hb dX9_joins_241 (by decide) ?_
                        exact ih_18 (i + 1) my2 y_91 z7 gu gs _ _ _ (by omega) (by omega) (by rw [ey_91, ex_i]; exact nI_1 i) f7 fcn (by omega) (hP.sub (ws' := [(m1, .inl (cI, 4, .inl gw)), (m2, .inl (cI, 4, .inl gh)), (m3, .inl (cI, 16384, .inl gd)), (m13, .inl (cI, 4096, .inl gs)), (h0, .inr (9, [.ref m1, .ref m2, .ref m3, .int ik, .int wy, .int op, .int cl, .int cx0, .int cx1, .int cy0, .int cy1, .int ds, .ref m4, .ref m5, .ref m6, .ref m7, .ref m8, .ref m9, .int pn, .ref m10, .ref m11, .ref m12, .ref m13])), (m4, .inl (cZ, 4096, .inl gu))]) [4, 5, 0, 1, 3, 2] rfl) (hD.sub (ws' := [(m1, .inl (cI, 4, .inl gw)), (m2, .inl (cI, 4, .inl gh)), (m3, .inl (cI, 16384, .inl gd)), (m13, .inl (cI, 4096, .inl gs)), (h0, .inr (9, [.ref m1, .ref m2, .ref m3, .int ik, .int wy, .int op, .int cl, .int cx0, .int cx1, .int cy0, .int cy1, .int ds, .ref m4, .ref m5, .ref m6, .ref m7, .ref m8, .ref m9, .int pn, .ref m10, .ref m11, .ref m12, .ref m13])), (m4, .inl (cZ, 4096, .inl gu))]) [4, 5, 0, 1, 3, 2] (by decide) rfl) hS (lv_sub hl [0, 4, 5, 6, 7, 8, 9, 10, 11, 12, 13, 14] rfl)
                      · skip
                        have f_90 : (gu y_88.toNatClampNeg).toInt = 0 := f_eq rfl (by decide) c_89
                        refine lv_aload_n hx hb dX9_joins_194 rfl (lv_at hl 9 rfl) ?_
                        refine va_get (D := D) (ci := 9) (v := .ref m3) (C := RX9) (T := TX9) (N := 23) hx hb hts hi_X9 hown hK hP 3 rfl rfl 2 (by decide) (hts _ bw_398) (fun _ h9 => h9) rfl dX9_joins_195 ?_
                        refine lv_sipush (v := 4096) hx hb dX9_joins_198 (by decide) ?_
                        refine lv_iload_n hx hb dX9_joins_201 rfl (lv_at hl 10 rfl) ?_
                        refine lv_imul hx hb dX9_joins_202 ?_
                        refine lv_topi (fun y_92 ey_92 => ?_)
                        refine lv_iload hx hb dX9_joins_203 (lv_at hl 0 rfl) ?_
                        refine lv_iadd hx hb dX9_joins_205 ?_
                        refine lv_topi (fun y_93 ey_93 => ?_)
                        refine va_iald hx hb hK hP 0 0 rfl rfl (by rw [ey_93, ey_92]; exact kp_in (by omega) hiny_88) dX9_joins_206 ?_
                        refine lv_topi (fun y_94 ey_94 => ?_)
                        refine lv_iload hx hb dX9_joins_207 (lv_at hl 8 rfl) ?_
                        refine lv_icmp_eq (tgt := 215) hx hb dX9_joins_209 (by decide) (fun c_95 => ?_) (fun c_95 => ?_)
                        · skip
                          have f_96 : y_94.toInt = y_3.toInt := f_eq rfl rfl c_95
                          refine lv_aload_n hx hb dX9_joins_215 rfl (lv_at hl 9 rfl) ?_
                          refine va_get (D := D) (ci := 9) (v := .ref m4) (C := RX9) (T := TX9) (N := 23) hx hb hts hi_X9 hown hK hP 3 rfl rfl 12 (by decide) (hts _ bw_404) (fun _ h9 => h9) rfl dX9_joins_216 ?_
                          refine lv_iload hx hb dX9_joins_219 (lv_at hl 0 rfl) ?_
                          refine lv_iconst (v := 1) hx hb dX9_joins_221 (by decide) ?_
                          refine va_zast hx hb hK hP hD hS 2 1 rfl rfl hiny_88 dX9_joins_222 (fun H locs hP hD hS => ?_)
                          have hP : va_P D vwCl [(m3, .inl (cI, 16384, .inl gd)), (m13, .inl (cI, 4096, .inl gs)), (m4, .inl (cZ, 4096, .inl (upd gu y_88.toNatClampNeg (vp_nar .boolean 1)))), (h0, .inr (9, [.ref m1, .ref m2, .ref m3, .int ik, .int wy, .int op, .int cl, .int cx0, .int cx1, .int cy0, .int cy1, .int ds, .ref m4, .ref m5, .ref m6, .ref m7, .ref m8, .ref m9, .int pn, .ref m10, .ref m11, .ref m12, .ref m13])), (m1, .inl (cI, 4, .inl gw)), (m2, .inl (cI, 4, .inl gh))] H := hP
                          have hD : va_D A [(m3, .inl (cI, 16384, .inl gd)), (m13, .inl (cI, 4096, .inl gs)), (m4, .inl (cZ, 4096, .inl (upd gu y_88.toNatClampNeg (vp_nar .boolean 1)))), (h0, .inr (9, [.ref m1, .ref m2, .ref m3, .int ik, .int wy, .int op, .int cl, .int cx0, .int cx1, .int cy0, .int cy1, .int ds, .ref m4, .ref m5, .ref m6, .ref m7, .ref m8, .ref m9, .int pn, .ref m10, .ref m11, .ref m12, .ref m13])), (m1, .inl (cI, 4, .inl gw)), (m2, .inl (cI, 4, .inl gh))] := hD
                          generalize eg_97 : upd gu y_88.toNatClampNeg (vp_nar .boolean 1) = g_97 at hP hD
                          have hP : va_P D vwCl [(m3, .inl (cI, 16384, .inl gd)), (m13, .inl (cI, 4096, .inl gs)), (m4, .inl (cZ, 4096, .inl g_97)), (h0, .inr (9, [.ref m1, .ref m2, .ref m3, .int ik, .int wy, .int op, .int cl, .int cx0, .int cx1, .int cy0, .int cy1, .int ds, .ref m4, .ref m5, .ref m6, .ref m7, .ref m8, .ref m9, .int pn, .ref m10, .ref m11, .ref m12, .ref m13])), (m1, .inl (cI, 4, .inl gw)), (m2, .inl (cI, 4, .inl gh))] H := hP
                          have hD : va_D A [(m3, .inl (cI, 16384, .inl gd)), (m13, .inl (cI, 4096, .inl gs)), (m4, .inl (cZ, 4096, .inl g_97)), (h0, .inr (9, [.ref m1, .ref m2, .ref m3, .int ik, .int wy, .int op, .int cl, .int cx0, .int cx1, .int cy0, .int cy1, .int ds, .ref m4, .ref m5, .ref m6, .ref m7, .ref m8, .ref m9, .int pn, .ref m10, .ref m11, .ref m12, .ref m13])), (m1, .inl (cI, 4, .inl gw)), (m2, .inl (cI, 4, .inl gh))] := hD
                          have hcn2 : cntP g_97 4096 = my2 + 1 := by rw [← eg_97, cnt_new (cl_in hiny_88) c_89, fcn]
                          have hm2 : my2 + 1 ≤ 4096 := by rw [← hcn2]; exact cntP_le _ _
                          refine lv_aload_n hx hb dX9_joins_223 rfl (lv_at hl 9 rfl) ?_
                          refine va_get (D := D) (ci := 9) (v := .ref m13) (C := RX9) (T := TX9) (N := 23) hx hb hts hi_X9 hown hK hP 3 rfl rfl 22 (by decide) (hts _ bw_413) (fun _ h9 => h9) rfl dX9_joins_224 ?_
                          refine lv_iload hx hb dX9_joins_227 (lv_at hl 7 rfl) ?_
                          refine lv_iload hx hb dX9_joins_229 (lv_at hl 0 rfl) ?_
                          refine va_iast hx hb hK hP hD hS 1 0 rfl rfl (vp_in_iff.mpr ⟨by omega, by omega⟩) dX9_joins_231 (fun H locs hP hD hS => ?_)
                          have hP : va_P D vwCl [(m3, .inl (cI, 16384, .inl gd)), (m13, .inl (cI, 4096, .inl (upd gs z7.toNatClampNeg y_88))), (m4, .inl (cZ, 4096, .inl g_97)), (h0, .inr (9, [.ref m1, .ref m2, .ref m3, .int ik, .int wy, .int op, .int cl, .int cx0, .int cx1, .int cy0, .int cy1, .int ds, .ref m4, .ref m5, .ref m6, .ref m7, .ref m8, .ref m9, .int pn, .ref m10, .ref m11, .ref m12, .ref m13])), (m1, .inl (cI, 4, .inl gw)), (m2, .inl (cI, 4, .inl gh))] H := hP
                          have hD : va_D A [(m3, .inl (cI, 16384, .inl gd)), (m13, .inl (cI, 4096, .inl (upd gs z7.toNatClampNeg y_88))), (m4, .inl (cZ, 4096, .inl g_97)), (h0, .inr (9, [.ref m1, .ref m2, .ref m3, .int ik, .int wy, .int op, .int cl, .int cx0, .int cx1, .int cy0, .int cy1, .int ds, .ref m4, .ref m5, .ref m6, .ref m7, .ref m8, .ref m9, .int pn, .ref m10, .ref m11, .ref m12, .ref m13])), (m1, .inl (cI, 4, .inl gw)), (m2, .inl (cI, 4, .inl gh))] := hD
                          generalize eg_98 : upd gs z7.toNatClampNeg y_88 = g_98 at hP hD
                          have hP : va_P D vwCl [(m3, .inl (cI, 16384, .inl gd)), (m13, .inl (cI, 4096, .inl g_98)), (m4, .inl (cZ, 4096, .inl g_97)), (h0, .inr (9, [.ref m1, .ref m2, .ref m3, .int ik, .int wy, .int op, .int cl, .int cx0, .int cx1, .int cy0, .int cy1, .int ds, .ref m4, .ref m5, .ref m6, .ref m7, .ref m8, .ref m9, .int pn, .ref m10, .ref m11, .ref m12, .ref m13])), (m1, .inl (cI, 4, .inl gw)), (m2, .inl (cI, 4, .inl gh))] H := hP
                          have hD : va_D A [(m3, .inl (cI, 16384, .inl gd)), (m13, .inl (cI, 4096, .inl g_98)), (m4, .inl (cZ, 4096, .inl g_97)), (h0, .inr (9, [.ref m1, .ref m2, .ref m3, .int ik, .int wy, .int op, .int cl, .int cx0, .int cx1, .int cy0, .int cy1, .int ds, .ref m4, .ref m5, .ref m6, .ref m7, .ref m8, .ref m9, .int pn, .ref m10, .ref m11, .ref m12, .ref m13])), (m1, .inl (cI, 4, .inl gw)), (m2, .inl (cI, 4, .inl gh))] := hD
                          refine lv_iload hx hb dX9_joins_232 (lv_at hl 7 rfl) ?_
                          refine lv_iconst (v := 1) hx hb dX9_joins_234 (by decide) ?_
                          refine lv_iadd hx hb dX9_joins_235 ?_
                          refine lv_topi (fun y_99 ey_99 => ?_)
                          refine lv_istore (lv' := [(7, .int y_99), (14, .int y_88), (13, .int y_24), (12, .int y_22), (11, .int x11), (8, .int y_16), (10, .int y_15), (9, .int y_13), (6, .int y_3), (0, .ref h0), (1, .int k), (2, .int x), (3, .int y), (4, .int co), (5, .int ic)]) hx hb dX9_joins_236 hl (by decide) rfl (fun ls hl => ?_)
                          obtain ⟨y_100, ey_100⟩ : ∃ y : Int32, y = x11 + 1 := ⟨_, rfl⟩
                          refine lv_iinc (v := y_100) (lv' := [(11, .int y_100), (7, .int y_99), (14, .int y_88), (13, .int y_24), (12, .int y_22), (8, .int y_16), (10, .int y_15), (9, .int y_13), (6, .int y_3), (0, .ref h0), (1, .int k), (2, .int x), (3, .int y), (4, .int co), (5, .int ic)]) hx hb dX9_joins_238 hl (k := 4) rfl (by rw [ey_100]; rfl) (by decide) rfl (fun ls hl => ?_)
                          refine lv_goto (tgt := 87) hx hb dX9_joins_241 (by decide) ?_
                          exact ih_18 (i + 1) (my2 + 1) y_100 y_99 g_97 g_98 _ _ _ (by omega) (by omega) (by rw [ey_100, ex_i]; exact nI_1 i) (by rw [ey_99, f7]; exact nI_1 my2) hcn2 (by omega) (hP.sub (ws' := [(m1, .inl (cI, 4, .inl gw)), (m2, .inl (cI, 4, .inl gh)), (m3, .inl (cI, 16384, .inl gd)), (m13, .inl (cI, 4096, .inl g_98)), (h0, .inr (9, [.ref m1, .ref m2, .ref m3, .int ik, .int wy, .int op, .int cl, .int cx0, .int cx1, .int cy0, .int cy1, .int ds, .ref m4, .ref m5, .ref m6, .ref m7, .ref m8, .ref m9, .int pn, .ref m10, .ref m11, .ref m12, .ref m13])), (m4, .inl (cZ, 4096, .inl g_97))]) [4, 5, 0, 1, 3, 2] rfl) (hD.sub (ws' := [(m1, .inl (cI, 4, .inl gw)), (m2, .inl (cI, 4, .inl gh)), (m3, .inl (cI, 16384, .inl gd)), (m13, .inl (cI, 4096, .inl g_98)), (h0, .inr (9, [.ref m1, .ref m2, .ref m3, .int ik, .int wy, .int op, .int cl, .int cx0, .int cx1, .int cy0, .int cy1, .int ds, .ref m4, .ref m5, .ref m6, .ref m7, .ref m8, .ref m9, .int pn, .ref m10, .ref m11, .ref m12, .ref m13])), (m4, .inl (cZ, 4096, .inl g_97))]) [4, 5, 0, 1, 3, 2] (by decide) rfl) hS (lv_sub hl [0, 5, 6, 7, 1, 8, 9, 10, 11, 12, 13, 14] rfl)
                        · skip
                          have f_96 : ¬ (y_94.toInt = y_3.toInt) := fn_eq rfl rfl c_95
                          refine lv_goto (tgt := 238) hx hb dX9_joins_212 (by decide) ?_
                          obtain ⟨y_101, ey_101⟩ : ∃ y : Int32, y = x11 + 1 := ⟨_, rfl⟩
                          refine lv_iinc (v := y_101) (lv' := [(11, .int y_101), (14, .int y_88), (13, .int y_24), (12, .int y_22), (8, .int y_16), (10, .int y_15), (9, .int y_13), (7, .int z7), (6, .int y_3), (0, .ref h0), (1, .int k), (2, .int x), (3, .int y), (4, .int co), (5, .int ic)]) hx hb dX9_joins_238 hl (k := 3) rfl (by rw [ey_101]; rfl) (by decide) rfl (fun ls hl => ?_)
                          refine lv_goto (tgt := 87) hx hb dX9_joins_241 (by decide) ?_
                          exact ih_18 (i + 1) my2 y_101 z7 gu gs _ _ _ (by omega) (by omega) (by rw [ey_101, ex_i]; exact nI_1 i) f7 fcn (by omega) (hP.sub (ws' := [(m1, .inl (cI, 4, .inl gw)), (m2, .inl (cI, 4, .inl gh)), (m3, .inl (cI, 16384, .inl gd)), (m13, .inl (cI, 4096, .inl gs)), (h0, .inr (9, [.ref m1, .ref m2, .ref m3, .int ik, .int wy, .int op, .int cl, .int cx0, .int cx1, .int cy0, .int cy1, .int ds, .ref m4, .ref m5, .ref m6, .ref m7, .ref m8, .ref m9, .int pn, .ref m10, .ref m11, .ref m12, .ref m13])), (m4, .inl (cZ, 4096, .inl gu))]) [4, 5, 0, 1, 3, 2] rfl) (hD.sub (ws' := [(m1, .inl (cI, 4, .inl gw)), (m2, .inl (cI, 4, .inl gh)), (m3, .inl (cI, 16384, .inl gd)), (m13, .inl (cI, 4096, .inl gs)), (h0, .inr (9, [.ref m1, .ref m2, .ref m3, .int ik, .int wy, .int op, .int cl, .int cx0, .int cx1, .int cy0, .int cy1, .int ds, .ref m4, .ref m5, .ref m6, .ref m7, .ref m8, .ref m9, .int pn, .ref m10, .ref m11, .ref m12, .ref m13])), (m4, .inl (cZ, 4096, .inl gu))]) [4, 5, 0, 1, 3, 2] (by decide) rfl) hS (lv_sub hl [0, 4, 5, 6, 7, 8, 9, 10, 11, 12, 13, 14] rfl)
                    · skip
                      have f_84 : ¬ (ic.toInt = 0) := fn_eq rfl (by decide) c_83
                      refine lv_aload_n hx hb dX9_joins_148 rfl (lv_at hl 8 rfl) ?_
                      refine lv_iload hx hb dX9_joins_149 (lv_at hl 5 rfl) ?_
                      refine lv_iload hx hb dX9_joins_151 (lv_at hl 1 rfl) ?_
                      refine lv_iadd hx hb dX9_joins_153 ?_
                      refine lv_topi (fun y_102 ey_102 => ?_)
                      refine lv_iload hx hb dX9_joins_154 (lv_at hl 4 rfl) ?_
                      refine lv_iload hx hb dX9_joins_156 (lv_at hl 0 rfl) ?_
                      refine lv_iadd hx hb dX9_joins_158 ?_
                      refine lv_topi (fun y_103 ey_103 => ?_)
                      have hPc := hP.sub (ws' := [(h0, .inr (9, [.ref m1, .ref m2, .ref m3, .int ik, .int wy, .int op, .int cl, .int cx0, .int cx1, .int cy0, .int cy1, .int ds, .ref m4, .ref m5, .ref m6, .ref m7, .ref m8, .ref m9, .int pn, .ref m10, .ref m11, .ref m12, .ref m13]))]) [3] rfl
                      have hDc := hD.sub (ws' := [(h0, .inr (9, [.ref m1, .ref m2, .ref m3, .int ik, .int wy, .int op, .int cl, .int cx0, .int cx1, .int cy0, .int cy1, .int ds, .ref m4, .ref m5, .ref m6, .ref m7, .ref m8, .ref m9, .int pn, .ref m10, .ref m11, .ref m12, .ref m13]))]) [3] (by decide) rfl
                      have hKc := hK.sub (tys' := []) [] rfl
                      have hFc := va_free (wc := [(h0, .inr (9, [.ref m1, .ref m2, .ref m3, .int ik, .int wy, .int op, .int cl, .int cx0, .int cx1, .int cy0, .int cy1, .int ds, .ref m4, .ref m5, .ref m6, .ref m7, .ref m8, .ref m9, .int pn, .ref m10, .ref m11, .ref m12, .ref m13]))]) hD hS hA [3] rfl
                      refine va_calli (va_runV (As := [.int y_102, .int y_103]) (rest := []) ⟨hx, hb, hml, hown, hts⟩ (k_X9_isInClip l D H.size h0 m1 m2 m3 m4 m5 m6 m7 m8 m9 m10 m11 m12 m13 ik wy op cl cx0 cx1 cy0 cy1 ds pn y_102 y_103) (cwV 2 hts (gV bw_434 bw_423 bw_424 bw_391 bw_422) rfl rfl rfl (by decide +kernel) ⟨(by rw [hR]; exact Nat.le_of_ble_eq_true rfl), (by rw [hR]; exact Nat.le_of_ble_eq_true rfl)⟩) ⟨cP_blind, va_recv hKc hPc (ci := 9) (q0 := 0) rfl rfl, cP_at hPc hKc hDc hN⟩ rfl rfl hl.1 rfl (lv_room (Nat.le_of_ble_eq_true rfl)) dX9_joins_159 ⟨(by rw [hR]; exact Nat.le_of_ble_eq_true rfl), (by rw [hR]; exact Nat.le_of_ble_eq_true rfl)⟩) hS (fun q _ h => hFc q h) hFc (fun r_104 u9 t9 H1 locs ht hvm hr_104 hB hz1 hk1 hS => ?_)
                      try dsimp only at hr_104
                      obtain ⟨hP1, hK1, hD1⟩ := hB
                      rw [ht] at hP1
                      obtain ⟨hP, hD⟩ := va_join (wr := [(m3, .inl (cI, 16384, .inl gd)), (m13, .inl (cI, 4096, .inl gs)), (m4, .inl (cZ, 4096, .inl gu)), (m1, .inl (cI, 4, .inl gw)), (m2, .inl (cI, 4, .inl gh))]) (w1 := [(h0, .inr (9, [.ref m1, .ref m2, .ref m3, .int ik, .int wy, .int op, .int cl, .int cx0, .int cx1, .int cy0, .int cy1, .int ds, .ref m4, .ref m5, .ref m6, .ref m7, .ref m8, .ref m9, .int pn, .ref m10, .ref m11, .ref m12, .ref m13]))]) hP hD [3] [0, 1, 2, 4, 5] rfl rfl (by decide) (by decide) hk1 hFc hP1 hD1
                      clear hz1 hk1 hFc hKc hDc hPc
                      generalize H1 = H at hP hS ⊢
                      have hP : va_P D vwCl [(m3, .inl (cI, 16384, .inl gd)), (m13, .inl (cI, 4096, .inl gs)), (m4, .inl (cZ, 4096, .inl gu)), (m1, .inl (cI, 4, .inl gw)), (m2, .inl (cI, 4, .inl gh)), (h0, .inr (9, [.ref m1, .ref m2, .ref m3, .int ik, .int wy, .int op, .int cl, .int cx0, .int cx1, .int cy0, .int cy1, .int ds, .ref m4, .ref m5, .ref m6, .ref m7, .ref m8, .ref m9, .int pn, .ref m10, .ref m11, .ref m12, .ref m13]))] H := hP
                      have hD : va_D A [(m3, .inl (cI, 16384, .inl gd)), (m13, .inl (cI, 4096, .inl gs)), (m4, .inl (cZ, 4096, .inl gu)), (m1, .inl (cI, 4, .inl gw)), (m2, .inl (cI, 4, .inl gh)), (h0, .inr (9, [.ref m1, .ref m2, .ref m3, .int ik, .int wy, .int op, .int cl, .int cx0, .int cx1, .int cy0, .int cy1, .int ds, .ref m4, .ref m5, .ref m6, .ref m7, .ref m8, .ref m9, .int pn, .ref m10, .ref m11, .ref m12, .ref m13]))] := hD
                      refine lv_if_ne (tgt := 168) hx hb dX9_joins_162 (by decide) (fun c_105 => ?_) (fun c_105 => ?_)
                      · skip
                        have f_106 := bz1 hr_104 c_105
                        refine lv_bipush (v := 64) hx hb dX9_joins_168 (by decide) ?_
                        refine lv_iload hx hb dX9_joins_170 (lv_at hl 4 rfl) ?_
                        refine lv_iload hx hb dX9_joins_172 (lv_at hl 0 rfl) ?_
                        refine lv_iadd hx hb dX9_joins_174 ?_
                        refine lv_topi (fun y_107 ey_107 => ?_)
                        refine lv_imul hx hb dX9_joins_175 ?_
                        refine lv_topi (fun y_108 ey_108 => ?_)
                        refine lv_iload hx hb dX9_joins_176 (lv_at hl 5 rfl) ?_
                        refine lv_iadd hx hb dX9_joins_178 ?_
                        refine lv_topi (fun y_109 ey_109 => ?_)
                        refine lv_iload hx hb dX9_joins_179 (lv_at hl 1 rfl) ?_
                        refine lv_iadd hx hb dX9_joins_181 ?_
                        refine lv_topi (fun y_110 ey_110 => ?_)
                        have htoy_110 : y_110 = 64 * y_78 + y_77 := by rw [ey_110, ey_109, ey_108, ey_107, ey_78, ey_77, Int32.add_assoc]
                        have hiny_110 : vp_in y_110 4096 := by rw [htoy_110]; exact ix_in2 (by omega) (by omega) (by omega) (by omega)
                        refine lv_istore (lv' := [(14, .int y_110), (13, .int y_24), (12, .int y_22), (11, .int x11), (8, .int y_16), (10, .int y_15), (9, .int y_13), (7, .int z7), (6, .int y_3), (0, .ref h0), (1, .int k), (2, .int x), (3, .int y), (4, .int co), (5, .int ic)]) hx hb dX9_joins_182 hl (by decide) rfl (fun ls hl => ?_)
                        refine lv_aload_n hx hb dX9_joins_184 rfl (lv_at hl 9 rfl) ?_
                        refine va_get (D := D) (ci := 9) (v := .ref m4) (C := RX9) (T := TX9) (N := 23) hx hb hts hi_X9 hown hK hP 5 rfl rfl 12 (by decide) (hts _ bw_404) (fun _ h9 => h9) rfl dX9_joins_185 ?_
                        refine lv_iload hx hb dX9_joins_188 (lv_at hl 0 rfl) ?_
                        refine va_zald hx hb hK hP 2 1 rfl rfl hiny_110 dX9_joins_190 ?_
                        refine lv_if_ne (tgt := 238) hx hb dX9_joins_191 (by decide) (fun c_111 => ?_) (fun c_111 => ?_)
                        · skip
                          have f_112 : ¬ ((gu y_110.toNatClampNeg).toInt = 0) := fn_eq rfl (by decide) c_111
                          obtain ⟨y_113, ey_113⟩ : ∃ y : Int32, y = x11 + 1 := ⟨_, rfl⟩
                          refine lv_iinc (v := y_113) (lv' := [(11, .int y_113), (14, .int y_110), (13, .int y_24), (12, .int y_22), (8, .int y_16), (10, .int y_15), (9, .int y_13), (7, .int z7), (6, .int y_3), (0, .ref h0), (1, .int k), (2, .int x), (3, .int y), (4, .int co), (5, .int ic)]) hx hb dX9_joins_238 hl (k := 3) rfl (by rw [ey_113]; rfl) (by decide) rfl (fun ls hl => ?_)
                          refine lv_goto (tgt := 87) hx hb dX9_joins_241 (by decide) ?_
                          exact ih_18 (i + 1) my2 y_113 z7 gu gs _ _ _ (by omega) (by omega) (by rw [ey_113, ex_i]; exact nI_1 i) f7 fcn (by omega) (hP.sub (ws' := [(m1, .inl (cI, 4, .inl gw)), (m2, .inl (cI, 4, .inl gh)), (m3, .inl (cI, 16384, .inl gd)), (m13, .inl (cI, 4096, .inl gs)), (h0, .inr (9, [.ref m1, .ref m2, .ref m3, .int ik, .int wy, .int op, .int cl, .int cx0, .int cx1, .int cy0, .int cy1, .int ds, .ref m4, .ref m5, .ref m6, .ref m7, .ref m8, .ref m9, .int pn, .ref m10, .ref m11, .ref m12, .ref m13])), (m4, .inl (cZ, 4096, .inl gu))]) [3, 4, 0, 1, 5, 2] rfl) (hD.sub (ws' := [(m1, .inl (cI, 4, .inl gw)), (m2, .inl (cI, 4, .inl gh)), (m3, .inl (cI, 16384, .inl gd)), (m13, .inl (cI, 4096, .inl gs)), (h0, .inr (9, [.ref m1, .ref m2, .ref m3, .int ik, .int wy, .int op, .int cl, .int cx0, .int cx1, .int cy0, .int cy1, .int ds, .ref m4, .ref m5, .ref m6, .ref m7, .ref m8, .ref m9, .int pn, .ref m10, .ref m11, .ref m12, .ref m13])), (m4, .inl (cZ, 4096, .inl gu))]) [3, 4, 0, 1, 5, 2] (by decide) rfl) hS (lv_sub hl [0, 4, 5, 6, 7, 8, 9, 10, 11, 12, 13, 14] rfl)
                        · skip
                          have f_112 : (gu y_110.toNatClampNeg).toInt = 0 := f_eq rfl (by decide) c_111
                          refine lv_aload_n hx hb dX9_joins_194 rfl (lv_at hl 9 rfl) ?_
                          refine va_get (D := D) (ci := 9) (v := .ref m3) (C := RX9) (T := TX9) (N := 23) hx hb hts hi_X9 hown hK hP 5 rfl rfl 2 (by decide) (hts _ bw_398) (fun _ h9 => h9) rfl dX9_joins_195 ?_
                          refine lv_sipush (v := 4096) hx hb dX9_joins_198 (by decide) ?_
                          refine lv_iload_n hx hb dX9_joins_201 rfl (lv_at hl 10 rfl) ?_
                          refine lv_imul hx hb dX9_joins_202 ?_
                          refine lv_topi (fun y_114 ey_114 => ?_)
                          refine lv_iload hx hb dX9_joins_203 (lv_at hl 0 rfl) ?_
                          refine lv_iadd hx hb dX9_joins_205 ?_
                          refine lv_topi (fun y_115 ey_115 => ?_)
                          refine va_iald hx hb hK hP 0 0 rfl rfl (by rw [ey_115, ey_114]; exact kp_in (by omega) hiny_110) dX9_joins_206 ?_
                          refine lv_topi (fun y_116 ey_116 => ?_)
                          refine lv_iload hx hb dX9_joins_207 (lv_at hl 8 rfl) ?_
                          refine lv_icmp_eq (tgt := 215) hx hb dX9_joins_209 (by decide) (fun c_117 => ?_) (fun c_117 => ?_)
                          · skip
                            have f_118 : y_116.toInt = y_3.toInt := f_eq rfl rfl c_117
                            refine lv_aload_n hx hb dX9_joins_215 rfl (lv_at hl 9 rfl) ?_
                            refine va_get (D := D) (ci := 9) (v := .ref m4) (C := RX9) (T := TX9) (N := 23) hx hb hts hi_X9 hown hK hP 5 rfl rfl 12 (by decide) (hts _ bw_404) (fun _ h9 => h9) rfl dX9_joins_216 ?_
                            refine lv_iload hx hb dX9_joins_219 (lv_at hl 0 rfl) ?_
                            refine lv_iconst (v := 1) hx hb dX9_joins_221 (by decide) ?_
                            refine va_zast hx hb hK hP hD hS 2 1 rfl rfl hiny_110 dX9_joins_222 (fun H locs hP hD hS => ?_)
                            have hP : va_P D vwCl [(m3, .inl (cI, 16384, .inl gd)), (m13, .inl (cI, 4096, .inl gs)), (m4, .inl (cZ, 4096, .inl (upd gu y_110.toNatClampNeg (vp_nar .boolean 1)))), (m1, .inl (cI, 4, .inl gw)), (m2, .inl (cI, 4, .inl gh)), (h0, .inr (9, [.ref m1, .ref m2, .ref m3, .int ik, .int wy, .int op, .int cl, .int cx0, .int cx1, .int cy0, .int cy1, .int ds, .ref m4, .ref m5, .ref m6, .ref m7, .ref m8, .ref m9, .int pn, .ref m10, .ref m11, .ref m12, .ref m13]))] H := hP
                            have hD : va_D A [(m3, .inl (cI, 16384, .inl gd)), (m13, .inl (cI, 4096, .inl gs)), (m4, .inl (cZ, 4096, .inl (upd gu y_110.toNatClampNeg (vp_nar .boolean 1)))), (m1, .inl (cI, 4, .inl gw)), (m2, .inl (cI, 4, .inl gh)), (h0, .inr (9, [.ref m1, .ref m2, .ref m3, .int ik, .int wy, .int op, .int cl, .int cx0, .int cx1, .int cy0, .int cy1, .int ds, .ref m4, .ref m5, .ref m6, .ref m7, .ref m8, .ref m9, .int pn, .ref m10, .ref m11, .ref m12, .ref m13]))] := hD
                            generalize eg_119 : upd gu y_110.toNatClampNeg (vp_nar .boolean 1) = g_119 at hP hD
                            have hP : va_P D vwCl [(m3, .inl (cI, 16384, .inl gd)), (m13, .inl (cI, 4096, .inl gs)), (m4, .inl (cZ, 4096, .inl g_119)), (m1, .inl (cI, 4, .inl gw)), (m2, .inl (cI, 4, .inl gh)), (h0, .inr (9, [.ref m1, .ref m2, .ref m3, .int ik, .int wy, .int op, .int cl, .int cx0, .int cx1, .int cy0, .int cy1, .int ds, .ref m4, .ref m5, .ref m6, .ref m7, .ref m8, .ref m9, .int pn, .ref m10, .ref m11, .ref m12, .ref m13]))] H := hP
                            have hD : va_D A [(m3, .inl (cI, 16384, .inl gd)), (m13, .inl (cI, 4096, .inl gs)), (m4, .inl (cZ, 4096, .inl g_119)), (m1, .inl (cI, 4, .inl gw)), (m2, .inl (cI, 4, .inl gh)), (h0, .inr (9, [.ref m1, .ref m2, .ref m3, .int ik, .int wy, .int op, .int cl, .int cx0, .int cx1, .int cy0, .int cy1, .int ds, .ref m4, .ref m5, .ref m6, .ref m7, .ref m8, .ref m9, .int pn, .ref m10, .ref m11, .ref m12, .ref m13]))] := hD
                            have hcn2 : cntP g_119 4096 = my2 + 1 := by rw [← eg_119, cnt_new (cl_in hiny_110) c_111, fcn]
                            have hm2 : my2 + 1 ≤ 4096 := by rw [← hcn2]; exact cntP_le _ _
                            refine lv_aload_n hx hb dX9_joins_223 rfl (lv_at hl 9 rfl) ?_
                            refine va_get (D := D) (ci := 9) (v := .ref m13) (C := RX9) (T := TX9) (N := 23) hx hb hts hi_X9 hown hK hP 5 rfl rfl 22 (by decide) (hts _ bw_413) (fun _ h9 => h9) rfl dX9_joins_224 ?_
                            refine lv_iload hx hb dX9_joins_227 (lv_at hl 7 rfl) ?_
                            refine lv_iload hx hb dX9_joins_229 (lv_at hl 0 rfl) ?_
                            refine va_iast hx hb hK hP hD hS 1 0 rfl rfl (vp_in_iff.mpr ⟨by omega, by omega⟩) dX9_joins_231 (fun H locs hP hD hS => ?_)
                            have hP : va_P D vwCl [(m3, .inl (cI, 16384, .inl gd)), (m13, .inl (cI, 4096, .inl (upd gs z7.toNatClampNeg y_110))), (m4, .inl (cZ, 4096, .inl g_119)), (m1, .inl (cI, 4, .inl gw)), (m2, .inl (cI, 4, .inl gh)), (h0, .inr (9, [.ref m1, .ref m2, .ref m3, .int ik, .int wy, .int op, .int cl, .int cx0, .int cx1, .int cy0, .int cy1, .int ds, .ref m4, .ref m5, .ref m6, .ref m7, .ref m8, .ref m9, .int pn, .ref m10, .ref m11, .ref m12, .ref m13]))] H := hP
                            have hD : va_D A [(m3, .inl (cI, 16384, .inl gd)), (m13, .inl (cI, 4096, .inl (upd gs z7.toNatClampNeg y_110))), (m4, .inl (cZ, 4096, .inl g_119)), (m1, .inl (cI, 4, .inl gw)), (m2, .inl (cI, 4, .inl gh)), (h0, .inr (9, [.ref m1, .ref m2, .ref m3, .int ik, .int wy, .int op, .int cl, .int cx0, .int cx1, .int cy0, .int cy1, .int ds, .ref m4, .ref m5, .ref m6, .ref m7, .ref m8, .ref m9, .int pn, .ref m10, .ref m11, .ref m12, .ref m13]))] := hD
                            generalize eg_120 : upd gs z7.toNatClampNeg y_110 = g_120 at hP hD
                            have hP : va_P D vwCl [(m3, .inl (cI, 16384, .inl gd)), (m13, .inl (cI, 4096, .inl g_120)), (m4, .inl (cZ, 4096, .inl g_119)), (m1, .inl (cI, 4, .inl gw)), (m2, .inl (cI, 4, .inl gh)), (h0, .inr (9, [.ref m1, .ref m2, .ref m3, .int ik, .int wy, .int op, .int cl, .int cx0, .int cx1, .int cy0, .int cy1, .int ds, .ref m4, .ref m5, .ref m6, .ref m7, .ref m8, .ref m9, .int pn, .ref m10, .ref m11, .ref m12, .ref m13]))] H := hP
                            have hD : va_D A [(m3, .inl (cI, 16384, .inl gd)), (m13, .inl (cI, 4096, .inl g_120)), (m4, .inl (cZ, 4096, .inl g_119)), (m1, .inl (cI, 4, .inl gw)), (m2, .inl (cI, 4, .inl gh)), (h0, .inr (9, [.ref m1, .ref m2, .ref m3, .int ik, .int wy, .int op, .int cl, .int cx0, .int cx1, .int cy0, .int cy1, .int ds, .ref m4, .ref m5, .ref m6, .ref m7, .ref m8, .ref m9, .int pn, .ref m10, .ref m11, .ref m12, .ref m13]))] := hD
                            refine lv_iload hx hb dX9_joins_232 (lv_at hl 7 rfl) ?_
                            refine lv_iconst (v := 1) hx hb dX9_joins_234 (by decide) ?_
                            refine lv_iadd hx hb dX9_joins_235 ?_
                            refine lv_topi (fun y_121 ey_121 => ?_)
                            refine lv_istore (lv' := [(7, .int y_121), (14, .int y_110), (13, .int y_24), (12, .int y_22), (11, .int x11), (8, .int y_16), (10, .int y_15), (9, .int y_13), (6, .int y_3), (0, .ref h0), (1, .int k), (2, .int x), (3, .int y), (4, .int co), (5, .int ic)]) hx hb dX9_joins_236 hl (by decide) rfl (fun ls hl => ?_)
                            obtain ⟨y_122, ey_122⟩ : ∃ y : Int32, y = x11 + 1 := ⟨_, rfl⟩
                            refine lv_iinc (v := y_122) (lv' := [(11, .int y_122), (7, .int y_121), (14, .int y_110), (13, .int y_24), (12, .int y_22), (8, .int y_16), (10, .int y_15), (9, .int y_13), (6, .int y_3), (0, .ref h0), (1, .int k), (2, .int x), (3, .int y), (4, .int co), (5, .int ic)]) hx hb dX9_joins_238 hl (k := 4) rfl (by rw [ey_122]; rfl) (by decide) rfl (fun ls hl => ?_)
                            refine lv_goto (tgt := 87) hx hb dX9_joins_241 (by decide) ?_
                            exact ih_18 (i + 1) (my2 + 1) y_122 y_121 g_119 g_120 _ _ _ (by omega) (by omega) (by rw [ey_122, ex_i]; exact nI_1 i) (by rw [ey_121, f7]; exact nI_1 my2) hcn2 (by omega) (hP.sub (ws' := [(m1, .inl (cI, 4, .inl gw)), (m2, .inl (cI, 4, .inl gh)), (m3, .inl (cI, 16384, .inl gd)), (m13, .inl (cI, 4096, .inl g_120)), (h0, .inr (9, [.ref m1, .ref m2, .ref m3, .int ik, .int wy, .int op, .int cl, .int cx0, .int cx1, .int cy0, .int cy1, .int ds, .ref m4, .ref m5, .ref m6, .ref m7, .ref m8, .ref m9, .int pn, .ref m10, .ref m11, .ref m12, .ref m13])), (m4, .inl (cZ, 4096, .inl g_119))]) [3, 4, 0, 1, 5, 2] rfl) (hD.sub (ws' := [(m1, .inl (cI, 4, .inl gw)), (m2, .inl (cI, 4, .inl gh)), (m3, .inl (cI, 16384, .inl gd)), (m13, .inl (cI, 4096, .inl g_120)), (h0, .inr (9, [.ref m1, .ref m2, .ref m3, .int ik, .int wy, .int op, .int cl, .int cx0, .int cx1, .int cy0, .int cy1, .int ds, .ref m4, .ref m5, .ref m6, .ref m7, .ref m8, .ref m9, .int pn, .ref m10, .ref m11, .ref m12, .ref m13])), (m4, .inl (cZ, 4096, .inl g_119))]) [3, 4, 0, 1, 5, 2] (by decide) rfl) hS (lv_sub hl [0, 5, 6, 7, 1, 8, 9, 10, 11, 12, 13, 14] rfl)
                          · skip
                            have f_118 : ¬ (y_116.toInt = y_3.toInt) := fn_eq rfl rfl c_117
                            refine lv_goto (tgt := 238) hx hb dX9_joins_212 (by decide) ?_
                            obtain ⟨y_123, ey_123⟩ : ∃ y : Int32, y = x11 + 1 := ⟨_, rfl⟩
                            refine lv_iinc (v := y_123) (lv' := [(11, .int y_123), (14, .int y_110), (13, .int y_24), (12, .int y_22), (8, .int y_16), (10, .int y_15), (9, .int y_13), (7, .int z7), (6, .int y_3), (0, .ref h0), (1, .int k), (2, .int x), (3, .int y), (4, .int co), (5, .int ic)]) hx hb dX9_joins_238 hl (k := 3) rfl (by rw [ey_123]; rfl) (by decide) rfl (fun ls hl => ?_)
                            refine lv_goto (tgt := 87) hx hb dX9_joins_241 (by decide) ?_
                            exact ih_18 (i + 1) my2 y_123 z7 gu gs _ _ _ (by omega) (by omega) (by rw [ey_123, ex_i]; exact nI_1 i) f7 fcn (by omega) (hP.sub (ws' := [(m1, .inl (cI, 4, .inl gw)), (m2, .inl (cI, 4, .inl gh)), (m3, .inl (cI, 16384, .inl gd)), (m13, .inl (cI, 4096, .inl gs)), (h0, .inr (9, [.ref m1, .ref m2, .ref m3, .int ik, .int wy, .int op, .int cl, .int cx0, .int cx1, .int cy0, .int cy1, .int ds, .ref m4, .ref m5, .ref m6, .ref m7, .ref m8, .ref m9, .int pn, .ref m10, .ref m11, .ref m12, .ref m13])), (m4, .inl (cZ, 4096, .inl gu))]) [3, 4, 0, 1, 5, 2] rfl) (hD.sub (ws' := [(m1, .inl (cI, 4, .inl gw)), (m2, .inl (cI, 4, .inl gh)), (m3, .inl (cI, 16384, .inl gd)), (m13, .inl (cI, 4096, .inl gs)), (h0, .inr (9, [.ref m1, .ref m2, .ref m3, .int ik, .int wy, .int op, .int cl, .int cx0, .int cx1, .int cy0, .int cy1, .int ds, .ref m4, .ref m5, .ref m6, .ref m7, .ref m8, .ref m9, .int pn, .ref m10, .ref m11, .ref m12, .ref m13])), (m4, .inl (cZ, 4096, .inl gu))]) [3, 4, 0, 1, 5, 2] (by decide) rfl) hS (lv_sub hl [0, 4, 5, 6, 7, 8, 9, 10, 11, 12, 13, 14] rfl)
                      · skip
                        have f_106 := bz0 hr_104 c_105
                        refine lv_goto (tgt := 238) hx hb dX9_joins_165 (by decide) ?_
                        obtain ⟨y_124, ey_124⟩ : ∃ y : Int32, y = x11 + 1 := ⟨_, rfl⟩
                        refine lv_iinc (v := y_124) (lv' := [(11, .int y_124), (13, .int y_24), (12, .int y_22), (8, .int y_16), (10, .int y_15), (9, .int y_13), (7, .int z7), (6, .int y_3), (0, .ref h0), (1, .int k), (2, .int x), (3, .int y), (4, .int co), (5, .int ic)]) hx hb dX9_joins_238 hl (k := 2) rfl (by rw [ey_124]; rfl) (by decide) rfl (fun ls hl => ?_)
                        refine lv_goto (tgt := 87) hx hb dX9_joins_241 (by decide) ?_
                        exact ih_18 (i + 1) my2 y_124 z7 gu gs _ _ _ (by omega) (by omega) (by rw [ey_124, ex_i]; exact nI_1 i) f7 fcn (by omega) (hP.sub (ws' := [(m1, .inl (cI, 4, .inl gw)), (m2, .inl (cI, 4, .inl gh)), (m3, .inl (cI, 16384, .inl gd)), (m13, .inl (cI, 4096, .inl gs)), (h0, .inr (9, [.ref m1, .ref m2, .ref m3, .int ik, .int wy, .int op, .int cl, .int cx0, .int cx1, .int cy0, .int cy1, .int ds, .ref m4, .ref m5, .ref m6, .ref m7, .ref m8, .ref m9, .int pn, .ref m10, .ref m11, .ref m12, .ref m13])), (m4, .inl (cZ, 4096, .inl gu))]) [3, 4, 0, 1, 5, 2] rfl) (hD.sub (ws' := [(m1, .inl (cI, 4, .inl gw)), (m2, .inl (cI, 4, .inl gh)), (m3, .inl (cI, 16384, .inl gd)), (m13, .inl (cI, 4096, .inl gs)), (h0, .inr (9, [.ref m1, .ref m2, .ref m3, .int ik, .int wy, .int op, .int cl, .int cx0, .int cx1, .int cy0, .int cy1, .int ds, .ref m4, .ref m5, .ref m6, .ref m7, .ref m8, .ref m9, .int pn, .ref m10, .ref m11, .ref m12, .ref m13])), (m4, .inl (cZ, 4096, .inl gu))]) [3, 4, 0, 1, 5, 2] (by decide) rfl) hS (lv_sub hl [0, 3, 4, 5, 6, 7, 8, 9, 10, 11, 12, 13] rfl)
                · skip
                  have f_76 : ¬ (y_22.toInt = 0) := fn_eq rfl (by decide) c_75
                  refine lv_iload hx hb dX9_joins_120 (lv_at hl 0 rfl) ?_
                  refine lv_if_ne (tgt := 238) hx hb dX9_joins_122 (by decide) (fun c_125 => ?_) (fun c_125 => ?_)
                  · skip
                    have f_126 : ¬ (y_24.toInt = 0) := fn_eq rfl (by decide) c_125
                    obtain ⟨y_127, ey_127⟩ : ∃ y : Int32, y = x11 + 1 := ⟨_, rfl⟩
                    refine lv_iinc (v := y_127) (lv' := [(11, .int y_127), (13, .int y_24), (12, .int y_22), (8, .int y_16), (10, .int y_15), (9, .int y_13), (7, .int z7), (6, .int y_3), (0, .ref h0), (1, .int k), (2, .int x), (3, .int y), (4, .int co), (5, .int ic)]) hx hb dX9_joins_238 hl (k := 2) rfl (by rw [ey_127]; rfl) (by decide) rfl (fun ls hl => ?_)
                    refine lv_goto (tgt := 87) hx hb dX9_joins_241 (by decide) ?_
                    exact ih_18 (i + 1) my2 y_127 z7 gu gs _ _ _ (by omega) (by omega) (by rw [ey_127, ex_i]; exact nI_1 i) f7 fcn (by omega) (hP.sub (ws' := [(m1, .inl (cI, 4, .inl gw)), (m2, .inl (cI, 4, .inl gh)), (m3, .inl (cI, 16384, .inl gd)), (m13, .inl (cI, 4096, .inl gs)), (h0, .inr (9, [.ref m1, .ref m2, .ref m3, .int ik, .int wy, .int op, .int cl, .int cx0, .int cx1, .int cy0, .int cy1, .int ds, .ref m4, .ref m5, .ref m6, .ref m7, .ref m8, .ref m9, .int pn, .ref m10, .ref m11, .ref m12, .ref m13])), (m4, .inl (cZ, 4096, .inl gu))]) [0, 1, 2, 3, 4, 5] rfl) (hD.sub (ws' := [(m1, .inl (cI, 4, .inl gw)), (m2, .inl (cI, 4, .inl gh)), (m3, .inl (cI, 16384, .inl gd)), (m13, .inl (cI, 4096, .inl gs)), (h0, .inr (9, [.ref m1, .ref m2, .ref m3, .int ik, .int wy, .int op, .int cl, .int cx0, .int cx1, .int cy0, .int cy1, .int ds, .ref m4, .ref m5, .ref m6, .ref m7, .ref m8, .ref m9, .int pn, .ref m10, .ref m11, .ref m12, .ref m13])), (m4, .inl (cZ, 4096, .inl gu))]) [0, 1, 2, 3, 4, 5] (by decide) rfl) hS (lv_sub hl [0, 3, 4, 5, 6, 7, 8, 9, 10, 11, 12, 13] rfl)
                  · skip
                    have f_126 : y_24.toInt = 0 := f_eq rfl (by decide) c_125
                    refine lv_aload_n hx hb dX9_joins_125 rfl (lv_at hl 8 rfl) ?_
                    refine lv_iload_n hx hb dX9_joins_126 rfl (lv_at hl 9 rfl) ?_
                    refine lv_iload hx hb dX9_joins_127 (lv_at hl 5 rfl) ?_
                    refine lv_iload hx hb dX9_joins_129 (lv_at hl 1 rfl) ?_
                    refine lv_iadd hx hb dX9_joins_131 ?_
                    refine lv_topi (fun y_128 ey_128 => ?_)
                    refine lv_iload hx hb dX9_joins_132 (lv_at hl 4 rfl) ?_
                    refine lv_iload hx hb dX9_joins_134 (lv_at hl 0 rfl) ?_
                    refine lv_iadd hx hb dX9_joins_136 ?_
                    refine lv_topi (fun y_129 ey_129 => ?_)
                    have hPc := hP.sub (ws' := [(h0, .inr (9, [.ref m1, .ref m2, .ref m3, .int ik, .int wy, .int op, .int cl, .int cx0, .int cx1, .int cy0, .int cy1, .int ds, .ref m4, .ref m5, .ref m6, .ref m7, .ref m8, .ref m9, .int pn, .ref m10, .ref m11, .ref m12, .ref m13])), (m1, .inl (cI, 4, .inl gw)), (m2, .inl (cI, 4, .inl gh))]) [4, 0, 1] rfl
                    have hDc := hD.sub (ws' := [(h0, .inr (9, [.ref m1, .ref m2, .ref m3, .int ik, .int wy, .int op, .int cl, .int cx0, .int cx1, .int cy0, .int cy1, .int ds, .ref m4, .ref m5, .ref m6, .ref m7, .ref m8, .ref m9, .int pn, .ref m10, .ref m11, .ref m12, .ref m13])), (m1, .inl (cI, 4, .inl gw)), (m2, .inl (cI, 4, .inl gh))]) [4, 0, 1] (by decide) rfl
                    have hKc := hK.sub (tys' := [(cI, .int)]) [0] rfl
                    have hFc := va_free (wc := [(h0, .inr (9, [.ref m1, .ref m2, .ref m3, .int ik, .int wy, .int op, .int cl, .int cx0, .int cx1, .int cy0, .int cy1, .int ds, .ref m4, .ref m5, .ref m6, .ref m7, .ref m8, .ref m9, .int pn, .ref m10, .ref m11, .ref m12, .ref m13])), (m1, .inl (cI, 4, .inl gw)), (m2, .inl (cI, 4, .inl gh))]) hD hS hA [4, 0, 1] rfl
                    refine va_calli (va_runV (As := [.int k, .int y_128, .int y_129]) (rest := []) ⟨hx, hb, hml, hown, hts⟩ (k_X9_isOn l D H.size h0 m1 m2 m3 m4 m5 m6 m7 m8 m9 m10 m11 m12 m13 ik wy op cl cx0 cx1 cy0 cy1 ds pn gw gh k y_128 y_129 cI (by omega)) (cwV 3 hts (gV bw_433 bw_418 bw_419 bw_391 bw_417) rfl rfl rfl (by decide +kernel) ⟨(by rw [hR]; exact Nat.le_of_ble_eq_true rfl), (by rw [hR]; exact Nat.le_of_ble_eq_true rfl)⟩) ⟨cP_blind, va_recv hKc hPc (ci := 9) (q0 := 0) rfl rfl, cP_at hPc hKc hDc hN⟩ rfl rfl hl.1 rfl (lv_room (Nat.le_of_ble_eq_true rfl)) dX9_joins_137 ⟨(by rw [hR]; exact Nat.le_of_ble_eq_true rfl), (by rw [hR]; exact Nat.le_of_ble_eq_true rfl)⟩) hS (fun q _ h => hFc q h) hFc (fun r_130 u9 t9 H1 locs ht hvm hr_130 hB hz1 hk1 hS => ?_)
                    try dsimp only at hr_130
                    obtain ⟨hP1, hK1, hD1⟩ := hB
                    rw [ht] at hP1
                    obtain ⟨hP, hD⟩ := va_join (wr := [(m3, .inl (cI, 16384, .inl gd)), (m13, .inl (cI, 4096, .inl gs)), (m4, .inl (cZ, 4096, .inl gu))]) (w1 := [(h0, .inr (9, [.ref m1, .ref m2, .ref m3, .int ik, .int wy, .int op, .int cl, .int cx0, .int cx1, .int cy0, .int cy1, .int ds, .ref m4, .ref m5, .ref m6, .ref m7, .ref m8, .ref m9, .int pn, .ref m10, .ref m11, .ref m12, .ref m13])), (m1, .inl (cI, 4, .inl gw)), (m2, .inl (cI, 4, .inl gh))]) hP hD [4, 0, 1] [2, 3, 5] rfl rfl (by decide) (by decide) hk1 hFc hP1 hD1
                    clear hz1 hk1 hFc hKc hDc hPc
                    generalize H1 = H at hP hS ⊢
                    have hP : va_P D vwCl [(m3, .inl (cI, 16384, .inl gd)), (m13, .inl (cI, 4096, .inl gs)), (m4, .inl (cZ, 4096, .inl gu)), (h0, .inr (9, [.ref m1, .ref m2, .ref m3, .int ik, .int wy, .int op, .int cl, .int cx0, .int cx1, .int cy0, .int cy1, .int ds, .ref m4, .ref m5, .ref m6, .ref m7, .ref m8, .ref m9, .int pn, .ref m10, .ref m11, .ref m12, .ref m13])), (m1, .inl (cI, 4, .inl gw)), (m2, .inl (cI, 4, .inl gh))] H := hP
                    have hD : va_D A [(m3, .inl (cI, 16384, .inl gd)), (m13, .inl (cI, 4096, .inl gs)), (m4, .inl (cZ, 4096, .inl gu)), (h0, .inr (9, [.ref m1, .ref m2, .ref m3, .int ik, .int wy, .int op, .int cl, .int cx0, .int cx1, .int cy0, .int cy1, .int ds, .ref m4, .ref m5, .ref m6, .ref m7, .ref m8, .ref m9, .int pn, .ref m10, .ref m11, .ref m12, .ref m13])), (m1, .inl (cI, 4, .inl gw)), (m2, .inl (cI, 4, .inl gh))] := hD
                    refine lv_if_eq (tgt := 238) hx hb dX9_joins_140 (by decide) (fun c_131 => ?_) (fun c_131 => ?_)
                    · skip
                      have f_132 := bz0 hr_130 c_131
                      obtain ⟨y_133, ey_133⟩ : ∃ y : Int32, y = x11 + 1 := ⟨_, rfl⟩
                      refine lv_iinc (v := y_133) (lv' := [(11, .int y_133), (13, .int y_24), (12, .int y_22), (8, .int y_16), (10, .int y_15), (9, .int y_13), (7, .int z7), (6, .int y_3), (0, .ref h0), (1, .int k), (2, .int x), (3, .int y), (4, .int co), (5, .int ic)]) hx hb dX9_joins_238 hl (k := 2) rfl (by rw [ey_133]; rfl) (by decide) rfl (fun ls hl => ?_)
                      refine lv_goto (tgt := 87) hx hb dX9_joins_241 (by decide) ?_
                      exact ih_18 (i + 1) my2 y_133 z7 gu gs _ _ _ (by omega) (by omega) (by rw [ey_133, ex_i]; exact nI_1 i) f7 fcn (by omega) (hP.sub (ws' := [(m1, .inl (cI, 4, .inl gw)), (m2, .inl (cI, 4, .inl gh)), (m3, .inl (cI, 16384, .inl gd)), (m13, .inl (cI, 4096, .inl gs)), (h0, .inr (9, [.ref m1, .ref m2, .ref m3, .int ik, .int wy, .int op, .int cl, .int cx0, .int cx1, .int cy0, .int cy1, .int ds, .ref m4, .ref m5, .ref m6, .ref m7, .ref m8, .ref m9, .int pn, .ref m10, .ref m11, .ref m12, .ref m13])), (m4, .inl (cZ, 4096, .inl gu))]) [4, 5, 0, 1, 3, 2] rfl) (hD.sub (ws' := [(m1, .inl (cI, 4, .inl gw)), (m2, .inl (cI, 4, .inl gh)), (m3, .inl (cI, 16384, .inl gd)), (m13, .inl (cI, 4096, .inl gs)), (h0, .inr (9, [.ref m1, .ref m2, .ref m3, .int ik, .int wy, .int op, .int cl, .int cx0, .int cx1, .int cy0, .int cy1, .int ds, .ref m4, .ref m5, .ref m6, .ref m7, .ref m8, .ref m9, .int pn, .ref m10, .ref m11, .ref m12, .ref m13])), (m4, .inl (cZ, 4096, .inl gu))]) [4, 5, 0, 1, 3, 2] (by decide) rfl) hS (lv_sub hl [0, 3, 4, 5, 6, 7, 8, 9, 10, 11, 12, 13] rfl)
                    · skip
                      have f_132 := bz1 hr_130 c_131
                      refine lv_iload hx hb dX9_joins_143 (lv_at hl 13 rfl) ?_
                      refine lv_if_eq (tgt := 168) hx hb dX9_joins_145 (by decide) (fun c_134 => ?_) (fun c_134 => ?_)
                      · skip
                        have f_135 : ic.toInt = 0 := f_eq rfl (by decide) c_134
                        refine lv_bipush (v := 64) hx hb dX9_joins_168 (by decide) ?_
                        refine lv_iload hx hb dX9_joins_170 (lv_at hl 4 rfl) ?_
                        refine lv_iload hx hb dX9_joins_172 (lv_at hl 0 rfl) ?_
                        refine lv_iadd hx hb dX9_joins_174 ?_
                        refine lv_topi (fun y_136 ey_136 => ?_)
                        refine lv_imul hx hb dX9_joins_175 ?_
                        refine lv_topi (fun y_137 ey_137 => ?_)
                        refine lv_iload hx hb dX9_joins_176 (lv_at hl 5 rfl) ?_
                        refine lv_iadd hx hb dX9_joins_178 ?_
                        refine lv_topi (fun y_138 ey_138 => ?_)
                        refine lv_iload hx hb dX9_joins_179 (lv_at hl 1 rfl) ?_
                        refine lv_iadd hx hb dX9_joins_181 ?_
                        refine lv_topi (fun y_139 ey_139 => ?_)
                        have htoy_139 : y_139 = 64 * y_129 + y_128 := by rw [ey_139, ey_138, ey_137, ey_136, ey_129, ey_128, Int32.add_assoc]
                        have hiny_139 : vp_in y_139 4096 := by rw [htoy_139]; exact ix_in2 (by omega) (by omega) (by omega) (by omega)
                        refine lv_istore (lv' := [(14, .int y_139), (13, .int y_24), (12, .int y_22), (11, .int x11), (8, .int y_16), (10, .int y_15), (9, .int y_13), (7, .int z7), (6, .int y_3), (0, .ref h0), (1, .int k), (2, .int x), (3, .int y), (4, .int co), (5, .int ic)]) hx hb dX9_joins_182 hl (by decide) rfl (fun ls hl => ?_)
                        refine lv_aload_n hx hb dX9_joins_184 rfl (lv_at hl 9 rfl) ?_
                        refine va_get (D := D) (ci := 9) (v := .ref m4) (C := RX9) (T := TX9) (N := 23) hx hb hts hi_X9 hown hK hP 3 rfl rfl 12 (by decide) (hts _ bw_404) (fun _ h9 => h9) rfl dX9_joins_185 ?_
                        refine lv_iload hx hb dX9_joins_188 (lv_at hl 0 rfl) ?_
                        refine va_zald hx hb hK hP 2 1 rfl rfl hiny_139 dX9_joins_190 ?_
                        refine lv_if_ne (tgt := 238) hx hb dX9_joins_191 (by decide) (fun c_140 => ?_) (fun c_140 => ?_)
                        · skip
                          have f_141 : ¬ ((gu y_139.toNatClampNeg).toInt = 0) := fn_eq rfl (by decide) c_140
                          obtain ⟨y_142, ey_142⟩ : ∃ y : Int32, y = x11 + 1 := ⟨_, rfl⟩
                          refine lv_iinc (v := y_142) (lv' := [(11, .int y_142), (14, .int y_139), (13, .int y_24), (12, .int y_22), (8, .int y_16), (10, .int y_15), (9, .int y_13), (7, .int z7), (6, .int y_3), (0, .ref h0), (1, .int k), (2, .int x), (3, .int y), (4, .int co), (5, .int ic)]) hx hb dX9_joins_238 hl (k := 3) rfl (by rw [ey_142]; rfl) (by decide) rfl (fun ls hl => ?_)
                          refine lv_goto (tgt := 87) hx hb dX9_joins_241 (by decide) ?_
                          exact ih_18 (i + 1) my2 y_142 z7 gu gs _ _ _ (by omega) (by omega) (by rw [ey_142, ex_i]; exact nI_1 i) f7 fcn (by omega) (hP.sub (ws' := [(m1, .inl (cI, 4, .inl gw)), (m2, .inl (cI, 4, .inl gh)), (m3, .inl (cI, 16384, .inl gd)), (m13, .inl (cI, 4096, .inl gs)), (h0, .inr (9, [.ref m1, .ref m2, .ref m3, .int ik, .int wy, .int op, .int cl, .int cx0, .int cx1, .int cy0, .int cy1, .int ds, .ref m4, .ref m5, .ref m6, .ref m7, .ref m8, .ref m9, .int pn, .ref m10, .ref m11, .ref m12, .ref m13])), (m4, .inl (cZ, 4096, .inl gu))]) [4, 5, 0, 1, 3, 2] rfl) (hD.sub (ws' := [(m1, .inl (cI, 4, .inl gw)), (m2, .inl (cI, 4, .inl gh)), (m3, .inl (cI, 16384, .inl gd)), (m13, .inl (cI, 4096, .inl gs)), (h0, .inr (9, [.ref m1, .ref m2, .ref m3, .int ik, .int wy, .int op, .int cl, .int cx0, .int cx1, .int cy0, .int cy1, .int ds, .ref m4, .ref m5, .ref m6, .ref m7, .ref m8, .ref m9, .int pn, .ref m10, .ref m11, .ref m12, .ref m13])), (m4, .inl (cZ, 4096, .inl gu))]) [4, 5, 0, 1, 3, 2] (by decide) rfl) hS (lv_sub hl [0, 4, 5, 6, 7, 8, 9, 10, 11, 12, 13, 14] rfl)
                        · skip
                          have f_141 : (gu y_139.toNatClampNeg).toInt = 0 := f_eq rfl (by decide) c_140
                          refine lv_aload_n hx hb dX9_joins_194 rfl (lv_at hl 9 rfl) ?_
                          refine va_get (D := D) (ci := 9) (v := .ref m3) (C := RX9) (T := TX9) (N := 23) hx hb hts hi_X9 hown hK hP 3 rfl rfl 2 (by decide) (hts _ bw_398) (fun _ h9 => h9) rfl dX9_joins_195 ?_
                          refine lv_sipush (v := 4096) hx hb dX9_joins_198 (by decide) ?_
                          refine lv_iload_n hx hb dX9_joins_201 rfl (lv_at hl 10 rfl) ?_
                          refine lv_imul hx hb dX9_joins_202 ?_
                          refine lv_topi (fun y_143 ey_143 => ?_)
                          refine lv_iload hx hb dX9_joins_203 (lv_at hl 0 rfl) ?_
                          refine lv_iadd hx hb dX9_joins_205 ?_
                          refine lv_topi (fun y_144 ey_144 => ?_)
                          refine va_iald hx hb hK hP 0 0 rfl rfl (by rw [ey_144, ey_143]; exact kp_in (by omega) hiny_139) dX9_joins_206 ?_
                          refine lv_topi (fun y_145 ey_145 => ?_)
                          refine lv_iload hx hb dX9_joins_207 (lv_at hl 8 rfl) ?_
                          refine lv_icmp_eq (tgt := 215) hx hb dX9_joins_209 (by decide) (fun c_146 => ?_) (fun c_146 => ?_)
                          · skip
                            have f_147 : y_145.toInt = y_3.toInt := f_eq rfl rfl c_146
                            refine lv_aload_n hx hb dX9_joins_215 rfl (lv_at hl 9 rfl) ?_
                            refine va_get (D := D) (ci := 9) (v := .ref m4) (C := RX9) (T := TX9) (N := 23) hx hb hts hi_X9 hown hK hP 3 rfl rfl 12 (by decide) (hts _ bw_404) (fun _ h9 => h9) rfl dX9_joins_216 ?_
                            refine lv_iload hx hb dX9_joins_219 (lv_at hl 0 rfl) ?_
                            refine lv_iconst (v := 1) hx hb dX9_joins_221 (by decide) ?_
                            refine va_zast hx hb hK hP hD hS 2 1 rfl rfl hiny_139 dX9_joins_222 (fun H locs hP hD hS => ?_)
                            have hP : va_P D vwCl [(m3, .inl (cI, 16384, .inl gd)), (m13, .inl (cI, 4096, .inl gs)), (m4, .inl (cZ, 4096, .inl (upd gu y_139.toNatClampNeg (vp_nar .boolean 1)))), (h0, .inr (9, [.ref m1, .ref m2, .ref m3, .int ik, .int wy, .int op, .int cl, .int cx0, .int cx1, .int cy0, .int cy1, .int ds, .ref m4, .ref m5, .ref m6, .ref m7, .ref m8, .ref m9, .int pn, .ref m10, .ref m11, .ref m12, .ref m13])), (m1, .inl (cI, 4, .inl gw)), (m2, .inl (cI, 4, .inl gh))] H := hP
                            have hD : va_D A [(m3, .inl (cI, 16384, .inl gd)), (m13, .inl (cI, 4096, .inl gs)), (m4, .inl (cZ, 4096, .inl (upd gu y_139.toNatClampNeg (vp_nar .boolean 1)))), (h0, .inr (9, [.ref m1, .ref m2, .ref m3, .int ik, .int wy, .int op, .int cl, .int cx0, .int cx1, .int cy0, .int cy1, .int ds, .ref m4, .ref m5, .ref m6, .ref m7, .ref m8, .ref m9, .int pn, .ref m10, .ref m11, .ref m12, .ref m13])), (m1, .inl (cI, 4, .inl gw)), (m2, .inl (cI, 4, .inl gh))] := hD
                            generalize eg_148 : upd gu y_139.toNatClampNeg (vp_nar .boolean 1) = g_148 at hP hD
                            have hP : va_P D vwCl [(m3, .inl (cI, 16384, .inl gd)), (m13, .inl (cI, 4096, .inl gs)), (m4, .inl (cZ, 4096, .inl g_148)), (h0, .inr (9, [.ref m1, .ref m2, .ref m3, .int ik, .int wy, .int op, .int cl, .int cx0, .int cx1, .int cy0, .int cy1, .int ds, .ref m4, .ref m5, .ref m6, .ref m7, .ref m8, .ref m9, .int pn, .ref m10, .ref m11, .ref m12, .ref m13])), (m1, .inl (cI, 4, .inl gw)), (m2, .inl (cI, 4, .inl gh))] H := hP
                            have hD : va_D A [(m3, .inl (cI, 16384, .inl gd)), (m13, .inl (cI, 4096, .inl gs)), (m4, .inl (cZ, 4096, .inl g_148)), (h0, .inr (9, [.ref m1, .ref m2, .ref m3, .int ik, .int wy, .int op, .int cl, .int cx0, .int cx1, .int cy0, .int cy1, .int ds, .ref m4, .ref m5, .ref m6, .ref m7, .ref m8, .ref m9, .int pn, .ref m10, .ref m11, .ref m12, .ref m13])), (m1, .inl (cI, 4, .inl gw)), (m2, .inl (cI, 4, .inl gh))] := hD
                            have hcn2 : cntP g_148 4096 = my2 + 1 := by rw [← eg_148, cnt_new (cl_in hiny_139) c_140, fcn]
                            have hm2 : my2 + 1 ≤ 4096 := by rw [← hcn2]; exact cntP_le _ _
                            refine lv_aload_n hx hb dX9_joins_223 rfl (lv_at hl 9 rfl) ?_
                            refine va_get (D := D) (ci := 9) (v := .ref m13) (C := RX9) (T := TX9) (N := 23) hx hb hts hi_X9 hown hK hP 3 rfl rfl 22 (by decide) (hts _ bw_413) (fun _ h9 => h9) rfl dX9_joins_224 ?_
                            refine lv_iload hx hb dX9_joins_227 (lv_at hl 7 rfl) ?_
                            refine lv_iload hx hb dX9_joins_229 (lv_at hl 0 rfl) ?_
                            refine va_iast hx hb hK hP hD hS 1 0 rfl rfl (vp_in_iff.mpr ⟨by omega, by omega⟩) dX9_joins_231 (fun H locs hP hD hS => ?_)
                            have hP : va_P D vwCl [(m3, .inl (cI, 16384, .inl gd)), (m13, .inl (cI, 4096, .inl (upd gs z7.toNatClampNeg y_139))), (m4, .inl (cZ, 4096, .inl g_148)), (h0, .inr (9, [.ref m1, .ref m2, .ref m3, .int ik, .int wy, .int op, .int cl, .int cx0, .int cx1, .int cy0, .int cy1, .int ds, .ref m4, .ref m5, .ref m6, .ref m7, .ref m8, .ref m9, .int pn, .ref m10, .ref m11, .ref m12, .ref m13])), (m1, .inl (cI, 4, .inl gw)), (m2, .inl (cI, 4, .inl gh))] H := hP
                            have hD : va_D A [(m3, .inl (cI, 16384, .inl gd)), (m13, .inl (cI, 4096, .inl (upd gs z7.toNatClampNeg y_139))), (m4, .inl (cZ, 4096, .inl g_148)), (h0, .inr (9, [.ref m1, .ref m2, .ref m3, .int ik, .int wy, .int op, .int cl, .int cx0, .int cx1, .int cy0, .int cy1, .int ds, .ref m4, .ref m5, .ref m6, .ref m7, .ref m8, .ref m9, .int pn, .ref m10, .ref m11, .ref m12, .ref m13])), (m1, .inl (cI, 4, .inl gw)), (m2, .inl (cI, 4, .inl gh))] := hD
                            generalize eg_149 : upd gs z7.toNatClampNeg y_139 = g_149 at hP hD
                            have hP : va_P D vwCl [(m3, .inl (cI, 16384, .inl gd)), (m13, .inl (cI, 4096, .inl g_149)), (m4, .inl (cZ, 4096, .inl g_148)), (h0, .inr (9, [.ref m1, .ref m2, .ref m3, .int ik, .int wy, .int op, .int cl, .int cx0, .int cx1, .int cy0, .int cy1, .int ds, .ref m4, .ref m5, .ref m6, .ref m7, .ref m8, .ref m9, .int pn, .ref m10, .ref m11, .ref m12, .ref m13])), (m1, .inl (cI, 4, .inl gw)), (m2, .inl (cI, 4, .inl gh))] H := hP
                            have hD : va_D A [(m3, .inl (cI, 16384, .inl gd)), (m13, .inl (cI, 4096, .inl g_149)), (m4, .inl (cZ, 4096, .inl g_148)), (h0, .inr (9, [.ref m1, .ref m2, .ref m3, .int ik, .int wy, .int op, .int cl, .int cx0, .int cx1, .int cy0, .int cy1, .int ds, .ref m4, .ref m5, .ref m6, .ref m7, .ref m8, .ref m9, .int pn, .ref m10, .ref m11, .ref m12, .ref m13])), (m1, .inl (cI, 4, .inl gw)), (m2, .inl (cI, 4, .inl gh))] := hD
                            refine lv_iload hx hb dX9_joins_232 (lv_at hl 7 rfl) ?_
                            refine lv_iconst (v := 1) hx hb dX9_joins_234 (by decide) ?_
                            refine lv_iadd hx hb dX9_joins_235 ?_
                            refine lv_topi (fun y_150 ey_150 => ?_)
                            refine lv_istore (lv' := [(7, .int y_150), (14, .int y_139), (13, .int y_24), (12, .int y_22), (11, .int x11), (8, .int y_16), (10, .int y_15), (9, .int y_13), (6, .int y_3), (0, .ref h0), (1, .int k), (2, .int x), (3, .int y), (4, .int co), (5, .int ic)]) hx hb dX9_joins_236 hl (by decide) rfl (fun ls hl => ?_)
                            obtain ⟨y_151, ey_151⟩ : ∃ y : Int32, y = x11 + 1 := ⟨_, rfl⟩
                            refine lv_iinc (v := y_151) (lv' := [(11, .int y_151), (7, .int y_150), (14, .int y_139), (13, .int y_24), (12, .int y_22), (8, .int y_16), (10, .int y_15), (9, .int y_13), (6, .int y_3), (0, .ref h0), (1, .int k), (2, .int x), (3, .int y), (4, .int co), (5, .int ic)]) hx hb dX9_joins_238 hl (k := 4) rfl (by rw [ey_151]; rfl) (by decide) rfl (fun ls hl => ?_)
                            refine lv_goto (tgt := 87) hx hb dX9_joins_241 (by decide) ?_
                            exact ih_18 (i + 1) (my2 + 1) y_151 y_150 g_148 g_149 _ _ _ (by omega) (by omega) (by rw [ey_151, ex_i]; exact nI_1 i) (by rw [ey_150, f7]; exact nI_1 my2) hcn2 (by omega) (hP.sub (ws' := [(m1, .inl (cI, 4, .inl gw)), (m2, .inl (cI, 4, .inl gh)), (m3, .inl (cI, 16384, .inl gd)), (m13, .inl (cI, 4096, .inl g_149)), (h0, .inr (9, [.ref m1, .ref m2, .ref m3, .int ik, .int wy, .int op, .int cl, .int cx0, .int cx1, .int cy0, .int cy1, .int ds, .ref m4, .ref m5, .ref m6, .ref m7, .ref m8, .ref m9, .int pn, .ref m10, .ref m11, .ref m12, .ref m13])), (m4, .inl (cZ, 4096, .inl g_148))]) [4, 5, 0, 1, 3, 2] rfl) (hD.sub (ws' := [(m1, .inl (cI, 4, .inl gw)), (m2, .inl (cI, 4, .inl gh)), (m3, .inl (cI, 16384, .inl gd)), (m13, .inl (cI, 4096, .inl g_149)), (h0, .inr (9, [.ref m1, .ref m2, .ref m3, .int ik, .int wy, .int op, .int cl, .int cx0, .int cx1, .int cy0, .int cy1, .int ds, .ref m4, .ref m5, .ref m6, .ref m7, .ref m8, .ref m9, .int pn, .ref m10, .ref m11, .ref m12, .ref m13])), (m4, .inl (cZ, 4096, .inl g_148))]) [4, 5, 0, 1, 3, 2] (by decide) rfl) hS (lv_sub hl [0, 5, 6, 7, 1, 8, 9, 10, 11, 12, 13, 14] rfl)
                          · skip
                            have f_147 : ¬ (y_145.toInt = y_3.toInt) := fn_eq rfl rfl c_146
                            refine lv_goto (tgt := 238) hx hb dX9_joins_212 (by decide) ?_
                            obtain ⟨y_152, ey_152⟩ : ∃ y : Int32, y = x11 + 1 := ⟨_, rfl⟩
                            refine lv_iinc (v := y_152) (lv' := [(11, .int y_152), (14, .int y_139), (13, .int y_24), (12, .int y_22), (8, .int y_16), (10, .int y_15), (9, .int y_13), (7, .int z7), (6, .int y_3), (0, .ref h0), (1, .int k), (2, .int x), (3, .int y), (4, .int co), (5, .int ic)]) hx hb dX9_joins_238 hl (k := 3) rfl (by rw [ey_152]; rfl) (by decide) rfl (fun ls hl => ?_)
                            refine lv_goto (tgt := 87) hx hb dX9_joins_241 (by decide) ?_
                            exact ih_18 (i + 1) my2 y_152 z7 gu gs _ _ _ (by omega) (by omega) (by rw [ey_152, ex_i]; exact nI_1 i) f7 fcn (by omega) (hP.sub (ws' := [(m1, .inl (cI, 4, .inl gw)), (m2, .inl (cI, 4, .inl gh)), (m3, .inl (cI, 16384, .inl gd)), (m13, .inl (cI, 4096, .inl gs)), (h0, .inr (9, [.ref m1, .ref m2, .ref m3, .int ik, .int wy, .int op, .int cl, .int cx0, .int cx1, .int cy0, .int cy1, .int ds, .ref m4, .ref m5, .ref m6, .ref m7, .ref m8, .ref m9, .int pn, .ref m10, .ref m11, .ref m12, .ref m13])), (m4, .inl (cZ, 4096, .inl gu))]) [4, 5, 0, 1, 3, 2] rfl) (hD.sub (ws' := [(m1, .inl (cI, 4, .inl gw)), (m2, .inl (cI, 4, .inl gh)), (m3, .inl (cI, 16384, .inl gd)), (m13, .inl (cI, 4096, .inl gs)), (h0, .inr (9, [.ref m1, .ref m2, .ref m3, .int ik, .int wy, .int op, .int cl, .int cx0, .int cx1, .int cy0, .int cy1, .int ds, .ref m4, .ref m5, .ref m6, .ref m7, .ref m8, .ref m9, .int pn, .ref m10, .ref m11, .ref m12, .ref m13])), (m4, .inl (cZ, 4096, .inl gu))]) [4, 5, 0, 1, 3, 2] (by decide) rfl) hS (lv_sub hl [0, 4, 5, 6, 7, 8, 9, 10, 11, 12, 13, 14] rfl)
                      · skip
                        have f_135 : ¬ (ic.toInt = 0) := fn_eq rfl (by decide) c_134
                        refine lv_aload_n hx hb dX9_joins_148 rfl (lv_at hl 8 rfl) ?_
                        refine lv_iload hx hb dX9_joins_149 (lv_at hl 5 rfl) ?_
                        refine lv_iload hx hb dX9_joins_151 (lv_at hl 1 rfl) ?_
                        refine lv_iadd hx hb dX9_joins_153 ?_
                        refine lv_topi (fun y_153 ey_153 => ?_)
                        refine lv_iload hx hb dX9_joins_154 (lv_at hl 4 rfl) ?_
                        refine lv_iload hx hb dX9_joins_156 (lv_at hl 0 rfl) ?_
                        refine lv_iadd hx hb dX9_joins_158 ?_
                        refine lv_topi (fun y_154 ey_154 => ?_)
                        have hPc := hP.sub (ws' := [(h0, .inr (9, [.ref m1, .ref m2, .ref m3, .int ik, .int wy, .int op, .int cl, .int cx0, .int cx1, .int cy0, .int cy1, .int ds, .ref m4, .ref m5, .ref m6, .ref m7, .ref m8, .ref m9, .int pn, .ref m10, .ref m11, .ref m12, .ref m13]))]) [3] rfl
                        have hDc := hD.sub (ws' := [(h0, .inr (9, [.ref m1, .ref m2, .ref m3, .int ik, .int wy, .int op, .int cl, .int cx0, .int cx1, .int cy0, .int cy1, .int ds, .ref m4, .ref m5, .ref m6, .ref m7, .ref m8, .ref m9, .int pn, .ref m10, .ref m11, .ref m12, .ref m13]))]) [3] (by decide) rfl
                        have hKc := hK.sub (tys' := []) [] rfl
                        have hFc := va_free (wc := [(h0, .inr (9, [.ref m1, .ref m2, .ref m3, .int ik, .int wy, .int op, .int cl, .int cx0, .int cx1, .int cy0, .int cy1, .int ds, .ref m4, .ref m5, .ref m6, .ref m7, .ref m8, .ref m9, .int pn, .ref m10, .ref m11, .ref m12, .ref m13]))]) hD hS hA [3] rfl
                        refine va_calli (va_runV (As := [.int y_153, .int y_154]) (rest := []) ⟨hx, hb, hml, hown, hts⟩ (k_X9_isInClip l D H.size h0 m1 m2 m3 m4 m5 m6 m7 m8 m9 m10 m11 m12 m13 ik wy op cl cx0 cx1 cy0 cy1 ds pn y_153 y_154) (cwV 2 hts (gV bw_434 bw_423 bw_424 bw_391 bw_422) rfl rfl rfl (by decide +kernel) ⟨(by rw [hR]; exact Nat.le_of_ble_eq_true rfl), (by rw [hR]; exact Nat.le_of_ble_eq_true rfl)⟩) ⟨cP_blind, va_recv hKc hPc (ci := 9) (q0 := 0) rfl rfl, cP_at hPc hKc hDc hN⟩ rfl rfl hl.1 rfl (lv_room (Nat.le_of_ble_eq_true rfl)) dX9_joins_159 ⟨(by rw [hR]; exact Nat.le_of_ble_eq_true rfl), (by rw [hR]; exact Nat.le_of_ble_eq_true rfl)⟩) hS (fun q _ h => hFc q h) hFc (fun r_155 u9 t9 H1 locs ht hvm hr_155 hB hz1 hk1 hS => ?_)
                        try dsimp only at hr_155
                        obtain ⟨hP1, hK1, hD1⟩ := hB
                        rw [ht] at hP1
                        obtain ⟨hP, hD⟩ := va_join (wr := [(m3, .inl (cI, 16384, .inl gd)), (m13, .inl (cI, 4096, .inl gs)), (m4, .inl (cZ, 4096, .inl gu)), (m1, .inl (cI, 4, .inl gw)), (m2, .inl (cI, 4, .inl gh))]) (w1 := [(h0, .inr (9, [.ref m1, .ref m2, .ref m3, .int ik, .int wy, .int op, .int cl, .int cx0, .int cx1, .int cy0, .int cy1, .int ds, .ref m4, .ref m5, .ref m6, .ref m7, .ref m8, .ref m9, .int pn, .ref m10, .ref m11, .ref m12, .ref m13]))]) hP hD [3] [0, 1, 2, 4, 5] rfl rfl (by decide) (by decide) hk1 hFc hP1 hD1
                        clear hz1 hk1 hFc hKc hDc hPc
                        generalize H1 = H at hP hS ⊢
                        have hP : va_P D vwCl [(m3, .inl (cI, 16384, .inl gd)), (m13, .inl (cI, 4096, .inl gs)), (m4, .inl (cZ, 4096, .inl gu)), (m1, .inl (cI, 4, .inl gw)), (m2, .inl (cI, 4, .inl gh)), (h0, .inr (9, [.ref m1, .ref m2, .ref m3, .int ik, .int wy, .int op, .int cl, .int cx0, .int cx1, .int cy0, .int cy1, .int ds, .ref m4, .ref m5, .ref m6, .ref m7, .ref m8, .ref m9, .int pn, .ref m10, .ref m11, .ref m12, .ref m13]))] H := hP
                        have hD : va_D A [(m3, .inl (cI, 16384, .inl gd)), (m13, .inl (cI, 4096, .inl gs)), (m4, .inl (cZ, 4096, .inl gu)), (m1, .inl (cI, 4, .inl gw)), (m2, .inl (cI, 4, .inl gh)), (h0, .inr (9, [.ref m1, .ref m2, .ref m3, .int ik, .int wy, .int op, .int cl, .int cx0, .int cx1, .int cy0, .int cy1, .int ds, .ref m4, .ref m5, .ref m6, .ref m7, .ref m8, .ref m9, .int pn, .ref m10, .ref m11, .ref m12, .ref m13]))] := hD
                        refine lv_if_ne (tgt := 168) hx hb dX9_joins_162 (by decide) (fun c_156 => ?_) (fun c_156 => ?_)
                        · skip
                          have f_157 := bz1 hr_155 c_156
                          refine lv_bipush (v := 64) hx hb dX9_joins_168 (by decide) ?_
                          refine lv_iload hx hb dX9_joins_170 (lv_at hl 4 rfl) ?_
                          refine lv_iload hx hb dX9_joins_172 (lv_at hl 0 rfl) ?_
                          refine lv_iadd hx hb dX9_joins_174 ?_
                          refine lv_topi (fun y_158 ey_158 => ?_)
                          refine lv_imul hx hb dX9_joins_175 ?_
                          refine lv_topi (fun y_159 ey_159 => ?_)
                          refine lv_iload hx hb dX9_joins_176 (lv_at hl 5 rfl) ?_
                          refine lv_iadd hx hb dX9_joins_178 ?_
                          refine lv_topi (fun y_160 ey_160 => ?_)
                          refine lv_iload hx hb dX9_joins_179 (lv_at hl 1 rfl) ?_
                          refine lv_iadd hx hb dX9_joins_181 ?_
                          refine lv_topi (fun y_161 ey_161 => ?_)
                          have htoy_161 : y_161 = 64 * y_129 + y_128 := by rw [ey_161, ey_160, ey_159, ey_158, ey_129, ey_128, Int32.add_assoc]
                          have hiny_161 : vp_in y_161 4096 := by rw [htoy_161]; exact ix_in2 (by omega) (by omega) (by omega) (by omega)
                          refine lv_istore (lv' := [(14, .int y_161), (13, .int y_24), (12, .int y_22), (11, .int x11), (8, .int y_16), (10, .int y_15), (9, .int y_13), (7, .int z7), (6, .int y_3), (0, .ref h0), (1, .int k), (2, .int x), (3, .int y), (4, .int co), (5, .int ic)]) hx hb dX9_joins_182 hl (by decide) rfl (fun ls hl => ?_)
                          refine lv_aload_n hx hb dX9_joins_184 rfl (lv_at hl 9 rfl) ?_
                          refine va_get (D := D) (ci := 9) (v := .ref m4) (C := RX9) (T := TX9) (N := 23) hx hb hts hi_X9 hown hK hP 5 rfl rfl 12 (by decide) (hts _ bw_404) (fun _ h9 => h9) rfl dX9_joins_185 ?_
                          refine lv_iload hx hb dX9_joins_188 (lv_at hl 0 rfl) ?_
                          refine va_zald hx hb hK hP 2 1 rfl rfl hiny_161 dX9_joins_190 ?_
                          refine lv_if_ne (tgt := 238) hx hb dX9_joins_191 (by decide) (fun c_162 => ?_) (fun c_162 => ?_)
                          · skip
                            have f_163 : ¬ ((gu y_161.toNatClampNeg).toInt = 0) := fn_eq rfl (by decide) c_162
                            obtain ⟨y_164, ey_164⟩ : ∃ y : Int32, y = x11 + 1 := ⟨_, rfl⟩
                            refine lv_iinc (v := y_164) (lv' := [(11, .int y_164), (14, .int y_161), (13, .int y_24), (12, .int y_22), (8, .int y_16), (10, .int y_15), (9, .int y_13), (7, .int z7), (6, .int y_3), (0, .ref h0), (1, .int k), (2, .int x), (3, .int y), (4, .int co), (5, .int ic)]) hx hb dX9_joins_238 hl (k := 3) rfl (by rw [ey_164]; rfl) (by decide) rfl (fun ls hl => ?_)
                            refine lv_goto (tgt := 87) hx hb dX9_joins_241 (by decide) ?_
                            exact ih_18 (i + 1) my2 y_164 z7 gu gs _ _ _ (by omega) (by omega) (by rw [ey_164, ex_i]; exact nI_1 i) f7 fcn (by omega) (hP.sub (ws' := [(m1, .inl (cI, 4, .inl gw)), (m2, .inl (cI, 4, .inl gh)), (m3, .inl (cI, 16384, .inl gd)), (m13, .inl (cI, 4096, .inl gs)), (h0, .inr (9, [.ref m1, .ref m2, .ref m3, .int ik, .int wy, .int op, .int cl, .int cx0, .int cx1, .int cy0, .int cy1, .int ds, .ref m4, .ref m5, .ref m6, .ref m7, .ref m8, .ref m9, .int pn, .ref m10, .ref m11, .ref m12, .ref m13])), (m4, .inl (cZ, 4096, .inl gu))]) [3, 4, 0, 1, 5, 2] rfl) (hD.sub (ws' := [(m1, .inl (cI, 4, .inl gw)), (m2, .inl (cI, 4, .inl gh)), (m3, .inl (cI, 16384, .inl gd)), (m13, .inl (cI, 4096, .inl gs)), (h0, .inr (9, [.ref m1, .ref m2, .ref m3, .int ik, .int wy, .int op, .int cl, .int cx0, .int cx1, .int cy0, .int cy1, .int ds, .ref m4, .ref m5, .ref m6, .ref m7, .ref m8, .ref m9, .int pn, .ref m10, .ref m11, .ref m12, .ref m13])), (m4, .inl (cZ, 4096, .inl gu))]) [3, 4, 0, 1, 5, 2] (by decide) rfl) hS (lv_sub hl [0, 4, 5, 6, 7, 8, 9, 10, 11, 12, 13, 14] rfl)
                          · skip
                            have f_163 : (gu y_161.toNatClampNeg).toInt = 0 := f_eq rfl (by decide) c_162
                            refine lv_aload_n hx hb dX9_joins_194 rfl (lv_at hl 9 rfl) ?_
                            refine va_get (D := D) (ci := 9) (v := .ref m3) (C := RX9) (T := TX9) (N := 23) hx hb hts hi_X9 hown hK hP 5 rfl rfl 2 (by decide) (hts _ bw_398) (fun _ h9 => h9) rfl dX9_joins_195 ?_
                            refine lv_sipush (v := 4096) hx hb dX9_joins_198 (by decide) ?_
                            refine lv_iload_n hx hb dX9_joins_201 rfl (lv_at hl 10 rfl) ?_
                            refine lv_imul hx hb dX9_joins_202 ?_
                            refine lv_topi (fun y_165 ey_165 => ?_)
                            refine lv_iload hx hb dX9_joins_203 (lv_at hl 0 rfl) ?_
                            refine lv_iadd hx hb dX9_joins_205 ?_
                            refine lv_topi (fun y_166 ey_166 => ?_)
                            refine va_iald hx hb hK hP 0 0 rfl rfl (by rw [ey_166, ey_165]; exact kp_in (by omega) hiny_161) dX9_joins_206 ?_
                            refine lv_topi (fun y_167 ey_167 => ?_)
                            refine lv_iload hx hb dX9_joins_207 (lv_at hl 8 rfl) ?_
                            refine lv_icmp_eq (tgt := 215) hx hb dX9_joins_209 (by decide) (fun c_168 => ?_) (fun c_168 => ?_)
                            · skip
                              have f_169 : y_167.toInt = y_3.toInt := f_eq rfl rfl c_168
                              refine lv_aload_n hx hb dX9_joins_215 rfl (lv_at hl 9 rfl) ?_
                              refine va_get (D := D) (ci := 9) (v := .ref m4) (C := RX9) (T := TX9) (N := 23) hx hb hts hi_X9 hown hK hP 5 rfl rfl 12 (by decide) (hts _ bw_404) (fun _ h9 => h9) rfl dX9_joins_216 ?_
                              refine lv_iload hx hb dX9_joins_219 (lv_at hl 0 rfl) ?_
                              refine lv_iconst (v := 1) hx hb dX9_joins_221 (by decide) ?_
                              refine va_zast hx hb hK hP hD hS 2 1 rfl rfl hiny_161 dX9_joins_222 (fun H locs hP hD hS => ?_)
                              have hP : va_P D vwCl [(m3, .inl (cI, 16384, .inl gd)), (m13, .inl (cI, 4096, .inl gs)), (m4, .inl (cZ, 4096, .inl (upd gu y_161.toNatClampNeg (vp_nar .boolean 1)))), (m1, .inl (cI, 4, .inl gw)), (m2, .inl (cI, 4, .inl gh)), (h0, .inr (9, [.ref m1, .ref m2, .ref m3, .int ik, .int wy, .int op, .int cl, .int cx0, .int cx1, .int cy0, .int cy1, .int ds, .ref m4, .ref m5, .ref m6, .ref m7, .ref m8, .ref m9, .int pn, .ref m10, .ref m11, .ref m12, .ref m13]))] H := hP
                              have hD : va_D A [(m3, .inl (cI, 16384, .inl gd)), (m13, .inl (cI, 4096, .inl gs)), (m4, .inl (cZ, 4096, .inl (upd gu y_161.toNatClampNeg (vp_nar .boolean 1)))), (m1, .inl (cI, 4, .inl gw)), (m2, .inl (cI, 4, .inl gh)), (h0, .inr (9, [.ref m1, .ref m2, .ref m3, .int ik, .int wy, .int op, .int cl, .int cx0, .int cx1, .int cy0, .int cy1, .int ds, .ref m4, .ref m5, .ref m6, .ref m7, .ref m8, .ref m9, .int pn, .ref m10, .ref m11, .ref m12, .ref m13]))] := hD
                              generalize eg_170 : upd gu y_161.toNatClampNeg (vp_nar .boolean 1) = g_170 at hP hD
                              have hP : va_P D vwCl [(m3, .inl (cI, 16384, .inl gd)), (m13, .inl (cI, 4096, .inl gs)), (m4, .inl (cZ, 4096, .inl g_170)), (m1, .inl (cI, 4, .inl gw)), (m2, .inl (cI, 4, .inl gh)), (h0, .inr (9, [.ref m1, .ref m2, .ref m3, .int ik, .int wy, .int op, .int cl, .int cx0, .int cx1, .int cy0, .int cy1, .int ds, .ref m4, .ref m5, .ref m6, .ref m7, .ref m8, .ref m9, .int pn, .ref m10, .ref m11, .ref m12, .ref m13]))] H := hP
                              have hD : va_D A [(m3, .inl (cI, 16384, .inl gd)), (m13, .inl (cI, 4096, .inl gs)), (m4, .inl (cZ, 4096, .inl g_170)), (m1, .inl (cI, 4, .inl gw)), (m2, .inl (cI, 4, .inl gh)), (h0, .inr (9, [.ref m1, .ref m2, .ref m3, .int ik, .int wy, .int op, .int cl, .int cx0, .int cx1, .int cy0, .int cy1, .int ds, .ref m4, .ref m5, .ref m6, .ref m7, .ref m8, .ref m9, .int pn, .ref m10, .ref m11, .ref m12, .ref m13]))] := hD
                              have hcn2 : cntP g_170 4096 = my2 + 1 := by rw [← eg_170, cnt_new (cl_in hiny_161) c_162, fcn]
                              have hm2 : my2 + 1 ≤ 4096 := by rw [← hcn2]; exact cntP_le _ _
                              refine lv_aload_n hx hb dX9_joins_223 rfl (lv_at hl 9 rfl) ?_
                              refine va_get (D := D) (ci := 9) (v := .ref m13) (C := RX9) (T := TX9) (N := 23) hx hb hts hi_X9 hown hK hP 5 rfl rfl 22 (by decide) (hts _ bw_413) (fun _ h9 => h9) rfl dX9_joins_224 ?_
                              refine lv_iload hx hb dX9_joins_227 (lv_at hl 7 rfl) ?_
                              refine lv_iload hx hb dX9_joins_229 (lv_at hl 0 rfl) ?_
                              refine va_iast hx hb hK hP hD hS 1 0 rfl rfl (vp_in_iff.mpr ⟨by omega, by omega⟩) dX9_joins_231 (fun H locs hP hD hS => ?_)
                              have hP : va_P D vwCl [(m3, .inl (cI, 16384, .inl gd)), (m13, .inl (cI, 4096, .inl (upd gs z7.toNatClampNeg y_161))), (m4, .inl (cZ, 4096, .inl g_170)), (m1, .inl (cI, 4, .inl gw)), (m2, .inl (cI, 4, .inl gh)), (h0, .inr (9, [.ref m1, .ref m2, .ref m3, .int ik, .int wy, .int op, .int cl, .int cx0, .int cx1, .int cy0, .int cy1, .int ds, .ref m4, .ref m5, .ref m6, .ref m7, .ref m8, .ref m9, .int pn, .ref m10, .ref m11, .ref m12, .ref m13]))] H := hP
                              have hD : va_D A [(m3, .inl (cI, 16384, .inl gd)), (m13, .inl (cI, 4096, .inl (upd gs z7.toNatClampNeg y_161))), (m4, .inl (cZ, 4096, .inl g_170)), (m1, .inl (cI, 4, .inl gw)), (m2, .inl (cI, 4, .inl gh)), (h0, .inr (9, [.ref m1, .ref m2, .ref m3, .int ik, .int wy, .int op, .int cl, .int cx0, .int cx1, .int cy0, .int cy1, .int ds, .ref m4, .ref m5, .ref m6, .ref m7, .ref m8, .ref m9, .int pn, .ref m10, .ref m11, .ref m12, .ref m13]))] := hD
                              generalize eg_171 : upd gs z7.toNatClampNeg y_161 = g_171 at hP hD
                              have hP : va_P D vwCl [(m3, .inl (cI, 16384, .inl gd)), (m13, .inl (cI, 4096, .inl g_171)), (m4, .inl (cZ, 4096, .inl g_170)), (m1, .inl (cI, 4, .inl gw)), (m2, .inl (cI, 4, .inl gh)), (h0, .inr (9, [.ref m1, .ref m2, .ref m3, .int ik, .int wy, .int op, .int cl, .int cx0, .int cx1, .int cy0, .int cy1, .int ds, .ref m4, .ref m5, .ref m6, .ref m7, .ref m8, .ref m9, .int pn, .ref m10, .ref m11, .ref m12, .ref m13]))] H := hP
                              have hD : va_D A [(m3, .inl (cI, 16384, .inl gd)), (m13, .inl (cI, 4096, .inl g_171)), (m4, .inl (cZ, 4096, .inl g_170)), (m1, .inl (cI, 4, .inl gw)), (m2, .inl (cI, 4, .inl gh)), (h0, .inr (9, [.ref m1, .ref m2, .ref m3, .int ik, .int wy, .int op, .int cl, .int cx0, .int cx1, .int cy0, .int cy1, .int ds, .ref m4, .ref m5, .ref m6, .ref m7, .ref m8, .ref m9, .int pn, .ref m10, .ref m11, .ref m12, .ref m13]))] := hD
                              refine lv_iload hx hb dX9_joins_232 (lv_at hl 7 rfl) ?_
                              refine lv_iconst (v := 1) hx hb dX9_joins_234 (by decide) ?_
                              refine lv_iadd hx hb dX9_joins_235 ?_
                              refine lv_topi (fun y_172 ey_172 => ?_)
                              refine lv_istore (lv' := [(7, .int y_172), (14, .int y_161), (13, .int y_24), (12, .int y_22), (11, .int x11), (8, .int y_16), (10, .int y_15), (9, .int y_13), (6, .int y_3), (0, .ref h0), (1, .int k), (2, .int x), (3, .int y), (4, .int co), (5, .int ic)]) hx hb dX9_joins_236 hl (by decide) rfl (fun ls hl => ?_)
                              obtain ⟨y_173, ey_173⟩ : ∃ y : Int32, y = x11 + 1 := ⟨_, rfl⟩
                              refine lv_iinc (v := y_173) (lv' := [(11, .int y_173), (7, .int y_172), (14, .int y_161), (13, .int y_24), (12, .int y_22), (8, .int y_16), (10, .int y_15), (9, .int y_13), (6, .int y_3), (0, .ref h0), (1, .int k), (2, .int x), (3, .int y), (4, .int co), (5, .int ic)]) hx hb dX9_joins_238 hl (k := 4) rfl (by rw [ey_173]; rfl) (by decide) rfl (fun ls hl => ?_)
                              refine lv_goto (tgt := 87) hx hb dX9_joins_241 (by decide) ?_
                              exact ih_18 (i + 1) (my2 + 1) y_173 y_172 g_170 g_171 _ _ _ (by omega) (by omega) (by rw [ey_173, ex_i]; exact nI_1 i) (by rw [ey_172, f7]; exact nI_1 my2) hcn2 (by omega) (hP.sub (ws' := [(m1, .inl (cI, 4, .inl gw)), (m2, .inl (cI, 4, .inl gh)), (m3, .inl (cI, 16384, .inl gd)), (m13, .inl (cI, 4096, .inl g_171)), (h0, .inr (9, [.ref m1, .ref m2, .ref m3, .int ik, .int wy, .int op, .int cl, .int cx0, .int cx1, .int cy0, .int cy1, .int ds, .ref m4, .ref m5, .ref m6, .ref m7, .ref m8, .ref m9, .int pn, .ref m10, .ref m11, .ref m12, .ref m13])), (m4, .inl (cZ, 4096, .inl g_170))]) [3, 4, 0, 1, 5, 2] rfl) (hD.sub (ws' := [(m1, .inl (cI, 4, .inl gw)), (m2, .inl (cI, 4, .inl gh)), (m3, .inl (cI, 16384, .inl gd)), (m13, .inl (cI, 4096, .inl g_171)), (h0, .inr (9, [.ref m1, .ref m2, .ref m3, .int ik, .int wy, .int op, .int cl, .int cx0, .int cx1, .int cy0, .int cy1, .int ds, .ref m4, .ref m5, .ref m6, .ref m7, .ref m8, .ref m9, .int pn, .ref m10, .ref m11, .ref m12, .ref m13])), (m4, .inl (cZ, 4096, .inl g_170))]) [3, 4, 0, 1, 5, 2] (by decide) rfl) hS (lv_sub hl [0, 5, 6, 7, 1, 8, 9, 10, 11, 12, 13, 14] rfl)
                            · skip
                              have f_169 : ¬ (y_167.toInt = y_3.toInt) := fn_eq rfl rfl c_168
                              refine lv_goto (tgt := 238) hx hb dX9_joins_212 (by decide) ?_
                              obtain ⟨y_174, ey_174⟩ : ∃ y : Int32, y = x11 + 1 := ⟨_, rfl⟩
                              refine lv_iinc (v := y_174) (lv' := [(11, .int y_174), (14, .int y_161), (13, .int y_24), (12, .int y_22), (8, .int y_16), (10, .int y_15), (9, .int y_13), (7, .int z7), (6, .int y_3), (0, .ref h0), (1, .int k), (2, .int x), (3, .int y), (4, .int co), (5, .int ic)]) hx hb dX9_joins_238 hl (k := 3) rfl (by rw [ey_174]; rfl) (by decide) rfl (fun ls hl => ?_)
                              refine lv_goto (tgt := 87) hx hb dX9_joins_241 (by decide) ?_
                              exact ih_18 (i + 1) my2 y_174 z7 gu gs _ _ _ (by omega) (by omega) (by rw [ey_174, ex_i]; exact nI_1 i) f7 fcn (by omega) (hP.sub (ws' := [(m1, .inl (cI, 4, .inl gw)), (m2, .inl (cI, 4, .inl gh)), (m3, .inl (cI, 16384, .inl gd)), (m13, .inl (cI, 4096, .inl gs)), (h0, .inr (9, [.ref m1, .ref m2, .ref m3, .int ik, .int wy, .int op, .int cl, .int cx0, .int cx1, .int cy0, .int cy1, .int ds, .ref m4, .ref m5, .ref m6, .ref m7, .ref m8, .ref m9, .int pn, .ref m10, .ref m11, .ref m12, .ref m13])), (m4, .inl (cZ, 4096, .inl gu))]) [3, 4, 0, 1, 5, 2] rfl) (hD.sub (ws' := [(m1, .inl (cI, 4, .inl gw)), (m2, .inl (cI, 4, .inl gh)), (m3, .inl (cI, 16384, .inl gd)), (m13, .inl (cI, 4096, .inl gs)), (h0, .inr (9, [.ref m1, .ref m2, .ref m3, .int ik, .int wy, .int op, .int cl, .int cx0, .int cx1, .int cy0, .int cy1, .int ds, .ref m4, .ref m5, .ref m6, .ref m7, .ref m8, .ref m9, .int pn, .ref m10, .ref m11, .ref m12, .ref m13])), (m4, .inl (cZ, 4096, .inl gu))]) [3, 4, 0, 1, 5, 2] (by decide) rfl) hS (lv_sub hl [0, 4, 5, 6, 7, 8, 9, 10, 11, 12, 13, 14] rfl)
                        · skip
                          have f_157 := bz0 hr_155 c_156
                          refine lv_goto (tgt := 238) hx hb dX9_joins_165 (by decide) ?_
                          obtain ⟨y_175, ey_175⟩ : ∃ y : Int32, y = x11 + 1 := ⟨_, rfl⟩
                          refine lv_iinc (v := y_175) (lv' := [(11, .int y_175), (13, .int y_24), (12, .int y_22), (8, .int y_16), (10, .int y_15), (9, .int y_13), (7, .int z7), (6, .int y_3), (0, .ref h0), (1, .int k), (2, .int x), (3, .int y), (4, .int co), (5, .int ic)]) hx hb dX9_joins_238 hl (k := 2) rfl (by rw [ey_175]; rfl) (by decide) rfl (fun ls hl => ?_)
                          refine lv_goto (tgt := 87) hx hb dX9_joins_241 (by decide) ?_
                          exact ih_18 (i + 1) my2 y_175 z7 gu gs _ _ _ (by omega) (by omega) (by rw [ey_175, ex_i]; exact nI_1 i) f7 fcn (by omega) (hP.sub (ws' := [(m1, .inl (cI, 4, .inl gw)), (m2, .inl (cI, 4, .inl gh)), (m3, .inl (cI, 16384, .inl gd)), (m13, .inl (cI, 4096, .inl gs)), (h0, .inr (9, [.ref m1, .ref m2, .ref m3, .int ik, .int wy, .int op, .int cl, .int cx0, .int cx1, .int cy0, .int cy1, .int ds, .ref m4, .ref m5, .ref m6, .ref m7, .ref m8, .ref m9, .int pn, .ref m10, .ref m11, .ref m12, .ref m13])), (m4, .inl (cZ, 4096, .inl gu))]) [3, 4, 0, 1, 5, 2] rfl) (hD.sub (ws' := [(m1, .inl (cI, 4, .inl gw)), (m2, .inl (cI, 4, .inl gh)), (m3, .inl (cI, 16384, .inl gd)), (m13, .inl (cI, 4096, .inl gs)), (h0, .inr (9, [.ref m1, .ref m2, .ref m3, .int ik, .int wy, .int op, .int cl, .int cx0, .int cx1, .int cy0, .int cy1, .int ds, .ref m4, .ref m5, .ref m6, .ref m7, .ref m8, .ref m9, .int pn, .ref m10, .ref m11, .ref m12, .ref m13])), (m4, .inl (cZ, 4096, .inl gu))]) [3, 4, 0, 1, 5, 2] (by decide) rfl) hS (lv_sub hl [0, 3, 4, 5, 6, 7, 8, 9, 10, 11, 12, 13] rfl)
        exact loop_17 (9 + 1) 0 my 0 x7 gq gt _ _ _ (by omega) (by omega) nI_0.symm e7 hcn (Nat.le_refl _) hP hD hS (lv_sub hl [0, 1, 2, 3, 4, 5, 6, 7, 8, 9, 10, 11] rfl)
  exact loop_8 4097 0 1 1 0 g_7 g_6 _ _ _ (by omega) (by omega) rfl nI_0.symm hc0 hP hD hS (lv_sub hl [0, 1, 2, 3, 4, 5, 6, 7, 8] rfl)

set_option maxHeartbeats 4000000 in
set_option maxRecDepth 100000 in
theorem k_X9_flood (l : Launch) (D : va_G) (sz : Nat) (h0 m1 m2 m3 m4 m5 m6 m7 m8 m9 m10 m11 m12 m13 : Nat) (ik wy op cl cx0 cx1 cy0 cy1 ds pn : Int32) (gw : Nat → Int32) (gh : Nat → Int32) (gd : Nat → Int32) (gm : Nat → Int32) (ge : Nat → Int32) (gv : Nat → Int32) (wt : Nat → Int32) (k x y co : Int32) (cI : ClassId) (cZ : ClassId) (hG : ∀ j : Nat, j < 4 → (gw j).toInt ≤ 64 ∧ (gh j).toInt ≤ 64) (hwy : 0 ≤ wy.toInt ∧ wy.toInt ≤ 12) : Met l yX9_flood (wB yX9_flood cX9_flood 6 (some .int)) ({ frames := 3, cells := 0, slots := 0, locals := 73 }) (cP D [(h0, .inr (9, [.ref m1, .ref m2, .ref m3, .int ik, .int wy, .int op, .int cl, .int cx0, .int cx1, .int cy0, .int cy1, .int ds, .ref m4, .ref m5, .ref m6, .ref m7, .ref m8, .ref m9, .int pn, .ref m10, .ref m11, .ref m12, .ref m13])), (m1, .inl (cI, 4, .inl gw)), (m2, .inl (cI, 4, .inl gh)), (m3, .inl (cI, 16384, .inl gd)), (m4, .inl (cZ, 4096, .inl gm)), (m5, .inl (cI, 4096, .inl ge)), (m6, .inl (cI, 4096, .inl gv)), (m13, .inl (cI, 4096, .inl wt))] [(cI, .int), (cZ, .boolean)] sz [.ref h0, .int k, .int x, .int y, .int co]) (va_Qi (fun (r : Int32) (_ : Unit) => True) (fun (_ : Unit) (t : State) => ∃ (g2 g3 g4 g5 : Nat → Int32), ∃ (g6 : Nat → Int32), cB D (va_A [(h0, .inr (9, [.ref m1, .ref m2, .ref m3, .int ik, .int wy, .int op, .int cl, .int cx0, .int cx1, .int cy0, .int cy1, .int ds, .ref m4, .ref m5, .ref m6, .ref m7, .ref m8, .ref m9, .int pn, .ref m10, .ref m11, .ref m12, .ref m13])), (m1, .inl (cI, 4, .inl gw)), (m2, .inl (cI, 4, .inl gh)), (m3, .inl (cI, 16384, .inl gd)), (m4, .inl (cZ, 4096, .inl gm)), (m5, .inl (cI, 4096, .inl ge)), (m6, .inl (cI, 4096, .inl gv)), (m13, .inl (cI, 4096, .inl wt))] sz) [(h0, .inr (9, [.ref m1, .ref m2, .ref m3, .int ik, .int wy, .int op, .int cl, .int cx0, .int cx1, .int cy0, .int cy1, .int ds, .ref m4, .ref m5, .ref m6, .ref m7, .ref m8, .ref m9, .int pn, .ref m10, .ref m11, .ref m12, .ref m13])), (m1, .inl (cI, 4, .inl gw)), (m2, .inl (cI, 4, .inl gh)), (m3, .inl (cI, 16384, .inl g2)), (m4, .inl (cZ, 4096, .inl g3)), (m5, .inl (cI, 4096, .inl g4)), (m6, .inl (cI, 4096, .inl g5)), (m13, .inl (cI, 4096, .inl g6))] [(cI, .int), (cZ, .boolean)] t) (va_A [(h0, .inr (9, [.ref m1, .ref m2, .ref m3, .int ik, .int wy, .int op, .int cl, .int cx0, .int cx1, .int cy0, .int cy1, .int ds, .ref m4, .ref m5, .ref m6, .ref m7, .ref m8, .ref m9, .int pn, .ref m10, .ref m11, .ref m12, .ref m13])), (m1, .inl (cI, 4, .inl gw)), (m2, .inl (cI, 4, .inl gh)), (m3, .inl (cI, 16384, .inl gd)), (m4, .inl (cZ, 4096, .inl gm)), (m5, .inl (cI, 4096, .inl ge)), (m6, .inl (cI, 4096, .inl gv)), (m13, .inl (cI, 4096, .inl wt))] sz)) 0 0 (va_A [(h0, .inr (9, [.ref m1, .ref m2, .ref m3, .int ik, .int wy, .int op, .int cl, .int cx0, .int cx1, .int cy0, .int cy1, .int ds, .ref m4, .ref m5, .ref m6, .ref m7, .ref m8, .ref m9, .int pn, .ref m10, .ref m11, .ref m12, .ref m13])), (m1, .inl (cI, 4, .inl gw)), (m2, .inl (cI, 4, .inl gh)), (m3, .inl (cI, 16384, .inl gd)), (m4, .inl (cZ, 4096, .inl gm)), (m5, .inl (cI, 4096, .inl ge)), (m6, .inl (cI, 4096, .inl gv)), (m13, .inl (cI, 4096, .inl wt))] sz) := by
  refine Met.ofW (cc := cX9_flood) (maxL := 6) (ret := (some .int)) (by decide) rfl ?_
  intro p e s m args below meth c s₁ B hml hv
  obtain ⟨rfl, hsz, hP, hK, hD0, hN⟩ := hv
  have hx := B.exec
  have hb := B.bytes
  have hr := B.returns
  have hts0 := atoms_spec (ws := (wB yX9_flood cX9_flood 6 (some .int))) B.pre
  have hts : ∀ w ∈ bigW, w.before _ s = true := fun w h => hts0 w (List.mem_cons_of_mem _ h)
  have hown : s.vm.findClass RX9 = some m.cls := findClass_of_methodNamed B.named
  have hlocks := B.notSynchronized
  subst hsz
  have hD := hD0.self (sz := s.heap.size)
  generalize hAe : va_A [(h0, .inr (9, [.ref m1, .ref m2, .ref m3, .int ik, .int wy, .int op, .int cl, .int cx0, .int cx1, .int cy0, .int cy1, .int ds, .ref m4, .ref m5, .ref m6, .ref m7, .ref m8, .ref m9, .int pn, .ref m10, .ref m11, .ref m12, .ref m13])), (m1, .inl (cI, 4, .inl gw)), (m2, .inl (cI, 4, .inl gh)), (m3, .inl (cI, 16384, .inl gd)), (m4, .inl (cZ, 4096, .inl gm)), (m5, .inl (cI, 4096, .inl ge)), (m6, .inl (cI, 4096, .inl gv)), (m13, .inl (cI, 4096, .inl wt))] s.heap.size = A at hD ⊢
  have hA : ∀ q : Nat, s.heap.size ≤ q → A q := fun q h => by rw [← hAe]; exact Or.inr h
  have hS : va_S A s.heap s.heap [] := va_S.rf
  have hP : va_P D vwCl [(h0, .inr (9, [.ref m1, .ref m2, .ref m3, .int ik, .int wy, .int op, .int cl, .int cx0, .int cx1, .int cy0, .int cy1, .int ds, .ref m4, .ref m5, .ref m6, .ref m7, .ref m8, .ref m9, .int pn, .ref m10, .ref m11, .ref m12, .ref m13])), (m1, .inl (cI, 4, .inl gw)), (m2, .inl (cI, 4, .inl gh)), (m3, .inl (cI, 16384, .inl gd)), (m4, .inl (cZ, 4096, .inl gm)), (m5, .inl (cI, 4096, .inl ge)), (m6, .inl (cI, 4096, .inl gv)), (m13, .inl (cI, 4096, .inl wt))] s.heap := hP
  have hl := lv_entry ([.ref h0, .int k, .int x, .int y, .int co]) (n := 6) (Nat.le_of_ble_eq_true rfl)
  rw [lg_entry_eq]
  generalize (lg_sl ([.ref h0, .int k, .int x, .int y, .int co]) ++ List.replicate (6 - (lg_sl ([.ref h0, .int k, .int x, .int y, .int co])).length) Slot.unset).toArray = ls at hl ⊢
  have hl : lv_has ls 6 [(0, .ref h0), (1, .int k), (2, .int x), (3, .int y), (4, .int co)] := hl
  clear hts0 hD0 hAe
  refine my_abs (fun R Q hR hQ => ?_)
  refine lv_aload_n hx hb dX9_flood_0 rfl (lv_at hl 0 rfl) ?_
  refine lv_iload_n hx hb dX9_flood_1 rfl (lv_at hl 1 rfl) ?_
  have hPc := hP.sub (ws' := [(h0, .inr (9, [.ref m1, .ref m2, .ref m3, .int ik, .int wy, .int op, .int cl, .int cx0, .int cx1, .int cy0, .int cy1, .int ds, .ref m4, .ref m5, .ref m6, .ref m7, .ref m8, .ref m9, .int pn, .ref m10, .ref m11, .ref m12, .ref m13])), (m1, .inl (cI, 4, .inl gw))]) [0, 1] rfl
  have hDc := hD.sub (ws' := [(h0, .inr (9, [.ref m1, .ref m2, .ref m3, .int ik, .int wy, .int op, .int cl, .int cx0, .int cx1, .int cy0, .int cy1, .int ds, .ref m4, .ref m5, .ref m6, .ref m7, .ref m8, .ref m9, .int pn, .ref m10, .ref m11, .ref m12, .ref m13])), (m1, .inl (cI, 4, .inl gw))]) [0, 1] (by decide) rfl
  have hKc := hK.sub (tys' := [(cI, .int)]) [0] rfl
  have hFc := va_free (wc := [(h0, .inr (9, [.ref m1, .ref m2, .ref m3, .int ik, .int wy, .int op, .int cl, .int cx0, .int cx1, .int cy0, .int cy1, .int ds, .ref m4, .ref m5, .ref m6, .ref m7, .ref m8, .ref m9, .int pn, .ref m10, .ref m11, .ref m12, .ref m13])), (m1, .inl (cI, 4, .inl gw))]) hD hS hA [0, 1] rfl
  refine va_calli (va_runV (As := [.int k]) (rest := []) ⟨hx, hb, hml, hown, hts⟩ (k_X9_isSheet l D s.heap.size h0 m1 m2 m3 m4 m5 m6 m7 m8 m9 m10 m11 m12 m13 ik wy op cl cx0 cx1 cy0 cy1 ds pn gw k cI) (cwV 1 hts (gV bw_490 bw_415 bw_416 bw_391 bw_414) rfl rfl rfl (by decide +kernel) ⟨(by rw [hR]; exact Nat.le_of_ble_eq_true rfl), (by rw [hR]; exact Nat.le_of_ble_eq_true rfl)⟩) ⟨cP_blind, va_recv hKc hPc (ci := 9) (q0 := 0) rfl rfl, cP_at hPc hKc hDc hN⟩ rfl rfl hl.1 rfl (lv_room (Nat.le_of_ble_eq_true rfl)) dX9_flood_2 ⟨(by rw [hR]; exact Nat.le_of_ble_eq_true rfl), (by rw [hR]; exact Nat.le_of_ble_eq_true rfl)⟩) hS (fun q _ h => hFc q h) hFc (fun r_1 u9 t9 H1 locs ht hvm hr_1 hB hz1 hk1 hS => ?_)
  try dsimp only at hr_1
  obtain ⟨hP1, hK1, hD1⟩ := hB
  rw [ht] at hP1
  obtain ⟨hP, hD⟩ := va_join (wr := [(m2, .inl (cI, 4, .inl gh)), (m3, .inl (cI, 16384, .inl gd)), (m4, .inl (cZ, 4096, .inl gm)), (m5, .inl (cI, 4096, .inl ge)), (m6, .inl (cI, 4096, .inl gv)), (m13, .inl (cI, 4096, .inl wt))]) (w1 := [(h0, .inr (9, [.ref m1, .ref m2, .ref m3, .int ik, .int wy, .int op, .int cl, .int cx0, .int cx1, .int cy0, .int cy1, .int ds, .ref m4, .ref m5, .ref m6, .ref m7, .ref m8, .ref m9, .int pn, .ref m10, .ref m11, .ref m12, .ref m13])), (m1, .inl (cI, 4, .inl gw))]) hP hD [0, 1] [2, 3, 4, 5, 6, 7] rfl rfl (by decide) (by decide) hk1 hFc hP1 hD1
  clear hz1 hk1 hFc hKc hDc hPc
  generalize H1 = H at hP hS ⊢
  have hP : va_P D vwCl [(m2, .inl (cI, 4, .inl gh)), (m3, .inl (cI, 16384, .inl gd)), (m4, .inl (cZ, 4096, .inl gm)), (m5, .inl (cI, 4096, .inl ge)), (m6, .inl (cI, 4096, .inl gv)), (m13, .inl (cI, 4096, .inl wt)), (h0, .inr (9, [.ref m1, .ref m2, .ref m3, .int ik, .int wy, .int op, .int cl, .int cx0, .int cx1, .int cy0, .int cy1, .int ds, .ref m4, .ref m5, .ref m6, .ref m7, .ref m8, .ref m9, .int pn, .ref m10, .ref m11, .ref m12, .ref m13])), (m1, .inl (cI, 4, .inl gw))] H := hP
  have hD : va_D A [(m2, .inl (cI, 4, .inl gh)), (m3, .inl (cI, 16384, .inl gd)), (m4, .inl (cZ, 4096, .inl gm)), (m5, .inl (cI, 4096, .inl ge)), (m6, .inl (cI, 4096, .inl gv)), (m13, .inl (cI, 4096, .inl wt)), (h0, .inr (9, [.ref m1, .ref m2, .ref m3, .int ik, .int wy, .int op, .int cl, .int cx0, .int cx1, .int cy0, .int cy1, .int ds, .ref m4, .ref m5, .ref m6, .ref m7, .ref m8, .ref m9, .int pn, .ref m10, .ref m11, .ref m12, .ref m13])), (m1, .inl (cI, 4, .inl gw))] := hD
  refine lv_if_eq (tgt := 18) hx hb dX9_flood_5 (by decide) (fun c_2 => ?_) (fun c_2 => ?_)
  · skip
    have f_3 := bz0 hr_1 c_2
    refine lv_iconst (v := (-1)) hx hb dX9_flood_18 (by decide) ?_
    have hP9 := hP.sub (ws' := [(h0, .inr (9, [.ref m1, .ref m2, .ref m3, .int ik, .int wy, .int op, .int cl, .int cx0, .int cx1, .int cy0, .int cy1, .int ds, .ref m4, .ref m5, .ref m6, .ref m7, .ref m8, .ref m9, .int pn, .ref m10, .ref m11, .ref m12, .ref m13])), (m1, .inl (cI, 4, .inl gw)), (m2, .inl (cI, 4, .inl gh)), (m3, .inl (cI, 16384, .inl gd)), (m4, .inl (cZ, 4096, .inl gm)), (m5, .inl (cI, 4096, .inl ge)), (m6, .inl (cI, 4096, .inl gv)), (m13, .inl (cI, 4096, .inl wt))]) [6, 7, 0, 1, 2, 3, 4, 5] rfl
    have hD9 := hD.sub (ws' := [(h0, .inr (9, [.ref m1, .ref m2, .ref m3, .int ik, .int wy, .int op, .int cl, .int cx0, .int cx1, .int cy0, .int cy1, .int ds, .ref m4, .ref m5, .ref m6, .ref m7, .ref m8, .ref m9, .int pn, .ref m10, .ref m11, .ref m12, .ref m13])), (m1, .inl (cI, 4, .inl gw)), (m2, .inl (cI, 4, .inl gh)), (m3, .inl (cI, 16384, .inl gd)), (m4, .inl (cZ, 4096, .inl gm)), (m5, .inl (cI, 4096, .inl ge)), (m6, .inl (cI, 4096, .inl gv)), (m13, .inl (cI, 4096, .inl wt))]) [6, 7, 0, 1, 2, 3, 4, 5] (by decide) rfl
    have hK9 := hK.sub (tys' := [(cI, .int), (cZ, .boolean)]) [0, 1] rfl
    refine hQ _ _ _ _ _ ?_
    exact W.iret (v := (-1)) hx hb hr (fun t ht hW => ⟨⟨(-1), (), rfl, trivial, ⟨gd, gm, ge, gv, wt, by rw [ht]; exact hP9, va_K.moved hW.alike hK9, hD9⟩⟩, hS.F ht⟩) hS.2.2 dX9_flood_19
  · skip
    have f_3 := bz1 hr_1 c_2
    have hkn_k : k.toNatClampNeg < 4 := cl_lt (by omega) (by omega)
    have hgk_k := hG _ hkn_k
    refine lv_aload_n hx hb dX9_flood_8 rfl (lv_at hl 0 rfl) ?_
    refine lv_iload_n hx hb dX9_flood_9 rfl (lv_at hl 1 rfl) ?_
    refine lv_iload_n hx hb dX9_flood_10 rfl (lv_at hl 2 rfl) ?_
    refine lv_iload_n hx hb dX9_flood_11 rfl (lv_at hl 3 rfl) ?_
    have hPc := hP.sub (ws' := [(h0, .inr (9, [.ref m1, .ref m2, .ref m3, .int ik, .int wy, .int op, .int cl, .int cx0, .int cx1, .int cy0, .int cy1, .int ds, .ref m4, .ref m5, .ref m6, .ref m7, .ref m8, .ref m9, .int pn, .ref m10, .ref m11, .ref m12, .ref m13])), (m1, .inl (cI, 4, .inl gw)), (m2, .inl (cI, 4, .inl gh))]) [6, 7, 0] rfl
    have hDc := hD.sub (ws' := [(h0, .inr (9, [.ref m1, .ref m2, .ref m3, .int ik, .int wy, .int op, .int cl, .int cx0, .int cx1, .int cy0, .int cy1, .int ds, .ref m4, .ref m5, .ref m6, .ref m7, .ref m8, .ref m9, .int pn, .ref m10, .ref m11, .ref m12, .ref m13])), (m1, .inl (cI, 4, .inl gw)), (m2, .inl (cI, 4, .inl gh))]) [6, 7, 0] (by decide) rfl
    have hKc := hK.sub (tys' := [(cI, .int)]) [0] rfl
    have hFc := va_free (wc := [(h0, .inr (9, [.ref m1, .ref m2, .ref m3, .int ik, .int wy, .int op, .int cl, .int cx0, .int cx1, .int cy0, .int cy1, .int ds, .ref m4, .ref m5, .ref m6, .ref m7, .ref m8, .ref m9, .int pn, .ref m10, .ref m11, .ref m12, .ref m13])), (m1, .inl (cI, 4, .inl gw)), (m2, .inl (cI, 4, .inl gh))]) hD hS hA [6, 7, 0] rfl
    refine va_calli (va_runV (As := [.int k, .int x, .int y]) (rest := []) ⟨hx, hb, hml, hown, hts⟩ (k_X9_isOn l D H.size h0 m1 m2 m3 m4 m5 m6 m7 m8 m9 m10 m11 m12 m13 ik wy op cl cx0 cx1 cy0 cy1 ds pn gw gh k x y cI (by omega)) (cwV 3 hts (gV bw_433 bw_418 bw_419 bw_391 bw_417) rfl rfl rfl (by decide +kernel) ⟨(by rw [hR]; exact Nat.le_of_ble_eq_true rfl), (by rw [hR]; exact Nat.le_of_ble_eq_true rfl)⟩) ⟨cP_blind, va_recv hKc hPc (ci := 9) (q0 := 0) rfl rfl, cP_at hPc hKc hDc hN⟩ rfl rfl hl.1 rfl (lv_room (Nat.le_of_ble_eq_true rfl)) dX9_flood_12 ⟨(by rw [hR]; exact Nat.le_of_ble_eq_true rfl), (by rw [hR]; exact Nat.le_of_ble_eq_true rfl)⟩) hS (fun q _ h => hFc q h) hFc (fun r_4 u9 t9 H1 locs ht hvm hr_4 hB hz1 hk1 hS => ?_)
    try dsimp only at hr_4
    obtain ⟨hP1, hK1, hD1⟩ := hB
    rw [ht] at hP1
    obtain ⟨hP, hD⟩ := va_join (wr := [(m3, .inl (cI, 16384, .inl gd)), (m4, .inl (cZ, 4096, .inl gm)), (m5, .inl (cI, 4096, .inl ge)), (m6, .inl (cI, 4096, .inl gv)), (m13, .inl (cI, 4096, .inl wt))]) (w1 := [(h0, .inr (9, [.ref m1, .ref m2, .ref m3, .int ik, .int wy, .int op, .int cl, .int cx0, .int cx1, .int cy0, .int cy1, .int ds, .ref m4, .ref m5, .ref m6, .ref m7, .ref m8, .ref m9, .int pn, .ref m10, .ref m11, .ref m12, .ref m13])), (m1, .inl (cI, 4, .inl gw)), (m2, .inl (cI, 4, .inl gh))]) hP hD [6, 7, 0] [1, 2, 3, 4, 5] rfl rfl (by decide) (by decide) hk1 hFc hP1 hD1
    clear hz1 hk1 hFc hKc hDc hPc
    generalize H1 = H at hP hS ⊢
    have hP : va_P D vwCl [(m3, .inl (cI, 16384, .inl gd)), (m4, .inl (cZ, 4096, .inl gm)), (m5, .inl (cI, 4096, .inl ge)), (m6, .inl (cI, 4096, .inl gv)), (m13, .inl (cI, 4096, .inl wt)), (h0, .inr (9, [.ref m1, .ref m2, .ref m3, .int ik, .int wy, .int op, .int cl, .int cx0, .int cx1, .int cy0, .int cy1, .int ds, .ref m4, .ref m5, .ref m6, .ref m7, .ref m8, .ref m9, .int pn, .ref m10, .ref m11, .ref m12, .ref m13])), (m1, .inl (cI, 4, .inl gw)), (m2, .inl (cI, 4, .inl gh))] H := hP
    have hD : va_D A [(m3, .inl (cI, 16384, .inl gd)), (m4, .inl (cZ, 4096, .inl gm)), (m5, .inl (cI, 4096, .inl ge)), (m6, .inl (cI, 4096, .inl gv)), (m13, .inl (cI, 4096, .inl wt)), (h0, .inr (9, [.ref m1, .ref m2, .ref m3, .int ik, .int wy, .int op, .int cl, .int cx0, .int cx1, .int cy0, .int cy1, .int ds, .ref m4, .ref m5, .ref m6, .ref m7, .ref m8, .ref m9, .int pn, .ref m10, .ref m11, .ref m12, .ref m13])), (m1, .inl (cI, 4, .inl gw)), (m2, .inl (cI, 4, .inl gh))] := hD
    refine lv_if_ne (tgt := 20) hx hb dX9_flood_15 (by decide) (fun c_5 => ?_) (fun c_5 => ?_)
    · skip
      have f_6 := bz1 hr_4 c_5
      refine lv_aload_n hx hb dX9_flood_20 rfl (lv_at hl 0 rfl) ?_
      refine lv_iload_n hx hb dX9_flood_21 rfl (lv_at hl 2 rfl) ?_
      refine lv_iload_n hx hb dX9_flood_22 rfl (lv_at hl 3 rfl) ?_
      have hPc := hP.sub (ws' := [(h0, .inr (9, [.ref m1, .ref m2, .ref m3, .int ik, .int wy, .int op, .int cl, .int cx0, .int cx1, .int cy0, .int cy1, .int ds, .ref m4, .ref m5, .ref m6, .ref m7, .ref m8, .ref m9, .int pn, .ref m10, .ref m11, .ref m12, .ref m13]))]) [5] rfl
      have hDc := hD.sub (ws' := [(h0, .inr (9, [.ref m1, .ref m2, .ref m3, .int ik, .int wy, .int op, .int cl, .int cx0, .int cx1, .int cy0, .int cy1, .int ds, .ref m4, .ref m5, .ref m6, .ref m7, .ref m8, .ref m9, .int pn, .ref m10, .ref m11, .ref m12, .ref m13]))]) [5] (by decide) rfl
      have hKc := hK.sub (tys' := []) [] rfl
      have hFc := va_free (wc := [(h0, .inr (9, [.ref m1, .ref m2, .ref m3, .int ik, .int wy, .int op, .int cl, .int cx0, .int cx1, .int cy0, .int cy1, .int ds, .ref m4, .ref m5, .ref m6, .ref m7, .ref m8, .ref m9, .int pn, .ref m10, .ref m11, .ref m12, .ref m13]))]) hD hS hA [5] rfl
      refine va_calli (va_runV (As := [.int x, .int y]) (rest := []) ⟨hx, hb, hml, hown, hts⟩ (k_X9_isInClip l D H.size h0 m1 m2 m3 m4 m5 m6 m7 m8 m9 m10 m11 m12 m13 ik wy op cl cx0 cx1 cy0 cy1 ds pn x y) (cwV 2 hts (gV bw_434 bw_423 bw_424 bw_391 bw_422) rfl rfl rfl (by decide +kernel) ⟨(by rw [hR]; exact Nat.le_of_ble_eq_true rfl), (by rw [hR]; exact Nat.le_of_ble_eq_true rfl)⟩) ⟨cP_blind, va_recv hKc hPc (ci := 9) (q0 := 0) rfl rfl, cP_at hPc hKc hDc hN⟩ rfl rfl hl.1 rfl (lv_room (Nat.le_of_ble_eq_true rfl)) dX9_flood_23 ⟨(by rw [hR]; exact Nat.le_of_ble_eq_true rfl), (by rw [hR]; exact Nat.le_of_ble_eq_true rfl)⟩) hS (fun q _ h => hFc q h) hFc (fun r_7 u9 t9 H1 locs ht hvm hr_7 hB hz1 hk1 hS => ?_)
      try dsimp only at hr_7
      obtain ⟨hP1, hK1, hD1⟩ := hB
      rw [ht] at hP1
      obtain ⟨hP, hD⟩ := va_join (wr := [(m3, .inl (cI, 16384, .inl gd)), (m4, .inl (cZ, 4096, .inl gm)), (m5, .inl (cI, 4096, .inl ge)), (m6, .inl (cI, 4096, .inl gv)), (m13, .inl (cI, 4096, .inl wt)), (m1, .inl (cI, 4, .inl gw)), (m2, .inl (cI, 4, .inl gh))]) (w1 := [(h0, .inr (9, [.ref m1, .ref m2, .ref m3, .int ik, .int wy, .int op, .int cl, .int cx0, .int cx1, .int cy0, .int cy1, .int ds, .ref m4, .ref m5, .ref m6, .ref m7, .ref m8, .ref m9, .int pn, .ref m10, .ref m11, .ref m12, .ref m13]))]) hP hD [5] [0, 1, 2, 3, 4, 6, 7] rfl rfl (by decide) (by decide) hk1 hFc hP1 hD1
      clear hz1 hk1 hFc hKc hDc hPc
      generalize H1 = H at hP hS ⊢
      have hP : va_P D vwCl [(m3, .inl (cI, 16384, .inl gd)), (m4, .inl (cZ, 4096, .inl gm)), (m5, .inl (cI, 4096, .inl ge)), (m6, .inl (cI, 4096, .inl gv)), (m13, .inl (cI, 4096, .inl wt)), (m1, .inl (cI, 4, .inl gw)), (m2, .inl (cI, 4, .inl gh)), (h0, .inr (9, [.ref m1, .ref m2, .ref m3, .int ik, .int wy, .int op, .int cl, .int cx0, .int cx1, .int cy0, .int cy1, .int ds, .ref m4, .ref m5, .ref m6, .ref m7, .ref m8, .ref m9, .int pn, .ref m10, .ref m11, .ref m12, .ref m13]))] H := hP
      have hD : va_D A [(m3, .inl (cI, 16384, .inl gd)), (m4, .inl (cZ, 4096, .inl gm)), (m5, .inl (cI, 4096, .inl ge)), (m6, .inl (cI, 4096, .inl gv)), (m13, .inl (cI, 4096, .inl wt)), (m1, .inl (cI, 4, .inl gw)), (m2, .inl (cI, 4, .inl gh)), (h0, .inr (9, [.ref m1, .ref m2, .ref m3, .int ik, .int wy, .int op, .int cl, .int cx0, .int cx1, .int cy0, .int cy1, .int ds, .ref m4, .ref m5, .ref m6, .ref m7, .ref m8, .ref m9, .int pn, .ref m10, .ref m11, .ref m12, .ref m13]))] := hD
      refine lv_if_ne (tgt := 31) hx hb dX9_flood_26 (by decide) (fun c_8 => ?_) (fun c_8 => ?_)
      · skip
        have f_9 := bz1 hr_7 c_8
        refine lv_aload_n hx hb dX9_flood_31 rfl (lv_at hl 0 rfl) ?_
        refine lv_iload_n hx hb dX9_flood_32 rfl (lv_at hl 1 rfl) ?_
        refine lv_iload_n hx hb dX9_flood_33 rfl (lv_at hl 2 rfl) ?_
        refine lv_iload_n hx hb dX9_flood_34 rfl (lv_at hl 3 rfl) ?_
        refine lv_iload hx hb dX9_flood_35 (lv_at hl 4 rfl) ?_
        refine lv_iconst (v := 1) hx hb dX9_flood_37 (by decide) ?_
        have hPc := hP.sub (ws' := [(h0, .inr (9, [.ref m1, .ref m2, .ref m3, .int ik, .int wy, .int op, .int cl, .int cx0, .int cx1, .int cy0, .int cy1, .int ds, .ref m4, .ref m5, .ref m6, .ref m7, .ref m8, .ref m9, .int pn, .ref m10, .ref m11, .ref m12, .ref m13])), (m1, .inl (cI, 4, .inl gw)), (m2, .inl (cI, 4, .inl gh)), (m3, .inl (cI, 16384, .inl gd)), (m4, .inl (cZ, 4096, .inl gm)), (m13, .inl (cI, 4096, .inl wt))]) [7, 5, 6, 0, 1, 4] rfl
        have hDc := hD.sub (ws' := [(h0, .inr (9, [.ref m1, .ref m2, .ref m3, .int ik, .int wy, .int op, .int cl, .int cx0, .int cx1, .int cy0, .int cy1, .int ds, .ref m4, .ref m5, .ref m6, .ref m7, .ref m8, .ref m9, .int pn, .ref m10, .ref m11, .ref m12, .ref m13])), (m1, .inl (cI, 4, .inl gw)), (m2, .inl (cI, 4, .inl gh)), (m3, .inl (cI, 16384, .inl gd)), (m4, .inl (cZ, 4096, .inl gm)), (m13, .inl (cI, 4096, .inl wt))]) [7, 5, 6, 0, 1, 4] (by decide) rfl
        have hKc := hK.sub (tys' := [(cI, .int), (cZ, .boolean)]) [0, 1] rfl
        have hFc := va_free (wc := [(h0, .inr (9, [.ref m1, .ref m2, .ref m3, .int ik, .int wy, .int op, .int cl, .int cx0, .int cx1, .int cy0, .int cy1, .int ds, .ref m4, .ref m5, .ref m6, .ref m7, .ref m8, .ref m9, .int pn, .ref m10, .ref m11, .ref m12, .ref m13])), (m1, .inl (cI, 4, .inl gw)), (m2, .inl (cI, 4, .inl gh)), (m3, .inl (cI, 16384, .inl gd)), (m4, .inl (cZ, 4096, .inl gm)), (m13, .inl (cI, 4096, .inl wt))]) hD hS hA [7, 5, 6, 0, 1, 4] rfl
        refine va_callv (va_runV (As := [.int k, .int x, .int y, .int co, .int 1]) (rest := []) ⟨hx, hb, hml, hown, hts⟩ (k_X9_joins l D H.size h0 m1 m2 m3 m4 m5 m6 m7 m8 m9 m10 m11 m12 m13 ik wy op cl cx0 cx1 cy0 cy1 ds pn gw gh gd gm wt k x y co 1 cI cZ (by omega) hgk_k.1 hgk_k.2 (by first | assumption | omega | decide)) (cwV 5 hts (gV bw_555 bw_549 bw_550 bw_391 bw_548) rfl rfl rfl (by decide +kernel) ⟨(by rw [hR]; exact Nat.le_of_ble_eq_true rfl), (by rw [hR]; exact Nat.le_of_ble_eq_true rfl)⟩) ⟨cP_blind, va_recv hKc hPc (ci := 9) (q0 := 0) rfl rfl, cP_at hPc hKc hDc hN⟩ rfl rfl hl.1 rfl (lv_room (Nat.le_of_ble_eq_true rfl)) dX9_flood_38 ⟨(by rw [hR]; exact Nat.le_of_ble_eq_true rfl), (by rw [hR]; exact Nat.le_of_ble_eq_true rfl)⟩) hS (fun q _ h => hFc q h) hFc (fun u9 t9 H1 locs ht hvm hr_10 hB hz1 hk1 hS => ?_)
        try dsimp only at hr_10
        obtain ⟨g_11, g_12, hP1, hK1, hD1⟩ := hB
        rw [ht] at hP1
        obtain ⟨hP, hD⟩ := va_join (wr := [(m5, .inl (cI, 4096, .inl ge)), (m6, .inl (cI, 4096, .inl gv))]) (w1 := [(h0, .inr (9, [.ref m1, .ref m2, .ref m3, .int ik, .int wy, .int op, .int cl, .int cx0, .int cx1, .int cy0, .int cy1, .int ds, .ref m4, .ref m5, .ref m6, .ref m7, .ref m8, .ref m9, .int pn, .ref m10, .ref m11, .ref m12, .ref m13])), (m1, .inl (cI, 4, .inl gw)), (m2, .inl (cI, 4, .inl gh)), (m3, .inl (cI, 16384, .inl gd)), (m4, .inl (cZ, 4096, .inl g_11)), (m13, .inl (cI, 4096, .inl g_12))]) hP hD [7, 5, 6, 0, 1, 4] [2, 3] rfl rfl (by decide) (by decide) hk1 hFc hP1 hD1
        clear hz1 hk1 hFc hKc hDc hPc
        generalize H1 = H at hP hS ⊢
        have hP : va_P D vwCl [(m5, .inl (cI, 4096, .inl ge)), (m6, .inl (cI, 4096, .inl gv)), (h0, .inr (9, [.ref m1, .ref m2, .ref m3, .int ik, .int wy, .int op, .int cl, .int cx0, .int cx1, .int cy0, .int cy1, .int ds, .ref m4, .ref m5, .ref m6, .ref m7, .ref m8, .ref m9, .int pn, .ref m10, .ref m11, .ref m12, .ref m13])), (m1, .inl (cI, 4, .inl gw)), (m2, .inl (cI, 4, .inl gh)), (m3, .inl (cI, 16384, .inl gd)), (m4, .inl (cZ, 4096, .inl g_11)), (m13, .inl (cI, 4096, .inl g_12))] H := hP
        have hD : va_D A [(m5, .inl (cI, 4096, .inl ge)), (m6, .inl (cI, 4096, .inl gv)), (h0, .inr (9, [.ref m1, .ref m2, .ref m3, .int ik, .int wy, .int op, .int cl, .int cx0, .int cx1, .int cy0, .int cy1, .int ds, .ref m4, .ref m5, .ref m6, .ref m7, .ref m8, .ref m9, .int pn, .ref m10, .ref m11, .ref m12, .ref m13])), (m1, .inl (cI, 4, .inl gw)), (m2, .inl (cI, 4, .inl gh)), (m3, .inl (cI, 16384, .inl gd)), (m4, .inl (cZ, 4096, .inl g_11)), (m13, .inl (cI, 4096, .inl g_12))] := hD
        refine lv_iconst (v := 0) hx hb dX9_flood_41 (by decide) ?_
        refine lv_istore (lv' := [(5, .int 0), (0, .ref h0), (1, .int k), (2, .int x), (3, .int y), (4, .int co)]) hx hb dX9_flood_42 hl (by decide) rfl (fun ls hl => ?_)
        have loop_13 : ∀ (n : Nat) (i : Nat) (x5 : Int32) (gb : Nat → Int32) (gc : Nat → Int32) (H : Heap) (locs : List Loc) (ls : Array Slot), (i ≤ 4096) → (4096 + 1 ≤ i + n) → (x5 = nI i) → va_P D vwCl [(m5, .inl (cI, 4096, .inl gb)), (m6, .inl (cI, 4096, .inl gc)), (h0, .inr (9, [.ref m1, .ref m2, .ref m3, .int ik, .int wy, .int op, .int cl, .int cx0, .int cx1, .int cy0, .int cy1, .int ds, .ref m4, .ref m5, .ref m6, .ref m7, .ref m8, .ref m9, .int pn, .ref m10, .ref m11, .ref m12, .ref m13])), (m1, .inl (cI, 4, .inl gw)), (m2, .inl (cI, 4, .inl gh)), (m3, .inl (cI, 16384, .inl gd)), (m4, .inl (cZ, 4096, .inl g_11)), (m13, .inl (cI, 4096, .inl g_12))] H → va_D A [(m5, .inl (cI, 4096, .inl gb)), (m6, .inl (cI, 4096, .inl gc)), (h0, .inr (9, [.ref m1, .ref m2, .ref m3, .int ik, .int wy, .int op, .int cl, .int cx0, .int cx1, .int cy0, .int cy1, .int ds, .ref m4, .ref m5, .ref m6, .ref m7, .ref m8, .ref m9, .int pn, .ref m10, .ref m11, .ref m12, .ref m13])), (m1, .inl (cI, 4, .inl gw)), (m2, .inl (cI, 4, .inl gh)), (m3, .inl (cI, 16384, .inl gd)), (m4, .inl (cZ, 4096, .inl g_11)), (m13, .inl (cI, 4096, .inl g_12))] → va_S A s.heap H locs → lv_has ls 6 [(5, .int x5), (0, .ref h0), (1, .int k), (2, .int x), (3, .int y), (4, .int co)] → W p l e R s m ([.ref h0, .int k, .int x, .int y, .int co] : List Value).toArray below meth c H locs 0 0 Q (F0 m 44 ls []) := by
          intro n
          induction n with
          | zero =>
            intro i x5 gb gc H locs ls hi_i hm_i ex_i hP hD hS hl
            exact absurd (show False by omega) not_false
          | succ n ih_14 =>
            intro i x5 gb gc H locs ls hi_i hm_i ex_i hP hD hS hl
            have hx_i : x5.toInt = (i : Int) := by rw [ex_i]; exact nI_toInt (by omega)
            have hc_i : x5.toNatClampNeg = i := by rw [ex_i]; exact nI_clamp (by omega)
            refine lv_iload hx hb dX9_flood_44 (lv_at hl 0 rfl) ?_
            refine lv_sipush (v := 4096) hx hb dX9_flood_46 (by decide) ?_
            refine lv_icmp_ge (tgt := 80) hx hb dX9_flood_49 (by decide) (fun c_15 => ?_) (fun c_15 => ?_)
            · skip
              have f_16 : 4096 ≤ (i : Int) := f_le (by decide) hx_i c_15
              refine lv_aload_n hx hb dX9_flood_80 rfl (lv_at hl 1 rfl) ?_
              refine lv_iload_n hx hb dX9_flood_81 rfl (lv_at hl 2 rfl) ?_
              have hPc := hP.sub (ws' := [(h0, .inr (9, [.ref m1, .ref m2, .ref m3, .int ik, .int wy, .int op, .int cl, .int cx0, .int cx1, .int cy0, .int cy1, .int ds, .ref m4, .ref m5, .ref m6, .ref m7, .ref m8, .ref m9, .int pn, .ref m10, .ref m11, .ref m12, .ref m13])), (m3, .inl (cI, 16384, .inl gd)), (m4, .inl (cZ, 4096, .inl g_11)), (m5, .inl (cI, 4096, .inl gb)), (m6, .inl (cI, 4096, .inl gc))]) [2, 5, 6, 0, 1] rfl
              have hDc := hD.sub (ws' := [(h0, .inr (9, [.ref m1, .ref m2, .ref m3, .int ik, .int wy, .int op, .int cl, .int cx0, .int cx1, .int cy0, .int cy1, .int ds, .ref m4, .ref m5, .ref m6, .ref m7, .ref m8, .ref m9, .int pn, .ref m10, .ref m11, .ref m12, .ref m13])), (m3, .inl (cI, 16384, .inl gd)), (m4, .inl (cZ, 4096, .inl g_11)), (m5, .inl (cI, 4096, .inl gb)), (m6, .inl (cI, 4096, .inl gc))]) [2, 5, 6, 0, 1] (by decide) rfl
              have hKc := hK.sub (tys' := [(cI, .int), (cZ, .boolean)]) [0, 1] rfl
              have hFc := va_free (wc := [(h0, .inr (9, [.ref m1, .ref m2, .ref m3, .int ik, .int wy, .int op, .int cl, .int cx0, .int cx1, .int cy0, .int cy1, .int ds, .ref m4, .ref m5, .ref m6, .ref m7, .ref m8, .ref m9, .int pn, .ref m10, .ref m11, .ref m12, .ref m13])), (m3, .inl (cI, 16384, .inl gd)), (m4, .inl (cZ, 4096, .inl g_11)), (m5, .inl (cI, 4096, .inl gb)), (m6, .inl (cI, 4096, .inl gc))]) hD hS hA [2, 5, 6, 0, 1] rfl
              refine va_calli (va_runV (As := [.int k]) (rest := []) ⟨hx, hb, hml, hown, hts⟩ (k_X9_lays l D H.size h0 m1 m2 m3 m4 m5 m6 m7 m8 m9 m10 m11 m12 m13 ik wy op cl cx0 cx1 cy0 cy1 ds pn gd g_11 gb gc k cI cZ (by omega) (by first | assumption | omega | decide)) (cwV 1 hts (gV bw_496 bw_462 bw_463 bw_391 bw_461) rfl rfl rfl (by decide +kernel) ⟨(by rw [hR]; exact Nat.le_of_ble_eq_true rfl), (by rw [hR]; exact Nat.le_of_ble_eq_true rfl)⟩) ⟨cP_blind, va_recv hKc hPc (ci := 9) (q0 := 0) rfl rfl, cP_at hPc hKc hDc hN⟩ rfl rfl hl.1 rfl (lv_room (Nat.le_of_ble_eq_true rfl)) dX9_flood_82 ⟨(by rw [hR]; exact Nat.le_of_ble_eq_true rfl), (by rw [hR]; exact Nat.le_of_ble_eq_true rfl)⟩) hS (fun q _ h => hFc q h) hFc (fun r_17 u9 t9 H1 locs ht hvm hr_17 hB hz1 hk1 hS => ?_)
              try dsimp only at hr_17
              obtain ⟨hP1, hK1, hD1⟩ := hB
              rw [ht] at hP1
              obtain ⟨hP, hD⟩ := va_join (wr := [(m1, .inl (cI, 4, .inl gw)), (m2, .inl (cI, 4, .inl gh)), (m13, .inl (cI, 4096, .inl g_12))]) (w1 := [(h0, .inr (9, [.ref m1, .ref m2, .ref m3, .int ik, .int wy, .int op, .int cl, .int cx0, .int cx1, .int cy0, .int cy1, .int ds, .ref m4, .ref m5, .ref m6, .ref m7, .ref m8, .ref m9, .int pn, .ref m10, .ref m11, .ref m12, .ref m13])), (m3, .inl (cI, 16384, .inl (lysN wy gd g_11 gb gc k.toNatClampNeg 4096))), (m4, .inl (cZ, 4096, .inl g_11)), (m5, .inl (cI, 4096, .inl gb)), (m6, .inl (cI, 4096, .inl gc))]) hP hD [2, 5, 6, 0, 1] [3, 4, 7] rfl rfl (by decide) (by decide) hk1 hFc hP1 hD1
              clear hz1 hk1 hFc hKc hDc hPc
              generalize H1 = H at hP hS ⊢
              have hP : va_P D vwCl [(m1, .inl (cI, 4, .inl gw)), (m2, .inl (cI, 4, .inl gh)), (m13, .inl (cI, 4096, .inl g_12)), (h0, .inr (9, [.ref m1, .ref m2, .ref m3, .int ik, .int wy, .int op, .int cl, .int cx0, .int cx1, .int cy0, .int cy1, .int ds, .ref m4, .ref m5, .ref m6, .ref m7, .ref m8, .ref m9, .int pn, .ref m10, .ref m11, .ref m12, .ref m13])), (m3, .inl (cI, 16384, .inl (lysN wy gd g_11 gb gc k.toNatClampNeg 4096))), (m4, .inl (cZ, 4096, .inl g_11)), (m5, .inl (cI, 4096, .inl gb)), (m6, .inl (cI, 4096, .inl gc))] H := hP
              have hD : va_D A [(m1, .inl (cI, 4, .inl gw)), (m2, .inl (cI, 4, .inl gh)), (m13, .inl (cI, 4096, .inl g_12)), (h0, .inr (9, [.ref m1, .ref m2, .ref m3, .int ik, .int wy, .int op, .int cl, .int cx0, .int cx1, .int cy0, .int cy1, .int ds, .ref m4, .ref m5, .ref m6, .ref m7, .ref m8, .ref m9, .int pn, .ref m10, .ref m11, .ref m12, .ref m13])), (m3, .inl (cI, 16384, .inl (lysN wy gd g_11 gb gc k.toNatClampNeg 4096))), (m4, .inl (cZ, 4096, .inl g_11)), (m5, .inl (cI, 4096, .inl gb)), (m6, .inl (cI, 4096, .inl gc))] := hD
              have hP9 := hP.sub (ws' := [(h0, .inr (9, [.ref m1, .ref m2, .ref m3, .int ik, .int wy, .int op, .int cl, .int cx0, .int cx1, .int cy0, .int cy1, .int ds, .ref m4, .ref m5, .ref m6, .ref m7, .ref m8, .ref m9, .int pn, .ref m10, .ref m11, .ref m12, .ref m13])), (m1, .inl (cI, 4, .inl gw)), (m2, .inl (cI, 4, .inl gh)), (m3, .inl (cI, 16384, .inl (lysN wy gd g_11 gb gc k.toNatClampNeg 4096))), (m4, .inl (cZ, 4096, .inl g_11)), (m5, .inl (cI, 4096, .inl gb)), (m6, .inl (cI, 4096, .inl gc)), (m13, .inl (cI, 4096, .inl g_12))]) [3, 0, 1, 4, 5, 6, 7, 2] rfl
              have hD9 := hD.sub (ws' := [(h0, .inr (9, [.ref m1, .ref m2, .ref m3, .int ik, .int wy, .int op, .int cl, .int cx0, .int cx1, .int cy0, .int cy1, .int ds, .ref m4, .ref m5, .ref m6, .ref m7, .ref m8, .ref m9, .int pn, .ref m10, .ref m11, .ref m12, .ref m13])), (m1, .inl (cI, 4, .inl gw)), (m2, .inl (cI, 4, .inl gh)), (m3, .inl (cI, 16384, .inl (lysN wy gd g_11 gb gc k.toNatClampNeg 4096))), (m4, .inl (cZ, 4096, .inl g_11)), (m5, .inl (cI, 4096, .inl gb)), (m6, .inl (cI, 4096, .inl gc)), (m13, .inl (cI, 4096, .inl g_12))]) [3, 0, 1, 4, 5, 6, 7, 2] (by decide) rfl
              have hK9 := hK.sub (tys' := [(cI, .int), (cZ, .boolean)]) [0, 1] rfl
              refine hQ _ _ _ _ _ ?_
              exact W.iret (v := r_17) hx hb hr (fun t ht hW => ⟨⟨r_17, (), rfl, trivial, ⟨(lysN wy gd g_11 gb gc k.toNatClampNeg 4096), g_11, gb, gc, g_12, by rw [ht]; exact hP9, va_K.moved hW.alike hK9, hD9⟩⟩, hS.F ht⟩) hS.2.2 dX9_flood_85
            · skip
              have f_16 : ¬ (4096 ≤ (i : Int)) := fn_le (by decide) hx_i c_15
              refine lv_aload_n hx hb dX9_flood_52 rfl (lv_at hl 1 rfl) ?_
              refine va_get (D := D) (ci := 9) (v := .ref m5) (C := RX9) (T := TX9) (N := 23) hx hb hts hi_X9 hown hK hP 2 rfl rfl 13 (by decide) (hts _ bw_405) (fun _ h9 => h9) rfl dX9_flood_53 ?_
              refine lv_iload hx hb dX9_flood_56 (lv_at hl 0 rfl) ?_
              refine lv_aload_n hx hb dX9_flood_58 rfl (lv_at hl 1 rfl) ?_
              refine va_get (D := D) (ci := 9) (v := .int op) (C := RX9) (T := TX9) (N := 23) hx hb hts hi_X9 hown hK hP 2 rfl rfl 5 (by decide) (hts _ bw_401) (fun _ h9 => h9) rfl dX9_flood_59 ?_
              refine va_iast hx hb hK hP hD hS 0 0 rfl rfl (vp_in_iff.mpr ⟨by omega, by omega⟩) dX9_flood_62 (fun H locs hP hD hS => ?_)
              have hP : va_P D vwCl [(m5, .inl (cI, 4096, .inl (upd gb x5.toNatClampNeg op))), (m6, .inl (cI, 4096, .inl gc)), (h0, .inr (9, [.ref m1, .ref m2, .ref m3, .int ik, .int wy, .int op, .int cl, .int cx0, .int cx1, .int cy0, .int cy1, .int ds, .ref m4, .ref m5, .ref m6, .ref m7, .ref m8, .ref m9, .int pn, .ref m10, .ref m11, .ref m12, .ref m13])), (m1, .inl (cI, 4, .inl gw)), (m2, .inl (cI, 4, .inl gh)), (m3, .inl (cI, 16384, .inl gd)), (m4, .inl (cZ, 4096, .inl g_11)), (m13, .inl (cI, 4096, .inl g_12))] H := hP
              have hD : va_D A [(m5, .inl (cI, 4096, .inl (upd gb x5.toNatClampNeg op))), (m6, .inl (cI, 4096, .inl gc)), (h0, .inr (9, [.ref m1, .ref m2, .ref m3, .int ik, .int wy, .int op, .int cl, .int cx0, .int cx1, .int cy0, .int cy1, .int ds, .ref m4, .ref m5, .ref m6, .ref m7, .ref m8, .ref m9, .int pn, .ref m10, .ref m11, .ref m12, .ref m13])), (m1, .inl (cI, 4, .inl gw)), (m2, .inl (cI, 4, .inl gh)), (m3, .inl (cI, 16384, .inl gd)), (m4, .inl (cZ, 4096, .inl g_11)), (m13, .inl (cI, 4096, .inl g_12))] := hD
              generalize eg_18 : upd gb x5.toNatClampNeg op = g_18 at hP hD
              have hP : va_P D vwCl [(m5, .inl (cI, 4096, .inl g_18)), (m6, .inl (cI, 4096, .inl gc)), (h0, .inr (9, [.ref m1, .ref m2, .ref m3, .int ik, .int wy, .int op, .int cl, .int cx0, .int cx1, .int cy0, .int cy1, .int ds, .ref m4, .ref m5, .ref m6, .ref m7, .ref m8, .ref m9, .int pn, .ref m10, .ref m11, .ref m12, .ref m13])), (m1, .inl (cI, 4, .inl gw)), (m2, .inl (cI, 4, .inl gh)), (m3, .inl (cI, 16384, .inl gd)), (m4, .inl (cZ, 4096, .inl g_11)), (m13, .inl (cI, 4096, .inl g_12))] H := hP
              have hD : va_D A [(m5, .inl (cI, 4096, .inl g_18)), (m6, .inl (cI, 4096, .inl gc)), (h0, .inr (9, [.ref m1, .ref m2, .ref m3, .int ik, .int wy, .int op, .int cl, .int cx0, .int cx1, .int cy0, .int cy1, .int ds, .ref m4, .ref m5, .ref m6, .ref m7, .ref m8, .ref m9, .int pn, .ref m10, .ref m11, .ref m12, .ref m13])), (m1, .inl (cI, 4, .inl gw)), (m2, .inl (cI, 4, .inl gh)), (m3, .inl (cI, 16384, .inl gd)), (m4, .inl (cZ, 4096, .inl g_11)), (m13, .inl (cI, 4096, .inl g_12))] := hD
              refine lv_aload_n hx hb dX9_flood_63 rfl (lv_at hl 1 rfl) ?_
              refine va_get (D := D) (ci := 9) (v := .ref m6) (C := RX9) (T := TX9) (N := 23) hx hb hts hi_X9 hown hK hP 2 rfl rfl 14 (by decide) (hts _ bw_406) (fun _ h9 => h9) rfl dX9_flood_64 ?_
              refine lv_iload hx hb dX9_flood_67 (lv_at hl 0 rfl) ?_
              refine lv_aload_n hx hb dX9_flood_69 rfl (lv_at hl 1 rfl) ?_
              refine va_get (D := D) (ci := 9) (v := .int ik) (C := RX9) (T := TX9) (N := 23) hx hb hts hi_X9 hown hK hP 2 rfl rfl 3 (by decide) (hts _ bw_399) (fun _ h9 => h9) rfl dX9_flood_70 ?_
              refine va_iast hx hb hK hP hD hS 1 0 rfl rfl (vp_in_iff.mpr ⟨by omega, by omega⟩) dX9_flood_73 (fun H locs hP hD hS => ?_)
              have hP : va_P D vwCl [(m5, .inl (cI, 4096, .inl g_18)), (m6, .inl (cI, 4096, .inl (upd gc x5.toNatClampNeg ik))), (h0, .inr (9, [.ref m1, .ref m2, .ref m3, .int ik, .int wy, .int op, .int cl, .int cx0, .int cx1, .int cy0, .int cy1, .int ds, .ref m4, .ref m5, .ref m6, .ref m7, .ref m8, .ref m9, .int pn, .ref m10, .ref m11, .ref m12, .ref m13])), (m1, .inl (cI, 4, .inl gw)), (m2, .inl (cI, 4, .inl gh)), (m3, .inl (cI, 16384, .inl gd)), (m4, .inl (cZ, 4096, .inl g_11)), (m13, .inl (cI, 4096, .inl g_12))] H := hP
              have hD : va_D A [(m5, .inl (cI, 4096, .inl g_18)), (m6, .inl (cI, 4096, .inl (upd gc x5.toNatClampNeg ik))), (h0, .inr (9, [.ref m1, .ref m2, .ref m3, .int ik, .int wy, .int op, .int cl, .int cx0, .int cx1, .int cy0, .int cy1, .int ds, .ref m4, .ref m5, .ref m6, .ref m7, .ref m8, .ref m9, .int pn, .ref m10, .ref m11, .ref m12, .ref m13])), (m1, .inl (cI, 4, .inl gw)), (m2, .inl (cI, 4, .inl gh)), (m3, .inl (cI, 16384, .inl gd)), (m4, .inl (cZ, 4096, .inl g_11)), (m13, .inl (cI, 4096, .inl g_12))] := hD
              generalize eg_19 : upd gc x5.toNatClampNeg ik = g_19 at hP hD
              have hP : va_P D vwCl [(m5, .inl (cI, 4096, .inl g_18)), (m6, .inl (cI, 4096, .inl g_19)), (h0, .inr (9, [.ref m1, .ref m2, .ref m3, .int ik, .int wy, .int op, .int cl, .int cx0, .int cx1, .int cy0, .int cy1, .int ds, .ref m4, .ref m5, .ref m6, .ref m7, .ref m8, .ref m9, .int pn, .ref m10, .ref m11, .ref m12, .ref m13])), (m1, .inl (cI, 4, .inl gw)), (m2, .inl (cI, 4, .inl gh)), (m3, .inl (cI, 16384, .inl gd)), (m4, .inl (cZ, 4096, .inl g_11)), (m13, .inl (cI, 4096, .inl g_12))] H := hP
              have hD : va_D A [(m5, .inl (cI, 4096, .inl g_18)), (m6, .inl (cI, 4096, .inl g_19)), (h0, .inr (9, [.ref m1, .ref m2, .ref m3, .int ik, .int wy, .int op, .int cl, .int cx0, .int cx1, .int cy0, .int cy1, .int ds, .ref m4, .ref m5, .ref m6, .ref m7, .ref m8, .ref m9, .int pn, .ref m10, .ref m11, .ref m12, .ref m13])), (m1, .inl (cI, 4, .inl gw)), (m2, .inl (cI, 4, .inl gh)), (m3, .inl (cI, 16384, .inl gd)), (m4, .inl (cZ, 4096, .inl g_11)), (m13, .inl (cI, 4096, .inl g_12))] := hD
              obtain ⟨y_20, ey_20⟩ : ∃ y : Int32, y = x5 + 1 := ⟨_, rfl⟩
              refine lv_iinc (v := y_20) (lv' := [(5, .int y_20), (0, .ref h0), (1, .int k), (2, .int x), (3, .int y), (4, .int co)]) hx hb dX9_flood_74 hl (k := 0) rfl (by rw [ey_20]; rfl) (by decide) rfl (fun ls hl => ?_)
              refine lv_goto (tgt := 44) hx hb dX9_flood_77 (by decide) ?_
              exact ih_14 (i + 1) y_20 g_18 g_19 _ _ _ (by omega) (by omega) (by rw [ey_20, ex_i]; exact nI_1 i) (hP.sub (ws' := [(m5, .inl (cI, 4096, .inl g_18)), (m6, .inl (cI, 4096, .inl g_19)), (h0, .inr (9, [.ref m1, .ref m2, .ref m3, .int ik, .int wy, .int op, .int cl, .int cx0, .int cx1, .int cy0, .int cy1, .int ds, .ref m4, .ref m5, .ref m6, .ref m7, .ref m8, .ref m9, .int pn, .ref m10, .ref m11, .ref m12, .ref m13])), (m1, .inl (cI, 4, .inl gw)), (m2, .inl (cI, 4, .inl gh)), (m3, .inl (cI, 16384, .inl gd)), (m4, .inl (cZ, 4096, .inl g_11)), (m13, .inl (cI, 4096, .inl g_12))]) [0, 1, 2, 3, 4, 5, 6, 7] rfl) (hD.sub (ws' := [(m5, .inl (cI, 4096, .inl g_18)), (m6, .inl (cI, 4096, .inl g_19)), (h0, .inr (9, [.ref m1, .ref m2, .ref m3, .int ik, .int wy, .int op, .int cl, .int cx0, .int cx1, .int cy0, .int cy1, .int ds, .ref m4, .ref m5, .ref m6, .ref m7, .ref m8, .ref m9, .int pn, .ref m10, .ref m11, .ref m12, .ref m13])), (m1, .inl (cI, 4, .inl gw)), (m2, .inl (cI, 4, .inl gh)), (m3, .inl (cI, 16384, .inl gd)), (m4, .inl (cZ, 4096, .inl g_11)), (m13, .inl (cI, 4096, .inl g_12))]) [0, 1, 2, 3, 4, 5, 6, 7] (by decide) rfl) hS (lv_sub hl [0, 1, 2, 3, 4, 5] rfl)
        exact loop_13 (4096 + 1) 0 0 ge gv _ _ _ (by omega) (by omega) nI_0.symm hP hD hS (lv_sub hl [0, 1, 2, 3, 4, 5] rfl)
      · skip
        have f_9 := bz0 hr_7 c_8
        refine lv_iconst (v := 0) hx hb dX9_flood_29 (by decide) ?_
        have hP9 := hP.sub (ws' := [(h0, .inr (9, [.ref m1, .ref m2, .ref m3, .int ik, .int wy, .int op, .int cl, .int cx0, .int cx1, .int cy0, .int cy1, .int ds, .ref m4, .ref m5, .ref m6, .ref m7, .ref m8, .ref m9, .int pn, .ref m10, .ref m11, .ref m12, .ref m13])), (m1, .inl (cI, 4, .inl gw)), (m2, .inl (cI, 4, .inl gh)), (m3, .inl (cI, 16384, .inl gd)), (m4, .inl (cZ, 4096, .inl gm)), (m5, .inl (cI, 4096, .inl ge)), (m6, .inl (cI, 4096, .inl gv)), (m13, .inl (cI, 4096, .inl wt))]) [7, 5, 6, 0, 1, 2, 3, 4] rfl
        have hD9 := hD.sub (ws' := [(h0, .inr (9, [.ref m1, .ref m2, .ref m3, .int ik, .int wy, .int op, .int cl, .int cx0, .int cx1, .int cy0, .int cy1, .int ds, .ref m4, .ref m5, .ref m6, .ref m7, .ref m8, .ref m9, .int pn, .ref m10, .ref m11, .ref m12, .ref m13])), (m1, .inl (cI, 4, .inl gw)), (m2, .inl (cI, 4, .inl gh)), (m3, .inl (cI, 16384, .inl gd)), (m4, .inl (cZ, 4096, .inl gm)), (m5, .inl (cI, 4096, .inl ge)), (m6, .inl (cI, 4096, .inl gv)), (m13, .inl (cI, 4096, .inl wt))]) [7, 5, 6, 0, 1, 2, 3, 4] (by decide) rfl
        have hK9 := hK.sub (tys' := [(cI, .int), (cZ, .boolean)]) [0, 1] rfl
        refine hQ _ _ _ _ _ ?_
        exact W.iret (v := 0) hx hb hr (fun t ht hW => ⟨⟨0, (), rfl, trivial, ⟨gd, gm, ge, gv, wt, by rw [ht]; exact hP9, va_K.moved hW.alike hK9, hD9⟩⟩, hS.F ht⟩) hS.2.2 dX9_flood_30
    · skip
      have f_6 := bz0 hr_4 c_5
      refine lv_iconst (v := (-1)) hx hb dX9_flood_18 (by decide) ?_
      have hP9 := hP.sub (ws' := [(h0, .inr (9, [.ref m1, .ref m2, .ref m3, .int ik, .int wy, .int op, .int cl, .int cx0, .int cx1, .int cy0, .int cy1, .int ds, .ref m4, .ref m5, .ref m6, .ref m7, .ref m8, .ref m9, .int pn, .ref m10, .ref m11, .ref m12, .ref m13])), (m1, .inl (cI, 4, .inl gw)), (m2, .inl (cI, 4, .inl gh)), (m3, .inl (cI, 16384, .inl gd)), (m4, .inl (cZ, 4096, .inl gm)), (m5, .inl (cI, 4096, .inl ge)), (m6, .inl (cI, 4096, .inl gv)), (m13, .inl (cI, 4096, .inl wt))]) [5, 6, 7, 0, 1, 2, 3, 4] rfl
      have hD9 := hD.sub (ws' := [(h0, .inr (9, [.ref m1, .ref m2, .ref m3, .int ik, .int wy, .int op, .int cl, .int cx0, .int cx1, .int cy0, .int cy1, .int ds, .ref m4, .ref m5, .ref m6, .ref m7, .ref m8, .ref m9, .int pn, .ref m10, .ref m11, .ref m12, .ref m13])), (m1, .inl (cI, 4, .inl gw)), (m2, .inl (cI, 4, .inl gh)), (m3, .inl (cI, 16384, .inl gd)), (m4, .inl (cZ, 4096, .inl gm)), (m5, .inl (cI, 4096, .inl ge)), (m6, .inl (cI, 4096, .inl gv)), (m13, .inl (cI, 4096, .inl wt))]) [5, 6, 7, 0, 1, 2, 3, 4] (by decide) rfl
      have hK9 := hK.sub (tys' := [(cI, .int), (cZ, .boolean)]) [0, 1] rfl
      refine hQ _ _ _ _ _ ?_
      exact W.iret (v := (-1)) hx hb hr (fun t ht hW => ⟨⟨(-1), (), rfl, trivial, ⟨gd, gm, ge, gv, wt, by rw [ht]; exact hP9, va_K.moved hW.alike hK9, hD9⟩⟩, hS.F ht⟩) hS.2.2 dX9_flood_19

set_option maxHeartbeats 4000000 in
set_option maxRecDepth 100000 in
theorem k_X9_region (l : Launch) (D : va_G) (sz : Nat) (h0 m1 m2 m3 m4 m5 m6 m7 m8 m9 m10 m11 m12 m13 : Nat) (ik wy op cl cx0 cx1 cy0 cy1 ds pn : Int32) (gw : Nat → Int32) (gh : Nat → Int32) (gd : Nat → Int32) (gm : Nat → Int32) (wt : Nat → Int32) (k x y co : Int32) (cI : ClassId) (cZ : ClassId) (hG : ∀ j : Nat, j < 4 → (gw j).toInt ≤ 64 ∧ (gh j).toInt ≤ 64) : Met l yX9_region (wB yX9_region cX9_region 7 (some .int)) ({ frames := 2, cells := 0, slots := 0, locals := 57 }) (cP D [(h0, .inr (9, [.ref m1, .ref m2, .ref m3, .int ik, .int wy, .int op, .int cl, .int cx0, .int cx1, .int cy0, .int cy1, .int ds, .ref m4, .ref m5, .ref m6, .ref m7, .ref m8, .ref m9, .int pn, .ref m10, .ref m11, .ref m12, .ref m13])), (m1, .inl (cI, 4, .inl gw)), (m2, .inl (cI, 4, .inl gh)), (m3, .inl (cI, 16384, .inl gd)), (m4, .inl (cZ, 4096, .inl gm)), (m13, .inl (cI, 4096, .inl wt))] [(cI, .int), (cZ, .boolean)] sz [.ref h0, .int k, .int x, .int y, .int co]) (va_Qi (fun (r : Int32) (_ : Unit) => True) (fun (_ : Unit) (t : State) => ∃ (g3 g6 : Nat → Int32), cB D (va_A [(h0, .inr (9, [.ref m1, .ref m2, .ref m3, .int ik, .int wy, .int op, .int cl, .int cx0, .int cx1, .int cy0, .int cy1, .int ds, .ref m4, .ref m5, .ref m6, .ref m7, .ref m8, .ref m9, .int pn, .ref m10, .ref m11, .ref m12, .ref m13])), (m1, .inl (cI, 4, .inl gw)), (m2, .inl (cI, 4, .inl gh)), (m3, .inl (cI, 16384, .inl gd)), (m4, .inl (cZ, 4096, .inl gm)), (m13, .inl (cI, 4096, .inl wt))] sz) [(h0, .inr (9, [.ref m1, .ref m2, .ref m3, .int ik, .int wy, .int op, .int cl, .int cx0, .int cx1, .int cy0, .int cy1, .int ds, .ref m4, .ref m5, .ref m6, .ref m7, .ref m8, .ref m9, .int pn, .ref m10, .ref m11, .ref m12, .ref m13])), (m1, .inl (cI, 4, .inl gw)), (m2, .inl (cI, 4, .inl gh)), (m3, .inl (cI, 16384, .inl gd)), (m4, .inl (cZ, 4096, .inl g3)), (m13, .inl (cI, 4096, .inl g6))] [(cI, .int), (cZ, .boolean)] t) (va_A [(h0, .inr (9, [.ref m1, .ref m2, .ref m3, .int ik, .int wy, .int op, .int cl, .int cx0, .int cx1, .int cy0, .int cy1, .int ds, .ref m4, .ref m5, .ref m6, .ref m7, .ref m8, .ref m9, .int pn, .ref m10, .ref m11, .ref m12, .ref m13])), (m1, .inl (cI, 4, .inl gw)), (m2, .inl (cI, 4, .inl gh)), (m3, .inl (cI, 16384, .inl gd)), (m4, .inl (cZ, 4096, .inl gm)), (m13, .inl (cI, 4096, .inl wt))] sz)) 0 0 (va_A [(h0, .inr (9, [.ref m1, .ref m2, .ref m3, .int ik, .int wy, .int op, .int cl, .int cx0, .int cx1, .int cy0, .int cy1, .int ds, .ref m4, .ref m5, .ref m6, .ref m7, .ref m8, .ref m9, .int pn, .ref m10, .ref m11, .ref m12, .ref m13])), (m1, .inl (cI, 4, .inl gw)), (m2, .inl (cI, 4, .inl gh)), (m3, .inl (cI, 16384, .inl gd)), (m4, .inl (cZ, 4096, .inl gm)), (m13, .inl (cI, 4096, .inl wt))] sz) := by
  refine Met.ofW (cc := cX9_region) (maxL := 7) (ret := (some .int)) (by decide) rfl ?_
  intro p e s m args below meth c s₁ B hml hv
  obtain ⟨rfl, hsz, hP, hK, hD0, hN⟩ := hv
  have hx := B.exec
  have hb := B.bytes
  have hr := B.returns
  have hts0 := atoms_spec (ws := (wB yX9_region cX9_region 7 (some .int))) B.pre
  have hts : ∀ w ∈ bigW, w.before _ s = true := fun w h => hts0 w (List.mem_cons_of_mem _ h)
  have hown : s.vm.findClass RX9 = some m.cls := findClass_of_methodNamed B.named
  have hlocks := B.notSynchronized
  subst hsz
  have hD := hD0.self (sz := s.heap.size)
  generalize hAe : va_A [(h0, .inr (9, [.ref m1, .ref m2, .ref m3, .int ik, .int wy, .int op, .int cl, .int cx0, .int cx1, .int cy0, .int cy1, .int ds, .ref m4, .ref m5, .ref m6, .ref m7, .ref m8, .ref m9, .int pn, .ref m10, .ref m11, .ref m12, .ref m13])), (m1, .inl (cI, 4, .inl gw)), (m2, .inl (cI, 4, .inl gh)), (m3, .inl (cI, 16384, .inl gd)), (m4, .inl (cZ, 4096, .inl gm)), (m13, .inl (cI, 4096, .inl wt))] s.heap.size = A at hD ⊢
  have hA : ∀ q : Nat, s.heap.size ≤ q → A q := fun q h => by rw [← hAe]; exact Or.inr h
  have hS : va_S A s.heap s.heap [] := va_S.rf
  have hP : va_P D vwCl [(h0, .inr (9, [.ref m1, .ref m2, .ref m3, .int ik, .int wy, .int op, .int cl, .int cx0, .int cx1, .int cy0, .int cy1, .int ds, .ref m4, .ref m5, .ref m6, .ref m7, .ref m8, .ref m9, .int pn, .ref m10, .ref m11, .ref m12, .ref m13])), (m1, .inl (cI, 4, .inl gw)), (m2, .inl (cI, 4, .inl gh)), (m3, .inl (cI, 16384, .inl gd)), (m4, .inl (cZ, 4096, .inl gm)), (m13, .inl (cI, 4096, .inl wt))] s.heap := hP
  have hl := lv_entry ([.ref h0, .int k, .int x, .int y, .int co]) (n := 7) (Nat.le_of_ble_eq_true rfl)
  rw [lg_entry_eq]
  generalize (lg_sl ([.ref h0, .int k, .int x, .int y, .int co]) ++ List.replicate (7 - (lg_sl ([.ref h0, .int k, .int x, .int y, .int co])).length) Slot.unset).toArray = ls at hl ⊢
  have hl : lv_has ls 7 [(0, .ref h0), (1, .int k), (2, .int x), (3, .int y), (4, .int co)] := hl
  clear hts0 hD0 hAe
  refine my_abs (fun R Q hR hQ => ?_)
  refine lv_aload_n hx hb dX9_region_0 rfl (lv_at hl 0 rfl) ?_
  refine lv_iload_n hx hb dX9_region_1 rfl (lv_at hl 1 rfl) ?_
  have hPc := hP.sub (ws' := [(h0, .inr (9, [.ref m1, .ref m2, .ref m3, .int ik, .int wy, .int op, .int cl, .int cx0, .int cx1, .int cy0, .int cy1, .int ds, .ref m4, .ref m5, .ref m6, .ref m7, .ref m8, .ref m9, .int pn, .ref m10, .ref m11, .ref m12, .ref m13])), (m1, .inl (cI, 4, .inl gw))]) [0, 1] rfl
  have hDc := hD.sub (ws' := [(h0, .inr (9, [.ref m1, .ref m2, .ref m3, .int ik, .int wy, .int op, .int cl, .int cx0, .int cx1, .int cy0, .int cy1, .int ds, .ref m4, .ref m5, .ref m6, .ref m7, .ref m8, .ref m9, .int pn, .ref m10, .ref m11, .ref m12, .ref m13])), (m1, .inl (cI, 4, .inl gw))]) [0, 1] (by decide) rfl
  have hKc := hK.sub (tys' := [(cI, .int)]) [0] rfl
  have hFc := va_free (wc := [(h0, .inr (9, [.ref m1, .ref m2, .ref m3, .int ik, .int wy, .int op, .int cl, .int cx0, .int cx1, .int cy0, .int cy1, .int ds, .ref m4, .ref m5, .ref m6, .ref m7, .ref m8, .ref m9, .int pn, .ref m10, .ref m11, .ref m12, .ref m13])), (m1, .inl (cI, 4, .inl gw))]) hD hS hA [0, 1] rfl
  refine va_calli (va_runV (As := [.int k]) (rest := []) ⟨hx, hb, hml, hown, hts⟩ (k_X9_isSheet l D s.heap.size h0 m1 m2 m3 m4 m5 m6 m7 m8 m9 m10 m11 m12 m13 ik wy op cl cx0 cx1 cy0 cy1 ds pn gw k cI) (cwV 1 hts (gV bw_490 bw_415 bw_416 bw_391 bw_414) rfl rfl rfl (by decide +kernel) ⟨(by rw [hR]; exact Nat.le_of_ble_eq_true rfl), (by rw [hR]; exact Nat.le_of_ble_eq_true rfl)⟩) ⟨cP_blind, va_recv hKc hPc (ci := 9) (q0 := 0) rfl rfl, cP_at hPc hKc hDc hN⟩ rfl rfl hl.1 rfl (lv_room (Nat.le_of_ble_eq_true rfl)) dX9_region_2 ⟨(by rw [hR]; exact Nat.le_of_ble_eq_true rfl), (by rw [hR]; exact Nat.le_of_ble_eq_true rfl)⟩) hS (fun q _ h => hFc q h) hFc (fun r_1 u9 t9 H1 locs ht hvm hr_1 hB hz1 hk1 hS => ?_)
  try dsimp only at hr_1
  obtain ⟨hP1, hK1, hD1⟩ := hB
  rw [ht] at hP1
  obtain ⟨hP, hD⟩ := va_join (wr := [(m2, .inl (cI, 4, .inl gh)), (m3, .inl (cI, 16384, .inl gd)), (m4, .inl (cZ, 4096, .inl gm)), (m13, .inl (cI, 4096, .inl wt))]) (w1 := [(h0, .inr (9, [.ref m1, .ref m2, .ref m3, .int ik, .int wy, .int op, .int cl, .int cx0, .int cx1, .int cy0, .int cy1, .int ds, .ref m4, .ref m5, .ref m6, .ref m7, .ref m8, .ref m9, .int pn, .ref m10, .ref m11, .ref m12, .ref m13])), (m1, .inl (cI, 4, .inl gw))]) hP hD [0, 1] [2, 3, 4, 5] rfl rfl (by decide) (by decide) hk1 hFc hP1 hD1
  clear hz1 hk1 hFc hKc hDc hPc
  generalize H1 = H at hP hS ⊢
  have hP : va_P D vwCl [(m2, .inl (cI, 4, .inl gh)), (m3, .inl (cI, 16384, .inl gd)), (m4, .inl (cZ, 4096, .inl gm)), (m13, .inl (cI, 4096, .inl wt)), (h0, .inr (9, [.ref m1, .ref m2, .ref m3, .int ik, .int wy, .int op, .int cl, .int cx0, .int cx1, .int cy0, .int cy1, .int ds, .ref m4, .ref m5, .ref m6, .ref m7, .ref m8, .ref m9, .int pn, .ref m10, .ref m11, .ref m12, .ref m13])), (m1, .inl (cI, 4, .inl gw))] H := hP
  have hD : va_D A [(m2, .inl (cI, 4, .inl gh)), (m3, .inl (cI, 16384, .inl gd)), (m4, .inl (cZ, 4096, .inl gm)), (m13, .inl (cI, 4096, .inl wt)), (h0, .inr (9, [.ref m1, .ref m2, .ref m3, .int ik, .int wy, .int op, .int cl, .int cx0, .int cx1, .int cy0, .int cy1, .int ds, .ref m4, .ref m5, .ref m6, .ref m7, .ref m8, .ref m9, .int pn, .ref m10, .ref m11, .ref m12, .ref m13])), (m1, .inl (cI, 4, .inl gw))] := hD
  refine lv_if_eq (tgt := 18) hx hb dX9_region_5 (by decide) (fun c_2 => ?_) (fun c_2 => ?_)
  · skip
    have f_3 := bz0 hr_1 c_2
    refine lv_iconst (v := (-1)) hx hb dX9_region_18 (by decide) ?_
    have hP9 := hP.sub (ws' := [(h0, .inr (9, [.ref m1, .ref m2, .ref m3, .int ik, .int wy, .int op, .int cl, .int cx0, .int cx1, .int cy0, .int cy1, .int ds, .ref m4, .ref m5, .ref m6, .ref m7, .ref m8, .ref m9, .int pn, .ref m10, .ref m11, .ref m12, .ref m13])), (m1, .inl (cI, 4, .inl gw)), (m2, .inl (cI, 4, .inl gh)), (m3, .inl (cI, 16384, .inl gd)), (m4, .inl (cZ, 4096, .inl gm)), (m13, .inl (cI, 4096, .inl wt))]) [4, 5, 0, 1, 2, 3] rfl
    have hD9 := hD.sub (ws' := [(h0, .inr (9, [.ref m1, .ref m2, .ref m3, .int ik, .int wy, .int op, .int cl, .int cx0, .int cx1, .int cy0, .int cy1, .int ds, .ref m4, .ref m5, .ref m6, .ref m7, .ref m8, .ref m9, .int pn, .ref m10, .ref m11, .ref m12, .ref m13])), (m1, .inl (cI, 4, .inl gw)), (m2, .inl (cI, 4, .inl gh)), (m3, .inl (cI, 16384, .inl gd)), (m4, .inl (cZ, 4096, .inl gm)), (m13, .inl (cI, 4096, .inl wt))]) [4, 5, 0, 1, 2, 3] (by decide) rfl
    have hK9 := hK.sub (tys' := [(cI, .int), (cZ, .boolean)]) [0, 1] rfl
    refine hQ _ _ _ _ _ ?_
    exact W.iret (v := (-1)) hx hb hr (fun t ht hW => ⟨⟨(-1), (), rfl, trivial, ⟨gm, wt, by rw [ht]; exact hP9, va_K.moved hW.alike hK9, hD9⟩⟩, hS.F ht⟩) hS.2.2 dX9_region_19
  · skip
    have f_3 := bz1 hr_1 c_2
    have hkn_k : k.toNatClampNeg < 4 := cl_lt (by omega) (by omega)
    have hgk_k := hG _ hkn_k
    refine lv_aload_n hx hb dX9_region_8 rfl (lv_at hl 0 rfl) ?_
    refine lv_iload_n hx hb dX9_region_9 rfl (lv_at hl 1 rfl) ?_
    refine lv_iload_n hx hb dX9_region_10 rfl (lv_at hl 2 rfl) ?_
    refine lv_iload_n hx hb dX9_region_11 rfl (lv_at hl 3 rfl) ?_
    have hPc := hP.sub (ws' := [(h0, .inr (9, [.ref m1, .ref m2, .ref m3, .int ik, .int wy, .int op, .int cl, .int cx0, .int cx1, .int cy0, .int cy1, .int ds, .ref m4, .ref m5, .ref m6, .ref m7, .ref m8, .ref m9, .int pn, .ref m10, .ref m11, .ref m12, .ref m13])), (m1, .inl (cI, 4, .inl gw)), (m2, .inl (cI, 4, .inl gh))]) [4, 5, 0] rfl
    have hDc := hD.sub (ws' := [(h0, .inr (9, [.ref m1, .ref m2, .ref m3, .int ik, .int wy, .int op, .int cl, .int cx0, .int cx1, .int cy0, .int cy1, .int ds, .ref m4, .ref m5, .ref m6, .ref m7, .ref m8, .ref m9, .int pn, .ref m10, .ref m11, .ref m12, .ref m13])), (m1, .inl (cI, 4, .inl gw)), (m2, .inl (cI, 4, .inl gh))]) [4, 5, 0] (by decide) rfl
    have hKc := hK.sub (tys' := [(cI, .int)]) [0] rfl
    have hFc := va_free (wc := [(h0, .inr (9, [.ref m1, .ref m2, .ref m3, .int ik, .int wy, .int op, .int cl, .int cx0, .int cx1, .int cy0, .int cy1, .int ds, .ref m4, .ref m5, .ref m6, .ref m7, .ref m8, .ref m9, .int pn, .ref m10, .ref m11, .ref m12, .ref m13])), (m1, .inl (cI, 4, .inl gw)), (m2, .inl (cI, 4, .inl gh))]) hD hS hA [4, 5, 0] rfl
    refine va_calli (va_runV (As := [.int k, .int x, .int y]) (rest := []) ⟨hx, hb, hml, hown, hts⟩ (k_X9_isOn l D H.size h0 m1 m2 m3 m4 m5 m6 m7 m8 m9 m10 m11 m12 m13 ik wy op cl cx0 cx1 cy0 cy1 ds pn gw gh k x y cI (by omega)) (cwV 3 hts (gV bw_433 bw_418 bw_419 bw_391 bw_417) rfl rfl rfl (by decide +kernel) ⟨(by rw [hR]; exact Nat.le_of_ble_eq_true rfl), (by rw [hR]; exact Nat.le_of_ble_eq_true rfl)⟩) ⟨cP_blind, va_recv hKc hPc (ci := 9) (q0 := 0) rfl rfl, cP_at hPc hKc hDc hN⟩ rfl rfl hl.1 rfl (lv_room (Nat.le_of_ble_eq_true rfl)) dX9_region_12 ⟨(by rw [hR]; exact Nat.le_of_ble_eq_true rfl), (by rw [hR]; exact Nat.le_of_ble_eq_true rfl)⟩) hS (fun q _ h => hFc q h) hFc (fun r_4 u9 t9 H1 locs ht hvm hr_4 hB hz1 hk1 hS => ?_)
    try dsimp only at hr_4
    obtain ⟨hP1, hK1, hD1⟩ := hB
    rw [ht] at hP1
    obtain ⟨hP, hD⟩ := va_join (wr := [(m3, .inl (cI, 16384, .inl gd)), (m4, .inl (cZ, 4096, .inl gm)), (m13, .inl (cI, 4096, .inl wt))]) (w1 := [(h0, .inr (9, [.ref m1, .ref m2, .ref m3, .int ik, .int wy, .int op, .int cl, .int cx0, .int cx1, .int cy0, .int cy1, .int ds, .ref m4, .ref m5, .ref m6, .ref m7, .ref m8, .ref m9, .int pn, .ref m10, .ref m11, .ref m12, .ref m13])), (m1, .inl (cI, 4, .inl gw)), (m2, .inl (cI, 4, .inl gh))]) hP hD [4, 5, 0] [1, 2, 3] rfl rfl (by decide) (by decide) hk1 hFc hP1 hD1
    clear hz1 hk1 hFc hKc hDc hPc
    generalize H1 = H at hP hS ⊢
    have hP : va_P D vwCl [(m3, .inl (cI, 16384, .inl gd)), (m4, .inl (cZ, 4096, .inl gm)), (m13, .inl (cI, 4096, .inl wt)), (h0, .inr (9, [.ref m1, .ref m2, .ref m3, .int ik, .int wy, .int op, .int cl, .int cx0, .int cx1, .int cy0, .int cy1, .int ds, .ref m4, .ref m5, .ref m6, .ref m7, .ref m8, .ref m9, .int pn, .ref m10, .ref m11, .ref m12, .ref m13])), (m1, .inl (cI, 4, .inl gw)), (m2, .inl (cI, 4, .inl gh))] H := hP
    have hD : va_D A [(m3, .inl (cI, 16384, .inl gd)), (m4, .inl (cZ, 4096, .inl gm)), (m13, .inl (cI, 4096, .inl wt)), (h0, .inr (9, [.ref m1, .ref m2, .ref m3, .int ik, .int wy, .int op, .int cl, .int cx0, .int cx1, .int cy0, .int cy1, .int ds, .ref m4, .ref m5, .ref m6, .ref m7, .ref m8, .ref m9, .int pn, .ref m10, .ref m11, .ref m12, .ref m13])), (m1, .inl (cI, 4, .inl gw)), (m2, .inl (cI, 4, .inl gh))] := hD
    refine lv_if_ne (tgt := 20) hx hb dX9_region_15 (by decide) (fun c_5 => ?_) (fun c_5 => ?_)
    · skip
      have f_6 := bz1 hr_4 c_5
      refine lv_aload_n hx hb dX9_region_20 rfl (lv_at hl 0 rfl) ?_
      refine lv_iload_n hx hb dX9_region_21 rfl (lv_at hl 1 rfl) ?_
      refine lv_iload_n hx hb dX9_region_22 rfl (lv_at hl 2 rfl) ?_
      refine lv_iload_n hx hb dX9_region_23 rfl (lv_at hl 3 rfl) ?_
      refine lv_iload hx hb dX9_region_24 (lv_at hl 4 rfl) ?_
      refine lv_iconst (v := 0) hx hb dX9_region_26 (by decide) ?_
      have hPc := hP.sub (ws' := [(h0, .inr (9, [.ref m1, .ref m2, .ref m3, .int ik, .int wy, .int op, .int cl, .int cx0, .int cx1, .int cy0, .int cy1, .int ds, .ref m4, .ref m5, .ref m6, .ref m7, .ref m8, .ref m9, .int pn, .ref m10, .ref m11, .ref m12, .ref m13])), (m1, .inl (cI, 4, .inl gw)), (m2, .inl (cI, 4, .inl gh)), (m3, .inl (cI, 16384, .inl gd)), (m4, .inl (cZ, 4096, .inl gm)), (m13, .inl (cI, 4096, .inl wt))]) [3, 4, 5, 0, 1, 2] rfl
      have hDc := hD.sub (ws' := [(h0, .inr (9, [.ref m1, .ref m2, .ref m3, .int ik, .int wy, .int op, .int cl, .int cx0, .int cx1, .int cy0, .int cy1, .int ds, .ref m4, .ref m5, .ref m6, .ref m7, .ref m8, .ref m9, .int pn, .ref m10, .ref m11, .ref m12, .ref m13])), (m1, .inl (cI, 4, .inl gw)), (m2, .inl (cI, 4, .inl gh)), (m3, .inl (cI, 16384, .inl gd)), (m4, .inl (cZ, 4096, .inl gm)), (m13, .inl (cI, 4096, .inl wt))]) [3, 4, 5, 0, 1, 2] (by decide) rfl
      have hKc := hK.sub (tys' := [(cI, .int), (cZ, .boolean)]) [0, 1] rfl
      have hFc := va_free (wc := [(h0, .inr (9, [.ref m1, .ref m2, .ref m3, .int ik, .int wy, .int op, .int cl, .int cx0, .int cx1, .int cy0, .int cy1, .int ds, .ref m4, .ref m5, .ref m6, .ref m7, .ref m8, .ref m9, .int pn, .ref m10, .ref m11, .ref m12, .ref m13])), (m1, .inl (cI, 4, .inl gw)), (m2, .inl (cI, 4, .inl gh)), (m3, .inl (cI, 16384, .inl gd)), (m4, .inl (cZ, 4096, .inl gm)), (m13, .inl (cI, 4096, .inl wt))]) hD hS hA [3, 4, 5, 0, 1, 2] rfl
      refine va_callv (va_runV (As := [.int k, .int x, .int y, .int co, .int 0]) (rest := []) ⟨hx, hb, hml, hown, hts⟩ (k_X9_joins l D H.size h0 m1 m2 m3 m4 m5 m6 m7 m8 m9 m10 m11 m12 m13 ik wy op cl cx0 cx1 cy0 cy1 ds pn gw gh gd gm wt k x y co 0 cI cZ (by omega) hgk_k.1 hgk_k.2 (by first | assumption | omega | decide)) (cwV 5 hts (gV bw_555 bw_549 bw_550 bw_391 bw_548) rfl rfl rfl (by decide +kernel) ⟨(by rw [hR]; exact Nat.le_of_ble_eq_true rfl), (by rw [hR]; exact Nat.le_of_ble_eq_true rfl)⟩) ⟨cP_blind, va_recv hKc hPc (ci := 9) (q0 := 0) rfl rfl, cP_at hPc hKc hDc hN⟩ rfl rfl hl.1 rfl (lv_room (Nat.le_of_ble_eq_true rfl)) dX9_region_27 ⟨(by rw [hR]; exact Nat.le_of_ble_eq_true rfl), (by rw [hR]; exact Nat.le_of_ble_eq_true rfl)⟩) hS (fun q _ h => hFc q h) hFc (fun u9 t9 H1 locs ht hvm hr_7 hB hz1 hk1 hS => ?_)
      try dsimp only at hr_7
      obtain ⟨g_8, g_9, hP1, hK1, hD1⟩ := hB
      rw [ht] at hP1
      obtain ⟨hP, hD⟩ := va_join (wr := []) (w1 := [(h0, .inr (9, [.ref m1, .ref m2, .ref m3, .int ik, .int wy, .int op, .int cl, .int cx0, .int cx1, .int cy0, .int cy1, .int ds, .ref m4, .ref m5, .ref m6, .ref m7, .ref m8, .ref m9, .int pn, .ref m10, .ref m11, .ref m12, .ref m13])), (m1, .inl (cI, 4, .inl gw)), (m2, .inl (cI, 4, .inl gh)), (m3, .inl (cI, 16384, .inl gd)), (m4, .inl (cZ, 4096, .inl g_8)), (m13, .inl (cI, 4096, .inl g_9))]) hP hD [3, 4, 5, 0, 1, 2] [] rfl rfl (by decide) (by decide) hk1 hFc hP1 hD1
      clear hz1 hk1 hFc hKc hDc hPc
      generalize H1 = H at hP hS ⊢
      have hP : va_P D vwCl [(h0, .inr (9, [.ref m1, .ref m2, .ref m3, .int ik, .int wy, .int op, .int cl, .int cx0, .int cx1, .int cy0, .int cy1, .int ds, .ref m4, .ref m5, .ref m6, .ref m7, .ref m8, .ref m9, .int pn, .ref m10, .ref m11, .ref m12, .ref m13])), (m1, .inl (cI, 4, .inl gw)), (m2, .inl (cI, 4, .inl gh)), (m3, .inl (cI, 16384, .inl gd)), (m4, .inl (cZ, 4096, .inl g_8)), (m13, .inl (cI, 4096, .inl g_9))] H := hP
      have hD : va_D A [(h0, .inr (9, [.ref m1, .ref m2, .ref m3, .int ik, .int wy, .int op, .int cl, .int cx0, .int cx1, .int cy0, .int cy1, .int ds, .ref m4, .ref m5, .ref m6, .ref m7, .ref m8, .ref m9, .int pn, .ref m10, .ref m11, .ref m12, .ref m13])), (m1, .inl (cI, 4, .inl gw)), (m2, .inl (cI, 4, .inl gh)), (m3, .inl (cI, 16384, .inl gd)), (m4, .inl (cZ, 4096, .inl g_8)), (m13, .inl (cI, 4096, .inl g_9))] := hD
      refine lv_iconst (v := 0) hx hb dX9_region_30 (by decide) ?_
      refine lv_istore (lv' := [(5, .int 0), (0, .ref h0), (1, .int k), (2, .int x), (3, .int y), (4, .int co)]) hx hb dX9_region_31 hl (by decide) rfl (fun ls hl => ?_)
      refine lv_iconst (v := 0) hx hb dX9_region_33 (by decide) ?_
      refine lv_istore (lv' := [(6, .int 0), (5, .int 0), (0, .ref h0), (1, .int k), (2, .int x), (3, .int y), (4, .int co)]) hx hb dX9_region_34 hl (by decide) rfl (fun ls hl => ?_)
      have loop_10 : ∀ (n : Nat) (i : Nat) (x6 : Int32) (x5 : Int32) (H : Heap) (locs : List Loc) (ls : Array Slot), (i ≤ 4096) → (4096 + 1 ≤ i + n) → (x6 = nI i) → va_P D vwCl [(h0, .inr (9, [.ref m1, .ref m2, .ref m3, .int ik, .int wy, .int op, .int cl, .int cx0, .int cx1, .int cy0, .int cy1, .int ds, .ref m4, .ref m5, .ref m6, .ref m7, .ref m8, .ref m9, .int pn, .ref m10, .ref m11, .ref m12, .ref m13])), (m1, .inl (cI, 4, .inl gw)), (m2, .inl (cI, 4, .inl gh)), (m3, .inl (cI, 16384, .inl gd)), (m4, .inl (cZ, 4096, .inl g_8)), (m13, .inl (cI, 4096, .inl g_9))] H → va_D A [(h0, .inr (9, [.ref m1, .ref m2, .ref m3, .int ik, .int wy, .int op, .int cl, .int cx0, .int cx1, .int cy0, .int cy1, .int ds, .ref m4, .ref m5, .ref m6, .ref m7, .ref m8, .ref m9, .int pn, .ref m10, .ref m11, .ref m12, .ref m13])), (m1, .inl (cI, 4, .inl gw)), (m2, .inl (cI, 4, .inl gh)), (m3, .inl (cI, 16384, .inl gd)), (m4, .inl (cZ, 4096, .inl g_8)), (m13, .inl (cI, 4096, .inl g_9))] → va_S A s.heap H locs → lv_has ls 7 [(6, .int x6), (5, .int x5), (0, .ref h0), (1, .int k), (2, .int x), (3, .int y), (4, .int co)] → W p l e R s m ([.ref h0, .int k, .int x, .int y, .int co] : List Value).toArray below meth c H locs 0 0 Q (F0 m 36 ls []) := by
        intro n
        induction n with
        | zero =>
          intro i x6 x5 H locs ls hi_i hm_i ex_i hP hD hS hl
          exact absurd (show False by omega) not_false
        | succ n ih_11 =>
          intro i x6 x5 H locs ls hi_i hm_i ex_i hP hD hS hl
          have hx_i : x6.toInt = (i : Int) := by rw [ex_i]; exact nI_toInt (by omega)
          have hc_i : x6.toNatClampNeg = i := by rw [ex_i]; exact nI_clamp (by omega)
          refine lv_iload hx hb dX9_region_36 (lv_at hl 0 rfl) ?_
          refine lv_sipush (v := 4096) hx hb dX9_region_38 (by decide) ?_
          refine lv_icmp_ge (tgt := 70) hx hb dX9_region_41 (by decide) (fun c_12 => ?_) (fun c_12 => ?_)
          · skip
            have f_13 : 4096 ≤ (i : Int) := f_le (by decide) hx_i c_12
            refine lv_iload hx hb dX9_region_70 (lv_at hl 1 rfl) ?_
            have hP9 := hP.sub (ws' := [(h0, .inr (9, [.ref m1, .ref m2, .ref m3, .int ik, .int wy, .int op, .int cl, .int cx0, .int cx1, .int cy0, .int cy1, .int ds, .ref m4, .ref m5, .ref m6, .ref m7, .ref m8, .ref m9, .int pn, .ref m10, .ref m11, .ref m12, .ref m13])), (m1, .inl (cI, 4, .inl gw)), (m2, .inl (cI, 4, .inl gh)), (m3, .inl (cI, 16384, .inl gd)), (m4, .inl (cZ, 4096, .inl g_8)), (m13, .inl (cI, 4096, .inl g_9))]) [0, 1, 2, 3, 4, 5] rfl
            have hD9 := hD.sub (ws' := [(h0, .inr (9, [.ref m1, .ref m2, .ref m3, .int ik, .int wy, .int op, .int cl, .int cx0, .int cx1, .int cy0, .int cy1, .int ds, .ref m4, .ref m5, .ref m6, .ref m7, .ref m8, .ref m9, .int pn, .ref m10, .ref m11, .ref m12, .ref m13])), (m1, .inl (cI, 4, .inl gw)), (m2, .inl (cI, 4, .inl gh)), (m3, .inl (cI, 16384, .inl gd)), (m4, .inl (cZ, 4096, .inl g_8)), (m13, .inl (cI, 4096, .inl g_9))]) [0, 1, 2, 3, 4, 5] (by decide) rfl
            have hK9 := hK.sub (tys' := [(cI, .int), (cZ, .boolean)]) [0, 1] rfl
            refine hQ _ _ _ _ _ ?_
            exact W.iret (v := x5) hx hb hr (fun t ht hW => ⟨⟨x5, (), rfl, trivial, ⟨g_8, g_9, by rw [ht]; exact hP9, va_K.moved hW.alike hK9, hD9⟩⟩, hS.F ht⟩) hS.2.2 dX9_region_72
          · skip
            have f_13 : ¬ (4096 ≤ (i : Int)) := fn_le (by decide) hx_i c_12
            refine lv_iload hx hb dX9_region_44 (lv_at hl 1 rfl) ?_
            refine lv_aload_n hx hb dX9_region_46 rfl (lv_at hl 2 rfl) ?_
            refine va_get (D := D) (ci := 9) (v := .ref m4) (C := RX9) (T := TX9) (N := 23) hx hb hts hi_X9 hown hK hP 0 rfl rfl 12 (by decide) (hts _ bw_404) (fun _ h9 => h9) rfl dX9_region_47 ?_
            refine lv_iload hx hb dX9_region_50 (lv_at hl 0 rfl) ?_
            refine va_zald hx hb hK hP 4 1 rfl rfl (vp_in_iff.mpr ⟨by omega, by omega⟩) dX9_region_52 ?_
            refine lv_topi (fun y_14 ey_14 => ?_)
            refine lv_if_eq (tgt := 60) hx hb dX9_region_53 (by decide) (fun c_15 => ?_) (fun c_15 => ?_)
            · skip
              have f_16 : y_14.toInt = 0 := f_eq rfl (by decide) c_15
              refine lv_iconst (v := 0) hx hb dX9_region_60 (by decide) ?_
              refine lv_iadd hx hb dX9_region_61 ?_
              refine lv_topi (fun y_17 ey_17 => ?_)
              refine lv_istore (lv' := [(5, .int y_17), (6, .int x6), (0, .ref h0), (1, .int k), (2, .int x), (3, .int y), (4, .int co)]) hx hb dX9_region_62 hl (by decide) rfl (fun ls hl => ?_)
              obtain ⟨y_18, ey_18⟩ : ∃ y : Int32, y = x6 + 1 := ⟨_, rfl⟩
              refine lv_iinc (v := y_18) (lv' := [(6, .int y_18), (5, .int y_17), (0, .ref h0), (1, .int k), (2, .int x), (3, .int y), (4, .int co)]) hx hb dX9_region_64 hl (k := 1) rfl (by rw [ey_18]; rfl) (by decide) rfl (fun ls hl => ?_)
              refine lv_goto (tgt := 36) hx hb dX9_region_67 (by decide) ?_
              exact ih_11 (i + 1) y_18 y_17 _ _ _ (by omega) (by omega) (by rw [ey_18, ex_i]; exact nI_1 i) (hP.sub (ws' := [(h0, .inr (9, [.ref m1, .ref m2, .ref m3, .int ik, .int wy, .int op, .int cl, .int cx0, .int cx1, .int cy0, .int cy1, .int ds, .ref m4, .ref m5, .ref m6, .ref m7, .ref m8, .ref m9, .int pn, .ref m10, .ref m11, .ref m12, .ref m13])), (m1, .inl (cI, 4, .inl gw)), (m2, .inl (cI, 4, .inl gh)), (m3, .inl (cI, 16384, .inl gd)), (m4, .inl (cZ, 4096, .inl g_8)), (m13, .inl (cI, 4096, .inl g_9))]) [0, 1, 2, 3, 4, 5] rfl) (hD.sub (ws' := [(h0, .inr (9, [.ref m1, .ref m2, .ref m3, .int ik, .int wy, .int op, .int cl, .int cx0, .int cx1, .int cy0, .int cy1, .int ds, .ref m4, .ref m5, .ref m6, .ref m7, .ref m8, .ref m9, .int pn, .ref m10, .ref m11, .ref m12, .ref m13])), (m1, .inl (cI, 4, .inl gw)), (m2, .inl (cI, 4, .inl gh)), (m3, .inl (cI, 16384, .inl gd)), (m4, .inl (cZ, 4096, .inl g_8)), (m13, .inl (cI, 4096, .inl g_9))]) [0, 1, 2, 3, 4, 5] (by decide) rfl) hS (lv_sub hl [0, 1, 2, 3, 4, 5, 6] rfl)
            · skip
              have f_16 : ¬ (y_14.toInt = 0) := fn_eq rfl (by decide) c_15
              refine lv_iconst (v := 1) hx hb dX9_region_56 (by decide) ?_
              refine lv_goto (tgt := 61) hx hb dX9_region_57 (by decide) ?_
              refine lv_iadd hx hb dX9_region_61 ?_
              refine lv_topi (fun y_19 ey_19 => ?_)
              refine lv_istore (lv' := [(5, .int y_19), (6, .int x6), (0, .ref h0), (1, .int k), (2, .int x), (3, .int y), (4, .int co)]) hx hb dX9_region_62 hl (by decide) rfl (fun ls hl => ?_)
              obtain ⟨y_20, ey_20⟩ : ∃ y : Int32, y = x6 + 1 := ⟨_, rfl⟩
              refine lv_iinc (v := y_20) (lv' := [(6, .int y_20), (5, .int y_19), (0, .ref h0), (1, .int k), (2, .int x), (3, .int y), (4, .int co)]) hx hb dX9_region_64 hl (k := 1) rfl (by rw [ey_20]; rfl) (by decide) rfl (fun ls hl => ?_)
              refine lv_goto (tgt := 36) hx hb dX9_region_67 (by decide) ?_
              exact ih_11 (i + 1) y_20 y_19 _ _ _ (by omega) (by omega) (by rw [ey_20, ex_i]; exact nI_1 i) (hP.sub (ws' := [(h0, .inr (9, [.ref m1, .ref m2, .ref m3, .int ik, .int wy, .int op, .int cl, .int cx0, .int cx1, .int cy0, .int cy1, .int ds, .ref m4, .ref m5, .ref m6, .ref m7, .ref m8, .ref m9, .int pn, .ref m10, .ref m11, .ref m12, .ref m13])), (m1, .inl (cI, 4, .inl gw)), (m2, .inl (cI, 4, .inl gh)), (m3, .inl (cI, 16384, .inl gd)), (m4, .inl (cZ, 4096, .inl g_8)), (m13, .inl (cI, 4096, .inl g_9))]) [0, 1, 2, 3, 4, 5] rfl) (hD.sub (ws' := [(h0, .inr (9, [.ref m1, .ref m2, .ref m3, .int ik, .int wy, .int op, .int cl, .int cx0, .int cx1, .int cy0, .int cy1, .int ds, .ref m4, .ref m5, .ref m6, .ref m7, .ref m8, .ref m9, .int pn, .ref m10, .ref m11, .ref m12, .ref m13])), (m1, .inl (cI, 4, .inl gw)), (m2, .inl (cI, 4, .inl gh)), (m3, .inl (cI, 16384, .inl gd)), (m4, .inl (cZ, 4096, .inl g_8)), (m13, .inl (cI, 4096, .inl g_9))]) [0, 1, 2, 3, 4, 5] (by decide) rfl) hS (lv_sub hl [0, 1, 2, 3, 4, 5, 6] rfl)
      exact loop_10 (4096 + 1) 0 0 0 _ _ _ (by omega) (by omega) nI_0.symm hP hD hS (lv_sub hl [0, 1, 2, 3, 4, 5, 6] rfl)
    · skip
      have f_6 := bz0 hr_4 c_5
      refine lv_iconst (v := (-1)) hx hb dX9_region_18 (by decide) ?_
      have hP9 := hP.sub (ws' := [(h0, .inr (9, [.ref m1, .ref m2, .ref m3, .int ik, .int wy, .int op, .int cl, .int cx0, .int cx1, .int cy0, .int cy1, .int ds, .ref m4, .ref m5, .ref m6, .ref m7, .ref m8, .ref m9, .int pn, .ref m10, .ref m11, .ref m12, .ref m13])), (m1, .inl (cI, 4, .inl gw)), (m2, .inl (cI, 4, .inl gh)), (m3, .inl (cI, 16384, .inl gd)), (m4, .inl (cZ, 4096, .inl gm)), (m13, .inl (cI, 4096, .inl wt))]) [3, 4, 5, 0, 1, 2] rfl
      have hD9 := hD.sub (ws' := [(h0, .inr (9, [.ref m1, .ref m2, .ref m3, .int ik, .int wy, .int op, .int cl, .int cx0, .int cx1, .int cy0, .int cy1, .int ds, .ref m4, .ref m5, .ref m6, .ref m7, .ref m8, .ref m9, .int pn, .ref m10, .ref m11, .ref m12, .ref m13])), (m1, .inl (cI, 4, .inl gw)), (m2, .inl (cI, 4, .inl gh)), (m3, .inl (cI, 16384, .inl gd)), (m4, .inl (cZ, 4096, .inl gm)), (m13, .inl (cI, 4096, .inl wt))]) [3, 4, 5, 0, 1, 2] (by decide) rfl
      have hK9 := hK.sub (tys' := [(cI, .int), (cZ, .boolean)]) [0, 1] rfl
      refine hQ _ _ _ _ _ ?_
      exact W.iret (v := (-1)) hx hb hr (fun t ht hW => ⟨⟨(-1), (), rfl, trivial, ⟨gm, wt, by rw [ht]; exact hP9, va_K.moved hW.alike hK9, hD9⟩⟩, hS.F ht⟩) hS.2.2 dX9_region_19
