set_option maxHeartbeats 4000000 in
set_option maxRecDepth 100000 in
theorem k_X8_layMirrored (l : Launch) (D : va_G) (sz : Nat) (h0 s1 s2 s3 s4 s5 s6 : Nat) (ds : Int32) (sp bt : Option Nat) (bx t0 d0 : Nat) (ik wy op : Int32) (bx0 by0 bx1 by1 : Int32) (w h : Int32) (g : Nat → Int32) (x y ax bq : Int32) (cI : ClassId) (hwy : 0 ≤ wy.toInt ∧ wy.toInt ≤ 12) (hw : w.toInt ≤ 64) (hh : h.toInt ≤ 64) : Met l yX8_layMirrored (wB yX8_layMirrored cX8_layMirrored 7 (some .int)) ({ frames := 4, cells := 0, slots := 0, locals := 100 }) (cP D [(h0, .inr (8, [.ref s1, .ref s2, .ref s3, .ref s4, .ref s5, .ref s6, .int ds, va_rf sp, va_rf bt])), (s2, .inr (1, [.ref bx, .int ik, .int wy, .int op])), (bx, .inr (0, [.int bx0, .int by0, .int bx1, .int by1])), (t0, .inr (5, [.ref d0, .int w, .int h])), (d0, .inl (cI, 4096, .inl g))] [(cI, .int)] sz [.ref h0, .ref t0, .int x, .int y, .int ax, .int bq]) (va_Qi (fun (r : Int32) (_ : Unit) => r = (miQ x y ax bq ik op).foldl (layT w h bx0 by0 bx1 by1) 0) (fun (_ : Unit) (t : State) => cB D (va_A [(h0, .inr (8, [.ref s1, .ref s2, .ref s3, .ref s4, .ref s5, .ref s6, .int ds, va_rf sp, va_rf bt])), (s2, .inr (1, [.ref bx, .int ik, .int wy, .int op])), (bx, .inr (0, [.int bx0, .int by0, .int bx1, .int by1])), (t0, .inr (5, [.ref d0, .int w, .int h])), (d0, .inl (cI, 4096, .inl g))] sz) [(h0, .inr (8, [.ref s1, .ref s2, .ref s3, .ref s4, .ref s5, .ref s6, .int ds, va_rf sp, va_rf bt])), (s2, .inr (1, [.ref bx, .int ik, .int wy, .int op])), (bx, .inr (0, [.int bx0, .int by0, .int bx1, .int by1])), (t0, .inr (5, [.ref d0, .int w, .int h])), (d0, .inl (cI, 4096, .inl ((miQ x y ax bq ik op).foldl (layG w h bx0 by0 bx1 by1 wy) g)))] [(cI, .int)] t) (va_A [(h0, .inr (8, [.ref s1, .ref s2, .ref s3, .ref s4, .ref s5, .ref s6, .int ds, va_rf sp, va_rf bt])), (s2, .inr (1, [.ref bx, .int ik, .int wy, .int op])), (bx, .inr (0, [.int bx0, .int by0, .int bx1, .int by1])), (t0, .inr (5, [.ref d0, .int w, .int h])), (d0, .inl (cI, 4096, .inl g))] sz)) 0 0 (va_A [(h0, .inr (8, [.ref s1, .ref s2, .ref s3, .ref s4, .ref s5, .ref s6, .int ds, va_rf sp, va_rf bt])), (s2, .inr (1, [.ref bx, .int ik, .int wy, .int op])), (bx, .inr (0, [.int bx0, .int by0, .int bx1, .int by1])), (t0, .inr (5, [.ref d0, .int w, .int h])), (d0, .inl (cI, 4096, .inl g))] sz) := by
  refine Met.ofW (cc := cX8_layMirrored) (maxL := 7) (ret := (some .int)) (by decide) rfl ?_
  intro p e s m args below meth c s₁ B hml hv
  obtain ⟨rfl, hsz, hP, hK, hD0, hN⟩ := hv
  have hx := B.exec
  have hb := B.bytes
  have hr := B.returns
  have hts0 := atoms_spec (ws := (wB yX8_layMirrored cX8_layMirrored 7 (some .int))) B.pre
  have hts : ∀ w ∈ bigW, w.before _ s = true := fun w h => hts0 w (List.mem_cons_of_mem _ h)
  have hown : s.vm.findClass RX8 = some m.cls := findClass_of_methodNamed B.named
  have hlocks := B.notSynchronized
  subst hsz
  have hD := hD0.self (sz := s.heap.size)
  generalize hAe : va_A [(h0, .inr (8, [.ref s1, .ref s2, .ref s3, .ref s4, .ref s5, .ref s6, .int ds, va_rf sp, va_rf bt])), (s2, .inr (1, [.ref bx, .int ik, .int wy, .int op])), (bx, .inr (0, [.int bx0, .int by0, .int bx1, .int by1])), (t0, .inr (5, [.ref d0, .int w, .int h])), (d0, .inl (cI, 4096, .inl g))] s.heap.size = A at hD ⊢
  have hA : ∀ q : Nat, s.heap.size ≤ q → A q := fun q h => by rw [← hAe]; exact Or.inr h
  have hS : va_S A s.heap s.heap [] := va_S.rf
  have hP : va_P D vwCl [(h0, .inr (8, [.ref s1, .ref s2, .ref s3, .ref s4, .ref s5, .ref s6, .int ds, va_rf sp, va_rf bt])), (s2, .inr (1, [.ref bx, .int ik, .int wy, .int op])), (bx, .inr (0, [.int bx0, .int by0, .int bx1, .int by1])), (t0, .inr (5, [.ref d0, .int w, .int h])), (d0, .inl (cI, 4096, .inl g))] s.heap := hP
  have hl := lv_entry ([.ref h0, .ref t0, .int x, .int y, .int ax, .int bq]) (n := 7) (Nat.le_of_ble_eq_true rfl)
  rw [lg_entry_eq]
  generalize (lg_sl ([.ref h0, .ref t0, .int x, .int y, .int ax, .int bq]) ++ List.replicate (7 - (lg_sl ([.ref h0, .ref t0, .int x, .int y, .int ax, .int bq])).length) Slot.unset).toArray = ls at hl ⊢
  have hl : lv_has ls 7 [(0, .ref h0), (1, .ref t0), (2, .int x), (3, .int y), (4, .int ax), (5, .int bq)] := hl
  clear hts0 hD0 hAe
  refine my_abs (fun R Q hR hQ => ?_)
  refine lv_aload_n hx hb dX8_layMirrored_0 rfl (lv_at hl 0 rfl) ?_
  refine lv_aload_n hx hb dX8_layMirrored_1 rfl (lv_at hl 1 rfl) ?_
  refine lv_iload_n hx hb dX8_layMirrored_2 rfl (lv_at hl 2 rfl) ?_
  refine lv_iload hx hb dX8_layMirrored_3 (lv_at hl 4 rfl) ?_
  refine lv_iload_n hx hb dX8_layMirrored_5 rfl (lv_at hl 3 rfl) ?_
  refine lv_iload hx hb dX8_layMirrored_6 (lv_at hl 5 rfl) ?_
  refine lv_iadd hx hb dX8_layMirrored_8 ?_
  refine lv_topi (fun y_1 ey_1 => ?_)
  have hPc := hP.sub (ws' := [(h0, .inr (8, [.ref s1, .ref s2, .ref s3, .ref s4, .ref s5, .ref s6, .int ds, va_rf sp, va_rf bt])), (s2, .inr (1, [.ref bx, .int ik, .int wy, .int op])), (bx, .inr (0, [.int bx0, .int by0, .int bx1, .int by1])), (t0, .inr (5, [.ref d0, .int w, .int h])), (d0, .inl (cI, 4096, .inl g))]) [0, 1, 2, 3, 4] rfl
  have hDc := hD.sub (ws' := [(h0, .inr (8, [.ref s1, .ref s2, .ref s3, .ref s4, .ref s5, .ref s6, .int ds, va_rf sp, va_rf bt])), (s2, .inr (1, [.ref bx, .int ik, .int wy, .int op])), (bx, .inr (0, [.int bx0, .int by0, .int bx1, .int by1])), (t0, .inr (5, [.ref d0, .int w, .int h])), (d0, .inl (cI, 4096, .inl g))]) [0, 1, 2, 3, 4] (by decide) rfl
  have hKc := hK.sub (tys' := [(cI, .int)]) [0] rfl
  have hFc := va_free (wc := [(h0, .inr (8, [.ref s1, .ref s2, .ref s3, .ref s4, .ref s5, .ref s6, .int ds, va_rf sp, va_rf bt])), (s2, .inr (1, [.ref bx, .int ik, .int wy, .int op])), (bx, .inr (0, [.int bx0, .int by0, .int bx1, .int by1])), (t0, .inr (5, [.ref d0, .int w, .int h])), (d0, .inl (cI, 4096, .inl g))]) hD hS hA [0, 1, 2, 3, 4] rfl
  refine va_calli (va_runV (As := [.ref t0, .int x, .int ax, .int y_1]) (rest := []) ⟨hx, hb, hml, hown, hts⟩ (k_X8_layPair l D s.heap.size h0 s1 s2 s3 s4 s5 s6 ds sp bt bx t0 d0 ik wy op bx0 by0 bx1 by1 w h g x ax y_1 cI (by first | assumption | omega | decide) (by first | assumption | omega | decide) (by first | assumption | omega | decide)) (cwV 4 hts (gV bw_373 bw_375 bw_376 bw_223 bw_374) rfl rfl rfl (by decide +kernel) ⟨(by rw [hR]; exact Nat.le_of_ble_eq_true rfl), (by rw [hR]; exact Nat.le_of_ble_eq_true rfl)⟩) ⟨cP_blind, va_recv hKc hPc (ci := 8) (q0 := 0) rfl rfl, cP_at hPc hKc hDc hN⟩ rfl rfl hl.1 rfl (lv_room (Nat.le_of_ble_eq_true rfl)) dX8_layMirrored_9 ⟨(by rw [hR]; exact Nat.le_of_ble_eq_true rfl), (by rw [hR]; exact Nat.le_of_ble_eq_true rfl)⟩) hS (fun q _ h => hFc q h) hFc (fun r_2 u9 t9 H1 locs ht hvm hr_2 hB hz1 hk1 hS => ?_)
  try dsimp only at hr_2
  obtain ⟨hP1, hK1, hD1⟩ := hB
  rw [ht] at hP1
  obtain ⟨hP, hD⟩ := va_join (wr := []) (w1 := [(h0, .inr (8, [.ref s1, .ref s2, .ref s3, .ref s4, .ref s5, .ref s6, .int ds, va_rf sp, va_rf bt])), (s2, .inr (1, [.ref bx, .int ik, .int wy, .int op])), (bx, .inr (0, [.int bx0, .int by0, .int bx1, .int by1])), (t0, .inr (5, [.ref d0, .int w, .int h])), (d0, .inl (cI, 4096, .inl ((prQ x ax y_1 ik op).foldl (layG w h bx0 by0 bx1 by1 wy) g)))]) hP hD [0, 1, 2, 3, 4] [] rfl rfl (by decide) (by decide) hk1 hFc hP1 hD1
  clear hz1 hk1 hFc hKc hDc hPc
  generalize H1 = H at hP hS ⊢
  have hP : va_P D vwCl [(h0, .inr (8, [.ref s1, .ref s2, .ref s3, .ref s4, .ref s5, .ref s6, .int ds, va_rf sp, va_rf bt])), (s2, .inr (1, [.ref bx, .int ik, .int wy, .int op])), (bx, .inr (0, [.int bx0, .int by0, .int bx1, .int by1])), (t0, .inr (5, [.ref d0, .int w, .int h])), (d0, .inl (cI, 4096, .inl ((prQ x ax y_1 ik op).foldl (layG w h bx0 by0 bx1 by1 wy) g)))] H := hP
  have hD : va_D A [(h0, .inr (8, [.ref s1, .ref s2, .ref s3, .ref s4, .ref s5, .ref s6, .int ds, va_rf sp, va_rf bt])), (s2, .inr (1, [.ref bx, .int ik, .int wy, .int op])), (bx, .inr (0, [.int bx0, .int by0, .int bx1, .int by1])), (t0, .inr (5, [.ref d0, .int w, .int h])), (d0, .inl (cI, 4096, .inl ((prQ x ax y_1 ik op).foldl (layG w h bx0 by0 bx1 by1 wy) g)))] := hD
  refine lv_istore (lv' := [(6, .int r_2), (0, .ref h0), (1, .ref t0), (2, .int x), (3, .int y), (4, .int ax), (5, .int bq)]) hx hb dX8_layMirrored_12 hl (by decide) rfl (fun ls hl => ?_)
  refine lv_iload hx hb dX8_layMirrored_14 (lv_at hl 6 rfl) ?_
  refine lv_if_eq (tgt := 36) hx hb dX8_layMirrored_16 (by decide) (fun c_3 => ?_) (fun c_3 => ?_)
  · skip
    have f_4 : bq.toInt = 0 := f_eq rfl (by decide) c_3
    refine lv_iload hx hb dX8_layMirrored_36 (lv_at hl 0 rfl) ?_
    have hmq : miQ x y ax bq ik op = prQ x ax (y + bq) ik op := if_pos c_3
    have hP : va_P D vwCl [(h0, .inr (8, [.ref s1, .ref s2, .ref s3, .ref s4, .ref s5, .ref s6, .int ds, va_rf sp, va_rf bt])), (s2, .inr (1, [.ref bx, .int ik, .int wy, .int op])), (bx, .inr (0, [.int bx0, .int by0, .int bx1, .int by1])), (t0, .inr (5, [.ref d0, .int w, .int h])), (d0, .inl (cI, 4096, .inl ((miQ x y ax bq ik op).foldl (layG w h bx0 by0 bx1 by1 wy) g)))] H := by rw [hmq]; subst_vars; exact hP
    have hD : va_D A [(h0, .inr (8, [.ref s1, .ref s2, .ref s3, .ref s4, .ref s5, .ref s6, .int ds, va_rf sp, va_rf bt])), (s2, .inr (1, [.ref bx, .int ik, .int wy, .int op])), (bx, .inr (0, [.int bx0, .int by0, .int bx1, .int by1])), (t0, .inr (5, [.ref d0, .int w, .int h])), (d0, .inl (cI, 4096, .inl ((miQ x y ax bq ik op).foldl (layG w h bx0 by0 bx1 by1 wy) g)))] := by rw [hmq]; subst_vars; exact hD
    have hP9 := hP.sub (ws' := [(h0, .inr (8, [.ref s1, .ref s2, .ref s3, .ref s4, .ref s5, .ref s6, .int ds, va_rf sp, va_rf bt])), (s2, .inr (1, [.ref bx, .int ik, .int wy, .int op])), (bx, .inr (0, [.int bx0, .int by0, .int bx1, .int by1])), (t0, .inr (5, [.ref d0, .int w, .int h])), (d0, .inl (cI, 4096, .inl ((miQ x y ax bq ik op).foldl (layG w h bx0 by0 bx1 by1 wy) g)))]) [0, 1, 2, 3, 4] rfl
    have hD9 := hD.sub (ws' := [(h0, .inr (8, [.ref s1, .ref s2, .ref s3, .ref s4, .ref s5, .ref s6, .int ds, va_rf sp, va_rf bt])), (s2, .inr (1, [.ref bx, .int ik, .int wy, .int op])), (bx, .inr (0, [.int bx0, .int by0, .int bx1, .int by1])), (t0, .inr (5, [.ref d0, .int w, .int h])), (d0, .inl (cI, 4096, .inl ((miQ x y ax bq ik op).foldl (layG w h bx0 by0 bx1 by1 wy) g)))]) [0, 1, 2, 3, 4] (by decide) rfl
    have hK9 := hK.sub (tys' := [(cI, .int)]) [0] rfl
    refine hQ _ _ _ _ _ ?_
    exact W.iret (v := r_2) hx hb hr (fun t ht hW => ⟨⟨r_2, (), rfl, (by rw [hmq]; subst_vars; rfl), ⟨by rw [ht]; exact hP9, va_K.moved hW.alike hK9, hD9⟩⟩, hS.F ht⟩) hS.2.2 dX8_layMirrored_38
  · skip
    have f_4 : ¬ (bq.toInt = 0) := fn_eq rfl (by decide) c_3
    refine lv_iload hx hb dX8_layMirrored_19 (lv_at hl 0 rfl) ?_
    refine lv_aload_n hx hb dX8_layMirrored_21 rfl (lv_at hl 1 rfl) ?_
    refine lv_aload_n hx hb dX8_layMirrored_22 rfl (lv_at hl 2 rfl) ?_
    refine lv_iload_n hx hb dX8_layMirrored_23 rfl (lv_at hl 3 rfl) ?_
    refine lv_iload hx hb dX8_layMirrored_24 (lv_at hl 5 rfl) ?_
    refine lv_iload_n hx hb dX8_layMirrored_26 rfl (lv_at hl 4 rfl) ?_
    refine lv_iload hx hb dX8_layMirrored_27 (lv_at hl 6 rfl) ?_
    refine lv_isub hx hb dX8_layMirrored_29 ?_
    refine lv_topi (fun y_5 ey_5 => ?_)
    have hPc := hP.sub (ws' := [(h0, .inr (8, [.ref s1, .ref s2, .ref s3, .ref s4, .ref s5, .ref s6, .int ds, va_rf sp, va_rf bt])), (s2, .inr (1, [.ref bx, .int ik, .int wy, .int op])), (bx, .inr (0, [.int bx0, .int by0, .int bx1, .int by1])), (t0, .inr (5, [.ref d0, .int w, .int h])), (d0, .inl (cI, 4096, .inl ((prQ x ax y_1 ik op).foldl (layG w h bx0 by0 bx1 by1 wy) g)))]) [0, 1, 2, 3, 4] rfl
    have hDc := hD.sub (ws' := [(h0, .inr (8, [.ref s1, .ref s2, .ref s3, .ref s4, .ref s5, .ref s6, .int ds, va_rf sp, va_rf bt])), (s2, .inr (1, [.ref bx, .int ik, .int wy, .int op])), (bx, .inr (0, [.int bx0, .int by0, .int bx1, .int by1])), (t0, .inr (5, [.ref d0, .int w, .int h])), (d0, .inl (cI, 4096, .inl ((prQ x ax y_1 ik op).foldl (layG w h bx0 by0 bx1 by1 wy) g)))]) [0, 1, 2, 3, 4] (by decide) rfl
    have hKc := hK.sub (tys' := [(cI, .int)]) [0] rfl
    have hFc := va_free (wc := [(h0, .inr (8, [.ref s1, .ref s2, .ref s3, .ref s4, .ref s5, .ref s6, .int ds, va_rf sp, va_rf bt])), (s2, .inr (1, [.ref bx, .int ik, .int wy, .int op])), (bx, .inr (0, [.int bx0, .int by0, .int bx1, .int by1])), (t0, .inr (5, [.ref d0, .int w, .int h])), (d0, .inl (cI, 4096, .inl ((prQ x ax y_1 ik op).foldl (layG w h bx0 by0 bx1 by1 wy) g)))]) hD hS hA [0, 1, 2, 3, 4] rfl
    refine va_calli (va_runV (As := [.ref t0, .int x, .int ax, .int y_5]) (rest := [.int r_2]) ⟨hx, hb, hml, hown, hts⟩ (k_X8_layPair l D H.size h0 s1 s2 s3 s4 s5 s6 ds sp bt bx t0 d0 ik wy op bx0 by0 bx1 by1 w h ((prQ x ax y_1 ik op).foldl (layG w h bx0 by0 bx1 by1 wy) g) x ax y_5 cI (by first | assumption | omega | decide) (by first | assumption | omega | decide) (by first | assumption | omega | decide)) (cwV 4 hts (gV bw_373 bw_375 bw_376 bw_223 bw_374) rfl rfl rfl (by decide +kernel) ⟨(by rw [hR]; exact Nat.le_of_ble_eq_true rfl), (by rw [hR]; exact Nat.le_of_ble_eq_true rfl)⟩) ⟨cP_blind, va_recv hKc hPc (ci := 8) (q0 := 0) rfl rfl, cP_at hPc hKc hDc hN⟩ rfl rfl hl.1 rfl (lv_room (Nat.le_of_ble_eq_true rfl)) dX8_layMirrored_30 ⟨(by rw [hR]; exact Nat.le_of_ble_eq_true rfl), (by rw [hR]; exact Nat.le_of_ble_eq_true rfl)⟩) hS (fun q _ h => hFc q h) hFc (fun r_6 u9 t9 H1 locs ht hvm hr_6 hB hz1 hk1 hS => ?_)
    try dsimp only at hr_6
    obtain ⟨hP1, hK1, hD1⟩ := hB
    rw [ht] at hP1
    obtain ⟨hP, hD⟩ := va_join (wr := []) (w1 := [(h0, .inr (8, [.ref s1, .ref s2, .ref s3, .ref s4, .ref s5, .ref s6, .int ds, va_rf sp, va_rf bt])), (s2, .inr (1, [.ref bx, .int ik, .int wy, .int op])), (bx, .inr (0, [.int bx0, .int by0, .int bx1, .int by1])), (t0, .inr (5, [.ref d0, .int w, .int h])), (d0, .inl (cI, 4096, .inl ((prQ x ax y_5 ik op).foldl (layG w h bx0 by0 bx1 by1 wy) ((prQ x ax y_1 ik op).foldl (layG w h bx0 by0 bx1 by1 wy) g))))]) hP hD [0, 1, 2, 3, 4] [] rfl rfl (by decide) (by decide) hk1 hFc hP1 hD1
    clear hz1 hk1 hFc hKc hDc hPc
    generalize H1 = H at hP hS ⊢
    have hP : va_P D vwCl [(h0, .inr (8, [.ref s1, .ref s2, .ref s3, .ref s4, .ref s5, .ref s6, .int ds, va_rf sp, va_rf bt])), (s2, .inr (1, [.ref bx, .int ik, .int wy, .int op])), (bx, .inr (0, [.int bx0, .int by0, .int bx1, .int by1])), (t0, .inr (5, [.ref d0, .int w, .int h])), (d0, .inl (cI, 4096, .inl ((prQ x ax y_5 ik op).foldl (layG w h bx0 by0 bx1 by1 wy) ((prQ x ax y_1 ik op).foldl (layG w h bx0 by0 bx1 by1 wy) g))))] H := hP
    have hD : va_D A [(h0, .inr (8, [.ref s1, .ref s2, .ref s3, .ref s4, .ref s5, .ref s6, .int ds, va_rf sp, va_rf bt])), (s2, .inr (1, [.ref bx, .int ik, .int wy, .int op])), (bx, .inr (0, [.int bx0, .int by0, .int bx1, .int by1])), (t0, .inr (5, [.ref d0, .int w, .int h])), (d0, .inl (cI, 4096, .inl ((prQ x ax y_5 ik op).foldl (layG w h bx0 by0 bx1 by1 wy) ((prQ x ax y_1 ik op).foldl (layG w h bx0 by0 bx1 by1 wy) g))))] := hD
    refine lv_iadd hx hb dX8_layMirrored_33 ?_
    refine lv_topi (fun y_7 ey_7 => ?_)
    refine lv_istore (lv' := [(6, .int y_7), (0, .ref h0), (1, .ref t0), (2, .int x), (3, .int y), (4, .int ax), (5, .int bq)]) hx hb dX8_layMirrored_34 hl (by decide) rfl (fun ls hl => ?_)
    refine lv_iload hx hb dX8_layMirrored_36 (lv_at hl 0 rfl) ?_
    have hmq : miQ x y ax bq ik op = prQ x ax (y + bq) ik op ++ prQ x ax (y - bq) ik op := if_neg c_3
    have hP : va_P D vwCl [(h0, .inr (8, [.ref s1, .ref s2, .ref s3, .ref s4, .ref s5, .ref s6, .int ds, va_rf sp, va_rf bt])), (s2, .inr (1, [.ref bx, .int ik, .int wy, .int op])), (bx, .inr (0, [.int bx0, .int by0, .int bx1, .int by1])), (t0, .inr (5, [.ref d0, .int w, .int h])), (d0, .inl (cI, 4096, .inl ((miQ x y ax bq ik op).foldl (layG w h bx0 by0 bx1 by1 wy) g)))] H := by rw [hmq, List.foldl_append]; subst_vars; exact hP
    have hD : va_D A [(h0, .inr (8, [.ref s1, .ref s2, .ref s3, .ref s4, .ref s5, .ref s6, .int ds, va_rf sp, va_rf bt])), (s2, .inr (1, [.ref bx, .int ik, .int wy, .int op])), (bx, .inr (0, [.int bx0, .int by0, .int bx1, .int by1])), (t0, .inr (5, [.ref d0, .int w, .int h])), (d0, .inl (cI, 4096, .inl ((miQ x y ax bq ik op).foldl (layG w h bx0 by0 bx1 by1 wy) g)))] := by rw [hmq, List.foldl_append]; subst_vars; exact hD
    have hP9 := hP.sub (ws' := [(h0, .inr (8, [.ref s1, .ref s2, .ref s3, .ref s4, .ref s5, .ref s6, .int ds, va_rf sp, va_rf bt])), (s2, .inr (1, [.ref bx, .int ik, .int wy, .int op])), (bx, .inr (0, [.int bx0, .int by0, .int bx1, .int by1])), (t0, .inr (5, [.ref d0, .int w, .int h])), (d0, .inl (cI, 4096, .inl ((miQ x y ax bq ik op).foldl (layG w h bx0 by0 bx1 by1 wy) g)))]) [0, 1, 2, 3, 4] rfl
    have hD9 := hD.sub (ws' := [(h0, .inr (8, [.ref s1, .ref s2, .ref s3, .ref s4, .ref s5, .ref s6, .int ds, va_rf sp, va_rf bt])), (s2, .inr (1, [.ref bx, .int ik, .int wy, .int op])), (bx, .inr (0, [.int bx0, .int by0, .int bx1, .int by1])), (t0, .inr (5, [.ref d0, .int w, .int h])), (d0, .inl (cI, 4096, .inl ((miQ x y ax bq ik op).foldl (layG w h bx0 by0 bx1 by1 wy) g)))]) [0, 1, 2, 3, 4] (by decide) rfl
    have hK9 := hK.sub (tys' := [(cI, .int)]) [0] rfl
    refine hQ _ _ _ _ _ ?_
    exact W.iret (v := y_7) hx hb hr (fun t ht hW => ⟨⟨y_7, (), rfl, (by rw [hmq, List.foldl_append, layT_add]; subst_vars; rfl), ⟨by rw [ht]; exact hP9, va_K.moved hW.alike hK9, hD9⟩⟩, hS.F ht⟩) hS.2.2 dX8_layMirrored_38

set_option maxHeartbeats 4000000 in
set_option maxRecDepth 100000 in
theorem k_X8_circle_y (l : Launch) (D : va_G) (sz : Nat) (h0 s1 s2 s3 s4 s5 s6 : Nat) (ds : Int32) (sp bt : Option Nat) (f : Nat → Option Nat) (bx t0 d0 : Nat) (ik wy op : Int32) (bx0 by0 bx1 by1 : Int32) (w h : Int32) (g : Nat → Int32) (k x y rd : Int32) (cO : ClassId) (cI : ClassId) (hk : 0 ≤ k.toInt ∧ k.toInt ≤ 3) (hf : f k.toNatClampNeg = some t0) (hwy : 0 ≤ wy.toInt ∧ wy.toInt ≤ 12) (hw : w.toInt ≤ 64) (hh : h.toInt ≤ 64) : Met l yX8_circle (wB yX8_circle cX8_circle 9 (some .int)) ({ frames := 5, cells := 0, slots := 0, locals := 126 }) (cP D [(h0, .inr (8, [.ref s1, .ref s2, .ref s3, .ref s4, .ref s5, .ref s6, .int ds, va_rf sp, va_rf bt])), (s1, .inl (cO, 4, .inr (.inr (.inr (.inr f))))), (s2, .inr (1, [.ref bx, .int ik, .int wy, .int op])), (bx, .inr (0, [.int bx0, .int by0, .int bx1, .int by1])), (t0, .inr (5, [.ref d0, .int w, .int h])), (d0, .inl (cI, 4096, .inl g))] [(cO, .object "DotBench$Sheet"), (cI, .int)] sz [.ref h0, .int k, .int x, .int y, .int rd]) (va_Qi (fun (r : Int32) (_ : Unit) => r = if (-2000 ≤ x.toInt ∧ x.toInt ≤ 2000) ∧ (-2000 ≤ y.toInt ∧ y.toInt ≤ 2000) ∧ (0 ≤ rd.toInt ∧ rd.toInt ≤ 500) then (ciL x y ik op rd.toNatClampNeg (ciM rd.toNatClampNeg 502 0)).foldl (layT w h bx0 by0 bx1 by1) 0 else -1) (fun (_ : Unit) (t : State) => cB D (va_A [(h0, .inr (8, [.ref s1, .ref s2, .ref s3, .ref s4, .ref s5, .ref s6, .int ds, va_rf sp, va_rf bt])), (s1, .inl (cO, 4, .inr (.inr (.inr (.inr f))))), (s2, .inr (1, [.ref bx, .int ik, .int wy, .int op])), (bx, .inr (0, [.int bx0, .int by0, .int bx1, .int by1])), (t0, .inr (5, [.ref d0, .int w, .int h])), (d0, .inl (cI, 4096, .inl g))] sz) [(h0, .inr (8, [.ref s1, .ref s2, .ref s3, .ref s4, .ref s5, .ref s6, .int ds, va_rf sp, va_rf bt])), (s1, .inl (cO, 4, .inr (.inr (.inr (.inr f))))), (s2, .inr (1, [.ref bx, .int ik, .int wy, .int op])), (bx, .inr (0, [.int bx0, .int by0, .int bx1, .int by1])), (t0, .inr (5, [.ref d0, .int w, .int h])), (d0, .inl (cI, 4096, .inl (if (-2000 ≤ x.toInt ∧ x.toInt ≤ 2000) ∧ (-2000 ≤ y.toInt ∧ y.toInt ≤ 2000) ∧ (0 ≤ rd.toInt ∧ rd.toInt ≤ 500) then (ciL x y ik op rd.toNatClampNeg (ciM rd.toNatClampNeg 502 0)).foldl (layG w h bx0 by0 bx1 by1 wy) g else g)))] [(cO, .object "DotBench$Sheet"), (cI, .int)] t) (va_A [(h0, .inr (8, [.ref s1, .ref s2, .ref s3, .ref s4, .ref s5, .ref s6, .int ds, va_rf sp, va_rf bt])), (s1, .inl (cO, 4, .inr (.inr (.inr (.inr f))))), (s2, .inr (1, [.ref bx, .int ik, .int wy, .int op])), (bx, .inr (0, [.int bx0, .int by0, .int bx1, .int by1])), (t0, .inr (5, [.ref d0, .int w, .int h])), (d0, .inl (cI, 4096, .inl g))] sz)) 0 0 (va_A [(h0, .inr (8, [.ref s1, .ref s2, .ref s3, .ref s4, .ref s5, .ref s6, .int ds, va_rf sp, va_rf bt])), (s1, .inl (cO, 4, .inr (.inr (.inr (.inr f))))), (s2, .inr (1, [.ref bx, .int ik, .int wy, .int op])), (bx, .inr (0, [.int bx0, .int by0, .int bx1, .int by1])), (t0, .inr (5, [.ref d0, .int w, .int h])), (d0, .inl (cI, 4096, .inl g))] sz) := by
  refine Met.ofW (cc := cX8_circle) (maxL := 9) (ret := (some .int)) (by decide) rfl ?_
  intro p e s m args below meth c s₁ B hml hv
  obtain ⟨rfl, hsz, hP, hK, hD0, hN⟩ := hv
  have hx := B.exec
  have hb := B.bytes
  have hr := B.returns
  have hts0 := atoms_spec (ws := (wB yX8_circle cX8_circle 9 (some .int))) B.pre
  have hts : ∀ w ∈ bigW, w.before _ s = true := fun w h => hts0 w (List.mem_cons_of_mem _ h)
  have hown : s.vm.findClass RX8 = some m.cls := findClass_of_methodNamed B.named
  have hlocks := B.notSynchronized
  subst hsz
  have hD := hD0.self (sz := s.heap.size)
  generalize hAe : va_A [(h0, .inr (8, [.ref s1, .ref s2, .ref s3, .ref s4, .ref s5, .ref s6, .int ds, va_rf sp, va_rf bt])), (s1, .inl (cO, 4, .inr (.inr (.inr (.inr f))))), (s2, .inr (1, [.ref bx, .int ik, .int wy, .int op])), (bx, .inr (0, [.int bx0, .int by0, .int bx1, .int by1])), (t0, .inr (5, [.ref d0, .int w, .int h])), (d0, .inl (cI, 4096, .inl g))] s.heap.size = A at hD ⊢
  have hA : ∀ q : Nat, s.heap.size ≤ q → A q := fun q h => by rw [← hAe]; exact Or.inr h
  have hS : va_S A s.heap s.heap [] := va_S.rf
  have hP : va_P D vwCl [(h0, .inr (8, [.ref s1, .ref s2, .ref s3, .ref s4, .ref s5, .ref s6, .int ds, va_rf sp, va_rf bt])), (s1, .inl (cO, 4, .inr (.inr (.inr (.inr f))))), (s2, .inr (1, [.ref bx, .int ik, .int wy, .int op])), (bx, .inr (0, [.int bx0, .int by0, .int bx1, .int by1])), (t0, .inr (5, [.ref d0, .int w, .int h])), (d0, .inl (cI, 4096, .inl g))] s.heap := hP
  have hl := lv_entry ([.ref h0, .int k, .int x, .int y, .int rd]) (n := 9) (Nat.le_of_ble_eq_true rfl)
  rw [lg_entry_eq]
  generalize (lg_sl ([.ref h0, .int k, .int x, .int y, .int rd]) ++ List.replicate (9 - (lg_sl ([.ref h0, .int k, .int x, .int y, .int rd])).length) Slot.unset).toArray = ls at hl ⊢
  have hl : lv_has ls 9 [(0, .ref h0), (1, .int k), (2, .int x), (3, .int y), (4, .int rd)] := hl
  clear hts0 hD0 hAe
  refine my_abs (fun R Q hR hQ => ?_)
  refine lv_aload_n hx hb dX8_circle_0 rfl (lv_at hl 0 rfl) ?_
  refine lv_iload_n hx hb dX8_circle_1 rfl (lv_at hl 1 rfl) ?_
  have hPc := hP.sub (ws' := [(h0, .inr (8, [.ref s1, .ref s2, .ref s3, .ref s4, .ref s5, .ref s6, .int ds, va_rf sp, va_rf bt])), (s1, .inl (cO, 4, .inr (.inr (.inr (.inr f)))))]) [0, 1] rfl
  have hDc := hD.sub (ws' := [(h0, .inr (8, [.ref s1, .ref s2, .ref s3, .ref s4, .ref s5, .ref s6, .int ds, va_rf sp, va_rf bt])), (s1, .inl (cO, 4, .inr (.inr (.inr (.inr f)))))]) [0, 1] (by decide) rfl
  have hKc := hK.sub (tys' := [(cO, .object "DotBench$Sheet")]) [0] rfl
  have hFc := va_free (wc := [(h0, .inr (8, [.ref s1, .ref s2, .ref s3, .ref s4, .ref s5, .ref s6, .int ds, va_rf sp, va_rf bt])), (s1, .inl (cO, 4, .inr (.inr (.inr (.inr f)))))]) hD hS hA [0, 1] rfl
  refine va_callq (va_runV (As := [.int k]) (rest := []) ⟨hx, hb, hml, hown, hts⟩ (k_X8_sheetAt_y l D s.heap.size h0 s1 s2 s3 s4 s5 s6 ds sp bt f k t0 cO (by first | assumption | omega | decide) (by first | assumption | omega | decide)) (cwV 1 hts (gV bw_267 bw_346 bw_347 bw_223 bw_345) rfl rfl rfl (by decide +kernel) ⟨(by rw [hR]; exact Nat.le_of_ble_eq_true rfl), (by rw [hR]; exact Nat.le_of_ble_eq_true rfl)⟩) ⟨cP_blind, va_recv hKc hPc (ci := 8) (q0 := 0) rfl rfl, cP_at hPc hKc hDc hN⟩ rfl rfl hl.1 rfl (lv_room (Nat.le_of_ble_eq_true rfl)) dX8_circle_2 ⟨(by rw [hR]; exact Nat.le_of_ble_eq_true rfl), (by rw [hR]; exact Nat.le_of_ble_eq_true rfl)⟩) hS (fun q _ h => hFc q h) hFc (fun r_1 u9 t9 H1 locs ht hvm hr_1 hB hz1 hk1 hS => ?_)
  try dsimp only at hr_1
  obtain ⟨hP1, hK1, hD1⟩ := hB
  rw [ht] at hP1
  obtain ⟨hP, hD⟩ := va_join (wr := [(s2, .inr (1, [.ref bx, .int ik, .int wy, .int op])), (bx, .inr (0, [.int bx0, .int by0, .int bx1, .int by1])), (t0, .inr (5, [.ref d0, .int w, .int h])), (d0, .inl (cI, 4096, .inl g))]) (w1 := [(h0, .inr (8, [.ref s1, .ref s2, .ref s3, .ref s4, .ref s5, .ref s6, .int ds, va_rf sp, va_rf bt])), (s1, .inl (cO, 4, .inr (.inr (.inr (.inr f)))))]) hP hD [0, 1] [2, 3, 4, 5] rfl rfl (by decide) (by decide) hk1 hFc hP1 hD1
  clear hz1 hk1 hFc hKc hDc hPc
  generalize H1 = H at hP hS ⊢
  have hP : va_P D vwCl [(s2, .inr (1, [.ref bx, .int ik, .int wy, .int op])), (bx, .inr (0, [.int bx0, .int by0, .int bx1, .int by1])), (t0, .inr (5, [.ref d0, .int w, .int h])), (d0, .inl (cI, 4096, .inl g)), (h0, .inr (8, [.ref s1, .ref s2, .ref s3, .ref s4, .ref s5, .ref s6, .int ds, va_rf sp, va_rf bt])), (s1, .inl (cO, 4, .inr (.inr (.inr (.inr f)))))] H := hP
  have hD : va_D A [(s2, .inr (1, [.ref bx, .int ik, .int wy, .int op])), (bx, .inr (0, [.int bx0, .int by0, .int bx1, .int by1])), (t0, .inr (5, [.ref d0, .int w, .int h])), (d0, .inl (cI, 4096, .inl g)), (h0, .inr (8, [.ref s1, .ref s2, .ref s3, .ref s4, .ref s5, .ref s6, .int ds, va_rf sp, va_rf bt])), (s1, .inl (cO, 4, .inr (.inr (.inr (.inr f)))))] := hD
  subst hr_1
  refine my_topv (v := .ref t0) rfl ?_
  refine lv_astore (lv' := [(5, .ref t0), (0, .ref h0), (1, .int k), (2, .int x), (3, .int y), (4, .int rd)]) hx hb dX8_circle_5 hl (by decide) rfl (fun ls hl => ?_)
  refine lv_aload hx hb dX8_circle_7 (lv_at hl 0 rfl) ?_
  refine lv_ifnull hx hb dX8_circle_9 ?_
  refine lv_iload_n hx hb dX8_circle_12 rfl (lv_at hl 3 rfl) ?_
  refine lv_sipush (v := 2000) hx hb dX8_circle_13 (by decide) ?_
  have hPc := hP.sub (ws' := []) [] rfl
  have hDc := hD.sub (ws' := []) [] (by decide) rfl
  have hKc := hK.sub (tys' := []) [] rfl
  have hFc := va_free (wc := []) hD hS hA [] rfl
  refine va_calli (va_runS (As := [.int x, .int 2000]) (rest := []) ⟨hx, hb, hml, hown, hts⟩ (k_X8_isNear l D H.size x 2000 (-2000) 2000 (by decide) (by decide)) (va_cwS 2 hts (gS bw_268 bw_351 bw_223 bw_350) rfl rfl rfl (by decide +kernel) ⟨(by rw [hR]; exact Nat.le_of_ble_eq_true rfl), (by rw [hR]; exact Nat.le_of_ble_eq_true rfl)⟩) ⟨cP_blind, cP_at hPc hKc hDc hN⟩ rfl rfl hl.1 rfl (lv_room (Nat.le_of_ble_eq_true rfl)) dX8_circle_16 ⟨(by rw [hR]; exact Nat.le_of_ble_eq_true rfl), (by rw [hR]; exact Nat.le_of_ble_eq_true rfl)⟩) hS (fun q _ h => hFc q h) hFc (fun r_2 u9 t9 H1 locs ht hvm hr_2 hB hz1 hk1 hS => ?_)
  try dsimp only at hr_2
  have hP1 : va_P D vwCl [] H1 := vP_nil
  have hD1 : va_D (va_A [] H.size) [] := vD_nil
  obtain ⟨hP, hD⟩ := va_join (wr := [(s2, .inr (1, [.ref bx, .int ik, .int wy, .int op])), (bx, .inr (0, [.int bx0, .int by0, .int bx1, .int by1])), (t0, .inr (5, [.ref d0, .int w, .int h])), (d0, .inl (cI, 4096, .inl g)), (h0, .inr (8, [.ref s1, .ref s2, .ref s3, .ref s4, .ref s5, .ref s6, .int ds, va_rf sp, va_rf bt])), (s1, .inl (cO, 4, .inr (.inr (.inr (.inr f)))))]) (w1 := []) hP hD [] [0, 1, 2, 3, 4, 5] rfl rfl (by decide) (by decide) hk1 hFc hP1 hD1
  clear hz1 hk1 hFc hKc hDc hPc
  generalize H1 = H at hP hS ⊢
  have hP : va_P D vwCl [(s2, .inr (1, [.ref bx, .int ik, .int wy, .int op])), (bx, .inr (0, [.int bx0, .int by0, .int bx1, .int by1])), (t0, .inr (5, [.ref d0, .int w, .int h])), (d0, .inl (cI, 4096, .inl g)), (h0, .inr (8, [.ref s1, .ref s2, .ref s3, .ref s4, .ref s5, .ref s6, .int ds, va_rf sp, va_rf bt])), (s1, .inl (cO, 4, .inr (.inr (.inr (.inr f)))))] H := hP
  have hD : va_D A [(s2, .inr (1, [.ref bx, .int ik, .int wy, .int op])), (bx, .inr (0, [.int bx0, .int by0, .int bx1, .int by1])), (t0, .inr (5, [.ref d0, .int w, .int h])), (d0, .inl (cI, 4096, .inl g)), (h0, .inr (8, [.ref s1, .ref s2, .ref s3, .ref s4, .ref s5, .ref s6, .int ds, va_rf sp, va_rf bt])), (s1, .inl (cO, 4, .inr (.inr (.inr (.inr f)))))] := hD
  refine lv_if_eq (tgt := 44) hx hb dX8_circle_19 (by decide) (fun c_3 => ?_) (fun c_3 => ?_)
  · skip
    have f_4 := bz0 hr_2 c_3
    refine lv_iconst (v := (-1)) hx hb dX8_circle_44 (by decide) ?_
    have hn9 : ¬ ((-2000 ≤ x.toInt ∧ x.toInt ≤ 2000) ∧ (-2000 ≤ y.toInt ∧ y.toInt ≤ 2000) ∧ (0 ≤ rd.toInt ∧ rd.toInt ≤ 500)) := by omega
    have hP : va_P D vwCl [(s2, .inr (1, [.ref bx, .int ik, .int wy, .int op])), (bx, .inr (0, [.int bx0, .int by0, .int bx1, .int by1])), (t0, .inr (5, [.ref d0, .int w, .int h])), (d0, .inl (cI, 4096, .inl (if (-2000 ≤ x.toInt ∧ x.toInt ≤ 2000) ∧ (-2000 ≤ y.toInt ∧ y.toInt ≤ 2000) ∧ (0 ≤ rd.toInt ∧ rd.toInt ≤ 500) then (ciL x y ik op rd.toNatClampNeg (ciM rd.toNatClampNeg 502 0)).foldl (layG w h bx0 by0 bx1 by1 wy) g else g))), (h0, .inr (8, [.ref s1, .ref s2, .ref s3, .ref s4, .ref s5, .ref s6, .int ds, va_rf sp, va_rf bt])), (s1, .inl (cO, 4, .inr (.inr (.inr (.inr f)))))] H := by rw [if_neg hn9]; exact hP
    have hD : va_D A [(s2, .inr (1, [.ref bx, .int ik, .int wy, .int op])), (bx, .inr (0, [.int bx0, .int by0, .int bx1, .int by1])), (t0, .inr (5, [.ref d0, .int w, .int h])), (d0, .inl (cI, 4096, .inl (if (-2000 ≤ x.toInt ∧ x.toInt ≤ 2000) ∧ (-2000 ≤ y.toInt ∧ y.toInt ≤ 2000) ∧ (0 ≤ rd.toInt ∧ rd.toInt ≤ 500) then (ciL x y ik op rd.toNatClampNeg (ciM rd.toNatClampNeg 502 0)).foldl (layG w h bx0 by0 bx1 by1 wy) g else g))), (h0, .inr (8, [.ref s1, .ref s2, .ref s3, .ref s4, .ref s5, .ref s6, .int ds, va_rf sp, va_rf bt])), (s1, .inl (cO, 4, .inr (.inr (.inr (.inr f)))))] := by rw [if_neg hn9]; exact hD
    have hP9 := hP.sub (ws' := [(h0, .inr (8, [.ref s1, .ref s2, .ref s3, .ref s4, .ref s5, .ref s6, .int ds, va_rf sp, va_rf bt])), (s1, .inl (cO, 4, .inr (.inr (.inr (.inr f))))), (s2, .inr (1, [.ref bx, .int ik, .int wy, .int op])), (bx, .inr (0, [.int bx0, .int by0, .int bx1, .int by1])), (t0, .inr (5, [.ref d0, .int w, .int h])), (d0, .inl (cI, 4096, .inl (if (-2000 ≤ x.toInt ∧ x.toInt ≤ 2000) ∧ (-2000 ≤ y.toInt ∧ y.toInt ≤ 2000) ∧ (0 ≤ rd.toInt ∧ rd.toInt ≤ 500) then (ciL x y ik op rd.toNatClampNeg (ciM rd.toNatClampNeg 502 0)).foldl (layG w h bx0 by0 bx1 by1 wy) g else g)))]) [4, 5, 0, 1, 2, 3] rfl
    have hD9 := hD.sub (ws' := [(h0, .inr (8, [.ref s1, .ref s2, .ref s3, .ref s4, .ref s5, .ref s6, .int ds, va_rf sp, va_rf bt])), (s1, .inl (cO, 4, .inr (.inr (.inr (.inr f))))), (s2, .inr (1, [.ref bx, .int ik, .int wy, .int op])), (bx, .inr (0, [.int bx0, .int by0, .int bx1, .int by1])), (t0, .inr (5, [.ref d0, .int w, .int h])), (d0, .inl (cI, 4096, .inl (if (-2000 ≤ x.toInt ∧ x.toInt ≤ 2000) ∧ (-2000 ≤ y.toInt ∧ y.toInt ≤ 2000) ∧ (0 ≤ rd.toInt ∧ rd.toInt ≤ 500) then (ciL x y ik op rd.toNatClampNeg (ciM rd.toNatClampNeg 502 0)).foldl (layG w h bx0 by0 bx1 by1 wy) g else g)))]) [4, 5, 0, 1, 2, 3] (by decide) rfl
    have hK9 := hK.sub (tys' := [(cO, .object "DotBench$Sheet"), (cI, .int)]) [0, 1] rfl
    refine hQ _ _ _ _ _ ?_
    exact W.iret (v := (-1)) hx hb hr (fun t ht hW => ⟨⟨(-1), (), rfl, (if_neg (by omega)).symm, ⟨by rw [ht]; exact hP9, va_K.moved hW.alike hK9, hD9⟩⟩, hS.F ht⟩) hS.2.2 dX8_circle_45
  · skip
    have f_4 := bz1 hr_2 c_3
    refine lv_iload_n hx hb dX8_circle_22 rfl (lv_at hl 4 rfl) ?_
    refine lv_sipush (v := 2000) hx hb dX8_circle_23 (by decide) ?_
    have hPc := hP.sub (ws' := []) [] rfl
    have hDc := hD.sub (ws' := []) [] (by decide) rfl
    have hKc := hK.sub (tys' := []) [] rfl
    have hFc := va_free (wc := []) hD hS hA [] rfl
    refine va_calli (va_runS (As := [.int y, .int 2000]) (rest := []) ⟨hx, hb, hml, hown, hts⟩ (k_X8_isNear l D H.size y 2000 (-2000) 2000 (by decide) (by decide)) (va_cwS 2 hts (gS bw_268 bw_351 bw_223 bw_350) rfl rfl rfl (by decide +kernel) ⟨(by rw [hR]; exact Nat.le_of_ble_eq_true rfl), (by rw [hR]; exact Nat.le_of_ble_eq_true rfl)⟩) ⟨cP_blind, cP_at hPc hKc hDc hN⟩ rfl rfl hl.1 rfl (lv_room (Nat.le_of_ble_eq_true rfl)) dX8_circle_26 ⟨(by rw [hR]; exact Nat.le_of_ble_eq_true rfl), (by rw [hR]; exact Nat.le_of_ble_eq_true rfl)⟩) hS (fun q _ h => hFc q h) hFc (fun r_5 u9 t9 H1 locs ht hvm hr_5 hB hz1 hk1 hS => ?_)
    try dsimp only at hr_5
    have hP1 : va_P D vwCl [] H1 := vP_nil
    have hD1 : va_D (va_A [] H.size) [] := vD_nil
    obtain ⟨hP, hD⟩ := va_join (wr := [(s2, .inr (1, [.ref bx, .int ik, .int wy, .int op])), (bx, .inr (0, [.int bx0, .int by0, .int bx1, .int by1])), (t0, .inr (5, [.ref d0, .int w, .int h])), (d0, .inl (cI, 4096, .inl g)), (h0, .inr (8, [.ref s1, .ref s2, .ref s3, .ref s4, .ref s5, .ref s6, .int ds, va_rf sp, va_rf bt])), (s1, .inl (cO, 4, .inr (.inr (.inr (.inr f)))))]) (w1 := []) hP hD [] [0, 1, 2, 3, 4, 5] rfl rfl (by decide) (by decide) hk1 hFc hP1 hD1
    clear hz1 hk1 hFc hKc hDc hPc
    generalize H1 = H at hP hS ⊢
    have hP : va_P D vwCl [(s2, .inr (1, [.ref bx, .int ik, .int wy, .int op])), (bx, .inr (0, [.int bx0, .int by0, .int bx1, .int by1])), (t0, .inr (5, [.ref d0, .int w, .int h])), (d0, .inl (cI, 4096, .inl g)), (h0, .inr (8, [.ref s1, .ref s2, .ref s3, .ref s4, .ref s5, .ref s6, .int ds, va_rf sp, va_rf bt])), (s1, .inl (cO, 4, .inr (.inr (.inr (.inr f)))))] H := hP
    have hD : va_D A [(s2, .inr (1, [.ref bx, .int ik, .int wy, .int op])), (bx, .inr (0, [.int bx0, .int by0, .int bx1, .int by1])), (t0, .inr (5, [.ref d0, .int w, .int h])), (d0, .inl (cI, 4096, .inl g)), (h0, .inr (8, [.ref s1, .ref s2, .ref s3, .ref s4, .ref s5, .ref s6, .int ds, va_rf sp, va_rf bt])), (s1, .inl (cO, 4, .inr (.inr (.inr (.inr f)))))] := hD
    refine lv_if_eq (tgt := 44) hx hb dX8_circle_29 (by decide) (fun c_6 => ?_) (fun c_6 => ?_)
    · skip
      have f_7 := bz0 hr_5 c_6
      refine lv_iconst (v := (-1)) hx hb dX8_circle_44 (by decide) ?_
      have hn9 : ¬ ((-2000 ≤ x.toInt ∧ x.toInt ≤ 2000) ∧ (-2000 ≤ y.toInt ∧ y.toInt ≤ 2000) ∧ (0 ≤ rd.toInt ∧ rd.toInt ≤ 500)) := by omega
      have hP : va_P D vwCl [(s2, .inr (1, [.ref bx, .int ik, .int wy, .int op])), (bx, .inr (0, [.int bx0, .int by0, .int bx1, .int by1])), (t0, .inr (5, [.ref d0, .int w, .int h])), (d0, .inl (cI, 4096, .inl (if (-2000 ≤ x.toInt ∧ x.toInt ≤ 2000) ∧ (-2000 ≤ y.toInt ∧ y.toInt ≤ 2000) ∧ (0 ≤ rd.toInt ∧ rd.toInt ≤ 500) then (ciL x y ik op rd.toNatClampNeg (ciM rd.toNatClampNeg 502 0)).foldl (layG w h bx0 by0 bx1 by1 wy) g else g))), (h0, .inr (8, [.ref s1, .ref s2, .ref s3, .ref s4, .ref s5, .ref s6, .int ds, va_rf sp, va_rf bt])), (s1, .inl (cO, 4, .inr (.inr (.inr (.inr f)))))] H := by rw [if_neg hn9]; exact hP
      have hD : va_D A [(s2, .inr (1, [.ref bx, .int ik, .int wy, .int op])), (bx, .inr (0, [.int bx0, .int by0, .int bx1, .int by1])), (t0, .inr (5, [.ref d0, .int w, .int h])), (d0, .inl (cI, 4096, .inl (if (-2000 ≤ x.toInt ∧ x.toInt ≤ 2000) ∧ (-2000 ≤ y.toInt ∧ y.toInt ≤ 2000) ∧ (0 ≤ rd.toInt ∧ rd.toInt ≤ 500) then (ciL x y ik op rd.toNatClampNeg (ciM rd.toNatClampNeg 502 0)).foldl (layG w h bx0 by0 bx1 by1 wy) g else g))), (h0, .inr (8, [.ref s1, .ref s2, .ref s3, .ref s4, .ref s5, .ref s6, .int ds, va_rf sp, va_rf bt])), (s1, .inl (cO, 4, .inr (.inr (.inr (.inr f)))))] := by rw [if_neg hn9]; exact hD
      have hP9 := hP.sub (ws' := [(h0, .inr (8, [.ref s1, .ref s2, .ref s3, .ref s4, .ref s5, .ref s6, .int ds, va_rf sp, va_rf bt])), (s1, .inl (cO, 4, .inr (.inr (.inr (.inr f))))), (s2, .inr (1, [.ref bx, .int ik, .int wy, .int op])), (bx, .inr (0, [.int bx0, .int by0, .int bx1, .int by1])), (t0, .inr (5, [.ref d0, .int w, .int h])), (d0, .inl (cI, 4096, .inl (if (-2000 ≤ x.toInt ∧ x.toInt ≤ 2000) ∧ (-2000 ≤ y.toInt ∧ y.toInt ≤ 2000) ∧ (0 ≤ rd.toInt ∧ rd.toInt ≤ 500) then (ciL x y ik op rd.toNatClampNeg (ciM rd.toNatClampNeg 502 0)).foldl (layG w h bx0 by0 bx1 by1 wy) g else g)))]) [4, 5, 0, 1, 2, 3] rfl
      have hD9 := hD.sub (ws' := [(h0, .inr (8, [.ref s1, .ref s2, .ref s3, .ref s4, .ref s5, .ref s6, .int ds, va_rf sp, va_rf bt])), (s1, .inl (cO, 4, .inr (.inr (.inr (.inr f))))), (s2, .inr (1, [.ref bx, .int ik, .int wy, .int op])), (bx, .inr (0, [.int bx0, .int by0, .int bx1, .int by1])), (t0, .inr (5, [.ref d0, .int w, .int h])), (d0, .inl (cI, 4096, .inl (if (-2000 ≤ x.toInt ∧ x.toInt ≤ 2000) ∧ (-2000 ≤ y.toInt ∧ y.toInt ≤ 2000) ∧ (0 ≤ rd.toInt ∧ rd.toInt ≤ 500) then (ciL x y ik op rd.toNatClampNeg (ciM rd.toNatClampNeg 502 0)).foldl (layG w h bx0 by0 bx1 by1 wy) g else g)))]) [4, 5, 0, 1, 2, 3] (by decide) rfl
      have hK9 := hK.sub (tys' := [(cO, .object "DotBench$Sheet"), (cI, .int)]) [0, 1] rfl
      refine hQ _ _ _ _ _ ?_
      exact W.iret (v := (-1)) hx hb hr (fun t ht hW => ⟨⟨(-1), (), rfl, (if_neg (by omega)).symm, ⟨by rw [ht]; exact hP9, va_K.moved hW.alike hK9, hD9⟩⟩, hS.F ht⟩) hS.2.2 dX8_circle_45
    · skip
      have f_7 := bz1 hr_5 c_6
      refine lv_iload hx hb dX8_circle_32 (lv_at hl 5 rfl) ?_
      refine lv_iconst (v := 0) hx hb dX8_circle_34 (by decide) ?_
      refine lv_sipush (v := 500) hx hb dX8_circle_35 (by decide) ?_
      have hPc := hP.sub (ws' := []) [] rfl
      have hDc := hD.sub (ws' := []) [] (by decide) rfl
      have hKc := hK.sub (tys' := []) [] rfl
      have hFc := va_free (wc := []) hD hS hA [] rfl
      refine va_calli (va_runS (As := [.int rd, .int 0, .int 500]) (rest := []) ⟨hx, hb, hml, hown, hts⟩ (k_X8_isWithin l D H.size rd 0 500 0 500 (by decide) (by decide)) (va_cwS 3 hts (gS bw_256 bw_349 bw_223 bw_348) rfl rfl rfl (by decide +kernel) ⟨(by rw [hR]; exact Nat.le_of_ble_eq_true rfl), (by rw [hR]; exact Nat.le_of_ble_eq_true rfl)⟩) ⟨cP_blind, cP_at hPc hKc hDc hN⟩ rfl rfl hl.1 rfl (lv_room (Nat.le_of_ble_eq_true rfl)) dX8_circle_38 ⟨(by rw [hR]; exact Nat.le_of_ble_eq_true rfl), (by rw [hR]; exact Nat.le_of_ble_eq_true rfl)⟩) hS (fun q _ h => hFc q h) hFc (fun r_8 u9 t9 H1 locs ht hvm hr_8 hB hz1 hk1 hS => ?_)
      try dsimp only at hr_8
      have hP1 : va_P D vwCl [] H1 := vP_nil
      have hD1 : va_D (va_A [] H.size) [] := vD_nil
      obtain ⟨hP, hD⟩ := va_join (wr := [(s2, .inr (1, [.ref bx, .int ik, .int wy, .int op])), (bx, .inr (0, [.int bx0, .int by0, .int bx1, .int by1])), (t0, .inr (5, [.ref d0, .int w, .int h])), (d0, .inl (cI, 4096, .inl g)), (h0, .inr (8, [.ref s1, .ref s2, .ref s3, .ref s4, .ref s5, .ref s6, .int ds, va_rf sp, va_rf bt])), (s1, .inl (cO, 4, .inr (.inr (.inr (.inr f)))))]) (w1 := []) hP hD [] [0, 1, 2, 3, 4, 5] rfl rfl (by decide) (by decide) hk1 hFc hP1 hD1
      clear hz1 hk1 hFc hKc hDc hPc
      generalize H1 = H at hP hS ⊢
      have hP : va_P D vwCl [(s2, .inr (1, [.ref bx, .int ik, .int wy, .int op])), (bx, .inr (0, [.int bx0, .int by0, .int bx1, .int by1])), (t0, .inr (5, [.ref d0, .int w, .int h])), (d0, .inl (cI, 4096, .inl g)), (h0, .inr (8, [.ref s1, .ref s2, .ref s3, .ref s4, .ref s5, .ref s6, .int ds, va_rf sp, va_rf bt])), (s1, .inl (cO, 4, .inr (.inr (.inr (.inr f)))))] H := hP
      have hD : va_D A [(s2, .inr (1, [.ref bx, .int ik, .int wy, .int op])), (bx, .inr (0, [.int bx0, .int by0, .int bx1, .int by1])), (t0, .inr (5, [.ref d0, .int w, .int h])), (d0, .inl (cI, 4096, .inl g)), (h0, .inr (8, [.ref s1, .ref s2, .ref s3, .ref s4, .ref s5, .ref s6, .int ds, va_rf sp, va_rf bt])), (s1, .inl (cO, 4, .inr (.inr (.inr (.inr f)))))] := hD
      refine lv_if_ne (tgt := 46) hx hb dX8_circle_41 (by decide) (fun c_9 => ?_) (fun c_9 => ?_)
      · skip
        have f_10 := bz1 hr_8 c_9
        obtain ⟨R9, hR9, eR⟩ := i_of (x := rd) (N := 501) (by omega) (by omega) (by decide)
        have eRn : rd.toNatClampNeg = R9 := by rw [eR]; exact nI_clamp (by omega)
        have hRt : rd.toInt = (R9 : Int) := by rw [eR]; exact nI_toInt (by omega)
        refine lv_iconst (v := 0) hx hb dX8_circle_46 (by decide) ?_
        refine lv_istore (lv' := [(6, .int 0), (5, .ref t0), (0, .ref h0), (1, .int k), (2, .int x), (3, .int y), (4, .int rd)]) hx hb dX8_circle_47 hl (by decide) rfl (fun ls hl => ?_)
        refine lv_iload hx hb dX8_circle_49 (lv_at hl 6 rfl) ?_
        refine lv_istore (lv' := [(7, .int rd), (6, .int 0), (5, .ref t0), (0, .ref h0), (1, .int k), (2, .int x), (3, .int y), (4, .int rd)]) hx hb dX8_circle_51 hl (by decide) rfl (fun ls hl => ?_)
        refine lv_iconst (v := 0) hx hb dX8_circle_53 (by decide) ?_
        refine lv_istore (lv' := [(8, .int 0), (7, .int rd), (6, .int 0), (5, .ref t0), (0, .ref h0), (1, .int k), (2, .int x), (3, .int y), (4, .int rd)]) hx hb dX8_circle_54 hl (by decide) rfl (fun ls hl => ?_)
        have loop_11 : ∀ (n : Nat) (i : Nat) (x8 : Int32) (x7 : Int32) (x6 : Int32) (gg : Nat → Int32) (H : Heap) (locs : List Loc) (ls : Array Slot), (i ≤ R9 + 1) → (R9 + 2 ≤ i + n) → (x8 = nI i) → (x7 = nI (ciB R9 i)) → (ciM R9 (502 - i) i = ciM R9 502 0) → (gg = (ciL x y ik op R9 i).foldl (layG w h bx0 by0 bx1 by1 wy) g) → (x6 = (ciL x y ik op R9 i).foldl (layT w h bx0 by0 bx1 by1) 0) → va_P D vwCl [(s2, .inr (1, [.ref bx, .int ik, .int wy, .int op])), (bx, .inr (0, [.int bx0, .int by0, .int bx1, .int by1])), (t0, .inr (5, [.ref d0, .int w, .int h])), (d0, .inl (cI, 4096, .inl gg)), (h0, .inr (8, [.ref s1, .ref s2, .ref s3, .ref s4, .ref s5, .ref s6, .int ds, va_rf sp, va_rf bt])), (s1, .inl (cO, 4, .inr (.inr (.inr (.inr f)))))] H → va_D A [(s2, .inr (1, [.ref bx, .int ik, .int wy, .int op])), (bx, .inr (0, [.int bx0, .int by0, .int bx1, .int by1])), (t0, .inr (5, [.ref d0, .int w, .int h])), (d0, .inl (cI, 4096, .inl gg)), (h0, .inr (8, [.ref s1, .ref s2, .ref s3, .ref s4, .ref s5, .ref s6, .int ds, va_rf sp, va_rf bt])), (s1, .inl (cO, 4, .inr (.inr (.inr (.inr f)))))] → va_S A s.heap H locs → lv_has ls 9 [(8, .int x8), (7, .int x7), (6, .int x6), (5, .ref t0), (0, .ref h0), (1, .int k), (2, .int x), (3, .int y), (4, .int rd)] → W p l e R s m ([.ref h0, .int k, .int x, .int y, .int rd] : List Value).toArray below meth c H locs 0 0 Q (F0 m 56 ls []) := by
          intro n
          induction n with
          | zero =>
            intro i x8 x7 x6 gg H locs ls hi hm ex eb he hg et hP hD hS hl
            exact absurd (show False by omega) not_false
          | succ n ih_12 =>
            intro i x8 x7 x6 gg H locs ls hi hm ex eb he hg et hP hD hS hl
            have hxi : x8.toInt = (i : Int) := by rw [ex]; exact nI_toInt (by omega)
            refine lv_iload hx hb dX8_circle_56 (lv_at hl 0 rfl) ?_
            refine lv_iload hx hb dX8_circle_58 (lv_at hl 8 rfl) ?_
            refine lv_icmp_gt (tgt := 138) hx hb dX8_circle_60 (by decide) (fun c_13 => ?_) (fun c_13 => ?_)
            · skip
              have f_14 : (R9 : Int) < (i : Int) := f_lt hRt hxi c_13
              refine lv_iload hx hb dX8_circle_138 (lv_at hl 2 rfl) ?_
              have hn9 : (-2000 ≤ x.toInt ∧ x.toInt ≤ 2000) ∧ (-2000 ≤ y.toInt ∧ y.toInt ≤ 2000) ∧ (0 ≤ rd.toInt ∧ rd.toInt ≤ 500) := by omega
              have hmm : ciM R9 502 0 = i := he.symm.trans (ciM_stop (by omega) (by omega))
              have hP : va_P D vwCl [(s2, .inr (1, [.ref bx, .int ik, .int wy, .int op])), (bx, .inr (0, [.int bx0, .int by0, .int bx1, .int by1])), (t0, .inr (5, [.ref d0, .int w, .int h])), (d0, .inl (cI, 4096, .inl (if (-2000 ≤ x.toInt ∧ x.toInt ≤ 2000) ∧ (-2000 ≤ y.toInt ∧ y.toInt ≤ 2000) ∧ (0 ≤ rd.toInt ∧ rd.toInt ≤ 500) then (ciL x y ik op rd.toNatClampNeg (ciM rd.toNatClampNeg 502 0)).foldl (layG w h bx0 by0 bx1 by1 wy) g else g))), (h0, .inr (8, [.ref s1, .ref s2, .ref s3, .ref s4, .ref s5, .ref s6, .int ds, va_rf sp, va_rf bt])), (s1, .inl (cO, 4, .inr (.inr (.inr (.inr f)))))] H := by rw [if_pos hn9, eRn, hmm, ← hg]; exact hP
              have hD : va_D A [(s2, .inr (1, [.ref bx, .int ik, .int wy, .int op])), (bx, .inr (0, [.int bx0, .int by0, .int bx1, .int by1])), (t0, .inr (5, [.ref d0, .int w, .int h])), (d0, .inl (cI, 4096, .inl (if (-2000 ≤ x.toInt ∧ x.toInt ≤ 2000) ∧ (-2000 ≤ y.toInt ∧ y.toInt ≤ 2000) ∧ (0 ≤ rd.toInt ∧ rd.toInt ≤ 500) then (ciL x y ik op rd.toNatClampNeg (ciM rd.toNatClampNeg 502 0)).foldl (layG w h bx0 by0 bx1 by1 wy) g else g))), (h0, .inr (8, [.ref s1, .ref s2, .ref s3, .ref s4, .ref s5, .ref s6, .int ds, va_rf sp, va_rf bt])), (s1, .inl (cO, 4, .inr (.inr (.inr (.inr f)))))] := by rw [if_pos hn9, eRn, hmm, ← hg]; exact hD
              have hP9 := hP.sub (ws' := [(h0, .inr (8, [.ref s1, .ref s2, .ref s3, .ref s4, .ref s5, .ref s6, .int ds, va_rf sp, va_rf bt])), (s1, .inl (cO, 4, .inr (.inr (.inr (.inr f))))), (s2, .inr (1, [.ref bx, .int ik, .int wy, .int op])), (bx, .inr (0, [.int bx0, .int by0, .int bx1, .int by1])), (t0, .inr (5, [.ref d0, .int w, .int h])), (d0, .inl (cI, 4096, .inl (if (-2000 ≤ x.toInt ∧ x.toInt ≤ 2000) ∧ (-2000 ≤ y.toInt ∧ y.toInt ≤ 2000) ∧ (0 ≤ rd.toInt ∧ rd.toInt ≤ 500) then (ciL x y ik op rd.toNatClampNeg (ciM rd.toNatClampNeg 502 0)).foldl (layG w h bx0 by0 bx1 by1 wy) g else g)))]) [4, 5, 0, 1, 2, 3] rfl
              have hD9 := hD.sub (ws' := [(h0, .inr (8, [.ref s1, .ref s2, .ref s3, .ref s4, .ref s5, .ref s6, .int ds, va_rf sp, va_rf bt])), (s1, .inl (cO, 4, .inr (.inr (.inr (.inr f))))), (s2, .inr (1, [.ref bx, .int ik, .int wy, .int op])), (bx, .inr (0, [.int bx0, .int by0, .int bx1, .int by1])), (t0, .inr (5, [.ref d0, .int w, .int h])), (d0, .inl (cI, 4096, .inl (if (-2000 ≤ x.toInt ∧ x.toInt ≤ 2000) ∧ (-2000 ≤ y.toInt ∧ y.toInt ≤ 2000) ∧ (0 ≤ rd.toInt ∧ rd.toInt ≤ 500) then (ciL x y ik op rd.toNatClampNeg (ciM rd.toNatClampNeg 502 0)).foldl (layG w h bx0 by0 bx1 by1 wy) g else g)))]) [4, 5, 0, 1, 2, 3] (by decide) rfl
              have hK9 := hK.sub (tys' := [(cO, .object "DotBench$Sheet"), (cI, .int)]) [0, 1] rfl
              refine hQ _ _ _ _ _ ?_
              exact W.iret (v := x6) hx hb hr (fun t ht hW => ⟨⟨x6, (), rfl, (by rw [if_pos hn9, eRn, hmm]; exact et), ⟨by rw [ht]; exact hP9, va_K.moved hW.alike hK9, hD9⟩⟩, hS.F ht⟩) hS.2.2 dX8_circle_140
            · skip
              have f_14 : ¬ ((R9 : Int) < (i : Int)) := fn_lt hRt hxi c_13
              refine lv_iload hx hb dX8_circle_63 (lv_at hl 8 rfl) ?_
              refine lv_iload hx hb dX8_circle_65 (lv_at hl 8 rfl) ?_
              refine lv_imul hx hb dX8_circle_67 ?_
              refine lv_topi (fun y_15 ey_15 => ?_)
              refine lv_iload hx hb dX8_circle_68 (lv_at hl 0 rfl) ?_
              refine lv_iload hx hb dX8_circle_70 (lv_at hl 0 rfl) ?_
              refine lv_imul hx hb dX8_circle_72 ?_
              refine lv_topi (fun y_16 ey_16 => ?_)
              refine lv_isub hx hb dX8_circle_73 ?_
              refine lv_topi (fun y_17 ey_17 => ?_)
              refine lv_iload hx hb dX8_circle_74 (lv_at hl 1 rfl) ?_
              have hrs : y_17.toInt = ((R9 * R9 - i * i : Nat) : Int) := by rw [ey_17, ey_15, ey_16, eR, ex]; exact (rs_nI (by omega) (by omega)).2
              have hPc := hP.sub (ws' := []) [] rfl
              have hDc := hD.sub (ws' := []) [] (by decide) rfl
              have hKc := hK.sub (tys' := []) [] rfl
              have hFc := va_free (wc := []) hD hS hA [] rfl
              refine va_calli (va_runS (As := [.int y_17, .int x7]) (rest := []) ⟨hx, hb, hml, hown, hts⟩ (k_X8_nearestRoot l D H.size y_17 x7 (R9 * R9 - i * i) (ciB R9 i) hrs eb (Nat.le_trans (ciB_le R9 i) (by omega))) (va_cwS 2 hts (gS bw_280 bw_369 bw_223 bw_368) rfl rfl rfl (by decide +kernel) ⟨(by rw [hR]; exact Nat.le_of_ble_eq_true rfl), (by rw [hR]; exact Nat.le_of_ble_eq_true rfl)⟩) ⟨cP_blind, cP_at hPc hKc hDc hN⟩ rfl rfl hl.1 rfl (lv_room (Nat.le_of_ble_eq_true rfl)) dX8_circle_76 ⟨(by rw [hR]; exact Nat.le_of_ble_eq_true rfl), (by rw [hR]; exact Nat.le_of_ble_eq_true rfl)⟩) hS (fun q _ h => hFc q h) hFc (fun r_18 u9 t9 H1 locs ht hvm hr_18 hB hz1 hk1 hS => ?_)
              try dsimp only at hr_18
              have hP1 : va_P D vwCl [] H1 := vP_nil
              have hD1 : va_D (va_A [] H.size) [] := vD_nil
              obtain ⟨hP, hD⟩ := va_join (wr := [(s2, .inr (1, [.ref bx, .int ik, .int wy, .int op])), (bx, .inr (0, [.int bx0, .int by0, .int bx1, .int by1])), (t0, .inr (5, [.ref d0, .int w, .int h])), (d0, .inl (cI, 4096, .inl gg)), (h0, .inr (8, [.ref s1, .ref s2, .ref s3, .ref s4, .ref s5, .ref s6, .int ds, va_rf sp, va_rf bt])), (s1, .inl (cO, 4, .inr (.inr (.inr (.inr f)))))]) (w1 := []) hP hD [] [0, 1, 2, 3, 4, 5] rfl rfl (by decide) (by decide) hk1 hFc hP1 hD1
              clear hz1 hk1 hFc hKc hDc hPc
              generalize H1 = H at hP hS ⊢
              have hP : va_P D vwCl [(s2, .inr (1, [.ref bx, .int ik, .int wy, .int op])), (bx, .inr (0, [.int bx0, .int by0, .int bx1, .int by1])), (t0, .inr (5, [.ref d0, .int w, .int h])), (d0, .inl (cI, 4096, .inl gg)), (h0, .inr (8, [.ref s1, .ref s2, .ref s3, .ref s4, .ref s5, .ref s6, .int ds, va_rf sp, va_rf bt])), (s1, .inl (cO, 4, .inr (.inr (.inr (.inr f)))))] H := hP
              have hD : va_D A [(s2, .inr (1, [.ref bx, .int ik, .int wy, .int op])), (bx, .inr (0, [.int bx0, .int by0, .int bx1, .int by1])), (t0, .inr (5, [.ref d0, .int w, .int h])), (d0, .inl (cI, 4096, .inl gg)), (h0, .inr (8, [.ref s1, .ref s2, .ref s3, .ref s4, .ref s5, .ref s6, .int ds, va_rf sp, va_rf bt])), (s1, .inl (cO, 4, .inr (.inr (.inr (.inr f)))))] := hD
              have hr_18b : r_18 = nI (ciB R9 (i + 1)) := hr_18
              have hr_18l := ciB_le R9 (i + 1)
              have hr_18t : r_18.toInt = ((ciB R9 (i + 1) : Nat) : Int) := by rw [hr_18b]; exact nI_toInt (by omega)
              refine lv_istore (lv' := [(7, .int r_18), (8, .int x8), (6, .int x6), (5, .ref t0), (0, .ref h0), (1, .int k), (2, .int x), (3, .int y), (4, .int rd)]) hx hb dX8_circle_79 hl (by decide) rfl (fun ls hl => ?_)
              refine lv_iload hx hb dX8_circle_81 (lv_at hl 1 rfl) ?_
              refine lv_iload hx hb dX8_circle_83 (lv_at hl 0 rfl) ?_
              refine lv_icmp_le (tgt := 91) hx hb dX8_circle_85 (by decide) (fun c_19 => ?_) (fun c_19 => ?_)
              · skip
                have f_20 : (i : Int) ≤ ((ciB R9 (i + 1) : Nat) : Int) := f_le hxi hr_18t c_19
                refine lv_iload hx hb dX8_circle_91 (lv_at hl 2 rfl) ?_
                refine lv_aload_n hx hb dX8_circle_93 rfl (lv_at hl 4 rfl) ?_
                refine lv_aload hx hb dX8_circle_94 (lv_at hl 3 rfl) ?_
                refine lv_iload_n hx hb dX8_circle_96 rfl (lv_at hl 6 rfl) ?_
                refine lv_iload_n hx hb dX8_circle_97 rfl (lv_at hl 7 rfl) ?_
                refine lv_iload hx hb dX8_circle_98 (lv_at hl 1 rfl) ?_
                refine lv_iload hx hb dX8_circle_100 (lv_at hl 0 rfl) ?_
                have hPc := hP.sub (ws' := [(h0, .inr (8, [.ref s1, .ref s2, .ref s3, .ref s4, .ref s5, .ref s6, .int ds, va_rf sp, va_rf bt])), (s2, .inr (1, [.ref bx, .int ik, .int wy, .int op])), (bx, .inr (0, [.int bx0, .int by0, .int bx1, .int by1])), (t0, .inr (5, [.ref d0, .int w, .int h])), (d0, .inl (cI, 4096, .inl gg))]) [4, 0, 1, 2, 3] rfl
                have hDc := hD.sub (ws' := [(h0, .inr (8, [.ref s1, .ref s2, .ref s3, .ref s4, .ref s5, .ref s6, .int ds, va_rf sp, va_rf bt])), (s2, .inr (1, [.ref bx, .int ik, .int wy, .int op])), (bx, .inr (0, [.int bx0, .int by0, .int bx1, .int by1])), (t0, .inr (5, [.ref d0, .int w, .int h])), (d0, .inl (cI, 4096, .inl gg))]) [4, 0, 1, 2, 3] (by decide) rfl
                have hKc := hK.sub (tys' := [(cI, .int)]) [1] rfl
                have hFc := va_free (wc := [(h0, .inr (8, [.ref s1, .ref s2, .ref s3, .ref s4, .ref s5, .ref s6, .int ds, va_rf sp, va_rf bt])), (s2, .inr (1, [.ref bx, .int ik, .int wy, .int op])), (bx, .inr (0, [.int bx0, .int by0, .int bx1, .int by1])), (t0, .inr (5, [.ref d0, .int w, .int h])), (d0, .inl (cI, 4096, .inl gg))]) hD hS hA [4, 0, 1, 2, 3] rfl
                refine va_calli (va_runV (As := [.ref t0, .int x, .int y, .int x8, .int r_18]) (rest := [.int x6]) ⟨hx, hb, hml, hown, hts⟩ (k_X8_layMirrored l D H.size h0 s1 s2 s3 s4 s5 s6 ds sp bt bx t0 d0 ik wy op bx0 by0 bx1 by1 w h gg x y x8 r_18 cI (by first | assumption | omega | decide) (by first | assumption | omega | decide) (by first | assumption | omega | decide)) (cwV 5 hts (gV bw_281 bw_371 bw_372 bw_223 bw_370) rfl rfl rfl (by decide +kernel) ⟨(by rw [hR]; exact Nat.le_of_ble_eq_true rfl), (by rw [hR]; exact Nat.le_of_ble_eq_true rfl)⟩) ⟨cP_blind, va_recv hKc hPc (ci := 8) (q0 := 0) rfl rfl, cP_at hPc hKc hDc hN⟩ rfl rfl hl.1 rfl (lv_room (Nat.le_of_ble_eq_true rfl)) dX8_circle_102 ⟨(by rw [hR]; exact Nat.le_of_ble_eq_true rfl), (by rw [hR]; exact Nat.le_of_ble_eq_true rfl)⟩) hS (fun q _ h => hFc q h) hFc (fun r_21 u9 t9 H1 locs ht hvm hr_21 hB hz1 hk1 hS => ?_)
                try dsimp only at hr_21
                obtain ⟨hP1, hK1, hD1⟩ := hB
                rw [ht] at hP1
                obtain ⟨hP, hD⟩ := va_join (wr := [(s1, .inl (cO, 4, .inr (.inr (.inr (.inr f)))))]) (w1 := [(h0, .inr (8, [.ref s1, .ref s2, .ref s3, .ref s4, .ref s5, .ref s6, .int ds, va_rf sp, va_rf bt])), (s2, .inr (1, [.ref bx, .int ik, .int wy, .int op])), (bx, .inr (0, [.int bx0, .int by0, .int bx1, .int by1])), (t0, .inr (5, [.ref d0, .int w, .int h])), (d0, .inl (cI, 4096, .inl ((miQ x y x8 r_18 ik op).foldl (layG w h bx0 by0 bx1 by1 wy) gg)))]) hP hD [4, 0, 1, 2, 3] [5] rfl rfl (by decide) (by decide) hk1 hFc hP1 hD1
                clear hz1 hk1 hFc hKc hDc hPc
                generalize H1 = H at hP hS ⊢
                have hP : va_P D vwCl [(s1, .inl (cO, 4, .inr (.inr (.inr (.inr f))))), (h0, .inr (8, [.ref s1, .ref s2, .ref s3, .ref s4, .ref s5, .ref s6, .int ds, va_rf sp, va_rf bt])), (s2, .inr (1, [.ref bx, .int ik, .int wy, .int op])), (bx, .inr (0, [.int bx0, .int by0, .int bx1, .int by1])), (t0, .inr (5, [.ref d0, .int w, .int h])), (d0, .inl (cI, 4096, .inl ((miQ x y x8 r_18 ik op).foldl (layG w h bx0 by0 bx1 by1 wy) gg)))] H := hP
                have hD : va_D A [(s1, .inl (cO, 4, .inr (.inr (.inr (.inr f))))), (h0, .inr (8, [.ref s1, .ref s2, .ref s3, .ref s4, .ref s5, .ref s6, .int ds, va_rf sp, va_rf bt])), (s2, .inr (1, [.ref bx, .int ik, .int wy, .int op])), (bx, .inr (0, [.int bx0, .int by0, .int bx1, .int by1])), (t0, .inr (5, [.ref d0, .int w, .int h])), (d0, .inl (cI, 4096, .inl ((miQ x y x8 r_18 ik op).foldl (layG w h bx0 by0 bx1 by1 wy) gg)))] := hD
                refine lv_iadd hx hb dX8_circle_105 ?_
                refine lv_topi (fun y_22 ey_22 => ?_)
                refine lv_istore (lv' := [(6, .int y_22), (7, .int r_18), (8, .int x8), (5, .ref t0), (0, .ref h0), (1, .int k), (2, .int x), (3, .int y), (4, .int rd)]) hx hb dX8_circle_106 hl (by decide) rfl (fun ls hl => ?_)
                refine lv_iload hx hb dX8_circle_108 (lv_at hl 2 rfl) ?_
                refine lv_iload hx hb dX8_circle_110 (lv_at hl 1 rfl) ?_
                refine lv_icmp_eq (tgt := 132) hx hb dX8_circle_112 (by decide) (fun c_23 => ?_) (fun c_23 => ?_)
                · skip
                  have f_24 : (i : Int) = ((ciB R9 (i + 1) : Nat) : Int) := f_eq hxi hr_18t c_23
                  obtain ⟨y_25, ey_25⟩ : ∃ y : Int32, y = x8 + 1 := ⟨_, rfl⟩
                  refine lv_iinc (v := y_25) (lv' := [(8, .int y_25), (6, .int y_22), (7, .int r_18), (5, .ref t0), (0, .ref h0), (1, .int k), (2, .int x), (3, .int y), (4, .int rd)]) hx hb dX8_circle_132 hl (k := 2) rfl (by rw [ey_25]; rfl) (by decide) rfl (fun ls hl => ?_)
                  refine lv_goto (tgt := 56) hx hb dX8_circle_135 (by decide) ?_
                  exact ih_12 (i + 1) y_25 r_18 y_22 ((miQ x y x8 r_18 ik op).foldl (layG w h bx0 by0 bx1 by1 wy) gg) _ _ _ (by omega) (by omega) (by rw [ey_25, ex]; exact nI_1 i) hr_18b (ciM_next he (by omega) (by omega)) (by rw [show ciL x y ik op R9 (i + 1) = ciL x y ik op R9 i ++ (miQ x y x8 r_18 ik op ++ []) by show ciL x y ik op R9 i ++ (miQ x y (nI i) (nI (ciB R9 (i + 1))) ik op ++ (if i = ciB R9 (i + 1) then [] else miQ x y (nI (ciB R9 (i + 1))) (nI i) ik op)) = _; rw [if_pos (by omega), ex, hr_18b], List.append_nil, List.foldl_append, ← hg]) (by rw [show ciL x y ik op R9 (i + 1) = ciL x y ik op R9 i ++ (miQ x y x8 r_18 ik op ++ []) by show ciL x y ik op R9 i ++ (miQ x y (nI i) (nI (ciB R9 (i + 1))) ik op ++ (if i = ciB R9 (i + 1) then [] else miQ x y (nI (ciB R9 (i + 1))) (nI i) ik op)) = _; rw [if_pos (by omega), ex, hr_18b], List.append_nil, List.foldl_append, ← et, layT_add, ey_22, hr_21]) (hP.sub (ws' := [(s2, .inr (1, [.ref bx, .int ik, .int wy, .int op])), (bx, .inr (0, [.int bx0, .int by0, .int bx1, .int by1])), (t0, .inr (5, [.ref d0, .int w, .int h])), (d0, .inl (cI, 4096, .inl ((miQ x y x8 r_18 ik op).foldl (layG w h bx0 by0 bx1 by1 wy) gg))), (h0, .inr (8, [.ref s1, .ref s2, .ref s3, .ref s4, .ref s5, .ref s6, .int ds, va_rf sp, va_rf bt])), (s1, .inl (cO, 4, .inr (.inr (.inr (.inr f)))))]) [2, 3, 4, 5, 1, 0] rfl) (hD.sub (ws' := [(s2, .inr (1, [.ref bx, .int ik, .int wy, .int op])), (bx, .inr (0, [.int bx0, .int by0, .int bx1, .int by1])), (t0, .inr (5, [.ref d0, .int w, .int h])), (d0, .inl (cI, 4096, .inl ((miQ x y x8 r_18 ik op).foldl (layG w h bx0 by0 bx1 by1 wy) gg))), (h0, .inr (8, [.ref s1, .ref s2, .ref s3, .ref s4, .ref s5, .ref s6, .int ds, va_rf sp, va_rf bt])), (s1, .inl (cO, 4, .inr (.inr (.inr (.inr f)))))]) [2, 3, 4, 5, 1, 0] (by decide) rfl) hS (lv_sub hl [0, 2, 1, 3, 4, 5, 6, 7, 8] rfl)
                · skip
                  have f_24 : ¬ ((i : Int) = ((ciB R9 (i + 1) : Nat) : Int)) := fn_eq hxi hr_18t c_23
                  refine lv_iload hx hb dX8_circle_115 (lv_at hl 0 rfl) ?_
                  refine lv_aload_n hx hb dX8_circle_117 rfl (lv_at hl 4 rfl) ?_
                  refine lv_aload hx hb dX8_circle_118 (lv_at hl 3 rfl) ?_
                  refine lv_iload_n hx hb dX8_circle_120 rfl (lv_at hl 6 rfl) ?_
                  refine lv_iload_n hx hb dX8_circle_121 rfl (lv_at hl 7 rfl) ?_
                  refine lv_iload hx hb dX8_circle_122 (lv_at hl 1 rfl) ?_
                  refine lv_iload hx hb dX8_circle_124 (lv_at hl 2 rfl) ?_
                  have hPc := hP.sub (ws' := [(h0, .inr (8, [.ref s1, .ref s2, .ref s3, .ref s4, .ref s5, .ref s6, .int ds, va_rf sp, va_rf bt])), (s2, .inr (1, [.ref bx, .int ik, .int wy, .int op])), (bx, .inr (0, [.int bx0, .int by0, .int bx1, .int by1])), (t0, .inr (5, [.ref d0, .int w, .int h])), (d0, .inl (cI, 4096, .inl ((miQ x y x8 r_18 ik op).foldl (layG w h bx0 by0 bx1 by1 wy) gg)))]) [1, 2, 3, 4, 5] rfl
                  have hDc := hD.sub (ws' := [(h0, .inr (8, [.ref s1, .ref s2, .ref s3, .ref s4, .ref s5, .ref s6, .int ds, va_rf sp, va_rf bt])), (s2, .inr (1, [.ref bx, .int ik, .int wy, .int op])), (bx, .inr (0, [.int bx0, .int by0, .int bx1, .int by1])), (t0, .inr (5, [.ref d0, .int w, .int h])), (d0, .inl (cI, 4096, .inl ((miQ x y x8 r_18 ik op).foldl (layG w h bx0 by0 bx1 by1 wy) gg)))]) [1, 2, 3, 4, 5] (by decide) rfl
                  have hKc := hK.sub (tys' := [(cI, .int)]) [1] rfl
                  have hFc := va_free (wc := [(h0, .inr (8, [.ref s1, .ref s2, .ref s3, .ref s4, .ref s5, .ref s6, .int ds, va_rf sp, va_rf bt])), (s2, .inr (1, [.ref bx, .int ik, .int wy, .int op])), (bx, .inr (0, [.int bx0, .int by0, .int bx1, .int by1])), (t0, .inr (5, [.ref d0, .int w, .int h])), (d0, .inl (cI, 4096, .inl ((miQ x y x8 r_18 ik op).foldl (layG w h bx0 by0 bx1 by1 wy) gg)))]) hD hS hA [1, 2, 3, 4, 5] rfl
                  refine va_calli (va_runV (As := [.ref t0, .int x, .int y, .int r_18, .int x8]) (rest := [.int y_22]) ⟨hx, hb, hml, hown, hts⟩ (k_X8_layMirrored l D H.size h0 s1 s2 s3 s4 s5 s6 ds sp bt bx t0 d0 ik wy op bx0 by0 bx1 by1 w h ((miQ x y x8 r_18 ik op).foldl (layG w h bx0 by0 bx1 by1 wy) gg) x y r_18 x8 cI (by first | assumption | omega | decide) (by first | assumption | omega | decide) (by first | assumption | omega | decide)) (cwV 5 hts (gV bw_281 bw_371 bw_372 bw_223 bw_370) rfl rfl rfl (by decide +kernel) ⟨(by rw [hR]; exact Nat.le_of_ble_eq_true rfl), (by rw [hR]; exact Nat.le_of_ble_eq_true rfl)⟩) ⟨cP_blind, va_recv hKc hPc (ci := 8) (q0 := 0) rfl rfl, cP_at hPc hKc hDc hN⟩ rfl rfl hl.1 rfl (lv_room (Nat.le_of_ble_eq_true rfl)) dX8_circle_126 ⟨(by rw [hR]; exact Nat.le_of_ble_eq_true rfl), (by rw [hR]; exact Nat.le_of_ble_eq_true rfl)⟩) hS (fun q _ h => hFc q h) hFc (fun r_26 u9 t9 H1 locs ht hvm hr_26 hB hz1 hk1 hS => ?_)
                  try dsimp only at hr_26
                  obtain ⟨hP1, hK1, hD1⟩ := hB
                  rw [ht] at hP1
                  obtain ⟨hP, hD⟩ := va_join (wr := [(s1, .inl (cO, 4, .inr (.inr (.inr (.inr f)))))]) (w1 := [(h0, .inr (8, [.ref s1, .ref s2, .ref s3, .ref s4, .ref s5, .ref s6, .int ds, va_rf sp, va_rf bt])), (s2, .inr (1, [.ref bx, .int ik, .int wy, .int op])), (bx, .inr (0, [.int bx0, .int by0, .int bx1, .int by1])), (t0, .inr (5, [.ref d0, .int w, .int h])), (d0, .inl (cI, 4096, .inl ((miQ x y r_18 x8 ik op).foldl (layG w h bx0 by0 bx1 by1 wy) ((miQ x y x8 r_18 ik op).foldl (layG w h bx0 by0 bx1 by1 wy) gg))))]) hP hD [1, 2, 3, 4, 5] [0] rfl rfl (by decide) (by decide) hk1 hFc hP1 hD1
                  clear hz1 hk1 hFc hKc hDc hPc
                  generalize H1 = H at hP hS ⊢
                  have hP : va_P D vwCl [(s1, .inl (cO, 4, .inr (.inr (.inr (.inr f))))), (h0, .inr (8, [.ref s1, .ref s2, .ref s3, .ref s4, .ref s5, .ref s6, .int ds, va_rf sp, va_rf bt])), (s2, .inr (1, [.ref bx, .int ik, .int wy, .int op])), (bx, .inr (0, [.int bx0, .int by0, .int bx1, .int by1])), (t0, .inr (5, [.ref d0, .int w, .int h])), (d0, .inl (cI, 4096, .inl ((miQ x y r_18 x8 ik op).foldl (layG w h bx0 by0 bx1 by1 wy) ((miQ x y x8 r_18 ik op).foldl (layG w h bx0 by0 bx1 by1 wy) gg))))] H := hP
                  have hD : va_D A [(s1, .inl (cO, 4, .inr (.inr (.inr (.inr f))))), (h0, .inr (8, [.ref s1, .ref s2, .ref s3, .ref s4, .ref s5, .ref s6, .int ds, va_rf sp, va_rf bt])), (s2, .inr (1, [.ref bx, .int ik, .int wy, .int op])), (bx, .inr (0, [.int bx0, .int by0, .int bx1, .int by1])), (t0, .inr (5, [.ref d0, .int w, .int h])), (d0, .inl (cI, 4096, .inl ((miQ x y r_18 x8 ik op).foldl (layG w h bx0 by0 bx1 by1 wy) ((miQ x y x8 r_18 ik op).foldl (layG w h bx0 by0 bx1 by1 wy) gg))))] := hD
                  refine lv_iadd hx hb dX8_circle_129 ?_
                  refine lv_topi (fun y_27 ey_27 => ?_)
                  refine lv_istore (lv' := [(6, .int y_27), (7, .int r_18), (8, .int x8), (5, .ref t0), (0, .ref h0), (1, .int k), (2, .int x), (3, .int y), (4, .int rd)]) hx hb dX8_circle_130 hl (by decide) rfl (fun ls hl => ?_)
                  obtain ⟨y_28, ey_28⟩ : ∃ y : Int32, y = x8 + 1 := ⟨_, rfl⟩
                  refine lv_iinc (v := y_28) (lv' := [(8, .int y_28), (6, .int y_27), (7, .int r_18), (5, .ref t0), (0, .ref h0), (1, .int k), (2, .int x), (3, .int y), (4, .int rd)]) hx hb dX8_circle_132 hl (k := 2) rfl (by rw [ey_28]; rfl) (by decide) rfl (fun ls hl => ?_)
                  refine lv_goto (tgt := 56) hx hb dX8_circle_135 (by decide) ?_
                  exact ih_12 (i + 1) y_28 r_18 y_27 ((miQ x y r_18 x8 ik op).foldl (layG w h bx0 by0 bx1 by1 wy) ((miQ x y x8 r_18 ik op).foldl (layG w h bx0 by0 bx1 by1 wy) gg)) _ _ _ (by omega) (by omega) (by rw [ey_28, ex]; exact nI_1 i) hr_18b (ciM_next he (by omega) (by omega)) (by rw [show ciL x y ik op R9 (i + 1) = ciL x y ik op R9 i ++ (miQ x y x8 r_18 ik op ++ miQ x y r_18 x8 ik op) by show ciL x y ik op R9 i ++ (miQ x y (nI i) (nI (ciB R9 (i + 1))) ik op ++ (if i = ciB R9 (i + 1) then [] else miQ x y (nI (ciB R9 (i + 1))) (nI i) ik op)) = _; rw [if_neg (by omega), ex, hr_18b], List.foldl_append, List.foldl_append, ← hg]) (by rw [show ciL x y ik op R9 (i + 1) = ciL x y ik op R9 i ++ (miQ x y x8 r_18 ik op ++ miQ x y r_18 x8 ik op) by show ciL x y ik op R9 i ++ (miQ x y (nI i) (nI (ciB R9 (i + 1))) ik op ++ (if i = ciB R9 (i + 1) then [] else miQ x y (nI (ciB R9 (i + 1))) (nI i) ik op)) = _; rw [if_neg (by omega), ex, hr_18b], List.foldl_append, List.foldl_append, ← et, layT_add, layT_add _ x6, ey_27, ey_22, hr_21, hr_26]) (hP.sub (ws' := [(s2, .inr (1, [.ref bx, .int ik, .int wy, .int op])), (bx, .inr (0, [.int bx0, .int by0, .int bx1, .int by1])), (t0, .inr (5, [.ref d0, .int w, .int h])), (d0, .inl (cI, 4096, .inl ((miQ x y r_18 x8 ik op).foldl (layG w h bx0 by0 bx1 by1 wy) ((miQ x y x8 r_18 ik op).foldl (layG w h bx0 by0 bx1 by1 wy) gg)))), (h0, .inr (8, [.ref s1, .ref s2, .ref s3, .ref s4, .ref s5, .ref s6, .int ds, va_rf sp, va_rf bt])), (s1, .inl (cO, 4, .inr (.inr (.inr (.inr f)))))]) [2, 3, 4, 5, 1, 0] rfl) (hD.sub (ws' := [(s2, .inr (1, [.ref bx, .int ik, .int wy, .int op])), (bx, .inr (0, [.int bx0, .int by0, .int bx1, .int by1])), (t0, .inr (5, [.ref d0, .int w, .int h])), (d0, .inl (cI, 4096, .inl ((miQ x y r_18 x8 ik op).foldl (layG w h bx0 by0 bx1 by1 wy) ((miQ x y x8 r_18 ik op).foldl (layG w h bx0 by0 bx1 by1 wy) gg)))), (h0, .inr (8, [.ref s1, .ref s2, .ref s3, .ref s4, .ref s5, .ref s6, .int ds, va_rf sp, va_rf bt])), (s1, .inl (cO, 4, .inr (.inr (.inr (.inr f)))))]) [2, 3, 4, 5, 1, 0] (by decide) rfl) hS (lv_sub hl [0, 2, 1, 3, 4, 5, 6, 7, 8] rfl)
              · skip
                have f_20 : ¬ ((i : Int) ≤ ((ciB R9 (i + 1) : Nat) : Int)) := fn_le hxi hr_18t c_19
                refine lv_goto (tgt := 138) hx hb dX8_circle_88 (by decide) ?_
                refine lv_iload hx hb dX8_circle_138 (lv_at hl 2 rfl) ?_
                have hn9 : (-2000 ≤ x.toInt ∧ x.toInt ≤ 2000) ∧ (-2000 ≤ y.toInt ∧ y.toInt ≤ 2000) ∧ (0 ≤ rd.toInt ∧ rd.toInt ≤ 500) := by omega
                have hmm : ciM R9 502 0 = i := he.symm.trans (ciM_stop (by omega) (by omega))
                have hP : va_P D vwCl [(s2, .inr (1, [.ref bx, .int ik, .int wy, .int op])), (bx, .inr (0, [.int bx0, .int by0, .int bx1, .int by1])), (t0, .inr (5, [.ref d0, .int w, .int h])), (d0, .inl (cI, 4096, .inl (if (-2000 ≤ x.toInt ∧ x.toInt ≤ 2000) ∧ (-2000 ≤ y.toInt ∧ y.toInt ≤ 2000) ∧ (0 ≤ rd.toInt ∧ rd.toInt ≤ 500) then (ciL x y ik op rd.toNatClampNeg (ciM rd.toNatClampNeg 502 0)).foldl (layG w h bx0 by0 bx1 by1 wy) g else g))), (h0, .inr (8, [.ref s1, .ref s2, .ref s3, .ref s4, .ref s5, .ref s6, .int ds, va_rf sp, va_rf bt])), (s1, .inl (cO, 4, .inr (.inr (.inr (.inr f)))))] H := by rw [if_pos hn9, eRn, hmm, ← hg]; exact hP
                have hD : va_D A [(s2, .inr (1, [.ref bx, .int ik, .int wy, .int op])), (bx, .inr (0, [.int bx0, .int by0, .int bx1, .int by1])), (t0, .inr (5, [.ref d0, .int w, .int h])), (d0, .inl (cI, 4096, .inl (if (-2000 ≤ x.toInt ∧ x.toInt ≤ 2000) ∧ (-2000 ≤ y.toInt ∧ y.toInt ≤ 2000) ∧ (0 ≤ rd.toInt ∧ rd.toInt ≤ 500) then (ciL x y ik op rd.toNatClampNeg (ciM rd.toNatClampNeg 502 0)).foldl (layG w h bx0 by0 bx1 by1 wy) g else g))), (h0, .inr (8, [.ref s1, .ref s2, .ref s3, .ref s4, .ref s5, .ref s6, .int ds, va_rf sp, va_rf bt])), (s1, .inl (cO, 4, .inr (.inr (.inr (.inr f)))))] := by rw [if_pos hn9, eRn, hmm, ← hg]; exact hD
                have hP9 := hP.sub (ws' := [(h0, .inr (8, [.ref s1, .ref s2, .ref s3, .ref s4, .ref s5, .ref s6, .int ds, va_rf sp, va_rf bt])), (s1, .inl (cO, 4, .inr (.inr (.inr (.inr f))))), (s2, .inr (1, [.ref bx, .int ik, .int wy, .int op])), (bx, .inr (0, [.int bx0, .int by0, .int bx1, .int by1])), (t0, .inr (5, [.ref d0, .int w, .int h])), (d0, .inl (cI, 4096, .inl (if (-2000 ≤ x.toInt ∧ x.toInt ≤ 2000) ∧ (-2000 ≤ y.toInt ∧ y.toInt ≤ 2000) ∧ (0 ≤ rd.toInt ∧ rd.toInt ≤ 500) then (ciL x y ik op rd.toNatClampNeg (ciM rd.toNatClampNeg 502 0)).foldl (layG w h bx0 by0 bx1 by1 wy) g else g)))]) [4, 5, 0, 1, 2, 3] rfl
                have hD9 := hD.sub (ws' := [(h0, .inr (8, [.ref s1, .ref s2, .ref s3, .ref s4, .ref s5, .ref s6, .int ds, va_rf sp, va_rf bt])), (s1, .inl (cO, 4, .inr (.inr (.inr (.inr f))))), (s2, .inr (1, [.ref bx, .int ik, .int wy, .int op])), (bx, .inr (0, [.int bx0, .int by0, .int bx1, .int by1])), (t0, .inr (5, [.ref d0, .int w, .int h])), (d0, .inl (cI, 4096, .inl (if (-2000 ≤ x.toInt ∧ x.toInt ≤ 2000) ∧ (-2000 ≤ y.toInt ∧ y.toInt ≤ 2000) ∧ (0 ≤ rd.toInt ∧ rd.toInt ≤ 500) then (ciL x y ik op rd.toNatClampNeg (ciM rd.toNatClampNeg 502 0)).foldl (layG w h bx0 by0 bx1 by1 wy) g else g)))]) [4, 5, 0, 1, 2, 3] (by decide) rfl
                have hK9 := hK.sub (tys' := [(cO, .object "DotBench$Sheet"), (cI, .int)]) [0, 1] rfl
                refine hQ _ _ _ _ _ ?_
                exact W.iret (v := x6) hx hb hr (fun t ht hW => ⟨⟨x6, (), rfl, (by rw [if_pos hn9, eRn, hmm]; exact et), ⟨by rw [ht]; exact hP9, va_K.moved hW.alike hK9, hD9⟩⟩, hS.F ht⟩) hS.2.2 dX8_circle_140
        exact loop_11 (R9 + 2) 0 0 rd 0 g _ _ _ (by omega) (by omega) nI_0.symm eR rfl rfl rfl hP hD hS (lv_sub hl [0, 1, 2, 3, 4, 5, 6, 7, 8] rfl)
      · skip
        have f_10 := bz0 hr_8 c_9
        refine lv_iconst (v := (-1)) hx hb dX8_circle_44 (by decide) ?_
        have hn9 : ¬ ((-2000 ≤ x.toInt ∧ x.toInt ≤ 2000) ∧ (-2000 ≤ y.toInt ∧ y.toInt ≤ 2000) ∧ (0 ≤ rd.toInt ∧ rd.toInt ≤ 500)) := by omega
        have hP : va_P D vwCl [(s2, .inr (1, [.ref bx, .int ik, .int wy, .int op])), (bx, .inr (0, [.int bx0, .int by0, .int bx1, .int by1])), (t0, .inr (5, [.ref d0, .int w, .int h])), (d0, .inl (cI, 4096, .inl (if (-2000 ≤ x.toInt ∧ x.toInt ≤ 2000) ∧ (-2000 ≤ y.toInt ∧ y.toInt ≤ 2000) ∧ (0 ≤ rd.toInt ∧ rd.toInt ≤ 500) then (ciL x y ik op rd.toNatClampNeg (ciM rd.toNatClampNeg 502 0)).foldl (layG w h bx0 by0 bx1 by1 wy) g else g))), (h0, .inr (8, [.ref s1, .ref s2, .ref s3, .ref s4, .ref s5, .ref s6, .int ds, va_rf sp, va_rf bt])), (s1, .inl (cO, 4, .inr (.inr (.inr (.inr f)))))] H := by rw [if_neg hn9]; exact hP
        have hD : va_D A [(s2, .inr (1, [.ref bx, .int ik, .int wy, .int op])), (bx, .inr (0, [.int bx0, .int by0, .int bx1, .int by1])), (t0, .inr (5, [.ref d0, .int w, .int h])), (d0, .inl (cI, 4096, .inl (if (-2000 ≤ x.toInt ∧ x.toInt ≤ 2000) ∧ (-2000 ≤ y.toInt ∧ y.toInt ≤ 2000) ∧ (0 ≤ rd.toInt ∧ rd.toInt ≤ 500) then (ciL x y ik op rd.toNatClampNeg (ciM rd.toNatClampNeg 502 0)).foldl (layG w h bx0 by0 bx1 by1 wy) g else g))), (h0, .inr (8, [.ref s1, .ref s2, .ref s3, .ref s4, .ref s5, .ref s6, .int ds, va_rf sp, va_rf bt])), (s1, .inl (cO, 4, .inr (.inr (.inr (.inr f)))))] := by rw [if_neg hn9]; exact hD
        have hP9 := hP.sub (ws' := [(h0, .inr (8, [.ref s1, .ref s2, .ref s3, .ref s4, .ref s5, .ref s6, .int ds, va_rf sp, va_rf bt])), (s1, .inl (cO, 4, .inr (.inr (.inr (.inr f))))), (s2, .inr (1, [.ref bx, .int ik, .int wy, .int op])), (bx, .inr (0, [.int bx0, .int by0, .int bx1, .int by1])), (t0, .inr (5, [.ref d0, .int w, .int h])), (d0, .inl (cI, 4096, .inl (if (-2000 ≤ x.toInt ∧ x.toInt ≤ 2000) ∧ (-2000 ≤ y.toInt ∧ y.toInt ≤ 2000) ∧ (0 ≤ rd.toInt ∧ rd.toInt ≤ 500) then (ciL x y ik op rd.toNatClampNeg (ciM rd.toNatClampNeg 502 0)).foldl (layG w h bx0 by0 bx1 by1 wy) g else g)))]) [4, 5, 0, 1, 2, 3] rfl
        have hD9 := hD.sub (ws' := [(h0, .inr (8, [.ref s1, .ref s2, .ref s3, .ref s4, .ref s5, .ref s6, .int ds, va_rf sp, va_rf bt])), (s1, .inl (cO, 4, .inr (.inr (.inr (.inr f))))), (s2, .inr (1, [.ref bx, .int ik, .int wy, .int op])), (bx, .inr (0, [.int bx0, .int by0, .int bx1, .int by1])), (t0, .inr (5, [.ref d0, .int w, .int h])), (d0, .inl (cI, 4096, .inl (if (-2000 ≤ x.toInt ∧ x.toInt ≤ 2000) ∧ (-2000 ≤ y.toInt ∧ y.toInt ≤ 2000) ∧ (0 ≤ rd.toInt ∧ rd.toInt ≤ 500) then (ciL x y ik op rd.toNatClampNeg (ciM rd.toNatClampNeg 502 0)).foldl (layG w h bx0 by0 bx1 by1 wy) g else g)))]) [4, 5, 0, 1, 2, 3] (by decide) rfl
        have hK9 := hK.sub (tys' := [(cO, .object "DotBench$Sheet"), (cI, .int)]) [0, 1] rfl
        refine hQ _ _ _ _ _ ?_
        exact W.iret (v := (-1)) hx hb hr (fun t ht hW => ⟨⟨(-1), (), rfl, (if_neg (by omega)).symm, ⟨by rw [ht]; exact hP9, va_K.moved hW.alike hK9, hD9⟩⟩, hS.F ht⟩) hS.2.2 dX8_circle_45
