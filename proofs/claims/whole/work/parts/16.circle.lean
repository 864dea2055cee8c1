set_option maxHeartbeats 4000000 in
set_option maxRecDepth 100000 in
theorem k_X8_nearestRoot (l : Launch) (D : va_G) (sz : Nat) (n9 most : Int32) (N9 B9 : Nat) (hnt : n9.toInt = (N9 : Int)) (hm9 : most = nI B9) (hB : B9 ≤ 500) : Met l yX8_nearestRoot (wB yX8_nearestRoot cX8_nearestRoot 3 (some .int)) ({ frames := 0, cells := 0, slots := 0, locals := 0 }) (cP D [] [] sz [.int n9, .int most]) (va_Qi (fun (r : Int32) (_ : Unit) => r = nI (nrN N9 B9)) (fun (_ : Unit) (_ : State) => True) (va_A [] sz)) 0 0 (va_A [] sz) := by
  refine Met.ofW (cc := cX8_nearestRoot) (maxL := 3) (ret := (some .int)) (by decide) rfl ?_
  intro p e s m args below meth c s₁ B hml hv
  obtain ⟨rfl, hsz, hP, hK, hD0, hN⟩ := hv
  have hx := B.exec
  have hb := B.bytes
  have hr := B.returns
  have hts0 := atoms_spec (ws := (wB yX8_nearestRoot cX8_nearestRoot 3 (some .int))) B.pre
  have hts : ∀ w ∈ bigW, w.before _ s = true := fun w h => hts0 w (List.mem_cons_of_mem _ h)
  have hown : s.vm.findClass RX8 = some m.cls := findClass_of_methodNamed B.named
  have hlocks := B.notSynchronized
  subst hsz
  have hD := hD0.self (sz := s.heap.size)
  generalize hAe : va_A [] s.heap.size = A at hD ⊢
  have hA : ∀ q : Nat, s.heap.size ≤ q → A q := fun q h => by rw [← hAe]; exact Or.inr h
  have hS : va_S A s.heap s.heap [] := va_S.rf
  have hP : va_P D vwCl [] s.heap := hP
  have hl := lv_entry ([.int n9, .int most]) (n := 3) (Nat.le_of_ble_eq_true rfl)
  rw [lg_entry_eq]
  generalize (lg_sl ([.int n9, .int most]) ++ List.replicate (3 - (lg_sl ([.int n9, .int most])).length) Slot.unset).toArray = ls at hl ⊢
  have hl : lv_has ls 3 [(0, .int n9), (1, .int most)] := hl
  clear hts0 hD0 hAe
  refine my_abs (fun R Q hR hQ => ?_)
  refine lv_iload_n hx hb dX8_nearestRoot_0 rfl (lv_at hl 1 rfl) ?_
  refine lv_istore_n (lv' := [(2, .int most), (0, .int n9), (1, .int most)]) hx hb dX8_nearestRoot_1 rfl hl (by decide) rfl (fun ls hl => ?_)
  have loop_1 : ∀ (n : Nat) (i : Nat) (x2 : Int32) (H : Heap) (locs : List Loc) (ls : Array Slot), (i ≤ 500) → (i + 1 ≤ n) → (x2 = nI i) → (nrN N9 i = nrN N9 B9) → va_P D vwCl [] H → va_D A [] → va_S A s.heap H locs → lv_has ls 3 [(2, .int x2), (0, .int n9), (1, .int most)] → W p l e R s m ([.int n9, .int most] : List Value).toArray below meth c H locs 0 0 Q (F0 m 2 ls []) := by
    intro n
    induction n with
    | zero =>
      intro i x2 H locs ls hi hm ex he hP hD hS hl
      exact absurd (show False by omega) not_false
    | succ n ih_2 =>
      intro i x2 H locs ls hi hm ex he hP hD hS hl
      have hxi : x2.toInt = (i : Int) := by rw [ex]; exact nI_toInt (by omega)
      refine lv_iload_n hx hb dX8_nearestRoot_2 rfl (lv_at hl 0 rfl) ?_
      refine lv_if_le (tgt := 21) hx hb dX8_nearestRoot_3 (by decide) (fun c_3 => ?_) (fun c_3 => ?_)
      · skip
        have f_4 : (i : Int) ≤ 0 := f_le hxi (by decide) c_3
        refine lv_iload_n hx hb dX8_nearestRoot_21 rfl (lv_at hl 0 rfl) ?_
        refine hQ _ _ _ _ _ ?_
        exact W.iret (v := x2) hx hb hr (fun t ht hW => ⟨⟨x2, (), rfl, (by rw [ex, ← he, nr_stop (by omega)]), trivial⟩, hS.F ht⟩) hS.2.2 dX8_nearestRoot_22
      · skip
        have f_4 : ¬ ((i : Int) ≤ 0) := fn_le hxi (by decide) c_3
        refine lv_iload_n hx hb dX8_nearestRoot_6 rfl (lv_at hl 0 rfl) ?_
        refine lv_iload_n hx hb dX8_nearestRoot_7 rfl (lv_at hl 0 rfl) ?_
        refine lv_imul hx hb dX8_nearestRoot_8 ?_
        refine lv_topi (fun y_5 ey_5 => ?_)
        refine lv_iload_n hx hb dX8_nearestRoot_9 rfl (lv_at hl 0 rfl) ?_
        refine lv_isub hx hb dX8_nearestRoot_10 ?_
        refine lv_topi (fun y_6 ey_6 => ?_)
        have hsy_6 : y_6.toInt = ((i * i - i : Nat) : Int) := by rw [ey_6, ey_5, ex]; exact sq_ti (by omega)
        refine lv_iload_n hx hb dX8_nearestRoot_11 rfl (lv_at hl 1 rfl) ?_
        refine lv_icmp_lt (tgt := 21) hx hb dX8_nearestRoot_12 (by decide) (fun c_7 => ?_) (fun c_7 => ?_)
        · skip
          have f_8 : ((i * i - i : Nat) : Int) < (N9 : Int) := f_lt hsy_6 hnt c_7
          refine lv_iload_n hx hb dX8_nearestRoot_21 rfl (lv_at hl 0 rfl) ?_
          refine hQ _ _ _ _ _ ?_
          exact W.iret (v := x2) hx hb hr (fun t ht hW => ⟨⟨x2, (), rfl, (by rw [ex, ← he, nr_stop (by omega)]), trivial⟩, hS.F ht⟩) hS.2.2 dX8_nearestRoot_22
        · skip
          have f_8 : ¬ (((i * i - i : Nat) : Int) < (N9 : Int)) := fn_lt hsy_6 hnt c_7
          obtain ⟨y_9, ey_9⟩ : ∃ y : Int32, y = x2 + (-1) := ⟨_, rfl⟩
          refine lv_iinc (v := y_9) (lv' := [(2, .int y_9), (0, .int n9), (1, .int most)]) hx hb dX8_nearestRoot_15 hl (k := 0) rfl (by rw [ey_9]; rfl) (by decide) rfl (fun ls hl => ?_)
          refine lv_goto (tgt := 2) hx hb dX8_nearestRoot_18 (by decide) ?_
          exact ih_2 (i - 1) y_9 _ _ _ (by omega) (by omega) (by rw [ey_9, ex]; exact sb_m1 (by omega)) ((nr_down (by omega) (by omega)).trans he) (hP.sub (ws' := []) [] rfl) (hD.sub (ws' := []) [] (by decide) rfl) hS (lv_sub hl [0, 1, 2] rfl)
  exact loop_1 (B9 + 1) B9 most _ _ _ hB (Nat.le_refl _) hm9 rfl hP hD hS (lv_sub hl [0, 1, 2] rfl)

set_option maxHeartbeats 4000000 in
set_option maxRecDepth 100000 in
theorem k_X8_layPair (l : Launch) (D : va_G) (sz : Nat) (h0 s1 s2 s3 s4 s5 s6 : Nat) (ds : Int32) (sp bt : Option Nat) (bx t0 d0 : Nat) (ik wy op : Int32) (bx0 by0 bx1 by1 : Int32) (w h : Int32) (g : Nat → Int32) (x ax y : Int32) (cI : ClassId) (hwy : 0 ≤ wy.toInt ∧ wy.toInt ≤ 12) (hw : w.toInt ≤ 64) (hh : h.toInt ≤ 64) : Met l yX8_layPair (wB yX8_layPair cX8_layPair 6 (some .int)) ({ frames := 3, cells := 0, slots := 0, locals := 75 }) (cP D [(h0, .inr (8, [.ref s1, .ref s2, .ref s3, .ref s4, .ref s5, .ref s6, .int ds, va_rf sp, va_rf bt])), (s2, .inr (1, [.ref bx, .int ik, .int wy, .int op])), (bx, .inr (0, [.int bx0, .int by0, .int bx1, .int by1])), (t0, .inr (5, [.ref d0, .int w, .int h])), (d0, .inl (cI, 4096, .inl g))] [(cI, .int)] sz [.ref h0, .ref t0, .int x, .int ax, .int y]) (va_Qi (fun (r : Int32) (_ : Unit) => r = (prQ x ax y ik op).foldl (layT w h bx0 by0 bx1 by1) 0) (fun (_ : Unit) (t : State) => cB D (va_A [(h0, .inr (8, [.ref s1, .ref s2, .ref s3, .ref s4, .ref s5, .ref s6, .int ds, va_rf sp, va_rf bt])), (s2, .inr (1, [.ref bx, .int ik, .int wy, .int op])), (bx, .inr (0, [.int bx0, .int by0, .int bx1, .int by1])), (t0, .inr (5, [.ref d0, .int w, .int h])), (d0, .inl (cI, 4096, .inl g))] sz) [(h0, .inr (8, [.ref s1, .ref s2, .ref s3, .ref s4, .ref s5, .ref s6, .int ds, va_rf sp, va_rf bt])), (s2, .inr (1, [.ref bx, .int ik, .int wy, .int op])), (bx, .inr (0, [.int bx0, .int by0, .int bx1, .int by1])), (t0, .inr (5, [.ref d0, .int w, .int h])), (d0, .inl (cI, 4096, .inl ((prQ x ax y ik op).foldl (layG w h bx0 by0 bx1 by1 wy) g)))] [(cI, .int)] t) (va_A [(h0, .inr (8, [.ref s1, .ref s2, .ref s3, .ref s4, .ref s5, .ref s6, .int ds, va_rf sp, va_rf bt])), (s2, .inr (1, [.ref bx, .int ik, .int wy, .int op])), (bx, .inr (0, [.int bx0, .int by0, .int bx1, .int by1])), (t0, .inr (5, [.ref d0, .int w, .int h])), (d0, .inl (cI, 4096, .inl g))] sz)) 0 0 (va_A [(h0, .inr (8, [.ref s1, .ref s2, .ref s3, .ref s4, .ref s5, .ref s6, .int ds, va_rf sp, va_rf bt])), (s2, .inr (1, [.ref bx, .int ik, .int wy, .int op])), (bx, .inr (0, [.int bx0, .int by0, .int bx1, .int by1])), (t0, .inr (5, [.ref d0, .int w, .int h])), (d0, .inl (cI, 4096, .inl g))] sz) := by
  refine Met.ofW (cc := cX8_layPair) (maxL := 6) (ret := (some .int)) (by decide) rfl ?_
  intro p e s m args below meth c s₁ B hml hv
  obtain ⟨rfl, hsz, hP, hK, hD0, hN⟩ := hv
  have hx := B.exec
  have hb := B.bytes
  have hr := B.returns
  have hts0 := atoms_spec (ws := (wB yX8_layPair cX8_layPair 6 (some .int))) B.pre
  have hts : ∀ w ∈ bigW, w.before _ s = true := fun w h => hts0 w (List.mem_cons_of_mem _ h)
  have hown : s.vm.findClass RX8 = some m.cls := findClass_of_methodNamed B.named
  have hlocks := B.notSynchronized
  subst hsz
  have hD := hD0.self (sz := s.heap.size)
  generalize hAe : va_A [(h0, .inr (8, [.ref s1, .ref s2, .ref s3, .ref s4, .ref s5, .ref s6, .int ds, va_rf sp, va_rf bt])), (s2, .inr (1, [.ref bx, .int ik, .int wy, .int op])), (bx, .inr (0, [.int bx0, .int by0, .int bx1, .int by1])), (t0, .inr (5, [.ref d0, .int w, .int h])), (d0, .inl (cI, 4096, .inl g))] s.heap.size = A at hD ⊢
  have hA : ∀ q : Nat, s.heap.size ≤ q → A q := fun q h => by rw [← hAe]; exact Or.inr h
  have hS : va_S A s.heap s.heap [] := va_S.rf
  have hP : va_P D vwCl [(h0, .inr (8, [.ref s1, .ref s2, .ref s3, .ref s4, .ref s5, .ref s6, .int ds, va_rf sp, va_rf bt])), (s2, .inr (1, [.ref bx, .int ik, .int wy, .int op])), (bx, .inr (0, [.int bx0, .int by0, .int bx1, .int by1])), (t0, .inr (5, [.ref d0, .int w, .int h])), (d0, .inl (cI, 4096, .inl g))] s.heap := hP
  have hl := lv_entry ([.ref h0, .ref t0, .int x, .int ax, .int y]) (n := 6) (Nat.le_of_ble_eq_true rfl)
  rw [lg_entry_eq]
  generalize (lg_sl ([.ref h0, .ref t0, .int x, .int ax, .int y]) ++ List.replicate (6 - (lg_sl ([.ref h0, .ref t0, .int x, .int ax, .int y])).length) Slot.unset).toArray = ls at hl ⊢
  have hl : lv_has ls 6 [(0, .ref h0), (1, .ref t0), (2, .int x), (3, .int ax), (4, .int y)] := hl
  clear hts0 hD0 hAe
  refine my_abs (fun R Q hR hQ => ?_)
  refine lv_aload_n hx hb dX8_layPair_0 rfl (lv_at hl 0 rfl) ?_
  refine va_get (D := D) (ci := 8) (v := .ref s2) (C := RX8) (T := TX8) (N := 9) hx hb hts hi_X8 hown hK hP 0 rfl rfl 1 (by decide) (hts _ bw_231) (fun _ h9 => h9) rfl dX8_layPair_1 ?_
  refine lv_aload_n hx hb dX8_layPair_4 rfl (lv_at hl 1 rfl) ?_
  refine lv_iload_n hx hb dX8_layPair_5 rfl (lv_at hl 2 rfl) ?_
  refine lv_iload_n hx hb dX8_layPair_6 rfl (lv_at hl 3 rfl) ?_
  refine lv_iadd hx hb dX8_layPair_7 ?_
  refine lv_topi (fun y_1 ey_1 => ?_)
  refine lv_iload hx hb dX8_layPair_8 (lv_at hl 4 rfl) ?_
  refine lv_aload_n hx hb dX8_layPair_10 rfl (lv_at hl 0 rfl) ?_
  refine va_get (D := D) (ci := 8) (v := .ref s2) (C := RX8) (T := TX8) (N := 9) hx hb hts hi_X8 hown hK hP 0 rfl rfl 1 (by decide) (hts _ bw_231) (fun _ h9 => h9) rfl dX8_layPair_11 ?_
  refine va_getN (host := RX8) (D := D) (ci := 1) (v := .int ik) (C := RX1) (T := TX1) (N := 4) hx hb hts hi_X1 hown hK hP 1 rfl rfl 1 (by decide) ((hN.1 (RX8, 76, "DotBench$Brush", "ink", "I", RX8) (by decide +kernel)).use rfl) (fun _ h9 => h9) rfl dX8_layPair_14 ?_
  refine lv_aload_n hx hb dX8_layPair_17 rfl (lv_at hl 0 rfl) ?_
  refine va_get (D := D) (ci := 8) (v := .ref s2) (C := RX8) (T := TX8) (N := 9) hx hb hts hi_X8 hown hK hP 0 rfl rfl 1 (by decide) (hts _ bw_231) (fun _ h9 => h9) rfl dX8_layPair_18 ?_
  refine va_getN (host := RX8) (D := D) (ci := 1) (v := .int op) (C := RX1) (T := TX1) (N := 4) hx hb hts hi_X1 hown hK hP 1 rfl rfl 3 (by decide) ((hN.1 (RX8, 86, "DotBench$Brush", "opacity", "I", RX8) (by decide +kernel)).use rfl) (fun _ h9 => h9) rfl dX8_layPair_21 ?_
  have hPc := hP.sub (ws' := [(s2, .inr (1, [.ref bx, .int ik, .int wy, .int op])), (bx, .inr (0, [.int bx0, .int by0, .int bx1, .int by1])), (t0, .inr (5, [.ref d0, .int w, .int h])), (d0, .inl (cI, 4096, .inl g))]) [1, 2, 3, 4] rfl
  have hDc := hD.sub (ws' := [(s2, .inr (1, [.ref bx, .int ik, .int wy, .int op])), (bx, .inr (0, [.int bx0, .int by0, .int bx1, .int by1])), (t0, .inr (5, [.ref d0, .int w, .int h])), (d0, .inl (cI, 4096, .inl g))]) [1, 2, 3, 4] (by decide) rfl
  have hKc := hK.sub (tys' := [(cI, .int)]) [0] rfl
  have hFc := va_free (wc := [(s2, .inr (1, [.ref bx, .int ik, .int wy, .int op])), (bx, .inr (0, [.int bx0, .int by0, .int bx1, .int by1])), (t0, .inr (5, [.ref d0, .int w, .int h])), (d0, .inl (cI, 4096, .inl g))]) hD hS hA [1, 2, 3, 4] rfl
  refine va_calli (va_runV (As := [.ref t0, .int y_1, .int y, .int ik, .int op]) (rest := []) ⟨hx, hb, hml, hown, hts⟩ (k_X1_lay l D s.heap.size s2 bx ik wy op t0 d0 bx0 by0 bx1 by1 w h g y_1 y ik op cI (by first | assumption | omega | decide) (by first | assumption | omega | decide) (by first | assumption | omega | decide)) (cwV 5 hts (gV bw_276 bw_33 bw_34 bw_19 bw_32) rfl rfl rfl (by decide +kernel) ⟨(by rw [hR]; exact Nat.le_of_ble_eq_true rfl), (by rw [hR]; exact Nat.le_of_ble_eq_true rfl)⟩) ⟨cP_blind, va_recv hKc hPc (ci := 1) (q0 := 0) rfl rfl, cP_at hPc hKc hDc hN⟩ rfl rfl hl.1 rfl (lv_room (Nat.le_of_ble_eq_true rfl)) dX8_layPair_24 ⟨(by rw [hR]; exact Nat.le_of_ble_eq_true rfl), (by rw [hR]; exact Nat.le_of_ble_eq_true rfl)⟩) hS (fun q _ h => hFc q h) hFc (fun r_2 u9 t9 H1 locs ht hvm hr_2 hB hz1 hk1 hS => ?_)
  try dsimp only at hr_2
  obtain ⟨hP1, hK1, hD1⟩ := hB
  rw [ht] at hP1
  obtain ⟨hP, hD⟩ := va_join (wr := [(h0, .inr (8, [.ref s1, .ref s2, .ref s3, .ref s4, .ref s5, .ref s6, .int ds, va_rf sp, va_rf bt]))]) (w1 := [(s2, .inr (1, [.ref bx, .int ik, .int wy, .int op])), (bx, .inr (0, [.int bx0, .int by0, .int bx1, .int by1])), (t0, .inr (5, [.ref d0, .int w, .int h])), (d0, .inl (cI, 4096, .inl (if 0 ≤ y_1.toInt ∧ y_1.toInt < w.toInt ∧ 0 ≤ y.toInt ∧ y.toInt < h.toInt ∧ bx0.toInt ≤ y_1.toInt ∧ y_1.toInt ≤ bx1.toInt ∧ by0.toInt ≤ y.toInt ∧ y.toInt ≤ by1.toInt then upd g (ixP y_1 y) (laidP wy ik (g (ixP y_1 y)) op) else g)))]) hP hD [1, 2, 3, 4] [0] rfl rfl (by decide) (by decide) hk1 hFc hP1 hD1
  clear hz1 hk1 hFc hKc hDc hPc
  generalize H1 = H at hP hS ⊢
  have hP : va_P D vwCl [(h0, .inr (8, [.ref s1, .ref s2, .ref s3, .ref s4, .ref s5, .ref s6, .int ds, va_rf sp, va_rf bt])), (s2, .inr (1, [.ref bx, .int ik, .int wy, .int op])), (bx, .inr (0, [.int bx0, .int by0, .int bx1, .int by1])), (t0, .inr (5, [.ref d0, .int w, .int h])), (d0, .inl (cI, 4096, .inl (if 0 ≤ y_1.toInt ∧ y_1.toInt < w.toInt ∧ 0 ≤ y.toInt ∧ y.toInt < h.toInt ∧ bx0.toInt ≤ y_1.toInt ∧ y_1.toInt ≤ bx1.toInt ∧ by0.toInt ≤ y.toInt ∧ y.toInt ≤ by1.toInt then upd g (ixP y_1 y) (laidP wy ik (g (ixP y_1 y)) op) else g)))] H := hP
  have hD : va_D A [(h0, .inr (8, [.ref s1, .ref s2, .ref s3, .ref s4, .ref s5, .ref s6, .int ds, va_rf sp, va_rf bt])), (s2, .inr (1, [.ref bx, .int ik, .int wy, .int op])), (bx, .inr (0, [.int bx0, .int by0, .int bx1, .int by1])), (t0, .inr (5, [.ref d0, .int w, .int h])), (d0, .inl (cI, 4096, .inl (if 0 ≤ y_1.toInt ∧ y_1.toInt < w.toInt ∧ 0 ≤ y.toInt ∧ y.toInt < h.toInt ∧ bx0.toInt ≤ y_1.toInt ∧ y_1.toInt ≤ bx1.toInt ∧ by0.toInt ≤ y.toInt ∧ y.toInt ≤ by1.toInt then upd g (ixP y_1 y) (laidP wy ik (g (ixP y_1 y)) op) else g)))] := hD
  refine lv_istore (lv' := [(5, .int r_2), (0, .ref h0), (1, .ref t0), (2, .int x), (3, .int ax), (4, .int y)]) hx hb dX8_layPair_27 hl (by decide) rfl (fun ls hl => ?_)
  refine lv_iload_n hx hb dX8_layPair_29 rfl (lv_at hl 4 rfl) ?_
  refine lv_if_eq (tgt := 65) hx hb dX8_layPair_30 (by decide) (fun c_3 => ?_) (fun c_3 => ?_)
  · skip
    have f_4 : ax.toInt = 0 := f_eq rfl (by decide) c_3
    refine lv_iload hx hb dX8_layPair_65 (lv_at hl 0 rfl) ?_
    have hpq : prQ x ax y ik op = [(x + ax, y, ik, op)] := if_pos c_3
    have hP : va_P D vwCl [(h0, .inr (8, [.ref s1, .ref s2, .ref s3, .ref s4, .ref s5, .ref s6, .int ds, va_rf sp, va_rf bt])), (s2, .inr (1, [.ref bx, .int ik, .int wy, .int op])), (bx, .inr (0, [.int bx0, .int by0, .int bx1, .int by1])), (t0, .inr (5, [.ref d0, .int w, .int h])), (d0, .inl (cI, 4096, .inl ((prQ x ax y ik op).foldl (layG w h bx0 by0 bx1 by1 wy) g)))] H := by rw [hpq]; subst_vars; exact hP
    have hD : va_D A [(h0, .inr (8, [.ref s1, .ref s2, .ref s3, .ref s4, .ref s5, .ref s6, .int ds, va_rf sp, va_rf bt])), (s2, .inr (1, [.ref bx, .int ik, .int wy, .int op])), (bx, .inr (0, [.int bx0, .int by0, .int bx1, .int by1])), (t0, .inr (5, [.ref d0, .int w, .int h])), (d0, .inl (cI, 4096, .inl ((prQ x ax y ik op).foldl (layG w h bx0 by0 bx1 by1 wy) g)))] := by rw [hpq]; subst_vars; exact hD
    have hP9 := hP.sub (ws' := [(h0, .inr (8, [.ref s1, .ref s2, .ref s3, .ref s4, .ref s5, .ref s6, .int ds, va_rf sp, va_rf bt])), (s2, .inr (1, [.ref bx, .int ik, .int wy, .int op])), (bx, .inr (0, [.int bx0, .int by0, .int bx1, .int by1])), (t0, .inr (5, [.ref d0, .int w, .int h])), (d0, .inl (cI, 4096, .inl ((prQ x ax y ik op).foldl (layG w h bx0 by0 bx1 by1 wy) g)))]) [0, 1, 2, 3, 4] rfl
    have hD9 := hD.sub (ws' := [(h0, .inr (8, [.ref s1, .ref s2, .ref s3, .ref s4, .ref s5, .ref s6, .int ds, va_rf sp, va_rf bt])), (s2, .inr (1, [.ref bx, .int ik, .int wy, .int op])), (bx, .inr (0, [.int bx0, .int by0, .int bx1, .int by1])), (t0, .inr (5, [.ref d0, .int w, .int h])), (d0, .inl (cI, 4096, .inl ((prQ x ax y ik op).foldl (layG w h bx0 by0 bx1 by1 wy) g)))]) [0, 1, 2, 3, 4] (by decide) rfl
    have hK9 := hK.sub (tys' := [(cI, .int)]) [0] rfl
    refine hQ _ _ _ _ _ ?_
    exact W.iret (v := r_2) hx hb hr (fun t ht hW => ⟨⟨r_2, (), rfl, (by rw [hpq]; subst_vars; simp only [List.foldl, layT, Int32.zero_add]), ⟨by rw [ht]; exact hP9, va_K.moved hW.alike hK9, hD9⟩⟩, hS.F ht⟩) hS.2.2 dX8_layPair_67
  · skip
    have f_4 : ¬ (ax.toInt = 0) := fn_eq rfl (by decide) c_3
    refine lv_iload hx hb dX8_layPair_33 (lv_at hl 0 rfl) ?_
    refine lv_aload_n hx hb dX8_layPair_35 rfl (lv_at hl 1 rfl) ?_
    refine va_get (D := D) (ci := 8) (v := .ref s2) (C := RX8) (T := TX8) (N := 9) hx hb hts hi_X8 hown hK hP 0 rfl rfl 1 (by decide) (hts _ bw_231) (fun _ h9 => h9) rfl dX8_layPair_36 ?_
    refine lv_aload_n hx hb dX8_layPair_39 rfl (lv_at hl 2 rfl) ?_
    refine lv_iload_n hx hb dX8_layPair_40 rfl (lv_at hl 3 rfl) ?_
    refine lv_iload_n hx hb dX8_layPair_41 rfl (lv_at hl 4 rfl) ?_
    refine lv_isub hx hb dX8_layPair_42 ?_
    refine lv_topi (fun y_5 ey_5 => ?_)
    refine lv_iload hx hb dX8_layPair_43 (lv_at hl 5 rfl) ?_
    refine lv_aload_n hx hb dX8_layPair_45 rfl (lv_at hl 1 rfl) ?_
    refine va_get (D := D) (ci := 8) (v := .ref s2) (C := RX8) (T := TX8) (N := 9) hx hb hts hi_X8 hown hK hP 0 rfl rfl 1 (by decide) (hts _ bw_231) (fun _ h9 => h9) rfl dX8_layPair_46 ?_
    refine va_getN (host := RX8) (D := D) (ci := 1) (v := .int ik) (C := RX1) (T := TX1) (N := 4) hx hb hts hi_X1 hown hK hP 1 rfl rfl 1 (by decide) ((hN.1 (RX8, 76, "DotBench$Brush", "ink", "I", RX8) (by decide +kernel)).use rfl) (fun _ h9 => h9) rfl dX8_layPair_49 ?_
    refine lv_aload_n hx hb dX8_layPair_52 rfl (lv_at hl 1 rfl) ?_
    refine va_get (D := D) (ci := 8) (v := .ref s2) (C := RX8) (T := TX8) (N := 9) hx hb hts hi_X8 hown hK hP 0 rfl rfl 1 (by decide) (hts _ bw_231) (fun _ h9 => h9) rfl dX8_layPair_53 ?_
    refine va_getN (host := RX8) (D := D) (ci := 1) (v := .int op) (C := RX1) (T := TX1) (N := 4) hx hb hts hi_X1 hown hK hP 1 rfl rfl 3 (by decide) ((hN.1 (RX8, 86, "DotBench$Brush", "opacity", "I", RX8) (by decide +kernel)).use rfl) (fun _ h9 => h9) rfl dX8_layPair_56 ?_
    have hPc := hP.sub (ws' := [(s2, .inr (1, [.ref bx, .int ik, .int wy, .int op])), (bx, .inr (0, [.int bx0, .int by0, .int bx1, .int by1])), (t0, .inr (5, [.ref d0, .int w, .int h])), (d0, .inl (cI, 4096, .inl (if 0 ≤ y_1.toInt ∧ y_1.toInt < w.toInt ∧ 0 ≤ y.toInt ∧ y.toInt < h.toInt ∧ bx0.toInt ≤ y_1.toInt ∧ y_1.toInt ≤ bx1.toInt ∧ by0.toInt ≤ y.toInt ∧ y.toInt ≤ by1.toInt then upd g (ixP y_1 y) (laidP wy ik (g (ixP y_1 y)) op) else g)))]) [1, 2, 3, 4] rfl
    have hDc := hD.sub (ws' := [(s2, .inr (1, [.ref bx, .int ik, .int wy, .int op])), (bx, .inr (0, [.int bx0, .int by0, .int bx1, .int by1])), (t0, .inr (5, [.ref d0, .int w, .int h])), (d0, .inl (cI, 4096, .inl (if 0 ≤ y_1.toInt ∧ y_1.toInt < w.toInt ∧ 0 ≤ y.toInt ∧ y.toInt < h.toInt ∧ bx0.toInt ≤ y_1.toInt ∧ y_1.toInt ≤ bx1.toInt ∧ by0.toInt ≤ y.toInt ∧ y.toInt ≤ by1.toInt then upd g (ixP y_1 y) (laidP wy ik (g (ixP y_1 y)) op) else g)))]) [1, 2, 3, 4] (by decide) rfl
    have hKc := hK.sub (tys' := [(cI, .int)]) [0] rfl
    have hFc := va_free (wc := [(s2, .inr (1, [.ref bx, .int ik, .int wy, .int op])), (bx, .inr (0, [.int bx0, .int by0, .int bx1, .int by1])), (t0, .inr (5, [.ref d0, .int w, .int h])), (d0, .inl (cI, 4096, .inl (if 0 ≤ y_1.toInt ∧ y_1.toInt < w.toInt ∧ 0 ≤ y.toInt ∧ y.toInt < h.toInt ∧ bx0.toInt ≤ y_1.toInt ∧ y_1.toInt ≤ bx1.toInt ∧ by0.toInt ≤ y.toInt ∧ y.toInt ≤ by1.toInt then upd g (ixP y_1 y) (laidP wy ik (g (ixP y_1 y)) op) else g)))]) hD hS hA [1, 2, 3, 4] rfl
    refine va_calli (va_runV (As := [.ref t0, .int y_5, .int y, .int ik, .int op]) (rest := [.int r_2]) ⟨hx, hb, hml, hown, hts⟩ (k_X1_lay l D H.size s2 bx ik wy op t0 d0 bx0 by0 bx1 by1 w h (if 0 ≤ y_1.toInt ∧ y_1.toInt < w.toInt ∧ 0 ≤ y.toInt ∧ y.toInt < h.toInt ∧ bx0.toInt ≤ y_1.toInt ∧ y_1.toInt ≤ bx1.toInt ∧ by0.toInt ≤ y.toInt ∧ y.toInt ≤ by1.toInt then upd g (ixP y_1 y) (laidP wy ik (g (ixP y_1 y)) op) else g) y_5 y ik op cI (by first | assumption | omega | decide) (by first | assumption | omega | decide) (by first | assumption | omega | decide)) (cwV 5 hts (gV bw_276 bw_33 bw_34 bw_19 bw_32) rfl rfl rfl (by decide +kernel) ⟨(by rw [hR]; exact Nat.le_of_ble_eq_true rfl), (by rw [hR]; exact Nat.le_of_ble_eq_true rfl)⟩) ⟨cP_blind, va_recv hKc hPc (ci := 1) (q0 := 0) rfl rfl, cP_at hPc hKc hDc hN⟩ rfl rfl hl.1 rfl (lv_room (Nat.le_of_ble_eq_true rfl)) dX8_layPair_59 ⟨(by rw [hR]; exact Nat.le_of_ble_eq_true rfl), (by rw [hR]; exact Nat.le_of_ble_eq_true rfl)⟩) hS (fun q _ h => hFc q h) hFc (fun r_6 u9 t9 H1 locs ht hvm hr_6 hB hz1 hk1 hS => ?_)
    try dsimp only at hr_6
    obtain ⟨hP1, hK1, hD1⟩ := hB
    rw [ht] at hP1
    obtain ⟨hP, hD⟩ := va_join (wr := [(h0, .inr (8, [.ref s1, .ref s2, .ref s3, .ref s4, .ref s5, .ref s6, .int ds, va_rf sp, va_rf bt]))]) (w1 := [(s2, .inr (1, [.ref bx, .int ik, .int wy, .int op])), (bx, .inr (0, [.int bx0, .int by0, .int bx1, .int by1])), (t0, .inr (5, [.ref d0, .int w, .int h])), (d0, .inl (cI, 4096, .inl (if 0 ≤ y_5.toInt ∧ y_5.toInt < w.toInt ∧ 0 ≤ y.toInt ∧ y.toInt < h.toInt ∧ bx0.toInt ≤ y_5.toInt ∧ y_5.toInt ≤ bx1.toInt ∧ by0.toInt ≤ y.toInt ∧ y.toInt ≤ by1.toInt then upd (if 0 ≤ y_1.toInt ∧ y_1.toInt < w.toInt ∧ 0 ≤ y.toInt ∧ y.toInt < h.toInt ∧ bx0.toInt ≤ y_1.toInt ∧ y_1.toInt ≤ bx1.toInt ∧ by0.toInt ≤ y.toInt ∧ y.toInt ≤ by1.toInt then upd g (ixP y_1 y) (laidP wy ik (g (ixP y_1 y)) op) else g) (ixP y_5 y) (laidP wy ik ((if 0 ≤ y_1.toInt ∧ y_1.toInt < w.toInt ∧ 0 ≤ y.toInt ∧ y.toInt < h.toInt ∧ bx0.toInt ≤ y_1.toInt ∧ y_1.toInt ≤ bx1.toInt ∧ by0.toInt ≤ y.toInt ∧ y.toInt ≤ by1.toInt then upd g (ixP y_1 y) (laidP wy ik (g (ixP y_1 y)) op) else g) (ixP y_5 y)) op) else (if 0 ≤ y_1.toInt ∧ y_1.toInt < w.toInt ∧ 0 ≤ y.toInt ∧ y.toInt < h.toInt ∧ bx0.toInt ≤ y_1.toInt ∧ y_1.toInt ≤ bx1.toInt ∧ by0.toInt ≤ y.toInt ∧ y.toInt ≤ by1.toInt then upd g (ixP y_1 y) (laidP wy ik (g (ixP y_1 y)) op) else g))))]) hP hD [1, 2, 3, 4] [0] rfl rfl (by decide) (by decide) hk1 hFc hP1 hD1
    clear hz1 hk1 hFc hKc hDc hPc
    generalize H1 = H at hP hS ⊢
    have hP : va_P D vwCl [(h0, .inr (8, [.ref s1, .ref s2, .ref s3, .ref s4, .ref s5, .ref s6, .int ds, va_rf sp, va_rf bt])), (s2, .inr (1, [.ref bx, .int ik, .int wy, .int op])), (bx, .inr (0, [.int bx0, .int by0, .int bx1, .int by1])), (t0, .inr (5, [.ref d0, .int w, .int h])), (d0, .inl (cI, 4096, .inl (if 0 ≤ y_5.toInt ∧ y_5.toInt < w.toInt ∧ 0 ≤ y.toInt ∧ y.toInt < h.toInt ∧ bx0.toInt ≤ y_5.toInt ∧ y_5.toInt ≤ bx1.toInt ∧ by0.toInt ≤ y.toInt ∧ y.toInt ≤ by1.toInt then upd (if 0 ≤ y_1.toInt ∧ y_1.toInt < w.toInt ∧ 0 ≤ y.toInt ∧ y.toInt < h.toInt ∧ bx0.toInt ≤ y_1.toInt ∧ y_1.toInt ≤ bx1.toInt ∧ by0.toInt ≤ y.toInt ∧ y.toInt ≤ by1.toInt then upd g (ixP y_1 y) (laidP wy ik (g (ixP y_1 y)) op) else g) (ixP y_5 y) (laidP wy ik ((if 0 ≤ y_1.toInt ∧ y_1.toInt < w.toInt ∧ 0 ≤ y.toInt ∧ y.toInt < h.toInt ∧ bx0.toInt ≤ y_1.toInt ∧ y_1.toInt ≤ bx1.toInt ∧ by0.toInt ≤ y.toInt ∧ y.toInt ≤ by1.toInt then upd g (ixP y_1 y) (laidP wy ik (g (ixP y_1 y)) op) else g) (ixP y_5 y)) op) else (if 0 ≤ y_1.toInt ∧ y_1.toInt < w.toInt ∧ 0 ≤ y.toInt ∧ y.toInt < h.toInt ∧ bx0.toInt ≤ y_1.toInt ∧ y_1.toInt ≤ bx1.toInt ∧ by0.toInt ≤ y.toInt ∧ y.toInt ≤ by1.toInt then upd g (ixP y_1 y) (laidP wy ik (g (ixP y_1 y)) op) else g))))] H := hP
    have hD : va_D A [(h0, .inr (8, [.ref s1, .ref s2, .ref s3, .ref s4, .ref s5, .ref s6, .int ds, va_rf sp, va_rf bt])), (s2, .inr (1, [.ref bx, .int ik, .int wy, .int op])), (bx, .inr (0, [.int bx0, .int by0, .int bx1, .int by1])), (t0, .inr (5, [.ref d0, .int w, .int h])), (d0, .inl (cI, 4096, .inl (if 0 ≤ y_5.toInt ∧ y_5.toInt < w.toInt ∧ 0 ≤ y.toInt ∧ y.toInt < h.toInt ∧ bx0.toInt ≤ y_5.toInt ∧ y_5.toInt ≤ bx1.toInt ∧ by0.toInt ≤ y.toInt ∧ y.toInt ≤ by1.toInt then upd (if 0 ≤ y_1.toInt ∧ y_1.toInt < w.toInt ∧ 0 ≤ y.toInt ∧ y.toInt < h.toInt ∧ bx0.toInt ≤ y_1.toInt ∧ y_1.toInt ≤ bx1.toInt ∧ by0.toInt ≤ y.toInt ∧ y.toInt ≤ by1.toInt then upd g (ixP y_1 y) (laidP wy ik (g (ixP y_1 y)) op) else g) (ixP y_5 y) (laidP wy ik ((if 0 ≤ y_1.toInt ∧ y_1.toInt < w.toInt ∧ 0 ≤ y.toInt ∧ y.toInt < h.toInt ∧ bx0.toInt ≤ y_1.toInt ∧ y_1.toInt ≤ bx1.toInt ∧ by0.toInt ≤ y.toInt ∧ y.toInt ≤ by1.toInt then upd g (ixP y_1 y) (laidP wy ik (g (ixP y_1 y)) op) else g) (ixP y_5 y)) op) else (if 0 ≤ y_1.toInt ∧ y_1.toInt < w.toInt ∧ 0 ≤ y.toInt ∧ y.toInt < h.toInt ∧ bx0.toInt ≤ y_1.toInt ∧ y_1.toInt ≤ bx1.toInt ∧ by0.toInt ≤ y.toInt ∧ y.toInt ≤ by1.toInt then upd g (ixP y_1 y) (laidP wy ik (g (ixP y_1 y)) op) else g))))] := hD
    refine lv_iadd hx hb dX8_layPair_62 ?_
    refine lv_topi (fun y_7 ey_7 => ?_)
    refine lv_istore (lv' := [(5, .int y_7), (0, .ref h0), (1, .ref t0), (2, .int x), (3, .int ax), (4, .int y)]) hx hb dX8_layPair_63 hl (by decide) rfl (fun ls hl => ?_)
    refine lv_iload hx hb dX8_layPair_65 (lv_at hl 0 rfl) ?_
    have hpq : prQ x ax y ik op = [(x + ax, y, ik, op), (x - ax, y, ik, op)] := if_neg c_3
    have hP : va_P D vwCl [(h0, .inr (8, [.ref s1, .ref s2, .ref s3, .ref s4, .ref s5, .ref s6, .int ds, va_rf sp, va_rf bt])), (s2, .inr (1, [.ref bx, .int ik, .int wy, .int op])), (bx, .inr (0, [.int bx0, .int by0, .int bx1, .int by1])), (t0, .inr (5, [.ref d0, .int w, .int h])), (d0, .inl (cI, 4096, .inl ((prQ x ax y ik op).foldl (layG w h bx0 by0 bx1 by1 wy) g)))] H := by rw [hpq]; subst_vars; exact hP
    have hD : va_D A [(h0, .inr (8, [.ref s1, .ref s2, .ref s3, .ref s4, .ref s5, .ref s6, .int ds, va_rf sp, va_rf bt])), (s2, .inr (1, [.ref bx, .int ik, .int wy, .int op])), (bx, .inr (0, [.int bx0, .int by0, .int bx1, .int by1])), (t0, .inr (5, [.ref d0, .int w, .int h])), (d0, .inl (cI, 4096, .inl ((prQ x ax y ik op).foldl (layG w h bx0 by0 bx1 by1 wy) g)))] := by rw [hpq]; subst_vars; exact hD
    have hP9 := hP.sub (ws' := [(h0, .inr (8, [.ref s1, .ref s2, .ref s3, .ref s4, .ref s5, .ref s6, .int ds, va_rf sp, va_rf bt])), (s2, .inr (1, [.ref bx, .int ik, .int wy, .int op])), (bx, .inr (0, [.int bx0, .int by0, .int bx1, .int by1])), (t0, .inr (5, [.ref d0, .int w, .int h])), (d0, .inl (cI, 4096, .inl ((prQ x ax y ik op).foldl (layG w h bx0 by0 bx1 by1 wy) g)))]) [0, 1, 2, 3, 4] rfl
    have hD9 := hD.sub (ws' := [(h0, .inr (8, [.ref s1, .ref s2, .ref s3, .ref s4, .ref s5, .ref s6, .int ds, va_rf sp, va_rf bt])), (s2, .inr (1, [.ref bx, .int ik, .int wy, .int op])), (bx, .inr (0, [.int bx0, .int by0, .int bx1, .int by1])), (t0, .inr (5, [.ref d0, .int w, .int h])), (d0, .inl (cI, 4096, .inl ((prQ x ax y ik op).foldl (layG w h bx0 by0 bx1 by1 wy) g)))]) [0, 1, 2, 3, 4] (by decide) rfl
    have hK9 := hK.sub (tys' := [(cI, .int)]) [0] rfl
    refine hQ _ _ _ _ _ ?_
    exact W.iret (v := y_7) hx hb hr (fun t ht hW => ⟨⟨y_7, (), rfl, (by rw [hpq]; subst_vars; simp only [List.foldl, layT, Int32.zero_add]), ⟨by rw [ht]; exact hP9, va_K.moved hW.alike hK9, hD9⟩⟩, hS.F ht⟩) hS.2.2 dX8_layPair_67
