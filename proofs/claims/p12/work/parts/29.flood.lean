set_option maxHeartbeats 4000000 in
set_option maxRecDepth 100000 in
theorem k_X8_flood_y1 (l : Launch) (D : va_G) (sz : Nat) (h0 s1 s2 s3 s4 s5 s6 : Nat) (ds : Int32) (bt : Option Nat) (f : Nat → Option Nat) (bx : Nat) (ik wy op : Int32) (bx0 by0 bx1 by1 : Int32) (t0 d0 : Nat) (w h : Int32) (g : Nat → Int32) (sq v1 v2 : Nat) (zs : Int32) (ga : Nat → Int32) (gb : Nat → Int32) (k x y co : Int32) (cO : ClassId) (cI : ClassId) (hk : 0 ≤ k.toInt ∧ k.toInt ≤ 3) (hf : f k.toNatClampNeg = some t0) (hw : w.toInt ≤ 64) (hh : h.toInt ≤ 64) (hon : 0 ≤ x.toInt ∧ x.toInt < w.toInt ∧ 0 ≤ y.toInt ∧ y.toInt < h.toInt) (hwy : 0 ≤ wy.toInt ∧ wy.toInt ≤ 12) : Met l yX8_flood (wB yX8_flood cX8_flood 9 (some .int)) ({ frames := 5, cells := 0, slots := 0, locals := 125 }) (cP D [(h0, .inr (8, [.ref s1, .ref s2, .ref s3, .ref s4, .ref s5, .ref s6, .int ds, .ref sq, va_rf bt])), (s1, .inl (cO, 4, .inr (.inr (.inr (.inr f))))), (s2, .inr (1, [.ref bx, .int ik, .int wy, .int op])), (bx, .inr (0, [.int bx0, .int by0, .int bx1, .int by1])), (t0, .inr (5, [.ref d0, .int w, .int h])), (d0, .inl (cI, 4096, .inl g)), (sq, .inr (6, [.ref v1, .ref v2, .int zs])), (v1, .inl (cI, 4096, .inl ga)), (v2, .inl (cI, 4096, .inl gb))] [(cO, .object "DotBench$Sheet"), (cI, .int)] sz [.ref h0, .int k, .int x, .int y, .int co]) (va_Qi (fun (r : Int32) (_ : Unit) => True) (fun (_ : Unit) (t : State) => ∃ (sz2 : Int32), ∃ (g2 g3 g4 : Nat → Int32), cB D (va_A [(h0, .inr (8, [.ref s1, .ref s2, .ref s3, .ref s4, .ref s5, .ref s6, .int ds, .ref sq, va_rf bt])), (s1, .inl (cO, 4, .inr (.inr (.inr (.inr f))))), (s2, .inr (1, [.ref bx, .int ik, .int wy, .int op])), (bx, .inr (0, [.int bx0, .int by0, .int bx1, .int by1])), (t0, .inr (5, [.ref d0, .int w, .int h])), (d0, .inl (cI, 4096, .inl g)), (sq, .inr (6, [.ref v1, .ref v2, .int zs])), (v1, .inl (cI, 4096, .inl ga)), (v2, .inl (cI, 4096, .inl gb))] sz) [(h0, .inr (8, [.ref s1, .ref s2, .ref s3, .ref s4, .ref s5, .ref s6, .int ds, .ref sq, va_rf bt])), (s1, .inl (cO, 4, .inr (.inr (.inr (.inr f))))), (s2, .inr (1, [.ref bx, .int ik, .int wy, .int op])), (bx, .inr (0, [.int bx0, .int by0, .int bx1, .int by1])), (t0, .inr (5, [.ref d0, .int w, .int h])), (d0, .inl (cI, 4096, .inl g4)), (sq, .inr (6, [.ref v1, .ref v2, .int sz2])), (v1, .inl (cI, 4096, .inl g2)), (v2, .inl (cI, 4096, .inl g3))] [(cO, .object "DotBench$Sheet"), (cI, .int)] t) (va_A [(h0, .inr (8, [.ref s1, .ref s2, .ref s3, .ref s4, .ref s5, .ref s6, .int ds, .ref sq, va_rf bt])), (s1, .inl (cO, 4, .inr (.inr (.inr (.inr f))))), (s2, .inr (1, [.ref bx, .int ik, .int wy, .int op])), (bx, .inr (0, [.int bx0, .int by0, .int bx1, .int by1])), (t0, .inr (5, [.ref d0, .int w, .int h])), (d0, .inl (cI, 4096, .inl g)), (sq, .inr (6, [.ref v1, .ref v2, .int zs])), (v1, .inl (cI, 4096, .inl ga)), (v2, .inl (cI, 4096, .inl gb))] sz)) 0 0 (va_A [(h0, .inr (8, [.ref s1, .ref s2, .ref s3, .ref s4, .ref s5, .ref s6, .int ds, .ref sq, va_rf bt])), (s1, .inl (cO, 4, .inr (.inr (.inr (.inr f))))), (s2, .inr (1, [.ref bx, .int ik, .int wy, .int op])), (bx, .inr (0, [.int bx0, .int by0, .int bx1, .int by1])), (t0, .inr (5, [.ref d0, .int w, .int h])), (d0, .inl (cI, 4096, .inl g)), (sq, .inr (6, [.ref v1, .ref v2, .int zs])), (v1, .inl (cI, 4096, .inl ga)), (v2, .inl (cI, 4096, .inl gb))] sz) := by
  refine Met.ofW (cc := cX8_flood) (maxL := 9) (ret := (some .int)) (by decide) rfl ?_
  intro p e s m args below meth c s₁ B hml hv
  obtain ⟨rfl, hsz, hP, hK, hD0, hN⟩ := hv
  have hx := B.exec
  have hb := B.bytes
  have hr := B.returns
  have hts0 := atoms_spec (ws := (wB yX8_flood cX8_flood 9 (some .int))) B.pre
  have hts : ∀ w ∈ bigW, w.before _ s = true := fun w h => hts0 w (List.mem_cons_of_mem _ h)
  have hown : s.vm.findClass RX8 = some m.cls := findClass_of_methodNamed B.named
  have hlocks := B.notSynchronized
  subst hsz
  have hD := hD0.self (sz := s.heap.size)
  generalize hAe : va_A [(h0, .inr (8, [.ref s1, .ref s2, .ref s3, .ref s4, .ref s5, .ref s6, .int ds, .ref sq, va_rf bt])), (s1, .inl (cO, 4, .inr (.inr (.inr (.inr f))))), (s2, .inr (1, [.ref bx, .int ik, .int wy, .int op])), (bx, .inr (0, [.int bx0, .int by0, .int bx1, .int by1])), (t0, .inr (5, [.ref d0, .int w, .int h])), (d0, .inl (cI, 4096, .inl g)), (sq, .inr (6, [.ref v1, .ref v2, .int zs])), (v1, .inl (cI, 4096, .inl ga)), (v2, .inl (cI, 4096, .inl gb))] s.heap.size = A at hD ⊢
  have hA : ∀ q : Nat, s.heap.size ≤ q → A q := fun q h => by rw [← hAe]; exact Or.inr h
  have hS : va_S A s.heap s.heap [] := va_S.rf
  have hP : va_P D vwCl [(h0, .inr (8, [.ref s1, .ref s2, .ref s3, .ref s4, .ref s5, .ref s6, .int ds, .ref sq, va_rf bt])), (s1, .inl (cO, 4, .inr (.inr (.inr (.inr f))))), (s2, .inr (1, [.ref bx, .int ik, .int wy, .int op])), (bx, .inr (0, [.int bx0, .int by0, .int bx1, .int by1])), (t0, .inr (5, [.ref d0, .int w, .int h])), (d0, .inl (cI, 4096, .inl g)), (sq, .inr (6, [.ref v1, .ref v2, .int zs])), (v1, .inl (cI, 4096, .inl ga)), (v2, .inl (cI, 4096, .inl gb))] s.heap := hP
  have hl := lv_entry ([.ref h0, .int k, .int x, .int y, .int co]) (n := 9) (Nat.le_of_ble_eq_true rfl)
  rw [lg_entry_eq]
  generalize (lg_sl ([.ref h0, .int k, .int x, .int y, .int co]) ++ List.replicate (9 - (lg_sl ([.ref h0, .int k, .int x, .int y, .int co])).length) Slot.unset).toArray = ls at hl ⊢
  have hl : lv_has ls 9 [(0, .ref h0), (1, .int k), (2, .int x), (3, .int y), (4, .int co)] := hl
  clear hts0 hD0 hAe
  refine my_abs (fun R Q hR hQ => ?_)
  refine lv_aload_n hx hb dX8_flood_0 rfl (lv_at hl 0 rfl) ?_
  refine lv_iload_n hx hb dX8_flood_1 rfl (lv_at hl 1 rfl) ?_
  have hPc := hP.sub (ws' := [(h0, .inr (8, [.ref s1, .ref s2, .ref s3, .ref s4, .ref s5, .ref s6, .int ds, .ref sq, va_rf bt])), (s1, .inl (cO, 4, .inr (.inr (.inr (.inr f)))))]) [0, 1] rfl
  have hDc := hD.sub (ws' := [(h0, .inr (8, [.ref s1, .ref s2, .ref s3, .ref s4, .ref s5, .ref s6, .int ds, .ref sq, va_rf bt])), (s1, .inl (cO, 4, .inr (.inr (.inr (.inr f)))))]) [0, 1] (by decide) rfl
  have hKc := hK.sub (tys' := [(cO, .object "DotBench$Sheet")]) [0] rfl
  have hFc := va_free (wc := [(h0, .inr (8, [.ref s1, .ref s2, .ref s3, .ref s4, .ref s5, .ref s6, .int ds, .ref sq, va_rf bt])), (s1, .inl (cO, 4, .inr (.inr (.inr (.inr f)))))]) hD hS hA [0, 1] rfl
  refine va_callq (va_runV (As := [.int k]) (rest := []) ⟨hx, hb, hml, hown, hts⟩ (k_X8_sheetAt_y l D s.heap.size h0 s1 s2 s3 s4 s5 s6 ds (some sq) bt f k t0 cO (by first | assumption | omega | decide) (by first | assumption | omega | decide)) (cwV 1 hts (gV bw_267 bw_346 bw_347 bw_223 bw_345) rfl rfl rfl (by decide +kernel) ⟨(by rw [hR]; exact Nat.le_of_ble_eq_true rfl), (by rw [hR]; exact Nat.le_of_ble_eq_true rfl)⟩) ⟨cP_blind, va_recv hKc hPc (ci := 8) (q0 := 0) rfl rfl, cP_at hPc hKc hDc hN⟩ rfl rfl hl.1 rfl (lv_room (Nat.le_of_ble_eq_true rfl)) dX8_flood_2 ⟨(by rw [hR]; exact Nat.le_of_ble_eq_true rfl), (by rw [hR]; exact Nat.le_of_ble_eq_true rfl)⟩) hS (fun q _ h => hFc q h) hFc (fun r_1 u9 t9 H1 locs ht hvm hr_1 hB hz1 hk1 hS => ?_)
  try dsimp only at hr_1
  obtain ⟨hP1, hK1, hD1⟩ := hB
  rw [ht] at hP1
  obtain ⟨hP, hD⟩ := va_join (wr := [(s2, .inr (1, [.ref bx, .int ik, .int wy, .int op])), (bx, .inr (0, [.int bx0, .int by0, .int bx1, .int by1])), (t0, .inr (5, [.ref d0, .int w, .int h])), (d0, .inl (cI, 4096, .inl g)), (sq, .inr (6, [.ref v1, .ref v2, .int zs])), (v1, .inl (cI, 4096, .inl ga)), (v2, .inl (cI, 4096, .inl gb))]) (w1 := [(h0, .inr (8, [.ref s1, .ref s2, .ref s3, .ref s4, .ref s5, .ref s6, .int ds, .ref sq, va_rf bt])), (s1, .inl (cO, 4, .inr (.inr (.inr (.inr f)))))]) hP hD [0, 1] [2, 3, 4, 5, 6, 7, 8] rfl rfl (by decide) (by decide) hk1 hFc hP1 hD1
  clear hz1 hk1 hFc hKc hDc hPc
  generalize H1 = H at hP hS ⊢
  have hP : va_P D vwCl [(s2, .inr (1, [.ref bx, .int ik, .int wy, .int op])), (bx, .inr (0, [.int bx0, .int by0, .int bx1, .int by1])), (t0, .inr (5, [.ref d0, .int w, .int h])), (d0, .inl (cI, 4096, .inl g)), (sq, .inr (6, [.ref v1, .ref v2, .int zs])), (v1, .inl (cI, 4096, .inl ga)), (v2, .inl (cI, 4096, .inl gb)), (h0, .inr (8, [.ref s1, .ref s2, .ref s3, .ref s4, .ref s5, .ref s6, .int ds, .ref sq, va_rf bt])), (s1, .inl (cO, 4, .inr (.inr (.inr (.inr f)))))] H := hP
  have hD : va_D A [(s2, .inr (1, [.ref bx, .int ik, .int wy, .int op])), (bx, .inr (0, [.int bx0, .int by0, .int bx1, .int by1])), (t0, .inr (5, [.ref d0, .int w, .int h])), (d0, .inl (cI, 4096, .inl g)), (sq, .inr (6, [.ref v1, .ref v2, .int zs])), (v1, .inl (cI, 4096, .inl ga)), (v2, .inl (cI, 4096, .inl gb)), (h0, .inr (8, [.ref s1, .ref s2, .ref s3, .ref s4, .ref s5, .ref s6, .int ds, .ref sq, va_rf bt])), (s1, .inl (cO, 4, .inr (.inr (.inr (.inr f)))))] := hD
  subst hr_1
  refine my_topv (v := .ref t0) rfl ?_
  refine lv_astore (lv' := [(5, .ref t0), (0, .ref h0), (1, .int k), (2, .int x), (3, .int y), (4, .int co)]) hx hb dX8_flood_5 hl (by decide) rfl (fun ls hl => ?_)
  refine lv_aload hx hb dX8_flood_7 (lv_at hl 0 rfl) ?_
  refine lv_ifnull hx hb dX8_flood_9 ?_
  refine lv_aload hx hb dX8_flood_12 (lv_at hl 0 rfl) ?_
  refine lv_iload_n hx hb dX8_flood_14 rfl (lv_at hl 3 rfl) ?_
  refine lv_iload_n hx hb dX8_flood_15 rfl (lv_at hl 4 rfl) ?_
  have hPc := hP.sub (ws' := [(t0, .inr (5, [.ref d0, .int w, .int h]))]) [2] rfl
  have hDc := hD.sub (ws' := [(t0, .inr (5, [.ref d0, .int w, .int h]))]) [2] (by decide) rfl
  have hKc := hK.sub (tys' := []) [] rfl
  have hFc := va_free (wc := [(t0, .inr (5, [.ref d0, .int w, .int h]))]) hD hS hA [2] rfl
  refine va_calli (va_runV (As := [.int x, .int y]) (rest := []) ⟨hx, hb, hml, hown, hts⟩ (k_X5_has l D H.size t0 d0 w h x y) (cwV 2 hts (gV bw_309 bw_150 bw_151 bw_130 bw_149) rfl rfl rfl (by decide +kernel) ⟨(by rw [hR]; exact Nat.le_of_ble_eq_true rfl), (by rw [hR]; exact Nat.le_of_ble_eq_true rfl)⟩) ⟨cP_blind, va_recv hKc hPc (ci := 5) (q0 := 0) rfl rfl, cP_at hPc hKc hDc hN⟩ rfl rfl hl.1 rfl (lv_room (Nat.le_of_ble_eq_true rfl)) dX8_flood_16 ⟨(by rw [hR]; exact Nat.le_of_ble_eq_true rfl), (by rw [hR]; exact Nat.le_of_ble_eq_true rfl)⟩) hS (fun q _ h => hFc q h) hFc (fun r_2 u9 t9 H1 locs ht hvm hr_2 hB hz1 hk1 hS => ?_)
  try dsimp only at hr_2
  obtain ⟨hP1, hK1, hD1⟩ := hB
  rw [ht] at hP1
  obtain ⟨hP, hD⟩ := va_join (wr := [(s2, .inr (1, [.ref bx, .int ik, .int wy, .int op])), (bx, .inr (0, [.int bx0, .int by0, .int bx1, .int by1])), (d0, .inl (cI, 4096, .inl g)), (sq, .inr (6, [.ref v1, .ref v2, .int zs])), (v1, .inl (cI, 4096, .inl ga)), (v2, .inl (cI, 4096, .inl gb)), (h0, .inr (8, [.ref s1, .ref s2, .ref s3, .ref s4, .ref s5, .ref s6, .int ds, .ref sq, va_rf bt])), (s1, .inl (cO, 4, .inr (.inr (.inr (.inr f)))))]) (w1 := [(t0, .inr (5, [.ref d0, .int w, .int h]))]) hP hD [2] [0, 1, 3, 4, 5, 6, 7, 8] rfl rfl (by decide) (by decide) hk1 hFc hP1 hD1
  clear hz1 hk1 hFc hKc hDc hPc
  generalize H1 = H at hP hS ⊢
  have hP : va_P D vwCl [(s2, .inr (1, [.ref bx, .int ik, .int wy, .int op])), (bx, .inr (0, [.int bx0, .int by0, .int bx1, .int by1])), (d0, .inl (cI, 4096, .inl g)), (sq, .inr (6, [.ref v1, .ref v2, .int zs])), (v1, .inl (cI, 4096, .inl ga)), (v2, .inl (cI, 4096, .inl gb)), (h0, .inr (8, [.ref s1, .ref s2, .ref s3, .ref s4, .ref s5, .ref s6, .int ds, .ref sq, va_rf bt])), (s1, .inl (cO, 4, .inr (.inr (.inr (.inr f))))), (t0, .inr (5, [.ref d0, .int w, .int h]))] H := hP
  have hD : va_D A [(s2, .inr (1, [.ref bx, .int ik, .int wy, .int op])), (bx, .inr (0, [.int bx0, .int by0, .int bx1, .int by1])), (d0, .inl (cI, 4096, .inl g)), (sq, .inr (6, [.ref v1, .ref v2, .int zs])), (v1, .inl (cI, 4096, .inl ga)), (v2, .inl (cI, 4096, .inl gb)), (h0, .inr (8, [.ref s1, .ref s2, .ref s3, .ref s4, .ref s5, .ref s6, .int ds, .ref sq, va_rf bt])), (s1, .inl (cO, 4, .inr (.inr (.inr (.inr f))))), (t0, .inr (5, [.ref d0, .int w, .int h]))] := hD
  refine lv_if_ne (tgt := 24) hx hb dX8_flood_19 (by decide) (fun c_3 => ?_) (fun c_3 => ?_)
  · skip
    have f_4 := bz1 hr_2 c_3
    refine lv_aload_n hx hb dX8_flood_24 rfl (lv_at hl 1 rfl) ?_
    refine lv_aload hx hb dX8_flood_25 (lv_at hl 0 rfl) ?_
    refine lv_aload_n hx hb dX8_flood_27 rfl (lv_at hl 1 rfl) ?_
    refine va_get (D := D) (ci := 8) (v := .ref s2) (C := RX8) (T := TX8) (N := 9) hx hb hts hi_X8 hown hK hP 6 rfl rfl 1 (by decide) (hts _ bw_231) (fun _ h9 => h9) rfl dX8_flood_28 ?_
    refine va_getN (host := RX8) (D := D) (ci := 1) (v := .ref bx) (C := RX1) (T := TX1) (N := 4) hx hb hts hi_X1 hown hK hP 0 rfl rfl 0 (by decide) ((hN.1 (RX8, 89, "DotBench$Brush", "clip", "LDotBench$Box;", RX8) (by decide +kernel)).use rfl) (fun _ h9 => h9) rfl dX8_flood_31 ?_
    refine lv_iload_n hx hb dX8_flood_34 rfl (lv_at hl 3 rfl) ?_
    refine lv_iload_n hx hb dX8_flood_35 rfl (lv_at hl 4 rfl) ?_
    refine lv_iload hx hb dX8_flood_36 (lv_at hl 5 rfl) ?_
    have hPc := hP.sub (ws' := [(h0, .inr (8, [.ref s1, .ref s2, .ref s3, .ref s4, .ref s5, .ref s6, .int ds, .ref sq, va_rf bt])), (sq, .inr (6, [.ref v1, .ref v2, .int zs])), (v1, .inl (cI, 4096, .inl ga)), (v2, .inl (cI, 4096, .inl gb)), (t0, .inr (5, [.ref d0, .int w, .int h])), (d0, .inl (cI, 4096, .inl g)), (bx, .inr (0, [.int bx0, .int by0, .int bx1, .int by1]))]) [6, 3, 4, 5, 8, 2, 1] rfl
    have hDc := hD.sub (ws' := [(h0, .inr (8, [.ref s1, .ref s2, .ref s3, .ref s4, .ref s5, .ref s6, .int ds, .ref sq, va_rf bt])), (sq, .inr (6, [.ref v1, .ref v2, .int zs])), (v1, .inl (cI, 4096, .inl ga)), (v2, .inl (cI, 4096, .inl gb)), (t0, .inr (5, [.ref d0, .int w, .int h])), (d0, .inl (cI, 4096, .inl g)), (bx, .inr (0, [.int bx0, .int by0, .int bx1, .int by1]))]) [6, 3, 4, 5, 8, 2, 1] (by decide) rfl
    have hKc := hK.sub (tys' := [(cI, .int)]) [1] rfl
    have hFc := va_free (wc := [(h0, .inr (8, [.ref s1, .ref s2, .ref s3, .ref s4, .ref s5, .ref s6, .int ds, .ref sq, va_rf bt])), (sq, .inr (6, [.ref v1, .ref v2, .int zs])), (v1, .inl (cI, 4096, .inl ga)), (v2, .inl (cI, 4096, .inl gb)), (t0, .inr (5, [.ref d0, .int w, .int h])), (d0, .inl (cI, 4096, .inl g)), (bx, .inr (0, [.int bx0, .int by0, .int bx1, .int by1]))]) hD hS hA [6, 3, 4, 5, 8, 2, 1] rfl
    refine va_callq (va_runV (As := [.ref t0, .ref bx, .int x, .int y, .int co]) (rest := []) ⟨hx, hb, hml, hown, hts⟩ (k_X8_gathered_1 l D H.size h0 s1 s2 s3 s4 s5 s6 ds bt sq v1 v2 zs ga gb t0 d0 bx w h g bx0 by0 bx1 by1 x y co cI (by first | assumption | omega | decide) (by first | assumption | omega | decide)) (cwV 5 hts (gV bw_310 bw_378 bw_379 bw_223 bw_377) rfl rfl rfl (by decide +kernel) ⟨(by rw [hR]; exact Nat.le_of_ble_eq_true rfl), (by rw [hR]; exact Nat.le_of_ble_eq_true rfl)⟩) ⟨cP_blind, va_recv hKc hPc (ci := 8) (q0 := 0) rfl rfl, cP_at hPc hKc hDc hN⟩ rfl rfl hl.1 rfl (lv_room (Nat.le_of_ble_eq_true rfl)) dX8_flood_38 ⟨(by rw [hR]; exact Nat.le_of_ble_eq_true rfl), (by rw [hR]; exact Nat.le_of_ble_eq_true rfl)⟩) hS (fun q _ h => hFc q h) hFc (fun r_5 u9 t9 H1 locs ht hvm hr_5 hB hz1 hk1 hS => ?_)
    try dsimp only at hr_5
    obtain ⟨v_6, g_7, g_8, b_9, hP1, hK1, hD1⟩ := hB
    rw [ht] at hP1
    obtain ⟨hP, hD⟩ := va_join (wr := [(s2, .inr (1, [.ref bx, .int ik, .int wy, .int op])), (s1, .inl (cO, 4, .inr (.inr (.inr (.inr f)))))]) (w1 := [(h0, .inr (8, [.ref s1, .ref s2, .ref s3, .ref s4, .ref s5, .ref s6, .int ds, .ref sq, va_rf bt])), (sq, .inr (6, [.ref v1, .ref v2, .int v_6])), (v1, .inl (cI, 4096, .inl g_7)), (v2, .inl (cI, 4096, .inl g_8)), (t0, .inr (5, [.ref d0, .int w, .int h])), (d0, .inl (cI, 4096, .inl g)), (bx, .inr (0, [.int bx0, .int by0, .int bx1, .int by1]))]) hP hD [6, 3, 4, 5, 8, 2, 1] [0, 7] rfl rfl (by decide) (by decide) hk1 hFc hP1 hD1
    clear hz1 hk1 hFc hKc hDc hPc
    generalize H1 = H at hP hS ⊢
    have hP : va_P D vwCl [(s2, .inr (1, [.ref bx, .int ik, .int wy, .int op])), (s1, .inl (cO, 4, .inr (.inr (.inr (.inr f))))), (h0, .inr (8, [.ref s1, .ref s2, .ref s3, .ref s4, .ref s5, .ref s6, .int ds, .ref sq, va_rf bt])), (sq, .inr (6, [.ref v1, .ref v2, .int v_6])), (v1, .inl (cI, 4096, .inl g_7)), (v2, .inl (cI, 4096, .inl g_8)), (t0, .inr (5, [.ref d0, .int w, .int h])), (d0, .inl (cI, 4096, .inl g)), (bx, .inr (0, [.int bx0, .int by0, .int bx1, .int by1]))] H := hP
    have hD : va_D A [(s2, .inr (1, [.ref bx, .int ik, .int wy, .int op])), (s1, .inl (cO, 4, .inr (.inr (.inr (.inr f))))), (h0, .inr (8, [.ref s1, .ref s2, .ref s3, .ref s4, .ref s5, .ref s6, .int ds, .ref sq, va_rf bt])), (sq, .inr (6, [.ref v1, .ref v2, .int v_6])), (v1, .inl (cI, 4096, .inl g_7)), (v2, .inl (cI, 4096, .inl g_8)), (t0, .inr (5, [.ref d0, .int w, .int h])), (d0, .inl (cI, 4096, .inl g)), (bx, .inr (0, [.int bx0, .int by0, .int bx1, .int by1]))] := hD
    have hzz : 0 ≤ v_6.toInt ∧ v_6.toInt ≤ 4096 := b_9
    subst hr_5
    refine my_topv (v := .ref sq) rfl ?_
    refine lv_astore (lv' := [(6, .ref sq), (5, .ref t0), (0, .ref h0), (1, .int k), (2, .int x), (3, .int y), (4, .int co)]) hx hb dX8_flood_41 hl (by decide) rfl (fun ls hl => ?_)
    refine lv_iconst (v := 0) hx hb dX8_flood_43 (by decide) ?_
    refine lv_istore (lv' := [(7, .int 0), (6, .ref sq), (5, .ref t0), (0, .ref h0), (1, .int k), (2, .int x), (3, .int y), (4, .int co)]) hx hb dX8_flood_44 hl (by decide) rfl (fun ls hl => ?_)
    refine lv_iconst (v := 0) hx hb dX8_flood_46 (by decide) ?_
    refine lv_istore (lv' := [(8, .int 0), (7, .int 0), (6, .ref sq), (5, .ref t0), (0, .ref h0), (1, .int k), (2, .int x), (3, .int y), (4, .int co)]) hx hb dX8_flood_47 hl (by decide) rfl (fun ls hl => ?_)
    have loop_10 : ∀ (n : Nat) (j : Nat) (x8 : Int32) (x7 : Int32) (gd : Nat → Int32) (H : Heap) (locs : List Loc) (ls : Array Slot), (j ≤ 4096) → (4096 + 1 ≤ j + n) → (x8 = nI j) → va_P D vwCl [(s2, .inr (1, [.ref bx, .int ik, .int wy, .int op])), (s1, .inl (cO, 4, .inr (.inr (.inr (.inr f))))), (h0, .inr (8, [.ref s1, .ref s2, .ref s3, .ref s4, .ref s5, .ref s6, .int ds, .ref sq, va_rf bt])), (sq, .inr (6, [.ref v1, .ref v2, .int v_6])), (v1, .inl (cI, 4096, .inl g_7)), (v2, .inl (cI, 4096, .inl g_8)), (t0, .inr (5, [.ref d0, .int w, .int h])), (d0, .inl (cI, 4096, .inl gd)), (bx, .inr (0, [.int bx0, .int by0, .int bx1, .int by1]))] H → va_D A [(s2, .inr (1, [.ref bx, .int ik, .int wy, .int op])), (s1, .inl (cO, 4, .inr (.inr (.inr (.inr f))))), (h0, .inr (8, [.ref s1, .ref s2, .ref s3, .ref s4, .ref s5, .ref s6, .int ds, .ref sq, va_rf bt])), (sq, .inr (6, [.ref v1, .ref v2, .int v_6])), (v1, .inl (cI, 4096, .inl g_7)), (v2, .inl (cI, 4096, .inl g_8)), (t0, .inr (5, [.ref d0, .int w, .int h])), (d0, .inl (cI, 4096, .inl gd)), (bx, .inr (0, [.int bx0, .int by0, .int bx1, .int by1]))] → va_S A s.heap H locs → lv_has ls 9 [(8, .int x8), (7, .int x7), (6, .ref sq), (5, .ref t0), (0, .ref h0), (1, .int k), (2, .int x), (3, .int y), (4, .int co)] → W p l e R s m ([.ref h0, .int k, .int x, .int y, .int co] : List Value).toArray below meth c H locs 0 0 Q (F0 m 49 ls []) := by
      intro n
      induction n with
      | zero =>
        intro j x8 x7 gd H locs ls hi_j hm_j ex_j hP hD hS hl
        exact absurd (show False by omega) not_false
      | succ n ih_11 =>
        intro j x8 x7 gd H locs ls hi_j hm_j ex_j hP hD hS hl
        have hx_j : x8.toInt = (j : Int) := by rw [ex_j]; exact nI_toInt (by omega)
        have hc_j : x8.toNatClampNeg = j := by rw [ex_j]; exact nI_clamp (by omega)
        refine lv_iload hx hb dX8_flood_49 (lv_at hl 0 rfl) ?_
        refine lv_aload hx hb dX8_flood_51 (lv_at hl 2 rfl) ?_
        refine va_getN (host := RX8) (D := D) (ci := 6) (v := .int v_6) (C := RX6) (T := TX6) (N := 3) hx hb hts hi_X6 hown hK hP 3 rfl rfl 2 (by decide) ((hN.1 (RX8, 180, "DotBench$Spread", "size", "I", RX8) (by decide +kernel)).use rfl) (fun _ h9 => h9) rfl dX8_flood_53 ?_
        refine lv_icmp_ge (tgt := 107) hx hb dX8_flood_56 (by decide) (fun c_12 => ?_) (fun c_12 => ?_)
        · skip
          have f_13 : v_6.toInt ≤ (j : Int) := f_le rfl hx_j c_12
          refine lv_iload hx hb dX8_flood_107 (lv_at hl 1 rfl) ?_
          have hP9 := hP.sub (ws' := [(h0, .inr (8, [.ref s1, .ref s2, .ref s3, .ref s4, .ref s5, .ref s6, .int ds, .ref sq, va_rf bt])), (s1, .inl (cO, 4, .inr (.inr (.inr (.inr f))))), (s2, .inr (1, [.ref bx, .int ik, .int wy, .int op])), (bx, .inr (0, [.int bx0, .int by0, .int bx1, .int by1])), (t0, .inr (5, [.ref d0, .int w, .int h])), (d0, .inl (cI, 4096, .inl gd)), (sq, .inr (6, [.ref v1, .ref v2, .int v_6])), (v1, .inl (cI, 4096, .inl g_7)), (v2, .inl (cI, 4096, .inl g_8))]) [2, 1, 0, 8, 6, 7, 3, 4, 5] rfl
          have hD9 := hD.sub (ws' := [(h0, .inr (8, [.ref s1, .ref s2, .ref s3, .ref s4, .ref s5, .ref s6, .int ds, .ref sq, va_rf bt])), (s1, .inl (cO, 4, .inr (.inr (.inr (.inr f))))), (s2, .inr (1, [.ref bx, .int ik, .int wy, .int op])), (bx, .inr (0, [.int bx0, .int by0, .int bx1, .int by1])), (t0, .inr (5, [.ref d0, .int w, .int h])), (d0, .inl (cI, 4096, .inl gd)), (sq, .inr (6, [.ref v1, .ref v2, .int v_6])), (v1, .inl (cI, 4096, .inl g_7)), (v2, .inl (cI, 4096, .inl g_8))]) [2, 1, 0, 8, 6, 7, 3, 4, 5] (by decide) rfl
          have hK9 := hK.sub (tys' := [(cO, .object "DotBench$Sheet"), (cI, .int)]) [0, 1] rfl
          refine hQ _ _ _ _ _ ?_
          exact W.iret (v := x7) hx hb hr (fun t ht hW => ⟨⟨x7, (), rfl, trivial, ⟨v_6, g_7, g_8, gd, by rw [ht]; exact hP9, va_K.moved hW.alike hK9, hD9⟩⟩, hS.F ht⟩) hS.2.2 dX8_flood_109
        · skip
          have f_13 : ¬ (v_6.toInt ≤ (j : Int)) := fn_le rfl hx_j c_12
          refine lv_iload hx hb dX8_flood_59 (lv_at hl 1 rfl) ?_
          refine lv_aload_n hx hb dX8_flood_61 rfl (lv_at hl 4 rfl) ?_
          refine va_get (D := D) (ci := 8) (v := .ref s2) (C := RX8) (T := TX8) (N := 9) hx hb hts hi_X8 hown hK hP 2 rfl rfl 1 (by decide) (hts _ bw_231) (fun _ h9 => h9) rfl dX8_flood_62 ?_
          refine lv_aload hx hb dX8_flood_65 (lv_at hl 3 rfl) ?_
          refine lv_aload hx hb dX8_flood_67 (lv_at hl 2 rfl) ?_
          refine lv_iload hx hb dX8_flood_69 (lv_at hl 0 rfl) ?_
          have hPc := hP.sub (ws' := [(sq, .inr (6, [.ref v1, .ref v2, .int v_6])), (v1, .inl (cI, 4096, .inl g_7))]) [3, 4] rfl
          have hDc := hD.sub (ws' := [(sq, .inr (6, [.ref v1, .ref v2, .int v_6])), (v1, .inl (cI, 4096, .inl g_7))]) [3, 4] (by decide) rfl
          have hKc := hK.sub (tys' := [(cI, .int)]) [1] rfl
          have hFc := va_free (wc := [(sq, .inr (6, [.ref v1, .ref v2, .int v_6])), (v1, .inl (cI, 4096, .inl g_7))]) hD hS hA [3, 4] rfl
          refine va_calli (va_runV (As := [.int x8]) (rest := [.ref t0, .ref s2, .int x7]) ⟨hx, hb, hml, hown, hts⟩ (k_X6_xAt l D H.size sq v1 v2 v_6 g_7 x8 cI (by first | assumption | omega | decide)) (cwV 1 hts (gV bw_311 bw_185 bw_186 bw_168 bw_184) rfl rfl rfl (by decide +kernel) ⟨(by rw [hR]; exact Nat.le_of_ble_eq_true rfl), (by rw [hR]; exact Nat.le_of_ble_eq_true rfl)⟩) ⟨cP_blind, va_recv hKc hPc (ci := 6) (q0 := 0) rfl rfl, cP_at hPc hKc hDc hN⟩ rfl rfl hl.1 rfl (lv_room (Nat.le_of_ble_eq_true rfl)) dX8_flood_71 ⟨(by rw [hR]; exact Nat.le_of_ble_eq_true rfl), (by rw [hR]; exact Nat.le_of_ble_eq_true rfl)⟩) hS (fun q _ h => hFc q h) hFc (fun r_14 u9 t9 H1 locs ht hvm hr_14 hB hz1 hk1 hS => ?_)
          try dsimp only at hr_14
          obtain ⟨hP1, hK1, hD1⟩ := hB
          rw [ht] at hP1
          obtain ⟨hP, hD⟩ := va_join (wr := [(s2, .inr (1, [.ref bx, .int ik, .int wy, .int op])), (s1, .inl (cO, 4, .inr (.inr (.inr (.inr f))))), (h0, .inr (8, [.ref s1, .ref s2, .ref s3, .ref s4, .ref s5, .ref s6, .int ds, .ref sq, va_rf bt])), (v2, .inl (cI, 4096, .inl g_8)), (t0, .inr (5, [.ref d0, .int w, .int h])), (d0, .inl (cI, 4096, .inl gd)), (bx, .inr (0, [.int bx0, .int by0, .int bx1, .int by1]))]) (w1 := [(sq, .inr (6, [.ref v1, .ref v2, .int v_6])), (v1, .inl (cI, 4096, .inl g_7))]) hP hD [3, 4] [0, 1, 2, 5, 6, 7, 8] rfl rfl (by decide) (by decide) hk1 hFc hP1 hD1
          clear hz1 hk1 hFc hKc hDc hPc
          generalize H1 = H at hP hS ⊢
          have hP : va_P D vwCl [(s2, .inr (1, [.ref bx, .int ik, .int wy, .int op])), (s1, .inl (cO, 4, .inr (.inr (.inr (.inr f))))), (h0, .inr (8, [.ref s1, .ref s2, .ref s3, .ref s4, .ref s5, .ref s6, .int ds, .ref sq, va_rf bt])), (v2, .inl (cI, 4096, .inl g_8)), (t0, .inr (5, [.ref d0, .int w, .int h])), (d0, .inl (cI, 4096, .inl gd)), (bx, .inr (0, [.int bx0, .int by0, .int bx1, .int by1])), (sq, .inr (6, [.ref v1, .ref v2, .int v_6])), (v1, .inl (cI, 4096, .inl g_7))] H := hP
          have hD : va_D A [(s2, .inr (1, [.ref bx, .int ik, .int wy, .int op])), (s1, .inl (cO, 4, .inr (.inr (.inr (.inr f))))), (h0, .inr (8, [.ref s1, .ref s2, .ref s3, .ref s4, .ref s5, .ref s6, .int ds, .ref sq, va_rf bt])), (v2, .inl (cI, 4096, .inl g_8)), (t0, .inr (5, [.ref d0, .int w, .int h])), (d0, .inl (cI, 4096, .inl gd)), (bx, .inr (0, [.int bx0, .int by0, .int bx1, .int by1])), (sq, .inr (6, [.ref v1, .ref v2, .int v_6])), (v1, .inl (cI, 4096, .inl g_7))] := hD
          refine lv_aload hx hb dX8_flood_74 (lv_at hl 2 rfl) ?_
          refine lv_iload hx hb dX8_flood_76 (lv_at hl 0 rfl) ?_
          have hPc := hP.sub (ws' := [(sq, .inr (6, [.ref v1, .ref v2, .int v_6])), (v1, .inl (cI, 4096, .inl g_7))]) [7, 8] rfl
          have hDc := hD.sub (ws' := [(sq, .inr (6, [.ref v1, .ref v2, .int v_6])), (v1, .inl (cI, 4096, .inl g_7))]) [7, 8] (by decide) rfl
          have hKc := hK.sub (tys' := [(cI, .int)]) [1] rfl
          have hFc := va_free (wc := [(sq, .inr (6, [.ref v1, .ref v2, .int v_6])), (v1, .inl (cI, 4096, .inl g_7))]) hD hS hA [7, 8] rfl
          refine va_calli (va_runV (As := [.int x8]) (rest := [.int r_14, .ref t0, .ref s2, .int x7]) ⟨hx, hb, hml, hown, hts⟩ (k_X6_yAt l D H.size sq v1 v2 v_6 g_7 x8 cI (by first | assumption | omega | decide)) (cwV 1 hts (gV bw_312 bw_188 bw_189 bw_168 bw_187) rfl rfl rfl (by decide +kernel) ⟨(by rw [hR]; exact Nat.le_of_ble_eq_true rfl), (by rw [hR]; exact Nat.le_of_ble_eq_true rfl)⟩) ⟨cP_blind, va_recv hKc hPc (ci := 6) (q0 := 0) rfl rfl, cP_at hPc hKc hDc hN⟩ rfl rfl hl.1 rfl (lv_room (Nat.le_of_ble_eq_true rfl)) dX8_flood_78 ⟨(by rw [hR]; exact Nat.le_of_ble_eq_true rfl), (by rw [hR]; exact Nat.le_of_ble_eq_true rfl)⟩) hS (fun q _ h => hFc q h) hFc (fun r_15 u9 t9 H1 locs ht hvm hr_15 hB hz1 hk1 hS => ?_)
          try dsimp only at hr_15
          obtain ⟨hP1, hK1, hD1⟩ := hB
          rw [ht] at hP1
          obtain ⟨hP, hD⟩ := va_join (wr := [(s2, .inr (1, [.ref bx, .int ik, .int wy, .int op])), (s1, .inl (cO, 4, .inr (.inr (.inr (.inr f))))), (h0, .inr (8, [.ref s1, .ref s2, .ref s3, .ref s4, .ref s5, .ref s6, .int ds, .ref sq, va_rf bt])), (v2, .inl (cI, 4096, .inl g_8)), (t0, .inr (5, [.ref d0, .int w, .int h])), (d0, .inl (cI, 4096, .inl gd)), (bx, .inr (0, [.int bx0, .int by0, .int bx1, .int by1]))]) (w1 := [(sq, .inr (6, [.ref v1, .ref v2, .int v_6])), (v1, .inl (cI, 4096, .inl g_7))]) hP hD [7, 8] [0, 1, 2, 3, 4, 5, 6] rfl rfl (by decide) (by decide) hk1 hFc hP1 hD1
          clear hz1 hk1 hFc hKc hDc hPc
          generalize H1 = H at hP hS ⊢
          have hP : va_P D vwCl [(s2, .inr (1, [.ref bx, .int ik, .int wy, .int op])), (s1, .inl (cO, 4, .inr (.inr (.inr (.inr f))))), (h0, .inr (8, [.ref s1, .ref s2, .ref s3, .ref s4, .ref s5, .ref s6, .int ds, .ref sq, va_rf bt])), (v2, .inl (cI, 4096, .inl g_8)), (t0, .inr (5, [.ref d0, .int w, .int h])), (d0, .inl (cI, 4096, .inl gd)), (bx, .inr (0, [.int bx0, .int by0, .int bx1, .int by1])), (sq, .inr (6, [.ref v1, .ref v2, .int v_6])), (v1, .inl (cI, 4096, .inl g_7))] H := hP
          have hD : va_D A [(s2, .inr (1, [.ref bx, .int ik, .int wy, .int op])), (s1, .inl (cO, 4, .inr (.inr (.inr (.inr f))))), (h0, .inr (8, [.ref s1, .ref s2, .ref s3, .ref s4, .ref s5, .ref s6, .int ds, .ref sq, va_rf bt])), (v2, .inl (cI, 4096, .inl g_8)), (t0, .inr (5, [.ref d0, .int w, .int h])), (d0, .inl (cI, 4096, .inl gd)), (bx, .inr (0, [.int bx0, .int by0, .int bx1, .int by1])), (sq, .inr (6, [.ref v1, .ref v2, .int v_6])), (v1, .inl (cI, 4096, .inl g_7))] := hD
          refine lv_aload_n hx hb dX8_flood_81 rfl (lv_at hl 4 rfl) ?_
          refine va_get (D := D) (ci := 8) (v := .ref s2) (C := RX8) (T := TX8) (N := 9) hx hb hts hi_X8 hown hK hP 2 rfl rfl 1 (by decide) (hts _ bw_231) (fun _ h9 => h9) rfl dX8_flood_82 ?_
          refine va_getN (host := RX8) (D := D) (ci := 1) (v := .int ik) (C := RX1) (T := TX1) (N := 4) hx hb hts hi_X1 hown hK hP 0 rfl rfl 1 (by decide) ((hN.1 (RX8, 76, "DotBench$Brush", "ink", "I", RX8) (by decide +kernel)).use rfl) (fun _ h9 => h9) rfl dX8_flood_85 ?_
          refine lv_aload_n hx hb dX8_flood_88 rfl (lv_at hl 4 rfl) ?_
          refine va_get (D := D) (ci := 8) (v := .ref s2) (C := RX8) (T := TX8) (N := 9) hx hb hts hi_X8 hown hK hP 2 rfl rfl 1 (by decide) (hts _ bw_231) (fun _ h9 => h9) rfl dX8_flood_89 ?_
          refine va_getN (host := RX8) (D := D) (ci := 1) (v := .int op) (C := RX1) (T := TX1) (N := 4) hx hb hts hi_X1 hown hK hP 0 rfl rfl 3 (by decide) ((hN.1 (RX8, 86, "DotBench$Brush", "opacity", "I", RX8) (by decide +kernel)).use rfl) (fun _ h9 => h9) rfl dX8_flood_92 ?_
          have hPc := hP.sub (ws' := [(s2, .inr (1, [.ref bx, .int ik, .int wy, .int op])), (bx, .inr (0, [.int bx0, .int by0, .int bx1, .int by1])), (t0, .inr (5, [.ref d0, .int w, .int h])), (d0, .inl (cI, 4096, .inl gd))]) [0, 6, 4, 5] rfl
          have hDc := hD.sub (ws' := [(s2, .inr (1, [.ref bx, .int ik, .int wy, .int op])), (bx, .inr (0, [.int bx0, .int by0, .int bx1, .int by1])), (t0, .inr (5, [.ref d0, .int w, .int h])), (d0, .inl (cI, 4096, .inl gd))]) [0, 6, 4, 5] (by decide) rfl
          have hKc := hK.sub (tys' := [(cI, .int)]) [1] rfl
          have hFc := va_free (wc := [(s2, .inr (1, [.ref bx, .int ik, .int wy, .int op])), (bx, .inr (0, [.int bx0, .int by0, .int bx1, .int by1])), (t0, .inr (5, [.ref d0, .int w, .int h])), (d0, .inl (cI, 4096, .inl gd))]) hD hS hA [0, 6, 4, 5] rfl
          refine va_calli (va_runV (As := [.ref t0, .int r_14, .int r_15, .int ik, .int op]) (rest := [.int x7]) ⟨hx, hb, hml, hown, hts⟩ (k_X1_lay l D H.size s2 bx ik wy op t0 d0 bx0 by0 bx1 by1 w h gd r_14 r_15 ik op cI (by first | assumption | omega | decide) (by first | assumption | omega | decide) (by first | assumption | omega | decide)) (cwV 5 hts (gV bw_276 bw_33 bw_34 bw_19 bw_32) rfl rfl rfl (by decide +kernel) ⟨(by rw [hR]; exact Nat.le_of_ble_eq_true rfl), (by rw [hR]; exact Nat.le_of_ble_eq_true rfl)⟩) ⟨cP_blind, va_recv hKc hPc (ci := 1) (q0 := 0) rfl rfl, cP_at hPc hKc hDc hN⟩ rfl rfl hl.1 rfl (lv_room (Nat.le_of_ble_eq_true rfl)) dX8_flood_95 ⟨(by rw [hR]; exact Nat.le_of_ble_eq_true rfl), (by rw [hR]; exact Nat.le_of_ble_eq_true rfl)⟩) hS (fun q _ h => hFc q h) hFc (fun r_16 u9 t9 H1 locs ht hvm hr_16 hB hz1 hk1 hS => ?_)
          try dsimp only at hr_16
          obtain ⟨hP1, hK1, hD1⟩ := hB
          rw [ht] at hP1
          obtain ⟨hP, hD⟩ := va_join (wr := [(s1, .inl (cO, 4, .inr (.inr (.inr (.inr f))))), (h0, .inr (8, [.ref s1, .ref s2, .ref s3, .ref s4, .ref s5, .ref s6, .int ds, .ref sq, va_rf bt])), (v2, .inl (cI, 4096, .inl g_8)), (sq, .inr (6, [.ref v1, .ref v2, .int v_6])), (v1, .inl (cI, 4096, .inl g_7))]) (w1 := [(s2, .inr (1, [.ref bx, .int ik, .int wy, .int op])), (bx, .inr (0, [.int bx0, .int by0, .int bx1, .int by1])), (t0, .inr (5, [.ref d0, .int w, .int h])), (d0, .inl (cI, 4096, .inl (if 0 ≤ r_14.toInt ∧ r_14.toInt < w.toInt ∧ 0 ≤ r_15.toInt ∧ r_15.toInt < h.toInt ∧ bx0.toInt ≤ r_14.toInt ∧ r_14.toInt ≤ bx1.toInt ∧ by0.toInt ≤ r_15.toInt ∧ r_15.toInt ≤ by1.toInt then upd gd (ixP r_14 r_15) (laidP wy ik (gd (ixP r_14 r_15)) op) else gd)))]) hP hD [0, 6, 4, 5] [1, 2, 3, 7, 8] rfl rfl (by decide) (by decide) hk1 hFc hP1 hD1
          clear hz1 hk1 hFc hKc hDc hPc
          generalize H1 = H at hP hS ⊢
          have hP : va_P D vwCl [(s1, .inl (cO, 4, .inr (.inr (.inr (.inr f))))), (h0, .inr (8, [.ref s1, .ref s2, .ref s3, .ref s4, .ref s5, .ref s6, .int ds, .ref sq, va_rf bt])), (v2, .inl (cI, 4096, .inl g_8)), (sq, .inr (6, [.ref v1, .ref v2, .int v_6])), (v1, .inl (cI, 4096, .inl g_7)), (s2, .inr (1, [.ref bx, .int ik, .int wy, .int op])), (bx, .inr (0, [.int bx0, .int by0, .int bx1, .int by1])), (t0, .inr (5, [.ref d0, .int w, .int h])), (d0, .inl (cI, 4096, .inl (if 0 ≤ r_14.toInt ∧ r_14.toInt < w.toInt ∧ 0 ≤ r_15.toInt ∧ r_15.toInt < h.toInt ∧ bx0.toInt ≤ r_14.toInt ∧ r_14.toInt ≤ bx1.toInt ∧ by0.toInt ≤ r_15.toInt ∧ r_15.toInt ≤ by1.toInt then upd gd (ixP r_14 r_15) (laidP wy ik (gd (ixP r_14 r_15)) op) else gd)))] H := hP
          have hD : va_D A [(s1, .inl (cO, 4, .inr (.inr (.inr (.inr f))))), (h0, .inr (8, [.ref s1, .ref s2, .ref s3, .ref s4, .ref s5, .ref s6, .int ds, .ref sq, va_rf bt])), (v2, .inl (cI, 4096, .inl g_8)), (sq, .inr (6, [.ref v1, .ref v2, .int v_6])), (v1, .inl (cI, 4096, .inl g_7)), (s2, .inr (1, [.ref bx, .int ik, .int wy, .int op])), (bx, .inr (0, [.int bx0, .int by0, .int bx1, .int by1])), (t0, .inr (5, [.ref d0, .int w, .int h])), (d0, .inl (cI, 4096, .inl (if 0 ≤ r_14.toInt ∧ r_14.toInt < w.toInt ∧ 0 ≤ r_15.toInt ∧ r_15.toInt < h.toInt ∧ bx0.toInt ≤ r_14.toInt ∧ r_14.toInt ≤ bx1.toInt ∧ by0.toInt ≤ r_15.toInt ∧ r_15.toInt ≤ by1.toInt then upd gd (ixP r_14 r_15) (laidP wy ik (gd (ixP r_14 r_15)) op) else gd)))] := hD
          refine lv_iadd hx hb dX8_flood_98 ?_
          refine lv_topi (fun y_17 ey_17 => ?_)
          refine lv_istore (lv' := [(7, .int y_17), (8, .int x8), (6, .ref sq), (5, .ref t0), (0, .ref h0), (1, .int k), (2, .int x), (3, .int y), (4, .int co)]) hx hb dX8_flood_99 hl (by decide) rfl (fun ls hl => ?_)
          obtain ⟨y_18, ey_18⟩ : ∃ y : Int32, y = x8 + 1 := ⟨_, rfl⟩
          refine lv_iinc (v := y_18) (lv' := [(8, .int y_18), (7, .int y_17), (6, .ref sq), (5, .ref t0), (0, .ref h0), (1, .int k), (2, .int x), (3, .int y), (4, .int co)]) hx hb dX8_flood_101 hl (k := 1) rfl (by rw [ey_18]; rfl) (by decide) rfl (fun ls hl => ?_)
          refine lv_goto (tgt := 49) hx hb dX8_flood_104 (by decide) ?_
          exact ih_11 (j + 1) y_18 y_17 (if 0 ≤ r_14.toInt ∧ r_14.toInt < w.toInt ∧ 0 ≤ r_15.toInt ∧ r_15.toInt < h.toInt ∧ bx0.toInt ≤ r_14.toInt ∧ r_14.toInt ≤ bx1.toInt ∧ by0.toInt ≤ r_15.toInt ∧ r_15.toInt ≤ by1.toInt then upd gd (ixP r_14 r_15) (laidP wy ik (gd (ixP r_14 r_15)) op) else gd) _ _ _ (by omega) (by omega) (by rw [ey_18, ex_j]; exact nI_1 j) (hP.sub (ws' := [(s2, .inr (1, [.ref bx, .int ik, .int wy, .int op])), (s1, .inl (cO, 4, .inr (.inr (.inr (.inr f))))), (h0, .inr (8, [.ref s1, .ref s2, .ref s3, .ref s4, .ref s5, .ref s6, .int ds, .ref sq, va_rf bt])), (sq, .inr (6, [.ref v1, .ref v2, .int v_6])), (v1, .inl (cI, 4096, .inl g_7)), (v2, .inl (cI, 4096, .inl g_8)), (t0, .inr (5, [.ref d0, .int w, .int h])), (d0, .inl (cI, 4096, .inl (if 0 ≤ r_14.toInt ∧ r_14.toInt < w.toInt ∧ 0 ≤ r_15.toInt ∧ r_15.toInt < h.toInt ∧ bx0.toInt ≤ r_14.toInt ∧ r_14.toInt ≤ bx1.toInt ∧ by0.toInt ≤ r_15.toInt ∧ r_15.toInt ≤ by1.toInt then upd gd (ixP r_14 r_15) (laidP wy ik (gd (ixP r_14 r_15)) op) else gd))), (bx, .inr (0, [.int bx0, .int by0, .int bx1, .int by1]))]) [5, 0, 1, 3, 4, 2, 7, 8, 6] rfl) (hD.sub (ws' := [(s2, .inr (1, [.ref bx, .int ik, .int wy, .int op])), (s1, .inl (cO, 4, .inr (.inr (.inr (.inr f))))), (h0, .inr (8, [.ref s1, .ref s2, .ref s3, .ref s4, .ref s5, .ref s6, .int ds, .ref sq, va_rf bt])), (sq, .inr (6, [.ref v1, .ref v2, .int v_6])), (v1, .inl (cI, 4096, .inl g_7)), (v2, .inl (cI, 4096, .inl g_8)), (t0, .inr (5, [.ref d0, .int w, .int h])), (d0, .inl (cI, 4096, .inl (if 0 ≤ r_14.toInt ∧ r_14.toInt < w.toInt ∧ 0 ≤ r_15.toInt ∧ r_15.toInt < h.toInt ∧ bx0.toInt ≤ r_14.toInt ∧ r_14.toInt ≤ bx1.toInt ∧ by0.toInt ≤ r_15.toInt ∧ r_15.toInt ≤ by1.toInt then upd gd (ixP r_14 r_15) (laidP wy ik (gd (ixP r_14 r_15)) op) else gd))), (bx, .inr (0, [.int bx0, .int by0, .int bx1, .int by1]))]) [5, 0, 1, 3, 4, 2, 7, 8, 6] (by decide) rfl) hS (lv_sub hl [0, 1, 2, 3, 4, 5, 6, 7, 8] rfl)
    exact loop_10 (4096 + 1) 0 0 0 g _ _ _ (by omega) (by omega) nI_0.symm hP hD hS (lv_sub hl [0, 1, 2, 3, 4, 5, 6, 7, 8] rfl)
  · skip
    have f_4 := bz0 hr_2 c_3
    exact False.elim (by omega)

set_option maxHeartbeats 4000000 in
set_option maxRecDepth 100000 in
theorem k_X8_region_y1 (l : Launch) (D : va_G) (sz : Nat) (h0 s1 s2 s3 s4 s5 s6 : Nat) (ds : Int32) (bt : Option Nat) (f : Nat → Option Nat) (bx0 by0 bx1 by1 : Int32) (t0 d0 : Nat) (w h : Int32) (g : Nat → Int32) (sq v1 v2 : Nat) (zs : Int32) (ga : Nat → Int32) (gb : Nat → Int32) (k x y co : Int32) (cO : ClassId) (cI : ClassId) (hk : 0 ≤ k.toInt ∧ k.toInt ≤ 3) (hf : f k.toNatClampNeg = some t0) (hw : w.toInt ≤ 64) (hh : h.toInt ≤ 64) (hon : 0 ≤ x.toInt ∧ x.toInt < w.toInt ∧ 0 ≤ y.toInt ∧ y.toInt < h.toInt) : Met l yX8_region (wB yX8_region cX8_region 6 (some .int)) ({ frames := 5, cells := 0, slots := 0, locals := 125 }) (cP D [(h0, .inr (8, [.ref s1, .ref s2, .ref s3, .ref s4, .ref s5, .ref s6, .int ds, .ref sq, va_rf bt])), (s1, .inl (cO, 4, .inr (.inr (.inr (.inr f))))), (s3, .inr (0, [.int bx0, .int by0, .int bx1, .int by1])), (t0, .inr (5, [.ref d0, .int w, .int h])), (d0, .inl (cI, 4096, .inl g)), (sq, .inr (6, [.ref v1, .ref v2, .int zs])), (v1, .inl (cI, 4096, .inl ga)), (v2, .inl (cI, 4096, .inl gb))] [(cO, .object "DotBench$Sheet"), (cI, .int)] sz [.ref h0, .int k, .int x, .int y, .int co]) (va_Qi (fun (r : Int32) (_ : Unit) => True) (fun (_ : Unit) (t : State) => ∃ (sz2 : Int32), ∃ (g2 g3 : Nat → Int32), cB D (va_A [(h0, .inr (8, [.ref s1, .ref s2, .ref s3, .ref s4, .ref s5, .ref s6, .int ds, .ref sq, va_rf bt])), (s1, .inl (cO, 4, .inr (.inr (.inr (.inr f))))), (s3, .inr (0, [.int bx0, .int by0, .int bx1, .int by1])), (t0, .inr (5, [.ref d0, .int w, .int h])), (d0, .inl (cI, 4096, .inl g)), (sq, .inr (6, [.ref v1, .ref v2, .int zs])), (v1, .inl (cI, 4096, .inl ga)), (v2, .inl (cI, 4096, .inl gb))] sz) [(h0, .inr (8, [.ref s1, .ref s2, .ref s3, .ref s4, .ref s5, .ref s6, .int ds, .ref sq, va_rf bt])), (s1, .inl (cO, 4, .inr (.inr (.inr (.inr f))))), (s3, .inr (0, [.int bx0, .int by0, .int bx1, .int by1])), (t0, .inr (5, [.ref d0, .int w, .int h])), (d0, .inl (cI, 4096, .inl g)), (sq, .inr (6, [.ref v1, .ref v2, .int sz2])), (v1, .inl (cI, 4096, .inl g2)), (v2, .inl (cI, 4096, .inl g3))] [(cO, .object "DotBench$Sheet"), (cI, .int)] t) (va_A [(h0, .inr (8, [.ref s1, .ref s2, .ref s3, .ref s4, .ref s5, .ref s6, .int ds, .ref sq, va_rf bt])), (s1, .inl (cO, 4, .inr (.inr (.inr (.inr f))))), (s3, .inr (0, [.int bx0, .int by0, .int bx1, .int by1])), (t0, .inr (5, [.ref d0, .int w, .int h])), (d0, .inl (cI, 4096, .inl g)), (sq, .inr (6, [.ref v1, .ref v2, .int zs])), (v1, .inl (cI, 4096, .inl ga)), (v2, .inl (cI, 4096, .inl gb))] sz)) 0 0 (va_A [(h0, .inr (8, [.ref s1, .ref s2, .ref s3, .ref s4, .ref s5, .ref s6, .int ds, .ref sq, va_rf bt])), (s1, .inl (cO, 4, .inr (.inr (.inr (.inr f))))), (s3, .inr (0, [.int bx0, .int by0, .int bx1, .int by1])), (t0, .inr (5, [.ref d0, .int w, .int h])), (d0, .inl (cI, 4096, .inl g)), (sq, .inr (6, [.ref v1, .ref v2, .int zs])), (v1, .inl (cI, 4096, .inl ga)), (v2, .inl (cI, 4096, .inl gb))] sz) := by
  refine Met.ofW (cc := cX8_region) (maxL := 6) (ret := (some .int)) (by decide) rfl ?_
  intro p e s m args below meth c s₁ B hml hv
  obtain ⟨rfl, hsz, hP, hK, hD0, hN⟩ := hv
  have hx := B.exec
  have hb := B.bytes
  have hr := B.returns
  have hts0 := atoms_spec (ws := (wB yX8_region cX8_region 6 (some .int))) B.pre
  have hts : ∀ w ∈ bigW, w.before _ s = true := fun w h => hts0 w (List.mem_cons_of_mem _ h)
  have hown : s.vm.findClass RX8 = some m.cls := findClass_of_methodNamed B.named
  have hlocks := B.notSynchronized
  subst hsz
  have hD := hD0.self (sz := s.heap.size)
  generalize hAe : va_A [(h0, .inr (8, [.ref s1, .ref s2, .ref s3, .ref s4, .ref s5, .ref s6, .int ds, .ref sq, va_rf bt])), (s1, .inl (cO, 4, .inr (.inr (.inr (.inr f))))), (s3, .inr (0, [.int bx0, .int by0, .int bx1, .int by1])), (t0, .inr (5, [.ref d0, .int w, .int h])), (d0, .inl (cI, 4096, .inl g)), (sq, .inr (6, [.ref v1, .ref v2, .int zs])), (v1, .inl (cI, 4096, .inl ga)), (v2, .inl (cI, 4096, .inl gb))] s.heap.size = A at hD ⊢
  have hA : ∀ q : Nat, s.heap.size ≤ q → A q := fun q h => by rw [← hAe]; exact Or.inr h
  have hS : va_S A s.heap s.heap [] := va_S.rf
  have hP : va_P D vwCl [(h0, .inr (8, [.ref s1, .ref s2, .ref s3, .ref s4, .ref s5, .ref s6, .int ds, .ref sq, va_rf bt])), (s1, .inl (cO, 4, .inr (.inr (.inr (.inr f))))), (s3, .inr (0, [.int bx0, .int by0, .int bx1, .int by1])), (t0, .inr (5, [.ref d0, .int w, .int h])), (d0, .inl (cI, 4096, .inl g)), (sq, .inr (6, [.ref v1, .ref v2, .int zs])), (v1, .inl (cI, 4096, .inl ga)), (v2, .inl (cI, 4096, .inl gb))] s.heap := hP
  have hl := lv_entry ([.ref h0, .int k, .int x, .int y, .int co]) (n := 6) (Nat.le_of_ble_eq_true rfl)
  rw [lg_entry_eq]
  generalize (lg_sl ([.ref h0, .int k, .int x, .int y, .int co]) ++ List.replicate (6 - (lg_sl ([.ref h0, .int k, .int x, .int y, .int co])).length) Slot.unset).toArray = ls at hl ⊢
  have hl : lv_has ls 6 [(0, .ref h0), (1, .int k), (2, .int x), (3, .int y), (4, .int co)] := hl
  clear hts0 hD0 hAe
  refine my_abs (fun R Q hR hQ => ?_)
  refine lv_aload_n hx hb dX8_region_0 rfl (lv_at hl 0 rfl) ?_
  refine lv_iload_n hx hb dX8_region_1 rfl (lv_at hl 1 rfl) ?_
  have hPc := hP.sub (ws' := [(h0, .inr (8, [.ref s1, .ref s2, .ref s3, .ref s4, .ref s5, .ref s6, .int ds, .ref sq, va_rf bt])), (s1, .inl (cO, 4, .inr (.inr (.inr (.inr f)))))]) [0, 1] rfl
  have hDc := hD.sub (ws' := [(h0, .inr (8, [.ref s1, .ref s2, .ref s3, .ref s4, .ref s5, .ref s6, .int ds, .ref sq, va_rf bt])), (s1, .inl (cO, 4, .inr (.inr (.inr (.inr f)))))]) [0, 1] (by decide) rfl
  have hKc := hK.sub (tys' := [(cO, .object "DotBench$Sheet")]) [0] rfl
  have hFc := va_free (wc := [(h0, .inr (8, [.ref s1, .ref s2, .ref s3, .ref s4, .ref s5, .ref s6, .int ds, .ref sq, va_rf bt])), (s1, .inl (cO, 4, .inr (.inr (.inr (.inr f)))))]) hD hS hA [0, 1] rfl
  refine va_callq (va_runV (As := [.int k]) (rest := []) ⟨hx, hb, hml, hown, hts⟩ (k_X8_sheetAt_y l D s.heap.size h0 s1 s2 s3 s4 s5 s6 ds (some sq) bt f k t0 cO (by first | assumption | omega | decide) (by first | assumption | omega | decide)) (cwV 1 hts (gV bw_267 bw_346 bw_347 bw_223 bw_345) rfl rfl rfl (by decide +kernel) ⟨(by rw [hR]; exact Nat.le_of_ble_eq_true rfl), (by rw [hR]; exact Nat.le_of_ble_eq_true rfl)⟩) ⟨cP_blind, va_recv hKc hPc (ci := 8) (q0 := 0) rfl rfl, cP_at hPc hKc hDc hN⟩ rfl rfl hl.1 rfl (lv_room (Nat.le_of_ble_eq_true rfl)) dX8_region_2 ⟨(by rw [hR]; exact Nat.le_of_ble_eq_true rfl), (by rw [hR]; exact Nat.le_of_ble_eq_true rfl)⟩) hS (fun q _ h => hFc q h) hFc (fun r_1 u9 t9 H1 locs ht hvm hr_1 hB hz1 hk1 hS => ?_)
  try dsimp only at hr_1
  obtain ⟨hP1, hK1, hD1⟩ := hB
  rw [ht] at hP1
  obtain ⟨hP, hD⟩ := va_join (wr := [(s3, .inr (0, [.int bx0, .int by0, .int bx1, .int by1])), (t0, .inr (5, [.ref d0, .int w, .int h])), (d0, .inl (cI, 4096, .inl g)), (sq, .inr (6, [.ref v1, .ref v2, .int zs])), (v1, .inl (cI, 4096, .inl ga)), (v2, .inl (cI, 4096, .inl gb))]) (w1 := [(h0, .inr (8, [.ref s1, .ref s2, .ref s3, .ref s4, .ref s5, .ref s6, .int ds, .ref sq, va_rf bt])), (s1, .inl (cO, 4, .inr (.inr (.inr (.inr f)))))]) hP hD [0, 1] [2, 3, 4, 5, 6, 7] rfl rfl (by decide) (by decide) hk1 hFc hP1 hD1
  clear hz1 hk1 hFc hKc hDc hPc
  generalize H1 = H at hP hS ⊢
  have hP : va_P D vwCl [(s3, .inr (0, [.int bx0, .int by0, .int bx1, .int by1])), (t0, .inr (5, [.ref d0, .int w, .int h])), (d0, .inl (cI, 4096, .inl g)), (sq, .inr (6, [.ref v1, .ref v2, .int zs])), (v1, .inl (cI, 4096, .inl ga)), (v2, .inl (cI, 4096, .inl gb)), (h0, .inr (8, [.ref s1, .ref s2, .ref s3, .ref s4, .ref s5, .ref s6, .int ds, .ref sq, va_rf bt])), (s1, .inl (cO, 4, .inr (.inr (.inr (.inr f)))))] H := hP
  have hD : va_D A [(s3, .inr (0, [.int bx0, .int by0, .int bx1, .int by1])), (t0, .inr (5, [.ref d0, .int w, .int h])), (d0, .inl (cI, 4096, .inl g)), (sq, .inr (6, [.ref v1, .ref v2, .int zs])), (v1, .inl (cI, 4096, .inl ga)), (v2, .inl (cI, 4096, .inl gb)), (h0, .inr (8, [.ref s1, .ref s2, .ref s3, .ref s4, .ref s5, .ref s6, .int ds, .ref sq, va_rf bt])), (s1, .inl (cO, 4, .inr (.inr (.inr (.inr f)))))] := hD
  subst hr_1
  refine my_topv (v := .ref t0) rfl ?_
  refine lv_astore (lv' := [(5, .ref t0), (0, .ref h0), (1, .int k), (2, .int x), (3, .int y), (4, .int co)]) hx hb dX8_region_5 hl (by decide) rfl (fun ls hl => ?_)
  refine lv_aload hx hb dX8_region_7 (lv_at hl 0 rfl) ?_
  refine lv_ifnull hx hb dX8_region_9 ?_
  refine lv_aload hx hb dX8_region_12 (lv_at hl 0 rfl) ?_
  refine lv_iload_n hx hb dX8_region_14 rfl (lv_at hl 3 rfl) ?_
  refine lv_iload_n hx hb dX8_region_15 rfl (lv_at hl 4 rfl) ?_
  have hPc := hP.sub (ws' := [(t0, .inr (5, [.ref d0, .int w, .int h]))]) [1] rfl
  have hDc := hD.sub (ws' := [(t0, .inr (5, [.ref d0, .int w, .int h]))]) [1] (by decide) rfl
  have hKc := hK.sub (tys' := []) [] rfl
  have hFc := va_free (wc := [(t0, .inr (5, [.ref d0, .int w, .int h]))]) hD hS hA [1] rfl
  refine va_calli (va_runV (As := [.int x, .int y]) (rest := []) ⟨hx, hb, hml, hown, hts⟩ (k_X5_has l D H.size t0 d0 w h x y) (cwV 2 hts (gV bw_309 bw_150 bw_151 bw_130 bw_149) rfl rfl rfl (by decide +kernel) ⟨(by rw [hR]; exact Nat.le_of_ble_eq_true rfl), (by rw [hR]; exact Nat.le_of_ble_eq_true rfl)⟩) ⟨cP_blind, va_recv hKc hPc (ci := 5) (q0 := 0) rfl rfl, cP_at hPc hKc hDc hN⟩ rfl rfl hl.1 rfl (lv_room (Nat.le_of_ble_eq_true rfl)) dX8_region_16 ⟨(by rw [hR]; exact Nat.le_of_ble_eq_true rfl), (by rw [hR]; exact Nat.le_of_ble_eq_true rfl)⟩) hS (fun q _ h => hFc q h) hFc (fun r_2 u9 t9 H1 locs ht hvm hr_2 hB hz1 hk1 hS => ?_)
  try dsimp only at hr_2
  obtain ⟨hP1, hK1, hD1⟩ := hB
  rw [ht] at hP1
  obtain ⟨hP, hD⟩ := va_join (wr := [(s3, .inr (0, [.int bx0, .int by0, .int bx1, .int by1])), (d0, .inl (cI, 4096, .inl g)), (sq, .inr (6, [.ref v1, .ref v2, .int zs])), (v1, .inl (cI, 4096, .inl ga)), (v2, .inl (cI, 4096, .inl gb)), (h0, .inr (8, [.ref s1, .ref s2, .ref s3, .ref s4, .ref s5, .ref s6, .int ds, .ref sq, va_rf bt])), (s1, .inl (cO, 4, .inr (.inr (.inr (.inr f)))))]) (w1 := [(t0, .inr (5, [.ref d0, .int w, .int h]))]) hP hD [1] [0, 2, 3, 4, 5, 6, 7] rfl rfl (by decide) (by decide) hk1 hFc hP1 hD1
  clear hz1 hk1 hFc hKc hDc hPc
  generalize H1 = H at hP hS ⊢
  have hP : va_P D vwCl [(s3, .inr (0, [.int bx0, .int by0, .int bx1, .int by1])), (d0, .inl (cI, 4096, .inl g)), (sq, .inr (6, [.ref v1, .ref v2, .int zs])), (v1, .inl (cI, 4096, .inl ga)), (v2, .inl (cI, 4096, .inl gb)), (h0, .inr (8, [.ref s1, .ref s2, .ref s3, .ref s4, .ref s5, .ref s6, .int ds, .ref sq, va_rf bt])), (s1, .inl (cO, 4, .inr (.inr (.inr (.inr f))))), (t0, .inr (5, [.ref d0, .int w, .int h]))] H := hP
  have hD : va_D A [(s3, .inr (0, [.int bx0, .int by0, .int bx1, .int by1])), (d0, .inl (cI, 4096, .inl g)), (sq, .inr (6, [.ref v1, .ref v2, .int zs])), (v1, .inl (cI, 4096, .inl ga)), (v2, .inl (cI, 4096, .inl gb)), (h0, .inr (8, [.ref s1, .ref s2, .ref s3, .ref s4, .ref s5, .ref s6, .int ds, .ref sq, va_rf bt])), (s1, .inl (cO, 4, .inr (.inr (.inr (.inr f))))), (t0, .inr (5, [.ref d0, .int w, .int h]))] := hD
  refine lv_if_ne (tgt := 24) hx hb dX8_region_19 (by decide) (fun c_3 => ?_) (fun c_3 => ?_)
  · skip
    have f_4 := bz1 hr_2 c_3
    refine lv_aload_n hx hb dX8_region_24 rfl (lv_at hl 1 rfl) ?_
    refine lv_aload hx hb dX8_region_25 (lv_at hl 0 rfl) ?_
    refine lv_aload_n hx hb dX8_region_27 rfl (lv_at hl 1 rfl) ?_
    refine va_get (D := D) (ci := 8) (v := .ref s3) (C := RX8) (T := TX8) (N := 9) hx hb hts hi_X8 hown hK hP 5 rfl rfl 2 (by decide) (hts _ bw_233) (fun _ h9 => h9) rfl dX8_region_28 ?_
    refine lv_iload_n hx hb dX8_region_31 rfl (lv_at hl 3 rfl) ?_
    refine lv_iload_n hx hb dX8_region_32 rfl (lv_at hl 4 rfl) ?_
    refine lv_iload hx hb dX8_region_33 (lv_at hl 5 rfl) ?_
    have hPc := hP.sub (ws' := [(h0, .inr (8, [.ref s1, .ref s2, .ref s3, .ref s4, .ref s5, .ref s6, .int ds, .ref sq, va_rf bt])), (sq, .inr (6, [.ref v1, .ref v2, .int zs])), (v1, .inl (cI, 4096, .inl ga)), (v2, .inl (cI, 4096, .inl gb)), (t0, .inr (5, [.ref d0, .int w, .int h])), (d0, .inl (cI, 4096, .inl g)), (s3, .inr (0, [.int bx0, .int by0, .int bx1, .int by1]))]) [5, 2, 3, 4, 7, 1, 0] rfl
    have hDc := hD.sub (ws' := [(h0, .inr (8, [.ref s1, .ref s2, .ref s3, .ref s4, .ref s5, .ref s6, .int ds, .ref sq, va_rf bt])), (sq, .inr (6, [.ref v1, .ref v2, .int zs])), (v1, .inl (cI, 4096, .inl ga)), (v2, .inl (cI, 4096, .inl gb)), (t0, .inr (5, [.ref d0, .int w, .int h])), (d0, .inl (cI, 4096, .inl g)), (s3, .inr (0, [.int bx0, .int by0, .int bx1, .int by1]))]) [5, 2, 3, 4, 7, 1, 0] (by decide) rfl
    have hKc := hK.sub (tys' := [(cI, .int)]) [1] rfl
    have hFc := va_free (wc := [(h0, .inr (8, [.ref s1, .ref s2, .ref s3, .ref s4, .ref s5, .ref s6, .int ds, .ref sq, va_rf bt])), (sq, .inr (6, [.ref v1, .ref v2, .int zs])), (v1, .inl (cI, 4096, .inl ga)), (v2, .inl (cI, 4096, .inl gb)), (t0, .inr (5, [.ref d0, .int w, .int h])), (d0, .inl (cI, 4096, .inl g)), (s3, .inr (0, [.int bx0, .int by0, .int bx1, .int by1]))]) hD hS hA [5, 2, 3, 4, 7, 1, 0] rfl
    refine va_callq (va_runV (As := [.ref t0, .ref s3, .int x, .int y, .int co]) (rest := []) ⟨hx, hb, hml, hown, hts⟩ (k_X8_gathered_1 l D H.size h0 s1 s2 s3 s4 s5 s6 ds bt sq v1 v2 zs ga gb t0 d0 s3 w h g bx0 by0 bx1 by1 x y co cI (by first | assumption | omega | decide) (by first | assumption | omega | decide)) (cwV 5 hts (gV bw_310 bw_378 bw_379 bw_223 bw_377) rfl rfl rfl (by decide +kernel) ⟨(by rw [hR]; exact Nat.le_of_ble_eq_true rfl), (by rw [hR]; exact Nat.le_of_ble_eq_true rfl)⟩) ⟨cP_blind, va_recv hKc hPc (ci := 8) (q0 := 0) rfl rfl, cP_at hPc hKc hDc hN⟩ rfl rfl hl.1 rfl (lv_room (Nat.le_of_ble_eq_true rfl)) dX8_region_35 ⟨(by rw [hR]; exact Nat.le_of_ble_eq_true rfl), (by rw [hR]; exact Nat.le_of_ble_eq_true rfl)⟩) hS (fun q _ h => hFc q h) hFc (fun r_5 u9 t9 H1 locs ht hvm hr_5 hB hz1 hk1 hS => ?_)
    try dsimp only at hr_5
    obtain ⟨v_6, g_7, g_8, b_9, hP1, hK1, hD1⟩ := hB
    rw [ht] at hP1
    obtain ⟨hP, hD⟩ := va_join (wr := [(s1, .inl (cO, 4, .inr (.inr (.inr (.inr f)))))]) (w1 := [(h0, .inr (8, [.ref s1, .ref s2, .ref s3, .ref s4, .ref s5, .ref s6, .int ds, .ref sq, va_rf bt])), (sq, .inr (6, [.ref v1, .ref v2, .int v_6])), (v1, .inl (cI, 4096, .inl g_7)), (v2, .inl (cI, 4096, .inl g_8)), (t0, .inr (5, [.ref d0, .int w, .int h])), (d0, .inl (cI, 4096, .inl g)), (s3, .inr (0, [.int bx0, .int by0, .int bx1, .int by1]))]) hP hD [5, 2, 3, 4, 7, 1, 0] [6] rfl rfl (by decide) (by decide) hk1 hFc hP1 hD1
    clear hz1 hk1 hFc hKc hDc hPc
    generalize H1 = H at hP hS ⊢
    have hP : va_P D vwCl [(s1, .inl (cO, 4, .inr (.inr (.inr (.inr f))))), (h0, .inr (8, [.ref s1, .ref s2, .ref s3, .ref s4, .ref s5, .ref s6, .int ds, .ref sq, va_rf bt])), (sq, .inr (6, [.ref v1, .ref v2, .int v_6])), (v1, .inl (cI, 4096, .inl g_7)), (v2, .inl (cI, 4096, .inl g_8)), (t0, .inr (5, [.ref d0, .int w, .int h])), (d0, .inl (cI, 4096, .inl g)), (s3, .inr (0, [.int bx0, .int by0, .int bx1, .int by1]))] H := hP
    have hD : va_D A [(s1, .inl (cO, 4, .inr (.inr (.inr (.inr f))))), (h0, .inr (8, [.ref s1, .ref s2, .ref s3, .ref s4, .ref s5, .ref s6, .int ds, .ref sq, va_rf bt])), (sq, .inr (6, [.ref v1, .ref v2, .int v_6])), (v1, .inl (cI, 4096, .inl g_7)), (v2, .inl (cI, 4096, .inl g_8)), (t0, .inr (5, [.ref d0, .int w, .int h])), (d0, .inl (cI, 4096, .inl g)), (s3, .inr (0, [.int bx0, .int by0, .int bx1, .int by1]))] := hD
    subst hr_5
    refine my_topv (v := .ref sq) rfl ?_
    refine va_getN (host := RX8) (D := D) (ci := 6) (v := .int v_6) (C := RX6) (T := TX6) (N := 3) hx hb hts hi_X6 hown hK hP 2 rfl rfl 2 (by decide) ((hN.1 (RX8, 180, "DotBench$Spread", "size", "I", RX8) (by decide +kernel)).use rfl) (fun _ h9 => h9) rfl dX8_region_38 ?_
    have hP9 := hP.sub (ws' := [(h0, .inr (8, [.ref s1, .ref s2, .ref s3, .ref s4, .ref s5, .ref s6, .int ds, .ref sq, va_rf bt])), (s1, .inl (cO, 4, .inr (.inr (.inr (.inr f))))), (s3, .inr (0, [.int bx0, .int by0, .int bx1, .int by1])), (t0, .inr (5, [.ref d0, .int w, .int h])), (d0, .inl (cI, 4096, .inl g)), (sq, .inr (6, [.ref v1, .ref v2, .int v_6])), (v1, .inl (cI, 4096, .inl g_7)), (v2, .inl (cI, 4096, .inl g_8))]) [1, 0, 7, 5, 6, 2, 3, 4] rfl
    have hD9 := hD.sub (ws' := [(h0, .inr (8, [.ref s1, .ref s2, .ref s3, .ref s4, .ref s5, .ref s6, .int ds, .ref sq, va_rf bt])), (s1, .inl (cO, 4, .inr (.inr (.inr (.inr f))))), (s3, .inr (0, [.int bx0, .int by0, .int bx1, .int by1])), (t0, .inr (5, [.ref d0, .int w, .int h])), (d0, .inl (cI, 4096, .inl g)), (sq, .inr (6, [.ref v1, .ref v2, .int v_6])), (v1, .inl (cI, 4096, .inl g_7)), (v2, .inl (cI, 4096, .inl g_8))]) [1, 0, 7, 5, 6, 2, 3, 4] (by decide) rfl
    have hK9 := hK.sub (tys' := [(cO, .object "DotBench$Sheet"), (cI, .int)]) [0, 1] rfl
    refine hQ _ _ _ _ _ ?_
    exact W.iret (v := v_6) hx hb hr (fun t ht hW => ⟨⟨v_6, (), rfl, trivial, ⟨v_6, g_7, g_8, by rw [ht]; exact hP9, va_K.moved hW.alike hK9, hD9⟩⟩, hS.F ht⟩) hS.2.2 dX8_region_41
  · skip
    have f_4 := bz0 hr_2 c_3
    exact False.elim (by omega)

set_option maxHeartbeats 4000000 in
set_option maxRecDepth 100000 in
theorem k_X8_flood_y0 (l : Launch) (D : va_G) (sz : Nat) (h0 s1 s2 s3 s4 s5 s6 : Nat) (ds : Int32) (bt : Option Nat) (f : Nat → Option Nat) (bx : Nat) (ik wy op : Int32) (bx0 by0 bx1 by1 : Int32) (t0 d0 : Nat) (w h : Int32) (g : Nat → Int32) (k x y co : Int32) (cO : ClassId) (cI : ClassId) (hk : 0 ≤ k.toInt ∧ k.toInt ≤ 3) (hf : f k.toNatClampNeg = some t0) (hw : w.toInt ≤ 64) (hh : h.toInt ≤ 64) (hon : 0 ≤ x.toInt ∧ x.toInt < w.toInt ∧ 0 ≤ y.toInt ∧ y.toInt < h.toInt) (hwy : 0 ≤ wy.toInt ∧ wy.toInt ≤ 12) : Met l yX8_flood (wB yX8_flood cX8_flood 9 (some .int)) ({ frames := 5, cells := 3, slots := 8195, locals := 125 }) (cP D [(h0, .inr (8, [.ref s1, .ref s2, .ref s3, .ref s4, .ref s5, .ref s6, .int ds, .null, va_rf bt])), (s1, .inl (cO, 4, .inr (.inr (.inr (.inr f))))), (s2, .inr (1, [.ref bx, .int ik, .int wy, .int op])), (bx, .inr (0, [.int bx0, .int by0, .int bx1, .int by1])), (t0, .inr (5, [.ref d0, .int w, .int h])), (d0, .inl (cI, 4096, .inl g))] [(cO, .object "DotBench$Sheet"), (cI, .int)] sz [.ref h0, .int k, .int x, .int y, .int co]) (va_Qi (fun (r : Int32) (_ : Unit) => True) (fun (_ : Unit) (t : State) => ∃ (sq v1 v2 : Nat), ∃ (sz2 : Int32), ∃ (g2 g3 g4 : Nat → Int32), cB D (va_A [(h0, .inr (8, [.ref s1, .ref s2, .ref s3, .ref s4, .ref s5, .ref s6, .int ds, .null, va_rf bt])), (s1, .inl (cO, 4, .inr (.inr (.inr (.inr f))))), (s2, .inr (1, [.ref bx, .int ik, .int wy, .int op])), (bx, .inr (0, [.int bx0, .int by0, .int bx1, .int by1])), (t0, .inr (5, [.ref d0, .int w, .int h])), (d0, .inl (cI, 4096, .inl g))] sz) [(h0, .inr (8, [.ref s1, .ref s2, .ref s3, .ref s4, .ref s5, .ref s6, .int ds, .ref sq, va_rf bt])), (s1, .inl (cO, 4, .inr (.inr (.inr (.inr f))))), (s2, .inr (1, [.ref bx, .int ik, .int wy, .int op])), (bx, .inr (0, [.int bx0, .int by0, .int bx1, .int by1])), (t0, .inr (5, [.ref d0, .int w, .int h])), (d0, .inl (cI, 4096, .inl g4)), (sq, .inr (6, [.ref v1, .ref v2, .int sz2])), (v1, .inl (cI, 4096, .inl g2)), (v2, .inl (cI, 4096, .inl g3))] [(cO, .object "DotBench$Sheet"), (cI, .int)] t) (va_A [(h0, .inr (8, [.ref s1, .ref s2, .ref s3, .ref s4, .ref s5, .ref s6, .int ds, .null, va_rf bt])), (s1, .inl (cO, 4, .inr (.inr (.inr (.inr f))))), (s2, .inr (1, [.ref bx, .int ik, .int wy, .int op])), (bx, .inr (0, [.int bx0, .int by0, .int bx1, .int by1])), (t0, .inr (5, [.ref d0, .int w, .int h])), (d0, .inl (cI, 4096, .inl g))] sz)) 3 8195 (va_A [(h0, .inr (8, [.ref s1, .ref s2, .ref s3, .ref s4, .ref s5, .ref s6, .int ds, .null, va_rf bt])), (s1, .inl (cO, 4, .inr (.inr (.inr (.inr f))))), (s2, .inr (1, [.ref bx, .int ik, .int wy, .int op])), (bx, .inr (0, [.int bx0, .int by0, .int bx1, .int by1])), (t0, .inr (5, [.ref d0, .int w, .int h])), (d0, .inl (cI, 4096, .inl g))] sz) := by
  refine Met.ofW (cc := cX8_flood) (maxL := 9) (ret := (some .int)) (by decide) rfl ?_
  intro p e s m args below meth c s₁ B hml hv
  obtain ⟨rfl, hsz, hP, hK, hD0, hN⟩ := hv
  have hx := B.exec
  have hb := B.bytes
  have hr := B.returns
  have hts0 := atoms_spec (ws := (wB yX8_flood cX8_flood 9 (some .int))) B.pre
  have hts : ∀ w ∈ bigW, w.before _ s = true := fun w h => hts0 w (List.mem_cons_of_mem _ h)
  have hown : s.vm.findClass RX8 = some m.cls := findClass_of_methodNamed B.named
  have hlocks := B.notSynchronized
  subst hsz
  have hD := hD0.self (sz := s.heap.size)
  generalize hAe : va_A [(h0, .inr (8, [.ref s1, .ref s2, .ref s3, .ref s4, .ref s5, .ref s6, .int ds, .null, va_rf bt])), (s1, .inl (cO, 4, .inr (.inr (.inr (.inr f))))), (s2, .inr (1, [.ref bx, .int ik, .int wy, .int op])), (bx, .inr (0, [.int bx0, .int by0, .int bx1, .int by1])), (t0, .inr (5, [.ref d0, .int w, .int h])), (d0, .inl (cI, 4096, .inl g))] s.heap.size = A at hD ⊢
  have hA : ∀ q : Nat, s.heap.size ≤ q → A q := fun q h => by rw [← hAe]; exact Or.inr h
  have hS : va_S A s.heap s.heap [] := va_S.rf
  have hP : va_P D vwCl [(h0, .inr (8, [.ref s1, .ref s2, .ref s3, .ref s4, .ref s5, .ref s6, .int ds, .null, va_rf bt])), (s1, .inl (cO, 4, .inr (.inr (.inr (.inr f))))), (s2, .inr (1, [.ref bx, .int ik, .int wy, .int op])), (bx, .inr (0, [.int bx0, .int by0, .int bx1, .int by1])), (t0, .inr (5, [.ref d0, .int w, .int h])), (d0, .inl (cI, 4096, .inl g))] s.heap := hP
  have hl := lv_entry ([.ref h0, .int k, .int x, .int y, .int co]) (n := 9) (Nat.le_of_ble_eq_true rfl)
  rw [lg_entry_eq]
  generalize (lg_sl ([.ref h0, .int k, .int x, .int y, .int co]) ++ List.replicate (9 - (lg_sl ([.ref h0, .int k, .int x, .int y, .int co])).length) Slot.unset).toArray = ls at hl ⊢
  have hl : lv_has ls 9 [(0, .ref h0), (1, .int k), (2, .int x), (3, .int y), (4, .int co)] := hl
  clear hts0 hD0 hAe
  refine my_abs (fun R Q hR hQ => ?_)
  refine lv_aload_n hx hb dX8_flood_0 rfl (lv_at hl 0 rfl) ?_
  refine lv_iload_n hx hb dX8_flood_1 rfl (lv_at hl 1 rfl) ?_
  have hPc := hP.sub (ws' := [(h0, .inr (8, [.ref s1, .ref s2, .ref s3, .ref s4, .ref s5, .ref s6, .int ds, .null, va_rf bt])), (s1, .inl (cO, 4, .inr (.inr (.inr (.inr f)))))]) [0, 1] rfl
  have hDc := hD.sub (ws' := [(h0, .inr (8, [.ref s1, .ref s2, .ref s3, .ref s4, .ref s5, .ref s6, .int ds, .null, va_rf bt])), (s1, .inl (cO, 4, .inr (.inr (.inr (.inr f)))))]) [0, 1] (by decide) rfl
  have hKc := hK.sub (tys' := [(cO, .object "DotBench$Sheet")]) [0] rfl
  have hFc := va_free (wc := [(h0, .inr (8, [.ref s1, .ref s2, .ref s3, .ref s4, .ref s5, .ref s6, .int ds, .null, va_rf bt])), (s1, .inl (cO, 4, .inr (.inr (.inr (.inr f)))))]) hD hS hA [0, 1] rfl
  refine va_callq (va_runV (As := [.int k]) (rest := []) ⟨hx, hb, hml, hown, hts⟩ (k_X8_sheetAt_y l D s.heap.size h0 s1 s2 s3 s4 s5 s6 ds none bt f k t0 cO (by first | assumption | omega | decide) (by first | assumption | omega | decide)) (cwV 1 hts (gV bw_267 bw_346 bw_347 bw_223 bw_345) rfl rfl rfl (by decide +kernel) ⟨(by rw [hR]; exact Nat.le_of_ble_eq_true rfl), (by rw [hR]; exact Nat.le_of_ble_eq_true rfl)⟩) ⟨cP_blind, va_recv hKc hPc (ci := 8) (q0 := 0) rfl rfl, cP_at hPc hKc hDc hN⟩ rfl rfl hl.1 rfl (lv_room (Nat.le_of_ble_eq_true rfl)) dX8_flood_2 ⟨(by rw [hR]; exact Nat.le_of_ble_eq_true rfl), (by rw [hR]; exact Nat.le_of_ble_eq_true rfl)⟩) hS (fun q _ h => hFc q h) hFc (fun r_1 u9 t9 H1 locs ht hvm hr_1 hB hz1 hk1 hS => ?_)
  try dsimp only at hr_1
  obtain ⟨hP1, hK1, hD1⟩ := hB
  rw [ht] at hP1
  obtain ⟨hP, hD⟩ := va_join (wr := [(s2, .inr (1, [.ref bx, .int ik, .int wy, .int op])), (bx, .inr (0, [.int bx0, .int by0, .int bx1, .int by1])), (t0, .inr (5, [.ref d0, .int w, .int h])), (d0, .inl (cI, 4096, .inl g))]) (w1 := [(h0, .inr (8, [.ref s1, .ref s2, .ref s3, .ref s4, .ref s5, .ref s6, .int ds, .null, va_rf bt])), (s1, .inl (cO, 4, .inr (.inr (.inr (.inr f)))))]) hP hD [0, 1] [2, 3, 4, 5] rfl rfl (by decide) (by decide) hk1 hFc hP1 hD1
  clear hz1 hk1 hFc hKc hDc hPc
  generalize H1 = H at hP hS ⊢
  have hP : va_P D vwCl [(s2, .inr (1, [.ref bx, .int ik, .int wy, .int op])), (bx, .inr (0, [.int bx0, .int by0, .int bx1, .int by1])), (t0, .inr (5, [.ref d0, .int w, .int h])), (d0, .inl (cI, 4096, .inl g)), (h0, .inr (8, [.ref s1, .ref s2, .ref s3, .ref s4, .ref s5, .ref s6, .int ds, .null, va_rf bt])), (s1, .inl (cO, 4, .inr (.inr (.inr (.inr f)))))] H := hP
  have hD : va_D A [(s2, .inr (1, [.ref bx, .int ik, .int wy, .int op])), (bx, .inr (0, [.int bx0, .int by0, .int bx1, .int by1])), (t0, .inr (5, [.ref d0, .int w, .int h])), (d0, .inl (cI, 4096, .inl g)), (h0, .inr (8, [.ref s1, .ref s2, .ref s3, .ref s4, .ref s5, .ref s6, .int ds, .null, va_rf bt])), (s1, .inl (cO, 4, .inr (.inr (.inr (.inr f)))))] := hD
  subst hr_1
  refine my_topv (v := .ref t0) rfl ?_
  refine lv_astore (lv' := [(5, .ref t0), (0, .ref h0), (1, .int k), (2, .int x), (3, .int y), (4, .int co)]) hx hb dX8_flood_5 hl (by decide) rfl (fun ls hl => ?_)
  refine lv_aload hx hb dX8_flood_7 (lv_at hl 0 rfl) ?_
  refine lv_ifnull hx hb dX8_flood_9 ?_
  refine lv_aload hx hb dX8_flood_12 (lv_at hl 0 rfl) ?_
  refine lv_iload_n hx hb dX8_flood_14 rfl (lv_at hl 3 rfl) ?_
  refine lv_iload_n hx hb dX8_flood_15 rfl (lv_at hl 4 rfl) ?_
  have hPc := hP.sub (ws' := [(t0, .inr (5, [.ref d0, .int w, .int h]))]) [2] rfl
  have hDc := hD.sub (ws' := [(t0, .inr (5, [.ref d0, .int w, .int h]))]) [2] (by decide) rfl
  have hKc := hK.sub (tys' := []) [] rfl
  have hFc := va_free (wc := [(t0, .inr (5, [.ref d0, .int w, .int h]))]) hD hS hA [2] rfl
  refine va_calli (va_runV (As := [.int x, .int y]) (rest := []) ⟨hx, hb, hml, hown, hts⟩ (k_X5_has l D H.size t0 d0 w h x y) (cwV 2 hts (gV bw_309 bw_150 bw_151 bw_130 bw_149) rfl rfl rfl (by decide +kernel) ⟨(by rw [hR]; exact Nat.le_of_ble_eq_true rfl), (by rw [hR]; exact Nat.le_of_ble_eq_true rfl)⟩) ⟨cP_blind, va_recv hKc hPc (ci := 5) (q0 := 0) rfl rfl, cP_at hPc hKc hDc hN⟩ rfl rfl hl.1 rfl (lv_room (Nat.le_of_ble_eq_true rfl)) dX8_flood_16 ⟨(by rw [hR]; exact Nat.le_of_ble_eq_true rfl), (by rw [hR]; exact Nat.le_of_ble_eq_true rfl)⟩) hS (fun q _ h => hFc q h) hFc (fun r_2 u9 t9 H1 locs ht hvm hr_2 hB hz1 hk1 hS => ?_)
  try dsimp only at hr_2
  obtain ⟨hP1, hK1, hD1⟩ := hB
  rw [ht] at hP1
  obtain ⟨hP, hD⟩ := va_join (wr := [(s2, .inr (1, [.ref bx, .int ik, .int wy, .int op])), (bx, .inr (0, [.int bx0, .int by0, .int bx1, .int by1])), (d0, .inl (cI, 4096, .inl g)), (h0, .inr (8, [.ref s1, .ref s2, .ref s3, .ref s4, .ref s5, .ref s6, .int ds, .null, va_rf bt])), (s1, .inl (cO, 4, .inr (.inr (.inr (.inr f)))))]) (w1 := [(t0, .inr (5, [.ref d0, .int w, .int h]))]) hP hD [2] [0, 1, 3, 4, 5] rfl rfl (by decide) (by decide) hk1 hFc hP1 hD1
  clear hz1 hk1 hFc hKc hDc hPc
  generalize H1 = H at hP hS ⊢
  have hP : va_P D vwCl [(s2, .inr (1, [.ref bx, .int ik, .int wy, .int op])), (bx, .inr (0, [.int bx0, .int by0, .int bx1, .int by1])), (d0, .inl (cI, 4096, .inl g)), (h0, .inr (8, [.ref s1, .ref s2, .ref s3, .ref s4, .ref s5, .ref s6, .int ds, .null, va_rf bt])), (s1, .inl (cO, 4, .inr (.inr (.inr (.inr f))))), (t0, .inr (5, [.ref d0, .int w, .int h]))] H := hP
  have hD : va_D A [(s2, .inr (1, [.ref bx, .int ik, .int wy, .int op])), (bx, .inr (0, [.int bx0, .int by0, .int bx1, .int by1])), (d0, .inl (cI, 4096, .inl g)), (h0, .inr (8, [.ref s1, .ref s2, .ref s3, .ref s4, .ref s5, .ref s6, .int ds, .null, va_rf bt])), (s1, .inl (cO, 4, .inr (.inr (.inr (.inr f))))), (t0, .inr (5, [.ref d0, .int w, .int h]))] := hD
  refine lv_if_ne (tgt := 24) hx hb dX8_flood_19 (by decide) (fun c_3 => ?_) (fun c_3 => ?_)
  · skip
    have f_4 := bz1 hr_2 c_3
    refine lv_aload_n hx hb dX8_flood_24 rfl (lv_at hl 1 rfl) ?_
    refine lv_aload hx hb dX8_flood_25 (lv_at hl 0 rfl) ?_
    refine lv_aload_n hx hb dX8_flood_27 rfl (lv_at hl 1 rfl) ?_
    refine va_get (D := D) (ci := 8) (v := .ref s2) (C := RX8) (T := TX8) (N := 9) hx hb hts hi_X8 hown hK hP 3 rfl rfl 1 (by decide) (hts _ bw_231) (fun _ h9 => h9) rfl dX8_flood_28 ?_
    refine va_getN (host := RX8) (D := D) (ci := 1) (v := .ref bx) (C := RX1) (T := TX1) (N := 4) hx hb hts hi_X1 hown hK hP 0 rfl rfl 0 (by decide) ((hN.1 (RX8, 89, "DotBench$Brush", "clip", "LDotBench$Box;", RX8) (by decide +kernel)).use rfl) (fun _ h9 => h9) rfl dX8_flood_31 ?_
    refine lv_iload_n hx hb dX8_flood_34 rfl (lv_at hl 3 rfl) ?_
    refine lv_iload_n hx hb dX8_flood_35 rfl (lv_at hl 4 rfl) ?_
    refine lv_iload hx hb dX8_flood_36 (lv_at hl 5 rfl) ?_
    have hPc := hP.sub (ws' := [(h0, .inr (8, [.ref s1, .ref s2, .ref s3, .ref s4, .ref s5, .ref s6, .int ds, .null, va_rf bt])), (t0, .inr (5, [.ref d0, .int w, .int h])), (d0, .inl (cI, 4096, .inl g)), (bx, .inr (0, [.int bx0, .int by0, .int bx1, .int by1]))]) [3, 5, 2, 1] rfl
    have hDc := hD.sub (ws' := [(h0, .inr (8, [.ref s1, .ref s2, .ref s3, .ref s4, .ref s5, .ref s6, .int ds, .null, va_rf bt])), (t0, .inr (5, [.ref d0, .int w, .int h])), (d0, .inl (cI, 4096, .inl g)), (bx, .inr (0, [.int bx0, .int by0, .int bx1, .int by1]))]) [3, 5, 2, 1] (by decide) rfl
    have hKc := hK.sub (tys' := [(cI, .int)]) [1] rfl
    have hFc := va_free (wc := [(h0, .inr (8, [.ref s1, .ref s2, .ref s3, .ref s4, .ref s5, .ref s6, .int ds, .null, va_rf bt])), (t0, .inr (5, [.ref d0, .int w, .int h])), (d0, .inl (cI, 4096, .inl g)), (bx, .inr (0, [.int bx0, .int by0, .int bx1, .int by1]))]) hD hS hA [3, 5, 2, 1] rfl
    refine va_callq (va_runV (As := [.ref t0, .ref bx, .int x, .int y, .int co]) (rest := []) ⟨hx, hb, hml, hown, hts⟩ (k_X8_gathered_0 l D H.size h0 s1 s2 s3 s4 s5 s6 ds bt t0 d0 bx w h g bx0 by0 bx1 by1 x y co cI (by first | assumption | omega | decide) (by first | assumption | omega | decide)) (cwV 5 hts (gV bw_310 bw_378 bw_379 bw_223 bw_377) rfl rfl rfl (by decide +kernel) ⟨(by rw [hR]; exact Nat.le_of_ble_eq_true rfl), (by rw [hR]; exact Nat.le_of_ble_eq_true rfl)⟩) ⟨cP_blind, va_recv hKc hPc (ci := 8) (q0 := 0) rfl rfl, cP_at hPc hKc hDc hN⟩ rfl rfl hl.1 rfl (lv_room (Nat.le_of_ble_eq_true rfl)) dX8_flood_38 ⟨(by rw [hR]; exact Nat.le_of_ble_eq_true rfl), (by rw [hR]; exact Nat.le_of_ble_eq_true rfl)⟩) hS (fun q _ h => hFc q h) hFc (fun r_5 q_6 t9 H1 locs ht hvm hr_5 hB hz1 hk1 hS => ?_)
    try dsimp only at hr_5
    obtain ⟨q_7, q_8, v_9, g_10, g_11, b_12, hP1, hK1, hD1⟩ := hB
    rw [ht] at hP1
    obtain ⟨hP, hD⟩ := va_join (wr := [(s2, .inr (1, [.ref bx, .int ik, .int wy, .int op])), (s1, .inl (cO, 4, .inr (.inr (.inr (.inr f)))))]) (w1 := [(h0, .inr (8, [.ref s1, .ref s2, .ref s3, .ref s4, .ref s5, .ref s6, .int ds, .ref q_6, va_rf bt])), (q_6, .inr (6, [.ref q_7, .ref q_8, .int v_9])), (q_7, .inl (cI, 4096, .inl g_10)), (q_8, .inl (cI, 4096, .inl g_11)), (t0, .inr (5, [.ref d0, .int w, .int h])), (d0, .inl (cI, 4096, .inl g)), (bx, .inr (0, [.int bx0, .int by0, .int bx1, .int by1]))]) hP hD [3, 5, 2, 1] [0, 4] rfl rfl (by decide) (by decide) hk1 hFc hP1 hD1
    clear hz1 hk1 hFc hKc hDc hPc
    generalize H1 = H at hP hS ⊢
    have hP : va_P D vwCl [(s2, .inr (1, [.ref bx, .int ik, .int wy, .int op])), (s1, .inl (cO, 4, .inr (.inr (.inr (.inr f))))), (h0, .inr (8, [.ref s1, .ref s2, .ref s3, .ref s4, .ref s5, .ref s6, .int ds, .ref q_6, va_rf bt])), (q_6, .inr (6, [.ref q_7, .ref q_8, .int v_9])), (q_7, .inl (cI, 4096, .inl g_10)), (q_8, .inl (cI, 4096, .inl g_11)), (t0, .inr (5, [.ref d0, .int w, .int h])), (d0, .inl (cI, 4096, .inl g)), (bx, .inr (0, [.int bx0, .int by0, .int bx1, .int by1]))] H := hP
    have hD : va_D A [(s2, .inr (1, [.ref bx, .int ik, .int wy, .int op])), (s1, .inl (cO, 4, .inr (.inr (.inr (.inr f))))), (h0, .inr (8, [.ref s1, .ref s2, .ref s3, .ref s4, .ref s5, .ref s6, .int ds, .ref q_6, va_rf bt])), (q_6, .inr (6, [.ref q_7, .ref q_8, .int v_9])), (q_7, .inl (cI, 4096, .inl g_10)), (q_8, .inl (cI, 4096, .inl g_11)), (t0, .inr (5, [.ref d0, .int w, .int h])), (d0, .inl (cI, 4096, .inl g)), (bx, .inr (0, [.int bx0, .int by0, .int bx1, .int by1]))] := hD
    refine W.widen (k := 3) (n := 8195) (by omega) (by omega) ?_
    have hzz : 0 ≤ v_9.toInt ∧ v_9.toInt ≤ 4096 := b_12
    subst hr_5
    refine my_topv (v := .ref q_6) rfl ?_
    refine lv_astore (lv' := [(6, .ref q_6), (5, .ref t0), (0, .ref h0), (1, .int k), (2, .int x), (3, .int y), (4, .int co)]) hx hb dX8_flood_41 hl (by decide) rfl (fun ls hl => ?_)
    refine lv_iconst (v := 0) hx hb dX8_flood_43 (by decide) ?_
    refine lv_istore (lv' := [(7, .int 0), (6, .ref q_6), (5, .ref t0), (0, .ref h0), (1, .int k), (2, .int x), (3, .int y), (4, .int co)]) hx hb dX8_flood_44 hl (by decide) rfl (fun ls hl => ?_)
    refine lv_iconst (v := 0) hx hb dX8_flood_46 (by decide) ?_
    refine lv_istore (lv' := [(8, .int 0), (7, .int 0), (6, .ref q_6), (5, .ref t0), (0, .ref h0), (1, .int k), (2, .int x), (3, .int y), (4, .int co)]) hx hb dX8_flood_47 hl (by decide) rfl (fun ls hl => ?_)
    have loop_13 : ∀ (n : Nat) (j : Nat) (x8 : Int32) (x7 : Int32) (gd : Nat → Int32) (H : Heap) (locs : List Loc) (ls : Array Slot), (j ≤ 4096) → (4096 + 1 ≤ j + n) → (x8 = nI j) → va_P D vwCl [(s2, .inr (1, [.ref bx, .int ik, .int wy, .int op])), (s1, .inl (cO, 4, .inr (.inr (.inr (.inr f))))), (h0, .inr (8, [.ref s1, .ref s2, .ref s3, .ref s4, .ref s5, .ref s6, .int ds, .ref q_6, va_rf bt])), (q_6, .inr (6, [.ref q_7, .ref q_8, .int v_9])), (q_7, .inl (cI, 4096, .inl g_10)), (q_8, .inl (cI, 4096, .inl g_11)), (t0, .inr (5, [.ref d0, .int w, .int h])), (d0, .inl (cI, 4096, .inl gd)), (bx, .inr (0, [.int bx0, .int by0, .int bx1, .int by1]))] H → va_D A [(s2, .inr (1, [.ref bx, .int ik, .int wy, .int op])), (s1, .inl (cO, 4, .inr (.inr (.inr (.inr f))))), (h0, .inr (8, [.ref s1, .ref s2, .ref s3, .ref s4, .ref s5, .ref s6, .int ds, .ref q_6, va_rf bt])), (q_6, .inr (6, [.ref q_7, .ref q_8, .int v_9])), (q_7, .inl (cI, 4096, .inl g_10)), (q_8, .inl (cI, 4096, .inl g_11)), (t0, .inr (5, [.ref d0, .int w, .int h])), (d0, .inl (cI, 4096, .inl gd)), (bx, .inr (0, [.int bx0, .int by0, .int bx1, .int by1]))] → va_S A s.heap H locs → lv_has ls 9 [(8, .int x8), (7, .int x7), (6, .ref q_6), (5, .ref t0), (0, .ref h0), (1, .int k), (2, .int x), (3, .int y), (4, .int co)] → W p l e R s m ([.ref h0, .int k, .int x, .int y, .int co] : List Value).toArray below meth c H locs 3 8195 Q (F0 m 49 ls []) := by
      intro n
      induction n with
      | zero =>
        intro j x8 x7 gd H locs ls hi_j hm_j ex_j hP hD hS hl
        exact absurd (show False by omega) not_false
      | succ n ih_14 =>
        intro j x8 x7 gd H locs ls hi_j hm_j ex_j hP hD hS hl
        have hx_j : x8.toInt = (j : Int) := by rw [ex_j]; exact nI_toInt (by omega)
        have hc_j : x8.toNatClampNeg = j := by rw [ex_j]; exact nI_clamp (by omega)
        refine lv_iload hx hb dX8_flood_49 (lv_at hl 0 rfl) ?_
        refine lv_aload hx hb dX8_flood_51 (lv_at hl 2 rfl) ?_
        refine va_getN (host := RX8) (D := D) (ci := 6) (v := .int v_9) (C := RX6) (T := TX6) (N := 3) hx hb hts hi_X6 hown hK hP 3 rfl rfl 2 (by decide) ((hN.1 (RX8, 180, "DotBench$Spread", "size", "I", RX8) (by decide +kernel)).use rfl) (fun _ h9 => h9) rfl dX8_flood_53 ?_
        refine lv_icmp_ge (tgt := 107) hx hb dX8_flood_56 (by decide) (fun c_15 => ?_) (fun c_15 => ?_)
        · skip
          have f_16 : v_9.toInt ≤ (j : Int) := f_le rfl hx_j c_15
          refine lv_iload hx hb dX8_flood_107 (lv_at hl 1 rfl) ?_
          have hP9 := hP.sub (ws' := [(h0, .inr (8, [.ref s1, .ref s2, .ref s3, .ref s4, .ref s5, .ref s6, .int ds, .ref q_6, va_rf bt])), (s1, .inl (cO, 4, .inr (.inr (.inr (.inr f))))), (s2, .inr (1, [.ref bx, .int ik, .int wy, .int op])), (bx, .inr (0, [.int bx0, .int by0, .int bx1, .int by1])), (t0, .inr (5, [.ref d0, .int w, .int h])), (d0, .inl (cI, 4096, .inl gd)), (q_6, .inr (6, [.ref q_7, .ref q_8, .int v_9])), (q_7, .inl (cI, 4096, .inl g_10)), (q_8, .inl (cI, 4096, .inl g_11))]) [2, 1, 0, 8, 6, 7, 3, 4, 5] rfl
          have hD9 := hD.sub (ws' := [(h0, .inr (8, [.ref s1, .ref s2, .ref s3, .ref s4, .ref s5, .ref s6, .int ds, .ref q_6, va_rf bt])), (s1, .inl (cO, 4, .inr (.inr (.inr (.inr f))))), (s2, .inr (1, [.ref bx, .int ik, .int wy, .int op])), (bx, .inr (0, [.int bx0, .int by0, .int bx1, .int by1])), (t0, .inr (5, [.ref d0, .int w, .int h])), (d0, .inl (cI, 4096, .inl gd)), (q_6, .inr (6, [.ref q_7, .ref q_8, .int v_9])), (q_7, .inl (cI, 4096, .inl g_10)), (q_8, .inl (cI, 4096, .inl g_11))]) [2, 1, 0, 8, 6, 7, 3, 4, 5] (by decide) rfl
          have hK9 := hK.sub (tys' := [(cO, .object "DotBench$Sheet"), (cI, .int)]) [0, 1] rfl
          refine hQ _ _ _ _ _ ?_
          exact W.iret (v := x7) hx hb hr (fun t ht hW => ⟨⟨x7, (), rfl, trivial, ⟨q_6, q_7, q_8, v_9, g_10, g_11, gd, by rw [ht]; exact hP9, va_K.moved hW.alike hK9, hD9⟩⟩, hS.F ht⟩) hS.2.2 dX8_flood_109
        · skip
          have f_16 : ¬ (v_9.toInt ≤ (j : Int)) := fn_le rfl hx_j c_15
          refine lv_iload hx hb dX8_flood_59 (lv_at hl 1 rfl) ?_
          refine lv_aload_n hx hb dX8_flood_61 rfl (lv_at hl 4 rfl) ?_
          refine va_get (D := D) (ci := 8) (v := .ref s2) (C := RX8) (T := TX8) (N := 9) hx hb hts hi_X8 hown hK hP 2 rfl rfl 1 (by decide) (hts _ bw_231) (fun _ h9 => h9) rfl dX8_flood_62 ?_
          refine lv_aload hx hb dX8_flood_65 (lv_at hl 3 rfl) ?_
          refine lv_aload hx hb dX8_flood_67 (lv_at hl 2 rfl) ?_
          refine lv_iload hx hb dX8_flood_69 (lv_at hl 0 rfl) ?_
          have hPc := hP.sub (ws' := [(q_6, .inr (6, [.ref q_7, .ref q_8, .int v_9])), (q_7, .inl (cI, 4096, .inl g_10))]) [3, 4] rfl
          have hDc := hD.sub (ws' := [(q_6, .inr (6, [.ref q_7, .ref q_8, .int v_9])), (q_7, .inl (cI, 4096, .inl g_10))]) [3, 4] (by decide) rfl
          have hKc := hK.sub (tys' := [(cI, .int)]) [1] rfl
          have hFc := va_free (wc := [(q_6, .inr (6, [.ref q_7, .ref q_8, .int v_9])), (q_7, .inl (cI, 4096, .inl g_10))]) hD hS hA [3, 4] rfl
          refine va_calli (va_runV (As := [.int x8]) (rest := [.ref t0, .ref s2, .int x7]) ⟨hx, hb, hml, hown, hts⟩ (k_X6_xAt l D H.size q_6 q_7 q_8 v_9 g_10 x8 cI (by first | assumption | omega | decide)) (cwV 1 hts (gV bw_311 bw_185 bw_186 bw_168 bw_184) rfl rfl rfl (by decide +kernel) ⟨(by rw [hR]; exact Nat.le_of_ble_eq_true rfl), (by rw [hR]; exact Nat.le_of_ble_eq_true rfl)⟩) ⟨cP_blind, va_recv hKc hPc (ci := 6) (q0 := 0) rfl rfl, cP_at hPc hKc hDc hN⟩ rfl rfl hl.1 rfl (lv_room (Nat.le_of_ble_eq_true rfl)) dX8_flood_71 ⟨(by rw [hR]; exact Nat.le_of_ble_eq_true rfl), (by rw [hR]; exact Nat.le_of_ble_eq_true rfl)⟩) hS (fun q _ h => hFc q h) hFc (fun r_17 u9 t9 H1 locs ht hvm hr_17 hB hz1 hk1 hS => ?_)
          try dsimp only at hr_17
          obtain ⟨hP1, hK1, hD1⟩ := hB
          rw [ht] at hP1
          obtain ⟨hP, hD⟩ := va_join (wr := [(s2, .inr (1, [.ref bx, .int ik, .int wy, .int op])), (s1, .inl (cO, 4, .inr (.inr (.inr (.inr f))))), (h0, .inr (8, [.ref s1, .ref s2, .ref s3, .ref s4, .ref s5, .ref s6, .int ds, .ref q_6, va_rf bt])), (q_8, .inl (cI, 4096, .inl g_11)), (t0, .inr (5, [.ref d0, .int w, .int h])), (d0, .inl (cI, 4096, .inl gd)), (bx, .inr (0, [.int bx0, .int by0, .int bx1, .int by1]))]) (w1 := [(q_6, .inr (6, [.ref q_7, .ref q_8, .int v_9])), (q_7, .inl (cI, 4096, .inl g_10))]) hP hD [3, 4] [0, 1, 2, 5, 6, 7, 8] rfl rfl (by decide) (by decide) hk1 hFc hP1 hD1
          clear hz1 hk1 hFc hKc hDc hPc
          generalize H1 = H at hP hS ⊢
          have hP : va_P D vwCl [(s2, .inr (1, [.ref bx, .int ik, .int wy, .int op])), (s1, .inl (cO, 4, .inr (.inr (.inr (.inr f))))), (h0, .inr (8, [.ref s1, .ref s2, .ref s3, .ref s4, .ref s5, .ref s6, .int ds, .ref q_6, va_rf bt])), (q_8, .inl (cI, 4096, .inl g_11)), (t0, .inr (5, [.ref d0, .int w, .int h])), (d0, .inl (cI, 4096, .inl gd)), (bx, .inr (0, [.int bx0, .int by0, .int bx1, .int by1])), (q_6, .inr (6, [.ref q_7, .ref q_8, .int v_9])), (q_7, .inl (cI, 4096, .inl g_10))] H := hP
          have hD : va_D A [(s2, .inr (1, [.ref bx, .int ik, .int wy, .int op])), (s1, .inl (cO, 4, .inr (.inr (.inr (.inr f))))), (h0, .inr (8, [.ref s1, .ref s2, .ref s3, .ref s4, .ref s5, .ref s6, .int ds, .ref q_6, va_rf bt])), (q_8, .inl (cI, 4096, .inl g_11)), (t0, .inr (5, [.ref d0, .int w, .int h])), (d0, .inl (cI, 4096, .inl gd)), (bx, .inr (0, [.int bx0, .int by0, .int bx1, .int by1])), (q_6, .inr (6, [.ref q_7, .ref q_8, .int v_9])), (q_7, .inl (cI, 4096, .inl g_10))] := hD
          refine lv_aload hx hb dX8_flood_74 (lv_at hl 2 rfl) ?_
          refine lv_iload hx hb dX8_flood_76 (lv_at hl 0 rfl) ?_
          have hPc := hP.sub (ws' := [(q_6, .inr (6, [.ref q_7, .ref q_8, .int v_9])), (q_7, .inl (cI, 4096, .inl g_10))]) [7, 8] rfl
          have hDc := hD.sub (ws' := [(q_6, .inr (6, [.ref q_7, .ref q_8, .int v_9])), (q_7, .inl (cI, 4096, .inl g_10))]) [7, 8] (by decide) rfl
          have hKc := hK.sub (tys' := [(cI, .int)]) [1] rfl
          have hFc := va_free (wc := [(q_6, .inr (6, [.ref q_7, .ref q_8, .int v_9])), (q_7, .inl (cI, 4096, .inl g_10))]) hD hS hA [7, 8] rfl
          refine va_calli (va_runV (As := [.int x8]) (rest := [.int r_17, .ref t0, .ref s2, .int x7]) ⟨hx, hb, hml, hown, hts⟩ (k_X6_yAt l D H.size q_6 q_7 q_8 v_9 g_10 x8 cI (by first | assumption | omega | decide)) (cwV 1 hts (gV bw_312 bw_188 bw_189 bw_168 bw_187) rfl rfl rfl (by decide +kernel) ⟨(by rw [hR]; exact Nat.le_of_ble_eq_true rfl), (by rw [hR]; exact Nat.le_of_ble_eq_true rfl)⟩) ⟨cP_blind, va_recv hKc hPc (ci := 6) (q0 := 0) rfl rfl, cP_at hPc hKc hDc hN⟩ rfl rfl hl.1 rfl (lv_room (Nat.le_of_ble_eq_true rfl)) dX8_flood_78 ⟨(by rw [hR]; exact Nat.le_of_ble_eq_true rfl), (by rw [hR]; exact Nat.le_of_ble_eq_true rfl)⟩) hS (fun q _ h => hFc q h) hFc (fun r_18 u9 t9 H1 locs ht hvm hr_18 hB hz1 hk1 hS => ?_)
          try dsimp only at hr_18
          obtain ⟨hP1, hK1, hD1⟩ := hB
          rw [ht] at hP1
          obtain ⟨hP, hD⟩ := va_join (wr := [(s2, .inr (1, [.ref bx, .int ik, .int wy, .int op])), (s1, .inl (cO, 4, .inr (.inr (.inr (.inr f))))), (h0, .inr (8, [.ref s1, .ref s2, .ref s3, .ref s4, .ref s5, .ref s6, .int ds, .ref q_6, va_rf bt])), (q_8, .inl (cI, 4096, .inl g_11)), (t0, .inr (5, [.ref d0, .int w, .int h])), (d0, .inl (cI, 4096, .inl gd)), (bx, .inr (0, [.int bx0, .int by0, .int bx1, .int by1]))]) (w1 := [(q_6, .inr (6, [.ref q_7, .ref q_8, .int v_9])), (q_7, .inl (cI, 4096, .inl g_10))]) hP hD [7, 8] [0, 1, 2, 3, 4, 5, 6] rfl rfl (by decide) (by decide) hk1 hFc hP1 hD1
          clear hz1 hk1 hFc hKc hDc hPc
          generalize H1 = H at hP hS ⊢
          have hP : va_P D vwCl [(s2, .inr (1, [.ref bx, .int ik, .int wy, .int op])), (s1, .inl (cO, 4, .inr (.inr (.inr (.inr f))))), (h0, .inr (8, [.ref s1, .ref s2, .ref s3, .ref s4, .ref s5, .ref s6, .int ds, .ref q_6, va_rf bt])), (q_8, .inl (cI, 4096, .inl g_11)), (t0, .inr (5, [.ref d0, .int w, .int h])), (d0, .inl (cI, 4096, .inl gd)), (bx, .inr (0, [.int bx0, .int by0, .int bx1, .int by1])), (q_6, .inr (6, [.ref q_7, .ref q_8, .int v_9])), (q_7, .inl (cI, 4096, .inl g_10))] H := hP
          have hD : va_D A [(s2, .inr (1, [.ref bx, .int ik, .int wy, .int op])), (s1, .inl (cO, 4, .inr (.inr (.inr (.inr f))))), (h0, .inr (8, [.ref s1, .ref s2, .ref s3, .ref s4, .ref s5, .ref s6, .int ds, .ref q_6, va_rf bt])), (q_8, .inl (cI, 4096, .inl g_11)), (t0, .inr (5, [.ref d0, .int w, .int h])), (d0, .inl (cI, 4096, .inl gd)), (bx, .inr (0, [.int bx0, .int by0, .int bx1, .int by1])), (q_6, .inr (6, [.ref q_7, .ref q_8, .int v_9])), (q_7, .inl (cI, 4096, .inl g_10))] := hD
          refine lv_aload_n hx hb dX8_flood_81 rfl (lv_at hl 4 rfl) ?_
          refine va_get (D := D) (ci := 8) (v := .ref s2) (C := RX8) (T := TX8) (N := 9) hx hb hts hi_X8 hown hK hP 2 rfl rfl 1 (by decide) (hts _ bw_231) (fun _ h9 => h9) rfl dX8_flood_82 ?_
          refine va_getN (host := RX8) (D := D) (ci := 1) (v := .int ik) (C := RX1) (T := TX1) (N := 4) hx hb hts hi_X1 hown hK hP 0 rfl rfl 1 (by decide) ((hN.1 (RX8, 76, "DotBench$Brush", "ink", "I", RX8) (by decide +kernel)).use rfl) (fun _ h9 => h9) rfl dX8_flood_85 ?_
          refine lv_aload_n hx hb dX8_flood_88 rfl (lv_at hl 4 rfl) ?_
          refine va_get (D := D) (ci := 8) (v := .ref s2) (C := RX8) (T := TX8) (N := 9) hx hb hts hi_X8 hown hK hP 2 rfl rfl 1 (by decide) (hts _ bw_231) (fun _ h9 => h9) rfl dX8_flood_89 ?_
          refine va_getN (host := RX8) (D := D) (ci := 1) (v := .int op) (C := RX1) (T := TX1) (N := 4) hx hb hts hi_X1 hown hK hP 0 rfl rfl 3 (by decide) ((hN.1 (RX8, 86, "DotBench$Brush", "opacity", "I", RX8) (by decide +kernel)).use rfl) (fun _ h9 => h9) rfl dX8_flood_92 ?_
          have hPc := hP.sub (ws' := [(s2, .inr (1, [.ref bx, .int ik, .int wy, .int op])), (bx, .inr (0, [.int bx0, .int by0, .int bx1, .int by1])), (t0, .inr (5, [.ref d0, .int w, .int h])), (d0, .inl (cI, 4096, .inl gd))]) [0, 6, 4, 5] rfl
          have hDc := hD.sub (ws' := [(s2, .inr (1, [.ref bx, .int ik, .int wy, .int op])), (bx, .inr (0, [.int bx0, .int by0, .int bx1, .int by1])), (t0, .inr (5, [.ref d0, .int w, .int h])), (d0, .inl (cI, 4096, .inl gd))]) [0, 6, 4, 5] (by decide) rfl
          have hKc := hK.sub (tys' := [(cI, .int)]) [1] rfl
          have hFc := va_free (wc := [(s2, .inr (1, [.ref bx, .int ik, .int wy, .int op])), (bx, .inr (0, [.int bx0, .int by0, .int bx1, .int by1])), (t0, .inr (5, [.ref d0, .int w, .int h])), (d0, .inl (cI, 4096, .inl gd))]) hD hS hA [0, 6, 4, 5] rfl
          refine va_calli (va_runV (As := [.ref t0, .int r_17, .int r_18, .int ik, .int op]) (rest := [.int x7]) ⟨hx, hb, hml, hown, hts⟩ (k_X1_lay l D H.size s2 bx ik wy op t0 d0 bx0 by0 bx1 by1 w h gd r_17 r_18 ik op cI (by first | assumption | omega | decide) (by first | assumption | omega | decide) (by first | assumption | omega | decide)) (cwV 5 hts (gV bw_276 bw_33 bw_34 bw_19 bw_32) rfl rfl rfl (by decide +kernel) ⟨(by rw [hR]; exact Nat.le_of_ble_eq_true rfl), (by rw [hR]; exact Nat.le_of_ble_eq_true rfl)⟩) ⟨cP_blind, va_recv hKc hPc (ci := 1) (q0 := 0) rfl rfl, cP_at hPc hKc hDc hN⟩ rfl rfl hl.1 rfl (lv_room (Nat.le_of_ble_eq_true rfl)) dX8_flood_95 ⟨(by rw [hR]; exact Nat.le_of_ble_eq_true rfl), (by rw [hR]; exact Nat.le_of_ble_eq_true rfl)⟩) hS (fun q _ h => hFc q h) hFc (fun r_19 u9 t9 H1 locs ht hvm hr_19 hB hz1 hk1 hS => ?_)
          try dsimp only at hr_19
          obtain ⟨hP1, hK1, hD1⟩ := hB
          rw [ht] at hP1
          obtain ⟨hP, hD⟩ := va_join (wr := [(s1, .inl (cO, 4, .inr (.inr (.inr (.inr f))))), (h0, .inr (8, [.ref s1, .ref s2, .ref s3, .ref s4, .ref s5, .ref s6, .int ds, .ref q_6, va_rf bt])), (q_8, .inl (cI, 4096, .inl g_11)), (q_6, .inr (6, [.ref q_7, .ref q_8, .int v_9])), (q_7, .inl (cI, 4096, .inl g_10))]) (w1 := [(s2, .inr (1, [.ref bx, .int ik, .int wy, .int op])), (bx, .inr (0, [.int bx0, .int by0, .int bx1, .int by1])), (t0, .inr (5, [.ref d0, .int w, .int h])), (d0, .inl (cI, 4096, .inl (if 0 ≤ r_17.toInt ∧ r_17.toInt < w.toInt ∧ 0 ≤ r_18.toInt ∧ r_18.toInt < h.toInt ∧ bx0.toInt ≤ r_17.toInt ∧ r_17.toInt ≤ bx1.toInt ∧ by0.toInt ≤ r_18.toInt ∧ r_18.toInt ≤ by1.toInt then upd gd (ixP r_17 r_18) (laidP wy ik (gd (ixP r_17 r_18)) op) else gd)))]) hP hD [0, 6, 4, 5] [1, 2, 3, 7, 8] rfl rfl (by decide) (by decide) hk1 hFc hP1 hD1
          clear hz1 hk1 hFc hKc hDc hPc
          generalize H1 = H at hP hS ⊢
          have hP : va_P D vwCl [(s1, .inl (cO, 4, .inr (.inr (.inr (.inr f))))), (h0, .inr (8, [.ref s1, .ref s2, .ref s3, .ref s4, .ref s5, .ref s6, .int ds, .ref q_6, va_rf bt])), (q_8, .inl (cI, 4096, .inl g_11)), (q_6, .inr (6, [.ref q_7, .ref q_8, .int v_9])), (q_7, .inl (cI, 4096, .inl g_10)), (s2, .inr (1, [.ref bx, .int ik, .int wy, .int op])), (bx, .inr (0, [.int bx0, .int by0, .int bx1, .int by1])), (t0, .inr (5, [.ref d0, .int w, .int h])), (d0, .inl (cI, 4096, .inl (if 0 ≤ r_17.toInt ∧ r_17.toInt < w.toInt ∧ 0 ≤ r_18.toInt ∧ r_18.toInt < h.toInt ∧ bx0.toInt ≤ r_17.toInt ∧ r_17.toInt ≤ bx1.toInt ∧ by0.toInt ≤ r_18.toInt ∧ r_18.toInt ≤ by1.toInt then upd gd (ixP r_17 r_18) (laidP wy ik (gd (ixP r_17 r_18)) op) else gd)))] H := hP
          have hD : va_D A [(s1, .inl (cO, 4, .inr (.inr (.inr (.inr f))))), (h0, .inr (8, [.ref s1, .ref s2, .ref s3, .ref s4, .ref s5, .ref s6, .int ds, .ref q_6, va_rf bt])), (q_8, .inl (cI, 4096, .inl g_11)), (q_6, .inr (6, [.ref q_7, .ref q_8, .int v_9])), (q_7, .inl (cI, 4096, .inl g_10)), (s2, .inr (1, [.ref bx, .int ik, .int wy, .int op])), (bx, .inr (0, [.int bx0, .int by0, .int bx1, .int by1])), (t0, .inr (5, [.ref d0, .int w, .int h])), (d0, .inl (cI, 4096, .inl (if 0 ≤ r_17.toInt ∧ r_17.toInt < w.toInt ∧ 0 ≤ r_18.toInt ∧ r_18.toInt < h.toInt ∧ bx0.toInt ≤ r_17.toInt ∧ r_17.toInt ≤ bx1.toInt ∧ by0.toInt ≤ r_18.toInt ∧ r_18.toInt ≤ by1.toInt then upd gd (ixP r_17 r_18) (laidP wy ik (gd (ixP r_17 r_18)) op) else gd)))] := hD
          refine lv_iadd hx hb dX8_flood_98 ?_
          refine lv_topi (fun y_20 ey_20 => ?_)
          refine lv_istore (lv' := [(7, .int y_20), (8, .int x8), (6, .ref q_6), (5, .ref t0), (0, .ref h0), (1, .int k), (2, .int x), (3, .int y), (4, .int co)]) hx hb dX8_flood_99 hl (by decide) rfl (fun ls hl => ?_)
          obtain ⟨y_21, ey_21⟩ : ∃ y : Int32, y = x8 + 1 := ⟨_, rfl⟩
          refine lv_iinc (v := y_21) (lv' := [(8, .int y_21), (7, .int y_20), (6, .ref q_6), (5, .ref t0), (0, .ref h0), (1, .int k), (2, .int x), (3, .int y), (4, .int co)]) hx hb dX8_flood_101 hl (k := 1) rfl (by rw [ey_21]; rfl) (by decide) rfl (fun ls hl => ?_)
          refine lv_goto (tgt := 49) hx hb dX8_flood_104 (by decide) ?_
          exact ih_14 (j + 1) y_21 y_20 (if 0 ≤ r_17.toInt ∧ r_17.toInt < w.toInt ∧ 0 ≤ r_18.toInt ∧ r_18.toInt < h.toInt ∧ bx0.toInt ≤ r_17.toInt ∧ r_17.toInt ≤ bx1.toInt ∧ by0.toInt ≤ r_18.toInt ∧ r_18.toInt ≤ by1.toInt then upd gd (ixP r_17 r_18) (laidP wy ik (gd (ixP r_17 r_18)) op) else gd) _ _ _ (by omega) (by omega) (by rw [ey_21, ex_j]; exact nI_1 j) (hP.sub (ws' := [(s2, .inr (1, [.ref bx, .int ik, .int wy, .int op])), (s1, .inl (cO, 4, .inr (.inr (.inr (.inr f))))), (h0, .inr (8, [.ref s1, .ref s2, .ref s3, .ref s4, .ref s5, .ref s6, .int ds, .ref q_6, va_rf bt])), (q_6, .inr (6, [.ref q_7, .ref q_8, .int v_9])), (q_7, .inl (cI, 4096, .inl g_10)), (q_8, .inl (cI, 4096, .inl g_11)), (t0, .inr (5, [.ref d0, .int w, .int h])), (d0, .inl (cI, 4096, .inl (if 0 ≤ r_17.toInt ∧ r_17.toInt < w.toInt ∧ 0 ≤ r_18.toInt ∧ r_18.toInt < h.toInt ∧ bx0.toInt ≤ r_17.toInt ∧ r_17.toInt ≤ bx1.toInt ∧ by0.toInt ≤ r_18.toInt ∧ r_18.toInt ≤ by1.toInt then upd gd (ixP r_17 r_18) (laidP wy ik (gd (ixP r_17 r_18)) op) else gd))), (bx, .inr (0, [.int bx0, .int by0, .int bx1, .int by1]))]) [5, 0, 1, 3, 4, 2, 7, 8, 6] rfl) (hD.sub (ws' := [(s2, .inr (1, [.ref bx, .int ik, .int wy, .int op])), (s1, .inl (cO, 4, .inr (.inr (.inr (.inr f))))), (h0, .inr (8, [.ref s1, .ref s2, .ref s3, .ref s4, .ref s5, .ref s6, .int ds, .ref q_6, va_rf bt])), (q_6, .inr (6, [.ref q_7, .ref q_8, .int v_9])), (q_7, .inl (cI, 4096, .inl g_10)), (q_8, .inl (cI, 4096, .inl g_11)), (t0, .inr (5, [.ref d0, .int w, .int h])), (d0, .inl (cI, 4096, .inl (if 0 ≤ r_17.toInt ∧ r_17.toInt < w.toInt ∧ 0 ≤ r_18.toInt ∧ r_18.toInt < h.toInt ∧ bx0.toInt ≤ r_17.toInt ∧ r_17.toInt ≤ bx1.toInt ∧ by0.toInt ≤ r_18.toInt ∧ r_18.toInt ≤ by1.toInt then upd gd (ixP r_17 r_18) (laidP wy ik (gd (ixP r_17 r_18)) op) else gd))), (bx, .inr (0, [.int bx0, .int by0, .int bx1, .int by1]))]) [5, 0, 1, 3, 4, 2, 7, 8, 6] (by decide) rfl) hS (lv_sub hl [0, 1, 2, 3, 4, 5, 6, 7, 8] rfl)
    exact loop_13 (4096 + 1) 0 0 0 g _ _ _ (by omega) (by omega) nI_0.symm hP hD hS (lv_sub hl [0, 1, 2, 3, 4, 5, 6, 7, 8] rfl)
  · skip
    have f_4 := bz0 hr_2 c_3
    exact False.elim (by omega)

set_option maxHeartbeats 4000000 in
set_option maxRecDepth 100000 in
theorem k_X8_region_y0 (l : Launch) (D : va_G) (sz : Nat) (h0 s1 s2 s3 s4 s5 s6 : Nat) (ds : Int32) (bt : Option Nat) (f : Nat → Option Nat) (bx0 by0 bx1 by1 : Int32) (t0 d0 : Nat) (w h : Int32) (g : Nat → Int32) (k x y co : Int32) (cO : ClassId) (cI : ClassId) (hk : 0 ≤ k.toInt ∧ k.toInt ≤ 3) (hf : f k.toNatClampNeg = some t0) (hw : w.toInt ≤ 64) (hh : h.toInt ≤ 64) (hon : 0 ≤ x.toInt ∧ x.toInt < w.toInt ∧ 0 ≤ y.toInt ∧ y.toInt < h.toInt) : Met l yX8_region (wB yX8_region cX8_region 6 (some .int)) ({ frames := 5, cells := 3, slots := 8195, locals := 125 }) (cP D [(h0, .inr (8, [.ref s1, .ref s2, .ref s3, .ref s4, .ref s5, .ref s6, .int ds, .null, va_rf bt])), (s1, .inl (cO, 4, .inr (.inr (.inr (.inr f))))), (s3, .inr (0, [.int bx0, .int by0, .int bx1, .int by1])), (t0, .inr (5, [.ref d0, .int w, .int h])), (d0, .inl (cI, 4096, .inl g))] [(cO, .object "DotBench$Sheet"), (cI, .int)] sz [.ref h0, .int k, .int x, .int y, .int co]) (va_Qi (fun (r : Int32) (_ : Unit) => True) (fun (_ : Unit) (t : State) => ∃ (sq v1 v2 : Nat), ∃ (sz2 : Int32), ∃ (g2 g3 : Nat → Int32), cB D (va_A [(h0, .inr (8, [.ref s1, .ref s2, .ref s3, .ref s4, .ref s5, .ref s6, .int ds, .null, va_rf bt])), (s1, .inl (cO, 4, .inr (.inr (.inr (.inr f))))), (s3, .inr (0, [.int bx0, .int by0, .int bx1, .int by1])), (t0, .inr (5, [.ref d0, .int w, .int h])), (d0, .inl (cI, 4096, .inl g))] sz) [(h0, .inr (8, [.ref s1, .ref s2, .ref s3, .ref s4, .ref s5, .ref s6, .int ds, .ref sq, va_rf bt])), (s1, .inl (cO, 4, .inr (.inr (.inr (.inr f))))), (s3, .inr (0, [.int bx0, .int by0, .int bx1, .int by1])), (t0, .inr (5, [.ref d0, .int w, .int h])), (d0, .inl (cI, 4096, .inl g)), (sq, .inr (6, [.ref v1, .ref v2, .int sz2])), (v1, .inl (cI, 4096, .inl g2)), (v2, .inl (cI, 4096, .inl g3))] [(cO, .object "DotBench$Sheet"), (cI, .int)] t) (va_A [(h0, .inr (8, [.ref s1, .ref s2, .ref s3, .ref s4, .ref s5, .ref s6, .int ds, .null, va_rf bt])), (s1, .inl (cO, 4, .inr (.inr (.inr (.inr f))))), (s3, .inr (0, [.int bx0, .int by0, .int bx1, .int by1])), (t0, .inr (5, [.ref d0, .int w, .int h])), (d0, .inl (cI, 4096, .inl g))] sz)) 3 8195 (va_A [(h0, .inr (8, [.ref s1, .ref s2, .ref s3, .ref s4, .ref s5, .ref s6, .int ds, .null, va_rf bt])), (s1, .inl (cO, 4, .inr (.inr (.inr (.inr f))))), (s3, .inr (0, [.int bx0, .int by0, .int bx1, .int by1])), (t0, .inr (5, [.ref d0, .int w, .int h])), (d0, .inl (cI, 4096, .inl g))] sz) := by
  refine Met.ofW (cc := cX8_region) (maxL := 6) (ret := (some .int)) (by decide) rfl ?_
  intro p e s m args below meth c s₁ B hml hv
  obtain ⟨rfl, hsz, hP, hK, hD0, hN⟩ := hv
  have hx := B.exec
  have hb := B.bytes
  have hr := B.returns
  have hts0 := atoms_spec (ws := (wB yX8_region cX8_region 6 (some .int))) B.pre
  have hts : ∀ w ∈ bigW, w.before _ s = true := fun w h => hts0 w (List.mem_cons_of_mem _ h)
  have hown : s.vm.findClass RX8 = some m.cls := findClass_of_methodNamed B.named
  have hlocks := B.notSynchronized
  subst hsz
  have hD := hD0.self (sz := s.heap.size)
  generalize hAe : va_A [(h0, .inr (8, [.ref s1, .ref s2, .ref s3, .ref s4, .ref s5, .ref s6, .int ds, .null, va_rf bt])), (s1, .inl (cO, 4, .inr (.inr (.inr (.inr f))))), (s3, .inr (0, [.int bx0, .int by0, .int bx1, .int by1])), (t0, .inr (5, [.ref d0, .int w, .int h])), (d0, .inl (cI, 4096, .inl g))] s.heap.size = A at hD ⊢
  have hA : ∀ q : Nat, s.heap.size ≤ q → A q := fun q h => by rw [← hAe]; exact Or.inr h
  have hS : va_S A s.heap s.heap [] := va_S.rf
  have hP : va_P D vwCl [(h0, .inr (8, [.ref s1, .ref s2, .ref s3, .ref s4, .ref s5, .ref s6, .int ds, .null, va_rf bt])), (s1, .inl (cO, 4, .inr (.inr (.inr (.inr f))))), (s3, .inr (0, [.int bx0, .int by0, .int bx1, .int by1])), (t0, .inr (5, [.ref d0, .int w, .int h])), (d0, .inl (cI, 4096, .inl g))] s.heap := hP
  have hl := lv_entry ([.ref h0, .int k, .int x, .int y, .int co]) (n := 6) (Nat.le_of_ble_eq_true rfl)
  rw [lg_entry_eq]
  generalize (lg_sl ([.ref h0, .int k, .int x, .int y, .int co]) ++ List.replicate (6 - (lg_sl ([.ref h0, .int k, .int x, .int y, .int co])).length) Slot.unset).toArray = ls at hl ⊢
  have hl : lv_has ls 6 [(0, .ref h0), (1, .int k), (2, .int x), (3, .int y), (4, .int co)] := hl
  clear hts0 hD0 hAe
  refine my_abs (fun R Q hR hQ => ?_)
  refine lv_aload_n hx hb dX8_region_0 rfl (lv_at hl 0 rfl) ?_
  refine lv_iload_n hx hb dX8_region_1 rfl (lv_at hl 1 rfl) ?_
  have hPc := hP.sub (ws' := [(h0, .inr (8, [.ref s1, .ref s2, .ref s3, .ref s4, .ref s5, .ref s6, .int ds, .null, va_rf bt])), (s1, .inl (cO, 4, .inr (.inr (.inr (.inr f)))))]) [0, 1] rfl
  have hDc := hD.sub (ws' := [(h0, .inr (8, [.ref s1, .ref s2, .ref s3, .ref s4, .ref s5, .ref s6, .int ds, .null, va_rf bt])), (s1, .inl (cO, 4, .inr (.inr (.inr (.inr f)))))]) [0, 1] (by decide) rfl
  have hKc := hK.sub (tys' := [(cO, .object "DotBench$Sheet")]) [0] rfl
  have hFc := va_free (wc := [(h0, .inr (8, [.ref s1, .ref s2, .ref s3, .ref s4, .ref s5, .ref s6, .int ds, .null, va_rf bt])), (s1, .inl (cO, 4, .inr (.inr (.inr (.inr f)))))]) hD hS hA [0, 1] rfl
  refine va_callq (va_runV (As := [.int k]) (rest := []) ⟨hx, hb, hml, hown, hts⟩ (k_X8_sheetAt_y l D s.heap.size h0 s1 s2 s3 s4 s5 s6 ds none bt f k t0 cO (by first | assumption | omega | decide) (by first | assumption | omega | decide)) (cwV 1 hts (gV bw_267 bw_346 bw_347 bw_223 bw_345) rfl rfl rfl (by decide +kernel) ⟨(by rw [hR]; exact Nat.le_of_ble_eq_true rfl), (by rw [hR]; exact Nat.le_of_ble_eq_true rfl)⟩) ⟨cP_blind, va_recv hKc hPc (ci := 8) (q0 := 0) rfl rfl, cP_at hPc hKc hDc hN⟩ rfl rfl hl.1 rfl (lv_room (Nat.le_of_ble_eq_true rfl)) dX8_region_2 ⟨(by rw [hR]; exact Nat.le_of_ble_eq_true rfl), (by rw [hR]; exact Nat.le_of_ble_eq_true rfl)⟩) hS (fun q _ h => hFc q h) hFc (fun r_1 u9 t9 H1 locs ht hvm hr_1 hB hz1 hk1 hS => ?_)
  try dsimp only at hr_1
  obtain ⟨hP1, hK1, hD1⟩ := hB
  rw [ht] at hP1
  obtain ⟨hP, hD⟩ := va_join (wr := [(s3, .inr (0, [.int bx0, .int by0, .int bx1, .int by1])), (t0, .inr (5, [.ref d0, .int w, .int h])), (d0, .inl (cI, 4096, .inl g))]) (w1 := [(h0, .inr (8, [.ref s1, .ref s2, .ref s3, .ref s4, .ref s5, .ref s6, .int ds, .null, va_rf bt])), (s1, .inl (cO, 4, .inr (.inr (.inr (.inr f)))))]) hP hD [0, 1] [2, 3, 4] rfl rfl (by decide) (by decide) hk1 hFc hP1 hD1
  clear hz1 hk1 hFc hKc hDc hPc
  generalize H1 = H at hP hS ⊢
  have hP : va_P D vwCl [(s3, .inr (0, [.int bx0, .int by0, .int bx1, .int by1])), (t0, .inr (5, [.ref d0, .int w, .int h])), (d0, .inl (cI, 4096, .inl g)), (h0, .inr (8, [.ref s1, .ref s2, .ref s3, .ref s4, .ref s5, .ref s6, .int ds, .null, va_rf bt])), (s1, .inl (cO, 4, .inr (.inr (.inr (.inr f)))))] H := hP
  have hD : va_D A [(s3, .inr (0, [.int bx0, .int by0, .int bx1, .int by1])), (t0, .inr (5, [.ref d0, .int w, .int h])), (d0, .inl (cI, 4096, .inl g)), (h0, .inr (8, [.ref s1, .ref s2, .ref s3, .ref s4, .ref s5, .ref s6, .int ds, .null, va_rf bt])), (s1, .inl (cO, 4, .inr (.inr (.inr (.inr f)))))] := hD
  subst hr_1
  refine my_topv (v := .ref t0) rfl ?_
  refine lv_astore (lv' := [(5, .ref t0), (0, .ref h0), (1, .int k), (2, .int x), (3, .int y), (4, .int co)]) hx hb dX8_region_5 hl (by decide) rfl (fun ls hl => ?_)
  refine lv_aload hx hb dX8_region_7 (lv_at hl 0 rfl) ?_
  refine lv_ifnull hx hb dX8_region_9 ?_
  refine lv_aload hx hb dX8_region_12 (lv_at hl 0 rfl) ?_
  refine lv_iload_n hx hb dX8_region_14 rfl (lv_at hl 3 rfl) ?_
  refine lv_iload_n hx hb dX8_region_15 rfl (lv_at hl 4 rfl) ?_
  have hPc := hP.sub (ws' := [(t0, .inr (5, [.ref d0, .int w, .int h]))]) [1] rfl
  have hDc := hD.sub (ws' := [(t0, .inr (5, [.ref d0, .int w, .int h]))]) [1] (by decide) rfl
  have hKc := hK.sub (tys' := []) [] rfl
  have hFc := va_free (wc := [(t0, .inr (5, [.ref d0, .int w, .int h]))]) hD hS hA [1] rfl
  refine va_calli (va_runV (As := [.int x, .int y]) (rest := []) ⟨hx, hb, hml, hown, hts⟩ (k_X5_has l D H.size t0 d0 w h x y) (cwV 2 hts (gV bw_309 bw_150 bw_151 bw_130 bw_149) rfl rfl rfl (by decide +kernel) ⟨(by rw [hR]; exact Nat.le_of_ble_eq_true rfl), (by rw [hR]; exact Nat.le_of_ble_eq_true rfl)⟩) ⟨cP_blind, va_recv hKc hPc (ci := 5) (q0 := 0) rfl rfl, cP_at hPc hKc hDc hN⟩ rfl rfl hl.1 rfl (lv_room (Nat.le_of_ble_eq_true rfl)) dX8_region_16 ⟨(by rw [hR]; exact Nat.le_of_ble_eq_true rfl), (by rw [hR]; exact Nat.le_of_ble_eq_true rfl)⟩) hS (fun q _ h => hFc q h) hFc (fun r_2 u9 t9 H1 locs ht hvm hr_2 hB hz1 hk1 hS => ?_)
  try dsimp only at hr_2
  obtain ⟨hP1, hK1, hD1⟩ := hB
  rw [ht] at hP1
  obtain ⟨hP, hD⟩ := va_join (wr := [(s3, .inr (0, [.int bx0, .int by0, .int bx1, .int by1])), (d0, .inl (cI, 4096, .inl g)), (h0, .inr (8, [.ref s1, .ref s2, .ref s3, .ref s4, .ref s5, .ref s6, .int ds, .null, va_rf bt])), (s1, .inl (cO, 4, .inr (.inr (.inr (.inr f)))))]) (w1 := [(t0, .inr (5, [.ref d0, .int w, .int h]))]) hP hD [1] [0, 2, 3, 4] rfl rfl (by decide) (by decide) hk1 hFc hP1 hD1
  clear hz1 hk1 hFc hKc hDc hPc
  generalize H1 = H at hP hS ⊢
  have hP : va_P D vwCl [(s3, .inr (0, [.int bx0, .int by0, .int bx1, .int by1])), (d0, .inl (cI, 4096, .inl g)), (h0, .inr (8, [.ref s1, .ref s2, .ref s3, .ref s4, .ref s5, .ref s6, .int ds, .null, va_rf bt])), (s1, .inl (cO, 4, .inr (.inr (.inr (.inr f))))), (t0, .inr (5, [.ref d0, .int w, .int h]))] H := hP
  have hD : va_D A [(s3, .inr (0, [.int bx0, .int by0, .int bx1, .int by1])), (d0, .inl (cI, 4096, .inl g)), (h0, .inr (8, [.ref s1, .ref s2, .ref s3, .ref s4, .ref s5, .ref s6, .int ds, .null, va_rf bt])), (s1, .inl (cO, 4, .inr (.inr (.inr (.inr f))))), (t0, .inr (5, [.ref d0, .int w, .int h]))] := hD
  refine lv_if_ne (tgt := 24) hx hb dX8_region_19 (by decide) (fun c_3 => ?_) (fun c_3 => ?_)
  · skip
    have f_4 := bz1 hr_2 c_3
    refine lv_aload_n hx hb dX8_region_24 rfl (lv_at hl 1 rfl) ?_
    refine lv_aload hx hb dX8_region_25 (lv_at hl 0 rfl) ?_
    refine lv_aload_n hx hb dX8_region_27 rfl (lv_at hl 1 rfl) ?_
    refine va_get (D := D) (ci := 8) (v := .ref s3) (C := RX8) (T := TX8) (N := 9) hx hb hts hi_X8 hown hK hP 2 rfl rfl 2 (by decide) (hts _ bw_233) (fun _ h9 => h9) rfl dX8_region_28 ?_
    refine lv_iload_n hx hb dX8_region_31 rfl (lv_at hl 3 rfl) ?_
    refine lv_iload_n hx hb dX8_region_32 rfl (lv_at hl 4 rfl) ?_
    refine lv_iload hx hb dX8_region_33 (lv_at hl 5 rfl) ?_
    have hPc := hP.sub (ws' := [(h0, .inr (8, [.ref s1, .ref s2, .ref s3, .ref s4, .ref s5, .ref s6, .int ds, .null, va_rf bt])), (t0, .inr (5, [.ref d0, .int w, .int h])), (d0, .inl (cI, 4096, .inl g)), (s3, .inr (0, [.int bx0, .int by0, .int bx1, .int by1]))]) [2, 4, 1, 0] rfl
    have hDc := hD.sub (ws' := [(h0, .inr (8, [.ref s1, .ref s2, .ref s3, .ref s4, .ref s5, .ref s6, .int ds, .null, va_rf bt])), (t0, .inr (5, [.ref d0, .int w, .int h])), (d0, .inl (cI, 4096, .inl g)), (s3, .inr (0, [.int bx0, .int by0, .int bx1, .int by1]))]) [2, 4, 1, 0] (by decide) rfl
    have hKc := hK.sub (tys' := [(cI, .int)]) [1] rfl
    have hFc := va_free (wc := [(h0, .inr (8, [.ref s1, .ref s2, .ref s3, .ref s4, .ref s5, .ref s6, .int ds, .null, va_rf bt])), (t0, .inr (5, [.ref d0, .int w, .int h])), (d0, .inl (cI, 4096, .inl g)), (s3, .inr (0, [.int bx0, .int by0, .int bx1, .int by1]))]) hD hS hA [2, 4, 1, 0] rfl
    refine va_callq (va_runV (As := [.ref t0, .ref s3, .int x, .int y, .int co]) (rest := []) ⟨hx, hb, hml, hown, hts⟩ (k_X8_gathered_0 l D H.size h0 s1 s2 s3 s4 s5 s6 ds bt t0 d0 s3 w h g bx0 by0 bx1 by1 x y co cI (by first | assumption | omega | decide) (by first | assumption | omega | decide)) (cwV 5 hts (gV bw_310 bw_378 bw_379 bw_223 bw_377) rfl rfl rfl (by decide +kernel) ⟨(by rw [hR]; exact Nat.le_of_ble_eq_true rfl), (by rw [hR]; exact Nat.le_of_ble_eq_true rfl)⟩) ⟨cP_blind, va_recv hKc hPc (ci := 8) (q0 := 0) rfl rfl, cP_at hPc hKc hDc hN⟩ rfl rfl hl.1 rfl (lv_room (Nat.le_of_ble_eq_true rfl)) dX8_region_35 ⟨(by rw [hR]; exact Nat.le_of_ble_eq_true rfl), (by rw [hR]; exact Nat.le_of_ble_eq_true rfl)⟩) hS (fun q _ h => hFc q h) hFc (fun r_5 q_6 t9 H1 locs ht hvm hr_5 hB hz1 hk1 hS => ?_)
    try dsimp only at hr_5
    obtain ⟨q_7, q_8, v_9, g_10, g_11, b_12, hP1, hK1, hD1⟩ := hB
    rw [ht] at hP1
    obtain ⟨hP, hD⟩ := va_join (wr := [(s1, .inl (cO, 4, .inr (.inr (.inr (.inr f)))))]) (w1 := [(h0, .inr (8, [.ref s1, .ref s2, .ref s3, .ref s4, .ref s5, .ref s6, .int ds, .ref q_6, va_rf bt])), (q_6, .inr (6, [.ref q_7, .ref q_8, .int v_9])), (q_7, .inl (cI, 4096, .inl g_10)), (q_8, .inl (cI, 4096, .inl g_11)), (t0, .inr (5, [.ref d0, .int w, .int h])), (d0, .inl (cI, 4096, .inl g)), (s3, .inr (0, [.int bx0, .int by0, .int bx1, .int by1]))]) hP hD [2, 4, 1, 0] [3] rfl rfl (by decide) (by decide) hk1 hFc hP1 hD1
    clear hz1 hk1 hFc hKc hDc hPc
    generalize H1 = H at hP hS ⊢
    have hP : va_P D vwCl [(s1, .inl (cO, 4, .inr (.inr (.inr (.inr f))))), (h0, .inr (8, [.ref s1, .ref s2, .ref s3, .ref s4, .ref s5, .ref s6, .int ds, .ref q_6, va_rf bt])), (q_6, .inr (6, [.ref q_7, .ref q_8, .int v_9])), (q_7, .inl (cI, 4096, .inl g_10)), (q_8, .inl (cI, 4096, .inl g_11)), (t0, .inr (5, [.ref d0, .int w, .int h])), (d0, .inl (cI, 4096, .inl g)), (s3, .inr (0, [.int bx0, .int by0, .int bx1, .int by1]))] H := hP
    have hD : va_D A [(s1, .inl (cO, 4, .inr (.inr (.inr (.inr f))))), (h0, .inr (8, [.ref s1, .ref s2, .ref s3, .ref s4, .ref s5, .ref s6, .int ds, .ref q_6, va_rf bt])), (q_6, .inr (6, [.ref q_7, .ref q_8, .int v_9])), (q_7, .inl (cI, 4096, .inl g_10)), (q_8, .inl (cI, 4096, .inl g_11)), (t0, .inr (5, [.ref d0, .int w, .int h])), (d0, .inl (cI, 4096, .inl g)), (s3, .inr (0, [.int bx0, .int by0, .int bx1, .int by1]))] := hD
    refine W.widen (k := 3) (n := 8195) (by omega) (by omega) ?_
    subst hr_5
    refine my_topv (v := .ref q_6) rfl ?_
    refine va_getN (host := RX8) (D := D) (ci := 6) (v := .int v_9) (C := RX6) (T := TX6) (N := 3) hx hb hts hi_X6 hown hK hP 2 rfl rfl 2 (by decide) ((hN.1 (RX8, 180, "DotBench$Spread", "size", "I", RX8) (by decide +kernel)).use rfl) (fun _ h9 => h9) rfl dX8_region_38 ?_
    have hP9 := hP.sub (ws' := [(h0, .inr (8, [.ref s1, .ref s2, .ref s3, .ref s4, .ref s5, .ref s6, .int ds, .ref q_6, va_rf bt])), (s1, .inl (cO, 4, .inr (.inr (.inr (.inr f))))), (s3, .inr (0, [.int bx0, .int by0, .int bx1, .int by1])), (t0, .inr (5, [.ref d0, .int w, .int h])), (d0, .inl (cI, 4096, .inl g)), (q_6, .inr (6, [.ref q_7, .ref q_8, .int v_9])), (q_7, .inl (cI, 4096, .inl g_10)), (q_8, .inl (cI, 4096, .inl g_11))]) [1, 0, 7, 5, 6, 2, 3, 4] rfl
    have hD9 := hD.sub (ws' := [(h0, .inr (8, [.ref s1, .ref s2, .ref s3, .ref s4, .ref s5, .ref s6, .int ds, .ref q_6, va_rf bt])), (s1, .inl (cO, 4, .inr (.inr (.inr (.inr f))))), (s3, .inr (0, [.int bx0, .int by0, .int bx1, .int by1])), (t0, .inr (5, [.ref d0, .int w, .int h])), (d0, .inl (cI, 4096, .inl g)), (q_6, .inr (6, [.ref q_7, .ref q_8, .int v_9])), (q_7, .inl (cI, 4096, .inl g_10)), (q_8, .inl (cI, 4096, .inl g_11))]) [1, 0, 7, 5, 6, 2, 3, 4] (by decide) rfl
    have hK9 := hK.sub (tys' := [(cO, .object "DotBench$Sheet"), (cI, .int)]) [0, 1] rfl
    refine hQ _ _ _ _ _ ?_
    exact W.iret (v := v_9) hx hb hr (fun t ht hW => ⟨⟨v_9, (), rfl, trivial, ⟨q_6, q_7, q_8, v_9, g_10, g_11, by rw [ht]; exact hP9, va_K.moved hW.alike hK9, hD9⟩⟩, hS.F ht⟩) hS.2.2 dX8_region_41
  · skip
    have f_4 := bz0 hr_2 c_3
    exact False.elim (by omega)

set_option maxHeartbeats 4000000 in
set_option maxRecDepth 100000 in
theorem k_X8_flood_x (l : Launch) (D : va_G) (sz : Nat) (h0 s1 s2 s3 s4 s5 s6 : Nat) (ds : Int32) (sp bt : Option Nat) (f : Nat → Option Nat) (t0 d0 : Nat) (w h : Int32) (k x y co : Int32) (cO : ClassId) (hk : 0 ≤ k.toInt ∧ k.toInt ≤ 3) (hf : f k.toNatClampNeg = some t0) (hon : ¬ (0 ≤ x.toInt ∧ x.toInt < w.toInt ∧ 0 ≤ y.toInt ∧ y.toInt < h.toInt)) : Met l yX8_flood (wB yX8_flood cX8_flood 9 (some .int)) ({ frames := 1, cells := 0, slots := 0, locals := 22 }) (cP D [(h0, .inr (8, [.ref s1, .ref s2, .ref s3, .ref s4, .ref s5, .ref s6, .int ds, va_rf sp, va_rf bt])), (s1, .inl (cO, 4, .inr (.inr (.inr (.inr f))))), (t0, .inr (5, [.ref d0, .int w, .int h]))] [(cO, .object "DotBench$Sheet")] sz [.ref h0, .int k, .int x, .int y, .int co]) (va_Qi (fun (r : Int32) (_ : Unit) => r = -1) (fun (_ : Unit) (t : State) => cB D (va_A [(h0, .inr (8, [.ref s1, .ref s2, .ref s3, .ref s4, .ref s5, .ref s6, .int ds, va_rf sp, va_rf bt])), (s1, .inl (cO, 4, .inr (.inr (.inr (.inr f))))), (t0, .inr (5, [.ref d0, .int w, .int h]))] sz) [(h0, .inr (8, [.ref s1, .ref s2, .ref s3, .ref s4, .ref s5, .ref s6, .int ds, va_rf sp, va_rf bt])), (s1, .inl (cO, 4, .inr (.inr (.inr (.inr f))))), (t0, .inr (5, [.ref d0, .int w, .int h]))] [(cO, .object "DotBench$Sheet")] t) (va_A [(h0, .inr (8, [.ref s1, .ref s2, .ref s3, .ref s4, .ref s5, .ref s6, .int ds, va_rf sp, va_rf bt])), (s1, .inl (cO, 4, .inr (.inr (.inr (.inr f))))), (t0, .inr (5, [.ref d0, .int w, .int h]))] sz)) 0 0 (va_A [(h0, .inr (8, [.ref s1, .ref s2, .ref s3, .ref s4, .ref s5, .ref s6, .int ds, va_rf sp, va_rf bt])), (s1, .inl (cO, 4, .inr (.inr (.inr (.inr f))))), (t0, .inr (5, [.ref d0, .int w, .int h]))] sz) := by
  refine Met.ofW (cc := cX8_flood) (maxL := 9) (ret := (some .int)) (by decide) rfl ?_
  intro p e s m args below meth c s₁ B hml hv
  obtain ⟨rfl, hsz, hP, hK, hD0, hN⟩ := hv
  have hx := B.exec
  have hb := B.bytes
  have hr := B.returns
  have hts0 := atoms_spec (ws := (wB yX8_flood cX8_flood 9 (some .int))) B.pre
  have hts : ∀ w ∈ bigW, w.before _ s = true := fun w h => hts0 w (List.mem_cons_of_mem _ h)
  have hown : s.vm.findClass RX8 = some m.cls := findClass_of_methodNamed B.named
  have hlocks := B.notSynchronized
  subst hsz
  have hD := hD0.self (sz := s.heap.size)
  generalize hAe : va_A [(h0, .inr (8, [.ref s1, .ref s2, .ref s3, .ref s4, .ref s5, .ref s6, .int ds, va_rf sp, va_rf bt])), (s1, .inl (cO, 4, .inr (.inr (.inr (.inr f))))), (t0, .inr (5, [.ref d0, .int w, .int h]))] s.heap.size = A at hD ⊢
  have hA : ∀ q : Nat, s.heap.size ≤ q → A q := fun q h => by rw [← hAe]; exact Or.inr h
  have hS : va_S A s.heap s.heap [] := va_S.rf
  have hP : va_P D vwCl [(h0, .inr (8, [.ref s1, .ref s2, .ref s3, .ref s4, .ref s5, .ref s6, .int ds, va_rf sp, va_rf bt])), (s1, .inl (cO, 4, .inr (.inr (.inr (.inr f))))), (t0, .inr (5, [.ref d0, .int w, .int h]))] s.heap := hP
  have hl := lv_entry ([.ref h0, .int k, .int x, .int y, .int co]) (n := 9) (Nat.le_of_ble_eq_true rfl)
  rw [lg_entry_eq]
  generalize (lg_sl ([.ref h0, .int k, .int x, .int y, .int co]) ++ List.replicate (9 - (lg_sl ([.ref h0, .int k, .int x, .int y, .int co])).length) Slot.unset).toArray = ls at hl ⊢
  have hl : lv_has ls 9 [(0, .ref h0), (1, .int k), (2, .int x), (3, .int y), (4, .int co)] := hl
  clear hts0 hD0 hAe
  refine my_abs (fun R Q hR hQ => ?_)
  refine lv_aload_n hx hb dX8_flood_0 rfl (lv_at hl 0 rfl) ?_
  refine lv_iload_n hx hb dX8_flood_1 rfl (lv_at hl 1 rfl) ?_
  have hPc := hP.sub (ws' := [(h0, .inr (8, [.ref s1, .ref s2, .ref s3, .ref s4, .ref s5, .ref s6, .int ds, va_rf sp, va_rf bt])), (s1, .inl (cO, 4, .inr (.inr (.inr (.inr f)))))]) [0, 1] rfl
  have hDc := hD.sub (ws' := [(h0, .inr (8, [.ref s1, .ref s2, .ref s3, .ref s4, .ref s5, .ref s6, .int ds, va_rf sp, va_rf bt])), (s1, .inl (cO, 4, .inr (.inr (.inr (.inr f)))))]) [0, 1] (by decide) rfl
  have hKc := hK.sub (tys' := [(cO, .object "DotBench$Sheet")]) [0] rfl
  have hFc := va_free (wc := [(h0, .inr (8, [.ref s1, .ref s2, .ref s3, .ref s4, .ref s5, .ref s6, .int ds, va_rf sp, va_rf bt])), (s1, .inl (cO, 4, .inr (.inr (.inr (.inr f)))))]) hD hS hA [0, 1] rfl
  refine va_callq (va_runV (As := [.int k]) (rest := []) ⟨hx, hb, hml, hown, hts⟩ (k_X8_sheetAt_y l D s.heap.size h0 s1 s2 s3 s4 s5 s6 ds sp bt f k t0 cO (by first | assumption | omega | decide) (by first | assumption | omega | decide)) (cwV 1 hts (gV bw_267 bw_346 bw_347 bw_223 bw_345) rfl rfl rfl (by decide +kernel) ⟨(by rw [hR]; exact Nat.le_of_ble_eq_true rfl), (by rw [hR]; exact Nat.le_of_ble_eq_true rfl)⟩) ⟨cP_blind, va_recv hKc hPc (ci := 8) (q0 := 0) rfl rfl, cP_at hPc hKc hDc hN⟩ rfl rfl hl.1 rfl (lv_room (Nat.le_of_ble_eq_true rfl)) dX8_flood_2 ⟨(by rw [hR]; exact Nat.le_of_ble_eq_true rfl), (by rw [hR]; exact Nat.le_of_ble_eq_true rfl)⟩) hS (fun q _ h => hFc q h) hFc (fun r_1 u9 t9 H1 locs ht hvm hr_1 hB hz1 hk1 hS => ?_)
  try dsimp only at hr_1
  obtain ⟨hP1, hK1, hD1⟩ := hB
  rw [ht] at hP1
  obtain ⟨hP, hD⟩ := va_join (wr := [(t0, .inr (5, [.ref d0, .int w, .int h]))]) (w1 := [(h0, .inr (8, [.ref s1, .ref s2, .ref s3, .ref s4, .ref s5, .ref s6, .int ds, va_rf sp, va_rf bt])), (s1, .inl (cO, 4, .inr (.inr (.inr (.inr f)))))]) hP hD [0, 1] [2] rfl rfl (by decide) (by decide) hk1 hFc hP1 hD1
  clear hz1 hk1 hFc hKc hDc hPc
  generalize H1 = H at hP hS ⊢
  have hP : va_P D vwCl [(t0, .inr (5, [.ref d0, .int w, .int h])), (h0, .inr (8, [.ref s1, .ref s2, .ref s3, .ref s4, .ref s5, .ref s6, .int ds, va_rf sp, va_rf bt])), (s1, .inl (cO, 4, .inr (.inr (.inr (.inr f)))))] H := hP
  have hD : va_D A [(t0, .inr (5, [.ref d0, .int w, .int h])), (h0, .inr (8, [.ref s1, .ref s2, .ref s3, .ref s4, .ref s5, .ref s6, .int ds, va_rf sp, va_rf bt])), (s1, .inl (cO, 4, .inr (.inr (.inr (.inr f)))))] := hD
  subst hr_1
  refine my_topv (v := .ref t0) rfl ?_
  refine lv_astore (lv' := [(5, .ref t0), (0, .ref h0), (1, .int k), (2, .int x), (3, .int y), (4, .int co)]) hx hb dX8_flood_5 hl (by decide) rfl (fun ls hl => ?_)
  refine lv_aload hx hb dX8_flood_7 (lv_at hl 0 rfl) ?_
  refine lv_ifnull hx hb dX8_flood_9 ?_
  refine lv_aload hx hb dX8_flood_12 (lv_at hl 0 rfl) ?_
  refine lv_iload_n hx hb dX8_flood_14 rfl (lv_at hl 3 rfl) ?_
  refine lv_iload_n hx hb dX8_flood_15 rfl (lv_at hl 4 rfl) ?_
  have hPc := hP.sub (ws' := [(t0, .inr (5, [.ref d0, .int w, .int h]))]) [0] rfl
  have hDc := hD.sub (ws' := [(t0, .inr (5, [.ref d0, .int w, .int h]))]) [0] (by decide) rfl
  have hKc := hK.sub (tys' := []) [] rfl
  have hFc := va_free (wc := [(t0, .inr (5, [.ref d0, .int w, .int h]))]) hD hS hA [0] rfl
  refine va_calli (va_runV (As := [.int x, .int y]) (rest := []) ⟨hx, hb, hml, hown, hts⟩ (k_X5_has l D H.size t0 d0 w h x y) (cwV 2 hts (gV bw_309 bw_150 bw_151 bw_130 bw_149) rfl rfl rfl (by decide +kernel) ⟨(by rw [hR]; exact Nat.le_of_ble_eq_true rfl), (by rw [hR]; exact Nat.le_of_ble_eq_true rfl)⟩) ⟨cP_blind, va_recv hKc hPc (ci := 5) (q0 := 0) rfl rfl, cP_at hPc hKc hDc hN⟩ rfl rfl hl.1 rfl (lv_room (Nat.le_of_ble_eq_true rfl)) dX8_flood_16 ⟨(by rw [hR]; exact Nat.le_of_ble_eq_true rfl), (by rw [hR]; exact Nat.le_of_ble_eq_true rfl)⟩) hS (fun q _ h => hFc q h) hFc (fun r_2 u9 t9 H1 locs ht hvm hr_2 hB hz1 hk1 hS => ?_)
  try dsimp only at hr_2
  obtain ⟨hP1, hK1, hD1⟩ := hB
  rw [ht] at hP1
  obtain ⟨hP, hD⟩ := va_join (wr := [(h0, .inr (8, [.ref s1, .ref s2, .ref s3, .ref s4, .ref s5, .ref s6, .int ds, va_rf sp, va_rf bt])), (s1, .inl (cO, 4, .inr (.inr (.inr (.inr f)))))]) (w1 := [(t0, .inr (5, [.ref d0, .int w, .int h]))]) hP hD [0] [1, 2] rfl rfl (by decide) (by decide) hk1 hFc hP1 hD1
  clear hz1 hk1 hFc hKc hDc hPc
  generalize H1 = H at hP hS ⊢
  have hP : va_P D vwCl [(h0, .inr (8, [.ref s1, .ref s2, .ref s3, .ref s4, .ref s5, .ref s6, .int ds, va_rf sp, va_rf bt])), (s1, .inl (cO, 4, .inr (.inr (.inr (.inr f))))), (t0, .inr (5, [.ref d0, .int w, .int h]))] H := hP
  have hD : va_D A [(h0, .inr (8, [.ref s1, .ref s2, .ref s3, .ref s4, .ref s5, .ref s6, .int ds, va_rf sp, va_rf bt])), (s1, .inl (cO, 4, .inr (.inr (.inr (.inr f))))), (t0, .inr (5, [.ref d0, .int w, .int h]))] := hD
  refine lv_if_ne (tgt := 24) hx hb dX8_flood_19 (by decide) (fun c_3 => ?_) (fun c_3 => ?_)
  · skip
    have f_4 := bz1 hr_2 c_3
    exact False.elim (by omega)
  · skip
    have f_4 := bz0 hr_2 c_3
    refine lv_iconst (v := (-1)) hx hb dX8_flood_22 (by decide) ?_
    have hP9 := hP.sub (ws' := [(h0, .inr (8, [.ref s1, .ref s2, .ref s3, .ref s4, .ref s5, .ref s6, .int ds, va_rf sp, va_rf bt])), (s1, .inl (cO, 4, .inr (.inr (.inr (.inr f))))), (t0, .inr (5, [.ref d0, .int w, .int h]))]) [0, 1, 2] rfl
    have hD9 := hD.sub (ws' := [(h0, .inr (8, [.ref s1, .ref s2, .ref s3, .ref s4, .ref s5, .ref s6, .int ds, va_rf sp, va_rf bt])), (s1, .inl (cO, 4, .inr (.inr (.inr (.inr f))))), (t0, .inr (5, [.ref d0, .int w, .int h]))]) [0, 1, 2] (by decide) rfl
    have hK9 := hK.sub (tys' := [(cO, .object "DotBench$Sheet")]) [0] rfl
    refine hQ _ _ _ _ _ ?_
    exact W.iret (v := (-1)) hx hb hr (fun t ht hW => ⟨⟨(-1), (), rfl, rfl, ⟨by rw [ht]; exact hP9, va_K.moved hW.alike hK9, hD9⟩⟩, hS.F ht⟩) hS.2.2 dX8_flood_23

set_option maxHeartbeats 4000000 in
set_option maxRecDepth 100000 in
theorem k_X8_region_x (l : Launch) (D : va_G) (sz : Nat) (h0 s1 s2 s3 s4 s5 s6 : Nat) (ds : Int32) (sp bt : Option Nat) (f : Nat → Option Nat) (t0 d0 : Nat) (w h : Int32) (k x y co : Int32) (cO : ClassId) (hk : 0 ≤ k.toInt ∧ k.toInt ≤ 3) (hf : f k.toNatClampNeg = some t0) (hon : ¬ (0 ≤ x.toInt ∧ x.toInt < w.toInt ∧ 0 ≤ y.toInt ∧ y.toInt < h.toInt)) : Met l yX8_region (wB yX8_region cX8_region 6 (some .int)) ({ frames := 1, cells := 0, slots := 0, locals := 22 }) (cP D [(h0, .inr (8, [.ref s1, .ref s2, .ref s3, .ref s4, .ref s5, .ref s6, .int ds, va_rf sp, va_rf bt])), (s1, .inl (cO, 4, .inr (.inr (.inr (.inr f))))), (t0, .inr (5, [.ref d0, .int w, .int h]))] [(cO, .object "DotBench$Sheet")] sz [.ref h0, .int k, .int x, .int y, .int co]) (va_Qi (fun (r : Int32) (_ : Unit) => r = -1) (fun (_ : Unit) (t : State) => cB D (va_A [(h0, .inr (8, [.ref s1, .ref s2, .ref s3, .ref s4, .ref s5, .ref s6, .int ds, va_rf sp, va_rf bt])), (s1, .inl (cO, 4, .inr (.inr (.inr (.inr f))))), (t0, .inr (5, [.ref d0, .int w, .int h]))] sz) [(h0, .inr (8, [.ref s1, .ref s2, .ref s3, .ref s4, .ref s5, .ref s6, .int ds, va_rf sp, va_rf bt])), (s1, .inl (cO, 4, .inr (.inr (.inr (.inr f))))), (t0, .inr (5, [.ref d0, .int w, .int h]))] [(cO, .object "DotBench$Sheet")] t) (va_A [(h0, .inr (8, [.ref s1, .ref s2, .ref s3, .ref s4, .ref s5, .ref s6, .int ds, va_rf sp, va_rf bt])), (s1, .inl (cO, 4, .inr (.inr (.inr (.inr f))))), (t0, .inr (5, [.ref d0, .int w, .int h]))] sz)) 0 0 (va_A [(h0, .inr (8, [.ref s1, .ref s2, .ref s3, .ref s4, .ref s5, .ref s6, .int ds, va_rf sp, va_rf bt])), (s1, .inl (cO, 4, .inr (.inr (.inr (.inr f))))), (t0, .inr (5, [.ref d0, .int w, .int h]))] sz) := by
  refine Met.ofW (cc := cX8_region) (maxL := 6) (ret := (some .int)) (by decide) rfl ?_
  intro p e s m args below meth c s₁ B hml hv
  obtain ⟨rfl, hsz, hP, hK, hD0, hN⟩ := hv
  have hx := B.exec
  have hb := B.bytes
  have hr := B.returns
  have hts0 := atoms_spec (ws := (wB yX8_region cX8_region 6 (some .int))) B.pre
  have hts : ∀ w ∈ bigW, w.before _ s = true := fun w h => hts0 w (List.mem_cons_of_mem _ h)
  have hown : s.vm.findClass RX8 = some m.cls := findClass_of_methodNamed B.named
  have hlocks := B.notSynchronized
  subst hsz
  have hD := hD0.self (sz := s.heap.size)
  generalize hAe : va_A [(h0, .inr (8, [.ref s1, .ref s2, .ref s3, .ref s4, .ref s5, .ref s6, .int ds, va_rf sp, va_rf bt])), (s1, .inl (cO, 4, .inr (.inr (.inr (.inr f))))), (t0, .inr (5, [.ref d0, .int w, .int h]))] s.heap.size = A at hD ⊢
  have hA : ∀ q : Nat, s.heap.size ≤ q → A q := fun q h => by rw [← hAe]; exact Or.inr h
  have hS : va_S A s.heap s.heap [] := va_S.rf
  have hP : va_P D vwCl [(h0, .inr (8, [.ref s1, .ref s2, .ref s3, .ref s4, .ref s5, .ref s6, .int ds, va_rf sp, va_rf bt])), (s1, .inl (cO, 4, .inr (.inr (.inr (.inr f))))), (t0, .inr (5, [.ref d0, .int w, .int h]))] s.heap := hP
  have hl := lv_entry ([.ref h0, .int k, .int x, .int y, .int co]) (n := 6) (Nat.le_of_ble_eq_true rfl)
  rw [lg_entry_eq]
  generalize (lg_sl ([.ref h0, .int k, .int x, .int y, .int co]) ++ List.replicate (6 - (lg_sl ([.ref h0, .int k, .int x, .int y, .int co])).length) Slot.unset).toArray = ls at hl ⊢
  have hl : lv_has ls 6 [(0, .ref h0), (1, .int k), (2, .int x), (3, .int y), (4, .int co)] := hl
  clear hts0 hD0 hAe
  refine my_abs (fun R Q hR hQ => ?_)
  refine lv_aload_n hx hb dX8_region_0 rfl (lv_at hl 0 rfl) ?_
  refine lv_iload_n hx hb dX8_region_1 rfl (lv_at hl 1 rfl) ?_
  have hPc := hP.sub (ws' := [(h0, .inr (8, [.ref s1, .ref s2, .ref s3, .ref s4, .ref s5, .ref s6, .int ds, va_rf sp, va_rf bt])), (s1, .inl (cO, 4, .inr (.inr (.inr (.inr f)))))]) [0, 1] rfl
  have hDc := hD.sub (ws' := [(h0, .inr (8, [.ref s1, .ref s2, .ref s3, .ref s4, .ref s5, .ref s6, .int ds, va_rf sp, va_rf bt])), (s1, .inl (cO, 4, .inr (.inr (.inr (.inr f)))))]) [0, 1] (by decide) rfl
  have hKc := hK.sub (tys' := [(cO, .object "DotBench$Sheet")]) [0] rfl
  have hFc := va_free (wc := [(h0, .inr (8, [.ref s1, .ref s2, .ref s3, .ref s4, .ref s5, .ref s6, .int ds, va_rf sp, va_rf bt])), (s1, .inl (cO, 4, .inr (.inr (.inr (.inr f)))))]) hD hS hA [0, 1] rfl
  refine va_callq (va_runV (As := [.int k]) (rest := []) ⟨hx, hb, hml, hown, hts⟩ (k_X8_sheetAt_y l D s.heap.size h0 s1 s2 s3 s4 s5 s6 ds sp bt f k t0 cO (by first | assumption | omega | decide) (by first | assumption | omega | decide)) (cwV 1 hts (gV bw_267 bw_346 bw_347 bw_223 bw_345) rfl rfl rfl (by decide +kernel) ⟨(by rw [hR]; exact Nat.le_of_ble_eq_true rfl), (by rw [hR]; exact Nat.le_of_ble_eq_true rfl)⟩) ⟨cP_blind, va_recv hKc hPc (ci := 8) (q0 := 0) rfl rfl, cP_at hPc hKc hDc hN⟩ rfl rfl hl.1 rfl (lv_room (Nat.le_of_ble_eq_true rfl)) dX8_region_2 ⟨(by rw [hR]; exact Nat.le_of_ble_eq_true rfl), (by rw [hR]; exact Nat.le_of_ble_eq_true rfl)⟩) hS (fun q _ h => hFc q h) hFc (fun r_1 u9 t9 H1 locs ht hvm hr_1 hB hz1 hk1 hS => ?_)
  try dsimp only at hr_1
  obtain ⟨hP1, hK1, hD1⟩ := hB
  rw [ht] at hP1
  obtain ⟨hP, hD⟩ := va_join (wr := [(t0, .inr (5, [.ref d0, .int w, .int h]))]) (w1 := [(h0, .inr (8, [.ref s1, .ref s2, .ref s3, .ref s4, .ref s5, .ref s6, .int ds, va_rf sp, va_rf bt])), (s1, .inl (cO, 4, .inr (.inr (.inr (.inr f)))))]) hP hD [0, 1] [2] rfl rfl (by decide) (by decide) hk1 hFc hP1 hD1
  clear hz1 hk1 hFc hKc hDc hPc
  generalize H1 = H at hP hS ⊢
  have hP : va_P D vwCl [(t0, .inr (5, [.ref d0, .int w, .int h])), (h0, .inr (8, [.ref s1, .ref s2, .ref s3, .ref s4, .ref s5, .ref s6, .int ds, va_rf sp, va_rf bt])), (s1, .inl (cO, 4, .inr (.inr (.inr (.inr f)))))] H := hP
  have hD : va_D A [(t0, .inr (5, [.ref d0, .int w, .int h])), (h0, .inr (8, [.ref s1, .ref s2, .ref s3, .ref s4, .ref s5, .ref s6, .int ds, va_rf sp, va_rf bt])), (s1, .inl (cO, 4, .inr (.inr (.inr (.inr f)))))] := hD
  subst hr_1
  refine my_topv (v := .ref t0) rfl ?_
  refine lv_astore (lv' := [(5, .ref t0), (0, .ref h0), (1, .int k), (2, .int x), (3, .int y), (4, .int co)]) hx hb dX8_region_5 hl (by decide) rfl (fun ls hl => ?_)
  refine lv_aload hx hb dX8_region_7 (lv_at hl 0 rfl) ?_
  refine lv_ifnull hx hb dX8_region_9 ?_
  refine lv_aload hx hb dX8_region_12 (lv_at hl 0 rfl) ?_
  refine lv_iload_n hx hb dX8_region_14 rfl (lv_at hl 3 rfl) ?_
  refine lv_iload_n hx hb dX8_region_15 rfl (lv_at hl 4 rfl) ?_
  have hPc := hP.sub (ws' := [(t0, .inr (5, [.ref d0, .int w, .int h]))]) [0] rfl
  have hDc := hD.sub (ws' := [(t0, .inr (5, [.ref d0, .int w, .int h]))]) [0] (by decide) rfl
  have hKc := hK.sub (tys' := []) [] rfl
  have hFc := va_free (wc := [(t0, .inr (5, [.ref d0, .int w, .int h]))]) hD hS hA [0] rfl
  refine va_calli (va_runV (As := [.int x, .int y]) (rest := []) ⟨hx, hb, hml, hown, hts⟩ (k_X5_has l D H.size t0 d0 w h x y) (cwV 2 hts (gV bw_309 bw_150 bw_151 bw_130 bw_149) rfl rfl rfl (by decide +kernel) ⟨(by rw [hR]; exact Nat.le_of_ble_eq_true rfl), (by rw [hR]; exact Nat.le_of_ble_eq_true rfl)⟩) ⟨cP_blind, va_recv hKc hPc (ci := 5) (q0 := 0) rfl rfl, cP_at hPc hKc hDc hN⟩ rfl rfl hl.1 rfl (lv_room (Nat.le_of_ble_eq_true rfl)) dX8_region_16 ⟨(by rw [hR]; exact Nat.le_of_ble_eq_true rfl), (by rw [hR]; exact Nat.le_of_ble_eq_true rfl)⟩) hS (fun q _ h => hFc q h) hFc (fun r_2 u9 t9 H1 locs ht hvm hr_2 hB hz1 hk1 hS => ?_)
  try dsimp only at hr_2
  obtain ⟨hP1, hK1, hD1⟩ := hB
  rw [ht] at hP1
  obtain ⟨hP, hD⟩ := va_join (wr := [(h0, .inr (8, [.ref s1, .ref s2, .ref s3, .ref s4, .ref s5, .ref s6, .int ds, va_rf sp, va_rf bt])), (s1, .inl (cO, 4, .inr (.inr (.inr (.inr f)))))]) (w1 := [(t0, .inr (5, [.ref d0, .int w, .int h]))]) hP hD [0] [1, 2] rfl rfl (by decide) (by decide) hk1 hFc hP1 hD1
  clear hz1 hk1 hFc hKc hDc hPc
  generalize H1 = H at hP hS ⊢
  have hP : va_P D vwCl [(h0, .inr (8, [.ref s1, .ref s2, .ref s3, .ref s4, .ref s5, .ref s6, .int ds, va_rf sp, va_rf bt])), (s1, .inl (cO, 4, .inr (.inr (.inr (.inr f))))), (t0, .inr (5, [.ref d0, .int w, .int h]))] H := hP
  have hD : va_D A [(h0, .inr (8, [.ref s1, .ref s2, .ref s3, .ref s4, .ref s5, .ref s6, .int ds, va_rf sp, va_rf bt])), (s1, .inl (cO, 4, .inr (.inr (.inr (.inr f))))), (t0, .inr (5, [.ref d0, .int w, .int h]))] := hD
  refine lv_if_ne (tgt := 24) hx hb dX8_region_19 (by decide) (fun c_3 => ?_) (fun c_3 => ?_)
  · skip
    have f_4 := bz1 hr_2 c_3
    exact False.elim (by omega)
  · skip
    have f_4 := bz0 hr_2 c_3
    refine lv_iconst (v := (-1)) hx hb dX8_region_22 (by decide) ?_
    have hP9 := hP.sub (ws' := [(h0, .inr (8, [.ref s1, .ref s2, .ref s3, .ref s4, .ref s5, .ref s6, .int ds, va_rf sp, va_rf bt])), (s1, .inl (cO, 4, .inr (.inr (.inr (.inr f))))), (t0, .inr (5, [.ref d0, .int w, .int h]))]) [0, 1, 2] rfl
    have hD9 := hD.sub (ws' := [(h0, .inr (8, [.ref s1, .ref s2, .ref s3, .ref s4, .ref s5, .ref s6, .int ds, va_rf sp, va_rf bt])), (s1, .inl (cO, 4, .inr (.inr (.inr (.inr f))))), (t0, .inr (5, [.ref d0, .int w, .int h]))]) [0, 1, 2] (by decide) rfl
    have hK9 := hK.sub (tys' := [(cO, .object "DotBench$Sheet")]) [0] rfl
    refine hQ _ _ _ _ _ ?_
    exact W.iret (v := (-1)) hx hb hr (fun t ht hW => ⟨⟨(-1), (), rfl, rfl, ⟨by rw [ht]; exact hP9, va_K.moved hW.alike hK9, hD9⟩⟩, hS.F ht⟩) hS.2.2 dX8_region_23
