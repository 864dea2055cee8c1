set_option maxHeartbeats 4000000 in
set_option maxRecDepth 100000 in
/-- the loop of Arrays.fill, over 4096 places -/
theorem lp_fill {p : Program} {l : Launch} {e : Env} {R : Room} {s : State} {m : MethodId} {args : Array Value} {below : List Frame} {meth : Method} {c : Code} {cells slots : Nat} {Q : State → Prop} {D : va_G} {A : Nat → Prop} {H0 : Heap} {h0 : Nat} {d0 : ClassId} {v : Int32} (hx : p.tables.exec = Jvm.exec) (hb : c.code = cJ7_fill_53178) (hts : ∀ w ∈ bigW, w.before args s = true) (hown : s.vm.findClass RJ7 = some m.cls) (hK : va_K D vwCl [(d0, .int)] s) (hA : ∀ q, H0.size ≤ q → A q) 
    (kend : ∀ (H : Heap) (locs : List Loc) (ls : Array Slot), va_S A H0 H locs → W p l e R s m args below meth c H locs cells slots Q (F0 m 20 ls [])) :
    ∀ (n i : Nat) (g : Nat → Int32) (H : Heap) (locs : List Loc) (ls : Array Slot) (x2 : Int32), i ≤ 4096 → 4096 + 1 ≤ i + n → x2 = nI i → va_P D vwCl [(h0, .inl (d0, 4096, .inl g))] H → va_D A [(h0, .inl (d0, 4096, .inl g))] → va_S A H0 H locs → lv_has ls 4 [(3, .int 4096), (2, .int x2), (0, .ref h0), (1, .int v)] → W p l e R s m args below meth c H locs cells slots Q (F0 m 5 ls []) := by
  intro n
  induction n with
  | zero =>
    intro i g H locs ls x2 h1 h2
    exact absurd h2 (by omega)
  | succ n ih =>
    intro i g H locs ls x2 hi hin ex hP hD hS hl
    have hxi : x2.toInt = (i : Int) := by rw [ex]; exact nI_toInt (by omega)
    refine lv_iload_n hx hb dJ7_fill_53178_5 rfl (lv_at hl 1 rfl) ?_
    refine lv_iload_n hx hb dJ7_fill_53178_6 rfl (lv_at hl 0 rfl) ?_
    refine lv_icmp_ge (tgt := 20) hx hb dJ7_fill_53178_7 (by decide) (fun c_1 => ?_) (fun c_1 => ?_)
    · skip
      have f_2 : 4096 ≤ (i : Int) := f_le (by decide) hxi c_1
      exact kend _ _ _ hS
    · skip
      have f_2 : ¬ (4096 ≤ (i : Int)) := fn_le (by decide) hxi c_1
      refine lv_aload_n hx hb dJ7_fill_53178_10 rfl (lv_at hl 2 rfl) ?_
      refine lv_iload_n hx hb dJ7_fill_53178_11 rfl (lv_at hl 1 rfl) ?_
      refine lv_iload_n hx hb dJ7_fill_53178_12 rfl (lv_at hl 3 rfl) ?_
      refine va_iast hx hb hK hP hD hS 0 0 rfl rfl (vp_in_iff.mpr ⟨by omega, by omega⟩) dJ7_fill_53178_13 (fun H locs hP hD hS => ?_)
      have hP : va_P D vwCl [(h0, .inl (d0, 4096, .inl (upd (g) x2.toNatClampNeg v)))] H := hP
      have hD : va_D A [(h0, .inl (d0, 4096, .inl (upd (g) x2.toNatClampNeg v)))] := hD
      generalize upd (g) x2.toNatClampNeg v = g_3 at hP hD
      have hP : va_P D vwCl [(h0, .inl (d0, 4096, .inl g_3))] H := hP
      have hD : va_D A [(h0, .inl (d0, 4096, .inl g_3))] := hD
      obtain ⟨y_4, ey_4⟩ : ∃ y : Int32, y = x2 + 1 := ⟨_, rfl⟩
      refine lv_iinc (v := y_4) (lv' := [(2, .int y_4), (3, .int 4096), (0, .ref h0), (1, .int v)]) hx hb dJ7_fill_53178_14 hl (k := 1) rfl (by rw [ey_4]; rfl) (by decide) rfl (fun ls hl => ?_)
      refine lv_goto (tgt := 5) hx hb dJ7_fill_53178_17 (by decide) ?_
      exact ih (i + 1) _ _ _ _ y_4 (by omega) (by omega) (by rw [ey_4, ex]; exact nI_1 i) hP hD hS (lv_sub hl [1, 0, 2, 3] rfl)

set_option maxHeartbeats 4000000 in
set_option maxRecDepth 100000 in
theorem k_J7_fill_53178 (l : Launch) (D : va_G) (sz : Nat) (h0 : Nat) (d0 : ClassId) (g : Nat → Int32) (v : Int32) : Met l yJ7_fill_53178 (wB yJ7_fill_53178 cJ7_fill_53178 4 none) ({ frames := 0, cells := 0, slots := 0, locals := 0 }) (cP D [(h0, .inl (d0, 4096, .inl g))] [(d0, .int)] sz [.ref h0, .int v]) (va_Qv (fun (_ : Unit) => True) (fun (_ : Unit) (_ : State) => True) (va_A [(h0, .inl (d0, 4096, .inl g))] sz)) 0 0 (va_A [(h0, .inl (d0, 4096, .inl g))] sz) := by
  refine Met.ofW (cc := cJ7_fill_53178) (maxL := 4) (ret := none) (by decide) rfl ?_
  intro p e s m args below meth c s₁ B hml hv
  obtain ⟨rfl, hsz, hP, hK, hD0, hN⟩ := hv
  have hx := B.exec
  have hb := B.bytes
  have hr := B.returns
  have hts0 := atoms_spec (ws := (wB yJ7_fill_53178 cJ7_fill_53178 4 none)) B.pre
  have hts : ∀ w ∈ bigW, w.before _ s = true := fun w h => hts0 w (List.mem_cons_of_mem _ h)
  have hown : s.vm.findClass RJ7 = some m.cls := findClass_of_methodNamed B.named
  have hlocks := B.notSynchronized
  subst hsz
  have hD := hD0.self (sz := s.heap.size)
  generalize hAe : va_A [(h0, .inl (d0, 4096, .inl g))] s.heap.size = A at hD ⊢
  have hA : ∀ q : Nat, s.heap.size ≤ q → A q := fun q h => by rw [← hAe]; exact Or.inr h
  have hS : va_S A s.heap s.heap [] := va_S.rf
  have hP : va_P D vwCl [(h0, .inl (d0, 4096, .inl g))] s.heap := hP
  have hl := lv_entry ([.ref h0, .int v]) (n := 4) (Nat.le_of_ble_eq_true rfl)
  rw [lg_entry_eq]
  generalize (lg_sl ([.ref h0, .int v]) ++ List.replicate (4 - (lg_sl ([.ref h0, .int v])).length) Slot.unset).toArray = ls at hl ⊢
  have hl : lv_has ls 4 [(0, .ref h0), (1, .int v)] := hl
  refine lv_iconst (v := 0) hx hb dJ7_fill_53178_0 (by decide) ?_
  refine lv_istore_n (lv' := [(2, .int 0), (0, .ref h0), (1, .int v)]) hx hb dJ7_fill_53178_1 rfl hl (by decide) rfl (fun ls hl => ?_)
  refine lv_aload_n hx hb dJ7_fill_53178_2 rfl (lv_at hl 1 rfl) ?_
  refine va_alen (v := 4096) hx hb hK hP 0 0 rfl rfl rfl dJ7_fill_53178_3 ?_
  refine lv_istore_n (lv' := [(3, .int 4096), (2, .int 0), (0, .ref h0), (1, .int v)]) hx hb dJ7_fill_53178_4 rfl hl (by decide) rfl (fun ls hl => ?_)
  refine lp_fill hx hb hts hown hK hA (fun H locs ls hS => ?_) 4097 0 _ _ _ _ 0 (by omega) (by omega) nI_0.symm hP hD hS (lv_sub hl [0, 1, 2, 3] rfl)
  exact W.vret hx hb hr (fun t ht hW => ⟨⟨(), rfl, trivial, trivial⟩, hS.F ht⟩) hS.2.2 dJ7_fill_53178_20

theorem lp_ix {kk i : Nat} (h : kk < 4) (h2 : i < 4096) : vp_in ((4096 : Int32) * nI kk + nI i) 16384 := by
  rw [show (4096 : Int32) = nI 4096 from rfl, pk_mul, nI_add]
  exact vp_in_nI (by omega) (by omega)

set_option maxHeartbeats 4000000 in
set_option maxRecDepth 100000 in
/-- the loop of the reference in sheet -/
theorem lp_X9_sheet {p : Program} {l : Launch} {e : Env} {R : Room} {s : State} {m : MethodId} {args : Array Value} {below : List Frame} {meth : Method} {c : Code} {cells slots : Nat} {Q : State → Prop} {D : va_G} {A : Nat → Prop} {H0 : Heap} {h0 m1 m2 m3 m4 m5 m6 m7 m8 m9 m10 m11 m12 m13 : Nat} {c3 : ClassId} {k w h : Int32} {kk : Nat} (hx : p.tables.exec = Jvm.exec) (hb : c.code = cX9_sheet) (hts : ∀ w ∈ bigW, w.before args s = true) (hown : s.vm.findClass RX9 = some m.cls) (hK : va_K D vwCl [(c3, .int)] s) (hA : ∀ q, H0.size ≤ q → A q) (hkk : kk < 4) (ek : k = nI kk)
    (kend : ∀ (H : Heap) (locs : List Loc) (ls : Array Slot), va_S A H0 H locs → W p l e R s m args below meth c H locs cells slots Q (F0 m 78 ls [])) :
    ∀ (n i : Nat) (g : Nat → Int32) (H : Heap) (locs : List Loc) (ls : Array Slot) (x4 : Int32), i ≤ 4096 → 4096 + 1 ≤ i + n → x4 = nI i → va_P D vwCl [(h0, .inr (9, [.ref m1, .ref m2, .ref m3, .int (-1), .int 3, .int 255, .int 0, .int 0, .int 0, .int 0, .int 0, .int 65535, .ref m4, .ref m5, .ref m6, .ref m7, .ref m8, .ref m9, .int 0, .ref m10, .ref m11, .ref m12, .ref m13])), (m3, .inl (c3, 16384, .inl g))] H → va_D A [(h0, .inr (9, [.ref m1, .ref m2, .ref m3, .int (-1), .int 3, .int 255, .int 0, .int 0, .int 0, .int 0, .int 0, .int 65535, .ref m4, .ref m5, .ref m6, .ref m7, .ref m8, .ref m9, .int 0, .ref m10, .ref m11, .ref m12, .ref m13])), (m3, .inl (c3, 16384, .inl g))] → va_S A H0 H locs → lv_has ls 5 [(4, .int x4), (0, .ref h0), (1, .int k), (2, .int w), (3, .int h)] → W p l e R s m args below meth c H locs cells slots Q (F0 m 50 ls []) := by
  intro n
  induction n with
  | zero =>
    intro i g H locs ls x4 h1 h2
    exact absurd h2 (by omega)
  | succ n ih =>
    intro i g H locs ls x4 hi hin ex hP hD hS hl
    have hxi : x4.toInt = (i : Int) := by rw [ex]; exact nI_toInt (by omega)
    refine lv_iload hx hb dX9_sheet_50 (lv_at hl 0 rfl) ?_
    refine lv_sipush (v := 4096) hx hb dX9_sheet_52 (by decide) ?_
    refine lv_icmp_ge (tgt := 78) hx hb dX9_sheet_55 (by decide) (fun c_1 => ?_) (fun c_1 => ?_)
    · skip
      have f_2 : 4096 ≤ (i : Int) := f_le (by decide) hxi c_1
      exact kend _ _ _ hS
    · skip
      have f_2 : ¬ (4096 ≤ (i : Int)) := fn_le (by decide) hxi c_1
      refine lv_aload_n hx hb dX9_sheet_58 rfl (lv_at hl 1 rfl) ?_
      refine va_get (D := D) (ci := 9) (v := .ref m3) (C := RX9) (T := TX9) (N := 23) hx hb hts hi_X9 hown hK hP 0 rfl rfl 2 (by decide) (hts _ bw_97) (fun _ h9 => h9) rfl dX9_sheet_59 ?_
      refine lv_sipush (v := 4096) hx hb dX9_sheet_62 (by decide) ?_
      refine lv_iload_n hx hb dX9_sheet_65 rfl (lv_at hl 2 rfl) ?_
      refine lv_imul hx hb dX9_sheet_66 ?_
      refine lv_topi (fun y_3 ey_3 => ?_)
      refine lv_iload hx hb dX9_sheet_67 (lv_at hl 0 rfl) ?_
      refine lv_iadd hx hb dX9_sheet_69 ?_
      refine lv_topi (fun y_4 ey_4 => ?_)
      refine lv_iconst (v := 0) hx hb dX9_sheet_70 (by decide) ?_
      refine va_iast hx hb hK hP hD hS 1 0 rfl rfl (by rw [ey_4, ey_3, ek, ex]; exact lp_ix hkk (by omega)) dX9_sheet_71 (fun H locs hP hD hS => ?_)
      have hP : va_P D vwCl [(h0, .inr (9, [.ref m1, .ref m2, .ref m3, .int (-1), .int 3, .int 255, .int 0, .int 0, .int 0, .int 0, .int 0, .int 65535, .ref m4, .ref m5, .ref m6, .ref m7, .ref m8, .ref m9, .int 0, .ref m10, .ref m11, .ref m12, .ref m13])), (m3, .inl (c3, 16384, .inl (upd (g) y_4.toNatClampNeg 0)))] H := hP
      have hD : va_D A [(h0, .inr (9, [.ref m1, .ref m2, .ref m3, .int (-1), .int 3, .int 255, .int 0, .int 0, .int 0, .int 0, .int 0, .int 65535, .ref m4, .ref m5, .ref m6, .ref m7, .ref m8, .ref m9, .int 0, .ref m10, .ref m11, .ref m12, .ref m13])), (m3, .inl (c3, 16384, .inl (upd (g) y_4.toNatClampNeg 0)))] := hD
      generalize upd (g) y_4.toNatClampNeg 0 = g_5 at hP hD
      have hP : va_P D vwCl [(h0, .inr (9, [.ref m1, .ref m2, .ref m3, .int (-1), .int 3, .int 255, .int 0, .int 0, .int 0, .int 0, .int 0, .int 65535, .ref m4, .ref m5, .ref m6, .ref m7, .ref m8, .ref m9, .int 0, .ref m10, .ref m11, .ref m12, .ref m13])), (m3, .inl (c3, 16384, .inl g_5))] H := hP
      have hD : va_D A [(h0, .inr (9, [.ref m1, .ref m2, .ref m3, .int (-1), .int 3, .int 255, .int 0, .int 0, .int 0, .int 0, .int 0, .int 65535, .ref m4, .ref m5, .ref m6, .ref m7, .ref m8, .ref m9, .int 0, .ref m10, .ref m11, .ref m12, .ref m13])), (m3, .inl (c3, 16384, .inl g_5))] := hD
      obtain ⟨y_6, ey_6⟩ : ∃ y : Int32, y = x4 + 1 := ⟨_, rfl⟩
      refine lv_iinc (v := y_6) (lv' := [(4, .int y_6), (0, .ref h0), (1, .int k), (2, .int w), (3, .int h)]) hx hb dX9_sheet_72 hl (k := 0) rfl (by rw [ey_6]; rfl) (by decide) rfl (fun ls hl => ?_)
      refine lv_goto (tgt := 50) hx hb dX9_sheet_75 (by decide) ?_
      exact ih (i + 1) _ _ _ _ y_6 (by omega) (by omega) (by rw [ey_6, ex]; exact nI_1 i) hP hD hS (lv_sub hl [0, 1, 2, 3, 4] rfl)

set_option maxHeartbeats 4000000 in
set_option maxRecDepth 100000 in
theorem k_X9_sheet (l : Launch) (D : va_G) (sz : Nat) (h0 m1 m2 m3 m4 m5 m6 m7 m8 m9 m10 m11 m12 m13 : Nat) (c1 c2 c3 : ClassId) (k w h : Int32) : Met l yX9_sheet (wB yX9_sheet cX9_sheet 5 (some .boolean)) ({ frames := 0, cells := 0, slots := 0, locals := 0 }) (cP D [(h0, .inr (9, [.ref m1, .ref m2, .ref m3, .int (-1), .int 3, .int 255, .int 0, .int 0, .int 0, .int 0, .int 0, .int 65535, .ref m4, .ref m5, .ref m6, .ref m7, .ref m8, .ref m9, .int 0, .ref m10, .ref m11, .ref m12, .ref m13])), (m1, .inl (c1, 4, .inl (fun _ => 0))), (m2, .inl (c2, 4, .inl (fun _ => 0))), (m3, .inl (c3, 16384, .inl (fun _ => 0)))] [(c1, .int), (c2, .int), (c3, .int)] sz [.ref h0, .int k, .int w, .int h]) (va_Qi (fun (r : Int32) (_ : Unit) => r = if 0 ≤ k.toInt ∧ k.toInt ≤ 3 ∧ 1 ≤ w.toInt ∧ w.toInt ≤ 64 ∧ 1 ≤ h.toInt ∧ h.toInt ≤ 64 then 1 else 0) (fun (_ : Unit) (_ : State) => True) (va_A [(h0, .inr (9, [.ref m1, .ref m2, .ref m3, .int (-1), .int 3, .int 255, .int 0, .int 0, .int 0, .int 0, .int 0, .int 65535, .ref m4, .ref m5, .ref m6, .ref m7, .ref m8, .ref m9, .int 0, .ref m10, .ref m11, .ref m12, .ref m13])), (m1, .inl (c1, 4, .inl (fun _ => 0))), (m2, .inl (c2, 4, .inl (fun _ => 0))), (m3, .inl (c3, 16384, .inl (fun _ => 0)))] sz)) 0 0 (va_A [(h0, .inr (9, [.ref m1, .ref m2, .ref m3, .int (-1), .int 3, .int 255, .int 0, .int 0, .int 0, .int 0, .int 0, .int 65535, .ref m4, .ref m5, .ref m6, .ref m7, .ref m8, .ref m9, .int 0, .ref m10, .ref m11, .ref m12, .ref m13])), (m1, .inl (c1, 4, .inl (fun _ => 0))), (m2, .inl (c2, 4, .inl (fun _ => 0))), (m3, .inl (c3, 16384, .inl (fun _ => 0)))] sz) := by
  refine Met.ofW (cc := cX9_sheet) (maxL := 5) (ret := (some .boolean)) (by decide) rfl ?_
  intro p e s m args below meth c s₁ B hml hv
  obtain ⟨rfl, hsz, hP, hK, hD0, hN⟩ := hv
  have hx := B.exec
  have hb := B.bytes
  have hr := B.returns
  have hts0 := atoms_spec (ws := (wB yX9_sheet cX9_sheet 5 (some .boolean))) B.pre
  have hts : ∀ w ∈ bigW, w.before _ s = true := fun w h => hts0 w (List.mem_cons_of_mem _ h)
  have hown : s.vm.findClass RX9 = some m.cls := findClass_of_methodNamed B.named
  have hlocks := B.notSynchronized
  subst hsz
  have hD := hD0.self (sz := s.heap.size)
  generalize hAe : va_A [(h0, .inr (9, [.ref m1, .ref m2, .ref m3, .int (-1), .int 3, .int 255, .int 0, .int 0, .int 0, .int 0, .int 0, .int 65535, .ref m4, .ref m5, .ref m6, .ref m7, .ref m8, .ref m9, .int 0, .ref m10, .ref m11, .ref m12, .ref m13])), (m1, .inl (c1, 4, .inl (fun _ => 0))), (m2, .inl (c2, 4, .inl (fun _ => 0))), (m3, .inl (c3, 16384, .inl (fun _ => 0)))] s.heap.size = A at hD ⊢
  have hA : ∀ q : Nat, s.heap.size ≤ q → A q := fun q h => by rw [← hAe]; exact Or.inr h
  have hS : va_S A s.heap s.heap [] := va_S.rf
  have hP : va_P D vwCl [(h0, .inr (9, [.ref m1, .ref m2, .ref m3, .int (-1), .int 3, .int 255, .int 0, .int 0, .int 0, .int 0, .int 0, .int 65535, .ref m4, .ref m5, .ref m6, .ref m7, .ref m8, .ref m9, .int 0, .ref m10, .ref m11, .ref m12, .ref m13])), (m1, .inl (c1, 4, .inl (fun _ => 0))), (m2, .inl (c2, 4, .inl (fun _ => 0))), (m3, .inl (c3, 16384, .inl (fun _ => 0)))] s.heap := hP
  have hl := lv_entry ([.ref h0, .int k, .int w, .int h]) (n := 5) (Nat.le_of_ble_eq_true rfl)
  rw [lg_entry_eq]
  generalize (lg_sl ([.ref h0, .int k, .int w, .int h]) ++ List.replicate (5 - (lg_sl ([.ref h0, .int k, .int w, .int h])).length) Slot.unset).toArray = ls at hl ⊢
  have hl : lv_has ls 5 [(0, .ref h0), (1, .int k), (2, .int w), (3, .int h)] := hl
  refine lv_iload_n hx hb dX9_sheet_0 rfl (lv_at hl 1 rfl) ?_
  refine lv_if_lt (tgt := 31) hx hb dX9_sheet_1 (by decide) (fun c_1 => ?_) (fun c_1 => ?_)
  · skip
    have f_2 : k.toInt < 0 := f_lt rfl (by decide) c_1
    refine lv_iconst (v := 0) hx hb dX9_sheet_31 (by decide) ?_
    exact W.zret (v := 0) hx hb hr rfl (fun t ht hW => ⟨⟨0, (), rfl, (if_neg (by omega)).symm, trivial⟩, hS.F ht⟩) hS.2.2 dX9_sheet_32
  · skip
    have f_2 : ¬ (k.toInt < 0) := fn_lt rfl (by decide) c_1
    refine lv_iload_n hx hb dX9_sheet_4 rfl (lv_at hl 1 rfl) ?_
    refine lv_iconst (v := 3) hx hb dX9_sheet_5 (by decide) ?_
    refine lv_icmp_gt (tgt := 31) hx hb dX9_sheet_6 (by decide) (fun c_3 => ?_) (fun c_3 => ?_)
    · skip
      have f_4 : 3 < k.toInt := f_lt (by decide) rfl c_3
      refine lv_iconst (v := 0) hx hb dX9_sheet_31 (by decide) ?_
      exact W.zret (v := 0) hx hb hr rfl (fun t ht hW => ⟨⟨0, (), rfl, (if_neg (by omega)).symm, trivial⟩, hS.F ht⟩) hS.2.2 dX9_sheet_32
    · skip
      have f_4 : ¬ (3 < k.toInt) := fn_lt (by decide) rfl c_3
      refine lv_iload_n hx hb dX9_sheet_9 rfl (lv_at hl 2 rfl) ?_
      refine lv_iconst (v := 1) hx hb dX9_sheet_10 (by decide) ?_
      refine lv_icmp_lt (tgt := 31) hx hb dX9_sheet_11 (by decide) (fun c_5 => ?_) (fun c_5 => ?_)
      · skip
        have f_6 : w.toInt < 1 := f_lt rfl (by decide) c_5
        refine lv_iconst (v := 0) hx hb dX9_sheet_31 (by decide) ?_
        exact W.zret (v := 0) hx hb hr rfl (fun t ht hW => ⟨⟨0, (), rfl, (if_neg (by omega)).symm, trivial⟩, hS.F ht⟩) hS.2.2 dX9_sheet_32
      · skip
        have f_6 : ¬ (w.toInt < 1) := fn_lt rfl (by decide) c_5
        refine lv_iload_n hx hb dX9_sheet_14 rfl (lv_at hl 2 rfl) ?_
        refine lv_bipush (v := 64) hx hb dX9_sheet_15 (by decide) ?_
        refine lv_icmp_gt (tgt := 31) hx hb dX9_sheet_17 (by decide) (fun c_7 => ?_) (fun c_7 => ?_)
        · skip
          have f_8 : 64 < w.toInt := f_lt (by decide) rfl c_7
          refine lv_iconst (v := 0) hx hb dX9_sheet_31 (by decide) ?_
          exact W.zret (v := 0) hx hb hr rfl (fun t ht hW => ⟨⟨0, (), rfl, (if_neg (by omega)).symm, trivial⟩, hS.F ht⟩) hS.2.2 dX9_sheet_32
        · skip
          have f_8 : ¬ (64 < w.toInt) := fn_lt (by decide) rfl c_7
          refine lv_iload_n hx hb dX9_sheet_20 rfl (lv_at hl 3 rfl) ?_
          refine lv_iconst (v := 1) hx hb dX9_sheet_21 (by decide) ?_
          refine lv_icmp_lt (tgt := 31) hx hb dX9_sheet_22 (by decide) (fun c_9 => ?_) (fun c_9 => ?_)
          · skip
            have f_10 : h.toInt < 1 := f_lt rfl (by decide) c_9
            refine lv_iconst (v := 0) hx hb dX9_sheet_31 (by decide) ?_
            exact W.zret (v := 0) hx hb hr rfl (fun t ht hW => ⟨⟨0, (), rfl, (if_neg (by omega)).symm, trivial⟩, hS.F ht⟩) hS.2.2 dX9_sheet_32
          · skip
            have f_10 : ¬ (h.toInt < 1) := fn_lt rfl (by decide) c_9
            refine lv_iload_n hx hb dX9_sheet_25 rfl (lv_at hl 3 rfl) ?_
            refine lv_bipush (v := 64) hx hb dX9_sheet_26 (by decide) ?_
            refine lv_icmp_le (tgt := 33) hx hb dX9_sheet_28 (by decide) (fun c_11 => ?_) (fun c_11 => ?_)
            · skip
              have f_12 : h.toInt ≤ 64 := f_le rfl (by decide) c_11
              refine lv_aload_n hx hb dX9_sheet_33 rfl (lv_at hl 0 rfl) ?_
              refine va_get (D := D) (ci := 9) (v := .ref m1) (C := RX9) (T := TX9) (N := 23) hx hb hts hi_X9 hown hK hP 0 rfl rfl 0 (by decide) (hts _ bw_95) (fun _ h9 => h9) rfl dX9_sheet_34 ?_
              refine lv_iload_n hx hb dX9_sheet_37 rfl (lv_at hl 1 rfl) ?_
              refine lv_iload_n hx hb dX9_sheet_38 rfl (lv_at hl 2 rfl) ?_
              refine va_iast hx hb hK hP hD hS 1 0 rfl rfl (vp_in_iff.mpr ⟨by omega, by omega⟩) dX9_sheet_39 (fun H locs hP hD hS => ?_)
              have hP : va_P D vwCl [(h0, .inr (9, [.ref m1, .ref m2, .ref m3, .int (-1), .int 3, .int 255, .int 0, .int 0, .int 0, .int 0, .int 0, .int 65535, .ref m4, .ref m5, .ref m6, .ref m7, .ref m8, .ref m9, .int 0, .ref m10, .ref m11, .ref m12, .ref m13])), (m1, .inl (c1, 4, .inl (upd (fun _ => 0) k.toNatClampNeg w))), (m2, .inl (c2, 4, .inl (fun _ => 0))), (m3, .inl (c3, 16384, .inl (fun _ => 0)))] H := hP
              have hD : va_D A [(h0, .inr (9, [.ref m1, .ref m2, .ref m3, .int (-1), .int 3, .int 255, .int 0, .int 0, .int 0, .int 0, .int 0, .int 65535, .ref m4, .ref m5, .ref m6, .ref m7, .ref m8, .ref m9, .int 0, .ref m10, .ref m11, .ref m12, .ref m13])), (m1, .inl (c1, 4, .inl (upd (fun _ => 0) k.toNatClampNeg w))), (m2, .inl (c2, 4, .inl (fun _ => 0))), (m3, .inl (c3, 16384, .inl (fun _ => 0)))] := hD
              generalize upd (fun _ => 0) k.toNatClampNeg w = g_13 at hP hD
              have hP : va_P D vwCl [(h0, .inr (9, [.ref m1, .ref m2, .ref m3, .int (-1), .int 3, .int 255, .int 0, .int 0, .int 0, .int 0, .int 0, .int 65535, .ref m4, .ref m5, .ref m6, .ref m7, .ref m8, .ref m9, .int 0, .ref m10, .ref m11, .ref m12, .ref m13])), (m1, .inl (c1, 4, .inl g_13)), (m2, .inl (c2, 4, .inl (fun _ => 0))), (m3, .inl (c3, 16384, .inl (fun _ => 0)))] H := hP
              have hD : va_D A [(h0, .inr (9, [.ref m1, .ref m2, .ref m3, .int (-1), .int 3, .int 255, .int 0, .int 0, .int 0, .int 0, .int 0, .int 65535, .ref m4, .ref m5, .ref m6, .ref m7, .ref m8, .ref m9, .int 0, .ref m10, .ref m11, .ref m12, .ref m13])), (m1, .inl (c1, 4, .inl g_13)), (m2, .inl (c2, 4, .inl (fun _ => 0))), (m3, .inl (c3, 16384, .inl (fun _ => 0)))] := hD
              refine lv_aload_n hx hb dX9_sheet_40 rfl (lv_at hl 0 rfl) ?_
              refine va_get (D := D) (ci := 9) (v := .ref m2) (C := RX9) (T := TX9) (N := 23) hx hb hts hi_X9 hown hK hP 0 rfl rfl 1 (by decide) (hts _ bw_96) (fun _ h9 => h9) rfl dX9_sheet_41 ?_
              refine lv_iload_n hx hb dX9_sheet_44 rfl (lv_at hl 1 rfl) ?_
              refine lv_iload_n hx hb dX9_sheet_45 rfl (lv_at hl 3 rfl) ?_
              refine va_iast hx hb hK hP hD hS 2 1 rfl rfl (vp_in_iff.mpr ⟨by omega, by omega⟩) dX9_sheet_46 (fun H locs hP hD hS => ?_)
              have hP : va_P D vwCl [(h0, .inr (9, [.ref m1, .ref m2, .ref m3, .int (-1), .int 3, .int 255, .int 0, .int 0, .int 0, .int 0, .int 0, .int 65535, .ref m4, .ref m5, .ref m6, .ref m7, .ref m8, .ref m9, .int 0, .ref m10, .ref m11, .ref m12, .ref m13])), (m1, .inl (c1, 4, .inl g_13)), (m2, .inl (c2, 4, .inl (upd (fun _ => 0) k.toNatClampNeg h))), (m3, .inl (c3, 16384, .inl (fun _ => 0)))] H := hP
              have hD : va_D A [(h0, .inr (9, [.ref m1, .ref m2, .ref m3, .int (-1), .int 3, .int 255, .int 0, .int 0, .int 0, .int 0, .int 0, .int 65535, .ref m4, .ref m5, .ref m6, .ref m7, .ref m8, .ref m9, .int 0, .ref m10, .ref m11, .ref m12, .ref m13])), (m1, .inl (c1, 4, .inl g_13)), (m2, .inl (c2, 4, .inl (upd (fun _ => 0) k.toNatClampNeg h))), (m3, .inl (c3, 16384, .inl (fun _ => 0)))] := hD
              generalize upd (fun _ => 0) k.toNatClampNeg h = g_14 at hP hD
              have hP : va_P D vwCl [(h0, .inr (9, [.ref m1, .ref m2, .ref m3, .int (-1), .int 3, .int 255, .int 0, .int 0, .int 0, .int 0, .int 0, .int 65535, .ref m4, .ref m5, .ref m6, .ref m7, .ref m8, .ref m9, .int 0, .ref m10, .ref m11, .ref m12, .ref m13])), (m1, .inl (c1, 4, .inl g_13)), (m2, .inl (c2, 4, .inl g_14)), (m3, .inl (c3, 16384, .inl (fun _ => 0)))] H := hP
              have hD : va_D A [(h0, .inr (9, [.ref m1, .ref m2, .ref m3, .int (-1), .int 3, .int 255, .int 0, .int 0, .int 0, .int 0, .int 0, .int 65535, .ref m4, .ref m5, .ref m6, .ref m7, .ref m8, .ref m9, .int 0, .ref m10, .ref m11, .ref m12, .ref m13])), (m1, .inl (c1, 4, .inl g_13)), (m2, .inl (c2, 4, .inl g_14)), (m3, .inl (c3, 16384, .inl (fun _ => 0)))] := hD
              refine lv_iconst (v := 0) hx hb dX9_sheet_47 (by decide) ?_
              refine lv_istore (lv' := [(4, .int 0), (0, .ref h0), (1, .int k), (2, .int w), (3, .int h)]) hx hb dX9_sheet_48 hl (by decide) rfl (fun ls hl => ?_)
              obtain ⟨kk, hkk, ek⟩ := vp_in_of (x := k) (n := 4) (vp_in_iff.mpr ⟨by omega, by omega⟩) (by decide)
              refine lp_X9_sheet hx hb hts hown (hK.sub (tys' := [(c3, .int)]) [2] rfl) hA hkk ek (fun H locs ls hS => ?_) 4097 0 _ _ _ _ 0 (by omega) (by omega) nI_0.symm (hP.sub (ws' := [(h0, .inr (9, [.ref m1, .ref m2, .ref m3, .int (-1), .int 3, .int 255, .int 0, .int 0, .int 0, .int 0, .int 0, .int 65535, .ref m4, .ref m5, .ref m6, .ref m7, .ref m8, .ref m9, .int 0, .ref m10, .ref m11, .ref m12, .ref m13])), (m3, .inl (c3, 16384, .inl (fun _ => 0)))]) [0, 3] rfl) (hD.sub (ws' := [(h0, .inr (9, [.ref m1, .ref m2, .ref m3, .int (-1), .int 3, .int 255, .int 0, .int 0, .int 0, .int 0, .int 0, .int 65535, .ref m4, .ref m5, .ref m6, .ref m7, .ref m8, .ref m9, .int 0, .ref m10, .ref m11, .ref m12, .ref m13])), (m3, .inl (c3, 16384, .inl (fun _ => 0)))]) [0, 3] (by decide) rfl) hS (lv_sub hl [0, 1, 2, 3, 4] rfl)
              refine lv_iconst (v := 1) hx hb dX9_sheet_78 (by decide) ?_
              exact W.zret (v := 1) hx hb hr rfl (fun t ht hW => ⟨⟨1, (), rfl, (if_pos (by omega)).symm, trivial⟩, hS.F ht⟩) hS.2.2 dX9_sheet_79
            · skip
              have f_12 : ¬ (h.toInt ≤ 64) := fn_le rfl (by decide) c_11
              refine lv_iconst (v := 0) hx hb dX9_sheet_31 (by decide) ?_
              exact W.zret (v := 0) hx hb hr rfl (fun t ht hW => ⟨⟨0, (), rfl, (if_neg (by omega)).symm, trivial⟩, hS.F ht⟩) hS.2.2 dX9_sheet_32
