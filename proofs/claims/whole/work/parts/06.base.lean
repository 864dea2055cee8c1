abbrev wB (y : MethodName) (b : ByteArray) (n : Nat) (r : Option FieldType) : List Cond := Cond.code y b n r :: bigW
theorem bigG : ∀ w ∈ bigW, (w.onTables && w.keeps) = true ∨ ∃ ty, w = .arrayClass ty := fun w h => good_of_word (List.all_eq_true.mp bigW_good w h)
theorem gI {y : MethodName} {b : ByteArray} {n : Nat} {r : Option FieldType} (h : Cond.code y b n r ∈ bigW) : GoodIn bigW (wB y b n r) := fun w hw => (List.mem_cons.mp hw).elim (fun e => e ▸ ⟨h, bigG _ h⟩) (fun h1 => ⟨h1, bigG _ h1⟩)
theorem gS {own : String} {i : Nat} {y : MethodName} {b : ByteArray} {n : Nat} {r : Option FieldType} (h1 : Cond.methodLink own i y ∈ bigW) (h2 : Cond.static y ∈ bigW) (h3 : Cond.initialized y.cls ∈ bigW) (h4 : Cond.code y b n r ∈ bigW) : GoodIn bigW (va_wsS own i y (wB y b n r)) := by
  intro w hw
  rcases List.mem_append.mp hw with h | h
  · simp only [List.mem_cons, List.not_mem_nil, or_false] at h
    rcases h with rfl | rfl | rfl
    · exact ⟨h1, bigG _ h1⟩
    · exact ⟨h2, bigG _ h2⟩
    · exact ⟨h3, bigG _ h3⟩
  · exact gI h4 w h
theorem gV {own C : String} {i : Nat} {y : MethodName} {b : ByteArray} {n : Nat} {r : Option FieldType} (h1 : Cond.methodLink own i y ∈ bigW) (h2 : Cond.instanceMethod y ∈ bigW) (h3 : Cond.selects C y y ∈ bigW) (h5 : Cond.initialized C ∈ bigW) (h4 : Cond.code y b n r ∈ bigW) : GoodIn bigW (wsV own i C y (wB y b n r)) := by
  intro w hw
  rcases List.mem_append.mp hw with h | h
  · simp only [List.mem_cons, List.not_mem_nil, or_false] at h
    rcases h with rfl | rfl | rfl | rfl
    · exact ⟨h1, bigG _ h1⟩
    · exact ⟨h2, bigG _ h2⟩
    · exact ⟨h3, bigG _ h3⟩
    · exact ⟨h5, bigG _ h5⟩
  · exact gI h4 w h
/-! what every contract here speaks of: the words between nest mates, the start, the end -/
def nF : List (String × Nat × String × String × String × String) := [(RX8, 89, "DotBench$Brush", "clip", "LDotBench$Box;", RX8), (RX8, 76, "DotBench$Brush", "ink", "I", RX8), (RX8, 83, "DotBench$Brush", "way", "I", RX8), (RX8, 86, "DotBench$Brush", "opacity", "I", RX8), (RX8, 136, "DotBench$Path", "points", "I", RX8), (RX8, 167, "DotBench$Triangle", "outline", "LDotBench$Path;", RX8), (RX8, 148, "DotBench$Sheet", "width", "I", RX8), (RX8, 145, "DotBench$Sheet", "height", "I", RX8), (RX8, 180, "DotBench$Spread", "size", "I", RX8), (RX8, 247, "DotBench$Frame", "x", "I", RX8), (RX8, 241, "DotBench$Frame", "y", "I", RX8), (RX8, 244, "DotBench$Frame", "w", "I", RX8), (RX8, 238, "DotBench$Frame", "h", "I", RX8)]
def nM : List (String × Nat × MethodName × String) := [(RX8, 17, yX1_init, RX8), (RX1, 11, yX0_init, RX8), (RX8, 24, yX0_init, RX8), (RX8, 31, yX3_init, RX8), (RX8, 38, yX7_init, RX8), (RX7, 23, yX3_init, RX8), (RX8, 45, yX4_init, RX8), (RX8, 67, yX5_init, RX8), (RX1, 49, yX8_channel, RX8), (RX1, 59, yX8_shareOfFull, RX8), (RX4, 34, yX8_isIn, RX8), (RX7, 39, yX8_channel, RX8), (RX8, 225, yX6_init, RX8), (RX2, 24, yX8_isNear, RX8), (RX5, 42, yX8_channel, RX8)]
def nW (U : State) : Prop := (∀ q ∈ nF, va_Nw (.fieldLinkNest q.1 q.2.1 q.2.2.1 q.2.2.2.1 q.2.2.2.2.1 q.2.2.2.2.2) U) ∧ (∀ q ∈ nM, va_Nw (.methodLinkNest q.1 q.2.1 q.2.2.1 q.2.2.2) U) ∧ va_AO RX5 U
theorem nW_warm {s U : State} (hW : s.WarmedH U.vm) (h : nW s) : nW U := ⟨fun q hq => (h.1 q hq).warmF hW, fun q hq => (h.2.1 q hq).warmM hW, va_AO.moved hW.alike h.2.2⟩
theorem nW_call {U : State} (g : JFrame) (mk : MethodId) (a : Array Value) (h : nW U) : nW (U.calling g mk a) := ⟨fun q hq => va_Nw.same (u := U) (U := U.calling g mk a) rfl rfl (h.1 q hq), fun q hq => va_Nw.same (u := U) (U := U.calling g mk a) rfl rfl (h.2.1 q hq), va_AO.moved (u := U) (U := U.calling g mk a) (Vm.Alike.refl U.vm) h.2.2⟩
def cP (D : va_G) (W : va_W) (T : List (ClassId × FieldType)) (sz : Nat) (as : List Value) : Array Value → State → Prop := va_Pc as (fun U => U.heap.size = sz ∧ va_P D vwCl W U.heap ∧ va_K D vwCl T U ∧ va_D (fun _ => True) W ∧ nW U)
def cB (D : va_G) (A : Nat → Prop) (W : va_W) (T : List (ClassId × FieldType)) (t : State) : Prop := va_P D vwCl W t.heap ∧ va_K D vwCl T t ∧ va_D A W
theorem cP_blind {D : va_G} {W : va_W} {T : List (ClassId × FieldType)} {sz : Nat} {as : List Value} : FrameBlind (cP D W T sz as) := fun a U g mk q => by
  obtain ⟨q0, q1, qP, qK, qD, qN⟩ := q
  exact ⟨q0, q1, qP, va_K.moved (u := U) (U := U.calling g mk a) (Vm.Alike.refl U.vm) qK, qD, nW_call g mk a qN⟩
theorem cP_at {D : va_G} {W : va_W} {T : List (ClassId × FieldType)} {as : List Value} {H : Heap} {s : State} {A : Nat → Prop} (hP : va_P D vwCl W H) (hK : va_K D vwCl T s) (hD : va_D A W) (hN : nW s) : ∀ U : State, U.heap = H → s.WarmedH U.vm → cP D W T H.size as as.toArray U :=
  fun U hU hW => ⟨rfl, by rw [hU], by rw [hU]; exact hP, va_K.moved hW.alike hK, hD.weaken (fun _ _ _ _ => trivial), nW_warm hW hN⟩
theorem vP_nil {D : va_G} {H : Heap} : va_P D vwCl [] H := fun k q h => by simp at h
theorem vD_nil {A : Nat → Prop} : va_D A [] := ⟨fun i j p q h => by simp at h, fun k q h => by simp at h⟩
section MyRows
variable {p : Program} {l : Launch} {e : Env} {R : Room} {s : State} {m : MethodId} {args : Array Value} {below : List Frame} {meth : Method} {c : Code} {H : Heap} {locs : List Loc} {cells slots : Nat} {Q : State → Prop} {pc : Nat} {ls : Array Slot} {rest : List Value}
theorem my_fold {x v : Int32} (h : x = v) (k : W p l e R s m args below meth c H locs cells slots Q (F0 m pc ls (.int v :: rest))) : W p l e R s m args below meth c H locs cells slots Q (F0 m pc ls (.int x :: rest)) := by
  rw [h]
  exact k
theorem my_topv {x v : Value} (h : x = v) (k : W p l e R s m args below meth c H locs cells slots Q (F0 m pc ls (v :: rest))) : W p l e R s m args below meth c H locs cells slots Q (F0 m pc ls (x :: rest)) := by
  rw [h]
  exact k
theorem my_topl {x : Int64} (k : ∀ v : Int64, v = x → W p l e R s m args below meth c H locs cells slots Q (F0 m pc ls (.long v :: rest))) : W p l e R s m args below meth c H locs cells slots Q (F0 m pc ls (.long x :: rest)) := k x rfl
end MyRows
theorem my_abs {p : Program} {l : Launch} {e : Env} {R0 : Room} {s : State} {m : MethodId} {args : Array Value} {below : List Frame} {meth : Method} {c : Code} {H : Heap} {locs : List Loc} {cells slots : Nat} {Q0 : State → Prop} {g : JFrame} (h : ∀ (R : Room) (Q : State → Prop), R = R0 → (∀ (H : Heap) (locs : List Loc) (cells slots : Nat) (g : JFrame), W p l e R s m args below meth c H locs cells slots Q0 g → W p l e R s m args below meth c H locs cells slots Q g) → W p l e R s m args below meth c H locs cells slots Q g) : W p l e R0 s m args below meth c H locs cells slots Q0 g := h R0 Q0 rfl (fun _ _ _ _ _ k => k)
theorem my_sameI {D : va_G} {cl : List vw_C} {tys : List (ClassId × FieldType)} {s : State} {a b : ClassId} (hK : va_K D cl tys s) (i j : Nat) (hi : tys[i]? = some (a, .int)) (hj : tys[j]? = some (b, .int)) : a = b := by
  have h1 : va_RA s a .int := (hK.2 i _ hi).2
  have h2 : va_RA s b .int := (hK.2 j _ hj).2
  exact Option.some.inj (h1.symm.trans h2)
theorem my_sameZ {D : va_G} {cl : List vw_C} {tys : List (ClassId × FieldType)} {s : State} {a b : ClassId} (hK : va_K D cl tys s) (i j : Nat) (hi : tys[i]? = some (a, .boolean)) (hj : tys[j]? = some (b, .boolean)) : a = b := by
  have h1 : va_RA s a .boolean := (hK.2 i _ hi).2
  have h2 : va_RA s b .boolean := (hK.2 j _ hj).2
  exact Option.some.inj (h1.symm.trans h2)
theorem my_in {i : Int32} {n : Nat} (h1 : ¬ i < 0) (h2 : ¬ n ≤ i.toNatClampNeg) : vp_in i n := fun h => h.elim h1 h2
theorem f_eq {x y : Int32} {a b : Int} (hx : x.toInt = a) (hy : y.toInt = b) (h : x = y) : a = b := by rw [← hx, ← hy, h]
theorem fn_eq {x y : Int32} {a b : Int} (hx : x.toInt = a) (hy : y.toInt = b) (h : ¬ x = y) : ¬ a = b := fun q => h (Int32.toInt_inj.mp (by rw [hx, hy, q]))
theorem f_lt {x y : Int32} {a b : Int} (hx : x.toInt = a) (hy : y.toInt = b) (h : x < y) : a < b := by rw [← hx, ← hy]; exact Int32.lt_iff_toInt_lt.mp h
theorem f_le {x y : Int32} {a b : Int} (hx : x.toInt = a) (hy : y.toInt = b) (h : x ≤ y) : a ≤ b := by rw [← hx, ← hy]; exact Int32.le_iff_toInt_le.mp h
theorem fn_lt {x y : Int32} {a b : Int} (hx : x.toInt = a) (hy : y.toInt = b) (h : ¬ x < y) : ¬ a < b := by rw [← hx, ← hy]; exact fun q => h (Int32.lt_iff_toInt_lt.mpr q)
theorem fn_le {x y : Int32} {a b : Int} (hx : x.toInt = a) (hy : y.toInt = b) (h : ¬ x ≤ y) : ¬ a ≤ b := by rw [← hx, ← hy]; exact fun q => h (Int32.le_iff_toInt_le.mpr q)
theorem bz0 {r : Int32} {P : Prop} [Decidable P] (h : r = if P then 1 else 0) (h0 : r = 0) : ¬ P := fun hp => by
  rw [if_pos hp] at h
  rw [h] at h0
  exact absurd h0 (by decide)
theorem bz1 {r : Int32} {P : Prop} [Decidable P] (h : r = if P then 1 else 0) (h0 : ¬ r = 0) : P := Decidable.byContradiction (fun hp => by
  rw [if_neg hp] at h
  exact h0 h)
theorem nz_if {r : Int32} {P : Prop} [Decidable P] (h : r = if P then 1 else 0) : narrow .boolean (.int r) = .int r := by
  rw [h]
  split <;> rfl
/-! numbers and colours -/
theorem i_of {x : Int32} {N : Nat} (h0 : 0 ≤ x.toInt) (h1 : x.toInt < N) (hN : N < 2 ^ 31) : ∃ j : Nat, j < N ∧ x = nI j := vp_in_of (vp_in_iff.mpr ⟨h0, h1⟩) hN
/-- the place of a DOT in its row of 4096 -/
def ixP (x y : Int32) : Nat := (y.toInt * 64 + x.toInt).toNat
theorem ix_all {x y : Int32} (h1 : 0 ≤ x.toInt) (h2 : x.toInt < 64) (h3 : 0 ≤ y.toInt) (h4 : y.toInt < 64) : ∃ i : Nat, i < 4096 ∧ y * 64 + x = nI i ∧ 64 * y + x = nI i ∧ ixP x y = i ∧ (i : Int) = y.toInt * 64 + x.toInt := by
  obtain ⟨a, ha, rfl⟩ := i_of (N := 64) h1 (by omega) (by decide)
  obtain ⟨b, hb, rfl⟩ := i_of (N := 64) h3 (by omega) (by decide)
  have ea : (nI a).toInt = (a : Int) := nI_toInt (by omega)
  have eb : (nI b).toInt = (b : Int) := nI_toInt (by omega)
  refine ⟨b * 64 + a, by omega, ?_, ?_, ?_, ?_⟩
  · rw [show (64 : Int32) = nI 64 from rfl, pk_mul, nI_add]
  · rw [show (64 : Int32) = nI 64 from rfl, pk_mul, nI_add, Nat.mul_comm]
  · unfold ixP
    rw [ea, eb]
    omega
  · rw [ea, eb]
    omega
theorem ix_in {x y : Int32} (h1 : 0 ≤ x.toInt) (h2 : x.toInt < 64) (h3 : 0 ≤ y.toInt) (h4 : y.toInt < 64) : vp_in (y * 64 + x) 4096 := by
  obtain ⟨i, hi, e, -⟩ := ix_all h1 h2 h3 h4
  rw [e]
  exact vp_in_nI hi (by decide)
theorem ix_cl {x y : Int32} (h1 : 0 ≤ x.toInt) (h2 : x.toInt < 64) (h3 : 0 ≤ y.toInt) (h4 : y.toInt < 64) : (y * 64 + x).toNatClampNeg = ixP x y := by
  obtain ⟨i, hi, e, -, e2, -⟩ := ix_all h1 h2 h3 h4
  rw [e, e2]
  exact nI_clamp (by omega)
theorem ix_lt {x y : Int32} (h1 : 0 ≤ x.toInt) (h2 : x.toInt < 64) (h3 : 0 ≤ y.toInt) (h4 : y.toInt < 64) : ixP x y < 4096 := by
  obtain ⟨i, hi, -, -, e2, -⟩ := ix_all h1 h2 h3 h4
  rw [e2]
  exact hi
/-- a CHANNEL -/
def chS (v sh : Int32) : Int32 := (v.toUInt32 >>> (sh.toUInt32 &&& Int32.toUInt32 31)).toInt32 &&& 255
/-- R(n, 255) -/
def shP (n : Int32) : Int32 := (2 * n + 255) / 510
def inkP (v : Int32) : Int32 := ((((chS v 24 <<< ((8 : Int32) &&& 31) ||| shP (chS v 16 * chS v 24)) <<< ((8 : Int32) &&& 31)) ||| shP (chS v 8 * chS v 24)) <<< ((8 : Int32) &&& 31)) ||| shP (chS v 0 * chS v 24)
def wSP (w d : Int32) : Int32 := if w = 1 ∨ w = 3 ∨ w = 12 then 255 else if w = 5 ∨ w = 9 then d else if w = 4 ∨ w = 7 ∨ w = 10 ∨ w = 11 then 255 - d else 0
def wTP (w s : Int32) : Int32 := if w = 2 ∨ w = 4 ∨ w = 12 then 255 else if w = 6 ∨ w = 10 then s else if w = 3 ∨ w = 8 ∨ w = 9 ∨ w = 11 then 255 - s else 0
def mnP (v : Int32) : Int32 := if v < 255 then v else 255
/-- one CHANNEL that is LAID -/
def lcP (p q s d m sh : Int32) : Int32 := shP (mnP (shP (chS s sh * p + chS d sh * q)) * m + chS d sh * (255 - m))
def laidP (w s d m : Int32) : Int32 :=
  (((((((0 : Int32) <<< ((8 : Int32) &&& 31) ||| lcP (wSP w (chS d 24)) (wTP w (chS s 24)) s d m 24) <<< ((8 : Int32) &&& 31)) ||| lcP (wSP w (chS d 24)) (wTP w (chS s 24)) s d m 16) <<< ((8 : Int32) &&& 31)) ||| lcP (wSP w (chS d 24)) (wTP w (chS s 24)) s d m 8) <<< ((8 : Int32) &&& 31)) ||| lcP (wSP w (chS d 24)) (wTP w (chS s 24)) s d m 0
theorem fill_up {g : Nat → Int32} {i : Nat} {v x : Int32} (h : ∀ j : Nat, j < i → g j = v) (hx : x.toNatClampNeg = i) : ∀ j : Nat, j < i + 1 → upd g x.toNatClampNeg v j = v := fun j hj => by
  rw [hx]
  by_cases q : j = i
  · rw [q]; exact pk_us
  · rw [pk_un q]; exact h j (by omega)
theorem mnP_le {w : Int32} (h : w.toInt ≤ 255) : mnP w = w := by
  unfold mnP
  split
  · rfl
  · rename_i q
    have h2 : ¬ w.toInt < 255 := fn_lt rfl (by decide) q
    exact Int32.toInt_inj.mp (show (255 : Int32).toInt = w.toInt from (show (255 : Int32).toInt = 255 by decide).trans (by omega))
theorem mnP_gt {w : Int32} (h : 255 < w.toInt) : mnP w = 255 := by
  unfold mnP
  rw [if_neg]
  intro q
  have h2 : w.toInt < 255 := f_lt rfl (by decide) q
  omega
theorem chM (n : Nat) (hn : n ≤ 24) (v : Int32) : v >>> (nI n &&& 31) &&& 255 = chS v (nI n) := b_ext (fun i hi => by
  unfold chS
  rw [b_and, b_and, b_255, b_sshr n (by omega) v hi, b_ushr n (by omega) v i]
  by_cases q : i < 8
  · rw [if_pos (by omega)]
  · simp [q])
theorem chM24 (v : Int32) : v >>> ((24 : Int32) &&& 31) &&& 255 = chS v 24 := chM 24 (by omega) v
theorem chM16 (v : Int32) : v >>> ((16 : Int32) &&& 31) &&& 255 = chS v 16 := chM 16 (by omega) v
theorem chM8 (v : Int32) : v >>> ((8 : Int32) &&& 31) &&& 255 = chS v 8 := chM 8 (by omega) v
theorem chM0 (v : Int32) : v >>> ((0 : Int32) &&& 31) &&& 255 = chS v 0 := chM 0 (by omega) v
theorem zfill_up {g : Nat → Int32} {i : Nat} {x : Int32} (h : ∀ j : Nat, j < i → g j = 0) (hx : x.toNatClampNeg = i) : ∀ j : Nat, j < i + 1 → upd g x.toNatClampNeg (vp_nar .boolean 0) j = 0 := fill_up h hx
theorem ix_in2 {x y : Int32} (h1 : 0 ≤ x.toInt) (h2 : x.toInt < 64) (h3 : 0 ≤ y.toInt) (h4 : y.toInt < 64) : vp_in (64 * y + x) 4096 := by
  obtain ⟨i, hi, -, e, -⟩ := ix_all h1 h2 h3 h4
  rw [e]
  exact vp_in_nI hi (by decide)
theorem ix_cl2 {x y : Int32} (h1 : 0 ≤ x.toInt) (h2 : x.toInt < 64) (h3 : 0 ≤ y.toInt) (h4 : y.toInt < 64) : (64 * y + x).toNatClampNeg = ixP x y := by
  obtain ⟨i, hi, -, e, e2, -⟩ := ix_all h1 h2 h3 h4
  rw [e, e2]
  exact nI_clamp (by omega)
theorem lp_nI (kk i : Nat) : (4096 : Int32) * nI kk + nI i = nI (4096 * kk + i) := by
  rw [show (4096 : Int32) = nI 4096 from rfl, pk_mul, nI_add]
theorem lp_in {kk i : Nat} (h : kk < 4) (h2 : i < 4096) : vp_in ((4096 : Int32) * nI kk + nI i) 16384 := by
  rw [lp_nI]
  exact vp_in_nI (by omega) (by omega)
theorem lp_cl {kk i : Nat} (h : kk < 4) (h2 : i < 4096) : ((4096 : Int32) * nI kk + nI i).toNatClampNeg = 4096 * kk + i := by
  rw [lp_nI]
  exact nI_clamp (by omega)
theorem z_X0 : ∀ j, j < 4 → defaultValue (tyX0 j) = vp_V [.int 0, .int 0, .int 0, .int 0] j := fun j hj => by
  rcases (show j = 0 ∨ j = 1 ∨ j = 2 ∨ j = 3 by omega) with rfl | rfl | rfl | rfl <;> rfl
theorem z_X1 : ∀ j, j < 4 → defaultValue (tyX1 j) = vp_V [.null, .int 0, .int 0, .int 0] j := fun j hj => by
  rcases (show j = 0 ∨ j = 1 ∨ j = 2 ∨ j = 3 by omega) with rfl | rfl | rfl | rfl <;> rfl
theorem z_X2 : ∀ j, j < 4 → defaultValue (tyX2 j) = vp_V [.int 0, .int 0, .int 0, .int 0] j := fun j hj => by
  rcases (show j = 0 ∨ j = 1 ∨ j = 2 ∨ j = 3 by omega) with rfl | rfl | rfl | rfl <;> rfl
theorem z_X3 : ∀ j, j < 7 → defaultValue (tyX3 j) = vp_V [.null, .null, .null, .null, .int 0, .int 0, .int 0] j := fun j hj => by
  rcases (show j = 0 ∨ j = 1 ∨ j = 2 ∨ j = 3 ∨ j = 4 ∨ j = 5 ∨ j = 6 by omega) with rfl | rfl | rfl | rfl | rfl | rfl | rfl <;> rfl
theorem z_X4 : ∀ j, j < 2 → defaultValue (tyX4 j) = vp_V [.null, .null] j := fun j hj => by
  rcases (show j = 0 ∨ j = 1 by omega) with rfl | rfl <;> rfl
theorem z_X5 : ∀ j, j < 3 → defaultValue (tyX5 j) = vp_V [.null, .int 0, .int 0] j := fun j hj => by
  rcases (show j = 0 ∨ j = 1 ∨ j = 2 by omega) with rfl | rfl | rfl <;> rfl
theorem z_X7 : ∀ j, j < 4 → defaultValue (tyX7 j) = vp_V [.null, .null, .null, .null] j := fun j hj => by
  rcases (show j = 0 ∨ j = 1 ∨ j = 2 ∨ j = 3 by omega) with rfl | rfl | rfl | rfl <;> rfl
theorem z_X8 : ∀ j, j < 9 → defaultValue (tyX8 j) = vp_V [.null, .null, .null, .null, .null, .null, .int 0, .null, .null] j := fun j hj => by
  rcases (show j = 0 ∨ j = 1 ∨ j = 2 ∨ j = 3 ∨ j = 4 ∨ j = 5 ∨ j = 6 ∨ j = 7 ∨ j = 8 by omega) with rfl | rfl | rfl | rfl | rfl | rfl | rfl | rfl | rfl <;> rfl
theorem z_X9 : ∀ j, j < 23 → defaultValue (tyX9 j) = vp_V [.null, .null, .null, .int 0, .int 0, .int 0, .int 0, .int 0, .int 0, .int 0, .int 0, .int 0, .null, .null, .null, .null, .null, .null, .int 0, .null, .null, .null, .null] j := fun j hj => by
  rcases (show j = 0 ∨ j = 1 ∨ j = 2 ∨ j = 3 ∨ j = 4 ∨ j = 5 ∨ j = 6 ∨ j = 7 ∨ j = 8 ∨ j = 9 ∨ j = 10 ∨ j = 11 ∨ j = 12 ∨ j = 13 ∨ j = 14 ∨ j = 15 ∨ j = 16 ∨ j = 17 ∨ j = 18 ∨ j = 19 ∨ j = 20 ∨ j = 21 ∨ j = 22 by omega) with rfl | rfl | rfl | rfl | rfl | rfl | rfl | rfl | rfl | rfl | rfl | rfl | rfl | rfl | rfl | rfl | rfl | rfl | rfl | rfl | rfl | rfl | rfl <;> rfl
