/-! the two windings agree -/
theorem xor_neg (x y : Int32) : ¬ 0 ≤ x ^^^ y ↔ ¬ (x.toInt < 0 ↔ y.toInt < 0) := by
  have h1 : (0 ≤ x ^^^ y) ↔ 0 ≤ (x ^^^ y).toInt := ⟨fun h => f_le (by decide) rfl h, fun h => Int32.le_iff_toInt_le.mpr (by rw [show (0 : Int32).toInt = 0 by decide]; exact h)⟩
  have h2 : (x ^^^ y).toBitVec.msb = (x.toBitVec.msb ^^ y.toBitVec.msb) := by
    rw [Int32.toBitVec_xor, BitVec.msb_xor]
  rw [BitVec.msb_eq_toInt, BitVec.msb_eq_toInt, BitVec.msb_eq_toInt] at h2
  have h3 : decide ((x ^^^ y).toInt < 0) = (decide (x.toInt < 0) ^^ decide (y.toInt < 0)) := h2
  rw [h1]
  by_cases a : x.toInt < 0 <;> by_cases b : y.toInt < 0 <;> simp [a, b] at h3 ⊢ <;> omega
theorem fd_spec {x y : Int32} (hy : ¬ y.toInt = 0) (hx : -1073741824 ≤ x.toInt ∧ x.toInt ≤ 1073741824) : (0 < y.toInt → (fdP x y).toInt * y.toInt ≤ x.toInt ∧ x.toInt < (fdP x y).toInt * y.toInt + y.toInt) ∧ (y.toInt < 0 → x.toInt ≤ (fdP x y).toInt * y.toInt ∧ (fdP x y).toInt * y.toInt + y.toInt < x.toInt) := by
  obtain ⟨X, hX⟩ : ∃ X, X = x.toInt := ⟨_, rfl⟩
  obtain ⟨Y, hY⟩ : ∃ Y, Y = y.toInt := ⟨_, rfl⟩
  obtain ⟨q, hq⟩ : ∃ q, q = X.tdiv Y := ⟨_, rfl⟩
  obtain ⟨m, hm⟩ : ∃ m, m = X.tmod Y := ⟨_, rfl⟩
  have e1 : m + Y * q = X := by rw [hm, hq]; exact Int.tmod_add_mul_tdiv X Y
  have e2 : m.natAbs < Y.natAbs := by
    rw [hm, Int.natAbs_tmod]
    exact Nat.mod_lt _ (by omega)
  have e3 : 0 ≤ X → 0 ≤ m := fun h => by rw [hm]; exact Int.tmod_nonneg Y h
  have e4 : X ≤ 0 → m ≤ 0 := fun h => by
    have h2 : 0 ≤ (-X).tmod Y := Int.tmod_nonneg Y (by omega)
    rw [Int.neg_tmod] at h2
    omega
  have e5 : q.natAbs ≤ X.natAbs := by
    rw [hq, Int.natAbs_tdiv]
    exact Nat.div_le_self _ _
  have dq : (x / y).toInt = q := by
    rw [Int32.toInt_div, ← hX, ← hY, ← hq]
    exact Int.bmod_eq_of_le (by omega) (by omega)
  have dy : (x / y * y).toInt = q * Y := by
    rw [Int32.toInt_mul, dq, ← hY]
    have h8 : Y * q = q * Y := Int.mul_comm Y q
    have h9 : (q * Y).natAbs ≤ X.natAbs := by
      rw [Int.natAbs_mul, hq, Int.natAbs_tdiv]
      exact Nat.div_mul_le_self _ _
    exact Int.bmod_eq_of_le (by omega) (by omega)
  have hz : Y * q = q * Y := Int.mul_comm Y q
  have de : (x / y * y = x) ↔ m = 0 := by
    constructor
    · intro h
      have : (x / y * y).toInt = X := by rw [h, hX]
      omega
    · intro h
      apply Int32.toInt_inj.mp
      rw [dy, ← hX]
      omega
  rw [← hX, ← hY]
  rw [← hX] at hx
  rw [← hY] at hy
  unfold fdP
  by_cases c : ¬ 0 ≤ x ^^^ y ∧ ¬ x / y * y = x
  · rw [if_pos c]
    have c1 := (xor_neg x y).mp c.1
    have c2 : ¬ m = 0 := fun h => c.2 (de.mpr h)
    rw [← hX, ← hY] at c1
    have d1 : (x / y - 1).toInt = q - 1 := by
      rw [Int32.toInt_sub, dq, show (1 : Int32).toInt = 1 by decide]
      exact Int.bmod_eq_of_le (by omega) (by omega)
    rw [d1, Int.sub_mul, Int.one_mul]
    by_cases s1 : X < 0 <;> by_cases s2 : Y < 0 <;> simp [s1, s2] at c1
    · have := e4 (by omega)
      refine ⟨fun h => ⟨by omega, by omega⟩, fun h => by omega⟩
    · have := e3 (by omega)
      refine ⟨fun h => by omega, fun h => ⟨by omega, by omega⟩⟩
  · rw [if_neg c, dq]
    by_cases z : m = 0
    · exact ⟨fun h => ⟨by omega, by omega⟩, fun h => ⟨by omega, by omega⟩⟩
    · have c1 : (X < 0 ↔ Y < 0) := by
        have c2 : ¬ ¬ 0 ≤ x ^^^ y := fun h => c ⟨h, fun h2 => z (de.mp h2)⟩
        rw [xor_neg, ← hX, ← hY] at c2
        exact Decidable.not_not.mp c2
      by_cases s1 : X < 0
      · have s2 := c1.mp s1
        have := e4 (by omega)
        exact ⟨fun h => by omega, fun h => ⟨by omega, by omega⟩⟩
      · have s2 : ¬ Y < 0 := fun h => s1 (c1.mpr h)
        have := e3 (by omega)
        exact ⟨fun h => ⟨by omega, by omega⟩, fun h => by omega⟩
theorem fl_pos {m r y x : Int} (hy : 0 < y) (h1 : r * y ≤ x) (h2 : x < r * y + y) : m ≤ r ↔ m * y ≤ x := by
  constructor
  · intro h
    exact Int.le_trans (Int.mul_le_mul_of_nonneg_right h (by omega)) h1
  · intro h
    rcases Int.lt_or_le r m with c | c
    · have h3 : (r + 1) * y ≤ m * y := Int.mul_le_mul_of_nonneg_right (by omega) (by omega)
      rw [Int.add_mul, Int.one_mul] at h3
      omega
    · exact c
theorem fl_neg {m r y x : Int} (hy : y < 0) (h1 : x ≤ r * y) (h2 : r * y + y < x) : m ≤ r ↔ x ≤ m * y := by
  constructor
  · intro h
    have h3 : m * (-y) ≤ r * (-y) := Int.mul_le_mul_of_nonneg_right h (by omega)
    rw [Int.mul_neg, Int.mul_neg] at h3
    omega
  · intro h
    rcases Int.lt_or_le r m with c | c
    · have h3 : (r + 1) * (-y) ≤ m * (-y) := Int.mul_le_mul_of_nonneg_right (by omega) (by omega)
      rw [Int.add_mul, Int.one_mul, Int.mul_neg, Int.mul_neg] at h3
      omega
    · exact c
def c8 (x : Int32) : Prop := -8192 ≤ x.toInt ∧ x.toInt ≤ 8192
theorem sub8 {a b : Int32} (ha : -20000 ≤ a.toInt ∧ a.toInt ≤ 20000) (hb : -20000 ≤ b.toInt ∧ b.toInt ≤ 20000) : (a - b).toInt = a.toInt - b.toInt := by
  rw [Int32.toInt_sub]
  exact Int.bmod_eq_of_le (by omega) (by omega)
theorem fr_le {a b c d u v : Int32} (ha : c8 a) (hb : c8 b) (hc : c8 c) (hd : c8 d) (hv : (b.toInt ≤ v.toInt ∧ v.toInt < d.toInt) ∨ (d.toInt ≤ v.toInt ∧ v.toInt < b.toInt)) :
    (b.toInt < d.toInt → ((frP a b c d v).toInt ≤ u.toInt ↔ (v.toInt - b.toInt) * (c.toInt - a.toInt) ≤ (u.toInt - a.toInt) * (d.toInt - b.toInt))) ∧ (d.toInt < b.toInt → ((frP a b c d v).toInt ≤ u.toInt ↔ (u.toInt - a.toInt) * (d.toInt - b.toInt) ≤ (v.toInt - b.toInt) * (c.toInt - a.toInt))) := by
  unfold c8 at ha hb hc hd
  have e1 : (d - b).toInt = d.toInt - b.toInt := sub8 (by omega) (by omega)
  have e2 : (a - c).toInt = a.toInt - c.toInt := sub8 (by omega) (by omega)
  have e3 : (v - b).toInt = v.toInt - b.toInt := sub8 (by omega) (by omega)
  have hne : ¬ d - b = 0 := fun h => by
    rw [h, show (0 : Int32).toInt = 0 by decide] at e1
    omega
  have hna : ((a.toInt - c.toInt) * (v.toInt - b.toInt)).natAbs ≤ 16384 * 16384 := by
    rw [Int.natAbs_mul]
    exact Nat.mul_le_mul (by omega) (by omega)
  have e4 : ((a - c) * (v - b)).toInt = (a.toInt - c.toInt) * (v.toInt - b.toInt) := by
    rw [Int32.toInt_mul, e2, e3]
    exact Int.bmod_eq_of_le (by omega) (by omega)
  have sp := fd_spec (x := (a - c) * (v - b)) (y := d - b) (by rw [e1]; omega) (by rw [e4]; omega)
  rw [e1, e4] at sp
  obtain ⟨r, hr⟩ : ∃ r, r = (fdP ((a - c) * (v - b)) (d - b)).toInt := ⟨_, rfl⟩
  rw [← hr] at sp
  -- how large the quotient can be
  have hrb : r.natAbs ≤ 16384 * 16384 + 1 := by
    rcases Int.lt_or_le 0 (d.toInt - b.toInt) with c1 | c1
    · obtain ⟨s1, s2⟩ := sp.1 c1
      have k1 := (fl_pos (m := 16384 * 16384 + 1) c1 s1 s2)
      have k2 := (fl_pos (m := -(16384 * 16384) - 1) c1 s1 s2)
      have h1 : ¬ (16384 * 16384 + 1 : Int) * (d.toInt - b.toInt) ≤ (a.toInt - c.toInt) * (v.toInt - b.toInt) := by omega
      have h2 : (-(16384 * 16384) - 1 : Int) * (d.toInt - b.toInt) ≤ (a.toInt - c.toInt) * (v.toInt - b.toInt) := by omega
      have := k2.mpr h2
      have := fun h => h1 (k1.mp h)
      omega
    · have c2 : d.toInt - b.toInt < 0 := by omega
      obtain ⟨s1, s2⟩ := sp.2 c2
      have k1 := (fl_neg (m := 16384 * 16384 + 1) c2 s1 s2)
      have k2 := (fl_neg (m := -(16384 * 16384) - 1) c2 s1 s2)
      have h1 : ¬ (a.toInt - c.toInt) * (v.toInt - b.toInt) ≤ (16384 * 16384 + 1 : Int) * (d.toInt - b.toInt) := by omega
      have h2 : (a.toInt - c.toInt) * (v.toInt - b.toInt) ≤ (-(16384 * 16384) - 1 : Int) * (d.toInt - b.toInt) := by omega
      have := k2.mpr h2
      have := fun h => h1 (k1.mp h)
      omega
  have ef : (frP a b c d v).toInt = a.toInt - r := by
    unfold frP
    rw [if_neg hne, Int32.toInt_sub, ← hr]
    exact Int.bmod_eq_of_le (by omega) (by omega)
  have n1 : (a.toInt - c.toInt) * (v.toInt - b.toInt) = -((v.toInt - b.toInt) * (c.toInt - a.toInt)) := by
    rw [← Int.neg_sub c.toInt a.toInt, Int.neg_mul, Int.mul_comm]
  have n2 : (a.toInt - u.toInt) * (d.toInt - b.toInt) = -((u.toInt - a.toInt) * (d.toInt - b.toInt)) := by
    rw [← Int.neg_sub u.toInt a.toInt, Int.neg_mul]
  have hx : (frP a b c d v).toInt ≤ u.toInt ↔ a.toInt - u.toInt ≤ r := by rw [ef]; omega
  rw [hx]
  constructor
  · intro h
    obtain ⟨s1, s2⟩ := sp.1 (by omega)
    rw [fl_pos (by omega) s1 s2, n1, n2]
    omega
  · intro h
    obtain ⟨s1, s2⟩ := sp.2 (by omega)
    rw [fl_neg (by omega) s1 s2, n1, n2]
    omega
theorem eg_eq {a b c d u v s : Int32} (ha : c8 a) (hb : c8 b) (hc : c8 c) (hd : c8 d) : (if tnP b d v = 0 then s else if (frP a b c d v).toInt ≤ u.toInt then s + tnP b d v else s) = s + egI a.toInt b.toInt c.toInt d.toInt u.toInt v.toInt := by
  by_cases h1 : b.toInt ≤ v.toInt ∧ v.toInt < d.toInt
  · have t : tnP b d v = 1 := if_pos h1
    have f := (fr_le (u := u) ha hb hc hd (Or.inl h1)).1 (by omega)
    rw [t, if_neg (by decide)]
    unfold egI
    rw [if_pos h1]
    by_cases k : (frP a b c d v).toInt ≤ u.toInt
    · rw [if_pos k, if_pos (f.mp k)]
    · rw [if_neg k, if_neg (fun q => k (f.mpr q)), Int32.add_zero]
  · by_cases h2 : d.toInt ≤ v.toInt ∧ v.toInt < b.toInt
    · have t : tnP b d v = -1 := (if_neg h1).trans (if_pos h2)
      have f := (fr_le (u := u) ha hb hc hd (Or.inr h2)).2 (by omega)
      rw [t, if_neg (by decide)]
      unfold egI
      rw [if_neg h1, if_pos h2]
      by_cases k : (frP a b c d v).toInt ≤ u.toInt
      · rw [if_pos k, if_pos (f.mp k)]
      · rw [if_neg k, if_neg (fun q => k (f.mpr q)), Int32.add_zero]
    · have t : tnP b d v = 0 := (if_neg h1).trans (if_neg h2)
      rw [t, if_pos rfl]
      unfold egI
      rw [if_neg h1, if_neg h2, Int32.add_zero]
/-- PATHS that are the same -/
def PR (pn fx fy : Int32) (qa qb qc qd : Nat → Int32) (qn : Int32) (px py pf : Nat → Int32) : Prop := pn = qn ∧ (∀ j : Nat, j < pn.toNatClampNeg → qa j = px j ∧ qb j = py j ∧ qc j = px (toN pf pn.toNatClampNeg j) ∧ qd j = py (toN pf pn.toNatClampNeg j)) ∧ (0 < pn.toNatClampNeg → fx = px (mfN pf pn.toNatClampNeg) ∧ fy = py (mfN pf pn.toNatClampNeg))
theorem mfN_lt {pf : Nat → Int32} : ∀ {i : Nat}, 0 < i → mfN pf i < i
  | i + 1, _ => by
    have h := mfN_le pf i
    show (if pf i = 0 then mfN pf i else i) < i + 1
    split <;> omega
theorem toN_lt {pf : Nat → Int32} {N j : Nat} (h : j < N) : toN pf N j < N := by
  unfold toN
  split
  · have := mfN_lt (pf := pf) (i := j + 1) (by omega)
    omega
  · rename_i q
    have : ¬ j + 1 = N := fun c => q (Or.inl c)
    omega
theorem wn_wd {pn fx fy qn : Int32} {qa qb qc qd px py pf : Nat → Int32} (h : PR pn fx fy qa qb qc qd qn px py pf) (hN : pn.toNatClampNeg ≤ 48) (hp : ∀ j : Nat, j < 48 → (-8192 ≤ (px j).toInt ∧ (px j).toInt ≤ 8192) ∧ (-8192 ≤ (py j).toInt ∧ (py j).toInt ≤ 8192)) (u v : Int32) : ∀ i : Nat, i ≤ pn.toNatClampNeg → wnN qa qb qc qd u v i = wdN px py pf pn.toNatClampNeg u.toInt v.toInt i
  | 0, _ => rfl
  | i + 1, hi => by
    obtain ⟨h1, h2, h3, h4⟩ := h.2.1 i (by omega)
    have ht := toN_lt (pf := pf) (N := pn.toNatClampNeg) (j := i) (by omega)
    show (if tnP (qb i) (qd i) v = 0 then wnN qa qb qc qd u v i else if (frP (qa i) (qb i) (qc i) (qd i) v).toInt ≤ u.toInt then wnN qa qb qc qd u v i + tnP (qb i) (qd i) v else wnN qa qb qc qd u v i) = wdN px py pf pn.toNatClampNeg u.toInt v.toInt i + _
    rw [h1, h2, h3, h4, wn_wd h hN hp u v i (by omega)]
    exact eg_eq (hp i (by omega)).1 (hp i (by omega)).2 (hp _ (by omega)).1 (hp _ (by omega)).2
theorem mfN_up {pf : Nat → Int32} {N : Nat} {p : Int32} : ∀ {i : Nat}, i ≤ N → mfN (upd pf N p) i = mfN pf i
  | 0, _ => rfl
  | i + 1, h => by
    show (if upd pf N p i = 0 then mfN (upd pf N p) i else i) = (if pf i = 0 then mfN pf i else i)
    rw [pk_un (show i ≠ N by omega), mfN_up (by omega)]
theorem pf_0 {b pn : Int32} : pfP b pn = 0 ↔ ¬ (¬ b = 0 ∨ pn = 0) := by
  unfold pfP
  by_cases h : ¬ b = 0 ∨ pn = 0
  · rw [if_pos h]
    exact ⟨fun q => absurd q (by decide), fun q => absurd h q⟩
  · rw [if_neg h]
    exact ⟨fun _ => h, fun _ => by decide⟩
theorem PR_0 {fx fy : Int32} {qa qb qc qd px py pf : Nat → Int32} : PR 0 fx fy qa qb qc qd 0 px py pf := ⟨rfl, fun j hj => absurd hj (by rw [show (0 : Int32).toNatClampNeg = 0 by decide]; omega), fun h => absurd h (by decide)⟩
theorem PR_pt {pn fx fy b u v : Int32} {qa qb qc qd px py pf : Nat → Int32} (h : PR pn fx fy qa qb qc qd pn px py pf) (hp : 0 ≤ pn.toInt ∧ pn.toInt < 48) :
    PR (pn + 1) (adF b pn u fx) (adF b pn v fy) (upd qa pn.toNatClampNeg u) (upd qb pn.toNatClampNeg v) (adT b pn u fx qc) (adT b pn v fy qd) (pn + 1) (upd px pn.toNatClampNeg u) (upd py pn.toNatClampNeg v) (upd pf pn.toNatClampNeg (pfP b pn)) := by
  obtain ⟨N, hN, rfl⟩ := i_of (x := pn) (N := 48) hp.1 (by omega) (by decide)
  have eN : (nI N).toNatClampNeg = N := nI_clamp (by omega)
  have eN1 : (nI N + 1).toNatClampNeg = N + 1 := by rw [nI_1]; exact nI_clamp (by omega)
  obtain ⟨-, h1, h2⟩ := h
  rw [eN] at h1 h2
  unfold PR
  rw [eN, eN1]
  have z0 : nI N = 0 ↔ N = 0 := by
    constructor
    · intro q
      have := congrArg Int32.toInt q
      rw [nI_toInt (by omega), show (0 : Int32).toInt = 0 by decide] at this
      omega
    · intro q
      rw [q]
      rfl
  -- the new POINT's own EDGE
  have last : ∀ (w : Int32) (p : Nat → Int32) (fw : Int32), (0 < N → fw = p (mfN pf N)) → adF b (nI N) w fw = upd p N w (mfN (upd pf N (pfP b (nI N))) (N + 1)) := by
    intro w p fw hf
    show adF b (nI N) w fw = upd p N w (if upd pf N (pfP b (nI N)) N = 0 then mfN (upd pf N (pfP b (nI N))) N else N)
    rw [pk_us]
    by_cases c : ¬ b = 0 ∨ nI N = 0
    · rw [if_neg (fun q => pf_0.mp q c), pk_us]
      exact if_pos c
    · rw [if_pos (pf_0.mpr c), mfN_up (Nat.le_refl N)]
      have hpos : 0 < N := by
        have : ¬ N = 0 := fun q => c (Or.inr (z0.mpr q))
        omega
      have hl := mfN_lt (pf := pf) hpos
      rw [pk_un (by omega), ← hf hpos]
      exact if_neg c
  have one : ∀ (w fw : Int32) (p t : Nat → Int32), (0 < N → fw = p (mfN pf N)) → (∀ j : Nat, j < N → t j = p (toN pf N j)) → ∀ j : Nat, j < N + 1 → adT b (nI N) w fw t j = upd p N w (toN (upd pf N (pfP b (nI N))) (N + 1) j) := by
    intro w fw p t hf ht j hj
    unfold adT
    rw [eN]
    by_cases q : j = N
    · rw [q, pk_us, last w p fw hf]
      unfold toN
      rw [if_pos (Or.inl rfl)]
    · rw [pk_un q]
      have e0 : upd pf N (pfP b (nI N)) (j + 1) = if j + 1 = N then pfP b (nI N) else pf (j + 1) := rfl
      by_cases k : j + 1 = N
      · by_cases c : ¬ b = 0 ∨ nI N = 0
        · rw [if_pos c, ht j (by omega)]
          unfold toN
          rw [if_pos (Or.inl k), if_pos (Or.inr (by rw [e0, if_pos k]; exact fun q => pf_0.mp q c)), mfN_up (by omega)]
          have hl := mfN_lt (pf := pf) (i := j + 1) (by omega)
          rw [pk_un (by omega)]
        · have hm1 : (nI N - 1).toNatClampNeg = j := by
            rw [show (1 : Int32) = nI 1 from rfl, pk_sub (by omega), nI_clamp (by omega)]
            omega
          rw [if_neg c, hm1, pk_us]
          unfold toN
          rw [if_neg (by rw [e0, if_pos k]; exact fun q => q.elim (by omega) (fun q => q (pf_0.mpr c))), k, pk_us]
      · have hl := toN_lt (pf := pf) (N := N) (j := j) (by omega)
        have et : toN (upd pf N (pfP b (nI N))) (N + 1) j = toN pf N j := by
          unfold toN
          rw [e0, if_neg k, mfN_up (by omega)]
          by_cases c : pf (j + 1) = 0
          · rw [if_neg (fun q => q.elim (by omega) (fun q => q c)), if_neg (fun q => q.elim k (fun q => q c))]
          · rw [if_pos (Or.inr c), if_pos (Or.inr c)]
        rw [et, pk_un (by omega), ← ht j (by omega)]
        split
        · rfl
        · rename_i c
          have hm1 : (nI N - 1).toNatClampNeg = N - 1 := by
            have : 0 < N := by
              have : ¬ N = 0 := fun q => c (Or.inr (z0.mpr q))
              omega
            rw [show (1 : Int32) = nI 1 from rfl, pk_sub (by omega), nI_clamp (by omega)]
          rw [hm1, pk_un (by omega)]
  refine ⟨rfl, fun j hj => ⟨?_, ?_, ?_, ?_⟩, fun _ => ⟨last u px fx (fun q => (h2 q).1), last v py fy (fun q => (h2 q).2)⟩⟩
  · by_cases q : j = N
    · rw [q, pk_us, pk_us]
    · rw [pk_un q, pk_un q]; exact (h1 j (by omega)).1
  · by_cases q : j = N
    · rw [q, pk_us, pk_us]
    · rw [pk_un q, pk_un q]; exact (h1 j (by omega)).2.1
  · exact one u fx px qc (fun q => (h2 q).1) (fun j hj => (h1 j hj).2.2.1) j hj
  · exact one v fy py qd (fun q => (h2 q).2) (fun j hj => (h1 j hj).2.2.2) j hj
