/-! the reference: places, PATH, counts -/
theorem cl_lt {k : Int32} (h0 : 0 ≤ k.toInt) (h : k.toInt ≤ 3) : k.toNatClampNeg < 4 := by
  obtain ⟨j, hj, rfl⟩ := i_of (x := k) (N := 4) h0 (by omega) (by decide)
  rw [nI_clamp (by omega)]
  exact hj
theorem sp_all {k x y : Int32} (hk : 0 ≤ k.toInt) (hk2 : k.toInt ≤ 3) (h1 : 0 ≤ x.toInt) (h2 : x.toInt < 64) (h3 : 0 ≤ y.toInt) (h4 : y.toInt < 64) : 4096 * k + 64 * y + x = nI (4096 * k.toNatClampNeg + ixP x y) ∧ k.toNatClampNeg < 4 ∧ ixP x y < 4096 := by
  obtain ⟨j, hj, rfl⟩ := i_of (x := k) (N := 4) hk (by omega) (by decide)
  obtain ⟨i, hi, -, e, e2, -⟩ := ix_all h1 h2 h3 h4
  rw [Int32.add_assoc, e, e2, nI_clamp (by omega), lp_nI]
  exact ⟨rfl, hj, hi⟩
theorem sp_in {k x y : Int32} (hk : 0 ≤ k.toInt) (hk2 : k.toInt ≤ 3) (h1 : 0 ≤ x.toInt) (h2 : x.toInt < 64) (h3 : 0 ≤ y.toInt) (h4 : y.toInt < 64) : vp_in (4096 * k + 64 * y + x) 16384 := by
  obtain ⟨e, a, b⟩ := sp_all hk hk2 h1 h2 h3 h4
  rw [e]
  exact vp_in_nI (by omega) (by omega)
theorem sp_cl {k x y : Int32} (hk : 0 ≤ k.toInt) (hk2 : k.toInt ≤ 3) (h1 : 0 ≤ x.toInt) (h2 : x.toInt < 64) (h3 : 0 ≤ y.toInt) (h4 : y.toInt < 64) : (4096 * k + 64 * y + x).toNatClampNeg = 4096 * k.toNatClampNeg + ixP x y := by
  obtain ⟨e, a, b⟩ := sp_all hk hk2 h1 h2 h3 h4
  rw [e]
  exact nI_clamp (by omega)
theorem cl_in {x : Int32} {n : Nat} (h : vp_in x n) : x.toNatClampNeg < n := Nat.lt_of_not_le (fun q => h (Or.inr q))
theorem kp_in {k t : Int32} (hk : 0 ≤ k.toInt ∧ k.toInt ≤ 3) (ht : vp_in t 4096) : vp_in (4096 * k + t) 16384 := by
  obtain ⟨j, hj, rfl⟩ := i_of (x := k) (N := 4) hk.1 (by omega) (by decide)
  obtain ⟨i, hi, rfl⟩ := vp_in_of ht (by decide)
  exact lp_in hj hi
def zrK (g : Nat → Int32) (kk i : Nat) : Nat → Int32 := fun j => if 4096 * kk ≤ j ∧ j < 4096 * kk + i then 0 else g j
theorem zk_0 (g : Nat → Int32) (kk : Nat) : g = zrK g kk 0 := by
  funext j
  unfold zrK
  rw [if_neg (by omega)]
theorem zk_up {g : Nat → Int32} {kk i : Nat} (h : i < 4096) : upd (zrK g kk i) (4096 * kk + i) 0 = zrK g kk (i + 1) := by
  funext j
  by_cases q : j = 4096 * kk + i
  · rw [q, pk_us]
    unfold zrK
    rw [if_pos (by omega)]
  · rw [pk_un q]
    unfold zrK
    by_cases c : 4096 * kk ≤ j ∧ j < 4096 * kk + i
    · rw [if_pos c, if_pos (by omega)]
    · rw [if_neg c, if_neg (by omega)]
def pfP (b pn : Int32) : Int32 := vp_nar .boolean (if ¬ b = 0 ∨ pn = 0 then 1 else 0)
def egI (a b c d u v : Int) : Int32 := if b ≤ v ∧ v < d then (if (v - b) * (c - a) ≤ (u - a) * (d - b) then 1 else 0) else if d ≤ v ∧ v < b then (if (u - a) * (d - b) ≤ (v - b) * (c - a) then -1 else 0) else 0
theorem lsub_ti {x y : Int64} (h1 : -9223372036854775808 ≤ x.toInt - y.toInt) (h2 : x.toInt - y.toInt < 9223372036854775808) : (x - y).toInt = x.toInt - y.toInt := by
  rw [Int64.toInt_sub]
  exact Int.bmod_eq_of_le (by omega) (by omega)
theorem lmul_ti {x y : Int64} (h1 : -8589934592 ≤ x.toInt) (h2 : x.toInt ≤ 8589934592) (h3 : -65536 ≤ y.toInt) (h4 : y.toInt ≤ 65536) : (x * y).toInt = x.toInt * y.toInt := by
  have h5 : (x.toInt * y.toInt).natAbs ≤ 8589934592 * 65536 := by
    rw [Int.natAbs_mul]
    exact Nat.mul_le_mul (by omega) (by omega)
  rw [Int64.toInt_mul]
  exact Int.bmod_eq_of_le (by omega) (by omega)
/-- the first POINT of the CONTOUR, behind i POINTS -/
def mfN (pf : Nat → Int32) : Nat → Nat
  | 0 => 0
  | i + 1 => if pf i = 0 then mfN pf i else i
theorem mfN_le (pf : Nat → Int32) : ∀ i, mfN pf i ≤ i
  | 0 => Nat.le_refl 0
  | i + 1 => by
    have h := mfN_le pf i
    show (if pf i = 0 then mfN pf i else i) ≤ i + 1
    split <;> omega
def toN (pf : Nat → Int32) (pn i : Nat) : Nat := if i + 1 = pn ∨ ¬ pf (i + 1) = 0 then mfN pf (i + 1) else i + 1
def wdN (px py pf : Nat → Int32) (pn : Nat) (u v : Int) : Nat → Int32
  | 0 => 0
  | i + 1 => wdN px py pf pn u v i + egI (px i).toInt (py i).toInt (px (toN pf pn i)).toInt (py (toN pf pn i)).toInt u v
theorem pn_ti {pn : Int32} (h : 0 ≤ pn.toInt ∧ pn.toInt ≤ 48) : pn.toInt = (pn.toNatClampNeg : Int) := by
  obtain ⟨j, hj, rfl⟩ := i_of (x := pn) (N := 49) h.1 (by omega) (by decide)
  rw [nI_toInt (by omega), nI_clamp (by omega)]
theorem i32b (x : Int32) : -2147483648 ≤ x.toInt ∧ x.toInt ≤ 2147483648 := by
  have h1 := Int32.le_toInt x
  have h2 := Int32.toInt_lt x
  omega
theorem cnt_same {g g2 : Nat → Int32} : ∀ {n : Nat}, (∀ j, j < n → g j = g2 j) → cntP g n = cntP g2 n
  | 0, _ => rfl
  | n + 1, h => by
    show cntP g n + (if g n = 0 then 0 else 1) = cntP g2 n + (if g2 n = 0 then 0 else 1)
    rw [cnt_same (fun j hj => h j (by omega)), h n (by omega)]
theorem cnt_new {g : Nat → Int32} {i : Nat} : ∀ {n : Nat}, i < n → g i = 0 → cntP (upd g i (vp_nar .boolean 1)) n = cntP g n + 1
  | 0, h, _ => absurd h (by omega)
  | n + 1, h, h0 => by
    show cntP (upd g i (vp_nar .boolean 1)) n + (if upd g i (vp_nar .boolean 1) n = 0 then 0 else 1) = cntP g n + (if g n = 0 then 0 else 1) + 1
    by_cases q : i = n
    · subst q
      rw [pk_us, h0, cnt_same (g := upd g i (vp_nar .boolean 1)) (g2 := g) (fun j hj => pk_un (by omega)), if_neg (by decide), if_pos rfl]
    · rw [cnt_new (by omega) h0, pk_un (fun c => q c.symm)]
      omega
theorem zr_at {g : Nat → Int32} {i n : Nat} (h : i < n) : zrN g n i = 0 := if_pos h
theorem cnt_zr {g : Nat → Int32} : cntP (zrN g 4096) 4096 = 0 := by
  have h : ∀ n : Nat, n ≤ 4096 → cntP (zrN g 4096) n = 0 := by
    intro n
    induction n with
    | zero => intro _; rfl
    | succ n ih =>
      intro hn
      show cntP (zrN g 4096) n + (if zrN g 4096 n = 0 then 0 else 1) = 0
      rw [ih (by omega), zr_at (by omega), if_pos rfl]
  exact h 4096 (Nat.le_refl _)
