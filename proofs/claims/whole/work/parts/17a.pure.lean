/-- the reference's root: the least b that is near enough -/
def rtF (N : Nat) : Nat → Nat → Nat
  | 0, b => b
  | k + 1, b => if (2 * b + 1) * (2 * b + 1) < 4 * N then rtF N k (b + 1) else b
theorem rt_stop {N k b : Nat} (hk : 0 < k) (h : ¬ (2 * b + 1) * (2 * b + 1) < 4 * N) : rtF N k b = b := by
  cases k with
  | zero => omega
  | succ k =>
    show (if (2 * b + 1) * (2 * b + 1) < 4 * N then rtF N k (b + 1) else b) = b
    rw [if_neg h]
theorem rt_next {N b M : Nat} (he : rtF N (501 - b) b = M) (hb : b < 501) (h : (2 * b + 1) * (2 * b + 1) < 4 * N) : rtF N (501 - (b + 1)) (b + 1) = M := by
  rw [← he, show 501 - b = (501 - (b + 1)) + 1 by omega]
  show _ = (if (2 * b + 1) * (2 * b + 1) < 4 * N then rtF N (501 - (b + 1)) (b + 1) else b)
  rw [if_pos h]
theorem rt_lt {N b : Nat} (hN : N ≤ 250000) (h : (2 * b + 1) * (2 * b + 1) < 4 * N) : b < 500 := by
  apply Decidable.byContradiction
  intro q
  have h1 : 1001 * 1001 ≤ (2 * b + 1) * (2 * b + 1) := Nat.mul_le_mul (by omega) (by omega)
  omega
theorem odd_ti {b : Nat} (h : b ≤ 500) : ((2 * nI b + 1) * (2 * nI b + 1)).toInt = (((2 * b + 1) * (2 * b + 1) : Nat) : Int) := by
  have h1 : (2 * b + 1) * (2 * b + 1) ≤ 1001 * 1001 := Nat.mul_le_mul (by omega) (by omega)
  rw [show (2 : Int32) = nI 2 from rfl, show (1 : Int32) = nI 1 from rfl, pk_mul, nI_add, pk_mul]
  exact nI_toInt (by omega)
theorem four_ti {N : Nat} (h : N ≤ 250000) : ((4 : Int32) * nI N).toInt = ((4 * N : Nat) : Int) := by
  rw [show (4 : Int32) = nI 4 from rfl, pk_mul]
  exact nI_toInt (by omega)
