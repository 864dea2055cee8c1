/-- b at the a-th step of a CIRCLE, ahead of it -/
def ciB (r : Nat) : Nat → Nat
  | 0 => r
  | i + 1 => nrN (r * r - i * i) (ciB r i)
theorem ciB_le (r : Nat) : ∀ i, ciB r i ≤ r
  | 0 => Nat.le_refl r
  | i + 1 => Nat.le_trans (nr_le _) (ciB_le r i)
/-- where a CIRCLE's steps end -/
def ciM (r : Nat) : Nat → Nat → Nat
  | 0, i => i
  | n + 1, i => if r < i ∨ ciB r (i + 1) < i then i else ciM r n (i + 1)
theorem ciM_stop {r k i : Nat} (hk : 0 < k) (h : r < i ∨ ciB r (i + 1) < i) : ciM r k i = i := by
  cases k with
  | zero => omega
  | succ k =>
    show (if r < i ∨ ciB r (i + 1) < i then i else ciM r k (i + 1)) = i
    rw [if_pos h]
theorem ciM_go {r k i : Nat} (hk : 0 < k) (h : ¬ (r < i ∨ ciB r (i + 1) < i)) : ciM r (k - 1) (i + 1) = ciM r k i := by
  cases k with
  | zero => omega
  | succ k =>
    show ciM r k (i + 1) = (if r < i ∨ ciB r (i + 1) < i then i else ciM r k (i + 1))
    rw [if_neg h]
/-- what the class draws of a CIRCLE in its first steps -/
def ciL (x y ik op : Int32) (r : Nat) : Nat → List Req
  | 0 => []
  | i + 1 => ciL x y ik op r i ++ (miQ x y (nI i) (nI (ciB r (i + 1))) ik op ++ (if i = ciB r (i + 1) then [] else miQ x y (nI (ciB r (i + 1))) (nI i) ik op))
theorem rs_nI {r i : Nat} (h : i ≤ r) (hr : r ≤ 500) : nI r * nI r - nI i * nI i = nI (r * r - i * i) ∧ (nI r * nI r - nI i * nI i).toInt = ((r * r - i * i : Nat) : Int) := by
  have h1 : i * i ≤ r * r := Nat.mul_le_mul h h
  have h2 : r * r ≤ 500 * 500 := Nat.mul_le_mul hr hr
  rw [pk_mul, pk_mul, pk_sub h1]
  exact ⟨rfl, nI_toInt (by omega)⟩
theorem ciM_next {r i M : Nat} (he : ciM r (502 - i) i = M) (hk : i < 502) (h : ¬ (r < i ∨ ciB r (i + 1) < i)) : ciM r (502 - (i + 1)) (i + 1) = M := by
  rw [show 502 - (i + 1) = 502 - i - 1 by omega, ciM_go (by omega) h]
  exact he
