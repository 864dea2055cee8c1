def mcQ (x y ax bx ik op : Int32) : List Req := [(x + 1 * ax, y + 1 * bx, ik, op), (x + 1 * bx, y + 1 * ax, ik, op), (x + 1 * ax, y + (-1) * bx, ik, op), (x + 1 * bx, y + (-1) * ax, ik, op), (x + (-1) * ax, y + 1 * bx, ik, op), (x + (-1) * bx, y + 1 * ax, ik, op), (x + (-1) * ax, y + (-1) * bx, ik, op), (x + (-1) * bx, y + (-1) * ax, ik, op)]
def mcM (r : Nat) : Nat → Nat → Nat
  | 0, i => i
  | n + 1, i => if r < i ∨ rtF (r * r - i * i) 501 0 < i then i else mcM r n (i + 1)
theorem mcM_stop {r k i : Nat} (hk : 0 < k) (h : r < i ∨ rtF (r * r - i * i) 501 0 < i) : mcM r k i = i := by
  cases k with
  | zero => omega
  | succ k =>
    show (if r < i ∨ rtF (r * r - i * i) 501 0 < i then i else mcM r k (i + 1)) = i
    rw [if_pos h]
theorem mcM_next {r i M : Nat} (he : mcM r (502 - i) i = M) (hk : i < 502) (h : ¬ (r < i ∨ rtF (r * r - i * i) 501 0 < i)) : mcM r (502 - (i + 1)) (i + 1) = M := by
  rw [← he, show 502 - i = (502 - (i + 1)) + 1 by omega]
  show _ = (if r < i ∨ rtF (r * r - i * i) 501 0 < i then i else mcM r (502 - (i + 1)) (i + 1))
  rw [if_neg h]
def mcL (x y ik op : Int32) (r : Nat) : Nat → List Req
  | 0 => []
  | i + 1 => mcL x y ik op r i ++ mcQ x y (nI i) (nI (rtF (r * r - i * i) 501 0)) ik op
theorem sqm_ti {b : Nat} (h : b ≤ 501) : (nI b * nI b).toInt = ((b * b : Nat) : Int) := by
  have h1 : b * b ≤ 501 * 501 := Nat.mul_le_mul h h
  rw [pk_mul]
  exact nI_toInt (by omega)
theorem sq_le {a b : Nat} (h : a * a ≤ b * b) : a ≤ b := Nat.mul_self_le_mul_self_iff.mp h
theorem sq_lt {a b : Nat} (h : ¬ a * a ≤ b * b) : b < a := Nat.lt_of_not_le (fun q => h (Nat.mul_self_le_mul_self_iff.mpr q))
