/-! CIRCLE -/
def nrN (N : Nat) : Nat → Nat
  | 0 => 0
  | b + 1 => if N ≤ (b + 1) * (b + 1) - (b + 1) then nrN N b else b + 1
theorem nr_stop {N b : Nat} (h : b = 0 ∨ b * b - b < N) : nrN N b = b := by
  cases b with
  | zero => rfl
  | succ b =>
    show (if N ≤ (b + 1) * (b + 1) - (b + 1) then nrN N b else b + 1) = b + 1
    rw [if_neg (by omega)]
theorem nr_down {N b : Nat} (h : 0 < b) (h2 : N ≤ b * b - b) : nrN N (b - 1) = nrN N b := by
  cases b with
  | zero => omega
  | succ b =>
    show nrN N b = (if N ≤ (b + 1) * (b + 1) - (b + 1) then nrN N b else b + 1)
    rw [if_pos h2]
theorem nr_le {N : Nat} : ∀ b, nrN N b ≤ b
  | 0 => Nat.le_refl 0
  | b + 1 => by
    have h := nr_le (N := N) b
    show (if N ≤ (b + 1) * (b + 1) - (b + 1) then nrN N b else b + 1) ≤ b + 1
    split <;> omega
theorem sq_ti {b : Nat} (h : b ≤ 500) : (nI b * nI b - nI b).toInt = ((b * b - b : Nat) : Int) := by
  have h1 : b * b ≤ 500 * 500 := Nat.mul_le_mul h h
  have h2 : b ≤ b * b := Nat.le_mul_self b
  rw [pk_mul, pk_sub h2]
  exact nI_toInt (by omega)
def prQ (x ax y ik op : Int32) : List Req := if ax = 0 then [(x + ax, y, ik, op)] else [(x + ax, y, ik, op), (x - ax, y, ik, op)]
def miQ (x y ax bx ik op : Int32) : List Req := if bx = 0 then prQ x ax (y + bx) ik op else prQ x ax (y + bx) ik op ++ prQ x ax (y - bx) ik op
theorem layT_add {w h bx0 by0 bx1 by1 : Int32} : ∀ (l : List Req) (t : Int32), l.foldl (layT w h bx0 by0 bx1 by1) t = t + l.foldl (layT w h bx0 by0 bx1 by1) 0
  | [], t => (Int32.add_zero t).symm
  | q :: l, t => by
    show l.foldl (layT w h bx0 by0 bx1 by1) (layT w h bx0 by0 bx1 by1 t q) = t + l.foldl (layT w h bx0 by0 bx1 by1) (layT w h bx0 by0 bx1 by1 0 q)
    rw [layT_add l, layT_add l (layT w h bx0 by0 bx1 by1 0 q)]
    unfold layT
    rw [Int32.zero_add, Int32.add_assoc]
