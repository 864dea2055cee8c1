/-! what is drawn, one DOT behind another -/
abbrev Req : Type := Int32 × Int32 × Int32 × Int32
def fG {σ : Type} (f : σ → Req → σ) (rq : Nat → Option Req) (a : σ) : Nat → σ
  | 0 => a
  | i + 1 => match rq i with
    | none => fG f rq a i
    | some q => f (fG f rq a i) q
theorem fG_none {σ : Type} {f : σ → Req → σ} {rq : Nat → Option Req} {a : σ} {i : Nat} (h : rq i = none) : fG f rq a (i + 1) = fG f rq a i := by
  show (match rq i with | none => fG f rq a i | some q => f (fG f rq a i) q) = _
  rw [h]
theorem fG_some {σ : Type} {f : σ → Req → σ} {rq : Nat → Option Req} {a : σ} {i : Nat} {q : Req} (h : rq i = some q) : fG f rq a (i + 1) = f (fG f rq a i) q := by
  show (match rq i with | none => fG f rq a i | some q => f (fG f rq a i) q) = _
  rw [h]
abbrev opnC (w h bx0 by0 bx1 by1 x y : Int32) : Prop := 0 ≤ x.toInt ∧ x.toInt < w.toInt ∧ 0 ≤ y.toInt ∧ y.toInt < h.toInt ∧ bx0.toInt ≤ x.toInt ∧ x.toInt ≤ bx1.toInt ∧ by0.toInt ≤ y.toInt ∧ y.toInt ≤ by1.toInt
def layG (w h bx0 by0 bx1 by1 wy : Int32) (g : Nat → Int32) (q : Req) : Nat → Int32 := if opnC w h bx0 by0 bx1 by1 q.1 q.2.1 then upd g (ixP q.1 q.2.1) (laidP wy q.2.2.1 (g (ixP q.1 q.2.1)) q.2.2.2) else g
def layT (w h bx0 by0 bx1 by1 : Int32) (t : Int32) (q : Req) : Int32 := t + (if opnC w h bx0 by0 bx1 by1 q.1 q.2.1 then 1 else 0)
/-! LINE -/
def cmpP (x y : Int32) : Int32 := if x.toInt < y.toInt then -1 else if x.toInt = y.toInt then 0 else 1
def dN (a b : Int32) : Nat := (b.toInt - a.toInt).natAbs
def waN (n st d : Nat) : Nat := if st = 0 then 0 else (2 * n * d + st - 1) / (2 * st)
theorem two_ne {st : Nat} (h : 0 < st) (h2 : st ≤ 4000) : ¬ ((2 : Int32) * nI st = 0) := by
  rw [show (2 : Int32) = nI 2 from rfl, pk_mul]
  exact nI_ne0 (by omega) (by omega)
theorem wa_eq {n st d : Nat} (h : 0 < st) (h2 : st ≤ 4000) (hn : n ≤ 4000) (hd : d ≤ 4000) : (2 * nI n * nI d + nI st - 1) / (2 * nI st) = nI (waN n st d) := by
  have h3 : 2 * n * d ≤ 2 * 4000 * 4000 := Nat.mul_le_mul (Nat.mul_le_mul_left 2 hn) hd
  rw [show (2 : Int32) = nI 2 from rfl, show (1 : Int32) = nI 1 from rfl, pk_mul, pk_mul, pk_mul, nI_add, pk_sub (by omega), pk_div (by omega) (by omega) (by omega)]
  unfold waN
  rw [if_neg (by omega)]
theorem wa_0 {n st d : Nat} (h : st = 0) : (0 : Int32) = nI (waN n st d) := by
  unfold waN
  rw [if_pos h]
  rfl
theorem sub_ti {a b : Int32} {N : Int} (hN : N ≤ 100000000) (ha : -N ≤ a.toInt ∧ a.toInt ≤ N) (hb : -N ≤ b.toInt ∧ b.toInt ≤ N) : (b - a).toInt = b.toInt - a.toInt := by
  rw [Int32.toInt_sub]
  exact Int.bmod_eq_of_le (by omega) (by omega)
theorem abs_nI {a b : Int32} (ha : -2000 ≤ a.toInt ∧ a.toInt ≤ 2000) (hb : -2000 ≤ b.toInt ∧ b.toInt ≤ 2000) : (if 0 ≤ b - a then b - a else 0 - (b - a)) = nI (dN a b) := by
  have e := sub_ti (N := 2000) (by omega) ha hb
  unfold dN
  split
  · rename_i q
    have q2 : 0 ≤ (b - a).toInt := f_le (by decide) rfl q
    apply Int32.toInt_inj.mp
    rw [nI_toInt (by omega), e]
    omega
  · rename_i q
    have q2 : ¬ 0 ≤ (b - a).toInt := fn_le (by decide) rfl q
    apply Int32.toInt_inj.mp
    rw [nI_toInt (by omega), sub_ti (N := 5000) (by omega) (by omega) (by decide), e]
    rw [show (0 : Int32).toInt = 0 by decide]
    omega
theorem dN_le {a b : Int32} (ha : -2000 ≤ a.toInt ∧ a.toInt ≤ 2000) (hb : -2000 ≤ b.toInt ∧ b.toInt ≤ 2000) : dN a b ≤ 4000 := by
  unfold dN
  omega
theorem max_nI {p q : Nat} (hp : p ≤ 4000) (hq : q ≤ 4000) : (if nI p < nI q then nI q else nI p) = nI (max p q) := by
  by_cases c : p < q
  · rw [if_pos (nI_lt c (by omega)), Nat.max_eq_right (by omega)]
  · rw [if_neg (nI_nlt (by omega) (by omega)), Nat.max_eq_left (by omega)]
def lnX (a b : Int32) (n : Nat) : Int32 := a + cmpP b a * nI n
def dashP (ds : Int32) (i : Nat) : Int32 := ds >>> ((nI i &&& 15) &&& 31) &&& 1
def lnQ (x0 y0 x1 y1 ds ik op : Int32) (i : Nat) : Option Req := if dashP ds i = 1 then some (lnX x0 x1 (waN i (max (dN x0 x1) (dN y0 y1)) (dN x0 x1)), lnX y0 y1 (waN i (max (dN x0 x1) (dN y0 y1)) (dN y0 y1)), ik, op) else none
abbrev opnM (W H cl cx0 cx1 cy0 cy1 x y : Int32) : Prop := (0 ≤ x.toInt ∧ x.toInt < W.toInt ∧ 0 ≤ y.toInt ∧ y.toInt < H.toInt) ∧ (cl.toInt = 0 ∨ (cx0.toInt ≤ x.toInt ∧ x.toInt ≤ cx1.toInt ∧ cy0.toInt ≤ y.toInt ∧ y.toInt ≤ cy1.toInt))
abbrev M3 : Type := (Nat → Int32) × (Nat → Int32) × (Nat → Int32)
def mkF (W H cl cx0 cx1 cy0 cy1 : Int32) (a : M3) (q : Req) : M3 := (if opnM W H cl cx0 cx1 cy0 cy1 q.1 q.2.1 then upd a.1 (ixP q.1 q.2.1) 1 else a.1, if opnM W H cl cx0 cx1 cy0 cy1 q.1 q.2.1 then upd a.2.1 (ixP q.1 q.2.1) q.2.2.2 else a.2.1, if opnM W H cl cx0 cx1 cy0 cy1 q.1 q.2.1 then upd a.2.2 (ixP q.1 q.2.1) q.2.2.1 else a.2.2)
theorem dash01 (ds : Int32) (i : Nat) (h : ¬ dashP ds i = 0) : dashP ds i = 1 := by
  unfold dashP at h ⊢
  obtain ⟨j, hj, e⟩ := pk_andE (ds >>> ((nI i &&& 15) &&& 31)) (m := 1) 1 (by decide)
  rw [e] at h ⊢
  rcases (show j = 0 ∨ j = 1 by omega) with rfl | rfl
  · exact absurd rfl h
  · rfl
theorem away_nI {a b : Int32} (ha : -2000 ≤ a.toInt ∧ a.toInt ≤ 2000) (hb : -2000 ≤ b.toInt ∧ b.toInt ≤ 2000) : (a.toInt < b.toInt → b - a = nI (dN a b)) ∧ (¬ a.toInt < b.toInt → a - b = nI (dN a b)) := by
  have e := sub_ti (N := 2000) (by omega) ha hb
  have e2 := sub_ti (N := 2000) (by omega) hb ha
  unfold dN
  refine ⟨fun q => ?_, fun q => ?_⟩
  · apply Int32.toInt_inj.mp
    rw [nI_toInt (by omega), e]
    omega
  · apply Int32.toInt_inj.mp
    rw [nI_toInt (by omega), e2]
    omega
theorem wa_full {i st : Nat} (h : i ≤ st) : waN i st st = i := by
  unfold waN
  split
  · omega
  · rw [show 2 * i * st + st - 1 = (st - 1) + i * (2 * st) by rw [Nat.mul_comm 2 i, Nat.mul_assoc]; omega, Nat.add_mul_div_right _ _ (by omega), Nat.div_eq_of_lt (by omega)]
    omega
theorem wa_z {i st : Nat} : waN i st 0 = 0 := by
  unfold waN
  split
  · rfl
  · exact Nat.div_eq_of_lt (by omega)
theorem tw_eq {a b : Int32} {n : Nat} (h : dN a b = 0 → n = 0) : (if a.toInt < b.toInt then a + nI n else a - nI n) = lnX a b n := by
  unfold lnX cmpP
  by_cases q : a.toInt < b.toInt
  · rw [if_pos q, if_neg (by omega), if_neg (by omega), Int32.one_mul]
  · by_cases r : b.toInt = a.toInt
    · have hz : n = 0 := h (by unfold dN; omega)
      subst hz
      rw [if_neg q, if_neg (by omega), if_pos r, nI_0]
      simp
    · rw [if_neg q, if_pos (by omega)]
      rw [Int32.neg_mul, Int32.one_mul, ← Int32.sub_eq_add_neg]
