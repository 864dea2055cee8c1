/-! PATH -/
def fdP (x y : Int32) : Int32 := if ¬ 0 ≤ x ^^^ y ∧ ¬ x / y * y = x then x / y - 1 else x / y
def adF (b pn u f : Int32) : Int32 := if ¬ b = 0 ∨ pn = 0 then u else f
def adT (b pn u f : Int32) (t : Nat → Int32) : Nat → Int32 := upd (if ¬ b = 0 ∨ pn = 0 then t else upd t (pn - 1).toNatClampNeg u) pn.toNatClampNeg (adF b pn u f)
theorem m1_ti {x : Int32} (h : 0 < x.toInt) : (x - 1).toInt = x.toInt - 1 := by
  have h2 := Int32.toInt_lt x
  rw [Int32.toInt_sub, show (1 : Int32).toInt = 1 by decide]
  exact Int.bmod_eq_of_le (by omega) (by omega)
theorem add1_ti {x : Int32} (h : -2147483648 ≤ x.toInt) (h2 : x.toInt < 2147483647) : (x + 1).toInt = x.toInt + 1 := by
  rw [Int32.toInt_add, show (1 : Int32).toInt = 1 by decide]
  exact Int.bmod_eq_of_le (by omega) (by omega)
def tnP (a b v : Int32) : Int32 := if a.toInt ≤ v.toInt ∧ v.toInt < b.toInt then 1 else if b.toInt ≤ v.toInt ∧ v.toInt < a.toInt then -1 else 0
def frP (a b c d v : Int32) : Int32 := if d - b = 0 then a else a - fdP ((a - c) * (v - b)) (d - b)
def wnN (qa qb qc qd : Nat → Int32) (u v : Int32) : Nat → Int32
  | 0 => 0
  | i + 1 => if tnP (qb i) (qd i) v = 0 then wnN qa qb qc qd u v i else if (frP (qa i) (qb i) (qc i) (qd i) v).toInt ≤ u.toInt then wnN qa qb qc qd u v i + tnP (qb i) (qd i) v else wnN qa qb qc qd u v i
section
variable {qa qb qc qd : Nat → Int32} {u v : Int32} {i : Nat}
theorem wn_z (h : tnP (qb i) (qd i) v = 0) : wnN qa qb qc qd u v (i + 1) = wnN qa qb qc qd u v i := if_pos h
theorem wn_r (h : ¬ tnP (qb i) (qd i) v = 0) (h2 : ¬ (frP (qa i) (qb i) (qc i) (qd i) v).toInt ≤ u.toInt) : wnN qa qb qc qd u v (i + 1) = wnN qa qb qc qd u v i := (if_neg h).trans (if_neg h2)
theorem wn_a (h : ¬ tnP (qb i) (qd i) v = 0) (h2 : (frP (qa i) (qb i) (qc i) (qd i) v).toInt ≤ u.toInt) : wnN qa qb qc qd u v (i + 1) = wnN qa qb qc qd u v i + tnP (qb i) (qd i) v := (if_neg h).trans (if_pos h2)
end
theorem pn_cl {pn : Int32} {i : Nat} (h : 0 ≤ pn.toInt ∧ pn.toInt ≤ 48) (hi : pn.toInt = (i : Int)) : pn.toNatClampNeg = i := by
  obtain ⟨j, hj, rfl⟩ := i_of (x := pn) (N := 49) h.1 (by omega) (by decide)
  rw [nI_toInt (by omega)] at hi
  rw [nI_clamp (by omega)]
  omega
theorem mn_le {x y : Int32} {N : Int} (h : y.toInt = N) : (if y < x then y else x).toInt ≤ N := by
  split
  · omega
  · rename_i q
    have := fn_lt (x := y) (y := x) rfl rfl q
    omega
theorem mx_ge {x y : Int32} {N : Int} (h : x.toInt = N) : N ≤ (if x < y then y else x).toInt := by
  split
  · rename_i q
    have := f_lt (x := x) (y := y) rfl rfl q
    omega
  · omega
def arP (bx by' cx cy x y : Int32) : Int32 := if 0 ≤ (2 * bx - (2 * x + 1)) * (2 * cy - (2 * y + 1)) - (2 * by' - (2 * y + 1)) * (2 * cx - (2 * x + 1)) then (2 * bx - (2 * x + 1)) * (2 * cy - (2 * y + 1)) - (2 * by' - (2 * y + 1)) * (2 * cx - (2 * x + 1)) else 0 - ((2 * bx - (2 * x + 1)) * (2 * cy - (2 * y + 1)) - (2 * by' - (2 * y + 1)) * (2 * cx - (2 * x + 1)))
theorem ne0_of {x : Int32} (h : 0 < x.toInt) : ¬ x = 0 := fun q => by
  rw [q] at h
  exact absurd h (by decide)
theorem cpy_all {f g : Nat → Int32} {j : Nat} (h : j < 4096) : va_cpy f g (0 : Int32).toNatClampNeg (0 : Int32).toNatClampNeg (4096 : Int32).toNatClampNeg j = f j := by
  rw [show (0 : Int32).toNatClampNeg = 0 by decide, show (4096 : Int32).toNatClampNeg = 4096 by decide]
  unfold va_cpy
  rw [if_pos (by omega)]
  exact congrArg f (by omega)
theorem my_ofWF {l : Launch} {y : MethodName} {ws ws' : List Cond} {rm : Room} {Pc : Array Value → State → Prop} {Qc : Array Value → State → Outcome → State → Prop} {mc ms : Nat} {free : Addr → Prop} {cc : ByteArray} {maxL : Nat} {ret : Option FieldType}
    (hy : plainFor y = true) (hw : ws = Cond.code y cc maxL ret :: ws')
    (body : ∀ p e s m args below meth c s₁, BodyLoose p l y (headSpec ws rm) cc maxL ret e s m args below meth c s₁ → c.maxLocals = maxL → Pc args s →
      W p l e (headSpec ws rm).room s m args below meth c s.heap [] 0 0 (MQ below Qc args s mc ms free) (entryFrame m args maxL)) : Met l y ws rm Pc Qc mc ms free := by
  refine MetFree.of_bodySF (code := cc) (maxLocals := maxL) (ret := ret) hy ?_ ?_
  · intro args s m h hn
    obtain ⟨meth, c, h1, h2, h3, h4, h5, h6, -, -⟩ := Cond.code_spec hn (atoms_spec (ws := ws) h _ (by rw [hw]; exact List.mem_cons_self))
    exact ⟨meth, c, h1, h2, h3, h4, h5, h6⟩
  · intro p e s m args below meth c s₁ B hml hP _
    have hh0 : s₁.heap = s.heap := by rw [B.state]; rfl
    obtain ⟨t, a1, o, b1, b2, b3⟩ := body p e s m args below meth c s₁ B hml hP s₁ hh0 (Stand.of_body B)
    exact ⟨t, o, a1, b1, b2, ⟨b3.1, b3.2⟩⟩
