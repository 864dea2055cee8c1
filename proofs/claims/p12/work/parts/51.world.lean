/-! the class's world: what always stands, SHEETS that are there or not, what floods and likenesses need -/
abbrev Sh : Type := Nat × Nat × Int32 × Int32 × (Nat → Int32)
abbrev Sp : Type := Nat × Nat × Nat × Int32 × (Nat → Int32) × (Nat → Int32)
def cFix (cI cO : ClassId) (ad : Nat → Nat) (n : Nat → Int32) (g : Nat → Nat → Int32) (f : Nat → Option Nat) (sp bt : Option Nat) : va_W :=
  [(ad 0, .inr (8, [.ref (ad 1), .ref (ad 2), .ref (ad 3), .ref (ad 4), .ref (ad 5), .ref (ad 6), .int (n 0), va_rf sp, va_rf bt])),
   (ad 1, .inl (cO, 4, .inr (.inr (.inr (.inr f))))),
   (ad 2, .inr (1, [.ref (ad 7), .int (n 1), .int (n 2), .int (n 3)])),
   (ad 7, .inr (0, [.int (n 4), .int (n 5), .int (n 6), .int (n 7)])),
   (ad 3, .inr (0, [.int (n 8), .int (n 9), .int (n 10), .int (n 11)])),
   (ad 4, .inr (3, [.ref (ad 8), .ref (ad 9), .ref (ad 10), .ref (ad 11), .int (n 12), .int (n 13), .int (n 14)])),
   (ad 8, .inl (cI, 48, .inl (g 0))),
   (ad 9, .inl (cI, 48, .inl (g 1))),
   (ad 10, .inl (cI, 48, .inl (g 2))),
   (ad 11, .inl (cI, 48, .inl (g 3))),
   (ad 5, .inr (7, [.ref (ad 12), .ref (ad 13), .ref (ad 14), .ref (ad 15)])),
   (ad 12, .inl (cI, 3, .inl (g 4))),
   (ad 13, .inl (cI, 3, .inl (g 5))),
   (ad 14, .inl (cI, 3, .inl (g 6))),
   (ad 15, .inr (3, [.ref (ad 16), .ref (ad 17), .ref (ad 18), .ref (ad 19), .int (n 15), .int (n 16), .int (n 17)])),
   (ad 16, .inl (cI, 48, .inl (g 7))),
   (ad 17, .inl (cI, 48, .inl (g 8))),
   (ad 18, .inl (cI, 48, .inl (g 9))),
   (ad 19, .inl (cI, 48, .inl (g 10))),
   (ad 6, .inr (4, [.ref (ad 20), .ref (ad 21)])),
   (ad 20, .inl (cI, 256, .inl (g 11))),
   (ad 21, .inl (cI, 64, .inl (g 12)))]
def shC (cI : ClassId) : Option Sh → va_W
  | none => []
  | some s => [(s.1, .inr (5, [.ref s.2.1, .int s.2.2.1, .int s.2.2.2.1])), (s.2.1, .inl (cI, 4096, .inl s.2.2.2.2))]
def spC (cI : ClassId) : Option Sp → va_W
  | none => []
  | some s => [(s.1, .inr (6, [.ref s.2.1, .ref s.2.2.1, .int s.2.2.2.1])), (s.2.1, .inl (cI, 4096, .inl s.2.2.2.2.1)), (s.2.2.1, .inl (cI, 4096, .inl s.2.2.2.2.2))]
def cTail (cI : ClassId) (sh : Nat → Option Sh) (sv : Option Sp) (bv : Option Sh) : va_W := shC cI (sh 0) ++ (shC cI (sh 1) ++ (shC cI (sh 2) ++ (shC cI (sh 3) ++ (spC cI sv ++ shC cI bv))))
def cWld (cI cO : ClassId) (ad : Nat → Nat) (n : Nat → Int32) (g : Nat → Nat → Int32) (f : Nat → Option Nat) (sh : Nat → Option Sh) (sv : Option Sp) (bv : Option Sh) : va_W := cFix cI cO ad n g f (sv.map (fun s => s.1)) (bv.map (fun s => s.1)) ++ cTail cI sh sv bv
theorem mvP {s x y z : va_W} (h : y.Perm (s ++ z)) : (x ++ y).Perm (s ++ (x ++ z)) := by
  refine (h.append_left x).trans ?_
  rw [← List.append_assoc, ← List.append_assoc]
  exact List.perm_append_comm.append_right z
section
variable {cI : ClassId} {sh : Nat → Option Sh} {sv : Option Sp} {bv : Option Sh} {k : Nat} {s s' : Sh}
theorem T_sh0 (hk : k < 4) : (cTail cI sh sv bv).Perm (shC cI (sh k) ++ cTail cI (va_up sh k none) sv bv) := by
  rcases (show k = 0 ∨ k = 1 ∨ k = 2 ∨ k = 3 by omega) with rfl | rfl | rfl | rfl
  · exact List.Perm.refl _
  · exact mvP (List.Perm.refl _)
  · exact mvP (mvP (List.Perm.refl _))
  · exact mvP (mvP (mvP (List.Perm.refl _)))
theorem T_sh (hk : k < 4) (hs : sh k = some s) : (cTail cI sh sv bv).Perm (shC cI (some s) ++ cTail cI (va_up sh k none) sv bv) := by
  rw [← hs]
  exact T_sh0 hk
theorem up_up {α : Type} (f : Nat → α) (k : Nat) (a b : α) : va_up (va_up f k a) k b = va_up f k b := by
  funext j
  by_cases q : j = k
  · rw [q, va_up_self, va_up_self]
  · rw [va_up_ne _ _ q, va_up_ne _ _ q, va_up_ne _ _ q]
theorem up_id {α : Type} {f : Nat → α} {k : Nat} {a : α} (h : f k = a) : va_up f k a = f := by
  funext j
  by_cases q : j = k
  · rw [q, va_up_self, h]
  · rw [va_up_ne _ _ q]
theorem T_new (hk : k < 4) : (shC cI (some s') ++ cTail cI (va_up sh k none) sv bv).Perm (cTail cI (va_up sh k (some s')) sv bv) := by
  have h := T_sh (cI := cI) (sh := va_up sh k (some s')) (sv := sv) (bv := bv) (k := k) (s := s') hk (va_up_self _ _ _)
  rw [up_up] at h
  exact h.symm
theorem T_mk (hk : k < 4) (hs : sh k = none) : (shC cI (some s') ++ cTail cI sh sv bv).Perm (cTail cI (va_up sh k (some s')) sv bv) := by
  have h := T_new (cI := cI) (sh := sh) (sv := sv) (bv := bv) (k := k) (s' := s') hk
  rw [up_id hs] at h
  exact h
theorem T_sp : (cTail cI sh sv bv).Perm (spC cI sv ++ cTail cI sh none bv) := mvP (mvP (mvP (mvP (List.Perm.refl _))))
theorem T_bt : (cTail cI sh sv bv).Perm (shC cI bv ++ cTail cI sh sv none) := mvP (mvP (mvP (mvP (by
  show (spC cI sv ++ shC cI bv).Perm (shC cI bv ++ (spC cI sv ++ []))
  rw [List.append_nil]
  exact List.perm_append_comm))))
end
def okC (n : Nat → Int32) (f : Nat → Option Nat) (sh : Nat → Option Sh) : Prop := (0 ≤ (n 2).toInt ∧ (n 2).toInt ≤ 12) ∧ (0 ≤ (n 12).toInt ∧ (n 12).toInt ≤ 48) ∧ (∀ k, k < 4 → f k = (sh k).map (fun s => s.1)) ∧ (∀ k s, k < 4 → sh k = some s → s.2.2.1.toInt ≤ 64 ∧ s.2.2.2.1.toInt ≤ 64)
theorem ok_sh {n : Nat → Int32} {f : Nat → Option Nat} {sh : Nat → Option Sh} {k : Nat} {s s' : Sh} (h : okC n f sh) (hs : sh k = some s) (h1 : s'.1 = s.1) (h2 : s'.2.2.1.toInt ≤ 64) (h3 : s'.2.2.2.1.toInt ≤ 64) : okC n f (va_up sh k (some s')) := by
  refine ⟨h.1, h.2.1, fun j hj => ?_, fun j t hj ht => ?_⟩
  · by_cases q : j = k
    · rw [q, va_up_self, ← q, h.2.2.1 j hj, q, hs]
      show some s.1 = some s'.1
      rw [h1]
    · rw [va_up_ne _ _ q]
      exact h.2.2.1 j hj
  · by_cases q : j = k
    · rw [q, va_up_self] at ht
      cases ht
      exact ⟨h2, h3⟩
    · rw [va_up_ne _ _ q] at ht
      exact h.2.2.2 j t hj ht
theorem ok_mk {n : Nat → Int32} {f : Nat → Option Nat} {sh : Nat → Option Sh} {k : Nat} {s' : Sh} (h : okC n f sh) (h2 : s'.2.2.1.toInt ≤ 64) (h3 : s'.2.2.2.1.toInt ≤ 64) : okC n (va_up f k (some s'.1)) (va_up sh k (some s')) := by
  refine ⟨h.1, h.2.1, fun j hj => ?_, fun j t hj ht => ?_⟩
  · by_cases q : j = k
    · rw [q, va_up_self, va_up_self]
      rfl
    · rw [va_up_ne _ _ q, va_up_ne _ _ q]
      exact h.2.2.1 j hj
  · by_cases q : j = k
    · rw [q, va_up_self] at ht
      cases ht
      exact ⟨h2, h3⟩
    · rw [va_up_ne _ _ q] at ht
      exact h.2.2.2 j t hj ht
theorem ok_f {n : Nat → Int32} {f : Nat → Option Nat} {sh : Nat → Option Sh} {k : Nat} {s : Sh} (h : okC n f sh) (hk : k < 4) (hs : sh k = some s) : f k = some s.1 := by
  rw [h.2.2.1 k hk, hs]
  rfl
theorem ok_n {n : Nat → Int32} {f : Nat → Option Nat} {sh : Nat → Option Sh} {k : Nat} (h : okC n f sh) (hk : k < 4) (hs : sh k = none) : f k = none := by
  rw [h.2.2.1 k hk, hs]
  rfl
def RlC (cI cO : ClassId) (ad : Nat → Nat) (rel : (Nat → Int32) → (Nat → Nat → Int32) → (Nat → Option Sh) → Prop) : va_W → Prop := fun w' => ∃ (n' : Nat → Int32) (g' : Nat → Nat → Int32) (f' : Nat → Option Nat) (sh' : Nat → Option Sh) (sv' : Option Sp) (bv' : Option Sh), okC n' f' sh' ∧ rel n' g' sh' ∧ w' = cWld cI cO ad n' g' f' sh' sv' bv'
/-- the PATH is as it was -/
def PS (n : Nat → Int32) (g : Nat → Nat → Int32) (n' : Nat → Int32) (g' : Nat → Nat → Int32) (_ : Nat → Option Sh) : Prop := n' 12 = n 12 ∧ n' 13 = n 13 ∧ n' 14 = n 14 ∧ g' 0 = g 0 ∧ g' 1 = g 1 ∧ g' 2 = g 2 ∧ g' 3 = g 3
/-- a POINT more -/
def PT (n : Nat → Int32) (g : Nat → Nat → Int32) (x y b : Int32) (n' : Nat → Int32) (g' : Nat → Nat → Int32) (_ : Nat → Option Sh) : Prop := n' 12 = n 12 + 1 ∧ n' 13 = adF b (n 12) (2 * x) (n 13) ∧ n' 14 = adF b (n 12) (2 * y) (n 14) ∧ g' 0 = upd (g 0) (n 12).toNatClampNeg (2 * x) ∧ g' 1 = upd (g 1) (n 12).toNatClampNeg (2 * y) ∧ g' 2 = adT b (n 12) (2 * x) (n 13) (g 2) ∧ g' 3 = adT b (n 12) (2 * y) (n 14) (g 3)
/-! the reference's world -/
def mWld (cI cZ : ClassId) (am : Nat → Nat) (nm : Nat → Int32) (gm : Nat → Nat → Int32) : va_W :=
  [(am 0, .inr (9, [.ref (am 1), .ref (am 2), .ref (am 3), .int (nm 0), .int (nm 1), .int (nm 2), .int (nm 3), .int (nm 4), .int (nm 5), .int (nm 6), .int (nm 7), .int (nm 8), .ref (am 4), .ref (am 5), .ref (am 6), .ref (am 7), .ref (am 8), .ref (am 9), .int (nm 9), .ref (am 10), .ref (am 11), .ref (am 12), .ref (am 13)])),
   (am 1, .inl (cI, 4, .inl (gm 1))),
   (am 2, .inl (cI, 4, .inl (gm 2))),
   (am 3, .inl (cI, 16384, .inl (gm 3))),
   (am 4, .inl (cZ, 4096, .inl (gm 4))),
   (am 5, .inl (cI, 4096, .inl (gm 5))),
   (am 6, .inl (cI, 4096, .inl (gm 6))),
   (am 7, .inl (cI, 48, .inl (gm 7))),
   (am 8, .inl (cI, 48, .inl (gm 8))),
   (am 9, .inl (cZ, 48, .inl (gm 9))),
   (am 10, .inl (cI, 3, .inl (gm 10))),
   (am 11, .inl (cI, 3, .inl (gm 11))),
   (am 12, .inl (cI, 3, .inl (gm 12))),
   (am 13, .inl (cI, 4096, .inl (gm 13)))]
def okM (nm : Nat → Int32) (gm : Nat → Nat → Int32) : Prop := (0 ≤ (nm 1).toInt ∧ (nm 1).toInt ≤ 12) ∧ (0 ≤ (nm 9).toInt ∧ (nm 9).toInt ≤ 48) ∧ (∀ j : Nat, j < 4 → (gm 1 j).toInt ≤ 64 ∧ (gm 2 j).toInt ≤ 64) ∧ (∀ j : Nat, j < 48 → (-8192 ≤ (gm 7 j).toInt ∧ (gm 7 j).toInt ≤ 8192) ∧ (-8192 ≤ (gm 8 j).toInt ∧ (gm 8 j).toInt ≤ 8192))
def RlM (cI cZ : ClassId) (am : Nat → Nat) (rel : (Nat → Int32) → (Nat → Nat → Int32) → Prop) : va_W → Prop := fun w' => ∃ (nm' : Nat → Int32) (gm' : Nat → Nat → Int32), okM nm' gm' ∧ rel nm' gm' ∧ w' = mWld cI cZ am nm' gm'
def MS (nm : Nat → Int32) (gm : Nat → Nat → Int32) (nm' : Nat → Int32) (gm' : Nat → Nat → Int32) : Prop := nm' 9 = nm 9 ∧ gm' 7 = gm 7 ∧ gm' 8 = gm 8 ∧ gm' 9 = gm 9
def MT (nm : Nat → Int32) (gm : Nat → Nat → Int32) (x y b : Int32) (nm' : Nat → Int32) (gm' : Nat → Nat → Int32) : Prop := nm' 9 = nm 9 + 1 ∧ gm' 7 = upd (gm 7) (nm 9).toNatClampNeg (2 * x) ∧ gm' 8 = upd (gm 8) (nm 9).toNatClampNeg (2 * y) ∧ gm' 9 = upd (gm 9) (nm 9).toNatClampNeg (pfP b (nm 9))
theorem up_le {g : Nat → Int32} {k : Nat} {v : Int32} {P : Int32 → Prop} {N : Nat} (h : ∀ j : Nat, j < N → P (g j)) (hv : P v) : ∀ j : Nat, j < N → P (upd g k v j) := fun j hj => by
  by_cases q : j = k
  · rw [q, pk_us]; exact hv
  · rw [pk_un q]; exact h j hj
theorem two_ti {x : Int32} (h : -4096 ≤ x.toInt ∧ x.toInt ≤ 4096) : (2 * x).toInt = 2 * x.toInt := by
  rw [Int32.toInt_mul, show (2 : Int32).toInt = 2 by decide]
  exact Int.bmod_eq_of_le (by omega) (by omega)
theorem okM_sheet {nm : Nat → Int32} {gm : Nat → Nat → Int32} {k : Nat} {w h : Int32} {gd : Nat → Int32} (ho : okM nm gm) (hw : w.toInt ≤ 64) (hh : h.toInt ≤ 64) : okM nm (va_up (va_up (va_up gm 1 (upd (gm 1) k w)) 2 (upd (gm 2) k h)) 3 gd) := by
  refine ⟨ho.1, ho.2.1, fun j hj => ⟨?_, ?_⟩, ho.2.2.2⟩
  · exact up_le (g := gm 1) (P := fun v => v.toInt ≤ 64) (N := 4) (fun j hj => (ho.2.2.1 j hj).1) hw j hj
  · exact up_le (g := gm 2) (P := fun v => v.toInt ≤ 64) (N := 4) (fun j hj => (ho.2.2.1 j hj).2) hh j hj
theorem okM_point {nm : Nat → Int32} {gm : Nat → Nat → Int32} {k : Nat} {x y : Int32} {pf : Nat → Int32} {v : Int32} (ho : okM nm gm) (hv : 0 ≤ v.toInt ∧ v.toInt ≤ 48) (hx : -4096 ≤ x.toInt ∧ x.toInt ≤ 4096) (hy : -4096 ≤ y.toInt ∧ y.toInt ≤ 4096) : okM (va_up nm 9 v) (va_up (va_up (va_up gm 7 (upd (gm 7) k (2 * x))) 8 (upd (gm 8) k (2 * y))) 9 pf) := by
  have hx2 := two_ti hx
  have hy2 := two_ti hy
  refine ⟨ho.1, hv, ho.2.2.1, fun j hj => ⟨?_, ?_⟩⟩
  · exact up_le (g := gm 7) (P := fun v => -8192 ≤ v.toInt ∧ v.toInt ≤ 8192) (N := 48) (fun j hj => (ho.2.2.2 j hj).1) (by omega) j hj
  · exact up_le (g := gm 8) (P := fun v => -8192 ≤ v.toInt ∧ v.toInt ≤ 8192) (N := 48) (fun j hj => (ho.2.2.2 j hj).2) (by omega) j hj
theorem way_ok {P : Prop} [Decidable P] {a b : Int32} (h : P → 0 ≤ a.toInt ∧ a.toInt ≤ 12) (hb : 0 ≤ b.toInt ∧ b.toInt ≤ 12) : 0 ≤ (if P then a else b).toInt ∧ (if P then a else b).toInt ≤ 12 := by
  split
  · rename_i q; exact h q
  · exact hb
theorem cl_ne {k q : Int32} (hk : 0 ≤ k.toInt ∧ k.toInt ≤ 3) (hq : 0 ≤ q.toInt ∧ q.toInt ≤ 3) (h : ¬ k.toInt = q.toInt) : ¬ k.toNatClampNeg = q.toNatClampNeg := by
  obtain ⟨a, ha, rfl⟩ := i_of (x := k) (N := 4) hk.1 (by omega) (by decide)
  obtain ⟨b, hb, rfl⟩ := i_of (x := q) (N := 4) hq.1 (by omega) (by decide)
  rw [nI_toInt (by omega), nI_toInt (by omega)] at h
  rw [nI_clamp (by omega), nI_clamp (by omega)]
  omega
