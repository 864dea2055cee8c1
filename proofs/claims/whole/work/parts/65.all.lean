/-! the class's world: what always stands, SHEETS that are there or not, what floods and likenesses need -/
abbrev Sh : Type := Nat × Nat × Int32 × Int32 × (Nat → Int32)
abbrev Sp : Type := Nat × Nat × Nat × Int32 × (Nat → Int32) × (Nat → Int32)
def cFix (cI cO : ClassId) (ad : Nat → Nat) (n : Nat → Int32) (g : Nat → Nat → Int32) (f : Nat → Option Nat) (sp bt : Option Nat) : va_W :=
  [(ad 0, .inr (8, [.ref (ad 1), .ref (ad 2), .ref (ad 3), .ref (ad 4), .ref (ad 5), .ref (ad 6), .int (n 0), va_rf sp, va_rf bt])),
   (ad 1, .inl (cO, 4, .inr (.inr (.inr (.inr f))))),
   (ad 2, .inr (1, [.ref (ad 7), .int (n 1), .int (n 2), .int (n 3)])),
   (ad 7, .inr (0, [.int (n 4), .int (n 5), .int (n 6), .int (n 7)])),
   (ad 3, .inr (0, [.int (n 8), .int (n 9), .int (n 10), .int (n 11)])),
   (ad 4, .inr (3, [.ref (ad 8), .ref (ad 9), .ref (ad 10), .ref (ad 11), .int (n 12), .int (n 13), .int (n 14)])),
   (ad 8, .inl (cI, 48, .inl (g 0))),
   (ad 9, .inl (cI, 48, .inl (g 1))),
   (ad 10, .inl (cI, 48, .inl (g 2))),
   (ad 11, .inl (cI, 48, .inl (g 3))),
   (ad 5, .inr (7, [.ref (ad 12), .ref (ad 13), .ref (ad 14), .ref (ad 15)])),
   (ad 12, .inl (cI, 3, .inl (g 4))),
   (ad 13, .inl (cI, 3, .inl (g 5))),
   (ad 14, .inl (cI, 3, .inl (g 6))),
   (ad 15, .inr (3, [.ref (ad 16), .ref (ad 17), .ref (ad 18), .ref (ad 19), .int (n 15), .int (n 16), .int (n 17)])),
   (ad 16, .inl (cI, 48, .inl (g 7))),
   (ad 17, .inl (cI, 48, .inl (g 8))),
   (ad 18, .inl (cI, 48, .inl (g 9))),
   (ad 19, .inl (cI, 48, .inl (g 10))),
   (ad 6, .inr (4, [.ref (ad 20), .ref (ad 21)])),
   (ad 20, .inl (cI, 256, .inl (g 11))),
   (ad 21, .inl (cI, 64, .inl (g 12)))]
def shC (cI : ClassId) : Option Sh → va_W
  | none => []
  | some s => [(s.1, .inr (5, [.ref s.2.1, .int s.2.2.1, .int s.2.2.2.1])), (s.2.1, .inl (cI, 4096, .inl s.2.2.2.2))]
def spC (cI : ClassId) : Option Sp → va_W
  | none => []
  | some s => [(s.1, .inr (6, [.ref s.2.1, .ref s.2.2.1, .int s.2.2.2.1])), (s.2.1, .inl (cI, 4096, .inl s.2.2.2.2.1)), (s.2.2.1, .inl (cI, 4096, .inl s.2.2.2.2.2))]
def cTail (cI : ClassId) (sh : Nat → Option Sh) (sv : Option Sp) (bv : Option Sh) : va_W := shC cI (sh 0) ++ (shC cI (sh 1) ++ (shC cI (sh 2) ++ (shC cI (sh 3) ++ (spC cI sv ++ shC cI bv))))
def cWld (cI cO : ClassId) (ad : Nat → Nat) (n : Nat → Int32) (g : Nat → Nat → Int32) (f : Nat → Option Nat) (sh : Nat → Option Sh) (sv : Option Sp) (bv : Option Sh) : va_W := cFix cI cO ad n g f (sv.map (fun s => s.1)) (bv.map (fun s => s.1)) ++ cTail cI sh sv bv
theorem mvP {s x y z : va_W} (h : y.Perm (s ++ z)) : (x ++ y).Perm (s ++ (x ++ z)) := by
  refine (h.append_left x).trans ?_
  rw [← List.append_assoc, ← List.append_assoc]
  exact List.perm_append_comm.append_right z
section
variable {cI : ClassId} {sh : Nat → Option Sh} {sv : Option Sp} {bv : Option Sh} {k : Nat} {s s' : Sh}
theorem T_sh0 (hk : k < 4) : (cTail cI sh sv bv).Perm (shC cI (sh k) ++ cTail cI (va_up sh k none) sv bv) := by
  rcases (show k = 0 ∨ k = 1 ∨ k = 2 ∨ k = 3 by omega) with rfl | rfl | rfl | rfl
  · exact List.Perm.refl _
  · exact mvP (List.Perm.refl _)
  · exact mvP (mvP (List.Perm.refl _))
  · exact mvP (mvP (mvP (List.Perm.refl _)))
theorem T_sh (hk : k < 4) (hs : sh k = some s) : (cTail cI sh sv bv).Perm (shC cI (some s) ++ cTail cI (va_up sh k none) sv bv) := by
  rw [← hs]
  exact T_sh0 hk
theorem up_up {α : Type} (f : Nat → α) (k : Nat) (a b : α) : va_up (va_up f k a) k b = va_up f k b := by
  funext j
  by_cases q : j = k
  · rw [q, va_up_self, va_up_self]
  · rw [va_up_ne _ _ q, va_up_ne _ _ q, va_up_ne _ _ q]
theorem up_id {α : Type} {f : Nat → α} {k : Nat} {a : α} (h : f k = a) : va_up f k a = f := by
  funext j
  by_cases q : j = k
  · rw [q, va_up_self, h]
  · rw [va_up_ne _ _ q]
theorem T_new (hk : k < 4) : (shC cI (some s') ++ cTail cI (va_up sh k none) sv bv).Perm (cTail cI (va_up sh k (some s')) sv bv) := by
  have h := T_sh (cI := cI) (sh := va_up sh k (some s')) (sv := sv) (bv := bv) (k := k) (s := s') hk (va_up_self _ _ _)
  rw [up_up] at h
  exact h.symm
theorem T_mk (hk : k < 4) (hs : sh k = none) : (shC cI (some s') ++ cTail cI sh sv bv).Perm (cTail cI (va_up sh k (some s')) sv bv) := by
  have h := T_new (cI := cI) (sh := sh) (sv := sv) (bv := bv) (k := k) (s' := s') hk
  rw [up_id hs] at h
  exact h
theorem T_sp : (cTail cI sh sv bv).Perm (spC cI sv ++ cTail cI sh none bv) := mvP (mvP (mvP (mvP (List.Perm.refl _))))
theorem T_bt : (cTail cI sh sv bv).Perm (shC cI bv ++ cTail cI sh sv none) := mvP (mvP (mvP (mvP (by
  show (spC cI sv ++ shC cI bv).Perm (shC cI bv ++ (spC cI sv ++ []))
  rw [List.append_nil]
  exact List.perm_append_comm))))
end
def okC (n : Nat → Int32) (f : Nat → Option Nat) (sh : Nat → Option Sh) : Prop := (0 ≤ (n 2).toInt ∧ (n 2).toInt ≤ 12) ∧ (0 ≤ (n 12).toInt ∧ (n 12).toInt ≤ 48) ∧ (∀ k, k < 4 → f k = (sh k).map (fun s => s.1)) ∧ (∀ k s, k < 4 → sh k = some s → (1 ≤ s.2.2.1.toInt ∧ s.2.2.1.toInt ≤ 64) ∧ (1 ≤ s.2.2.2.1.toInt ∧ s.2.2.2.1.toInt ≤ 64))
theorem ok_sh {n : Nat → Int32} {f : Nat → Option Nat} {sh : Nat → Option Sh} {k : Nat} {s s' : Sh} (h : okC n f sh) (hs : sh k = some s) (h1 : s'.1 = s.1) (h2 : 1 ≤ s'.2.2.1.toInt ∧ s'.2.2.1.toInt ≤ 64) (h3 : 1 ≤ s'.2.2.2.1.toInt ∧ s'.2.2.2.1.toInt ≤ 64) : okC n f (va_up sh k (some s')) := by
  refine ⟨h.1, h.2.1, fun j hj => ?_, fun j t hj ht => ?_⟩
  · by_cases q : j = k
    · rw [q, va_up_self, ← q, h.2.2.1 j hj, q, hs]
      show some s.1 = some s'.1
      rw [h1]
    · rw [va_up_ne _ _ q]
      exact h.2.2.1 j hj
  · by_cases q : j = k
    · rw [q, va_up_self] at ht
      cases ht
      exact ⟨h2, h3⟩
    · rw [va_up_ne _ _ q] at ht
      exact h.2.2.2 j t hj ht
theorem ok_mk {n : Nat → Int32} {f : Nat → Option Nat} {sh : Nat → Option Sh} {k : Nat} {s' : Sh} (h : okC n f sh) (h2 : 1 ≤ s'.2.2.1.toInt ∧ s'.2.2.1.toInt ≤ 64) (h3 : 1 ≤ s'.2.2.2.1.toInt ∧ s'.2.2.2.1.toInt ≤ 64) : okC n (va_up f k (some s'.1)) (va_up sh k (some s')) := by
  refine ⟨h.1, h.2.1, fun j hj => ?_, fun j t hj ht => ?_⟩
  · by_cases q : j = k
    · rw [q, va_up_self, va_up_self]
      rfl
    · rw [va_up_ne _ _ q, va_up_ne _ _ q]
      exact h.2.2.1 j hj
  · by_cases q : j = k
    · rw [q, va_up_self] at ht
      cases ht
      exact ⟨h2, h3⟩
    · rw [va_up_ne _ _ q] at ht
      exact h.2.2.2 j t hj ht
theorem ok_f {n : Nat → Int32} {f : Nat → Option Nat} {sh : Nat → Option Sh} {k : Nat} {s : Sh} (h : okC n f sh) (hk : k < 4) (hs : sh k = some s) : f k = some s.1 := by
  rw [h.2.2.1 k hk, hs]
  rfl
theorem ok_n {n : Nat → Int32} {f : Nat → Option Nat} {sh : Nat → Option Sh} {k : Nat} (h : okC n f sh) (hk : k < 4) (hs : sh k = none) : f k = none := by
  rw [h.2.2.1 k hk, hs]
  rfl
def RlC (cI cO : ClassId) (ad : Nat → Nat) (rel : (Nat → Int32) → (Nat → Nat → Int32) → (Nat → Option Sh) → Prop) : va_W → Prop := fun w' => ∃ (n' : Nat → Int32) (g' : Nat → Nat → Int32) (f' : Nat → Option Nat) (sh' : Nat → Option Sh) (sv' : Option Sp) (bv' : Option Sh), okC n' f' sh' ∧ rel n' g' sh' ∧ w' = cWld cI cO ad n' g' f' sh' sv' bv'
/-! the reference's world -/
def mWld (cI cZ : ClassId) (am : Nat → Nat) (nm : Nat → Int32) (gm : Nat → Nat → Int32) : va_W :=
  [(am 0, .inr (9, [.ref (am 1), .ref (am 2), .ref (am 3), .int (nm 0), .int (nm 1), .int (nm 2), .int (nm 3), .int (nm 4), .int (nm 5), .int (nm 6), .int (nm 7), .int (nm 8), .ref (am 4), .ref (am 5), .ref (am 6), .ref (am 7), .ref (am 8), .ref (am 9), .int (nm 9), .ref (am 10), .ref (am 11), .ref (am 12), .ref (am 13)])),
   (am 1, .inl (cI, 4, .inl (gm 1))),
   (am 2, .inl (cI, 4, .inl (gm 2))),
   (am 3, .inl (cI, 16384, .inl (gm 3))),
   (am 4, .inl (cZ, 4096, .inl (gm 4))),
   (am 5, .inl (cI, 4096, .inl (gm 5))),
   (am 6, .inl (cI, 4096, .inl (gm 6))),
   (am 7, .inl (cI, 48, .inl (gm 7))),
   (am 8, .inl (cI, 48, .inl (gm 8))),
   (am 9, .inl (cZ, 48, .inl (gm 9))),
   (am 10, .inl (cI, 3, .inl (gm 10))),
   (am 11, .inl (cI, 3, .inl (gm 11))),
   (am 12, .inl (cI, 3, .inl (gm 12))),
   (am 13, .inl (cI, 4096, .inl (gm 13)))]
def okM (nm : Nat → Int32) (gm : Nat → Nat → Int32) : Prop := (0 ≤ (nm 1).toInt ∧ (nm 1).toInt ≤ 12) ∧ (0 ≤ (nm 9).toInt ∧ (nm 9).toInt ≤ 48) ∧ (∀ j : Nat, j < 4 → (0 ≤ (gm 1 j).toInt ∧ (gm 1 j).toInt ≤ 64) ∧ (0 ≤ (gm 2 j).toInt ∧ (gm 2 j).toInt ≤ 64)) ∧ (∀ j : Nat, j < 48 → (-8192 ≤ (gm 7 j).toInt ∧ (gm 7 j).toInt ≤ 8192) ∧ (-8192 ≤ (gm 8 j).toInt ∧ (gm 8 j).toInt ≤ 8192)) ∧ (∀ j : Nat, j < 3 → (-200 ≤ (gm 10 j).toInt ∧ (gm 10 j).toInt ≤ 200) ∧ (-200 ≤ (gm 11 j).toInt ∧ (gm 11 j).toInt ≤ 200))
def RlM (cI cZ : ClassId) (am : Nat → Nat) (rel : (Nat → Int32) → (Nat → Nat → Int32) → Prop) : va_W → Prop := fun w' => ∃ (nm' : Nat → Int32) (gm' : Nat → Nat → Int32), okM nm' gm' ∧ rel nm' gm' ∧ w' = mWld cI cZ am nm' gm'
theorem up_le {g : Nat → Int32} {k : Nat} {v : Int32} {P : Int32 → Prop} {N : Nat} (h : ∀ j : Nat, j < N → P (g j)) (hv : P v) : ∀ j : Nat, j < N → P (upd g k v j) := fun j hj => by
  by_cases q : j = k
  · rw [q, pk_us]; exact hv
  · rw [pk_un q]; exact h j hj
theorem two_ti {x : Int32} (h : -4096 ≤ x.toInt ∧ x.toInt ≤ 4096) : (2 * x).toInt = 2 * x.toInt := by
  rw [Int32.toInt_mul, show (2 : Int32).toInt = 2 by decide]
  exact Int.bmod_eq_of_le (by omega) (by omega)
theorem okM_sheet {nm : Nat → Int32} {gm : Nat → Nat → Int32} {k : Nat} {w h : Int32} {gd : Nat → Int32} (ho : okM nm gm) (hw : 1 ≤ w.toInt ∧ w.toInt ≤ 64) (hh : 1 ≤ h.toInt ∧ h.toInt ≤ 64) : okM nm (va_up (va_up (va_up gm 1 (upd (gm 1) k w)) 2 (upd (gm 2) k h)) 3 gd) := by
  refine ⟨ho.1, ho.2.1, fun j hj => ⟨?_, ?_⟩, ho.2.2.2⟩
  · exact up_le (g := gm 1) (P := fun v => 0 ≤ v.toInt ∧ v.toInt ≤ 64) (N := 4) (fun j hj => (ho.2.2.1 j hj).1) (by omega) j hj
  · exact up_le (g := gm 2) (P := fun v => 0 ≤ v.toInt ∧ v.toInt ≤ 64) (N := 4) (fun j hj => (ho.2.2.1 j hj).2) (by omega) j hj
theorem okM_point {nm : Nat → Int32} {gm : Nat → Nat → Int32} {k : Nat} {x y : Int32} {pf : Nat → Int32} {v : Int32} (ho : okM nm gm) (hv : 0 ≤ v.toInt ∧ v.toInt ≤ 48) (hx : -4096 ≤ x.toInt ∧ x.toInt ≤ 4096) (hy : -4096 ≤ y.toInt ∧ y.toInt ≤ 4096) : okM (va_up nm 9 v) (va_up (va_up (va_up gm 7 (upd (gm 7) k (2 * x))) 8 (upd (gm 8) k (2 * y))) 9 pf) := by
  have hx2 := two_ti hx
  have hy2 := two_ti hy
  refine ⟨ho.1, hv, ho.2.2.1, fun j hj => ⟨?_, ?_⟩, ho.2.2.2.2⟩
  · exact up_le (g := gm 7) (P := fun v => -8192 ≤ v.toInt ∧ v.toInt ≤ 8192) (N := 48) (fun j hj => (ho.2.2.2.1 j hj).1) (by omega) j hj
  · exact up_le (g := gm 8) (P := fun v => -8192 ≤ v.toInt ∧ v.toInt ≤ 8192) (N := 48) (fun j hj => (ho.2.2.2.1 j hj).2) (by omega) j hj
theorem okM_corner {nm : Nat → Int32} {gm : Nat → Nat → Int32} {i : Nat} {x y : Int32} {c : Nat → Int32} (ho : okM nm gm) (hx : -200 ≤ x.toInt ∧ x.toInt ≤ 200) (hy : -200 ≤ y.toInt ∧ y.toInt ≤ 200) : okM nm (va_up (va_up (va_up gm 10 (upd (gm 10) i x)) 11 (upd (gm 11) i y)) 12 c) := by
  refine ⟨ho.1, ho.2.1, ho.2.2.1, ho.2.2.2.1, fun j hj => ⟨?_, ?_⟩⟩
  · exact up_le (g := gm 10) (P := fun v => -200 ≤ v.toInt ∧ v.toInt ≤ 200) (N := 3) (fun j hj => (ho.2.2.2.2 j hj).1) hx j hj
  · exact up_le (g := gm 11) (P := fun v => -200 ≤ v.toInt ∧ v.toInt ≤ 200) (N := 3) (fun j hj => (ho.2.2.2.2 j hj).2) hy j hj
theorem way_ok {P : Prop} [Decidable P] {a b : Int32} (h : P → 0 ≤ a.toInt ∧ a.toInt ≤ 12) (hb : 0 ≤ b.toInt ∧ b.toInt ≤ 12) : 0 ≤ (if P then a else b).toInt ∧ (if P then a else b).toInt ≤ 12 := by
  split
  · rename_i q; exact h q
  · exact hb
/-! what the two sides have in common -/
abbrev Zv : Type := Int32 × Int32 × (Nat → Int32)
def vO (o : Option Sh) : Option Zv := o.map (fun s => (s.2.2.1, s.2.2.2.1, s.2.2.2.2))
def eqZ : Option Zv → Option Zv → Prop
  | none, none => True
  | some p, some q => p.1 = q.1 ∧ p.2.1 = q.2.1 ∧ ∀ j : Nat, j < 4096 → p.2.2 j = q.2.2 j
  | none, some _ => False
  | some _, none => False
theorem eqZ_refl : ∀ a : Option Zv, eqZ a a
  | none => trivial
  | some _ => ⟨rfl, rfl, fun _ _ => rfl⟩
theorem eqZ_of {a b : Option Zv} (h : a = b) : eqZ a b := h ▸ eqZ_refl a
def KC (v : Nat → Int32) (gv : Nat → Nat → Int32) (zv : Nat → Option Zv) (n' : Nat → Int32) (g' : Nat → Nat → Int32) (sh' : Nat → Option Sh) : Prop := (n' 0 = v 0 ∧ n' 1 = v 1 ∧ n' 2 = v 2 ∧ n' 3 = v 3 ∧ n' 4 = v 4 ∧ n' 5 = v 5 ∧ n' 6 = v 6 ∧ n' 7 = v 7 ∧ n' 8 = v 8 ∧ n' 9 = v 9 ∧ n' 10 = v 10 ∧ n' 11 = v 11 ∧ n' 12 = v 12 ∧ n' 13 = v 13 ∧ n' 14 = v 14) ∧ (g' 0 = gv 0 ∧ g' 1 = gv 1 ∧ g' 2 = gv 2 ∧ g' 3 = gv 3 ∧ g' 4 = gv 4 ∧ g' 5 = gv 5 ∧ g' 6 = gv 6) ∧ ∀ k : Nat, k < 4 → eqZ (vO (sh' k)) (zv k)
def MC (v : Nat → Int32) (gv : Nat → Nat → Int32) (nm' : Nat → Int32) (gm' : Nat → Nat → Int32) : Prop := (nm' 0 = v 0 ∧ nm' 1 = v 1 ∧ nm' 2 = v 2 ∧ nm' 3 = v 3 ∧ nm' 4 = v 4 ∧ nm' 5 = v 5 ∧ nm' 6 = v 6 ∧ nm' 7 = v 7 ∧ nm' 8 = v 8 ∧ nm' 9 = v 9) ∧ (gm' 1 = gv 1 ∧ gm' 2 = gv 2 ∧ gm' 3 = gv 3 ∧ gm' 7 = gv 7 ∧ gm' 8 = gv 8 ∧ gm' 9 = gv 9 ∧ gm' 10 = gv 10 ∧ gm' 11 = gv 11 ∧ gm' 12 = gv 12)
/-- by the SHEET k, if it is there -/
def dsC {α : Type} (zv : Nat → Option Zv) (k : Int32) (bad : α) (F : Zv → α) : α := if 0 ≤ k.toInt ∧ k.toInt ≤ 3 then (match zv k.toNatClampNeg with | none => bad | some p => F p) else bad
def dsG (zv : Nat → Option Zv) (k : Int32) (F : Zv → Nat → Int32) : Nat → Option Zv := dsC zv k zv (fun p => va_up zv k.toNatClampNeg (some (p.1, p.2.1, F p)))
section
variable {α : Type} {zv : Nat → Option Zv} {k : Int32} {bad : α} {F : Zv → α} {p : Zv}
theorem dsC_y (hk : 0 ≤ k.toInt ∧ k.toInt ≤ 3) (h : zv k.toNatClampNeg = some p) : dsC zv k bad F = F p := by
  unfold dsC
  rw [if_pos hk, h]
theorem dsC_n (hk : 0 ≤ k.toInt ∧ k.toInt ≤ 3) (h : zv k.toNatClampNeg = none) : dsC zv k bad F = bad := by
  unfold dsC
  rw [if_pos hk, h]
theorem dsC_k (hk : ¬ (0 ≤ k.toInt ∧ k.toInt ≤ 3)) : dsC zv k bad F = bad := if_neg hk
end
theorem vO_up {sh : Nat → Option Sh} {k : Nat} {s' : Sh} (j : Nat) : vO (va_up sh k (some s') j) = va_up (fun k => vO (sh k)) k (some (s'.2.2.1, s'.2.2.2.1, s'.2.2.2.2)) j := by
  by_cases q : j = k
  · rw [q, va_up_self, va_up_self]
    rfl
  · rw [va_up_ne _ _ q, va_up_ne _ _ q]
theorem szG_y {sh : Nat → Option Sh} {k : Int32} {t0 d0 : Nat} {w h : Int32} {g0 : Nat → Int32} {F : Zv → Nat → Int32} (hk : 0 ≤ k.toInt ∧ k.toInt ≤ 3) (hs : sh k.toNatClampNeg = some (t0, d0, w, h, g0)) : ∀ j : Nat, j < 4 → eqZ (vO (va_up sh k.toNatClampNeg (some (t0, d0, w, h, F (w, h, g0))) j)) (dsG (fun k => vO (sh k)) k F j) := fun j _ => by
  have e : dsG (fun k => vO (sh k)) k F = va_up (fun k => vO (sh k)) k.toNatClampNeg (some (w, h, F (w, h, g0))) := dsC_y (zv := fun k => vO (sh k)) hk (p := (w, h, g0)) (by show vO (sh k.toNatClampNeg) = _; rw [hs]; rfl)
  rw [e]
  exact eqZ_of (vO_up j)
theorem szG_n {sh : Nat → Option Sh} {k : Int32} {F : Zv → Nat → Int32} (hs : 0 ≤ k.toInt ∧ k.toInt ≤ 3 → sh k.toNatClampNeg = none) : ∀ j : Nat, j < 4 → eqZ (vO (sh j)) (dsG (fun k => vO (sh k)) k F j) := fun j _ => by
  have e : dsG (fun k => vO (sh k)) k F = fun k => vO (sh k) := by
    by_cases hk : 0 ≤ k.toInt ∧ k.toInt ≤ 3
    · exact dsC_n (zv := fun k => vO (sh k)) hk (by show vO (sh k.toNatClampNeg) = _; rw [hs hk]; rfl)
    · exact dsC_k hk
  rw [e]
  exact eqZ_refl _
theorem szG_s {sh : Nat → Option Sh} {k : Int32} {s : Sh} {F : Zv → Nat → Int32} (hk : 0 ≤ k.toInt ∧ k.toInt ≤ 3) (hs : sh k.toNatClampNeg = some s) (hF : F (s.2.2.1, s.2.2.2.1, s.2.2.2.2) = s.2.2.2.2) : ∀ j : Nat, j < 4 → eqZ (vO (sh j)) (dsG (fun k => vO (sh k)) k F j) := fun j _ => by
  have e : dsG (fun k => vO (sh k)) k F = va_up (fun k => vO (sh k)) k.toNatClampNeg (some (s.2.2.1, s.2.2.2.1, F (s.2.2.1, s.2.2.2.1, s.2.2.2.2))) := dsC_y (zv := fun k => vO (sh k)) hk (p := (s.2.2.1, s.2.2.2.1, s.2.2.2.2)) (by show vO (sh k.toNatClampNeg) = _; rw [hs]; rfl)
  rw [e, hF, up_id (show (fun k => vO (sh k)) k.toNatClampNeg = _ by show vO (sh k.toNatClampNeg) = _; rw [hs]; rfl)]
  exact eqZ_refl _
theorem sz_id {sh : Nat → Option Sh} : ∀ j : Nat, j < 4 → eqZ (vO (sh j)) ((fun k => vO (sh k)) j) := fun _ _ => eqZ_refl _
theorem sz_new {sh : Nat → Option Sh} {k : Nat} {s' : Sh} (hz : ∀ j : Nat, j < 4096 → s'.2.2.2.2 j = 0) : ∀ j : Nat, j < 4 → eqZ (vO (va_up sh k (some s') j)) (va_up (fun k => vO (sh k)) k (some (s'.2.2.1, s'.2.2.2.1, fun _ => 0)) j) := fun j _ => by
  rw [vO_up]
  by_cases q : j = k
  · rw [q, va_up_self, va_up_self]
    exact ⟨rfl, rfl, hz⟩
  · rw [va_up_ne _ _ q, va_up_ne _ _ q]
    exact eqZ_refl _
theorem isz {sh : Nat → Option Sh} {k : Nat} {t0 d0 : Nat} {w h : Int32} {g0 : Nat → Int32} (hs : sh k = some (t0, d0, w, h, g0)) : (fun k => vO (sh k)) k = some (w, h, g0) := by
  show vO (sh k) = _
  rw [hs]
  rfl
theorem isn {sh : Nat → Option Sh} {k : Nat} (hs : sh k = none) : (fun k => vO (sh k)) k = none := by
  show vO (sh k) = _
  rw [hs]
  rfl
theorem szG_e {sh : Nat → Option Sh} {k : Int32} {t0 d0 : Nat} {w h : Int32} {g0 g1 : Nat → Int32} {F : Zv → Nat → Int32} (hk : 0 ≤ k.toInt ∧ k.toInt ≤ 3) (hs : sh k.toNatClampNeg = some (t0, d0, w, h, g0)) (hF : F (w, h, g0) = g1) : ∀ j : Nat, j < 4 → eqZ (vO (va_up sh k.toNatClampNeg (some (t0, d0, w, h, g1)) j)) (dsG (fun k => vO (sh k)) k F j) := by
  rw [← hF]
  exact szG_y hk hs
theorem dsC_c {α : Type} {zv : Nat → Option Zv} {k : Int32} {bad : α} {F : Zv → α} (h : ∀ p, F p = bad) : dsC zv k bad F = bad := by
  unfold dsC
  split
  · split
    · rfl
    · exact h _
  · rfl
theorem szG_c {sh : Nat → Option Sh} {k : Int32} {F : Zv → Nat → Int32} (hF : ∀ p : Zv, F p = p.2.2) : ∀ j : Nat, j < 4 → eqZ (vO (sh j)) (dsG (fun k => vO (sh k)) k F j) := by
  by_cases hk : 0 ≤ k.toInt ∧ k.toInt ≤ 3
  · cases hs : sh k.toNatClampNeg with
    | none => exact szG_n (fun _ => hs)
    | some s => exact szG_s hk hs (hF _)
  · exact szG_n (fun h => absurd h hk)
def cpF {α : Type} (zv : Nat → Option Zv) (k : Int32) (sz near : Prop) [Decidable sz] [Decidable near] (B : Zv → α) (T : Zv → Zv → α) (p : Zv) : α := if sz then dsC zv k (B p) (fun u => if near then T u p else B p) else B p
theorem cpF_y {α : Type} {zv : Nat → Option Zv} {k : Int32} {sz near : Prop} [Decidable sz] [Decidable near] {B : Zv → α} {T : Zv → Zv → α} {p u : Zv} (h1 : sz) (h2 : near) (hk : 0 ≤ k.toInt ∧ k.toInt ≤ 3) (hz : zv k.toNatClampNeg = some u) : cpF zv k sz near B T p = T u p := by
  unfold cpF
  rw [if_pos h1, dsC_y hk hz, if_pos h2]
theorem cpF_z {α : Type} {zv : Nat → Option Zv} {k : Int32} {sz near : Prop} [Decidable sz] [Decidable near] {B : Zv → α} {T : Zv → Zv → α} {p : Zv} (h1 : ¬ sz) : cpF zv k sz near B T p = B p := if_neg h1
theorem cpF_r {α : Type} {zv : Nat → Option Zv} {k : Int32} {sz near : Prop} [Decidable sz] [Decidable near] {B : Zv → α} {T : Zv → Zv → α} {p : Zv} (h2 : ¬ near) : cpF zv k sz near B T p = B p := by
  unfold cpF
  split
  · exact dsC_c (fun u => if_neg h2)
  · rfl
theorem cpF_n {α : Type} {zv : Nat → Option Zv} {k : Int32} {sz near : Prop} [Decidable sz] [Decidable near] {B : Zv → α} {T : Zv → Zv → α} {p : Zv} (hz : 0 ≤ k.toInt ∧ k.toInt ≤ 3 → zv k.toNatClampNeg = none) : cpF zv k sz near B T p = B p := by
  unfold cpF
  split
  · by_cases hk : 0 ≤ k.toInt ∧ k.toInt ≤ 3
    · exact dsC_n hk (hz hk)
    · exact dsC_k hk
  · rfl
abbrev isM (gm : Nat → Nat → Int32) (k : Int32) : Prop := 0 ≤ k.toInt ∧ k.toInt ≤ 3 ∧ 0 < (gm 1 k.toNatClampNeg).toInt
def mA (gm : Nat → Nat → Int32) (k : Int32) (a : Int32) : Int32 := if isM gm k then a else -1
def mX (gm : Nat → Nat → Int32) (k : Int32) (X : Nat → Int32) : Nat → Int32 := if isM gm k then X else gm 3
theorem mA_n {gm : Nat → Nat → Int32} {k a : Int32} {c : Prop} [Decidable c] (h : ¬ (isM gm k ∧ c)) : mA gm k (if c then a else -1) = -1 := by
  unfold mA
  by_cases h1 : isM gm k
  · rw [if_pos h1, if_neg (fun q => h ⟨h1, q⟩)]
  · rw [if_neg h1]
theorem mX_n {gm : Nat → Nat → Int32} {k : Int32} {X : Nat → Int32} {c : Prop} [Decidable c] (h : ¬ (isM gm k ∧ c)) : mX gm k (if c then X else gm 3) = gm 3 := by
  unfold mX
  by_cases h1 : isM gm k
  · rw [if_pos h1, if_neg (fun q => h ⟨h1, q⟩)]
  · rw [if_neg h1]
theorem mA_y {gm : Nat → Nat → Int32} {k a : Int32} {c : Prop} [Decidable c] (h1 : isM gm k) (h : c) : mA gm k (if c then a else -1) = a := by
  unfold mA
  rw [if_pos h1, if_pos h]
theorem mX_y {gm : Nat → Nat → Int32} {k : Int32} {X : Nat → Int32} {c : Prop} [Decidable c] (h1 : isM gm k) (h : c) : mX gm k (if c then X else gm 3) = X := by
  unfold mX
  rw [if_pos h1, if_pos h]
theorem cl_ne {k q : Int32} (hk : 0 ≤ k.toInt ∧ k.toInt ≤ 3) (hq : 0 ≤ q.toInt ∧ q.toInt ≤ 3) (h : ¬ k.toInt = q.toInt) : ¬ k.toNatClampNeg = q.toNatClampNeg := by
  obtain ⟨a, ha, rfl⟩ := i_of (x := k) (N := 4) hk.1 (by omega) (by decide)
  obtain ⟨b, hb, rfl⟩ := i_of (x := q) (N := 4) hq.1 (by omega) (by decide)
  rw [nI_toInt (by omega), nI_toInt (by omega)] at h
  rw [nI_clamp (by omega), nI_clamp (by omega)]
  omega

/-! requests in a list -/
theorem fG_take {σ : Type} {f : σ → Req → σ} {a : σ} (l : List Req) : ∀ i, fG f (fun i => l[i]?) a i = (l.take i).foldl f a
  | 0 => by simp [fG]
  | i + 1 => by
    have ih := fG_take (f := f) (a := a) l i
    cases h : l[i]? with
    | none =>
      rw [fG_none (rq := fun i => l[i]?) h, ih]
      have hl : l.length ≤ i := List.getElem?_eq_none_iff.mp h
      rw [List.take_of_length_le hl, List.take_of_length_le (Nat.le_succ_of_le hl)]
    | some q =>
      rw [fG_some (rq := fun i => l[i]?) h, ih, List.take_add_one, h, List.foldl_append]
      rfl
theorem fG_list {σ : Type} {f : σ → Req → σ} {a : σ} (l : List Req) : fG f (fun i => l[i]?) a l.length = l.foldl f a := by
  rw [fG_take, List.take_length]
/-- no open DOT twice -/
def ndL (w h bx0 by0 bx1 by1 : Int32) (l : List Req) : Prop := l.Pairwise (fun q q' => opnC w h bx0 by0 bx1 by1 q.1 q.2.1 → opnC w h bx0 by0 bx1 by1 q'.1 q'.2.1 → ixP q.1 q.2.1 ≠ ixP q'.1 q'.2.1)
theorem draw_list {w h bx0 by0 bx1 by1 wy cl cx0 cx1 cy0 cy1 : Int32} {l : List Req} {g gm ge gv : Nat → Int32} (hw : w.toInt ≤ 64) (hh : h.toInt ≤ 64) (hob : ∀ x y, opnC w h bx0 by0 bx1 by1 x y ↔ opnM w h cl cx0 cx1 cy0 cy1 x y) (hnd : ndL w h bx0 by0 bx1 by1 l) :
    (∀ j, j < 4096 → l.foldl (layG w h bx0 by0 bx1 by1 wy) g j = if (l.foldl (mkF w h cl cx0 cx1 cy0 cy1) (zrN gm 4096, ge, gv)).1 j = 0 then g j else laidP wy ((l.foldl (mkF w h cl cx0 cx1 cy0 cy1) (zrN gm 4096, ge, gv)).2.2 j) (g j) ((l.foldl (mkF w h cl cx0 cx1 cy0 cy1) (zrN gm 4096, ge, gv)).2.1 j)) ∧
      l.foldl (layT w h bx0 by0 bx1 by1) 0 = nI (cntP (l.foldl (mkF w h cl cx0 cx1 cy0 cy1) (zrN gm 4096, ge, gv)).1 4096) := by
  have h1 := (draw_same (wy := wy) (g := g) (gm := gm) (ge := ge) (gv := gv) (rq := fun i => l[i]?) (N := l.length) hw hh hob (fun i i' q q' hi hi' hq hq' => by
    obtain ⟨li, ei⟩ := List.getElem?_eq_some_iff.mp hq
    obtain ⟨li', ei'⟩ := List.getElem?_eq_some_iff.mp hq'
    have h2 := List.pairwise_iff_getElem.mp hnd i i' li li' hi
    rw [ei, ei'] at h2
    exact h2)) l.length (Nat.le_refl _)
  rw [fG_list, fG_list, fG_list] at h1
  exact ⟨h1.2.1, h1.2.2⟩
/-! the nearest root, from above and from below -/
theorem rt_all {N : Nat} (hN : N ≤ 250000) : ∀ k b : Nat, 500 ≤ b + k → (∀ c, c < b → c * c + c < N) → N ≤ rtF N k b * rtF N k b + rtF N k b ∧ ∀ c, c < rtF N k b → c * c + c < N
  | 0, b, hb, h => by
    have h2 : 500 * 500 ≤ b * b := Nat.mul_le_mul (by omega) (by omega)
    exact ⟨by show N ≤ b * b + b; omega, h⟩
  | k + 1, b, hb, h => by
    have e4 : (2 * b + 1) * (2 * b + 1) = 4 * (b * b) + 4 * b + 1 := by
      rw [Nat.add_mul, Nat.mul_add, Nat.one_mul, Nat.mul_one, show 2 * b * (2 * b) = 4 * (b * b) by rw [Nat.mul_mul_mul_comm]]
      omega
    show N ≤ (if (2 * b + 1) * (2 * b + 1) < 4 * N then rtF N k (b + 1) else b) * (if (2 * b + 1) * (2 * b + 1) < 4 * N then rtF N k (b + 1) else b) + (if (2 * b + 1) * (2 * b + 1) < 4 * N then rtF N k (b + 1) else b) ∧ ∀ c, c < (if (2 * b + 1) * (2 * b + 1) < 4 * N then rtF N k (b + 1) else b) → c * c + c < N
    by_cases q : (2 * b + 1) * (2 * b + 1) < 4 * N
    · rw [if_pos q]
      refine rt_all hN k (b + 1) (by omega) (fun c hc => ?_)
      by_cases e : c = b
      · subst e
        omega
      · exact h c (by omega)
    · rw [if_neg q]
      exact ⟨by omega, h⟩
theorem nr_all {N : Nat} : ∀ B : Nat, (nrN N B = 0 ∨ nrN N B * nrN N B - nrN N B < N) ∧ ∀ c, nrN N B < c → c ≤ B → N ≤ c * c - c
  | 0 => ⟨Or.inl rfl, fun c h1 h2 => absurd h1 (by show ¬ 0 < c; omega)⟩
  | b + 1 => by
    have ih := nr_all (N := N) b
    show ((if N ≤ (b + 1) * (b + 1) - (b + 1) then nrN N b else b + 1) = 0 ∨ (if N ≤ (b + 1) * (b + 1) - (b + 1) then nrN N b else b + 1) * (if N ≤ (b + 1) * (b + 1) - (b + 1) then nrN N b else b + 1) - (if N ≤ (b + 1) * (b + 1) - (b + 1) then nrN N b else b + 1) < N) ∧ ∀ c, (if N ≤ (b + 1) * (b + 1) - (b + 1) then nrN N b else b + 1) < c → c ≤ b + 1 → N ≤ c * c - c
    by_cases q : N ≤ (b + 1) * (b + 1) - (b + 1)
    · rw [if_pos q]
      refine ⟨ih.1, fun c h1 h2 => ?_⟩
      by_cases e : c = b + 1
      · rw [e]; exact q
      · exact ih.2 c h1 (by omega)
    · rw [if_neg q]
      exact ⟨Or.inr (by omega), fun c h1 h2 => absurd h1 (by omega)⟩
theorem sq_m1 (c : Nat) : (c + 1) * (c + 1) - (c + 1) = c * c + c := by
  rw [Nat.add_mul, Nat.one_mul, Nat.mul_add, Nat.mul_one]
  omega
def rt0 (N : Nat) : Nat := rtF N 501 0
theorem rt_spec {N : Nat} (hN : N ≤ 250000) : N ≤ rt0 N * rt0 N + rt0 N ∧ ∀ c, c < rt0 N → c * c + c < N := rt_all hN 501 0 (by omega) (fun c hc => absurd hc (by omega))
theorem nr_rt {N B : Nat} (hN : N ≤ 250000) (hB : rt0 N ≤ B) : nrN N B = rt0 N := by
  obtain ⟨h1, h2⟩ := rt_spec hN
  obtain ⟨h3, h4⟩ := nr_all (N := N) B
  rcases Nat.lt_trichotomy (nrN N B) (rt0 N) with c | c | c
  · have h5 := h4 (rt0 N) c hB
    obtain ⟨d, hd⟩ : ∃ d, rt0 N = d + 1 := ⟨rt0 N - 1, by omega⟩
    rw [hd, sq_m1] at h5
    have h6 := h2 d (by omega)
    omega
  · exact c
  · rcases h3 with h3 | h3
    · omega
    · obtain ⟨d, hd⟩ : ∃ d, nrN N B = d + 1 := ⟨nrN N B - 1, by omega⟩
      rw [hd, sq_m1] at h3
      have h6 : rt0 N * rt0 N ≤ d * d := Nat.mul_le_mul (by omega) (by omega)
      omega
theorem rt_mono {N N' : Nat} (hN : N ≤ 250000) (h : N' ≤ N) : rt0 N' ≤ rt0 N := by
  obtain ⟨h1, -⟩ := rt_spec hN
  obtain ⟨-, h2⟩ := rt_spec (N := N') (by omega)
  rcases Nat.lt_or_ge (rt0 N) (rt0 N') with c | c
  · have := h2 _ c
    omega
  · exact c
theorem ciB_rt {r : Nat} (hr : r ≤ 500) : ∀ i, i ≤ r → ciB r (i + 1) = rt0 (r * r - i * i)
  | 0, _ => by
    have h2 : r * r ≤ 500 * 500 := Nat.mul_le_mul hr hr
    show nrN (r * r - 0 * 0) r = rt0 (r * r - 0 * 0)
    refine nr_rt (by omega) ?_
    obtain ⟨-, h3⟩ := rt_spec (N := r * r - 0 * 0) (by omega)
    rcases Nat.lt_or_ge r (rt0 (r * r - 0 * 0)) with c | c
    · have := h3 _ c
      omega
    · exact c
  | i + 1, hi => by
    have h2 : r * r ≤ 500 * 500 := Nat.mul_le_mul hr hr
    have h3 : i * i ≤ (i + 1) * (i + 1) := Nat.mul_le_mul (by omega) (by omega)
    show nrN (r * r - (i + 1) * (i + 1)) (ciB r (i + 1)) = _
    rw [ciB_rt hr i (by omega)]
    exact nr_rt (by omega) (rt_mono (by omega) (by omega))
theorem ciM_mcM {r : Nat} (hr : r ≤ 500) : ∀ k i, ciM r k i = mcM r k i
  | 0, _ => rfl
  | k + 1, i => by
    show (if r < i ∨ ciB r (i + 1) < i then i else ciM r k (i + 1)) = (if r < i ∨ rtF (r * r - i * i) 501 0 < i then i else mcM r k (i + 1))
    by_cases c : r < i
    · rw [if_pos (Or.inl c), if_pos (Or.inl c)]
    · have e : ciB r (i + 1) = rtF (r * r - i * i) 501 0 := ciB_rt hr i (by omega)
      rw [e, ciM_mcM hr k (i + 1)]
theorem ciM_all {r : Nat} : ∀ k i j, i ≤ j → j < ciM r k i → ¬ (r < j ∨ ciB r (j + 1) < j)
  | 0, i, j, h1, h2 => absurd h2 (by show ¬ j < i; omega)
  | k + 1, i, j, h1, h2 => by
    have h3 : j < (if r < i ∨ ciB r (i + 1) < i then i else ciM r k (i + 1)) := h2
    by_cases c : r < i ∨ ciB r (i + 1) < i
    · rw [if_pos c] at h3
      omega
    · rw [if_neg c] at h3
      by_cases e : j = i
      · rw [e]; exact c
      · exact ciM_all k (i + 1) j (by omega) h3

/-! CIRCLE: the same DOTS on both sides, each once on the class's -/
def fr4 (x y a b ik op : Int32) (q : Req) : Prop := q = (x + a, y + b, ik, op) ∨ q = (x - a, y + b, ik, op) ∨ q = (x + a, y - b, ik, op) ∨ q = (x - a, y - b, ik, op)
theorem mem_prQ {x ax y ik op : Int32} {q : Req} : q ∈ prQ x ax y ik op ↔ (q = (x + ax, y, ik, op) ∨ q = (x - ax, y, ik, op)) := by
  unfold prQ
  by_cases h : ax = 0
  · rw [if_pos h, h, List.mem_singleton, show x - 0 = x + 0 by simp]
    exact ⟨Or.inl, fun h => h.elim id id⟩
  · rw [if_neg h]
    simp only [List.mem_cons, List.not_mem_nil, or_false]
theorem mem_miQ {x y ax bx ik op : Int32} {q : Req} : q ∈ miQ x y ax bx ik op ↔ fr4 x y ax bx ik op q := by
  have h1 : q ∈ miQ x y ax bx ik op ↔ (q ∈ prQ x ax (y + bx) ik op ∨ q ∈ prQ x ax (y - bx) ik op) := by
    unfold miQ
    by_cases h : bx = 0
    · rw [if_pos h, h, show y - 0 = y + 0 by simp]
      exact ⟨Or.inl, fun h => h.elim id id⟩
    · rw [if_neg h, List.mem_append]
  rw [h1, mem_prQ, mem_prQ]
  unfold fr4
  simp only [or_assoc]
theorem mem_mcQ {x y a b ik op : Int32} {q : Req} : q ∈ mcQ x y a b ik op ↔ (fr4 x y a b ik op q ∨ fr4 x y b a ik op q) := by
  have e1 : ∀ z : Int32, 1 * z = z := Int32.one_mul
  have e2 : ∀ z w : Int32, z + (-1) * w = z - w := fun z w => by rw [Int32.neg_mul, Int32.one_mul, ← Int32.sub_eq_add_neg]
  unfold mcQ fr4
  simp only [e1, e2, List.mem_cons, List.not_mem_nil, or_false]
  constructor
  · intro h
    rcases h with h | h | h | h | h | h | h | h <;> simp [h]
  · intro h
    rcases h with (h | h | h | h) | (h | h | h | h) <;> simp [h]
theorem mem_ciL {x y ik op : Int32} {r : Nat} {q : Req} : ∀ M, q ∈ ciL x y ik op r M ↔ ∃ i, i < M ∧ (fr4 x y (nI i) (nI (ciB r (i + 1))) ik op q ∨ fr4 x y (nI (ciB r (i + 1))) (nI i) ik op q)
  | 0 => ⟨fun h => absurd h (List.not_mem_nil), fun ⟨i, h, _⟩ => absurd h (by omega)⟩
  | M + 1 => by
    have ih := mem_ciL (x := x) (y := y) (ik := ik) (op := op) (r := r) (q := q) M
    show q ∈ ciL x y ik op r M ++ (miQ x y (nI M) (nI (ciB r (M + 1))) ik op ++ (if M = ciB r (M + 1) then [] else miQ x y (nI (ciB r (M + 1))) (nI M) ik op)) ↔ _
    rw [List.mem_append, List.mem_append, ih, mem_miQ]
    constructor
    · intro h
      rcases h with ⟨i, hi, h⟩ | h | h
      · exact ⟨i, by omega, h⟩
      · exact ⟨M, by omega, Or.inl h⟩
      · by_cases c : M = ciB r (M + 1)
        · rw [if_pos c] at h
          exact absurd h (List.not_mem_nil)
        · rw [if_neg c, mem_miQ] at h
          exact ⟨M, by omega, Or.inr h⟩
    · intro h
      obtain ⟨i, hi, h⟩ := h
      by_cases e : i = M
      · subst e
        rcases h with h | h
        · exact Or.inr (Or.inl h)
        · by_cases c : i = ciB r (i + 1)
          · rw [← c] at h ⊢
            exact Or.inr (Or.inl h)
          · rw [if_neg c, mem_miQ]
            exact Or.inr (Or.inr h)
      · exact Or.inl ⟨i, by omega, h⟩
theorem mem_mcL {x y ik op : Int32} {r : Nat} {q : Req} : ∀ M, q ∈ mcL x y ik op r M ↔ ∃ i, i < M ∧ (fr4 x y (nI i) (nI (rtF (r * r - i * i) 501 0)) ik op q ∨ fr4 x y (nI (rtF (r * r - i * i) 501 0)) (nI i) ik op q)
  | 0 => ⟨fun h => absurd h (List.not_mem_nil), fun ⟨i, h, _⟩ => absurd h (by omega)⟩
  | M + 1 => by
    have ih := mem_mcL (x := x) (y := y) (ik := ik) (op := op) (r := r) (q := q) M
    show q ∈ mcL x y ik op r M ++ mcQ x y (nI M) (nI (rtF (r * r - M * M) 501 0)) ik op ↔ _
    rw [List.mem_append, ih, mem_mcQ]
    constructor
    · intro h
      rcases h with ⟨i, hi, h⟩ | h
      · exact ⟨i, by omega, h⟩
      · exact ⟨M, by omega, h⟩
    · intro h
      obtain ⟨i, hi, h⟩ := h
      by_cases e : i = M
      · subst e
        exact Or.inr h
      · exact Or.inl ⟨i, by omega, h⟩
theorem ci_mc {x y ik op : Int32} {r : Nat} (hr : r ≤ 500) {q : Req} : q ∈ ciL x y ik op r (ciM r 502 0) ↔ q ∈ mcL x y ik op r (mcM r 502 0) := by
  rw [mem_ciL, mem_mcL, ← ciM_mcM hr]
  constructor
  · intro h
    obtain ⟨i, hi, h⟩ := h
    have h1 := ciM_all 502 0 i (by omega) hi
    have e : ciB r (i + 1) = rtF (r * r - i * i) 501 0 := ciB_rt hr i (by omega)
    rw [e] at h
    exact ⟨i, hi, h⟩
  · intro h
    obtain ⟨i, hi, h⟩ := h
    have h1 := ciM_all 502 0 i (by omega) hi
    have e : ciB r (i + 1) = rtF (r * r - i * i) 501 0 := ciB_rt hr i (by omega)
    rw [← e] at h
    exact ⟨i, hi, h⟩
section
variable {W H cl cx0 cx1 cy0 cy1 ik op : Int32}
theorem mk_out {j : Nat} : ∀ (l : List Req) (a : M3), (¬ ∃ q, q ∈ l ∧ opnM W H cl cx0 cx1 cy0 cy1 q.1 q.2.1 ∧ ixP q.1 q.2.1 = j) → (l.foldl (mkF W H cl cx0 cx1 cy0 cy1) a).1 j = a.1 j ∧ (l.foldl (mkF W H cl cx0 cx1 cy0 cy1) a).2.1 j = a.2.1 j ∧ (l.foldl (mkF W H cl cx0 cx1 cy0 cy1) a).2.2 j = a.2.2 j
  | [], a, _ => ⟨rfl, rfl, rfl⟩
  | q :: l, a, h => by
    have h1 := mk_out (j := j) l (mkF W H cl cx0 cx1 cy0 cy1 a q) (fun ⟨q', m, h2⟩ => h ⟨q', List.mem_cons_of_mem _ m, h2⟩)
    have h2 : ¬ (opnM W H cl cx0 cx1 cy0 cy1 q.1 q.2.1 ∧ ixP q.1 q.2.1 = j) := fun h3 => h ⟨q, List.mem_cons_self, h3⟩
    show (l.foldl (mkF W H cl cx0 cx1 cy0 cy1) (mkF W H cl cx0 cx1 cy0 cy1 a q)).1 j = _ ∧ (l.foldl (mkF W H cl cx0 cx1 cy0 cy1) (mkF W H cl cx0 cx1 cy0 cy1 a q)).2.1 j = _ ∧ (l.foldl (mkF W H cl cx0 cx1 cy0 cy1) (mkF W H cl cx0 cx1 cy0 cy1 a q)).2.2 j = _
    rw [h1.1, h1.2.1, h1.2.2]
    unfold mkF
    by_cases c : opnM W H cl cx0 cx1 cy0 cy1 q.1 q.2.1
    · have hj : j ≠ ixP q.1 q.2.1 := fun e => h2 ⟨c, e.symm⟩
      rw [if_pos c, if_pos c, if_pos c]
      exact ⟨pk_un hj, pk_un hj, pk_un hj⟩
    · rw [if_neg c, if_neg c, if_neg c]
      exact ⟨rfl, rfl, rfl⟩
theorem mk_in {j : Nat} : ∀ (l : List Req) (a : M3), (∀ q, q ∈ l → q.2.2 = (ik, op)) → (∃ q, q ∈ l ∧ opnM W H cl cx0 cx1 cy0 cy1 q.1 q.2.1 ∧ ixP q.1 q.2.1 = j) → (l.foldl (mkF W H cl cx0 cx1 cy0 cy1) a).1 j = 1 ∧ (l.foldl (mkF W H cl cx0 cx1 cy0 cy1) a).2.1 j = op ∧ (l.foldl (mkF W H cl cx0 cx1 cy0 cy1) a).2.2 j = ik
  | [], a, _, ⟨q, m, _⟩ => absurd m (List.not_mem_nil)
  | q :: l, a, hu, h => by
    show (l.foldl (mkF W H cl cx0 cx1 cy0 cy1) (mkF W H cl cx0 cx1 cy0 cy1 a q)).1 j = _ ∧ (l.foldl (mkF W H cl cx0 cx1 cy0 cy1) (mkF W H cl cx0 cx1 cy0 cy1 a q)).2.1 j = _ ∧ (l.foldl (mkF W H cl cx0 cx1 cy0 cy1) (mkF W H cl cx0 cx1 cy0 cy1 a q)).2.2 j = _
    by_cases c : ∃ q, q ∈ l ∧ opnM W H cl cx0 cx1 cy0 cy1 q.1 q.2.1 ∧ ixP q.1 q.2.1 = j
    · exact mk_in l _ (fun q m => hu q (List.mem_cons_of_mem _ m)) c
    · obtain ⟨q', m, h1, h2⟩ := h
      have e : q' = q := by
        rcases List.mem_cons.mp m with e | m
        · exact e
        · exact absurd ⟨q', m, h1, h2⟩ c
      subst e
      have h3 := mk_out (j := j) l (mkF W H cl cx0 cx1 cy0 cy1 a q') c
      have h4 := hu q' List.mem_cons_self
      rw [h3.1, h3.2.1, h3.2.2]
      unfold mkF
      rw [if_pos h1, if_pos h1, if_pos h1, ← h2, h4]
      exact ⟨pk_us, pk_us, pk_us⟩
theorem mk_same {l l' : List Req} (a : M3) (hu : ∀ q, q ∈ l → q.2.2 = (ik, op)) (hm : ∀ q, q ∈ l ↔ q ∈ l') : l.foldl (mkF W H cl cx0 cx1 cy0 cy1) a = l'.foldl (mkF W H cl cx0 cx1 cy0 cy1) a := by
  have hu' : ∀ q, q ∈ l' → q.2.2 = (ik, op) := fun q m => hu q ((hm q).mpr m)
  have key : ∀ j, (l.foldl (mkF W H cl cx0 cx1 cy0 cy1) a).1 j = (l'.foldl (mkF W H cl cx0 cx1 cy0 cy1) a).1 j ∧ (l.foldl (mkF W H cl cx0 cx1 cy0 cy1) a).2.1 j = (l'.foldl (mkF W H cl cx0 cx1 cy0 cy1) a).2.1 j ∧ (l.foldl (mkF W H cl cx0 cx1 cy0 cy1) a).2.2 j = (l'.foldl (mkF W H cl cx0 cx1 cy0 cy1) a).2.2 j := by
    intro j
    by_cases c : ∃ q, q ∈ l ∧ opnM W H cl cx0 cx1 cy0 cy1 q.1 q.2.1 ∧ ixP q.1 q.2.1 = j
    · have c' : ∃ q, q ∈ l' ∧ opnM W H cl cx0 cx1 cy0 cy1 q.1 q.2.1 ∧ ixP q.1 q.2.1 = j := by
        obtain ⟨q, m, h⟩ := c
        exact ⟨q, (hm q).mp m, h⟩
      have h1 := mk_in (j := j) l a hu c
      have h2 := mk_in (j := j) l' a hu' c'
      exact ⟨h1.1.trans h2.1.symm, h1.2.1.trans h2.2.1.symm, h1.2.2.trans h2.2.2.symm⟩
    · have c' : ¬ ∃ q, q ∈ l' ∧ opnM W H cl cx0 cx1 cy0 cy1 q.1 q.2.1 ∧ ixP q.1 q.2.1 = j := fun ⟨q, m, h⟩ => c ⟨q, (hm q).mpr m, h⟩
      have h1 := mk_out (j := j) l a c
      have h2 := mk_out (j := j) l' a c'
      exact ⟨h1.1.trans h2.1.symm, h1.2.1.trans h2.2.1.symm, h1.2.2.trans h2.2.2.symm⟩
  exact Prod.ext (funext fun j => (key j).1) (Prod.ext (funext fun j => (key j).2.1) (funext fun j => (key j).2.2))
end
/-- no two requests at one place -/
def dsL (l : List Req) : Prop := l.Pairwise (fun q q' => ¬ (q.1.toInt = q'.1.toInt ∧ q.2.1.toInt = q'.2.1.toInt))
theorem ds_nd {w h bx0 by0 bx1 by1 : Int32} (hw : w.toInt ≤ 64) {l : List Req} (hl : dsL l) : ndL w h bx0 by0 bx1 by1 l := List.Pairwise.imp (fun {q q'} hq ho ho' he => hq (by
  unfold ixP at he
  constructor <;> omega)) hl
theorem pl_ti {x : Int32} {a : Nat} (hx : -2000 ≤ x.toInt ∧ x.toInt ≤ 2000) (ha : a ≤ 500) : (x + nI a).toInt = x.toInt + a ∧ (x - nI a).toInt = x.toInt - a := by
  have e : (nI a).toInt = (a : Int) := nI_toInt (by omega)
  constructor
  · rw [Int32.toInt_add, e]
    exact Int.bmod_eq_of_le (by omega) (by omega)
  · rw [Int32.toInt_sub, e]
    exact Int.bmod_eq_of_le (by omega) (by omega)
theorem fr4_key {x y ik op : Int32} {a b : Nat} {q : Req} (hx : -2000 ≤ x.toInt ∧ x.toInt ≤ 2000) (hy : -2000 ≤ y.toInt ∧ y.toInt ≤ 2000) (ha : a ≤ 500) (hb : b ≤ 500) (h : fr4 x y (nI a) (nI b) ik op q) : (q.1.toInt - x.toInt).natAbs = a ∧ (q.2.1.toInt - y.toInt).natAbs = b ∧ q.2.2 = (ik, op) := by
  have e1 := pl_ti hx ha
  have e2 := pl_ti hy hb
  rcases h with h | h | h | h <;> subst h <;> refine ⟨?_, ?_, rfl⟩ <;> dsimp only <;> omega
theorem ds_pr {x y ik op : Int32} {a : Nat} (hx : -2000 ≤ x.toInt ∧ x.toInt ≤ 2000) (ha : a ≤ 500) : dsL (prQ x (nI a) y ik op) := by
  have e1 := pl_ti hx ha
  unfold prQ dsL
  by_cases c : nI a = 0
  · rw [if_pos c]
    exact List.pairwise_singleton _ _
  · rw [if_neg c]
    have hn : ¬ a = 0 := fun e => c (by rw [e]; rfl)
    refine List.pairwise_cons.mpr ⟨fun q hq => ?_, List.pairwise_singleton _ _⟩
    rw [List.mem_singleton.mp hq]
    dsimp only
    omega
theorem ds_mi {x y ik op : Int32} {a b : Nat} (hx : -2000 ≤ x.toInt ∧ x.toInt ≤ 2000) (hy : -2000 ≤ y.toInt ∧ y.toInt ≤ 2000) (ha : a ≤ 500) (hb : b ≤ 500) : dsL (miQ x y (nI a) (nI b) ik op) := by
  have e2 := pl_ti hy hb
  unfold miQ
  by_cases c : nI b = 0
  · rw [if_pos c]
    exact ds_pr hx ha
  · rw [if_neg c]
    have hn : ¬ b = 0 := fun e => c (by rw [e]; rfl)
    refine List.pairwise_append.mpr ⟨ds_pr hx ha, ds_pr hx ha, fun q hq q' hq' => ?_⟩
    rcases mem_prQ.mp hq with e | e <;> rcases mem_prQ.mp hq' with e' | e' <;> rw [e, e'] <;> dsimp only <;> omega
theorem ds_ci {x y ik op : Int32} {r : Nat} (hx : -2000 ≤ x.toInt ∧ x.toInt ≤ 2000) (hy : -2000 ≤ y.toInt ∧ y.toInt ≤ 2000) (hr : r ≤ 500) : ∀ M, (∀ j, j < M → ¬ (r < j ∨ ciB r (j + 1) < j)) → dsL (ciL x y ik op r M)
  | 0, _ => List.Pairwise.nil
  | M + 1, h => by
    have hM := h M (by omega)
    have hb := ciB_le r (M + 1)
    show dsL (ciL x y ik op r M ++ (miQ x y (nI M) (nI (ciB r (M + 1))) ik op ++ (if M = ciB r (M + 1) then [] else miQ x y (nI (ciB r (M + 1))) (nI M) ik op)))
    refine List.pairwise_append.mpr ⟨ds_ci hx hy hr M (fun j hj => h j (by omega)), List.pairwise_append.mpr ⟨ds_mi hx hy (by omega) (by omega), ?_, ?_⟩, ?_⟩
    · by_cases c : M = ciB r (M + 1)
      · rw [if_pos c]
        exact List.Pairwise.nil
      · rw [if_neg c]
        exact ds_mi hx hy (by omega) (by omega)
    · intro q hq q' hq'
      by_cases c : M = ciB r (M + 1)
      · rw [if_pos c] at hq'
        exact absurd hq' (List.not_mem_nil)
      · rw [if_neg c] at hq'
        have k1 := fr4_key hx hy (by omega) (by omega) (mem_miQ.mp hq)
        have k2 := fr4_key hx hy (by omega) (by omega) (mem_miQ.mp hq')
        omega
    · intro q hq q' hq'
      obtain ⟨i, hi, h1⟩ := (mem_ciL M).mp hq
      have hi2 := h i (by omega)
      have hbi := ciB_le r (i + 1)
      have k1 : ((q.1.toInt - x.toInt).natAbs = i ∧ (q.2.1.toInt - y.toInt).natAbs = ciB r (i + 1)) ∨ ((q.1.toInt - x.toInt).natAbs = ciB r (i + 1) ∧ (q.2.1.toInt - y.toInt).natAbs = i) := by
        rcases h1 with h1 | h1
        · have k := fr4_key hx hy (by omega) (by omega) h1
          exact Or.inl ⟨k.1, k.2.1⟩
        · have k := fr4_key hx hy (by omega) (by omega) h1
          exact Or.inr ⟨k.1, k.2.1⟩
      have k2 : ((q'.1.toInt - x.toInt).natAbs = M ∧ (q'.2.1.toInt - y.toInt).natAbs = ciB r (M + 1)) ∨ ((q'.1.toInt - x.toInt).natAbs = ciB r (M + 1) ∧ (q'.2.1.toInt - y.toInt).natAbs = M) := by
        rcases List.mem_append.mp hq' with m | m
        · have k := fr4_key hx hy (by omega) (by omega) (mem_miQ.mp m)
          exact Or.inl ⟨k.1, k.2.1⟩
        · by_cases c : M = ciB r (M + 1)
          · rw [if_pos c] at m
            exact absurd m (List.not_mem_nil)
          · rw [if_neg c] at m
            have k := fr4_key hx hy (by omega) (by omega) (mem_miQ.mp m)
            exact Or.inr ⟨k.1, k.2.1⟩
      omega
theorem ci_uni {x y ik op : Int32} {r : Nat} (q : Req) (M : Nat) (h : q ∈ ciL x y ik op r M) : q.2.2 = (ik, op) := by
  obtain ⟨i, -, h⟩ := (mem_ciL M).mp h
  rcases h with (h | h | h | h) | (h | h | h | h) <;> rw [h]

/-! what the two sides have in common, and that calls keep it -/
def CLP (b0 b1 b2 b3 cl cx0 cx1 cy0 cy1 : Int32) : Prop := (cl = 0 ∧ b0 = 0 ∧ b1 = 0 ∧ b2 = 63 ∧ b3 = 63) ∨ (cl = 1 ∧ b0 = cx0 ∧ b1 = cy0 ∧ b2 = cx1 ∧ b3 = cy1)
theorem clp_ob {b0 b1 b2 b3 cl cx0 cx1 cy0 cy1 w h : Int32} (hc : CLP b0 b1 b2 b3 cl cx0 cx1 cy0 cy1) (hw : w.toInt ≤ 64) (hh : h.toInt ≤ 64) : ∀ x y, opnC w h b0 b1 b2 b3 x y ↔ opnM w h cl cx0 cx1 cy0 cy1 x y := by
  intro x y
  rcases hc with ⟨e0, e1, e2, e3, e4⟩ | ⟨e0, e1, e2, e3, e4⟩
  · subst e0; subst e1; subst e2; subst e3; subst e4
    have h0 : (0 : Int32).toInt = 0 := by decide
    have h1 : (63 : Int32).toInt = 63 := by decide
    unfold opnC opnM
    rw [h0, h1]
    constructor
    · intro q; exact ⟨by omega, Or.inl rfl⟩
    · intro q; omega
  · subst e0; subst e1; subst e2; subst e3; subst e4
    have h0 : (1 : Int32).toInt = 1 := by decide
    unfold opnC opnM
    rw [h0]
    constructor
    · intro q; exact ⟨by omega, Or.inr (by omega)⟩
    · intro q; omega
def Mt (gm : Nat → Nat → Int32) (k : Nat) (p : Zv) : Prop := p.1 = gm 1 k ∧ p.2.1 = gm 2 k ∧ (1 ≤ p.1.toInt ∧ p.1.toInt ≤ 64) ∧ (1 ≤ p.2.1.toInt ∧ p.2.1.toInt ≤ 64) ∧ ∀ j : Nat, j < 4096 → p.2.2 j = gm 3 (4096 * k + j)
def SZ (zv : Nat → Option Zv) (gm : Nat → Nat → Int32) : Prop := ∀ k : Nat, k < 4 → (zv k = none → gm 1 k = 0) ∧ ∀ p, zv k = some p → Mt gm k p
def RW (v : Nat → Int32) (gv : Nat → Nat → Int32) (zv : Nat → Option Zv) (nm : Nat → Int32) (gm : Nat → Nat → Int32) : Prop := (v 0 = nm 8 ∧ v 1 = nm 0 ∧ v 2 = nm 1 ∧ v 3 = nm 2) ∧ CLP (v 4) (v 5) (v 6) (v 7) (nm 3) (nm 4) (nm 5) (nm 6) (nm 7) ∧ PR (v 12) (v 13) (v 14) (gv 0) (gv 1) (gv 2) (gv 3) (nm 9) (gm 7) (gm 8) (gm 9) ∧ (gv 4 = gm 10 ∧ gv 5 = gm 11 ∧ gv 6 = gm 12) ∧ (v 8 = 0 ∧ v 9 = 0 ∧ v 10 = 63 ∧ v 11 = 63) ∧ SZ zv gm
theorem SZ_c {zv zv' : Nat → Option Zv} {gm gm' : Nat → Nat → Int32} (h : SZ zv gm) (e : ∀ k : Nat, k < 4 → eqZ (zv' k) (zv k)) (h1 : gm' 1 = gm 1) (h2 : gm' 2 = gm 2) (h3 : gm' 3 = gm 3) : SZ zv' gm' := by
  intro k hk
  obtain ⟨a, b⟩ := h k hk
  have ek := e k hk
  refine ⟨fun hn => ?_, fun p hp => ?_⟩
  · rw [hn] at ek
    cases hz : zv k with
    | none => rw [h1]; exact a hz
    | some q => rw [hz] at ek; exact (ek : False).elim
  · rw [hp] at ek
    cases hz : zv k with
    | none => rw [hz] at ek; exact (ek : False).elim
    | some q =>
      rw [hz] at ek
      obtain ⟨e1, e2, e3⟩ : p.1 = q.1 ∧ p.2.1 = q.2.1 ∧ ∀ j : Nat, j < 4096 → p.2.2 j = q.2.2 j := ek
      obtain ⟨b1, b2, b3, b4, b5⟩ := b q hz
      unfold Mt
      rw [h1, h2, h3, e1, e2]
      exact ⟨b1, b2, b3, b4, fun j hj => (e3 j hj).trans (b5 j hj)⟩
theorem RW_c {v n' nv nm' : Nat → Int32} {gv g' gw gm' : Nat → Nat → Int32} {zv : Nat → Option Zv} {sh' : Nat → Option Sh} (h : RW v gv zv nv gw) (h1 : KC v gv zv n' g' sh') (h2 : MC nv gw nm' gm') : RW n' g' (fun k => vO (sh' k)) nm' gm' := by
  obtain ⟨⟨a0, a1, a2, a3, a4, a5, a6, a7, a8, a9, a10, a11, a12, a13, a14⟩, ⟨c0, c1, c2, c3, c4, c5, c6⟩, z⟩ := h1
  obtain ⟨⟨b0, b1, b2, b3, b4, b5, b6, b7, b8, b9⟩, d1, d2, d3, d7, d8, d9, d10, d11, d12⟩ := h2
  obtain ⟨r0, r1, r2, r3, r4, r5⟩ := h
  unfold RW
  rw [a0, a1, a2, a3, a4, a5, a6, a7, a8, a9, a10, a11, a12, a13, a14, c0, c1, c2, c3, c4, c5, c6, b0, b1, b2, b3, b4, b5, b6, b7, b8, b9, d7, d8, d9, d10, d11, d12]
  exact ⟨r0, r1, r2, r3, r4, SZ_c r5 z d1 d2 d3⟩
section
variable {v nm : Nat → Int32} {gv gm : Nat → Nat → Int32} {zv : Nat → Option Zv} {k : Int32}
theorem tw (h : RW v gv zv nm gm) (hk : 0 ≤ k.toInt ∧ k.toInt ≤ 3) : (zv k.toNatClampNeg = none ∧ ¬ isM gm k) ∨ ∃ p, zv k.toNatClampNeg = some p ∧ isM gm k ∧ Mt gm k.toNatClampNeg p := by
  obtain ⟨a, b⟩ := h.2.2.2.2.2 _ (cl_lt hk.1 hk.2)
  cases hz : zv k.toNatClampNeg with
  | none =>
    refine Or.inl ⟨rfl, fun q => ?_⟩
    have q2 := q.2.2
    rw [a hz] at q2
    exact absurd q2 (by decide)
  | some p =>
    have m := b p hz
    refine Or.inr ⟨p, rfl, ⟨hk.1, hk.2, ?_⟩, m⟩
    rw [← m.1]
    have := m.2.2.1.1
    omega
theorem read_ok {bad A : Int32} {F : Zv → Int32} (h : RW v gv zv nm gm) (hd : ∀ p, isM gm k → zv k.toNatClampNeg = some p → Mt gm k.toNatClampNeg p → F p = A) : dsC zv k bad F = if isM gm k then A else bad := by
  by_cases hk : 0 ≤ k.toInt ∧ k.toInt ≤ 3
  · rcases tw h hk with ⟨h1, h2⟩ | ⟨p, h1, h2, h3⟩
    · rw [dsC_n hk h1, if_neg h2]
    · rw [dsC_y hk h1, if_pos h2]
      exact hd p h2 h1 h3
  · rw [dsC_k hk, if_neg (fun q => hk ⟨q.1, q.2.1⟩)]
theorem draw_ok {A : Int32} {X : Nat → Int32} {F : Zv → Int32} {G : Zv → Nat → Int32} (h : RW v gv zv nm gm) (hd : ∀ p, isM gm k → zv k.toNatClampNeg = some p → Mt gm k.toNatClampNeg p → F p = A ∧ (∀ j : Nat, j < 4096 → G p j = X (4096 * k.toNatClampNeg + j)) ∧ (∀ k' j : Nat, k' ≠ k.toNatClampNeg → j < 4096 → X (4096 * k' + j) = gm 3 (4096 * k' + j))) : dsC zv k (-1) F = mA gm k A ∧ RW v gv (dsG zv k G) nm (va_up gm 3 (mX gm k X)) := by
  refine ⟨read_ok h (fun p a b c => (hd p a b c).1), h.1, h.2.1, h.2.2.1, h.2.2.2.1, h.2.2.2.2.1, ?_⟩
  by_cases hk : 0 ≤ k.toInt ∧ k.toInt ≤ 3
  · rcases tw h hk with ⟨h1, h2⟩ | ⟨p, h1, h2, h3⟩
    · have e1 : dsG zv k G = zv := dsC_n hk h1
      have e2 : mX gm k X = gm 3 := if_neg h2
      rw [e1, e2, up_id (f := gm) (k := 3) rfl]
      exact h.2.2.2.2.2
    · have e1 : dsG zv k G = va_up zv k.toNatClampNeg (some (p.1, p.2.1, G p)) := dsC_y hk h1
      have e2 : mX gm k X = X := if_pos h2
      rw [e1, e2]
      obtain ⟨d1, d2, d3⟩ := hd p h2 h1 h3
      intro j hj
      obtain ⟨a, b⟩ := h.2.2.2.2.2 j hj
      by_cases q : j = k.toNatClampNeg
      · subst q
        rw [va_up_self]
        refine ⟨fun hn => by cases hn, fun p' hp' => ?_⟩
        cases hp'
        exact ⟨h3.1, h3.2.1, h3.2.2.1, h3.2.2.2.1, d2⟩
      · rw [va_up_ne _ _ q]
        refine ⟨a, fun p' hp' => ?_⟩
        obtain ⟨b1, b2, b3, b4, b5⟩ := b p' hp'
        exact ⟨b1, b2, b3, b4, fun t ht => (b5 t ht).trans (d3 j t q ht).symm⟩
  · have e1 : dsG zv k G = zv := dsC_k hk
    have e2 : mX gm k X = gm 3 := if_neg (fun q => hk ⟨q.1, q.2.1⟩)
    rw [e1, e2, up_id (f := gm) (k := 3) rfl]
    exact h.2.2.2.2.2
end
theorem dr_fin {T wy : Int32} {G d gd : Nat → Int32} {M : M3} {kk : Nat} (h1 : ∀ j : Nat, j < 4096 → G j = if M.1 j = 0 then d j else laidP wy (M.2.2 j) (d j) (M.2.1 j)) (h2 : T = nI (cntP M.1 4096)) (h3 : ∀ j : Nat, j < 4096 → d j = gd (4096 * kk + j)) : T = nI (cntP M.1 4096) ∧ (∀ j : Nat, j < 4096 → G j = lysN wy gd M.1 M.2.1 M.2.2 kk 4096 (4096 * kk + j)) ∧ (∀ k' j : Nat, k' ≠ kk → j < 4096 → lysN wy gd M.1 M.2.1 M.2.2 kk 4096 (4096 * k' + j) = gd (4096 * k' + j)) := by
  refine ⟨h2, fun j hj => ?_, fun k' j hne hj => ?_⟩
  · have e : 4096 * kk + j - 4096 * kk = j := by omega
    rw [h1 j hj]
    unfold lysN
    rw [e]
    by_cases c : M.1 j = 0
    · rw [if_pos c, if_neg (fun q => q.2.2 c)]
      exact h3 j hj
    · rw [if_neg c, if_pos ⟨by omega, by omega, c⟩, h3 j hj]
  · unfold lysN
    rw [if_neg]
    intro q
    omega
/-! the other calls -/
section
variable {n nm : Nat → Int32} {g gm : Nat → Nat → Int32} {z : Nat → Option Zv}
theorem RW_ink {a : Int32} (h : RW n g z nm gm) : RW (va_up n 1 a) g z (va_up nm 0 a) gm := ⟨⟨h.1.1, rfl, h.1.2.2⟩, h.2⟩
theorem RW_way {a b : Int32} (h : RW n g z nm gm) : RW (va_up (va_up n 2 a) 3 b) g z (va_up (va_up nm 1 a) 2 b) gm := ⟨⟨h.1.1, h.1.2.1, rfl, rfl⟩, h.2⟩
theorem RW_clip {x y z9 w9 : Int32} (h : RW n g z nm gm) : RW (va_up (va_up (va_up (va_up n 4 x) 5 y) 6 z9) 7 w9) g z (va_up (va_up (va_up (va_up (va_up nm 3 1) 4 x) 5 z9) 6 y) 7 w9) gm := ⟨h.1, Or.inr ⟨rfl, rfl, rfl, rfl, rfl⟩, h.2.2⟩
theorem RW_dash {a : Int32} (h : RW n g z nm gm) : RW (va_up n 0 a) g z (va_up nm 8 a) gm := ⟨⟨rfl, h.1.2⟩, h.2⟩
theorem RW_clear (h : RW n g z nm gm) : RW (va_up n 12 0) g z (va_up nm 9 0) gm := ⟨h.1, h.2.1, PR_0, h.2.2.2⟩
theorem RW_corner {i : Nat} {x y v : Int32} (h : RW n g z nm gm) : RW n (va_up (va_up (va_up g 4 (upd (g 4) i x)) 5 (upd (g 5) i y)) 6 (upd (g 6) i v)) z nm (va_up (va_up (va_up gm 10 (upd (gm 10) i x)) 11 (upd (gm 11) i y)) 12 (upd (gm 12) i v)) := by
  obtain ⟨r0, r1, r2, ⟨r6, r7, r8⟩, r4, r5⟩ := h
  refine ⟨r0, r1, r2, ⟨?_, ?_, ?_⟩, r4, SZ_c r5 (fun _ _ => eqZ_refl _) rfl rfl rfl⟩
  · show upd (g 4) i x = upd (gm 10) i x
    rw [r6]
  · show upd (g 5) i y = upd (gm 11) i y
    rw [r7]
  · show upd (g 6) i v = upd (gm 12) i v
    rw [r8]
theorem RW_point {u v b : Int32} (h : RW n g z nm gm) (hp : 0 ≤ (n 12).toInt ∧ (n 12).toInt < 48) : RW (va_up (va_up (va_up n 12 (n 12 + 1)) 13 (adF b (n 12) u (n 13))) 14 (adF b (n 12) v (n 14))) (va_up (va_up (va_up (va_up g 0 (upd (g 0) (n 12).toNatClampNeg u)) 1 (upd (g 1) (n 12).toNatClampNeg v)) 2 (adT b (n 12) u (n 13) (g 2))) 3 (adT b (n 12) v (n 14) (g 3))) z (va_up nm 9 (nm 9 + 1)) (va_up (va_up (va_up gm 7 (upd (gm 7) (nm 9).toNatClampNeg u)) 8 (upd (gm 8) (nm 9).toNatClampNeg v)) 9 (upd (gm 9) (nm 9).toNatClampNeg (pfP b (nm 9)))) := by
  obtain ⟨r0, r1, r2, r3, r4, r5⟩ := h
  refine ⟨r0, r1, ?_, r3, r4, SZ_c r5 (fun _ _ => eqZ_refl _) rfl rfl rfl⟩
  have e : n 12 = nm 9 := r2.1
  show PR (n 12 + 1) (adF b (n 12) u (n 13)) (adF b (n 12) v (n 14)) (upd (g 0) (n 12).toNatClampNeg u) (upd (g 1) (n 12).toNatClampNeg v) (adT b (n 12) u (n 13) (g 2)) (adT b (n 12) v (n 14) (g 3)) (nm 9 + 1) (upd (gm 7) (nm 9).toNatClampNeg u) (upd (gm 8) (nm 9).toNatClampNeg v) (upd (gm 9) (nm 9).toNatClampNeg (pfP b (nm 9)))
  rw [← e] at r2 ⊢
  exact PR_pt r2 hp
theorem RW_sheet {k : Nat} {w h : Int32} (hr : RW n g z nm gm) (hw : 1 ≤ w.toInt ∧ w.toInt ≤ 64) (hh : 1 ≤ h.toInt ∧ h.toInt ≤ 64) : RW n g (va_up z k (some (w, h, fun _ => 0))) nm (va_up (va_up (va_up gm 1 (upd (gm 1) k w)) 2 (upd (gm 2) k h)) 3 (zrK (gm 3) k 4096)) := by
  obtain ⟨r0, r1, r2, r3, r4, r5⟩ := hr
  refine ⟨r0, r1, r2, r3, r4, fun j hj => ?_⟩
  obtain ⟨a, b⟩ := r5 j hj
  by_cases q : j = k
  · subst q
    rw [va_up_self]
    refine ⟨fun hn => by cases hn, fun p hp => ?_⟩
    cases hp
    refine ⟨?_, ?_, hw, hh, fun t ht => ?_⟩
    · show w = upd (gm 1) j w j
      rw [pk_us]
    · show h = upd (gm 2) j h j
      rw [pk_us]
    · show (0 : Int32) = zrK (gm 3) j 4096 (4096 * j + t)
      exact (if_pos (by omega)).symm
  · rw [va_up_ne _ _ q]
    refine ⟨fun hn => ?_, fun p hp => ?_⟩
    · show upd (gm 1) k w j = 0
      rw [pk_un q]
      exact a hn
    · obtain ⟨b1, b2, b3, b4, b5⟩ := b p hp
      refine ⟨?_, ?_, b3, b4, fun t ht => ?_⟩
      · show p.1 = upd (gm 1) k w j
        rw [pk_un q]
        exact b1
      · show p.2.1 = upd (gm 2) k h j
        rw [pk_un q]
        exact b2
      · show p.2.2 t = zrK (gm 3) k 4096 (4096 * j + t)
        rw [b5 t ht]
        exact (if_neg (by omega)).symm
end
section
variable {n nm n' nm' : Nat → Int32} {g gm g' gm' : Nat → Nat → Int32} {sh sh' : Nat → Option Sh} {f : Nat → Option Nat}
theorem RW_sheetc {k w h : Int32} (hr : RW n g (fun k => vO (sh k)) nm gm) (h1 : if (0 ≤ k.toInt ∧ k.toInt ≤ 3) ∧ (1 ≤ w.toInt ∧ w.toInt ≤ 64) ∧ (1 ≤ h.toInt ∧ h.toInt ≤ 64) then KC n g (va_up (fun k => vO (sh k)) k.toNatClampNeg (some (w, h, fun _ => 0))) n' g' sh' else KC n g (fun k => vO (sh k)) n' g' sh') (h2 : if (0 ≤ k.toInt ∧ k.toInt ≤ 3) ∧ (1 ≤ w.toInt ∧ w.toInt ≤ 64) ∧ (1 ≤ h.toInt ∧ h.toInt ≤ 64) then MC nm (va_up (va_up (va_up gm 1 (upd (gm 1) k.toNatClampNeg w)) 2 (upd (gm 2) k.toNatClampNeg h)) 3 (zrK (gm 3) k.toNatClampNeg 4096)) nm' gm' else MC nm gm nm' gm') : RW n' g' (fun k => vO (sh' k)) nm' gm' := by
  by_cases c : (0 ≤ k.toInt ∧ k.toInt ≤ 3) ∧ (1 ≤ w.toInt ∧ w.toInt ≤ 64) ∧ (1 ≤ h.toInt ∧ h.toInt ≤ 64)
  · rw [if_pos c] at h1 h2
    exact RW_c (RW_sheet hr c.2.1 c.2.2) h1 h2
  · rw [if_neg c] at h1 h2
    exact RW_c hr h1 h2
theorem RW_pointc {x y b : Int32} (hr : RW n g (fun k => vO (sh k)) nm gm) (hok : okC n f sh) (h1 : if (n 12).toInt < 48 ∧ ((-4096 ≤ x.toInt ∧ x.toInt ≤ 4096) ∧ (-4096 ≤ y.toInt ∧ y.toInt ≤ 4096)) then (KC (va_up (va_up (va_up n 12 (n 12 + 1)) 13 (adF b (n 12) (2 * x) (n 13))) 14 (adF b (n 12) (2 * y) (n 14))) (va_up (va_up (va_up (va_up g 0 (upd (g 0) (n 12).toNatClampNeg (2 * x))) 1 (upd (g 1) (n 12).toNatClampNeg (2 * y))) 2 (adT b (n 12) (2 * x) (n 13) (g 2))) 3 (adT b (n 12) (2 * y) (n 14) (g 3))) (fun k => vO (sh k))) n' g' sh' else KC n g (fun k => vO (sh k)) n' g' sh') (h2 : if (nm 9).toInt < 48 ∧ ((-4096 ≤ x.toInt ∧ x.toInt ≤ 4096) ∧ (-4096 ≤ y.toInt ∧ y.toInt ≤ 4096)) then MC (va_up nm 9 (nm 9 + 1)) (va_up (va_up (va_up gm 7 (upd (gm 7) (nm 9).toNatClampNeg (2 * x))) 8 (upd (gm 8) (nm 9).toNatClampNeg (2 * y))) 9 (upd (gm 9) (nm 9).toNatClampNeg (pfP b (nm 9)))) nm' gm' else MC nm gm nm' gm') : RW n' g' (fun k => vO (sh' k)) nm' gm' := by
  have e : n 12 = nm 9 := hr.2.2.1.1
  by_cases c : (n 12).toInt < 48 ∧ ((-4096 ≤ x.toInt ∧ x.toInt ≤ 4096) ∧ (-4096 ≤ y.toInt ∧ y.toInt ≤ 4096))
  · have c2 := c
    rw [e] at c2
    rw [if_pos c] at h1
    rw [if_pos c2] at h2
    exact RW_c (RW_point hr ⟨hok.2.1.1, c.1⟩) h1 h2
  · have c2 := c
    rw [e] at c2
    rw [if_neg c] at h1
    rw [if_neg c2] at h2
    exact RW_c hr h1 h2
theorem RW_cornerc {i x y v : Int32} (hr : RW n g (fun k => vO (sh k)) nm gm) (h1 : if (0 ≤ i.toInt ∧ i.toInt ≤ 2) ∧ (-200 ≤ x.toInt ∧ x.toInt ≤ 200) ∧ (-200 ≤ y.toInt ∧ y.toInt ≤ 200) then KC n (va_up (va_up (va_up g 4 (upd (g 4) i.toNatClampNeg x)) 5 (upd (g 5) i.toNatClampNeg y)) 6 (upd (g 6) i.toNatClampNeg (inkP v))) (fun k => vO (sh k)) n' g' sh' else KC n g (fun k => vO (sh k)) n' g' sh') (h2 : if (0 ≤ i.toInt ∧ i.toInt ≤ 2) ∧ (-200 ≤ x.toInt ∧ x.toInt ≤ 200) ∧ (-200 ≤ y.toInt ∧ y.toInt ≤ 200) then MC nm (va_up (va_up (va_up gm 10 (upd (gm 10) i.toNatClampNeg x)) 11 (upd (gm 11) i.toNatClampNeg y)) 12 (upd (gm 12) i.toNatClampNeg (inkP v))) nm' gm' else MC nm gm nm' gm') : RW n' g' (fun k => vO (sh' k)) nm' gm' := by
  by_cases c : (0 ≤ i.toInt ∧ i.toInt ≤ 2) ∧ (-200 ≤ x.toInt ∧ x.toInt ≤ 200) ∧ (-200 ≤ y.toInt ∧ y.toInt ≤ 200)
  · rw [if_pos c] at h1 h2
    exact RW_c (RW_corner hr) h1 h2
  · rw [if_neg c] at h1 h2
    exact RW_c hr h1 h2
theorem RW_wayc {P : Prop} [Decidable P] {a b : Int32} (hr : RW n g (fun k => vO (sh k)) nm gm) (h1 : KC (va_up (va_up n 2 (if P then a else n 2)) 3 (if P then b else n 3)) g (fun k => vO (sh k)) n' g' sh') (h2 : MC (va_up (va_up nm 1 (if P then a else nm 1)) 2 (if P then b else nm 2)) gm nm' gm') : RW n' g' (fun k => vO (sh' k)) nm' gm' := by
  rw [← hr.1.2.2.1, ← hr.1.2.2.2] at h2
  exact RW_c (RW_way hr) h1 h2
theorem wd_all (h : RW n g (fun k => vO (sh k)) nm gm) (hok : okC n f sh) (hom : okM nm gm) (u v : Int32) : wnN (g 0) (g 1) (g 2) (g 3) u v (n 12).toNatClampNeg = wdN (gm 7) (gm 8) (gm 9) (nm 9).toNatClampNeg u.toInt v.toInt (nm 9).toNatClampNeg := by
  have hp := h.2.2.1
  have e : n 12 = nm 9 := hp.1
  have hb : (n 12).toNatClampNeg ≤ 48 := by have := pn_ti hok.2.1; have := hok.2.1; omega
  rw [wn_wd hp hb hom.2.2.2.1 u v _ (Nat.le_refl _), e]
theorem rw_q8 (h : RW n g (fun k => vO (sh k)) nm gm) (hok : okC n f sh) (hom : okM nm gm) : ∀ j : Nat, j < (n 12).toNatClampNeg → c8 (g 0 j) ∧ c8 (g 1 j) ∧ c8 (g 2 j) ∧ c8 (g 3 j) := by
  intro j hj
  have hb : (n 12).toNatClampNeg ≤ 48 := by have := pn_ti hok.2.1; have := hok.2.1; omega
  obtain ⟨h1, h2, h3, h4⟩ := h.2.2.1.2.1 j hj
  have ht := toN_lt (pf := gm 9) hj
  rw [h1, h2, h3, h4]
  have b1 := hom.2.2.2.1 j (by omega)
  have b2 := hom.2.2.2.1 (toN (gm 9) (n 12).toNatClampNeg j) (by omega)
  exact ⟨b1.1, b1.2, b2.1, b2.2⟩
theorem rw_tb (h : RW n g (fun k => vO (sh k)) nm gm) (hom : okM nm gm) : ∀ j : Nat, j < 3 → (-200 ≤ (g 4 j).toInt ∧ (g 4 j).toInt ≤ 200) ∧ (-200 ≤ (g 5 j).toInt ∧ (g 5 j).toInt ≤ 200) := by
  rw [h.2.2.2.1.1, h.2.2.2.1.2.1]
  exact hom.2.2.2.2
end

/-! FILL: the same places -/
theorem vJ5 (y : Nat) : vJ 5 16 (nI y) 0 = nI (32 * y + 16) := by
  unfold vJ
  rw [show nI 0 <<< ((5 : Int32) &&& 31) = 0 by decide, Int32.add_zero, show (32 : Int32) = nI 32 from rfl, show (16 : Int32) = nI 16 from rfl, pk_mul, nI_add, Nat.mul_comm]
theorem shl3 : ∀ j : Nat, j < 4 → nI j <<< ((3 : Int32) &&& 31) = nI (8 * j) := by decide
theorem vJ3 (y j : Nat) (hj : j < 4) : vJ 3 4 (nI y) j = nI (32 * y + 8 * j + 4) := by
  unfold vJ
  rw [shl3 j hj, show (32 : Int32) = nI 32 from rfl, show (4 : Int32) = nI 4 from rfl, pk_mul, nI_add, nI_add, Nat.mul_comm]
theorem sN_4 {px py pf : Nat → Int32} {pn : Nat} {ru : Int32} {X Y j : Nat} : sN px py pf pn ru X Y (4 * j + 4) = sN px py pf pn ru X Y (4 * j) + iz ru (wdN px py pf pn (nI (32 * X + 8 * 0 + 4)).toInt (nI (32 * Y + 8 * j + 4)).toInt pn) + iz ru (wdN px py pf pn (nI (32 * X + 8 * 1 + 4)).toInt (nI (32 * Y + 8 * j + 4)).toInt pn) + iz ru (wdN px py pf pn (nI (32 * X + 8 * 2 + 4)).toInt (nI (32 * Y + 8 * j + 4)).toInt pn) + iz ru (wdN px py pf pn (nI (32 * X + 8 * 3 + 4)).toInt (nI (32 * Y + 8 * j + 4)).toInt pn) := by
  show sN px py pf pn ru X Y (4 * j) + iz ru (wdN px py pf pn (nI (32 * X + 8 * ((4 * j) % 4) + 4)).toInt (nI (32 * Y + 8 * ((4 * j) / 4) + 4)).toInt pn) + iz ru (wdN px py pf pn (nI (32 * X + 8 * ((4 * j + 1) % 4) + 4)).toInt (nI (32 * Y + 8 * ((4 * j + 1) / 4) + 4)).toInt pn) + iz ru (wdN px py pf pn (nI (32 * X + 8 * ((4 * j + 2) % 4) + 4)).toInt (nI (32 * Y + 8 * ((4 * j + 2) / 4) + 4)).toInt pn) + iz ru (wdN px py pf pn (nI (32 * X + 8 * ((4 * j + 3) % 4) + 4)).toInt (nI (32 * Y + 8 * ((4 * j + 3) / 4) + 4)).toInt pn) = _
  rw [show (4 * j) % 4 = 0 by omega, show (4 * j + 1) % 4 = 1 by omega, show (4 * j + 2) % 4 = 2 by omega, show (4 * j + 3) % 4 = 3 by omega, show (4 * j) / 4 = j by omega, show (4 * j + 1) / 4 = j by omega, show (4 * j + 2) / 4 = j by omega, show (4 * j + 3) / 4 = j by omega]
theorem cf_same {qa qb qc qd px py pf : Nat → Int32} {N M : Nat} (hw : ∀ u v : Int32, wnN qa qb qc qd u v N = wdN px py pf M u.toInt v.toInt M) {ru sm : Int32} {y x : Nat} : cfC qa qb qc qd N ru sm y x = cfM px py pf M ru sm y x := by
  unfold cfC cfM
  by_cases c : sm = 0
  · rw [if_pos c, if_pos c]
    show 0 + iz ru (wnN qa qb qc qd (nI ((x * 1 + 0) * 32 + 16)) (vJ 5 16 (nI y) 0) N) = _
    rw [Int32.zero_add, hw, vJ5, show (x * 1 + 0) * 32 + 16 = 32 * x + 16 by omega]
  · rw [if_neg c, if_neg c]
    have key : ∀ j i : Nat, j < 4 → wnN qa qb qc qd (nI ((x * 4 + i) * 8 + 4)) (vJ 3 4 (nI y) j) N = wdN px py pf M (nI (32 * x + 8 * i + 4)).toInt (nI (32 * y + 8 * j + 4)).toInt M := by
      intro j i hj
      rw [hw, vJ3 y j hj, show (x * 4 + i) * 8 + 4 = 32 * x + 8 * i + 4 by omega]
    have st : ∀ j : Nat, j ≤ 4 → cvN qa qb qc qd N ru 8 4 4 3 4 (nI y) x j = sN px py pf M ru x y (4 * j) := by
      intro j
      induction j with
      | zero => intro _; rfl
      | succ j ih =>
        intro hj
        show adR (fun t => wnN qa qb qc qd (nI (t * 8 + 4)) (vJ 3 4 (nI y) j) N) ru 4 x (cvN qa qb qc qd N ru 8 4 4 3 4 (nI y) x j) 4 = sN px py pf M ru x y (4 * j + 4)
        rw [ih (by omega), sN_4, ← key j 0 (by omega), ← key j 1 (by omega), ← key j 2 (by omega), ← key j 3 (by omega)]
        rfl
    exact st 4 (Nat.le_refl 4)
theorem flQ_eq {cf cf' : Nat → Nat → Int32} {sm ik op : Int32} {j i : Nat} (h : cf j i = cf' j i) : flQ cf sm ik op j i = flQ cf' sm ik op j i := by
  unfold flQ
  rw [h]
theorem gl_ds {Q : Nat → Nat → List Req} {X Y : Nat → Int32} {W H : Nat} (hQ : ∀ j i q, q ∈ Q j i → q.1 = X i ∧ q.2.1 = Y j) (h1 : ∀ j i, (Q j i).length ≤ 1) (hX : ∀ i i' : Nat, i < i' → i' < W → (X i).toInt ≠ (X i').toInt) (hY : ∀ j j' : Nat, j < j' → j' < H → (Y j).toInt ≠ (Y j').toInt) : dsL (gL Q W H) :=
  List.Pairwise.imp (fun {a b} h q => h.elim (fun h => h q.1) (fun h => h q.2)) (gL_pw (X := fun i => (X i).toInt) (Y := fun j => (Y j).toInt) (fun j i q hq => ⟨congrArg Int32.toInt (hQ j i q hq).1, congrArg Int32.toInt (hQ j i q hq).2⟩) h1 hX H hY)
theorem nI_ne {a b N : Nat} (h : a < b) (hb : b < N) (hN : N ≤ 64) : (nI a).toInt ≠ (nI b).toInt := by
  rw [nI_toInt (by omega), nI_toInt (by omega)]
  omega
theorem fl_ds {cf : Nat → Nat → Int32} {sm ik op : Int32} {W H : Nat} (hW : W ≤ 64) (hH : H ≤ 64) : dsL (gL (flQ cf sm ik op) W H) := by
  refine gl_ds (X := nI) (Y := nI) (fun j i q hq => ?_) (fun j i => ?_) (fun i i' a b => nI_ne a b hW) (fun i i' a b => nI_ne a b hH)
  · unfold flQ at hq
    split at hq
    · exact absurd hq (List.not_mem_nil)
    · rw [List.mem_singleton.mp hq]
      exact ⟨rfl, rfl⟩
  · unfold flQ
    split <;> simp
theorem sh_ds {ua ub uc : Nat → Int32} {op : Int32} {W H : Nat} (hW : W ≤ 64) (hH : H ≤ 64) : dsL (gL (shQ ua ub uc op) W H) := by
  refine gl_ds (X := nI) (Y := nI) (fun j i q hq => ?_) (fun j i => ?_) (fun i i' a b => nI_ne a b hW) (fun i i' a b => nI_ne a b hH)
  · unfold shQ at hq
    split at hq
    · exact absurd hq (List.not_mem_nil)
    · rw [List.mem_singleton.mp hq]
      exact ⟨rfl, rfl⟩
  · unfold shQ
    split <;> simp
theorem cy_ds {ax ay aw ah ox oy ow oh w2 h2 op : Int32} {gs : Nat → Int32} {W H : Nat} (hx : -200 ≤ ox.toInt ∧ ox.toInt ≤ 200) (hy : -200 ≤ oy.toInt ∧ oy.toInt ≤ 200) (hW : W ≤ 64) (hH : H ≤ 64) : dsL (gL (cyQ ax ay aw ah ox oy ow oh w2 h2 op gs) W H) := by
  have pl : ∀ (x : Int32) (a b : Nat), (-200 ≤ x.toInt ∧ x.toInt ≤ 200) → a < b → b < 64 → (x + nI a).toInt ≠ (x + nI b).toInt := fun x a b h1 h2 h3 => by
    rw [(pl_ti (a := a) (by omega) (by omega)).1, (pl_ti (a := b) (by omega) (by omega)).1]
    omega
  refine gl_ds (X := fun i => ox + nI i) (Y := fun j => oy + nI j) (fun j i q hq => ?_) (fun j i => ?_) (fun i i' a b => pl ox i i' hx a (by omega)) (fun i i' a b => pl oy i i' hy a (by omega))
  · unfold cyQ at hq
    split at hq
    · rw [List.mem_singleton.mp hq]
      exact ⟨rfl, rfl⟩
    · exact absurd hq (List.not_mem_nil)
  · unfold cyQ
    split <;> simp
theorem cy_eq {ax ay aw ah ox oy ow oh w2 h2 op : Int32} {gs gs' : Nat → Int32} {j i : Nat} (hw : w2.toInt ≤ 64) (hh : h2.toInt ≤ 64) (h : ∀ t : Nat, t < 4096 → gs t = gs' t) : cyQ ax ay aw ah ox oy ow oh w2 h2 op gs j i = cyQ ax ay aw ah ox oy ow oh w2 h2 op gs' j i := by
  unfold cyQ
  by_cases c : 0 ≤ (cyX ax aw ow i).toInt ∧ (cyX ax aw ow i).toInt < w2.toInt ∧ 0 ≤ (cyX ay ah oh j).toInt ∧ (cyX ay ah oh j).toInt < h2.toInt
  · rw [if_pos c, if_pos c, h _ (ix_lt (by omega) (by omega) (by omega) (by omega))]
  · rw [if_neg c, if_neg c]
/-! the triangle -/
theorem eg_sc {a b c d u v : Int} : egI (16 * a) (16 * b) (16 * c) (16 * d) (16 * u) (16 * v) = egI a b c d u v := by
  have e1 : (16 * v - 16 * b) * (16 * c - 16 * a) = 256 * ((v - b) * (c - a)) := by
    rw [← Int.mul_sub, ← Int.mul_sub, Int.mul_assoc, Int.mul_left_comm (v - b) 16]
    omega
  have e2 : (16 * u - 16 * a) * (16 * d - 16 * b) = 256 * ((u - a) * (d - b)) := by
    rw [← Int.mul_sub, ← Int.mul_sub, Int.mul_assoc, Int.mul_left_comm (u - a) 16]
    omega
  unfold egI
  rw [e1, e2]
  by_cases h1 : b ≤ v ∧ v < d
  · rw [if_pos (show 16 * b ≤ 16 * v ∧ 16 * v < 16 * d by omega), if_pos h1]
    by_cases k : (v - b) * (c - a) ≤ (u - a) * (d - b)
    · rw [if_pos k, if_pos (by omega)]
    · rw [if_neg k, if_neg (by omega)]
  · rw [if_neg (show ¬ (16 * b ≤ 16 * v ∧ 16 * v < 16 * d) by omega), if_neg h1]
    by_cases h2 : d ≤ v ∧ v < b
    · rw [if_pos (show 16 * d ≤ 16 * v ∧ 16 * v < 16 * b by omega), if_pos h2]
      by_cases k : (u - a) * (d - b) ≤ (v - b) * (c - a)
      · rw [if_pos k, if_pos (by omega)]
      · rw [if_neg k, if_neg (by omega)]
    · rw [if_neg (show ¬ (16 * d ≤ 16 * v ∧ 16 * v < 16 * b) by omega), if_neg h2]
theorem d2_ti {x : Int32} (h : -200 ≤ x.toInt ∧ x.toInt ≤ 200) : (2 * x).toInt = 2 * x.toInt := by
  rw [Int32.toInt_mul, show (2 : Int32).toInt = 2 by decide]
  exact Int.bmod_eq_of_le (by omega) (by omega)
theorem u2_nI (i : Nat) : (2 : Int32) * nI i + 1 = nI (2 * i + 1) := by
  rw [show (2 : Int32) = nI 2 from rfl, show (1 : Int32) = nI 1 from rfl, pk_mul, nI_add]
def cBd (kx ky : Nat → Int32) : Prop := ∀ j : Nat, j < 3 → (-200 ≤ (kx j).toInt ∧ (kx j).toInt ≤ 200) ∧ (-200 ≤ (ky j).toInt ∧ (ky j).toInt ≤ 200)
theorem wn_tg {kx ky : Nat → Int32} {i j : Nat} (hb : cBd kx ky) (hi : i < 64) (hj : j < 64) : wnN (tq kx) (tq ky) (tr kx) (tr ky) (nI (32 * i + 16)) (nI (32 * j + 16)) 3 = tgS kx ky (2 * nI i + 1) (2 * nI j + 1) := by
  have hu : (nI (32 * i + 16)).toInt = 16 * (2 * i + 1 : Int) := by rw [nI_toInt (by omega)]; omega
  have hv : (nI (32 * j + 16)).toInt = 16 * (2 * j + 1 : Int) := by rw [nI_toInt (by omega)]; omega
  have hu2 : ((2 : Int32) * nI i + 1).toInt = (2 * i + 1 : Int) := by rw [u2_nI, nI_toInt (by omega)]; omega
  have hv2 : ((2 : Int32) * nI j + 1).toInt = (2 * j + 1 : Int) := by rw [u2_nI, nI_toInt (by omega)]; omega
  have q8 : ∀ x : Int32, (-200 ≤ x.toInt ∧ x.toInt ≤ 200) → c8 (x * 32) := fun x hx => by
    have := t32_ti hx
    unfold c8
    omega
  have one : ∀ (a b : Nat) (s : Int32), a < 3 → b < 3 → (if tnP (ky a * 32) (ky b * 32) (nI (32 * j + 16)) = 0 then s else if (frP (kx a * 32) (ky a * 32) (kx b * 32) (ky b * 32) (nI (32 * j + 16))).toInt ≤ (nI (32 * i + 16)).toInt then s + tnP (ky a * 32) (ky b * 32) (nI (32 * j + 16)) else s) = s + tgE kx ky a b (2 * nI i + 1) (2 * nI j + 1) := by
    intro a b s ha hb9
    rw [eg_eq (q8 _ (hb a ha).1) (q8 _ (hb a ha).2) (q8 _ (hb b hb9).1) (q8 _ (hb b hb9).2)]
    unfold tgE
    rw [t32_ti (hb a ha).1, t32_ti (hb a ha).2, t32_ti (hb b hb9).1, t32_ti (hb b hb9).2, hu, hv, hu2, hv2, d2_ti (hb a ha).1, d2_ti (hb a ha).2, d2_ti (hb b hb9).1, d2_ti (hb b hb9).2]
    have e : ∀ t : Int, t * 32 = 16 * (2 * t) := fun t => by omega
    rw [e, e, e, e, eg_sc]
  have s0 : wnN (tq kx) (tq ky) (tr kx) (tr ky) (nI (32 * i + 16)) (nI (32 * j + 16)) 1 = 0 + tgE kx ky 0 1 (2 * nI i + 1) (2 * nI j + 1) := one 0 1 0 (by omega) (by omega)
  have s1 : wnN (tq kx) (tq ky) (tr kx) (tr ky) (nI (32 * i + 16)) (nI (32 * j + 16)) 2 = wnN (tq kx) (tq ky) (tr kx) (tr ky) (nI (32 * i + 16)) (nI (32 * j + 16)) 1 + tgE kx ky 1 2 (2 * nI i + 1) (2 * nI j + 1) := one 1 2 _ (by omega) (by omega)
  have s2 : wnN (tq kx) (tq ky) (tr kx) (tr ky) (nI (32 * i + 16)) (nI (32 * j + 16)) 3 = wnN (tq kx) (tq ky) (tr kx) (tr ky) (nI (32 * i + 16)) (nI (32 * j + 16)) 2 + tgE kx ky 2 0 (2 * nI i + 1) (2 * nI j + 1) := one 2 0 _ (by omega) (by omega)
  rw [s2, s1, s0]
  rfl
theorem cfT_0 {kx ky : Nat → Int32} {i j : Nat} (hb : cBd kx ky) (hi : i < 64) (hj : j < 64) : cfT kx ky j i = 0 ↔ tgS kx ky (2 * nI i + 1) (2 * nI j + 1) = 0 := by
  have e : cfT kx ky j i = iz 1 (tgS kx ky (2 * nI i + 1) (2 * nI j + 1)) := by
    show 0 + iz 1 (wnN (tq kx) (tq ky) (tr kx) (tr ky) (nI ((i * 1 + 0) * 32 + 16)) (vJ 5 16 (nI j) 0) 3) = _
    rw [Int32.zero_add, vJ5, show (i * 1 + 0) * 32 + 16 = 32 * i + 16 by omega, wn_tg hb hi hj]
  rw [e]
  unfold iz
  rw [show (if (1 : Int32) = 0 then tgS kx ky (2 * nI i + 1) (2 * nI j + 1) &&& 1 = 1 else ¬ tgS kx ky (2 * nI i + 1) (2 * nI j + 1) = 0) = (¬ tgS kx ky (2 * nI i + 1) (2 * nI j + 1) = 0) from if_neg (by decide)]
  by_cases c : tgS kx ky (2 * nI i + 1) (2 * nI j + 1) = 0
  · rw [if_neg (fun q => q c)]
    exact ⟨fun _ => c, fun _ => rfl⟩
  · rw [if_pos c]
    exact ⟨fun q => absurd q (by decide), fun q => absurd q c⟩
theorem ar_aa {bx bY cx cy x y : Int32} : arP bx bY cx cy x y = aaP (2 * x + 1) (2 * y + 1) (2 * bx) (2 * bY) (2 * cx) (2 * cy) := by
  unfold arP aaP
  rw [Int32.mul_comm (2 * bY - (2 * y + 1)) (2 * cx - (2 * x + 1))]
  generalize (2 * bx - (2 * x + 1)) * (2 * cy - (2 * y + 1)) - (2 * cx - (2 * x + 1)) * (2 * bY - (2 * y + 1)) = d
  by_cases c : (0 : Int32) ≤ d
  · have c1 : 0 ≤ d.toInt := f_le (by decide) rfl c
    rw [if_pos c, if_neg (by omega)]
  · have c1 : ¬ 0 ≤ d.toInt := fn_le (by decide) rfl c
    rw [if_neg c, if_pos (by omega), Int32.zero_sub]
/-- twice the area, told in whole numbers -/
def crI (ax ay bx bY cx cy : Int) : Int := (bx - ax) * (cy - ay) - (cx - ax) * (bY - ay)
theorem mul_bd {a b M : Int} (hM : 0 ≤ M) (ha : -M ≤ a ∧ a ≤ M) (hb : -M ≤ b ∧ b ≤ M) : (a * b).natAbs ≤ (M * M).natAbs := by
  rw [Int.natAbs_mul, Int.natAbs_mul]
  exact Nat.mul_le_mul (by omega) (by omega)
theorem aa_ti {xa ya xb yb xc yc : Int32} (h1 : -1000 ≤ xa.toInt ∧ xa.toInt ≤ 1000) (h2 : -1000 ≤ ya.toInt ∧ ya.toInt ≤ 1000) (h3 : -1000 ≤ xb.toInt ∧ xb.toInt ≤ 1000) (h4 : -1000 ≤ yb.toInt ∧ yb.toInt ≤ 1000) (h5 : -1000 ≤ xc.toInt ∧ xc.toInt ≤ 1000) (h6 : -1000 ≤ yc.toInt ∧ yc.toInt ≤ 1000) : (aaP xa ya xb yb xc yc).toInt = ((crI xa.toInt ya.toInt xb.toInt yb.toInt xc.toInt yc.toInt).natAbs : Int) ∧ (crI xa.toInt ya.toInt xb.toInt yb.toInt xc.toInt yc.toInt).natAbs ≤ 8000000 := by
  have e1 : (xb - xa).toInt = xb.toInt - xa.toInt := sub8 (by omega) (by omega)
  have e2 : (yc - ya).toInt = yc.toInt - ya.toInt := sub8 (by omega) (by omega)
  have e3 : (xc - xa).toInt = xc.toInt - xa.toInt := sub8 (by omega) (by omega)
  have e4 : (yb - ya).toInt = yb.toInt - ya.toInt := sub8 (by omega) (by omega)
  have b1 := mul_bd (M := 2000) (by omega) (show -2000 ≤ xb.toInt - xa.toInt ∧ xb.toInt - xa.toInt ≤ 2000 by omega) (show -2000 ≤ yc.toInt - ya.toInt ∧ yc.toInt - ya.toInt ≤ 2000 by omega)
  have b2 := mul_bd (M := 2000) (by omega) (show -2000 ≤ xc.toInt - xa.toInt ∧ xc.toInt - xa.toInt ≤ 2000 by omega) (show -2000 ≤ yb.toInt - ya.toInt ∧ yb.toInt - ya.toInt ≤ 2000 by omega)
  have m1 : ((xb - xa) * (yc - ya)).toInt = (xb.toInt - xa.toInt) * (yc.toInt - ya.toInt) := by
    rw [Int32.toInt_mul, e1, e2]
    exact Int.bmod_eq_of_le (by omega) (by omega)
  have m2 : ((xc - xa) * (yb - ya)).toInt = (xc.toInt - xa.toInt) * (yb.toInt - ya.toInt) := by
    rw [Int32.toInt_mul, e3, e4]
    exact Int.bmod_eq_of_le (by omega) (by omega)
  have m3 : ((xb - xa) * (yc - ya) - (xc - xa) * (yb - ya)).toInt = crI xa.toInt ya.toInt xb.toInt yb.toInt xc.toInt yc.toInt := by
    rw [Int32.toInt_sub, m1, m2]
    exact Int.bmod_eq_of_le (by omega) (by omega)
  have bd : (crI xa.toInt ya.toInt xb.toInt yb.toInt xc.toInt yc.toInt).natAbs ≤ 8000000 := by
    unfold crI
    omega
  refine ⟨?_, bd⟩
  unfold aaP
  rw [m3]
  generalize crI xa.toInt ya.toInt xb.toInt yb.toInt xc.toInt yc.toInt = D at m3 bd
  by_cases c : D < 0
  · rw [if_pos c, Int32.toInt_neg, m3]
    rw [Int.bmod_eq_of_le (by omega) (by omega)]
    omega
  · rw [if_neg c, m3]
    omega
theorem sg_lo {ay bY cy K1 K2 K3 : Int} (id : ay * K1 + bY * K2 + cy * K3 = 0) (ha : ay ≤ 0) (hb : 0 < bY) (hc : 0 < cy) : (K3 ≤ 0 → K2 < 0 → K1 < 0) ∧ (0 < K3 → 0 ≤ K2 → 0 < K1) := by
  constructor
  · intro h3 h2
    have p1 : 0 < bY * -K2 := Int.mul_pos hb (by omega)
    have p2 : 0 ≤ cy * -K3 := Int.mul_nonneg (by omega) (by omega)
    rw [Int.mul_neg] at p1 p2
    apply Decidable.byContradiction
    intro q
    have p3 : 0 ≤ -ay * K1 := Int.mul_nonneg (by omega) (by omega)
    rw [Int.neg_mul] at p3
    omega
  · intro h3 h2
    have p1 : 0 ≤ bY * K2 := Int.mul_nonneg (by omega) h2
    have p2 : 0 < cy * K3 := Int.mul_pos hc h3
    apply Decidable.byContradiction
    intro q
    have p3 : 0 ≤ -ay * -K1 := Int.mul_nonneg (by omega) (by omega)
    rw [Int.neg_mul_neg] at p3
    omega
theorem sg_hi {ay bY cy K1 K2 K3 : Int} (id : ay * K1 + bY * K2 + cy * K3 = 0) (ha : 0 < ay) (hb : bY ≤ 0) (hc : cy ≤ 0) : (0 ≤ K3 → 0 < K2 → 0 ≤ K1) ∧ (K3 < 0 → K2 ≤ 0 → K1 ≤ 0) := by
  constructor
  · intro h3 h2
    have p1 : 0 ≤ -bY * K2 := Int.mul_nonneg (by omega) (by omega)
    have p2 : 0 ≤ -cy * K3 := Int.mul_nonneg (by omega) h3
    rw [Int.neg_mul] at p1 p2
    apply Decidable.byContradiction
    intro q
    have p3 : 0 < ay * -K1 := Int.mul_pos ha (by omega)
    rw [Int.mul_neg] at p3
    omega
  · intro h3 h2
    have p1 : 0 ≤ -bY * -K2 := Int.mul_nonneg (by omega) (by omega)
    have p2 : 0 ≤ -cy * -K3 := Int.mul_nonneg (by omega) (by omega)
    rw [Int.neg_mul_neg] at p1 p2
    apply Decidable.byContradiction
    intro q
    have p3 : 0 < ay * K1 := Int.mul_pos ha (by omega)
    omega
/-- an EDGE by the sign of its cross product with the place -/
def egK (ay bY K : Int) : Int32 := if ay ≤ 0 ∧ 0 < bY then (if K ≤ 0 then 1 else 0) else if bY ≤ 0 ∧ 0 < ay then (if 0 ≤ K then -1 else 0) else 0
theorem cr_eq (u v xa ya xb yb : Int) : (u - xa) * (yb - ya) - (v - ya) * (xb - xa) = -crI u v xa ya xb yb := by
  unfold crI
  have h1 := Int.mul_comm v xb
  have h2 := Int.mul_comm v xa
  have h3 := Int.mul_comm ya xb
  have h4 := Int.mul_comm ya xa
  have h5 := Int.mul_comm v u
  simp only [Int.sub_mul, Int.mul_sub]
  omega
theorem eg_K {u v xa ya xb yb : Int} : egI xa ya xb yb u v = egK (ya - v) (yb - v) (crI u v xa ya xb yb) := by
  have e := cr_eq u v xa ya xb yb
  unfold egI egK
  by_cases h1 : ya ≤ v ∧ v < yb
  · rw [if_pos h1, if_pos (show ya - v ≤ 0 ∧ 0 < yb - v by omega)]
    by_cases k : (v - ya) * (xb - xa) ≤ (u - xa) * (yb - ya)
    · rw [if_pos k, if_pos (by omega)]
    · rw [if_neg k, if_neg (by omega)]
  · rw [if_neg h1, if_neg (show ¬ (ya - v ≤ 0 ∧ 0 < yb - v) by omega)]
    by_cases h2 : yb ≤ v ∧ v < ya
    · rw [if_pos h2, if_pos (show yb - v ≤ 0 ∧ 0 < ya - v by omega)]
      by_cases k : (u - xa) * (yb - ya) ≤ (v - ya) * (xb - xa)
      · rw [if_pos k, if_pos (by omega)]
      · rw [if_neg k, if_neg (by omega)]
    · rw [if_neg h2, if_neg (show ¬ (yb - v ≤ 0 ∧ 0 < ya - v) by omega)]
def sgn3 (K1 K2 K3 : Int) : Prop := (K1 ≤ 0 ∧ K2 ≤ 0 ∧ K3 ≤ 0 ∧ K1 + K2 + K3 < 0) ∨ (0 ≤ K1 ∧ 0 ≤ K2 ∧ 0 ≤ K3 ∧ 0 < K1 + K2 + K3)
theorem ek_lo {a b K : Int} (ha : a ≤ 0) (hb : 0 < b) : egK a b K = if K ≤ 0 then 1 else 0 := if_pos ⟨ha, hb⟩
theorem ek_hi {a b K : Int} (ha : 0 < a) (hb : b ≤ 0) : egK a b K = if 0 ≤ K then -1 else 0 := (if_neg (by omega)).trans (if_pos ⟨hb, ha⟩)
theorem ek_ll {a b K : Int} (ha : a ≤ 0) (hb : b ≤ 0) : egK a b K = 0 := (if_neg (by omega)).trans (if_neg (by omega))
theorem ek_hh {a b K : Int} (ha : 0 < a) (hb : 0 < b) : egK a b K = 0 := (if_neg (by omega)).trans (if_neg (by omega))
/-- one corner on one side: up and down again -/
theorem ud {p q : Prop} [Decidable p] [Decidable q] (h : ¬ ((if p then (1 : Int32) else 0) + (if q then (-1 : Int32) else 0) = 0)) : (p ∧ ¬ q) ∨ (¬ p ∧ q) := by
  by_cases a : p <;> by_cases b : q
  · rw [if_pos a, if_pos b] at h
    exact absurd (by decide) h
  · exact Or.inl ⟨a, b⟩
  · exact Or.inr ⟨a, b⟩
  · rw [if_neg a, if_neg b] at h
    exact absurd (by decide) h
theorem tri_sgn {ay bY cy K1 K2 K3 : Int} (id : ay * K1 + bY * K2 + cy * K3 = 0) (h : ¬ (0 + egK ay bY K3 + egK bY cy K1 + egK cy ay K2 = 0)) : sgn3 K1 K2 K3 := by
  have id2 : bY * K2 + cy * K3 + ay * K1 = 0 := by omega
  have id3 : cy * K3 + ay * K1 + bY * K2 = 0 := by omega
  have z0 : ∀ x : Int32, 0 + x = x := Int32.zero_add
  have z1 : ∀ x : Int32, x + 0 = x := Int32.add_zero
  unfold sgn3
  rcases Int.lt_or_le 0 ay with a | a <;> rcases Int.lt_or_le 0 bY with b | b <;> rcases Int.lt_or_le 0 cy with c | c
  · rw [ek_hh a b, ek_hh b c, ek_hh c a] at h
    exact absurd (by decide) h
  · rw [ek_hh a b, ek_hi b c, ek_lo c a, z0, z0, Int32.add_comm] at h
    rcases ud h with ⟨p, q⟩ | ⟨p, q⟩
    · have := (sg_lo id3 c a b).1 (by omega) (by omega)
      omega
    · have := (sg_lo id3 c a b).2 (by omega) (by omega)
      omega
  · rw [ek_hi a b, ek_lo b c, ek_hh c a, z0, z1, Int32.add_comm] at h
    rcases ud h with ⟨p, q⟩ | ⟨p, q⟩
    · have := (sg_lo id2 b c a).1 (by omega) (by omega)
      omega
    · have := (sg_lo id2 b c a).2 (by omega) (by omega)
      omega
  · rw [ek_hi a b, ek_ll b c, ek_lo c a, z0, z1, Int32.add_comm] at h
    rcases ud h with ⟨p, q⟩ | ⟨p, q⟩
    · have := (sg_hi id a b c).2 (by omega) (by omega)
      omega
    · have := (sg_hi id a b c).1 (by omega) (by omega)
      omega
  · rw [ek_lo a b, ek_hh b c, ek_hi c a, z0, z1] at h
    rcases ud h with ⟨p, q⟩ | ⟨p, q⟩
    · have := (sg_lo id a b c).1 (by omega) (by omega)
      omega
    · have := (sg_lo id a b c).2 (by omega) (by omega)
      omega
  · rw [ek_lo a b, ek_hi b c, ek_ll c a, z0, z1] at h
    rcases ud h with ⟨p, q⟩ | ⟨p, q⟩
    · have := (sg_hi id2 b c a).2 (by omega) (by omega)
      omega
    · have := (sg_hi id2 b c a).1 (by omega) (by omega)
      omega
  · rw [ek_ll a b, ek_lo b c, ek_hi c a, z0, z0] at h
    rcases ud h with ⟨p, q⟩ | ⟨p, q⟩
    · have := (sg_hi id3 c a b).2 (by omega) (by omega)
      omega
    · have := (sg_hi id3 c a b).1 (by omega) (by omega)
      omega
  · rw [ek_ll a b, ek_ll b c, ek_ll c a] at h
    exact absurd (by decide) h
theorem cr_id (u v xa ya xb yb xc yc : Int) : (ya - v) * crI u v xb yb xc yc + (yb - v) * crI u v xc yc xa ya + (yc - v) * crI u v xa ya xb yb = 0 := by
  unfold crI
  generalize ya - v = a
  generalize yb - v = b
  generalize yc - v = c
  generalize xa - u = p
  generalize xb - u = q
  generalize xc - u = r
  simp only [Int.mul_sub]
  have h1 : a * (q * c) = c * (q * a) := by rw [Int.mul_left_comm, Int.mul_comm a c, Int.mul_left_comm]
  have h2 : a * (r * b) = b * (r * a) := by rw [Int.mul_left_comm, Int.mul_comm a b, Int.mul_left_comm]
  have h3 : b * (p * c) = c * (p * b) := by rw [Int.mul_left_comm, Int.mul_comm b c, Int.mul_left_comm]
  omega
theorem cr_sum (u v xa ya xb yb xc yc : Int) : crI u v xb yb xc yc + crI u v xc yc xa ya + crI u v xa ya xb yb = crI xa ya xb yb xc yc := by
  unfold crI
  have h1 := Int.mul_comm v xb
  have h2 := Int.mul_comm v xa
  have h3 := Int.mul_comm v xc
  simp only [Int.sub_mul, Int.mul_sub]
  have c1 := Int.mul_comm xa ya
  have c2 := Int.mul_comm xb ya
  have c3 := Int.mul_comm xc ya
  have c4 := Int.mul_comm xa yb
  have c5 := Int.mul_comm xc yb
  have c6 := Int.mul_comm xa yc
  have c7 := Int.mul_comm xb yc
  have c8 := Int.mul_comm u v
  have c9 := Int.mul_comm u ya
  have c10 := Int.mul_comm u yb
  have c11 := Int.mul_comm u yc
  omega
/-- INSIDE: the three parts make up the whole -/
theorem tri_key {kx ky ki : Nat → Int32} {i j : Nat} (hb : cBd kx ky) (hi : i < 64) (hj : j < 64) (h : ¬ tgS kx ky (2 * nI i + 1) (2 * nI j + 1) = 0) : ¬ wA kx ky = 0 ∧ inP kx ky ki (nI i) (nI j) = mdP kx ky ki (2 * nI i + 1) (2 * nI j + 1) (wA kx ky) := by
  have hu2 : ((2 : Int32) * nI i + 1).toInt = (2 * i + 1 : Int) := by rw [u2_nI, nI_toInt (by omega)]; omega
  have hv2 : ((2 : Int32) * nI j + 1).toInt = (2 * j + 1 : Int) := by rw [u2_nI, nI_toInt (by omega)]; omega
  obtain ⟨x0, y0⟩ := hb 0 (by omega)
  obtain ⟨x1, y1⟩ := hb 1 (by omega)
  obtain ⟨x2, y2⟩ := hb 2 (by omega)
  have dx0 := d2_ti x0
  have dx1 := d2_ti x1
  have dx2 := d2_ti x2
  have dy0 := d2_ti y0
  have dy1 := d2_ti y1
  have dy2 := d2_ti y2
  unfold tgS tgE at h
  rw [eg_K, eg_K, eg_K] at h
  have s := tri_sgn (cr_id ((2 : Int32) * nI i + 1).toInt ((2 : Int32) * nI j + 1).toInt (2 * kx 0).toInt (2 * ky 0).toInt (2 * kx 1).toInt (2 * ky 1).toInt (2 * kx 2).toInt (2 * ky 2).toInt) h
  have su := cr_sum ((2 : Int32) * nI i + 1).toInt ((2 : Int32) * nI j + 1).toInt (2 * kx 0).toInt (2 * ky 0).toInt (2 * kx 1).toInt (2 * ky 1).toInt (2 * kx 2).toInt (2 * ky 2).toInt
  have t1 := aa_ti (xa := 2 * nI i + 1) (ya := 2 * nI j + 1) (xb := 2 * kx 1) (yb := 2 * ky 1) (xc := 2 * kx 2) (yc := 2 * ky 2) (by omega) (by omega) (by omega) (by omega) (by omega) (by omega)
  have t2 := aa_ti (xa := 2 * nI i + 1) (ya := 2 * nI j + 1) (xb := 2 * kx 2) (yb := 2 * ky 2) (xc := 2 * kx 0) (yc := 2 * ky 0) (by omega) (by omega) (by omega) (by omega) (by omega) (by omega)
  have t3 := aa_ti (xa := 2 * nI i + 1) (ya := 2 * nI j + 1) (xb := 2 * kx 0) (yb := 2 * ky 0) (xc := 2 * kx 1) (yc := 2 * ky 1) (by omega) (by omega) (by omega) (by omega) (by omega) (by omega)
  have t0 := aa_ti (xa := 2 * kx 0) (ya := 2 * ky 0) (xb := 2 * kx 1) (yb := 2 * ky 1) (xc := 2 * kx 2) (yc := 2 * ky 2) (by omega) (by omega) (by omega) (by omega) (by omega) (by omega)
  rw [← su] at t0
  generalize crI ((2 : Int32) * nI i + 1).toInt ((2 : Int32) * nI j + 1).toInt (2 * kx 1).toInt (2 * ky 1).toInt (2 * kx 2).toInt (2 * ky 2).toInt = D1 at s t1 t0
  generalize crI ((2 : Int32) * nI i + 1).toInt ((2 : Int32) * nI j + 1).toInt (2 * kx 2).toInt (2 * ky 2).toInt (2 * kx 0).toInt (2 * ky 0).toInt = D2 at s t2 t0
  generalize crI ((2 : Int32) * nI i + 1).toInt ((2 : Int32) * nI j + 1).toInt (2 * kx 0).toInt (2 * ky 0).toInt (2 * kx 1).toInt (2 * ky 1).toInt = D3 at s t3 t0
  unfold sgn3 at s
  have hw : (wA kx ky).toInt = ((D1 + D2 + D3).natAbs : Int) := t0.1
  have hne : ¬ wA kx ky = 0 := fun q => by
    rw [q, show (0 : Int32).toInt = 0 by decide] at hw
    omega
  refine ⟨hne, ?_⟩
  unfold inP inS mdP
  rw [ar_aa, ar_aa, ar_aa]
  generalize aaP (2 * nI i + 1) (2 * nI j + 1) (2 * kx 1) (2 * ky 1) (2 * kx 2) (2 * ky 2) = A1 at t1 ⊢
  generalize aaP (2 * nI i + 1) (2 * nI j + 1) (2 * kx 2) (2 * ky 2) (2 * kx 0) (2 * ky 0) = A2 at t2 ⊢
  generalize aaP (2 * nI i + 1) (2 * nI j + 1) (2 * kx 0) (2 * ky 0) (2 * kx 1) (2 * ky 1) = A3 at t3 ⊢
  have a12 : (A1 + A2).toInt = A1.toInt + A2.toInt := by
    rw [Int32.toInt_add]
    exact Int.bmod_eq_of_le (by omega) (by omega)
  have a123 : (A1 + A2 + A3).toInt = A1.toInt + A2.toInt + A3.toInt := by
    rw [Int32.toInt_add, a12]
    exact Int.bmod_eq_of_le (by omega) (by omega)
  have ew : A1 + A2 + A3 = wA kx ky := Int32.toInt_inj.mp (by rw [a123, hw]; omega)
  rw [ew, if_neg hne]
theorem sh_eq {kx ky ki : Nat → Int32} {op : Int32} {W H : Nat} (hb : cBd kx ky) (hW : W ≤ 64) (hH : H ≤ 64) : gL (shQ kx ky ki op) W H = sjL kx ky ki op W H := by
  unfold sjL
  by_cases c : wA kx ky = 0
  · rw [if_pos c]
    refine gL_nil H (fun j i hj hi => ?_)
    refine if_pos ((cfT_0 hb (by omega) (by omega)).mpr (Decidable.byContradiction (fun q => ?_)))
    exact (tri_key (ki := ki) hb (show i < 64 by omega) (show j < 64 by omega) q).1 c
  · rw [if_neg c]
    refine gL_eq H (fun j i hj hi => ?_)
    unfold shQ sjQ
    by_cases q : tgS kx ky (2 * nI i + 1) (2 * nI j + 1) = 0
    · rw [if_pos q, if_pos ((cfT_0 hb (by omega) (by omega)).mpr q)]
    · rw [if_neg q, if_neg (fun e => q ((cfT_0 hb (by omega) (by omega)).mp e)), (tri_key (ki := ki) hb (show i < 64 by omega) (show j < 64 by omega) q).2]
/-! what hangs together: each place once -/
def ivS (C : Int32 → Int32 → Prop) (S : S3) : Prop := S.2.2 ≤ 4096 ∧ (∀ t : Nat, t < S.2.2 → ∃ x y, C x y ∧ S.2.1 t = nI (ixP x y)) ∧ (∀ j : Nat, j < 4096 → (¬ S.1 j = 0 ↔ ∃ t : Nat, t < S.2.2 ∧ S.2.1 t = nI j)) ∧ (∀ t t' : Nat, t < t' → t' < S.2.2 → S.2.1 t ≠ S.2.1 t') ∧ cntP S.1 4096 = S.2.2
theorem iv_z {C : Int32 → Int32 → Prop} : ivS C z3 := ⟨by show 0 ≤ 4096; omega, fun t ht => absurd ht (by show ¬ t < 0; omega), fun j _ => ⟨fun q => absurd rfl q, fun ⟨t, ht, _⟩ => absurd ht (by show ¬ t < 0; omega)⟩, fun t t' _ ht => absurd ht (by show ¬ t' < 0; omega), cnt_z 4096 (fun _ _ => rfl)⟩
theorem iv_S {C : Int32 → Int32 → Prop} [∀ x y, Decidable (C x y)] {g : Nat → Int32} {vl x y : Int32} {S : S3} (hb : ∀ x y, C x y → ixP x y < 4096) (h : ivS C S) : ivS C (rcS C g vl x y S) := by
  unfold rcS
  by_cases c : (C x y ∧ g (ixP x y) = vl) ∧ S.1 (ixP x y) = 0 ∧ S.2.2 < 4096
  · rw [if_pos c]
    obtain ⟨h1, h2, h3, h4, h5⟩ := h
    have hl := hb x y c.1.1
    refine ⟨c.2.2, fun t ht => ?_, fun j hj => ?_, fun t t' htt ht' => ?_, ?_⟩
    · have ht2 : t < S.2.2 + 1 := ht
      show ∃ x' y', C x' y' ∧ upd S.2.1 S.2.2 (nI (ixP x y)) t = nI (ixP x' y')
      by_cases q : t = S.2.2
      · rw [q, pk_us]
        exact ⟨x, y, c.1.1, rfl⟩
      · rw [pk_un q]
        exact h2 t (by omega)
    · show ¬ upd S.1 (ixP x y) 1 j = 0 ↔ ∃ t : Nat, t < S.2.2 + 1 ∧ upd S.2.1 S.2.2 (nI (ixP x y)) t = nI j
      by_cases q : j = ixP x y
      · rw [q, pk_us]
        exact ⟨fun _ => ⟨S.2.2, by omega, pk_us⟩, fun _ => by decide⟩
      · rw [pk_un q, h3 j hj]
        constructor
        · intro ⟨t, a, b⟩
          exact ⟨t, by omega, by rw [pk_un (by omega)]; exact b⟩
        · intro ⟨t, a, b⟩
          by_cases e : t = S.2.2
          · rw [e, pk_us] at b
            exact absurd ((nI_eq (by omega) (by omega)).mp b).symm q
          · rw [pk_un e] at b
            exact ⟨t, by omega, b⟩
    · have ht2 : t' < S.2.2 + 1 := ht'
      show upd S.2.1 S.2.2 (nI (ixP x y)) t ≠ upd S.2.1 S.2.2 (nI (ixP x y)) t'
      rw [pk_un (show t ≠ S.2.2 by omega)]
      by_cases q : t' = S.2.2
      · rw [q, pk_us]
        exact fun e => (h3 _ hl).mpr ⟨t, by omega, e⟩ c.2.1
      · rw [pk_un q]
        exact h4 t t' htt (by omega)
    · show cntP (upd S.1 (ixP x y) 1) 4096 = S.2.2 + 1
      rw [cnt_up1 hl c.2.1, h5]
  · rw [if_neg c]
    exact h
theorem iv_I {C : Int32 → Int32 → Prop} [∀ x y, Decidable (C x y)] {g : Nat → Int32} {vl co px py : Int32} {S : S3} (hb : ∀ x y, C x y → ixP x y < 4096) (h : ivS C S) : ∀ q, ivS C (rcI C g vl co px py S q)
  | 0 => h
  | q + 1 => by
    show ivS C (if ¬ co = 0 ∨ dX q = 0 ∨ dY q = 0 then rcS C g vl (px + dX q) (py + dY q) (rcI C g vl co px py S q) else rcI C g vl co px py S q)
    by_cases c : ¬ co = 0 ∨ dX q = 0 ∨ dY q = 0
    · rw [if_pos c]
      exact iv_S hb (iv_I hb h q)
    · rw [if_neg c]
      exact iv_I hb h q
theorem iv_O {C : Int32 → Int32 → Prop} [∀ x y, Decidable (C x y)] {g : Nat → Int32} {vl co : Int32} {S : S3} (hb : ∀ x y, C x y → ixP x y < 4096) (h : ivS C S) : ∀ i, ivS C (rcO C g vl co S i)
  | 0 => h
  | i + 1 => iv_I hb (iv_O hb h i) 9
theorem iv_sp {C : Int32 → Int32 → Prop} [∀ x y, Decidable (C x y)] {g : Nat → Int32} {x y co : Int32} (hb : ∀ x y, C x y → ixP x y < 4096) : ivS C (spS C g x y co) := iv_O hb (iv_S hb iv_z) _
theorem ed_all {C : Int32 → Int32 → Prop} [∀ x y, Decidable (C x y)] {g : Nat → Int32} {vl co : Int32} {st : S3} (hs : st.2.2 ≤ 4096) : ∀ k i : Nat, 4097 ≤ i + k → (∀ i', i' < i → i' < (rcO C g vl co st i').2.2) → (∀ i', i' < edN C g vl co st k i → i' < (rcO C g vl co st i').2.2) ∧ ¬ edN C g vl co st k i < (rcO C g vl co st (edN C g vl co st k i)).2.2
  | 0, i, hk, h => ⟨h, by have := rcO_le (C := C) (g := g) (vl := vl) (co := co) hs i; show ¬ i < _; omega⟩
  | k + 1, i, hk, h => by
    show (∀ i', i' < (if i < (rcO C g vl co st i).2.2 then edN C g vl co st k (i + 1) else i) → i' < (rcO C g vl co st i').2.2) ∧ ¬ (if i < (rcO C g vl co st i).2.2 then edN C g vl co st k (i + 1) else i) < (rcO C g vl co st (if i < (rcO C g vl co st i).2.2 then edN C g vl co st k (i + 1) else i)).2.2
    by_cases c : i < (rcO C g vl co st i).2.2
    · rw [if_pos c]
      refine ed_all hs k (i + 1) (by omega) (fun i' h' => ?_)
      by_cases q : i' = i
      · rw [q]; exact c
      · exact h i' (by omega)
    · rw [if_neg c]
      exact ⟨h, c⟩
theorem sp_eq {C C' : Int32 → Int32 → Prop} [∀ x y, Decidable (C x y)] [∀ x y, Decidable (C' x y)] {g g' : Nat → Int32} {x y co : Int32} (hC : ∀ x y, C x y ↔ C' x y) (hb : ∀ x y, C x y → ixP x y < 4096) (hg : ∀ j : Nat, j < 4096 → g j = g' j) (hx : ixP x y < 4096) : eqS (spS C g x y co) (spS C' g' x y co) := by
  unfold spS
  rw [← hg _ hx]
  have ha : (rcS C g (g (ixP x y)) x y z3).2.2 ≤ 4096 := (rcS_keep (Nat.zero_le _)).2.1
  obtain ⟨h1, h2⟩ := ed_all (C := C) (g := g) (vl := g (ixP x y)) (co := co) ha 4098 0 (by omega) (fun _ h => absurd h (by omega))
  exact sp_end hC hb hg (rcS_eq hC hb hg (eqS_refl _)) ha h1 h2
theorem px_ix {x y : Int32} (h1 : 0 ≤ x.toInt) (h2 : x.toInt < 64) (h3 : 0 ≤ y.toInt) (h4 : y.toInt < 64) : pX (nI (ixP x y)) = x ∧ pY (nI (ixP x y)) = y := by
  obtain ⟨a, ha, rfl⟩ := i_of (N := 64) h1 (by omega) (by decide)
  obtain ⟨b, hb, rfl⟩ := i_of (N := 64) h3 (by omega) (by decide)
  have e : ixP (nI a) (nI b) = b * 64 + a := by
    unfold ixP
    rw [nI_toInt (by omega), nI_toInt (by omega)]
    omega
  rw [e]
  unfold pX pY
  rw [show (64 : Int32) = nI 64 from rfl, pk_rem (by omega) (by omega) (by omega), pk_div (by omega) (by omega) (by omega), show (b * 64 + a) % 64 = a by omega, show (b * 64 + a) / 64 = b by omega]
  exact ⟨rfl, rfl⟩
theorem pl_mem {ga : Nat → Int32} {ik op : Int32} {q : Req} : ∀ n, q ∈ plL ga ik op n ↔ ∃ t, t < n ∧ q = (pX (ga t), pY (ga t), ik, op)
  | 0 => ⟨fun h => absurd h (List.not_mem_nil), fun ⟨t, h, _⟩ => absurd h (by omega)⟩
  | n + 1 => by
    show q ∈ plL ga ik op n ++ [(pX (ga n), pY (ga n), ik, op)] ↔ _
    rw [List.mem_append, pl_mem n, List.mem_singleton]
    constructor
    · intro h
      rcases h with ⟨t, a, b⟩ | h
      · exact ⟨t, by omega, b⟩
      · exact ⟨n, by omega, h⟩
    · intro ⟨t, a, b⟩
      by_cases e : t = n
      · subst e
        exact Or.inr b
      · exact Or.inl ⟨t, by omega, b⟩
section
variable {w h b0 b1 b2 b3 ik op : Int32}
theorem pl_at {S : S3} (hw : w.toInt ≤ 64) (hh : h.toInt ≤ 64) (hi : ivS (opnC w h b0 b1 b2 b3) S) {t : Nat} (ht : t < S.2.2) : ∃ x y, opnC w h b0 b1 b2 b3 x y ∧ S.2.1 t = nI (ixP x y) ∧ pX (S.2.1 t) = x ∧ pY (S.2.1 t) = y := by
  obtain ⟨x, y, hc, e⟩ := hi.2.1 t ht
  have p := px_ix (x := x) (y := y) (by omega) (by omega) (by omega) (by omega)
  exact ⟨x, y, hc, e, by rw [e]; exact p.1, by rw [e]; exact p.2⟩
theorem pl_ds {S : S3} (hw : w.toInt ≤ 64) (hh : h.toInt ≤ 64) (hi : ivS (opnC w h b0 b1 b2 b3) S) : ∀ n, n ≤ S.2.2 → dsL (plL S.2.1 ik op n)
  | 0, _ => List.Pairwise.nil
  | n + 1, hn => by
    show dsL (plL S.2.1 ik op n ++ [(pX (S.2.1 n), pY (S.2.1 n), ik, op)])
    refine List.pairwise_append.mpr ⟨pl_ds hw hh hi n (by omega), List.pairwise_singleton _ _, fun q hq q' hq' => ?_⟩
    obtain ⟨t, a, b⟩ := (pl_mem n).mp hq
    rw [b, List.mem_singleton.mp hq']
    obtain ⟨x, y, c1, c2, c3, c4⟩ := pl_at hw hh hi (t := t) (by omega)
    obtain ⟨x', y', d1, d2, d3, d4⟩ := pl_at hw hh hi (t := n) (by omega)
    dsimp only
    rw [c3, c4, d3, d4]
    intro e
    have := hi.2.2.2.1 t n a (by omega)
    rw [c2, d2] at this
    apply this
    unfold ixP
    rw [e.1, e.2]
theorem cnt_nz {a b : Nat → Int32} : ∀ n : Nat, (∀ j : Nat, j < n → (a j = 0 ↔ b j = 0)) → cntP a n = cntP b n
  | 0, _ => rfl
  | n + 1, h => by
    show cntP a n + (if a n = 0 then 0 else 1) = cntP b n + (if b n = 0 then 0 else 1)
    rw [cnt_nz n (fun j hj => h j (by omega))]
    by_cases c : a n = 0
    · rw [if_pos c, if_pos ((h n (by omega)).mp c)]
    · rw [if_neg c, if_neg (fun q => c ((h n (by omega)).mpr q))]
theorem fl_key {S : S3} {wy cl cx0 cx1 cy0 cy1 : Int32} {g : Nat → Int32} (hw : w.toInt ≤ 64) (hh : h.toInt ≤ 64) (hob : ∀ x y, opnC w h b0 b1 b2 b3 x y ↔ opnM w h cl cx0 cx1 cy0 cy1 x y) (hi : ivS (opnC w h b0 b1 b2 b3) S) : (∀ j : Nat, j < 4096 → (plL S.2.1 ik op S.2.2).foldl (layG w h b0 b1 b2 b3 wy) g j = if S.1 j = 0 then g j else laidP wy ik (g j) op) ∧ (plL S.2.1 ik op S.2.2).foldl (layT w h b0 b1 b2 b3) 0 = nI S.2.2 := by
  obtain ⟨d1, d2⟩ := draw_list (wy := wy) (g := g) (gm := fun _ => 0) (ge := fun _ => 0) (gv := fun _ => 0) hw hh hob (ds_nd hw (pl_ds (ik := ik) (op := op) hw hh hi S.2.2 (Nat.le_refl _)))
  have hin : ∀ j : Nat, j < 4096 → ¬ S.1 j = 0 → ∃ q, q ∈ plL S.2.1 ik op S.2.2 ∧ opnM w h cl cx0 cx1 cy0 cy1 q.1 q.2.1 ∧ ixP q.1 q.2.1 = j := by
    intro j hj hn
    obtain ⟨t, a, b⟩ := (hi.2.2.1 j hj).mp hn
    obtain ⟨x, y, c1, c2, c3, c4⟩ := pl_at hw hh hi a
    refine ⟨_, (pl_mem _).mpr ⟨t, a, rfl⟩, ?_, ?_⟩
    · dsimp only
      rw [c3, c4]
      exact (hob _ _).mp c1
    · dsimp only
      rw [c3, c4]
      rw [b] at c2
      exact ((nI_eq (by omega) (by have := opnC_lt hw hh c1; omega)).mp c2).symm
  have hout : ∀ j : Nat, j < 4096 → S.1 j = 0 → ¬ ∃ q, q ∈ plL S.2.1 ik op S.2.2 ∧ opnM w h cl cx0 cx1 cy0 cy1 q.1 q.2.1 ∧ ixP q.1 q.2.1 = j := by
    intro j hj h0 ⟨q, m, _, e⟩
    obtain ⟨t, a, b⟩ := (pl_mem _).mp m
    obtain ⟨x, y, c1, c2, c3, c4⟩ := pl_at hw hh hi a
    rw [b] at e
    dsimp only at e
    rw [c3, c4] at e
    exact (hi.2.2.1 j hj).mpr ⟨t, a, by rw [c2, e]⟩ h0
  have uni : ∀ q, q ∈ plL S.2.1 ik op S.2.2 → q.2.2 = (ik, op) := fun q m => by
    obtain ⟨t, a, b⟩ := (pl_mem _).mp m
    rw [b]
  refine ⟨fun j hj => ?_, ?_⟩
  · rw [d1 j hj]
    by_cases c : S.1 j = 0
    · have k := mk_out (W := w) (H := h) (cl := cl) (cx0 := cx0) (cx1 := cx1) (cy0 := cy0) (cy1 := cy1) (plL S.2.1 ik op S.2.2) (zrN (fun _ => 0) 4096, fun _ => 0, fun _ => 0) (hout j hj c)
      rw [k.1, if_pos c, if_pos (zr_at hj)]
    · have k := mk_in (W := w) (H := h) (cl := cl) (cx0 := cx0) (cx1 := cx1) (cy0 := cy0) (cy1 := cy1) (plL S.2.1 ik op S.2.2) (zrN (fun _ => 0) 4096, fun _ => 0, fun _ => 0) uni (hin j hj c)
      rw [k.1, k.2.1, k.2.2, if_neg c, if_neg (by decide)]
  · rw [d2, ← hi.2.2.2.2]
    refine congrArg nI (cnt_nz 4096 (fun j hj => ?_))
    by_cases c : S.1 j = 0
    · have k := mk_out (W := w) (H := h) (cl := cl) (cx0 := cx0) (cx1 := cx1) (cy0 := cy0) (cy1 := cy1) (plL S.2.1 ik op S.2.2) (zrN (fun _ => 0) 4096, fun _ => 0, fun _ => 0) (hout j hj c)
      rw [k.1]
      exact ⟨fun _ => c, fun _ => zr_at hj⟩
    · have k := mk_in (W := w) (H := h) (cl := cl) (cx0 := cx0) (cx1 := cx1) (cy0 := cy0) (cy1 := cy1) (plL S.2.1 ik op S.2.2) (zrN (fun _ => 0) 4096, fun _ => 0, fun _ => 0) uni (hin j hj c)
      rw [k.1]
      exact ⟨fun q => absurd q (by decide), fun q => absurd q c⟩
end

set_option maxHeartbeats 4000000 in
set_option maxRecDepth 100000 in
theorem k_X9_joins_e (l : Launch) (D : va_G) (sz : Nat) (h0 m1 m2 m3 m4 m5 m6 m7 m8 m9 m10 m11 m12 m13 : Nat) (ik wy op cl cx0 cx1 cy0 cy1 ds pn : Int32) (gw : Nat → Int32) (gh : Nat → Int32) (gd : Nat → Int32) (gm : Nat → Int32) (wt : Nat → Int32) (k x y co ic : Int32) (cI : ClassId) (cZ : ClassId) (hk : 0 ≤ k.toInt ∧ k.toInt ≤ 3) (hgw : 0 ≤ (gw k.toNatClampNeg).toInt ∧ (gw k.toNatClampNeg).toInt ≤ 64) (hgh : 0 ≤ (gh k.toNatClampNeg).toInt ∧ (gh k.toNatClampNeg).toInt ≤ 64) (hon : 0 ≤ x.toInt ∧ x.toInt < (gw k.toNatClampNeg).toInt ∧ 0 ≤ y.toInt ∧ y.toInt < (gh k.toNatClampNeg).toInt) (hcx : opnJ (gw k.toNatClampNeg) (gh k.toNatClampNeg) cl cx0 cx1 cy0 cy1 ic x y) : Met l yX9_joins (wB yX9_joins cX9_joins 15 none) ({ frames := 1, cells := 0, slots := 0, locals := 23 }) (cP D [(h0, .inr (9, [.ref m1, .ref m2, .ref m3, .int ik, .int wy, .int op, .int cl, .int cx0, .int cx1, .int cy0, .int cy1, .int ds, .ref m4, .ref m5, .ref m6, .ref m7, .ref m8, .ref m9, .int pn, .ref m10, .ref m11, .ref m12, .ref m13])), (m1, .inl (cI, 4, .inl gw)), (m2, .inl (cI, 4, .inl gh)), (m3, .inl (cI, 16384, .inl gd)), (m4, .inl (cZ, 4096, .inl gm)), (m13, .inl (cI, 4096, .inl wt))] [(cI, .int), (cZ, .boolean)] sz [.ref h0, .int k, .int x, .int y, .int co, .int ic]) (va_Qv (fun (_ : Unit) => True) (fun (_ : Unit) (t : State) => ∃ (g3 g6 : Nat → Int32), (∀ j : Nat, j < 4096 → g3 j = (spS (opnJ (gw k.toNatClampNeg) (gh k.toNatClampNeg) cl cx0 cx1 cy0 cy1 ic) (fun t => gd (4096 * k.toNatClampNeg + t)) x y co).1 j) ∧ (cntP g3 4096 = (spS (opnJ (gw k.toNatClampNeg) (gh k.toNatClampNeg) cl cx0 cx1 cy0 cy1 ic) (fun t => gd (4096 * k.toNatClampNeg + t)) x y co).2.2) ∧ cB D (va_A [(h0, .inr (9, [.ref m1, .ref m2, .ref m3, .int ik, .int wy, .int op, .int cl, .int cx0, .int cx1, .int cy0, .int cy1, .int ds, .ref m4, .ref m5, .ref m6, .ref m7, .ref m8, .ref m9, .int pn, .ref m10, .ref m11, .ref m12, .ref m13])), (m1, .inl (cI, 4, .inl gw)), (m2, .inl (cI, 4, .inl gh)), (m3, .inl (cI, 16384, .inl gd)), (m4, .inl (cZ, 4096, .inl gm)), (m13, .inl (cI, 4096, .inl wt))] sz) [(h0, .inr (9, [.ref m1, .ref m2, .ref m3, .int ik, .int wy, .int op, .int cl, .int cx0, .int cx1, .int cy0, .int cy1, .int ds, .ref m4, .ref m5, .ref m6, .ref m7, .ref m8, .ref m9, .int pn, .ref m10, .ref m11, .ref m12, .ref m13])), (m1, .inl (cI, 4, .inl gw)), (m2, .inl (cI, 4, .inl gh)), (m3, .inl (cI, 16384, .inl gd)), (m4, .inl (cZ, 4096, .inl g3)), (m13, .inl (cI, 4096, .inl g6))] [(cI, .int), (cZ, .boolean)] t) (va_A [(h0, .inr (9, [.ref m1, .ref m2, .ref m3, .int ik, .int wy, .int op, .int cl, .int cx0, .int cx1, .int cy0, .int cy1, .int ds, .ref m4, .ref m5, .ref m6, .ref m7, .ref m8, .ref m9, .int pn, .ref m10, .ref m11, .ref m12, .ref m13])), (m1, .inl (cI, 4, .inl gw)), (m2, .inl (cI, 4, .inl gh)), (m3, .inl (cI, 16384, .inl gd)), (m4, .inl (cZ, 4096, .inl gm)), (m13, .inl (cI, 4096, .inl wt))] sz)) 0 0 (va_A [(h0, .inr (9, [.ref m1, .ref m2, .ref m3, .int ik, .int wy, .int op, .int cl, .int cx0, .int cx1, .int cy0, .int cy1, .int ds, .ref m4, .ref m5, .ref m6, .ref m7, .ref m8, .ref m9, .int pn, .ref m10, .ref m11, .ref m12, .ref m13])), (m1, .inl (cI, 4, .inl gw)), (m2, .inl (cI, 4, .inl gh)), (m3, .inl (cI, 16384, .inl gd)), (m4, .inl (cZ, 4096, .inl gm)), (m13, .inl (cI, 4096, .inl wt))] sz) := by
  refine Met.ofW (cc := cX9_joins) (maxL := 15) (ret := none) (by decide) rfl ?_
  intro p e s m args below meth c s₁ B hml hv
  obtain ⟨rfl, hsz, hP, hK, hD0, hN⟩ := hv
  have hx := B.exec
  have hb := B.bytes
  have hr := B.returns
  have hts0 := atoms_spec (ws := (wB yX9_joins cX9_joins 15 none)) B.pre
  have hts : ∀ w ∈ bigW, w.before _ s = true := fun w h => hts0 w (List.mem_cons_of_mem _ h)
  have hown : s.vm.findClass RX9 = some m.cls := findClass_of_methodNamed B.named
  have hlocks := B.notSynchronized
  subst hsz
  have hD := hD0.self (sz := s.heap.size)
  generalize hAe : va_A [(h0, .inr (9, [.ref m1, .ref m2, .ref m3, .int ik, .int wy, .int op, .int cl, .int cx0, .int cx1, .int cy0, .int cy1, .int ds, .ref m4, .ref m5, .ref m6, .ref m7, .ref m8, .ref m9, .int pn, .ref m10, .ref m11, .ref m12, .ref m13])), (m1, .inl (cI, 4, .inl gw)), (m2, .inl (cI, 4, .inl gh)), (m3, .inl (cI, 16384, .inl gd)), (m4, .inl (cZ, 4096, .inl gm)), (m13, .inl (cI, 4096, .inl wt))] s.heap.size = A at hD ⊢
  have hA : ∀ q : Nat, s.heap.size ≤ q → A q := fun q h => by rw [← hAe]; exact Or.inr h
  have hS : va_S A s.heap s.heap [] := va_S.rf
  have hP : va_P D vwCl [(h0, .inr (9, [.ref m1, .ref m2, .ref m3, .int ik, .int wy, .int op, .int cl, .int cx0, .int cx1, .int cy0, .int cy1, .int ds, .ref m4, .ref m5, .ref m6, .ref m7, .ref m8, .ref m9, .int pn, .ref m10, .ref m11, .ref m12, .ref m13])), (m1, .inl (cI, 4, .inl gw)), (m2, .inl (cI, 4, .inl gh)), (m3, .inl (cI, 16384, .inl gd)), (m4, .inl (cZ, 4096, .inl gm)), (m13, .inl (cI, 4096, .inl wt))] s.heap := hP
  have hl := lv_entry ([.ref h0, .int k, .int x, .int y, .int co, .int ic]) (n := 15) (Nat.le_of_ble_eq_true rfl)
  rw [lg_entry_eq]
  generalize (lg_sl ([.ref h0, .int k, .int x, .int y, .int co, .int ic]) ++ List.replicate (15 - (lg_sl ([.ref h0, .int k, .int x, .int y, .int co, .int ic])).length) Slot.unset).toArray = ls at hl ⊢
  have hl : lv_has ls 15 [(0, .ref h0), (1, .int k), (2, .int x), (3, .int y), (4, .int co), (5, .int ic)] := hl
  clear hts0 hD0 hAe
  refine my_abs (fun R Q hR hQ => ?_)
  obtain ⟨kk, hkk, ek⟩ := i_of (x := k) (N := 4) (by omega) (by omega) (by decide)
  have ekn : k.toNatClampNeg = kk := by rw [ek]; exact nI_clamp (by omega)
  refine lv_aload_n hx hb dX9_joins_0 rfl (lv_at hl 0 rfl) ?_
  have hPc := hP.sub (ws' := [(h0, .inr (9, [.ref m1, .ref m2, .ref m3, .int ik, .int wy, .int op, .int cl, .int cx0, .int cx1, .int cy0, .int cy1, .int ds, .ref m4, .ref m5, .ref m6, .ref m7, .ref m8, .ref m9, .int pn, .ref m10, .ref m11, .ref m12, .ref m13])), (m4, .inl (cZ, 4096, .inl gm))]) [0, 4] rfl
  have hDc := hD.sub (ws' := [(h0, .inr (9, [.ref m1, .ref m2, .ref m3, .int ik, .int wy, .int op, .int cl, .int cx0, .int cx1, .int cy0, .int cy1, .int ds, .ref m4, .ref m5, .ref m6, .ref m7, .ref m8, .ref m9, .int pn, .ref m10, .ref m11, .ref m12, .ref m13])), (m4, .inl (cZ, 4096, .inl gm))]) [0, 4] (by decide) rfl
  have hKc := hK.sub (tys' := [(cZ, .boolean)]) [1] rfl
  have hFc := va_free (wc := [(h0, .inr (9, [.ref m1, .ref m2, .ref m3, .int ik, .int wy, .int op, .int cl, .int cx0, .int cx1, .int cy0, .int cy1, .int ds, .ref m4, .ref m5, .ref m6, .ref m7, .ref m8, .ref m9, .int pn, .ref m10, .ref m11, .ref m12, .ref m13])), (m4, .inl (cZ, 4096, .inl gm))]) hD hS hA [0, 4] rfl
  refine va_callv (va_runV (As := []) (rest := []) ⟨hx, hb, hml, hown, hts⟩ (k_X9_begins l D s.heap.size h0 m1 m2 m3 m4 m5 m6 m7 m8 m9 m10 m11 m12 m13 ik wy op cl cx0 cx1 cy0 cy1 ds pn gm cZ) (cwV 0 hts (gV bw_493 bw_455 bw_456 bw_391 bw_454) rfl rfl rfl (by decide +kernel) ⟨(by rw [hR]; exact Nat.le_of_ble_eq_true rfl), (by rw [hR]; exact Nat.le_of_ble_eq_true rfl)⟩) ⟨cP_blind, va_recv hKc hPc (ci := 9) (q0 := 0) rfl rfl, cP_at hPc hKc hDc hN⟩ rfl rfl hl.1 rfl (lv_room (Nat.le_of_ble_eq_true rfl)) dX9_joins_1 ⟨(by rw [hR]; exact Nat.le_of_ble_eq_true rfl), (by rw [hR]; exact Nat.le_of_ble_eq_true rfl)⟩) hS (fun q _ h => hFc q h) hFc (fun u9 t9 H1 locs ht hvm hr_1 hB hz1 hk1 hS => ?_)
  try dsimp only at hr_1
  obtain ⟨hP1, hK1, hD1⟩ := hB
  rw [ht] at hP1
  obtain ⟨hP, hD⟩ := va_join (wr := [(m1, .inl (cI, 4, .inl gw)), (m2, .inl (cI, 4, .inl gh)), (m3, .inl (cI, 16384, .inl gd)), (m13, .inl (cI, 4096, .inl wt))]) (w1 := [(h0, .inr (9, [.ref m1, .ref m2, .ref m3, .int ik, .int wy, .int op, .int cl, .int cx0, .int cx1, .int cy0, .int cy1, .int ds, .ref m4, .ref m5, .ref m6, .ref m7, .ref m8, .ref m9, .int pn, .ref m10, .ref m11, .ref m12, .ref m13])), (m4, .inl (cZ, 4096, .inl (zrN gm 4096)))]) hP hD [0, 4] [1, 2, 3, 5] rfl rfl (by decide) (by decide) hk1 hFc hP1 hD1
  clear hz1 hk1 hFc hKc hDc hPc
  generalize H1 = H at hP hS ⊢
  have hP : va_P D vwCl [(m1, .inl (cI, 4, .inl gw)), (m2, .inl (cI, 4, .inl gh)), (m3, .inl (cI, 16384, .inl gd)), (m13, .inl (cI, 4096, .inl wt)), (h0, .inr (9, [.ref m1, .ref m2, .ref m3, .int ik, .int wy, .int op, .int cl, .int cx0, .int cx1, .int cy0, .int cy1, .int ds, .ref m4, .ref m5, .ref m6, .ref m7, .ref m8, .ref m9, .int pn, .ref m10, .ref m11, .ref m12, .ref m13])), (m4, .inl (cZ, 4096, .inl (zrN gm 4096)))] H := hP
  have hD : va_D A [(m1, .inl (cI, 4, .inl gw)), (m2, .inl (cI, 4, .inl gh)), (m3, .inl (cI, 16384, .inl gd)), (m13, .inl (cI, 4096, .inl wt)), (h0, .inr (9, [.ref m1, .ref m2, .ref m3, .int ik, .int wy, .int op, .int cl, .int cx0, .int cx1, .int cy0, .int cy1, .int ds, .ref m4, .ref m5, .ref m6, .ref m7, .ref m8, .ref m9, .int pn, .ref m10, .ref m11, .ref m12, .ref m13])), (m4, .inl (cZ, 4096, .inl (zrN gm 4096)))] := hD
  refine lv_aload_n hx hb dX9_joins_4 rfl (lv_at hl 0 rfl) ?_
  refine va_get (D := D) (ci := 9) (v := .ref m3) (C := RX9) (T := TX9) (N := 23) hx hb hts hi_X9 hown hK hP 4 rfl rfl 2 (by decide) (hts _ bw_398) (fun _ h9 => h9) rfl dX9_joins_5 ?_
  refine lv_iload_n hx hb dX9_joins_8 rfl (lv_at hl 1 rfl) ?_
  refine lv_iload_n hx hb dX9_joins_9 rfl (lv_at hl 2 rfl) ?_
  refine lv_iload_n hx hb dX9_joins_10 rfl (lv_at hl 3 rfl) ?_
  have hPc := hP.sub (ws' := []) [] rfl
  have hDc := hD.sub (ws' := []) [] (by decide) rfl
  have hKc := hK.sub (tys' := []) [] rfl
  have hFc := va_free (wc := []) hD hS hA [] rfl
  refine va_calli (va_runS (As := [.int k, .int x, .int y]) (rest := [.ref m3]) ⟨hx, hb, hml, hown, hts⟩ (k_X9_spot l D H.size k x y) (va_cwS 3 hts (gS bw_551 bw_421 bw_391 bw_420) rfl rfl rfl (by decide +kernel) ⟨(by rw [hR]; exact Nat.le_of_ble_eq_true rfl), (by rw [hR]; exact Nat.le_of_ble_eq_true rfl)⟩) ⟨cP_blind, cP_at hPc hKc hDc hN⟩ rfl rfl hl.1 rfl (lv_room (Nat.le_of_ble_eq_true rfl)) dX9_joins_11 ⟨(by rw [hR]; exact Nat.le_of_ble_eq_true rfl), (by rw [hR]; exact Nat.le_of_ble_eq_true rfl)⟩) hS (fun q _ h => hFc q h) hFc (fun r_2 u9 t9 H1 locs ht hvm hr_2 hB hz1 hk1 hS => ?_)
  try dsimp only at hr_2
  have hP1 : va_P D vwCl [] H1 := vP_nil
  have hD1 : va_D (va_A [] H.size) [] := vD_nil
  obtain ⟨hP, hD⟩ := va_join (wr := [(m1, .inl (cI, 4, .inl gw)), (m2, .inl (cI, 4, .inl gh)), (m3, .inl (cI, 16384, .inl gd)), (m13, .inl (cI, 4096, .inl wt)), (h0, .inr (9, [.ref m1, .ref m2, .ref m3, .int ik, .int wy, .int op, .int cl, .int cx0, .int cx1, .int cy0, .int cy1, .int ds, .ref m4, .ref m5, .ref m6, .ref m7, .ref m8, .ref m9, .int pn, .ref m10, .ref m11, .ref m12, .ref m13])), (m4, .inl (cZ, 4096, .inl (zrN gm 4096)))]) (w1 := []) hP hD [] [0, 1, 2, 3, 4, 5] rfl rfl (by decide) (by decide) hk1 hFc hP1 hD1
  clear hz1 hk1 hFc hKc hDc hPc
  generalize H1 = H at hP hS ⊢
  have hP : va_P D vwCl [(m1, .inl (cI, 4, .inl gw)), (m2, .inl (cI, 4, .inl gh)), (m3, .inl (cI, 16384, .inl gd)), (m13, .inl (cI, 4096, .inl wt)), (h0, .inr (9, [.ref m1, .ref m2, .ref m3, .int ik, .int wy, .int op, .int cl, .int cx0, .int cx1, .int cy0, .int cy1, .int ds, .ref m4, .ref m5, .ref m6, .ref m7, .ref m8, .ref m9, .int pn, .ref m10, .ref m11, .ref m12, .ref m13])), (m4, .inl (cZ, 4096, .inl (zrN gm 4096)))] H := hP
  have hD : va_D A [(m1, .inl (cI, 4, .inl gw)), (m2, .inl (cI, 4, .inl gh)), (m3, .inl (cI, 16384, .inl gd)), (m13, .inl (cI, 4096, .inl wt)), (h0, .inr (9, [.ref m1, .ref m2, .ref m3, .int ik, .int wy, .int op, .int cl, .int cx0, .int cx1, .int cy0, .int cy1, .int ds, .ref m4, .ref m5, .ref m6, .ref m7, .ref m8, .ref m9, .int pn, .ref m10, .ref m11, .ref m12, .ref m13])), (m4, .inl (cZ, 4096, .inl (zrN gm 4096)))] := hD
  refine va_iald hx hb hK hP 2 0 rfl rfl (by rw [hr_2]; exact sp_in (by omega) (by omega) (by omega) (by omega) (by omega) (by omega)) dX9_joins_14 ?_
  refine my_fold (v := (gd (4096 * k.toNatClampNeg + ixP x y))) (congrArg gd (by rw [hr_2]; exact sp_cl (by omega) (by omega) (by omega) (by omega) (by omega) (by omega))) ?_
  refine lv_istore (lv' := [(6, .int (gd (4096 * k.toNatClampNeg + ixP x y))), (0, .ref h0), (1, .int k), (2, .int x), (3, .int y), (4, .int co), (5, .int ic)]) hx hb dX9_joins_15 hl (by decide) rfl (fun ls hl => ?_)
  refine lv_iconst (v := 1) hx hb dX9_joins_17 (by decide) ?_
  refine lv_istore (lv' := [(7, .int 1), (6, .int (gd (4096 * k.toNatClampNeg + ixP x y))), (0, .ref h0), (1, .int k), (2, .int x), (3, .int y), (4, .int co), (5, .int ic)]) hx hb dX9_joins_18 hl (by decide) rfl (fun ls hl => ?_)
  refine lv_iconst (v := 0) hx hb dX9_joins_20 (by decide) ?_
  refine lv_istore (lv' := [(8, .int 0), (7, .int 1), (6, .int (gd (4096 * k.toNatClampNeg + ixP x y))), (0, .ref h0), (1, .int k), (2, .int x), (3, .int y), (4, .int co), (5, .int ic)]) hx hb dX9_joins_21 hl (by decide) rfl (fun ls hl => ?_)
  refine lv_aload_n hx hb dX9_joins_23 rfl (lv_at hl 3 rfl) ?_
  refine va_get (D := D) (ci := 9) (v := .ref m13) (C := RX9) (T := TX9) (N := 23) hx hb hts hi_X9 hown hK hP 4 rfl rfl 22 (by decide) (hts _ bw_413) (fun _ h9 => h9) rfl dX9_joins_24 ?_
  refine lv_iconst (v := 0) hx hb dX9_joins_27 (by decide) ?_
  refine lv_bipush (v := 64) hx hb dX9_joins_28 (by decide) ?_
  refine lv_iload_n hx hb dX9_joins_30 rfl (lv_at hl 6 rfl) ?_
  refine lv_imul hx hb dX9_joins_31 ?_
  refine lv_topi (fun y_3 ey_3 => ?_)
  refine lv_iload_n hx hb dX9_joins_32 rfl (lv_at hl 5 rfl) ?_
  refine lv_iadd hx hb dX9_joins_33 ?_
  refine lv_topi (fun y_4 ey_4 => ?_)
  refine va_iast hx hb hK hP hD hS 3 0 rfl rfl (my_in (by decide) (by decide)) dX9_joins_34 (fun H locs hP hD hS => ?_)
  have hP : va_P D vwCl [(m1, .inl (cI, 4, .inl gw)), (m2, .inl (cI, 4, .inl gh)), (m3, .inl (cI, 16384, .inl gd)), (m13, .inl (cI, 4096, .inl (upd wt (0 : Int32).toNatClampNeg y_4))), (h0, .inr (9, [.ref m1, .ref m2, .ref m3, .int ik, .int wy, .int op, .int cl, .int cx0, .int cx1, .int cy0, .int cy1, .int ds, .ref m4, .ref m5, .ref m6, .ref m7, .ref m8, .ref m9, .int pn, .ref m10, .ref m11, .ref m12, .ref m13])), (m4, .inl (cZ, 4096, .inl (zrN gm 4096)))] H := hP
  have hD : va_D A [(m1, .inl (cI, 4, .inl gw)), (m2, .inl (cI, 4, .inl gh)), (m3, .inl (cI, 16384, .inl gd)), (m13, .inl (cI, 4096, .inl (upd wt (0 : Int32).toNatClampNeg y_4))), (h0, .inr (9, [.ref m1, .ref m2, .ref m3, .int ik, .int wy, .int op, .int cl, .int cx0, .int cx1, .int cy0, .int cy1, .int ds, .ref m4, .ref m5, .ref m6, .ref m7, .ref m8, .ref m9, .int pn, .ref m10, .ref m11, .ref m12, .ref m13])), (m4, .inl (cZ, 4096, .inl (zrN gm 4096)))] := hD
  generalize eg_5 : upd wt (0 : Int32).toNatClampNeg y_4 = g_5 at hP hD
  have hP : va_P D vwCl [(m1, .inl (cI, 4, .inl gw)), (m2, .inl (cI, 4, .inl gh)), (m3, .inl (cI, 16384, .inl gd)), (m13, .inl (cI, 4096, .inl g_5)), (h0, .inr (9, [.ref m1, .ref m2, .ref m3, .int ik, .int wy, .int op, .int cl, .int cx0, .int cx1, .int cy0, .int cy1, .int ds, .ref m4, .ref m5, .ref m6, .ref m7, .ref m8, .ref m9, .int pn, .ref m10, .ref m11, .ref m12, .ref m13])), (m4, .inl (cZ, 4096, .inl (zrN gm 4096)))] H := hP
  have hD : va_D A [(m1, .inl (cI, 4, .inl gw)), (m2, .inl (cI, 4, .inl gh)), (m3, .inl (cI, 16384, .inl gd)), (m13, .inl (cI, 4096, .inl g_5)), (h0, .inr (9, [.ref m1, .ref m2, .ref m3, .int ik, .int wy, .int op, .int cl, .int cx0, .int cx1, .int cy0, .int cy1, .int ds, .ref m4, .ref m5, .ref m6, .ref m7, .ref m8, .ref m9, .int pn, .ref m10, .ref m11, .ref m12, .ref m13])), (m4, .inl (cZ, 4096, .inl (zrN gm 4096)))] := hD
  refine lv_aload_n hx hb dX9_joins_35 rfl (lv_at hl 3 rfl) ?_
  refine va_get (D := D) (ci := 9) (v := .ref m4) (C := RX9) (T := TX9) (N := 23) hx hb hts hi_X9 hown hK hP 4 rfl rfl 12 (by decide) (hts _ bw_404) (fun _ h9 => h9) rfl dX9_joins_36 ?_
  refine lv_aload_n hx hb dX9_joins_39 rfl (lv_at hl 3 rfl) ?_
  refine va_get (D := D) (ci := 9) (v := .ref m13) (C := RX9) (T := TX9) (N := 23) hx hb hts hi_X9 hown hK hP 4 rfl rfl 22 (by decide) (hts _ bw_413) (fun _ h9 => h9) rfl dX9_joins_40 ?_
  refine lv_iconst (v := 0) hx hb dX9_joins_43 (by decide) ?_
  refine va_iald hx hb hK hP 3 0 rfl rfl (my_in (by decide) (by decide)) dX9_joins_44 ?_
  refine my_fold (v := y_4) (by rw [← eg_5]; exact pk_us) ?_
  refine lv_iconst (v := 1) hx hb dX9_joins_45 (by decide) ?_
  refine va_zast hx hb hK hP hD hS 5 1 rfl rfl (by rw [ey_4, ey_3]; exact ix_in2 (by omega) (by omega) (by omega) (by omega)) dX9_joins_46 (fun H locs hP hD hS => ?_)
  have hP : va_P D vwCl [(m1, .inl (cI, 4, .inl gw)), (m2, .inl (cI, 4, .inl gh)), (m3, .inl (cI, 16384, .inl gd)), (m13, .inl (cI, 4096, .inl g_5)), (h0, .inr (9, [.ref m1, .ref m2, .ref m3, .int ik, .int wy, .int op, .int cl, .int cx0, .int cx1, .int cy0, .int cy1, .int ds, .ref m4, .ref m5, .ref m6, .ref m7, .ref m8, .ref m9, .int pn, .ref m10, .ref m11, .ref m12, .ref m13])), (m4, .inl (cZ, 4096, .inl (upd (zrN gm 4096) y_4.toNatClampNeg (vp_nar .boolean 1))))] H := hP
  have hD : va_D A [(m1, .inl (cI, 4, .inl gw)), (m2, .inl (cI, 4, .inl gh)), (m3, .inl (cI, 16384, .inl gd)), (m13, .inl (cI, 4096, .inl g_5)), (h0, .inr (9, [.ref m1, .ref m2, .ref m3, .int ik, .int wy, .int op, .int cl, .int cx0, .int cx1, .int cy0, .int cy1, .int ds, .ref m4, .ref m5, .ref m6, .ref m7, .ref m8, .ref m9, .int pn, .ref m10, .ref m11, .ref m12, .ref m13])), (m4, .inl (cZ, 4096, .inl (upd (zrN gm 4096) y_4.toNatClampNeg (vp_nar .boolean 1))))] := hD
  generalize eg_6 : upd (zrN gm 4096) y_4.toNatClampNeg (vp_nar .boolean 1) = g_6 at hP hD
  have hP : va_P D vwCl [(m1, .inl (cI, 4, .inl gw)), (m2, .inl (cI, 4, .inl gh)), (m3, .inl (cI, 16384, .inl gd)), (m13, .inl (cI, 4096, .inl g_5)), (h0, .inr (9, [.ref m1, .ref m2, .ref m3, .int ik, .int wy, .int op, .int cl, .int cx0, .int cx1, .int cy0, .int cy1, .int ds, .ref m4, .ref m5, .ref m6, .ref m7, .ref m8, .ref m9, .int pn, .ref m10, .ref m11, .ref m12, .ref m13])), (m4, .inl (cZ, 4096, .inl g_6))] H := hP
  have hD : va_D A [(m1, .inl (cI, 4, .inl gw)), (m2, .inl (cI, 4, .inl gh)), (m3, .inl (cI, 16384, .inl gd)), (m13, .inl (cI, 4096, .inl g_5)), (h0, .inr (9, [.ref m1, .ref m2, .ref m3, .int ik, .int wy, .int op, .int cl, .int cx0, .int cx1, .int cy0, .int cy1, .int ds, .ref m4, .ref m5, .ref m6, .ref m7, .ref m8, .ref m9, .int pn, .ref m10, .ref m11, .ref m12, .ref m13])), (m4, .inl (cZ, 4096, .inl g_6))] := hD
  have hy0 : y_4 = nI (ixP x y) := by rw [ey_4, ey_3]; exact ix_nI2 (by omega) (by omega) (by omega) (by omega)
  have hyc : y_4.toNatClampNeg = ixP x y := by rw [hy0]; exact nI_clamp (by have := ix_lt (x := x) (y := y) (by omega) (by omega) (by omega) (by omega); omega)
  have hixl : ixP x y < 4096 := ix_lt (by omega) (by omega) (by omega) (by omega)
  obtain ⟨st1, est1⟩ : ∃ q : S3, q = (upd (zrN gm 4096) (ixP x y) 1, upd wt 0 (nI (ixP x y)), 1) := ⟨_, rfl⟩
  have hg4 : g_6 = st1.1 := by rw [est1, ← eg_6, hyc]; rfl
  have hg13 : g_5 = st1.2.1 := by rw [est1, ← eg_5, hy0]; rfl
  have hs1 : st1.2.2 = 1 := by rw [est1]
  have hc0 : cntP st1.1 4096 = 1 := by rw [est1]; show cntP (upd (zrN gm 4096) (ixP x y) 1) 4096 = 1; rw [cnt_up1 hixl (zr_at hixl), cnt_zr]
  have loop_7 : ∀ (n : Nat) (dn : Nat) (x7 : Int32) (x8 : Int32) (gq : Nat → Int32) (gt : Nat → Int32) (H : Heap) (locs : List Loc) (ls : Array Slot), (4098 ≤ dn + n) → (dn ≤ (rcO (opnJ (gw k.toNatClampNeg) (gh k.toNatClampNeg) cl cx0 cx1 cy0 cy1 ic) (fun t => gd (4096 * k.toNatClampNeg + t)) (gd (4096 * k.toNatClampNeg + ixP x y)) co st1 dn).2.2) → (x7 = nI (rcO (opnJ (gw k.toNatClampNeg) (gh k.toNatClampNeg) cl cx0 cx1 cy0 cy1 ic) (fun t => gd (4096 * k.toNatClampNeg + t)) (gd (4096 * k.toNatClampNeg + ixP x y)) co st1 dn).2.2) → (x8 = nI dn) → (gq = (rcO (opnJ (gw k.toNatClampNeg) (gh k.toNatClampNeg) cl cx0 cx1 cy0 cy1 ic) (fun t => gd (4096 * k.toNatClampNeg + t)) (gd (4096 * k.toNatClampNeg + ixP x y)) co st1 dn).1) → (gt = (rcO (opnJ (gw k.toNatClampNeg) (gh k.toNatClampNeg) cl cx0 cx1 cy0 cy1 ic) (fun t => gd (4096 * k.toNatClampNeg + t)) (gd (4096 * k.toNatClampNeg + ixP x y)) co st1 dn).2.1) → (cntP (rcO (opnJ (gw k.toNatClampNeg) (gh k.toNatClampNeg) cl cx0 cx1 cy0 cy1 ic) (fun t => gd (4096 * k.toNatClampNeg + t)) (gd (4096 * k.toNatClampNeg + ixP x y)) co st1 dn).1 4096 = (rcO (opnJ (gw k.toNatClampNeg) (gh k.toNatClampNeg) cl cx0 cx1 cy0 cy1 ic) (fun t => gd (4096 * k.toNatClampNeg + t)) (gd (4096 * k.toNatClampNeg + ixP x y)) co st1 dn).2.2) → (∀ i' : Nat, i' < dn → i' < (rcO (opnJ (gw k.toNatClampNeg) (gh k.toNatClampNeg) cl cx0 cx1 cy0 cy1 ic) (fun t => gd (4096 * k.toNatClampNeg + t)) (gd (4096 * k.toNatClampNeg + ixP x y)) co st1 i').2.2) → va_P D vwCl [(m1, .inl (cI, 4, .inl gw)), (m2, .inl (cI, 4, .inl gh)), (m3, .inl (cI, 16384, .inl gd)), (m13, .inl (cI, 4096, .inl gt)), (h0, .inr (9, [.ref m1, .ref m2, .ref m3, .int ik, .int wy, .int op, .int cl, .int cx0, .int cx1, .int cy0, .int cy1, .int ds, .ref m4, .ref m5, .ref m6, .ref m7, .ref m8, .ref m9, .int pn, .ref m10, .ref m11, .ref m12, .ref m13])), (m4, .inl (cZ, 4096, .inl gq))] H → va_D A [(m1, .inl (cI, 4, .inl gw)), (m2, .inl (cI, 4, .inl gh)), (m3, .inl (cI, 16384, .inl gd)), (m13, .inl (cI, 4096, .inl gt)), (h0, .inr (9, [.ref m1, .ref m2, .ref m3, .int ik, .int wy, .int op, .int cl, .int cx0, .int cx1, .int cy0, .int cy1, .int ds, .ref m4, .ref m5, .ref m6, .ref m7, .ref m8, .ref m9, .int pn, .ref m10, .ref m11, .ref m12, .ref m13])), (m4, .inl (cZ, 4096, .inl gq))] → va_S A s.heap H locs → lv_has ls 15 [(8, .int x8), (7, .int x7), (6, .int (gd (4096 * k.toNatClampNeg + ixP x y))), (0, .ref h0), (1, .int k), (2, .int x), (3, .int y), (4, .int co), (5, .int ic)] → W p l e R s m ([.ref h0, .int k, .int x, .int y, .int co, .int ic] : List Value).toArray below meth c H locs 0 0 Q (F0 m 47 ls []) := by
    intro n
    induction n with
    | zero =>
      intro dn x7 x8 gq gt H locs ls hm hd e7 e8 q3 q2 hcn hall hP hD hS hl
      exact absurd (show False by have := cntP_le (rcO (opnJ (gw k.toNatClampNeg) (gh k.toNatClampNeg) cl cx0 cx1 cy0 cy1 ic) (fun t => gd (4096 * k.toNatClampNeg + t)) (gd (4096 * k.toNatClampNeg + ixP x y)) co st1 dn).1 4096; omega) not_false
    | succ n ih_8 =>
      intro dn x7 x8 gq gt H locs ls hm hd e7 e8 q3 q2 hcn hall hP hD hS hl
      have hmy : (rcO (opnJ (gw k.toNatClampNeg) (gh k.toNatClampNeg) cl cx0 cx1 cy0 cy1 ic) (fun t => gd (4096 * k.toNatClampNeg + t)) (gd (4096 * k.toNatClampNeg + ixP x y)) co st1 dn).2.2 ≤ 4096 := by rw [← hcn]; exact cntP_le _ 4096
      have hx8 : x8.toInt = (dn : Int) := by rw [e8]; exact nI_toInt (by omega)
      have hc_dn : x8.toNatClampNeg = dn := by rw [e8]; exact nI_clamp (by omega)
      have hx7 : x7.toInt = (((rcO (opnJ (gw k.toNatClampNeg) (gh k.toNatClampNeg) cl cx0 cx1 cy0 cy1 ic) (fun t => gd (4096 * k.toNatClampNeg + t)) (gd (4096 * k.toNatClampNeg + ixP x y)) co st1 dn).2.2 : Nat) : Int) := by rw [e7]; exact nI_toInt (by omega)
      refine lv_iload hx hb dX9_joins_47 (lv_at hl 0 rfl) ?_
      refine lv_iload hx hb dX9_joins_49 (lv_at hl 1 rfl) ?_
      refine lv_icmp_ge (tgt := 247) hx hb dX9_joins_51 (by decide) (fun c_9 => ?_) (fun c_9 => ?_)
      · skip
        have f_10 : (((rcO (opnJ (gw k.toNatClampNeg) (gh k.toNatClampNeg) cl cx0 cx1 cy0 cy1 ic) (fun t => gd (4096 * k.toNatClampNeg + t)) (gd (4096 * k.toNatClampNeg + ixP x y)) co st1 dn).2.2 : Nat) : Int) ≤ (dn : Int) := f_le hx7 hx8 c_9
        have hEQ : eqS (rcO (opnJ (gw k.toNatClampNeg) (gh k.toNatClampNeg) cl cx0 cx1 cy0 cy1 ic) (fun t => gd (4096 * k.toNatClampNeg + t)) (gd (4096 * k.toNatClampNeg + ixP x y)) co st1 dn) (spS (opnJ (gw k.toNatClampNeg) (gh k.toNatClampNeg) cl cx0 cx1 cy0 cy1 ic) (fun t => gd (4096 * k.toNatClampNeg + t)) x y co) := (sp_end (C := (opnJ (gw k.toNatClampNeg) (gh k.toNatClampNeg) cl cx0 cx1 cy0 cy1 ic)) (C' := (opnJ (gw k.toNatClampNeg) (gh k.toNatClampNeg) cl cx0 cx1 cy0 cy1 ic)) (g := (fun t => gd (4096 * k.toNatClampNeg + t))) (g' := (fun t => gd (4096 * k.toNatClampNeg + t))) (fun _ _ => Iff.rfl) (fun _ _ q => opnJ_lt (by omega) (by omega) q) (fun _ _ => rfl) (a := st1) (b := rcS (opnJ (gw k.toNatClampNeg) (gh k.toNatClampNeg) cl cx0 cx1 cy0 cy1 ic) (fun t => gd (4096 * k.toNatClampNeg + t)) (gd (4096 * k.toNatClampNeg + ixP x y)) x y z3) (by rw [est1]; exact j_start (g := (fun t => gd (4096 * k.toNatClampNeg + t))) hcx) (by omega) hall (by omega))
        have hP9 := hP.sub (ws' := [(h0, .inr (9, [.ref m1, .ref m2, .ref m3, .int ik, .int wy, .int op, .int cl, .int cx0, .int cx1, .int cy0, .int cy1, .int ds, .ref m4, .ref m5, .ref m6, .ref m7, .ref m8, .ref m9, .int pn, .ref m10, .ref m11, .ref m12, .ref m13])), (m1, .inl (cI, 4, .inl gw)), (m2, .inl (cI, 4, .inl gh)), (m3, .inl (cI, 16384, .inl gd)), (m4, .inl (cZ, 4096, .inl gq)), (m13, .inl (cI, 4096, .inl gt))]) [4, 0, 1, 2, 5, 3] rfl
        have hD9 := hD.sub (ws' := [(h0, .inr (9, [.ref m1, .ref m2, .ref m3, .int ik, .int wy, .int op, .int cl, .int cx0, .int cx1, .int cy0, .int cy1, .int ds, .ref m4, .ref m5, .ref m6, .ref m7, .ref m8, .ref m9, .int pn, .ref m10, .ref m11, .ref m12, .ref m13])), (m1, .inl (cI, 4, .inl gw)), (m2, .inl (cI, 4, .inl gh)), (m3, .inl (cI, 16384, .inl gd)), (m4, .inl (cZ, 4096, .inl gq)), (m13, .inl (cI, 4096, .inl gt))]) [4, 0, 1, 2, 5, 3] (by decide) rfl
        have hK9 := hK.sub (tys' := [(cI, .int), (cZ, .boolean)]) [0, 1] rfl
        refine hQ _ _ _ _ _ ?_
        exact W.vret hx hb hr (fun t ht hW => ⟨⟨(), rfl, trivial, ⟨gq, gt, (fun j hj => by rw [q3]; exact hEQ.1 j hj), (by rw [q3, hcn]; exact hEQ.2.1), by rw [ht]; exact hP9, va_K.moved hW.alike hK9, hD9⟩⟩, hS.F ht⟩) hS.2.2 dX9_joins_247
      · skip
        have f_10 : ¬ ((((rcO (opnJ (gw k.toNatClampNeg) (gh k.toNatClampNeg) cl cx0 cx1 cy0 cy1 ic) (fun t => gd (4096 * k.toNatClampNeg + t)) (gd (4096 * k.toNatClampNeg + ixP x y)) co st1 dn).2.2 : Nat) : Int) ≤ (dn : Int)) := fn_le hx7 hx8 c_9
        refine lv_aload_n hx hb dX9_joins_54 rfl (lv_at hl 3 rfl) ?_
        refine va_get (D := D) (ci := 9) (v := .ref m13) (C := RX9) (T := TX9) (N := 23) hx hb hts hi_X9 hown hK hP 4 rfl rfl 22 (by decide) (hts _ bw_413) (fun _ h9 => h9) rfl dX9_joins_55 ?_
        refine lv_iload hx hb dX9_joins_58 (lv_at hl 0 rfl) ?_
        refine va_iald hx hb hK hP 3 0 rfl rfl (vp_in_iff.mpr ⟨by omega, by omega⟩) dX9_joins_60 ?_
        refine my_fold (v := (rcO (opnJ (gw k.toNatClampNeg) (gh k.toNatClampNeg) cl cx0 cx1 cy0 cy1 ic) (fun t => gd (4096 * k.toNatClampNeg + t)) (gd (4096 * k.toNatClampNeg + ixP x y)) co st1 dn).2.1 dn) (by rw [hc_dn, q2]) ?_
        refine lv_bipush (v := 64) hx hb dX9_joins_61 (by decide) ?_
        refine lv_irem hx hb dX9_joins_63 (by decide) ?_
        refine lv_topi (fun y_11 ey_11 => ?_)
        have hp9 : y_11 = pX ((rcO (opnJ (gw k.toNatClampNeg) (gh k.toNatClampNeg) cl cx0 cx1 cy0 cy1 ic) (fun t => gd (4096 * k.toNatClampNeg + t)) (gd (4096 * k.toNatClampNeg + ixP x y)) co st1 dn).2.1 dn) := ey_11
        refine lv_istore (lv' := [(9, .int y_11), (8, .int x8), (7, .int x7), (6, .int (gd (4096 * k.toNatClampNeg + ixP x y))), (0, .ref h0), (1, .int k), (2, .int x), (3, .int y), (4, .int co), (5, .int ic)]) hx hb dX9_joins_64 hl (by decide) rfl (fun ls hl => ?_)
        refine lv_aload_n hx hb dX9_joins_66 rfl (lv_at hl 4 rfl) ?_
        refine va_get (D := D) (ci := 9) (v := .ref m13) (C := RX9) (T := TX9) (N := 23) hx hb hts hi_X9 hown hK hP 4 rfl rfl 22 (by decide) (hts _ bw_413) (fun _ h9 => h9) rfl dX9_joins_67 ?_
        refine lv_iload hx hb dX9_joins_70 (lv_at hl 1 rfl) ?_
        refine va_iald hx hb hK hP 3 0 rfl rfl (vp_in_iff.mpr ⟨by omega, by omega⟩) dX9_joins_72 ?_
        refine my_fold (v := (rcO (opnJ (gw k.toNatClampNeg) (gh k.toNatClampNeg) cl cx0 cx1 cy0 cy1 ic) (fun t => gd (4096 * k.toNatClampNeg + t)) (gd (4096 * k.toNatClampNeg + ixP x y)) co st1 dn).2.1 dn) (by rw [hc_dn, q2]) ?_
        refine lv_bipush (v := 64) hx hb dX9_joins_73 (by decide) ?_
        refine lv_idiv hx hb dX9_joins_75 (by decide) ?_
        refine lv_topi (fun y_12 ey_12 => ?_)
        have hp10 : y_12 = pY ((rcO (opnJ (gw k.toNatClampNeg) (gh k.toNatClampNeg) cl cx0 cx1 cy0 cy1 ic) (fun t => gd (4096 * k.toNatClampNeg + t)) (gd (4096 * k.toNatClampNeg + ixP x y)) co st1 dn).2.1 dn) := ey_12
        refine lv_istore (lv' := [(10, .int y_12), (9, .int y_11), (8, .int x8), (7, .int x7), (6, .int (gd (4096 * k.toNatClampNeg + ixP x y))), (0, .ref h0), (1, .int k), (2, .int x), (3, .int y), (4, .int co), (5, .int ic)]) hx hb dX9_joins_76 hl (by decide) rfl (fun ls hl => ?_)
        refine lv_iload hx hb dX9_joins_78 (lv_at hl 2 rfl) ?_
        refine lv_iconst (v := 1) hx hb dX9_joins_80 (by decide) ?_
        refine lv_iadd hx hb dX9_joins_81 ?_
        refine lv_topi (fun y_13 ey_13 => ?_)
        refine lv_istore (lv' := [(8, .int y_13), (10, .int y_12), (9, .int y_11), (7, .int x7), (6, .int (gd (4096 * k.toNatClampNeg + ixP x y))), (0, .ref h0), (1, .int k), (2, .int x), (3, .int y), (4, .int co), (5, .int ic)]) hx hb dX9_joins_82 hl (by decide) rfl (fun ls hl => ?_)
        refine lv_iconst (v := 0) hx hb dX9_joins_84 (by decide) ?_
        refine lv_istore (lv' := [(11, .int 0), (8, .int y_13), (10, .int y_12), (9, .int y_11), (7, .int x7), (6, .int (gd (4096 * k.toNatClampNeg + ixP x y))), (0, .ref h0), (1, .int k), (2, .int x), (3, .int y), (4, .int co), (5, .int ic)]) hx hb dX9_joins_85 hl (by decide) rfl (fun ls hl => ?_)
        have loop_14 : ∀ (n : Nat) (i : Nat) (x11 : Int32) (z7 : Int32) (gu : Nat → Int32) (gs : Nat → Int32) (H : Heap) (locs : List Loc) (ls : Array Slot), (i ≤ 9) → (9 + 1 ≤ i + n) → (x11 = nI i) → (z7 = nI (rcI (opnJ (gw k.toNatClampNeg) (gh k.toNatClampNeg) cl cx0 cx1 cy0 cy1 ic) (fun t => gd (4096 * k.toNatClampNeg + t)) (gd (4096 * k.toNatClampNeg + ixP x y)) co (pX ((rcO (opnJ (gw k.toNatClampNeg) (gh k.toNatClampNeg) cl cx0 cx1 cy0 cy1 ic) (fun t => gd (4096 * k.toNatClampNeg + t)) (gd (4096 * k.toNatClampNeg + ixP x y)) co st1 dn).2.1 dn)) (pY ((rcO (opnJ (gw k.toNatClampNeg) (gh k.toNatClampNeg) cl cx0 cx1 cy0 cy1 ic) (fun t => gd (4096 * k.toNatClampNeg + t)) (gd (4096 * k.toNatClampNeg + ixP x y)) co st1 dn).2.1 dn)) (rcO (opnJ (gw k.toNatClampNeg) (gh k.toNatClampNeg) cl cx0 cx1 cy0 cy1 ic) (fun t => gd (4096 * k.toNatClampNeg + t)) (gd (4096 * k.toNatClampNeg + ixP x y)) co st1 dn) i).2.2) → (gu = (rcI (opnJ (gw k.toNatClampNeg) (gh k.toNatClampNeg) cl cx0 cx1 cy0 cy1 ic) (fun t => gd (4096 * k.toNatClampNeg + t)) (gd (4096 * k.toNatClampNeg + ixP x y)) co (pX ((rcO (opnJ (gw k.toNatClampNeg) (gh k.toNatClampNeg) cl cx0 cx1 cy0 cy1 ic) (fun t => gd (4096 * k.toNatClampNeg + t)) (gd (4096 * k.toNatClampNeg + ixP x y)) co st1 dn).2.1 dn)) (pY ((rcO (opnJ (gw k.toNatClampNeg) (gh k.toNatClampNeg) cl cx0 cx1 cy0 cy1 ic) (fun t => gd (4096 * k.toNatClampNeg + t)) (gd (4096 * k.toNatClampNeg + ixP x y)) co st1 dn).2.1 dn)) (rcO (opnJ (gw k.toNatClampNeg) (gh k.toNatClampNeg) cl cx0 cx1 cy0 cy1 ic) (fun t => gd (4096 * k.toNatClampNeg + t)) (gd (4096 * k.toNatClampNeg + ixP x y)) co st1 dn) i).1) → (gs = (rcI (opnJ (gw k.toNatClampNeg) (gh k.toNatClampNeg) cl cx0 cx1 cy0 cy1 ic) (fun t => gd (4096 * k.toNatClampNeg + t)) (gd (4096 * k.toNatClampNeg + ixP x y)) co (pX ((rcO (opnJ (gw k.toNatClampNeg) (gh k.toNatClampNeg) cl cx0 cx1 cy0 cy1 ic) (fun t => gd (4096 * k.toNatClampNeg + t)) (gd (4096 * k.toNatClampNeg + ixP x y)) co st1 dn).2.1 dn)) (pY ((rcO (opnJ (gw k.toNatClampNeg) (gh k.toNatClampNeg) cl cx0 cx1 cy0 cy1 ic) (fun t => gd (4096 * k.toNatClampNeg + t)) (gd (4096 * k.toNatClampNeg + ixP x y)) co st1 dn).2.1 dn)) (rcO (opnJ (gw k.toNatClampNeg) (gh k.toNatClampNeg) cl cx0 cx1 cy0 cy1 ic) (fun t => gd (4096 * k.toNatClampNeg + t)) (gd (4096 * k.toNatClampNeg + ixP x y)) co st1 dn) i).2.1) → (cntP (rcI (opnJ (gw k.toNatClampNeg) (gh k.toNatClampNeg) cl cx0 cx1 cy0 cy1 ic) (fun t => gd (4096 * k.toNatClampNeg + t)) (gd (4096 * k.toNatClampNeg + ixP x y)) co (pX ((rcO (opnJ (gw k.toNatClampNeg) (gh k.toNatClampNeg) cl cx0 cx1 cy0 cy1 ic) (fun t => gd (4096 * k.toNatClampNeg + t)) (gd (4096 * k.toNatClampNeg + ixP x y)) co st1 dn).2.1 dn)) (pY ((rcO (opnJ (gw k.toNatClampNeg) (gh k.toNatClampNeg) cl cx0 cx1 cy0 cy1 ic) (fun t => gd (4096 * k.toNatClampNeg + t)) (gd (4096 * k.toNatClampNeg + ixP x y)) co st1 dn).2.1 dn)) (rcO (opnJ (gw k.toNatClampNeg) (gh k.toNatClampNeg) cl cx0 cx1 cy0 cy1 ic) (fun t => gd (4096 * k.toNatClampNeg + t)) (gd (4096 * k.toNatClampNeg + ixP x y)) co st1 dn) i).1 4096 = (rcI (opnJ (gw k.toNatClampNeg) (gh k.toNatClampNeg) cl cx0 cx1 cy0 cy1 ic) (fun t => gd (4096 * k.toNatClampNeg + t)) (gd (4096 * k.toNatClampNeg + ixP x y)) co (pX ((rcO (opnJ (gw k.toNatClampNeg) (gh k.toNatClampNeg) cl cx0 cx1 cy0 cy1 ic) (fun t => gd (4096 * k.toNatClampNeg + t)) (gd (4096 * k.toNatClampNeg + ixP x y)) co st1 dn).2.1 dn)) (pY ((rcO (opnJ (gw k.toNatClampNeg) (gh k.toNatClampNeg) cl cx0 cx1 cy0 cy1 ic) (fun t => gd (4096 * k.toNatClampNeg + t)) (gd (4096 * k.toNatClampNeg + ixP x y)) co st1 dn).2.1 dn)) (rcO (opnJ (gw k.toNatClampNeg) (gh k.toNatClampNeg) cl cx0 cx1 cy0 cy1 ic) (fun t => gd (4096 * k.toNatClampNeg + t)) (gd (4096 * k.toNatClampNeg + ixP x y)) co st1 dn) i).2.2) → va_P D vwCl [(m1, .inl (cI, 4, .inl gw)), (m2, .inl (cI, 4, .inl gh)), (m3, .inl (cI, 16384, .inl gd)), (m13, .inl (cI, 4096, .inl gs)), (h0, .inr (9, [.ref m1, .ref m2, .ref m3, .int ik, .int wy, .int op, .int cl, .int cx0, .int cx1, .int cy0, .int cy1, .int ds, .ref m4, .ref m5, .ref m6, .ref m7, .ref m8, .ref m9, .int pn, .ref m10, .ref m11, .ref m12, .ref m13])), (m4, .inl (cZ, 4096, .inl gu))] H → va_D A [(m1, .inl (cI, 4, .inl gw)), (m2, .inl (cI, 4, .inl gh)), (m3, .inl (cI, 16384, .inl gd)), (m13, .inl (cI, 4096, .inl gs)), (h0, .inr (9, [.ref m1, .ref m2, .ref m3, .int ik, .int wy, .int op, .int cl, .int cx0, .int cx1, .int cy0, .int cy1, .int ds, .ref m4, .ref m5, .ref m6, .ref m7, .ref m8, .ref m9, .int pn, .ref m10, .ref m11, .ref m12, .ref m13])), (m4, .inl (cZ, 4096, .inl gu))] → va_S A s.heap H locs → lv_has ls 15 [(11, .int x11), (8, .int y_13), (10, .int y_12), (9, .int y_11), (7, .int z7), (6, .int (gd (4096 * k.toNatClampNeg + ixP x y))), (0, .ref h0), (1, .int k), (2, .int x), (3, .int y), (4, .int co), (5, .int ic)] → W p l e R s m ([.ref h0, .int k, .int x, .int y, .int co, .int ic] : List Value).toArray below meth c H locs 0 0 Q (F0 m 87 ls []) := by
          intro n
          induction n with
          | zero =>
            intro i x11 z7 gu gs H locs ls hi_i hm_i ex_i f7 f3 f2 fcn hP hD hS hl
            exact absurd (show False by omega) not_false
          | succ n ih_15 =>
            intro i x11 z7 gu gs H locs ls hi_i hm_i ex_i f7 f3 f2 fcn hP hD hS hl
            have hx_i : x11.toInt = (i : Int) := by rw [ex_i]; exact nI_toInt (by omega)
            have hc_i : x11.toNatClampNeg = i := by rw [ex_i]; exact nI_clamp (by omega)
            have hk := rcI_keep (C := (opnJ (gw k.toNatClampNeg) (gh k.toNatClampNeg) cl cx0 cx1 cy0 cy1 ic)) (g := (fun t => gd (4096 * k.toNatClampNeg + t))) (vl := (gd (4096 * k.toNatClampNeg + ixP x y))) (co := co) (px := pX ((rcO (opnJ (gw k.toNatClampNeg) (gh k.toNatClampNeg) cl cx0 cx1 cy0 cy1 ic) (fun t => gd (4096 * k.toNatClampNeg + t)) (gd (4096 * k.toNatClampNeg + ixP x y)) co st1 dn).2.1 dn)) (py := pY ((rcO (opnJ (gw k.toNatClampNeg) (gh k.toNatClampNeg) cl cx0 cx1 cy0 cy1 ic) (fun t => gd (4096 * k.toNatClampNeg + t)) (gd (4096 * k.toNatClampNeg + ixP x y)) co st1 dn).2.1 dn)) hmy i
            have hz7 : z7.toInt = (((rcI (opnJ (gw k.toNatClampNeg) (gh k.toNatClampNeg) cl cx0 cx1 cy0 cy1 ic) (fun t => gd (4096 * k.toNatClampNeg + t)) (gd (4096 * k.toNatClampNeg + ixP x y)) co (pX ((rcO (opnJ (gw k.toNatClampNeg) (gh k.toNatClampNeg) cl cx0 cx1 cy0 cy1 ic) (fun t => gd (4096 * k.toNatClampNeg + t)) (gd (4096 * k.toNatClampNeg + ixP x y)) co st1 dn).2.1 dn)) (pY ((rcO (opnJ (gw k.toNatClampNeg) (gh k.toNatClampNeg) cl cx0 cx1 cy0 cy1 ic) (fun t => gd (4096 * k.toNatClampNeg + t)) (gd (4096 * k.toNatClampNeg + ixP x y)) co st1 dn).2.1 dn)) (rcO (opnJ (gw k.toNatClampNeg) (gh k.toNatClampNeg) cl cx0 cx1 cy0 cy1 ic) (fun t => gd (4096 * k.toNatClampNeg + t)) (gd (4096 * k.toNatClampNeg + ixP x y)) co st1 dn) i).2.2 : Nat) : Int) := by rw [f7]; exact nI_toInt (by omega)
            refine lv_iload hx hb dX9_joins_87 (lv_at hl 0 rfl) ?_
            refine lv_bipush (v := 9) hx hb dX9_joins_89 (by decide) ?_
            refine lv_icmp_ge (tgt := 244) hx hb dX9_joins_91 (by decide) (fun c_16 => ?_) (fun c_16 => ?_)
            · skip
              have f_17 : 9 ≤ (i : Int) := f_le (by decide) hx_i c_16
              refine lv_goto (tgt := 47) hx hb dX9_joins_244 (by decide) ?_
              exact ih_8 (dn + 1) z7 y_13 gu gs _ _ _ (by omega) (by rw [(show (rcO (opnJ (gw k.toNatClampNeg) (gh k.toNatClampNeg) cl cx0 cx1 cy0 cy1 ic) (fun t => gd (4096 * k.toNatClampNeg + t)) (gd (4096 * k.toNatClampNeg + ixP x y)) co st1 (dn + 1)) = (rcI (opnJ (gw k.toNatClampNeg) (gh k.toNatClampNeg) cl cx0 cx1 cy0 cy1 ic) (fun t => gd (4096 * k.toNatClampNeg + t)) (gd (4096 * k.toNatClampNeg + ixP x y)) co (pX ((rcO (opnJ (gw k.toNatClampNeg) (gh k.toNatClampNeg) cl cx0 cx1 cy0 cy1 ic) (fun t => gd (4096 * k.toNatClampNeg + t)) (gd (4096 * k.toNatClampNeg + ixP x y)) co st1 dn).2.1 dn)) (pY ((rcO (opnJ (gw k.toNatClampNeg) (gh k.toNatClampNeg) cl cx0 cx1 cy0 cy1 ic) (fun t => gd (4096 * k.toNatClampNeg + t)) (gd (4096 * k.toNatClampNeg + ixP x y)) co st1 dn).2.1 dn)) (rcO (opnJ (gw k.toNatClampNeg) (gh k.toNatClampNeg) cl cx0 cx1 cy0 cy1 ic) (fun t => gd (4096 * k.toNatClampNeg + t)) (gd (4096 * k.toNatClampNeg + ixP x y)) co st1 dn) i) by rw [show i = 9 by omega]; rfl)]; omega) (by rw [(show (rcO (opnJ (gw k.toNatClampNeg) (gh k.toNatClampNeg) cl cx0 cx1 cy0 cy1 ic) (fun t => gd (4096 * k.toNatClampNeg + t)) (gd (4096 * k.toNatClampNeg + ixP x y)) co st1 (dn + 1)) = (rcI (opnJ (gw k.toNatClampNeg) (gh k.toNatClampNeg) cl cx0 cx1 cy0 cy1 ic) (fun t => gd (4096 * k.toNatClampNeg + t)) (gd (4096 * k.toNatClampNeg + ixP x y)) co (pX ((rcO (opnJ (gw k.toNatClampNeg) (gh k.toNatClampNeg) cl cx0 cx1 cy0 cy1 ic) (fun t => gd (4096 * k.toNatClampNeg + t)) (gd (4096 * k.toNatClampNeg + ixP x y)) co st1 dn).2.1 dn)) (pY ((rcO (opnJ (gw k.toNatClampNeg) (gh k.toNatClampNeg) cl cx0 cx1 cy0 cy1 ic) (fun t => gd (4096 * k.toNatClampNeg + t)) (gd (4096 * k.toNatClampNeg + ixP x y)) co st1 dn).2.1 dn)) (rcO (opnJ (gw k.toNatClampNeg) (gh k.toNatClampNeg) cl cx0 cx1 cy0 cy1 ic) (fun t => gd (4096 * k.toNatClampNeg + t)) (gd (4096 * k.toNatClampNeg + ixP x y)) co st1 dn) i) by rw [show i = 9 by omega]; rfl)]; exact f7) (by rw [ey_13, e8]; exact nI_1 dn) (by rw [(show (rcO (opnJ (gw k.toNatClampNeg) (gh k.toNatClampNeg) cl cx0 cx1 cy0 cy1 ic) (fun t => gd (4096 * k.toNatClampNeg + t)) (gd (4096 * k.toNatClampNeg + ixP x y)) co st1 (dn + 1)) = (rcI (opnJ (gw k.toNatClampNeg) (gh k.toNatClampNeg) cl cx0 cx1 cy0 cy1 ic) (fun t => gd (4096 * k.toNatClampNeg + t)) (gd (4096 * k.toNatClampNeg + ixP x y)) co (pX ((rcO (opnJ (gw k.toNatClampNeg) (gh k.toNatClampNeg) cl cx0 cx1 cy0 cy1 ic) (fun t => gd (4096 * k.toNatClampNeg + t)) (gd (4096 * k.toNatClampNeg + ixP x y)) co st1 dn).2.1 dn)) (pY ((rcO (opnJ (gw k.toNatClampNeg) (gh k.toNatClampNeg) cl cx0 cx1 cy0 cy1 ic) (fun t => gd (4096 * k.toNatClampNeg + t)) (gd (4096 * k.toNatClampNeg + ixP x y)) co st1 dn).2.1 dn)) (rcO (opnJ (gw k.toNatClampNeg) (gh k.toNatClampNeg) cl cx0 cx1 cy0 cy1 ic) (fun t => gd (4096 * k.toNatClampNeg + t)) (gd (4096 * k.toNatClampNeg + ixP x y)) co st1 dn) i) by rw [show i = 9 by omega]; rfl)]; exact f3) (by rw [(show (rcO (opnJ (gw k.toNatClampNeg) (gh k.toNatClampNeg) cl cx0 cx1 cy0 cy1 ic) (fun t => gd (4096 * k.toNatClampNeg + t)) (gd (4096 * k.toNatClampNeg + ixP x y)) co st1 (dn + 1)) = (rcI (opnJ (gw k.toNatClampNeg) (gh k.toNatClampNeg) cl cx0 cx1 cy0 cy1 ic) (fun t => gd (4096 * k.toNatClampNeg + t)) (gd (4096 * k.toNatClampNeg + ixP x y)) co (pX ((rcO (opnJ (gw k.toNatClampNeg) (gh k.toNatClampNeg) cl cx0 cx1 cy0 cy1 ic) (fun t => gd (4096 * k.toNatClampNeg + t)) (gd (4096 * k.toNatClampNeg + ixP x y)) co st1 dn).2.1 dn)) (pY ((rcO (opnJ (gw k.toNatClampNeg) (gh k.toNatClampNeg) cl cx0 cx1 cy0 cy1 ic) (fun t => gd (4096 * k.toNatClampNeg + t)) (gd (4096 * k.toNatClampNeg + ixP x y)) co st1 dn).2.1 dn)) (rcO (opnJ (gw k.toNatClampNeg) (gh k.toNatClampNeg) cl cx0 cx1 cy0 cy1 ic) (fun t => gd (4096 * k.toNatClampNeg + t)) (gd (4096 * k.toNatClampNeg + ixP x y)) co st1 dn) i) by rw [show i = 9 by omega]; rfl)]; exact f2) (by rw [(show (rcO (opnJ (gw k.toNatClampNeg) (gh k.toNatClampNeg) cl cx0 cx1 cy0 cy1 ic) (fun t => gd (4096 * k.toNatClampNeg + t)) (gd (4096 * k.toNatClampNeg + ixP x y)) co st1 (dn + 1)) = (rcI (opnJ (gw k.toNatClampNeg) (gh k.toNatClampNeg) cl cx0 cx1 cy0 cy1 ic) (fun t => gd (4096 * k.toNatClampNeg + t)) (gd (4096 * k.toNatClampNeg + ixP x y)) co (pX ((rcO (opnJ (gw k.toNatClampNeg) (gh k.toNatClampNeg) cl cx0 cx1 cy0 cy1 ic) (fun t => gd (4096 * k.toNatClampNeg + t)) (gd (4096 * k.toNatClampNeg + ixP x y)) co st1 dn).2.1 dn)) (pY ((rcO (opnJ (gw k.toNatClampNeg) (gh k.toNatClampNeg) cl cx0 cx1 cy0 cy1 ic) (fun t => gd (4096 * k.toNatClampNeg + t)) (gd (4096 * k.toNatClampNeg + ixP x y)) co st1 dn).2.1 dn)) (rcO (opnJ (gw k.toNatClampNeg) (gh k.toNatClampNeg) cl cx0 cx1 cy0 cy1 ic) (fun t => gd (4096 * k.toNatClampNeg + t)) (gd (4096 * k.toNatClampNeg + ixP x y)) co st1 dn) i) by rw [show i = 9 by omega]; rfl)]; exact fcn) (fun i' h => by by_cases q : i' = dn; (· rw [q]; omega); (· exact hall i' (by omega))) (hP.sub (ws' := [(m1, .inl (cI, 4, .inl gw)), (m2, .inl (cI, 4, .inl gh)), (m3, .inl (cI, 16384, .inl gd)), (m13, .inl (cI, 4096, .inl gs)), (h0, .inr (9, [.ref m1, .ref m2, .ref m3, .int ik, .int wy, .int op, .int cl, .int cx0, .int cx1, .int cy0, .int cy1, .int ds, .ref m4, .ref m5, .ref m6, .ref m7, .ref m8, .ref m9, .int pn, .ref m10, .ref m11, .ref m12, .ref m13])), (m4, .inl (cZ, 4096, .inl gu))]) [0, 1, 2, 3, 4, 5] rfl) (hD.sub (ws' := [(m1, .inl (cI, 4, .inl gw)), (m2, .inl (cI, 4, .inl gh)), (m3, .inl (cI, 16384, .inl gd)), (m13, .inl (cI, 4096, .inl gs)), (h0, .inr (9, [.ref m1, .ref m2, .ref m3, .int ik, .int wy, .int op, .int cl, .int cx0, .int cx1, .int cy0, .int cy1, .int ds, .ref m4, .ref m5, .ref m6, .ref m7, .ref m8, .ref m9, .int pn, .ref m10, .ref m11, .ref m12, .ref m13])), (m4, .inl (cZ, 4096, .inl gu))]) [0, 1, 2, 3, 4, 5] (by decide) rfl) hS (lv_sub hl [1, 4, 5, 6, 7, 8, 9, 10, 11] rfl)
            · skip
              have f_17 : ¬ (9 ≤ (i : Int)) := fn_le (by decide) hx_i c_16
              refine lv_iload hx hb dX9_joins_94 (lv_at hl 0 rfl) ?_
              refine lv_iconst (v := 3) hx hb dX9_joins_96 (by decide) ?_
              refine lv_irem hx hb dX9_joins_97 (by decide) ?_
              refine lv_topi (fun y_18 ey_18 => ?_)
              refine lv_iconst (v := 1) hx hb dX9_joins_98 (by decide) ?_
              refine lv_isub hx hb dX9_joins_99 ?_
              refine lv_topi (fun y_19 ey_19 => ?_)
              have hdy_19 : y_19 = dX i := by rw [ey_19, ey_18, ex_i]; exact dX_eq i (by omega)
              refine lv_istore (lv' := [(12, .int y_19), (11, .int x11), (8, .int y_13), (10, .int y_12), (9, .int y_11), (7, .int z7), (6, .int (gd (4096 * k.toNatClampNeg + ixP x y))), (0, .ref h0), (1, .int k), (2, .int x), (3, .int y), (4, .int co), (5, .int ic)]) hx hb dX9_joins_100 hl (by decide) rfl (fun ls hl => ?_)
              refine lv_iload hx hb dX9_joins_102 (lv_at hl 1 rfl) ?_
              refine lv_iconst (v := 3) hx hb dX9_joins_104 (by decide) ?_
              refine lv_idiv hx hb dX9_joins_105 (by decide) ?_
              refine lv_topi (fun y_20 ey_20 => ?_)
              refine lv_iconst (v := 1) hx hb dX9_joins_106 (by decide) ?_
              refine lv_isub hx hb dX9_joins_107 ?_
              refine lv_topi (fun y_21 ey_21 => ?_)
              have hdy_21 : y_21 = dY i := by rw [ey_21, ey_20, ex_i]; exact dY_eq i (by omega)
              refine lv_istore (lv' := [(13, .int y_21), (12, .int y_19), (11, .int x11), (8, .int y_13), (10, .int y_12), (9, .int y_11), (7, .int z7), (6, .int (gd (4096 * k.toNatClampNeg + ixP x y))), (0, .ref h0), (1, .int k), (2, .int x), (3, .int y), (4, .int co), (5, .int ic)]) hx hb dX9_joins_108 hl (by decide) rfl (fun ls hl => ?_)
              refine lv_iload hx hb dX9_joins_110 (lv_at hl 12 rfl) ?_
              refine lv_if_ne (tgt := 125) hx hb dX9_joins_112 (by decide) (fun c_22 => ?_) (fun c_22 => ?_)
              · skip
                have f_23 : ¬ (co.toInt = 0) := fn_eq rfl (by decide) c_22
                refine lv_aload_n hx hb dX9_joins_125 rfl (lv_at hl 8 rfl) ?_
                refine lv_iload_n hx hb dX9_joins_126 rfl (lv_at hl 9 rfl) ?_
                refine lv_iload hx hb dX9_joins_127 (lv_at hl 5 rfl) ?_
                refine lv_iload hx hb dX9_joins_129 (lv_at hl 1 rfl) ?_
                refine lv_iadd hx hb dX9_joins_131 ?_
                refine lv_topi (fun y_24 ey_24 => ?_)
                have hay_24 : y_24 = pX ((rcO (opnJ (gw k.toNatClampNeg) (gh k.toNatClampNeg) cl cx0 cx1 cy0 cy1 ic) (fun t => gd (4096 * k.toNatClampNeg + t)) (gd (4096 * k.toNatClampNeg + ixP x y)) co st1 dn).2.1 dn) + dX i := by rw [ey_24, hp9, hdy_19]
                refine lv_iload hx hb dX9_joins_132 (lv_at hl 4 rfl) ?_
                refine lv_iload hx hb dX9_joins_134 (lv_at hl 0 rfl) ?_
                refine lv_iadd hx hb dX9_joins_136 ?_
                refine lv_topi (fun y_25 ey_25 => ?_)
                have hay_25 : y_25 = pY ((rcO (opnJ (gw k.toNatClampNeg) (gh k.toNatClampNeg) cl cx0 cx1 cy0 cy1 ic) (fun t => gd (4096 * k.toNatClampNeg + t)) (gd (4096 * k.toNatClampNeg + ixP x y)) co st1 dn).2.1 dn) + dY i := by rw [ey_25, hp10, hdy_21]
                have hPc := hP.sub (ws' := [(h0, .inr (9, [.ref m1, .ref m2, .ref m3, .int ik, .int wy, .int op, .int cl, .int cx0, .int cx1, .int cy0, .int cy1, .int ds, .ref m4, .ref m5, .ref m6, .ref m7, .ref m8, .ref m9, .int pn, .ref m10, .ref m11, .ref m12, .ref m13])), (m1, .inl (cI, 4, .inl gw)), (m2, .inl (cI, 4, .inl gh))]) [4, 0, 1] rfl
                have hDc := hD.sub (ws' := [(h0, .inr (9, [.ref m1, .ref m2, .ref m3, .int ik, .int wy, .int op, .int cl, .int cx0, .int cx1, .int cy0, .int cy1, .int ds, .ref m4, .ref m5, .ref m6, .ref m7, .ref m8, .ref m9, .int pn, .ref m10, .ref m11, .ref m12, .ref m13])), (m1, .inl (cI, 4, .inl gw)), (m2, .inl (cI, 4, .inl gh))]) [4, 0, 1] (by decide) rfl
                have hKc := hK.sub (tys' := [(cI, .int)]) [0] rfl
                have hFc := va_free (wc := [(h0, .inr (9, [.ref m1, .ref m2, .ref m3, .int ik, .int wy, .int op, .int cl, .int cx0, .int cx1, .int cy0, .int cy1, .int ds, .ref m4, .ref m5, .ref m6, .ref m7, .ref m8, .ref m9, .int pn, .ref m10, .ref m11, .ref m12, .ref m13])), (m1, .inl (cI, 4, .inl gw)), (m2, .inl (cI, 4, .inl gh))]) hD hS hA [4, 0, 1] rfl
                refine va_calli (va_runV (As := [.int k, .int y_24, .int y_25]) (rest := []) ⟨hx, hb, hml, hown, hts⟩ (k_X9_isOn l D H.size h0 m1 m2 m3 m4 m5 m6 m7 m8 m9 m10 m11 m12 m13 ik wy op cl cx0 cx1 cy0 cy1 ds pn gw gh k y_24 y_25 cI (by omega)) (cwV 3 hts (gV bw_433 bw_418 bw_419 bw_391 bw_417) rfl rfl rfl (by decide +kernel) ⟨(by rw [hR]; exact Nat.le_of_ble_eq_true rfl), (by rw [hR]; exact Nat.le_of_ble_eq_true rfl)⟩) ⟨cP_blind, va_recv hKc hPc (ci := 9) (q0 := 0) rfl rfl, cP_at hPc hKc hDc hN⟩ rfl rfl hl.1 rfl (lv_room (Nat.le_of_ble_eq_true rfl)) dX9_joins_137 ⟨(by rw [hR]; exact Nat.le_of_ble_eq_true rfl), (by rw [hR]; exact Nat.le_of_ble_eq_true rfl)⟩) hS (fun q _ h => hFc q h) hFc (fun r_26 u9 t9 H1 locs ht hvm hr_26 hB hz1 hk1 hS => ?_)
                try dsimp only at hr_26
                obtain ⟨hP1, hK1, hD1⟩ := hB
                rw [ht] at hP1
                obtain ⟨hP, hD⟩ := va_join (wr := [(m3, .inl (cI, 16384, .inl gd)), (m13, .inl (cI, 4096, .inl gs)), (m4, .inl (cZ, 4096, .inl gu))]) (w1 := [(h0, .inr (9, [.ref m1, .ref m2, .ref m3, .int ik, .int wy, .int op, .int cl, .int cx0, .int cx1, .int cy0, .int cy1, .int ds, .ref m4, .ref m5, .ref m6, .ref m7, .ref m8, .ref m9, .int pn, .ref m10, .ref m11, .ref m12, .ref m13])), (m1, .inl (cI, 4, .inl gw)), (m2, .inl (cI, 4, .inl gh))]) hP hD [4, 0, 1] [2, 3, 5] rfl rfl (by decide) (by decide) hk1 hFc hP1 hD1
                clear hz1 hk1 hFc hKc hDc hPc
                generalize H1 = H at hP hS ⊢
                have hP : va_P D vwCl [(m3, .inl (cI, 16384, .inl gd)), (m13, .inl (cI, 4096, .inl gs)), (m4, .inl (cZ, 4096, .inl gu)), (h0, .inr (9, [.ref m1, .ref m2, .ref m3, .int ik, .int wy, .int op, .int cl, .int cx0, .int cx1, .int cy0, .int cy1, .int ds, .ref m4, .ref m5, .ref m6, .ref m7, .ref m8, .ref m9, .int pn, .ref m10, .ref m11, .ref m12, .ref m13])), (m1, .inl (cI, 4, .inl gw)), (m2, .inl (cI, 4, .inl gh))] H := hP
                have hD : va_D A [(m3, .inl (cI, 16384, .inl gd)), (m13, .inl (cI, 4096, .inl gs)), (m4, .inl (cZ, 4096, .inl gu)), (h0, .inr (9, [.ref m1, .ref m2, .ref m3, .int ik, .int wy, .int op, .int cl, .int cx0, .int cx1, .int cy0, .int cy1, .int ds, .ref m4, .ref m5, .ref m6, .ref m7, .ref m8, .ref m9, .int pn, .ref m10, .ref m11, .ref m12, .ref m13])), (m1, .inl (cI, 4, .inl gw)), (m2, .inl (cI, 4, .inl gh))] := hD
                refine lv_if_eq (tgt := 238) hx hb dX9_joins_140 (by decide) (fun c_27 => ?_) (fun c_27 => ?_)
                · skip
                  have f_28 := bz0 hr_26 c_27
                  obtain ⟨y_29, ey_29⟩ : ∃ y : Int32, y = x11 + 1 := ⟨_, rfl⟩
                  refine lv_iinc (v := y_29) (lv' := [(11, .int y_29), (13, .int y_21), (12, .int y_19), (8, .int y_13), (10, .int y_12), (9, .int y_11), (7, .int z7), (6, .int (gd (4096 * k.toNatClampNeg + ixP x y))), (0, .ref h0), (1, .int k), (2, .int x), (3, .int y), (4, .int co), (5, .int ic)]) hx hb dX9_joins_238 hl (k := 2) rfl (by rw [ey_29]; rfl) (by decide) rfl (fun ls hl => ?_)
                  refine lv_goto (tgt := 87) hx hb dX9_joins_241 (by decide) ?_
                  have hS1 : (rcI (opnJ (gw k.toNatClampNeg) (gh k.toNatClampNeg) cl cx0 cx1 cy0 cy1 ic) (fun t => gd (4096 * k.toNatClampNeg + t)) (gd (4096 * k.toNatClampNeg + ixP x y)) co (pX ((rcO (opnJ (gw k.toNatClampNeg) (gh k.toNatClampNeg) cl cx0 cx1 cy0 cy1 ic) (fun t => gd (4096 * k.toNatClampNeg + t)) (gd (4096 * k.toNatClampNeg + ixP x y)) co st1 dn).2.1 dn)) (pY ((rcO (opnJ (gw k.toNatClampNeg) (gh k.toNatClampNeg) cl cx0 cx1 cy0 cy1 ic) (fun t => gd (4096 * k.toNatClampNeg + t)) (gd (4096 * k.toNatClampNeg + ixP x y)) co st1 dn).2.1 dn)) (rcO (opnJ (gw k.toNatClampNeg) (gh k.toNatClampNeg) cl cx0 cx1 cy0 cy1 ic) (fun t => gd (4096 * k.toNatClampNeg + t)) (gd (4096 * k.toNatClampNeg + ixP x y)) co st1 dn) (i + 1)) = rcS (opnJ (gw k.toNatClampNeg) (gh k.toNatClampNeg) cl cx0 cx1 cy0 cy1 ic) (fun t => gd (4096 * k.toNatClampNeg + t)) (gd (4096 * k.toNatClampNeg + ixP x y)) y_24 y_25 (rcI (opnJ (gw k.toNatClampNeg) (gh k.toNatClampNeg) cl cx0 cx1 cy0 cy1 ic) (fun t => gd (4096 * k.toNatClampNeg + t)) (gd (4096 * k.toNatClampNeg + ixP x y)) co (pX ((rcO (opnJ (gw k.toNatClampNeg) (gh k.toNatClampNeg) cl cx0 cx1 cy0 cy1 ic) (fun t => gd (4096 * k.toNatClampNeg + t)) (gd (4096 * k.toNatClampNeg + ixP x y)) co st1 dn).2.1 dn)) (pY ((rcO (opnJ (gw k.toNatClampNeg) (gh k.toNatClampNeg) cl cx0 cx1 cy0 cy1 ic) (fun t => gd (4096 * k.toNatClampNeg + t)) (gd (4096 * k.toNatClampNeg + ixP x y)) co st1 dn).2.1 dn)) (rcO (opnJ (gw k.toNatClampNeg) (gh k.toNatClampNeg) cl cx0 cx1 cy0 cy1 ic) (fun t => gd (4096 * k.toNatClampNeg + t)) (gd (4096 * k.toNatClampNeg + ixP x y)) co st1 dn) i) := by rw [hay_24, hay_25]; exact if_pos (Or.inl c_22)
                  have hSt : (rcI (opnJ (gw k.toNatClampNeg) (gh k.toNatClampNeg) cl cx0 cx1 cy0 cy1 ic) (fun t => gd (4096 * k.toNatClampNeg + t)) (gd (4096 * k.toNatClampNeg + ixP x y)) co (pX ((rcO (opnJ (gw k.toNatClampNeg) (gh k.toNatClampNeg) cl cx0 cx1 cy0 cy1 ic) (fun t => gd (4096 * k.toNatClampNeg + t)) (gd (4096 * k.toNatClampNeg + ixP x y)) co st1 dn).2.1 dn)) (pY ((rcO (opnJ (gw k.toNatClampNeg) (gh k.toNatClampNeg) cl cx0 cx1 cy0 cy1 ic) (fun t => gd (4096 * k.toNatClampNeg + t)) (gd (4096 * k.toNatClampNeg + ixP x y)) co st1 dn).2.1 dn)) (rcO (opnJ (gw k.toNatClampNeg) (gh k.toNatClampNeg) cl cx0 cx1 cy0 cy1 ic) (fun t => gd (4096 * k.toNatClampNeg + t)) (gd (4096 * k.toNatClampNeg + ixP x y)) co st1 dn) (i + 1)) = (rcI (opnJ (gw k.toNatClampNeg) (gh k.toNatClampNeg) cl cx0 cx1 cy0 cy1 ic) (fun t => gd (4096 * k.toNatClampNeg + t)) (gd (4096 * k.toNatClampNeg + ixP x y)) co (pX ((rcO (opnJ (gw k.toNatClampNeg) (gh k.toNatClampNeg) cl cx0 cx1 cy0 cy1 ic) (fun t => gd (4096 * k.toNatClampNeg + t)) (gd (4096 * k.toNatClampNeg + ixP x y)) co st1 dn).2.1 dn)) (pY ((rcO (opnJ (gw k.toNatClampNeg) (gh k.toNatClampNeg) cl cx0 cx1 cy0 cy1 ic) (fun t => gd (4096 * k.toNatClampNeg + t)) (gd (4096 * k.toNatClampNeg + ixP x y)) co st1 dn).2.1 dn)) (rcO (opnJ (gw k.toNatClampNeg) (gh k.toNatClampNeg) cl cx0 cx1 cy0 cy1 ic) (fun t => gd (4096 * k.toNatClampNeg + t)) (gd (4096 * k.toNatClampNeg + ixP x y)) co st1 dn) i) := hS1.trans (if_neg (fun q => f_28 q.1.1.1))
                  exact ih_15 (i + 1) y_29 z7 gu gs _ _ _ (by omega) (by omega) (by rw [ey_29, ex_i]; exact nI_1 i) (by rw [hSt]; exact f7) (by rw [hSt]; exact f3) (by rw [hSt]; exact f2) (by rw [hSt]; exact fcn) (hP.sub (ws' := [(m1, .inl (cI, 4, .inl gw)), (m2, .inl (cI, 4, .inl gh)), (m3, .inl (cI, 16384, .inl gd)), (m13, .inl (cI, 4096, .inl gs)), (h0, .inr (9, [.ref m1, .ref m2, .ref m3, .int ik, .int wy, .int op, .int cl, .int cx0, .int cx1, .int cy0, .int cy1, .int ds, .ref m4, .ref m5, .ref m6, .ref m7, .ref m8, .ref m9, .int pn, .ref m10, .ref m11, .ref m12, .ref m13])), (m4, .inl (cZ, 4096, .inl gu))]) [4, 5, 0, 1, 3, 2] rfl) (hD.sub (ws' := [(m1, .inl (cI, 4, .inl gw)), (m2, .inl (cI, 4, .inl gh)), (m3, .inl (cI, 16384, .inl gd)), (m13, .inl (cI, 4096, .inl gs)), (h0, .inr (9, [.ref m1, .ref m2, .ref m3, .int ik, .int wy, .int op, .int cl, .int cx0, .int cx1, .int cy0, .int cy1, .int ds, .ref m4, .ref m5, .ref m6, .ref m7, .ref m8, .ref m9, .int pn, .ref m10, .ref m11, .ref m12, .ref m13])), (m4, .inl (cZ, 4096, .inl gu))]) [4, 5, 0, 1, 3, 2] (by decide) rfl) hS (lv_sub hl [0, 3, 4, 5, 6, 7, 8, 9, 10, 11, 12, 13] rfl)
                · skip
                  have f_28 := bz1 hr_26 c_27
                  refine lv_iload hx hb dX9_joins_143 (lv_at hl 13 rfl) ?_
                  refine lv_if_eq (tgt := 168) hx hb dX9_joins_145 (by decide) (fun c_30 => ?_) (fun c_30 => ?_)
                  · skip
                    have f_31 : ic.toInt = 0 := f_eq rfl (by decide) c_30
                    refine lv_bipush (v := 64) hx hb dX9_joins_168 (by decide) ?_
                    refine lv_iload hx hb dX9_joins_170 (lv_at hl 4 rfl) ?_
                    refine lv_iload hx hb dX9_joins_172 (lv_at hl 0 rfl) ?_
                    refine lv_iadd hx hb dX9_joins_174 ?_
                    refine lv_topi (fun y_32 ey_32 => ?_)
                    have hay_32 : y_32 = pY ((rcO (opnJ (gw k.toNatClampNeg) (gh k.toNatClampNeg) cl cx0 cx1 cy0 cy1 ic) (fun t => gd (4096 * k.toNatClampNeg + t)) (gd (4096 * k.toNatClampNeg + ixP x y)) co st1 dn).2.1 dn) + dY i := by rw [ey_32, hp10, hdy_21]
                    refine lv_imul hx hb dX9_joins_175 ?_
                    refine lv_topi (fun y_33 ey_33 => ?_)
                    refine lv_iload hx hb dX9_joins_176 (lv_at hl 5 rfl) ?_
                    refine lv_iadd hx hb dX9_joins_178 ?_
                    refine lv_topi (fun y_34 ey_34 => ?_)
                    refine lv_iload hx hb dX9_joins_179 (lv_at hl 1 rfl) ?_
                    refine lv_iadd hx hb dX9_joins_181 ?_
                    refine lv_topi (fun y_35 ey_35 => ?_)
                    have htoy_35 : y_35 = 64 * y_25 + y_24 := by rw [ey_35, ey_34, ey_33, ey_32, ey_25, ey_24, Int32.add_assoc]
                    have hiny_35 : vp_in y_35 4096 := by rw [htoy_35]; exact ix_in2 (by omega) (by omega) (by omega) (by omega)
                    have hixy_35 : y_35 = nI (ixP y_24 y_25) := by rw [htoy_35]; exact ix_nI2 (by omega) (by omega) (by omega) (by omega)
                    have hxcy_35 : y_35.toNatClampNeg = ixP y_24 y_25 := by rw [hixy_35]; exact nI_clamp (by have := ix_lt (x := y_24) (y := y_25) (by omega) (by omega) (by omega) (by omega); omega)
                    refine lv_istore (lv' := [(14, .int y_35), (13, .int y_21), (12, .int y_19), (11, .int x11), (8, .int y_13), (10, .int y_12), (9, .int y_11), (7, .int z7), (6, .int (gd (4096 * k.toNatClampNeg + ixP x y))), (0, .ref h0), (1, .int k), (2, .int x), (3, .int y), (4, .int co), (5, .int ic)]) hx hb dX9_joins_182 hl (by decide) rfl (fun ls hl => ?_)
                    refine lv_aload_n hx hb dX9_joins_184 rfl (lv_at hl 9 rfl) ?_
                    refine va_get (D := D) (ci := 9) (v := .ref m4) (C := RX9) (T := TX9) (N := 23) hx hb hts hi_X9 hown hK hP 3 rfl rfl 12 (by decide) (hts _ bw_404) (fun _ h9 => h9) rfl dX9_joins_185 ?_
                    refine lv_iload hx hb dX9_joins_188 (lv_at hl 0 rfl) ?_
                    refine va_zald hx hb hK hP 2 1 rfl rfl hiny_35 dX9_joins_190 ?_
                    refine lv_if_ne (tgt := 238) hx hb dX9_joins_191 (by decide) (fun c_36 => ?_) (fun c_36 => ?_)
                    · skip
                      have f_37 : ¬ ((gu y_35.toNatClampNeg).toInt = 0) := fn_eq rfl (by decide) c_36
                      obtain ⟨y_38, ey_38⟩ : ∃ y : Int32, y = x11 + 1 := ⟨_, rfl⟩
                      refine lv_iinc (v := y_38) (lv' := [(11, .int y_38), (14, .int y_35), (13, .int y_21), (12, .int y_19), (8, .int y_13), (10, .int y_12), (9, .int y_11), (7, .int z7), (6, .int (gd (4096 * k.toNatClampNeg + ixP x y))), (0, .ref h0), (1, .int k), (2, .int x), (3, .int y), (4, .int co), (5, .int ic)]) hx hb dX9_joins_238 hl (k := 3) rfl (by rw [ey_38]; rfl) (by decide) rfl (fun ls hl => ?_)
                      refine lv_goto (tgt := 87) hx hb dX9_joins_241 (by decide) ?_
                      have hS1 : (rcI (opnJ (gw k.toNatClampNeg) (gh k.toNatClampNeg) cl cx0 cx1 cy0 cy1 ic) (fun t => gd (4096 * k.toNatClampNeg + t)) (gd (4096 * k.toNatClampNeg + ixP x y)) co (pX ((rcO (opnJ (gw k.toNatClampNeg) (gh k.toNatClampNeg) cl cx0 cx1 cy0 cy1 ic) (fun t => gd (4096 * k.toNatClampNeg + t)) (gd (4096 * k.toNatClampNeg + ixP x y)) co st1 dn).2.1 dn)) (pY ((rcO (opnJ (gw k.toNatClampNeg) (gh k.toNatClampNeg) cl cx0 cx1 cy0 cy1 ic) (fun t => gd (4096 * k.toNatClampNeg + t)) (gd (4096 * k.toNatClampNeg + ixP x y)) co st1 dn).2.1 dn)) (rcO (opnJ (gw k.toNatClampNeg) (gh k.toNatClampNeg) cl cx0 cx1 cy0 cy1 ic) (fun t => gd (4096 * k.toNatClampNeg + t)) (gd (4096 * k.toNatClampNeg + ixP x y)) co st1 dn) (i + 1)) = rcS (opnJ (gw k.toNatClampNeg) (gh k.toNatClampNeg) cl cx0 cx1 cy0 cy1 ic) (fun t => gd (4096 * k.toNatClampNeg + t)) (gd (4096 * k.toNatClampNeg + ixP x y)) y_24 y_25 (rcI (opnJ (gw k.toNatClampNeg) (gh k.toNatClampNeg) cl cx0 cx1 cy0 cy1 ic) (fun t => gd (4096 * k.toNatClampNeg + t)) (gd (4096 * k.toNatClampNeg + ixP x y)) co (pX ((rcO (opnJ (gw k.toNatClampNeg) (gh k.toNatClampNeg) cl cx0 cx1 cy0 cy1 ic) (fun t => gd (4096 * k.toNatClampNeg + t)) (gd (4096 * k.toNatClampNeg + ixP x y)) co st1 dn).2.1 dn)) (pY ((rcO (opnJ (gw k.toNatClampNeg) (gh k.toNatClampNeg) cl cx0 cx1 cy0 cy1 ic) (fun t => gd (4096 * k.toNatClampNeg + t)) (gd (4096 * k.toNatClampNeg + ixP x y)) co st1 dn).2.1 dn)) (rcO (opnJ (gw k.toNatClampNeg) (gh k.toNatClampNeg) cl cx0 cx1 cy0 cy1 ic) (fun t => gd (4096 * k.toNatClampNeg + t)) (gd (4096 * k.toNatClampNeg + ixP x y)) co st1 dn) i) := by rw [hay_24, hay_25]; exact if_pos (Or.inl c_22)
                      have hSt : (rcI (opnJ (gw k.toNatClampNeg) (gh k.toNatClampNeg) cl cx0 cx1 cy0 cy1 ic) (fun t => gd (4096 * k.toNatClampNeg + t)) (gd (4096 * k.toNatClampNeg + ixP x y)) co (pX ((rcO (opnJ (gw k.toNatClampNeg) (gh k.toNatClampNeg) cl cx0 cx1 cy0 cy1 ic) (fun t => gd (4096 * k.toNatClampNeg + t)) (gd (4096 * k.toNatClampNeg + ixP x y)) co st1 dn).2.1 dn)) (pY ((rcO (opnJ (gw k.toNatClampNeg) (gh k.toNatClampNeg) cl cx0 cx1 cy0 cy1 ic) (fun t => gd (4096 * k.toNatClampNeg + t)) (gd (4096 * k.toNatClampNeg + ixP x y)) co st1 dn).2.1 dn)) (rcO (opnJ (gw k.toNatClampNeg) (gh k.toNatClampNeg) cl cx0 cx1 cy0 cy1 ic) (fun t => gd (4096 * k.toNatClampNeg + t)) (gd (4096 * k.toNatClampNeg + ixP x y)) co st1 dn) (i + 1)) = (rcI (opnJ (gw k.toNatClampNeg) (gh k.toNatClampNeg) cl cx0 cx1 cy0 cy1 ic) (fun t => gd (4096 * k.toNatClampNeg + t)) (gd (4096 * k.toNatClampNeg + ixP x y)) co (pX ((rcO (opnJ (gw k.toNatClampNeg) (gh k.toNatClampNeg) cl cx0 cx1 cy0 cy1 ic) (fun t => gd (4096 * k.toNatClampNeg + t)) (gd (4096 * k.toNatClampNeg + ixP x y)) co st1 dn).2.1 dn)) (pY ((rcO (opnJ (gw k.toNatClampNeg) (gh k.toNatClampNeg) cl cx0 cx1 cy0 cy1 ic) (fun t => gd (4096 * k.toNatClampNeg + t)) (gd (4096 * k.toNatClampNeg + ixP x y)) co st1 dn).2.1 dn)) (rcO (opnJ (gw k.toNatClampNeg) (gh k.toNatClampNeg) cl cx0 cx1 cy0 cy1 ic) (fun t => gd (4096 * k.toNatClampNeg + t)) (gd (4096 * k.toNatClampNeg + ixP x y)) co st1 dn) i) := hS1.trans (if_neg (fun q => c_36 (by rw [f3, hxcy_35]; exact q.2.1)))
                      exact ih_15 (i + 1) y_38 z7 gu gs _ _ _ (by omega) (by omega) (by rw [ey_38, ex_i]; exact nI_1 i) (by rw [hSt]; exact f7) (by rw [hSt]; exact f3) (by rw [hSt]; exact f2) (by rw [hSt]; exact fcn) (hP.sub (ws' := [(m1, .inl (cI, 4, .inl gw)), (m2, .inl (cI, 4, .inl gh)), (m3, .inl (cI, 16384, .inl gd)), (m13, .inl (cI, 4096, .inl gs)), (h0, .inr (9, [.ref m1, .ref m2, .ref m3, .int ik, .int wy, .int op, .int cl, .int cx0, .int cx1, .int cy0, .int cy1, .int ds, .ref m4, .ref m5, .ref m6, .ref m7, .ref m8, .ref m9, .int pn, .ref m10, .ref m11, .ref m12, .ref m13])), (m4, .inl (cZ, 4096, .inl gu))]) [4, 5, 0, 1, 3, 2] rfl) (hD.sub (ws' := [(m1, .inl (cI, 4, .inl gw)), (m2, .inl (cI, 4, .inl gh)), (m3, .inl (cI, 16384, .inl gd)), (m13, .inl (cI, 4096, .inl gs)), (h0, .inr (9, [.ref m1, .ref m2, .ref m3, .int ik, .int wy, .int op, .int cl, .int cx0, .int cx1, .int cy0, .int cy1, .int ds, .ref m4, .ref m5, .ref m6, .ref m7, .ref m8, .ref m9, .int pn, .ref m10, .ref m11, .ref m12, .ref m13])), (m4, .inl (cZ, 4096, .inl gu))]) [4, 5, 0, 1, 3, 2] (by decide) rfl) hS (lv_sub hl [0, 4, 5, 6, 7, 8, 9, 10, 11, 12, 13, 14] rfl)
                    · skip
                      have f_37 : (gu y_35.toNatClampNeg).toInt = 0 := f_eq rfl (by decide) c_36
                      refine lv_aload_n hx hb dX9_joins_194 rfl (lv_at hl 9 rfl) ?_
                      refine va_get (D := D) (ci := 9) (v := .ref m3) (C := RX9) (T := TX9) (N := 23) hx hb hts hi_X9 hown hK hP 3 rfl rfl 2 (by decide) (hts _ bw_398) (fun _ h9 => h9) rfl dX9_joins_195 ?_
                      refine lv_sipush (v := 4096) hx hb dX9_joins_198 (by decide) ?_
                      refine lv_iload_n hx hb dX9_joins_201 rfl (lv_at hl 10 rfl) ?_
                      refine lv_imul hx hb dX9_joins_202 ?_
                      refine lv_topi (fun y_39 ey_39 => ?_)
                      refine lv_iload hx hb dX9_joins_203 (lv_at hl 0 rfl) ?_
                      refine lv_iadd hx hb dX9_joins_205 ?_
                      refine lv_topi (fun y_40 ey_40 => ?_)
                      refine va_iald hx hb hK hP 0 0 rfl rfl (by rw [ey_40, ey_39]; exact kp_in (by omega) hiny_35) dX9_joins_206 ?_
                      refine my_fold (v := gd (4096 * k.toNatClampNeg + ixP y_24 y_25)) (congrArg gd (by rw [ey_40, ey_39]; exact dotx (gd := gd) (y := k) hkk hixy_35 (ix_lt (by omega) (by omega) (by omega) (by omega)) ek)) ?_
                      refine lv_iload hx hb dX9_joins_207 (lv_at hl 8 rfl) ?_
                      refine lv_icmp_eq (tgt := 215) hx hb dX9_joins_209 (by decide) (fun c_41 => ?_) (fun c_41 => ?_)
                      · skip
                        have f_42 : (gd (4096 * k.toNatClampNeg + ixP y_24 y_25)).toInt = (gd (4096 * k.toNatClampNeg + ixP x y)).toInt := f_eq rfl rfl c_41
                        refine lv_aload_n hx hb dX9_joins_215 rfl (lv_at hl 9 rfl) ?_
                        refine va_get (D := D) (ci := 9) (v := .ref m4) (C := RX9) (T := TX9) (N := 23) hx hb hts hi_X9 hown hK hP 3 rfl rfl 12 (by decide) (hts _ bw_404) (fun _ h9 => h9) rfl dX9_joins_216 ?_
                        refine lv_iload hx hb dX9_joins_219 (lv_at hl 0 rfl) ?_
                        refine lv_iconst (v := 1) hx hb dX9_joins_221 (by decide) ?_
                        refine va_zast hx hb hK hP hD hS 2 1 rfl rfl hiny_35 dX9_joins_222 (fun H locs hP hD hS => ?_)
                        have hP : va_P D vwCl [(m3, .inl (cI, 16384, .inl gd)), (m13, .inl (cI, 4096, .inl gs)), (m4, .inl (cZ, 4096, .inl (upd gu y_35.toNatClampNeg (vp_nar .boolean 1)))), (h0, .inr (9, [.ref m1, .ref m2, .ref m3, .int ik, .int wy, .int op, .int cl, .int cx0, .int cx1, .int cy0, .int cy1, .int ds, .ref m4, .ref m5, .ref m6, .ref m7, .ref m8, .ref m9, .int pn, .ref m10, .ref m11, .ref m12, .ref m13])), (m1, .inl (cI, 4, .inl gw)), (m2, .inl (cI, 4, .inl gh))] H := hP
                        have hD : va_D A [(m3, .inl (cI, 16384, .inl gd)), (m13, .inl (cI, 4096, .inl gs)), (m4, .inl (cZ, 4096, .inl (upd gu y_35.toNatClampNeg (vp_nar .boolean 1)))), (h0, .inr (9, [.ref m1, .ref m2, .ref m3, .int ik, .int wy, .int op, .int cl, .int cx0, .int cx1, .int cy0, .int cy1, .int ds, .ref m4, .ref m5, .ref m6, .ref m7, .ref m8, .ref m9, .int pn, .ref m10, .ref m11, .ref m12, .ref m13])), (m1, .inl (cI, 4, .inl gw)), (m2, .inl (cI, 4, .inl gh))] := hD
                        generalize eg_43 : upd gu y_35.toNatClampNeg (vp_nar .boolean 1) = g_43 at hP hD
                        have hP : va_P D vwCl [(m3, .inl (cI, 16384, .inl gd)), (m13, .inl (cI, 4096, .inl gs)), (m4, .inl (cZ, 4096, .inl g_43)), (h0, .inr (9, [.ref m1, .ref m2, .ref m3, .int ik, .int wy, .int op, .int cl, .int cx0, .int cx1, .int cy0, .int cy1, .int ds, .ref m4, .ref m5, .ref m6, .ref m7, .ref m8, .ref m9, .int pn, .ref m10, .ref m11, .ref m12, .ref m13])), (m1, .inl (cI, 4, .inl gw)), (m2, .inl (cI, 4, .inl gh))] H := hP
                        have hD : va_D A [(m3, .inl (cI, 16384, .inl gd)), (m13, .inl (cI, 4096, .inl gs)), (m4, .inl (cZ, 4096, .inl g_43)), (h0, .inr (9, [.ref m1, .ref m2, .ref m3, .int ik, .int wy, .int op, .int cl, .int cx0, .int cx1, .int cy0, .int cy1, .int ds, .ref m4, .ref m5, .ref m6, .ref m7, .ref m8, .ref m9, .int pn, .ref m10, .ref m11, .ref m12, .ref m13])), (m1, .inl (cI, 4, .inl gw)), (m2, .inl (cI, 4, .inl gh))] := hD
                        have hmk : (rcI (opnJ (gw k.toNatClampNeg) (gh k.toNatClampNeg) cl cx0 cx1 cy0 cy1 ic) (fun t => gd (4096 * k.toNatClampNeg + t)) (gd (4096 * k.toNatClampNeg + ixP x y)) co (pX ((rcO (opnJ (gw k.toNatClampNeg) (gh k.toNatClampNeg) cl cx0 cx1 cy0 cy1 ic) (fun t => gd (4096 * k.toNatClampNeg + t)) (gd (4096 * k.toNatClampNeg + ixP x y)) co st1 dn).2.1 dn)) (pY ((rcO (opnJ (gw k.toNatClampNeg) (gh k.toNatClampNeg) cl cx0 cx1 cy0 cy1 ic) (fun t => gd (4096 * k.toNatClampNeg + t)) (gd (4096 * k.toNatClampNeg + ixP x y)) co st1 dn).2.1 dn)) (rcO (opnJ (gw k.toNatClampNeg) (gh k.toNatClampNeg) cl cx0 cx1 cy0 cy1 ic) (fun t => gd (4096 * k.toNatClampNeg + t)) (gd (4096 * k.toNatClampNeg + ixP x y)) co st1 dn) i).1 (ixP y_24 y_25) = 0 := by rw [← f3, ← hxcy_35]; exact c_36
                        have hixn : ixP y_24 y_25 < 4096 := ix_lt (by omega) (by omega) (by omega) (by omega)
                        have hcn2 : cntP (upd (rcI (opnJ (gw k.toNatClampNeg) (gh k.toNatClampNeg) cl cx0 cx1 cy0 cy1 ic) (fun t => gd (4096 * k.toNatClampNeg + t)) (gd (4096 * k.toNatClampNeg + ixP x y)) co (pX ((rcO (opnJ (gw k.toNatClampNeg) (gh k.toNatClampNeg) cl cx0 cx1 cy0 cy1 ic) (fun t => gd (4096 * k.toNatClampNeg + t)) (gd (4096 * k.toNatClampNeg + ixP x y)) co st1 dn).2.1 dn)) (pY ((rcO (opnJ (gw k.toNatClampNeg) (gh k.toNatClampNeg) cl cx0 cx1 cy0 cy1 ic) (fun t => gd (4096 * k.toNatClampNeg + t)) (gd (4096 * k.toNatClampNeg + ixP x y)) co st1 dn).2.1 dn)) (rcO (opnJ (gw k.toNatClampNeg) (gh k.toNatClampNeg) cl cx0 cx1 cy0 cy1 ic) (fun t => gd (4096 * k.toNatClampNeg + t)) (gd (4096 * k.toNatClampNeg + ixP x y)) co st1 dn) i).1 (ixP y_24 y_25) 1) 4096 = (rcI (opnJ (gw k.toNatClampNeg) (gh k.toNatClampNeg) cl cx0 cx1 cy0 cy1 ic) (fun t => gd (4096 * k.toNatClampNeg + t)) (gd (4096 * k.toNatClampNeg + ixP x y)) co (pX ((rcO (opnJ (gw k.toNatClampNeg) (gh k.toNatClampNeg) cl cx0 cx1 cy0 cy1 ic) (fun t => gd (4096 * k.toNatClampNeg + t)) (gd (4096 * k.toNatClampNeg + ixP x y)) co st1 dn).2.1 dn)) (pY ((rcO (opnJ (gw k.toNatClampNeg) (gh k.toNatClampNeg) cl cx0 cx1 cy0 cy1 ic) (fun t => gd (4096 * k.toNatClampNeg + t)) (gd (4096 * k.toNatClampNeg + ixP x y)) co st1 dn).2.1 dn)) (rcO (opnJ (gw k.toNatClampNeg) (gh k.toNatClampNeg) cl cx0 cx1 cy0 cy1 ic) (fun t => gd (4096 * k.toNatClampNeg + t)) (gd (4096 * k.toNatClampNeg + ixP x y)) co st1 dn) i).2.2 + 1 := by rw [cnt_up1 hixn hmk, fcn]
                        have hm2 : (rcI (opnJ (gw k.toNatClampNeg) (gh k.toNatClampNeg) cl cx0 cx1 cy0 cy1 ic) (fun t => gd (4096 * k.toNatClampNeg + t)) (gd (4096 * k.toNatClampNeg + ixP x y)) co (pX ((rcO (opnJ (gw k.toNatClampNeg) (gh k.toNatClampNeg) cl cx0 cx1 cy0 cy1 ic) (fun t => gd (4096 * k.toNatClampNeg + t)) (gd (4096 * k.toNatClampNeg + ixP x y)) co st1 dn).2.1 dn)) (pY ((rcO (opnJ (gw k.toNatClampNeg) (gh k.toNatClampNeg) cl cx0 cx1 cy0 cy1 ic) (fun t => gd (4096 * k.toNatClampNeg + t)) (gd (4096 * k.toNatClampNeg + ixP x y)) co st1 dn).2.1 dn)) (rcO (opnJ (gw k.toNatClampNeg) (gh k.toNatClampNeg) cl cx0 cx1 cy0 cy1 ic) (fun t => gd (4096 * k.toNatClampNeg + t)) (gd (4096 * k.toNatClampNeg + ixP x y)) co st1 dn) i).2.2 + 1 ≤ 4096 := by rw [← hcn2]; exact cntP_le _ _
                        refine lv_aload_n hx hb dX9_joins_223 rfl (lv_at hl 9 rfl) ?_
                        refine va_get (D := D) (ci := 9) (v := .ref m13) (C := RX9) (T := TX9) (N := 23) hx hb hts hi_X9 hown hK hP 3 rfl rfl 22 (by decide) (hts _ bw_413) (fun _ h9 => h9) rfl dX9_joins_224 ?_
                        refine lv_iload hx hb dX9_joins_227 (lv_at hl 7 rfl) ?_
                        refine lv_iload hx hb dX9_joins_229 (lv_at hl 0 rfl) ?_
                        refine va_iast hx hb hK hP hD hS 1 0 rfl rfl (vp_in_iff.mpr ⟨by omega, by omega⟩) dX9_joins_231 (fun H locs hP hD hS => ?_)
                        have hP : va_P D vwCl [(m3, .inl (cI, 16384, .inl gd)), (m13, .inl (cI, 4096, .inl (upd gs z7.toNatClampNeg y_35))), (m4, .inl (cZ, 4096, .inl g_43)), (h0, .inr (9, [.ref m1, .ref m2, .ref m3, .int ik, .int wy, .int op, .int cl, .int cx0, .int cx1, .int cy0, .int cy1, .int ds, .ref m4, .ref m5, .ref m6, .ref m7, .ref m8, .ref m9, .int pn, .ref m10, .ref m11, .ref m12, .ref m13])), (m1, .inl (cI, 4, .inl gw)), (m2, .inl (cI, 4, .inl gh))] H := hP
                        have hD : va_D A [(m3, .inl (cI, 16384, .inl gd)), (m13, .inl (cI, 4096, .inl (upd gs z7.toNatClampNeg y_35))), (m4, .inl (cZ, 4096, .inl g_43)), (h0, .inr (9, [.ref m1, .ref m2, .ref m3, .int ik, .int wy, .int op, .int cl, .int cx0, .int cx1, .int cy0, .int cy1, .int ds, .ref m4, .ref m5, .ref m6, .ref m7, .ref m8, .ref m9, .int pn, .ref m10, .ref m11, .ref m12, .ref m13])), (m1, .inl (cI, 4, .inl gw)), (m2, .inl (cI, 4, .inl gh))] := hD
                        generalize eg_44 : upd gs z7.toNatClampNeg y_35 = g_44 at hP hD
                        have hP : va_P D vwCl [(m3, .inl (cI, 16384, .inl gd)), (m13, .inl (cI, 4096, .inl g_44)), (m4, .inl (cZ, 4096, .inl g_43)), (h0, .inr (9, [.ref m1, .ref m2, .ref m3, .int ik, .int wy, .int op, .int cl, .int cx0, .int cx1, .int cy0, .int cy1, .int ds, .ref m4, .ref m5, .ref m6, .ref m7, .ref m8, .ref m9, .int pn, .ref m10, .ref m11, .ref m12, .ref m13])), (m1, .inl (cI, 4, .inl gw)), (m2, .inl (cI, 4, .inl gh))] H := hP
                        have hD : va_D A [(m3, .inl (cI, 16384, .inl gd)), (m13, .inl (cI, 4096, .inl g_44)), (m4, .inl (cZ, 4096, .inl g_43)), (h0, .inr (9, [.ref m1, .ref m2, .ref m3, .int ik, .int wy, .int op, .int cl, .int cx0, .int cx1, .int cy0, .int cy1, .int ds, .ref m4, .ref m5, .ref m6, .ref m7, .ref m8, .ref m9, .int pn, .ref m10, .ref m11, .ref m12, .ref m13])), (m1, .inl (cI, 4, .inl gw)), (m2, .inl (cI, 4, .inl gh))] := hD
                        refine lv_iload hx hb dX9_joins_232 (lv_at hl 7 rfl) ?_
                        refine lv_iconst (v := 1) hx hb dX9_joins_234 (by decide) ?_
                        refine lv_iadd hx hb dX9_joins_235 ?_
                        refine lv_topi (fun y_45 ey_45 => ?_)
                        refine lv_istore (lv' := [(7, .int y_45), (14, .int y_35), (13, .int y_21), (12, .int y_19), (11, .int x11), (8, .int y_13), (10, .int y_12), (9, .int y_11), (6, .int (gd (4096 * k.toNatClampNeg + ixP x y))), (0, .ref h0), (1, .int k), (2, .int x), (3, .int y), (4, .int co), (5, .int ic)]) hx hb dX9_joins_236 hl (by decide) rfl (fun ls hl => ?_)
                        obtain ⟨y_46, ey_46⟩ : ∃ y : Int32, y = x11 + 1 := ⟨_, rfl⟩
                        refine lv_iinc (v := y_46) (lv' := [(11, .int y_46), (7, .int y_45), (14, .int y_35), (13, .int y_21), (12, .int y_19), (8, .int y_13), (10, .int y_12), (9, .int y_11), (6, .int (gd (4096 * k.toNatClampNeg + ixP x y))), (0, .ref h0), (1, .int k), (2, .int x), (3, .int y), (4, .int co), (5, .int ic)]) hx hb dX9_joins_238 hl (k := 4) rfl (by rw [ey_46]; rfl) (by decide) rfl (fun ls hl => ?_)
                        refine lv_goto (tgt := 87) hx hb dX9_joins_241 (by decide) ?_
                        have hS1 : (rcI (opnJ (gw k.toNatClampNeg) (gh k.toNatClampNeg) cl cx0 cx1 cy0 cy1 ic) (fun t => gd (4096 * k.toNatClampNeg + t)) (gd (4096 * k.toNatClampNeg + ixP x y)) co (pX ((rcO (opnJ (gw k.toNatClampNeg) (gh k.toNatClampNeg) cl cx0 cx1 cy0 cy1 ic) (fun t => gd (4096 * k.toNatClampNeg + t)) (gd (4096 * k.toNatClampNeg + ixP x y)) co st1 dn).2.1 dn)) (pY ((rcO (opnJ (gw k.toNatClampNeg) (gh k.toNatClampNeg) cl cx0 cx1 cy0 cy1 ic) (fun t => gd (4096 * k.toNatClampNeg + t)) (gd (4096 * k.toNatClampNeg + ixP x y)) co st1 dn).2.1 dn)) (rcO (opnJ (gw k.toNatClampNeg) (gh k.toNatClampNeg) cl cx0 cx1 cy0 cy1 ic) (fun t => gd (4096 * k.toNatClampNeg + t)) (gd (4096 * k.toNatClampNeg + ixP x y)) co st1 dn) (i + 1)) = rcS (opnJ (gw k.toNatClampNeg) (gh k.toNatClampNeg) cl cx0 cx1 cy0 cy1 ic) (fun t => gd (4096 * k.toNatClampNeg + t)) (gd (4096 * k.toNatClampNeg + ixP x y)) y_24 y_25 (rcI (opnJ (gw k.toNatClampNeg) (gh k.toNatClampNeg) cl cx0 cx1 cy0 cy1 ic) (fun t => gd (4096 * k.toNatClampNeg + t)) (gd (4096 * k.toNatClampNeg + ixP x y)) co (pX ((rcO (opnJ (gw k.toNatClampNeg) (gh k.toNatClampNeg) cl cx0 cx1 cy0 cy1 ic) (fun t => gd (4096 * k.toNatClampNeg + t)) (gd (4096 * k.toNatClampNeg + ixP x y)) co st1 dn).2.1 dn)) (pY ((rcO (opnJ (gw k.toNatClampNeg) (gh k.toNatClampNeg) cl cx0 cx1 cy0 cy1 ic) (fun t => gd (4096 * k.toNatClampNeg + t)) (gd (4096 * k.toNatClampNeg + ixP x y)) co st1 dn).2.1 dn)) (rcO (opnJ (gw k.toNatClampNeg) (gh k.toNatClampNeg) cl cx0 cx1 cy0 cy1 ic) (fun t => gd (4096 * k.toNatClampNeg + t)) (gd (4096 * k.toNatClampNeg + ixP x y)) co st1 dn) i) := by rw [hay_24, hay_25]; exact if_pos (Or.inl c_22)
                        have hSt : (rcI (opnJ (gw k.toNatClampNeg) (gh k.toNatClampNeg) cl cx0 cx1 cy0 cy1 ic) (fun t => gd (4096 * k.toNatClampNeg + t)) (gd (4096 * k.toNatClampNeg + ixP x y)) co (pX ((rcO (opnJ (gw k.toNatClampNeg) (gh k.toNatClampNeg) cl cx0 cx1 cy0 cy1 ic) (fun t => gd (4096 * k.toNatClampNeg + t)) (gd (4096 * k.toNatClampNeg + ixP x y)) co st1 dn).2.1 dn)) (pY ((rcO (opnJ (gw k.toNatClampNeg) (gh k.toNatClampNeg) cl cx0 cx1 cy0 cy1 ic) (fun t => gd (4096 * k.toNatClampNeg + t)) (gd (4096 * k.toNatClampNeg + ixP x y)) co st1 dn).2.1 dn)) (rcO (opnJ (gw k.toNatClampNeg) (gh k.toNatClampNeg) cl cx0 cx1 cy0 cy1 ic) (fun t => gd (4096 * k.toNatClampNeg + t)) (gd (4096 * k.toNatClampNeg + ixP x y)) co st1 dn) (i + 1)) = (upd (rcI (opnJ (gw k.toNatClampNeg) (gh k.toNatClampNeg) cl cx0 cx1 cy0 cy1 ic) (fun t => gd (4096 * k.toNatClampNeg + t)) (gd (4096 * k.toNatClampNeg + ixP x y)) co (pX ((rcO (opnJ (gw k.toNatClampNeg) (gh k.toNatClampNeg) cl cx0 cx1 cy0 cy1 ic) (fun t => gd (4096 * k.toNatClampNeg + t)) (gd (4096 * k.toNatClampNeg + ixP x y)) co st1 dn).2.1 dn)) (pY ((rcO (opnJ (gw k.toNatClampNeg) (gh k.toNatClampNeg) cl cx0 cx1 cy0 cy1 ic) (fun t => gd (4096 * k.toNatClampNeg + t)) (gd (4096 * k.toNatClampNeg + ixP x y)) co st1 dn).2.1 dn)) (rcO (opnJ (gw k.toNatClampNeg) (gh k.toNatClampNeg) cl cx0 cx1 cy0 cy1 ic) (fun t => gd (4096 * k.toNatClampNeg + t)) (gd (4096 * k.toNatClampNeg + ixP x y)) co st1 dn) i).1 (ixP y_24 y_25) 1, upd (rcI (opnJ (gw k.toNatClampNeg) (gh k.toNatClampNeg) cl cx0 cx1 cy0 cy1 ic) (fun t => gd (4096 * k.toNatClampNeg + t)) (gd (4096 * k.toNatClampNeg + ixP x y)) co (pX ((rcO (opnJ (gw k.toNatClampNeg) (gh k.toNatClampNeg) cl cx0 cx1 cy0 cy1 ic) (fun t => gd (4096 * k.toNatClampNeg + t)) (gd (4096 * k.toNatClampNeg + ixP x y)) co st1 dn).2.1 dn)) (pY ((rcO (opnJ (gw k.toNatClampNeg) (gh k.toNatClampNeg) cl cx0 cx1 cy0 cy1 ic) (fun t => gd (4096 * k.toNatClampNeg + t)) (gd (4096 * k.toNatClampNeg + ixP x y)) co st1 dn).2.1 dn)) (rcO (opnJ (gw k.toNatClampNeg) (gh k.toNatClampNeg) cl cx0 cx1 cy0 cy1 ic) (fun t => gd (4096 * k.toNatClampNeg + t)) (gd (4096 * k.toNatClampNeg + ixP x y)) co st1 dn) i).2.1 (rcI (opnJ (gw k.toNatClampNeg) (gh k.toNatClampNeg) cl cx0 cx1 cy0 cy1 ic) (fun t => gd (4096 * k.toNatClampNeg + t)) (gd (4096 * k.toNatClampNeg + ixP x y)) co (pX ((rcO (opnJ (gw k.toNatClampNeg) (gh k.toNatClampNeg) cl cx0 cx1 cy0 cy1 ic) (fun t => gd (4096 * k.toNatClampNeg + t)) (gd (4096 * k.toNatClampNeg + ixP x y)) co st1 dn).2.1 dn)) (pY ((rcO (opnJ (gw k.toNatClampNeg) (gh k.toNatClampNeg) cl cx0 cx1 cy0 cy1 ic) (fun t => gd (4096 * k.toNatClampNeg + t)) (gd (4096 * k.toNatClampNeg + ixP x y)) co st1 dn).2.1 dn)) (rcO (opnJ (gw k.toNatClampNeg) (gh k.toNatClampNeg) cl cx0 cx1 cy0 cy1 ic) (fun t => gd (4096 * k.toNatClampNeg + t)) (gd (4096 * k.toNatClampNeg + ixP x y)) co st1 dn) i).2.2 (nI (ixP y_24 y_25)), (rcI (opnJ (gw k.toNatClampNeg) (gh k.toNatClampNeg) cl cx0 cx1 cy0 cy1 ic) (fun t => gd (4096 * k.toNatClampNeg + t)) (gd (4096 * k.toNatClampNeg + ixP x y)) co (pX ((rcO (opnJ (gw k.toNatClampNeg) (gh k.toNatClampNeg) cl cx0 cx1 cy0 cy1 ic) (fun t => gd (4096 * k.toNatClampNeg + t)) (gd (4096 * k.toNatClampNeg + ixP x y)) co st1 dn).2.1 dn)) (pY ((rcO (opnJ (gw k.toNatClampNeg) (gh k.toNatClampNeg) cl cx0 cx1 cy0 cy1 ic) (fun t => gd (4096 * k.toNatClampNeg + t)) (gd (4096 * k.toNatClampNeg + ixP x y)) co st1 dn).2.1 dn)) (rcO (opnJ (gw k.toNatClampNeg) (gh k.toNatClampNeg) cl cx0 cx1 cy0 cy1 ic) (fun t => gd (4096 * k.toNatClampNeg + t)) (gd (4096 * k.toNatClampNeg + ixP x y)) co st1 dn) i).2.2 + 1) := hS1.trans (if_pos ⟨⟨⟨f_28, Or.inl c_30⟩, c_41⟩, hmk, by omega⟩)
                        exact ih_15 (i + 1) y_46 y_45 g_43 g_44 _ _ _ (by omega) (by omega) (by rw [ey_46, ex_i]; exact nI_1 i) (by rw [hSt, ey_45, f7]; exact nI_1 _) (by rw [hSt, ← eg_43, f3, hxcy_35]; rfl) (by rw [hSt, ← eg_44, f2, hixy_35, show z7.toNatClampNeg = (rcI (opnJ (gw k.toNatClampNeg) (gh k.toNatClampNeg) cl cx0 cx1 cy0 cy1 ic) (fun t => gd (4096 * k.toNatClampNeg + t)) (gd (4096 * k.toNatClampNeg + ixP x y)) co (pX ((rcO (opnJ (gw k.toNatClampNeg) (gh k.toNatClampNeg) cl cx0 cx1 cy0 cy1 ic) (fun t => gd (4096 * k.toNatClampNeg + t)) (gd (4096 * k.toNatClampNeg + ixP x y)) co st1 dn).2.1 dn)) (pY ((rcO (opnJ (gw k.toNatClampNeg) (gh k.toNatClampNeg) cl cx0 cx1 cy0 cy1 ic) (fun t => gd (4096 * k.toNatClampNeg + t)) (gd (4096 * k.toNatClampNeg + ixP x y)) co st1 dn).2.1 dn)) (rcO (opnJ (gw k.toNatClampNeg) (gh k.toNatClampNeg) cl cx0 cx1 cy0 cy1 ic) (fun t => gd (4096 * k.toNatClampNeg + t)) (gd (4096 * k.toNatClampNeg + ixP x y)) co st1 dn) i).2.2 by rw [f7]; exact nI_clamp (by omega)]) (by rw [hSt]; exact hcn2) (hP.sub (ws' := [(m1, .inl (cI, 4, .inl gw)), (m2, .inl (cI, 4, .inl gh)), (m3, .inl (cI, 16384, .inl gd)), (m13, .inl (cI, 4096, .inl g_44)), (h0, .inr (9, [.ref m1, .ref m2, .ref m3, .int ik, .int wy, .int op, .int cl, .int cx0, .int cx1, .int cy0, .int cy1, .int ds, .ref m4, .ref m5, .ref m6, .ref m7, .ref m8, .ref m9, .int pn, .ref m10, .ref m11, .ref m12, .ref m13])), (m4, .inl (cZ, 4096, .inl g_43))]) [4, 5, 0, 1, 3, 2] rfl) (hD.sub (ws' := [(m1, .inl (cI, 4, .inl gw)), (m2, .inl (cI, 4, .inl gh)), (m3, .inl (cI, 16384, .inl gd)), (m13, .inl (cI, 4096, .inl g_44)), (h0, .inr (9, [.ref m1, .ref m2, .ref m3, .int ik, .int wy, .int op, .int cl, .int cx0, .int cx1, .int cy0, .int cy1, .int ds, .ref m4, .ref m5, .ref m6, .ref m7, .ref m8, .ref m9, .int pn, .ref m10, .ref m11, .ref m12, .ref m13])), (m4, .inl (cZ, 4096, .inl g_43))]) [4, 5, 0, 1, 3, 2] (by decide) rfl) hS (lv_sub hl [0, 5, 6, 7, 1, 8, 9, 10, 11, 12, 13, 14] rfl)
                      · skip
                        have f_42 : ¬ ((gd (4096 * k.toNatClampNeg + ixP y_24 y_25)).toInt = (gd (4096 * k.toNatClampNeg + ixP x y)).toInt) := fn_eq rfl rfl c_41
                        refine lv_goto (tgt := 238) hx hb dX9_joins_212 (by decide) ?_
                        obtain ⟨y_47, ey_47⟩ : ∃ y : Int32, y = x11 + 1 := ⟨_, rfl⟩
                        refine lv_iinc (v := y_47) (lv' := [(11, .int y_47), (14, .int y_35), (13, .int y_21), (12, .int y_19), (8, .int y_13), (10, .int y_12), (9, .int y_11), (7, .int z7), (6, .int (gd (4096 * k.toNatClampNeg + ixP x y))), (0, .ref h0), (1, .int k), (2, .int x), (3, .int y), (4, .int co), (5, .int ic)]) hx hb dX9_joins_238 hl (k := 3) rfl (by rw [ey_47]; rfl) (by decide) rfl (fun ls hl => ?_)
                        refine lv_goto (tgt := 87) hx hb dX9_joins_241 (by decide) ?_
                        have hS1 : (rcI (opnJ (gw k.toNatClampNeg) (gh k.toNatClampNeg) cl cx0 cx1 cy0 cy1 ic) (fun t => gd (4096 * k.toNatClampNeg + t)) (gd (4096 * k.toNatClampNeg + ixP x y)) co (pX ((rcO (opnJ (gw k.toNatClampNeg) (gh k.toNatClampNeg) cl cx0 cx1 cy0 cy1 ic) (fun t => gd (4096 * k.toNatClampNeg + t)) (gd (4096 * k.toNatClampNeg + ixP x y)) co st1 dn).2.1 dn)) (pY ((rcO (opnJ (gw k.toNatClampNeg) (gh k.toNatClampNeg) cl cx0 cx1 cy0 cy1 ic) (fun t => gd (4096 * k.toNatClampNeg + t)) (gd (4096 * k.toNatClampNeg + ixP x y)) co st1 dn).2.1 dn)) (rcO (opnJ (gw k.toNatClampNeg) (gh k.toNatClampNeg) cl cx0 cx1 cy0 cy1 ic) (fun t => gd (4096 * k.toNatClampNeg + t)) (gd (4096 * k.toNatClampNeg + ixP x y)) co st1 dn) (i + 1)) = rcS (opnJ (gw k.toNatClampNeg) (gh k.toNatClampNeg) cl cx0 cx1 cy0 cy1 ic) (fun t => gd (4096 * k.toNatClampNeg + t)) (gd (4096 * k.toNatClampNeg + ixP x y)) y_24 y_25 (rcI (opnJ (gw k.toNatClampNeg) (gh k.toNatClampNeg) cl cx0 cx1 cy0 cy1 ic) (fun t => gd (4096 * k.toNatClampNeg + t)) (gd (4096 * k.toNatClampNeg + ixP x y)) co (pX ((rcO (opnJ (gw k.toNatClampNeg) (gh k.toNatClampNeg) cl cx0 cx1 cy0 cy1 ic) (fun t => gd (4096 * k.toNatClampNeg + t)) (gd (4096 * k.toNatClampNeg + ixP x y)) co st1 dn).2.1 dn)) (pY ((rcO (opnJ (gw k.toNatClampNeg) (gh k.toNatClampNeg) cl cx0 cx1 cy0 cy1 ic) (fun t => gd (4096 * k.toNatClampNeg + t)) (gd (4096 * k.toNatClampNeg + ixP x y)) co st1 dn).2.1 dn)) (rcO (opnJ (gw k.toNatClampNeg) (gh k.toNatClampNeg) cl cx0 cx1 cy0 cy1 ic) (fun t => gd (4096 * k.toNatClampNeg + t)) (gd (4096 * k.toNatClampNeg + ixP x y)) co st1 dn) i) := by rw [hay_24, hay_25]; exact if_pos (Or.inl c_22)
                        have hSt : (rcI (opnJ (gw k.toNatClampNeg) (gh k.toNatClampNeg) cl cx0 cx1 cy0 cy1 ic) (fun t => gd (4096 * k.toNatClampNeg + t)) (gd (4096 * k.toNatClampNeg + ixP x y)) co (pX ((rcO (opnJ (gw k.toNatClampNeg) (gh k.toNatClampNeg) cl cx0 cx1 cy0 cy1 ic) (fun t => gd (4096 * k.toNatClampNeg + t)) (gd (4096 * k.toNatClampNeg + ixP x y)) co st1 dn).2.1 dn)) (pY ((rcO (opnJ (gw k.toNatClampNeg) (gh k.toNatClampNeg) cl cx0 cx1 cy0 cy1 ic) (fun t => gd (4096 * k.toNatClampNeg + t)) (gd (4096 * k.toNatClampNeg + ixP x y)) co st1 dn).2.1 dn)) (rcO (opnJ (gw k.toNatClampNeg) (gh k.toNatClampNeg) cl cx0 cx1 cy0 cy1 ic) (fun t => gd (4096 * k.toNatClampNeg + t)) (gd (4096 * k.toNatClampNeg + ixP x y)) co st1 dn) (i + 1)) = (rcI (opnJ (gw k.toNatClampNeg) (gh k.toNatClampNeg) cl cx0 cx1 cy0 cy1 ic) (fun t => gd (4096 * k.toNatClampNeg + t)) (gd (4096 * k.toNatClampNeg + ixP x y)) co (pX ((rcO (opnJ (gw k.toNatClampNeg) (gh k.toNatClampNeg) cl cx0 cx1 cy0 cy1 ic) (fun t => gd (4096 * k.toNatClampNeg + t)) (gd (4096 * k.toNatClampNeg + ixP x y)) co st1 dn).2.1 dn)) (pY ((rcO (opnJ (gw k.toNatClampNeg) (gh k.toNatClampNeg) cl cx0 cx1 cy0 cy1 ic) (fun t => gd (4096 * k.toNatClampNeg + t)) (gd (4096 * k.toNatClampNeg + ixP x y)) co st1 dn).2.1 dn)) (rcO (opnJ (gw k.toNatClampNeg) (gh k.toNatClampNeg) cl cx0 cx1 cy0 cy1 ic) (fun t => gd (4096 * k.toNatClampNeg + t)) (gd (4096 * k.toNatClampNeg + ixP x y)) co st1 dn) i) := hS1.trans (if_neg (fun q => c_41 q.1.2))
                        exact ih_15 (i + 1) y_47 z7 gu gs _ _ _ (by omega) (by omega) (by rw [ey_47, ex_i]; exact nI_1 i) (by rw [hSt]; exact f7) (by rw [hSt]; exact f3) (by rw [hSt]; exact f2) (by rw [hSt]; exact fcn) (hP.sub (ws' := [(m1, .inl (cI, 4, .inl gw)), (m2, .inl (cI, 4, .inl gh)), (m3, .inl (cI, 16384, .inl gd)), (m13, .inl (cI, 4096, .inl gs)), (h0, .inr (9, [.ref m1, .ref m2, .ref m3, .int ik, .int wy, .int op, .int cl, .int cx0, .int cx1, .int cy0, .int cy1, .int ds, .ref m4, .ref m5, .ref m6, .ref m7, .ref m8, .ref m9, .int pn, .ref m10, .ref m11, .ref m12, .ref m13])), (m4, .inl (cZ, 4096, .inl gu))]) [4, 5, 0, 1, 3, 2] rfl) (hD.sub (ws' := [(m1, .inl (cI, 4, .inl gw)), (m2, .inl (cI, 4, .inl gh)), (m3, .inl (cI, 16384, .inl gd)), (m13, .inl (cI, 4096, .inl gs)), (h0, .inr (9, [.ref m1, .ref m2, .ref m3, .int ik, .int wy, .int op, .int cl, .int cx0, .int cx1, .int cy0, .int cy1, .int ds, .ref m4, .ref m5, .ref m6, .ref m7, .ref m8, .ref m9, .int pn, .ref m10, .ref m11, .ref m12, .ref m13])), (m4, .inl (cZ, 4096, .inl gu))]) [4, 5, 0, 1, 3, 2] (by decide) rfl) hS (lv_sub hl [0, 4, 5, 6, 7, 8, 9, 10, 11, 12, 13, 14] rfl)
                  · skip
                    have f_31 : ¬ (ic.toInt = 0) := fn_eq rfl (by decide) c_30
                    refine lv_aload_n hx hb dX9_joins_148 rfl (lv_at hl 8 rfl) ?_
                    refine lv_iload hx hb dX9_joins_149 (lv_at hl 5 rfl) ?_
                    refine lv_iload hx hb dX9_joins_151 (lv_at hl 1 rfl) ?_
                    refine lv_iadd hx hb dX9_joins_153 ?_
                    refine lv_topi (fun y_48 ey_48 => ?_)
                    have hay_48 : y_48 = pX ((rcO (opnJ (gw k.toNatClampNeg) (gh k.toNatClampNeg) cl cx0 cx1 cy0 cy1 ic) (fun t => gd (4096 * k.toNatClampNeg + t)) (gd (4096 * k.toNatClampNeg + ixP x y)) co st1 dn).2.1 dn) + dX i := by rw [ey_48, hp9, hdy_19]
                    refine lv_iload hx hb dX9_joins_154 (lv_at hl 4 rfl) ?_
                    refine lv_iload hx hb dX9_joins_156 (lv_at hl 0 rfl) ?_
                    refine lv_iadd hx hb dX9_joins_158 ?_
                    refine lv_topi (fun y_49 ey_49 => ?_)
                    have hay_49 : y_49 = pY ((rcO (opnJ (gw k.toNatClampNeg) (gh k.toNatClampNeg) cl cx0 cx1 cy0 cy1 ic) (fun t => gd (4096 * k.toNatClampNeg + t)) (gd (4096 * k.toNatClampNeg + ixP x y)) co st1 dn).2.1 dn) + dY i := by rw [ey_49, hp10, hdy_21]
                    have hPc := hP.sub (ws' := [(h0, .inr (9, [.ref m1, .ref m2, .ref m3, .int ik, .int wy, .int op, .int cl, .int cx0, .int cx1, .int cy0, .int cy1, .int ds, .ref m4, .ref m5, .ref m6, .ref m7, .ref m8, .ref m9, .int pn, .ref m10, .ref m11, .ref m12, .ref m13]))]) [3] rfl
                    have hDc := hD.sub (ws' := [(h0, .inr (9, [.ref m1, .ref m2, .ref m3, .int ik, .int wy, .int op, .int cl, .int cx0, .int cx1, .int cy0, .int cy1, .int ds, .ref m4, .ref m5, .ref m6, .ref m7, .ref m8, .ref m9, .int pn, .ref m10, .ref m11, .ref m12, .ref m13]))]) [3] (by decide) rfl
                    have hKc := hK.sub (tys' := []) [] rfl
                    have hFc := va_free (wc := [(h0, .inr (9, [.ref m1, .ref m2, .ref m3, .int ik, .int wy, .int op, .int cl, .int cx0, .int cx1, .int cy0, .int cy1, .int ds, .ref m4, .ref m5, .ref m6, .ref m7, .ref m8, .ref m9, .int pn, .ref m10, .ref m11, .ref m12, .ref m13]))]) hD hS hA [3] rfl
                    refine va_calli (va_runV (As := [.int y_48, .int y_49]) (rest := []) ⟨hx, hb, hml, hown, hts⟩ (k_X9_isInClip l D H.size h0 m1 m2 m3 m4 m5 m6 m7 m8 m9 m10 m11 m12 m13 ik wy op cl cx0 cx1 cy0 cy1 ds pn y_48 y_49) (cwV 2 hts (gV bw_434 bw_423 bw_424 bw_391 bw_422) rfl rfl rfl (by decide +kernel) ⟨(by rw [hR]; exact Nat.le_of_ble_eq_true rfl), (by rw [hR]; exact Nat.le_of_ble_eq_true rfl)⟩) ⟨cP_blind, va_recv hKc hPc (ci := 9) (q0 := 0) rfl rfl, cP_at hPc hKc hDc hN⟩ rfl rfl hl.1 rfl (lv_room (Nat.le_of_ble_eq_true rfl)) dX9_joins_159 ⟨(by rw [hR]; exact Nat.le_of_ble_eq_true rfl), (by rw [hR]; exact Nat.le_of_ble_eq_true rfl)⟩) hS (fun q _ h => hFc q h) hFc (fun r_50 u9 t9 H1 locs ht hvm hr_50 hB hz1 hk1 hS => ?_)
                    try dsimp only at hr_50
                    obtain ⟨hP1, hK1, hD1⟩ := hB
                    rw [ht] at hP1
                    obtain ⟨hP, hD⟩ := va_join (wr := [(m3, .inl (cI, 16384, .inl gd)), (m13, .inl (cI, 4096, .inl gs)), (m4, .inl (cZ, 4096, .inl gu)), (m1, .inl (cI, 4, .inl gw)), (m2, .inl (cI, 4, .inl gh))]) (w1 := [(h0, .inr (9, [.ref m1, .ref m2, .ref m3, .int ik, .int wy, .int op, .int cl, .int cx0, .int cx1, .int cy0, .int cy1, .int ds, .ref m4, .ref m5, .ref m6, .ref m7, .ref m8, .ref m9, .int pn, .ref m10, .ref m11, .ref m12, .ref m13]))]) hP hD [3] [0, 1, 2, 4, 5] rfl rfl (by decide) (by decide) hk1 hFc hP1 hD1
                    clear hz1 hk1 hFc hKc hDc hPc
                    generalize H1 = H at hP hS ⊢
                    have hP : va_P D vwCl [(m3, .inl (cI, 16384, .inl gd)), (m13, .inl (cI, 4096, .inl gs)), (m4, .inl (cZ, 4096, .inl gu)), (m1, .inl (cI, 4, .inl gw)), (m2, .inl (cI, 4, .inl gh)), (h0, .inr (9, [.ref m1, .ref m2, .ref m3, .int ik, .int wy, .int op, .int cl, .int cx0, .int cx1, .int cy0, .int cy1, .int ds, .ref m4, .ref m5, .ref m6, .ref m7, .ref m8, .ref m9, .int pn, .ref m10, .ref m11, .ref m12, .ref m13]))] H := hP
                    have hD : va_D A [(m3, .inl (cI, 16384, .inl gd)), (m13, .inl (cI, 4096, .inl gs)), (m4, .inl (cZ, 4096, .inl gu)), (m1, .inl (cI, 4, .inl gw)), (m2, .inl (cI, 4, .inl gh)), (h0, .inr (9, [.ref m1, .ref m2, .ref m3, .int ik, .int wy, .int op, .int cl, .int cx0, .int cx1, .int cy0, .int cy1, .int ds, .ref m4, .ref m5, .ref m6, .ref m7, .ref m8, .ref m9, .int pn, .ref m10, .ref m11, .ref m12, .ref m13]))] := hD
                    have hcqx : y_48 = y_24 := by rw [ey_48, ey_24]
                    have hcqy : y_49 = y_25 := by rw [ey_49, ey_25]
                    rw [hcqx, hcqy] at hr_50
                    refine lv_if_ne (tgt := 168) hx hb dX9_joins_162 (by decide) (fun c_51 => ?_) (fun c_51 => ?_)
                    · skip
                      have f_52 := bz1 hr_50 c_51
                      refine lv_bipush (v := 64) hx hb dX9_joins_168 (by decide) ?_
                      refine lv_iload hx hb dX9_joins_170 (lv_at hl 4 rfl) ?_
                      refine lv_iload hx hb dX9_joins_172 (lv_at hl 0 rfl) ?_
                      refine lv_iadd hx hb dX9_joins_174 ?_
                      refine lv_topi (fun y_53 ey_53 => ?_)
                      have hay_53 : y_53 = pY ((rcO (opnJ (gw k.toNatClampNeg) (gh k.toNatClampNeg) cl cx0 cx1 cy0 cy1 ic) (fun t => gd (4096 * k.toNatClampNeg + t)) (gd (4096 * k.toNatClampNeg + ixP x y)) co st1 dn).2.1 dn) + dY i := by rw [ey_53, hp10, hdy_21]
                      refine lv_imul hx hb dX9_joins_175 ?_
                      refine lv_topi (fun y_54 ey_54 => ?_)
                      refine lv_iload hx hb dX9_joins_176 (lv_at hl 5 rfl) ?_
                      refine lv_iadd hx hb dX9_joins_178 ?_
                      refine lv_topi (fun y_55 ey_55 => ?_)
                      refine lv_iload hx hb dX9_joins_179 (lv_at hl 1 rfl) ?_
                      refine lv_iadd hx hb dX9_joins_181 ?_
                      refine lv_topi (fun y_56 ey_56 => ?_)
                      have htoy_56 : y_56 = 64 * y_25 + y_24 := by rw [ey_56, ey_55, ey_54, ey_53, ey_25, ey_24, Int32.add_assoc]
                      have hiny_56 : vp_in y_56 4096 := by rw [htoy_56]; exact ix_in2 (by omega) (by omega) (by omega) (by omega)
                      have hixy_56 : y_56 = nI (ixP y_24 y_25) := by rw [htoy_56]; exact ix_nI2 (by omega) (by omega) (by omega) (by omega)
                      have hxcy_56 : y_56.toNatClampNeg = ixP y_24 y_25 := by rw [hixy_56]; exact nI_clamp (by have := ix_lt (x := y_24) (y := y_25) (by omega) (by omega) (by omega) (by omega); omega)
                      refine lv_istore (lv' := [(14, .int y_56), (13, .int y_21), (12, .int y_19), (11, .int x11), (8, .int y_13), (10, .int y_12), (9, .int y_11), (7, .int z7), (6, .int (gd (4096 * k.toNatClampNeg + ixP x y))), (0, .ref h0), (1, .int k), (2, .int x), (3, .int y), (4, .int co), (5, .int ic)]) hx hb dX9_joins_182 hl (by decide) rfl (fun ls hl => ?_)
                      refine lv_aload_n hx hb dX9_joins_184 rfl (lv_at hl 9 rfl) ?_
                      refine va_get (D := D) (ci := 9) (v := .ref m4) (C := RX9) (T := TX9) (N := 23) hx hb hts hi_X9 hown hK hP 5 rfl rfl 12 (by decide) (hts _ bw_404) (fun _ h9 => h9) rfl dX9_joins_185 ?_
                      refine lv_iload hx hb dX9_joins_188 (lv_at hl 0 rfl) ?_
                      refine va_zald hx hb hK hP 2 1 rfl rfl hiny_56 dX9_joins_190 ?_
                      refine lv_if_ne (tgt := 238) hx hb dX9_joins_191 (by decide) (fun c_57 => ?_) (fun c_57 => ?_)
                      · skip
                        have f_58 : ¬ ((gu y_56.toNatClampNeg).toInt = 0) := fn_eq rfl (by decide) c_57
                        obtain ⟨y_59, ey_59⟩ : ∃ y : Int32, y = x11 + 1 := ⟨_, rfl⟩
                        refine lv_iinc (v := y_59) (lv' := [(11, .int y_59), (14, .int y_56), (13, .int y_21), (12, .int y_19), (8, .int y_13), (10, .int y_12), (9, .int y_11), (7, .int z7), (6, .int (gd (4096 * k.toNatClampNeg + ixP x y))), (0, .ref h0), (1, .int k), (2, .int x), (3, .int y), (4, .int co), (5, .int ic)]) hx hb dX9_joins_238 hl (k := 3) rfl (by rw [ey_59]; rfl) (by decide) rfl (fun ls hl => ?_)
                        refine lv_goto (tgt := 87) hx hb dX9_joins_241 (by decide) ?_
                        have hS1 : (rcI (opnJ (gw k.toNatClampNeg) (gh k.toNatClampNeg) cl cx0 cx1 cy0 cy1 ic) (fun t => gd (4096 * k.toNatClampNeg + t)) (gd (4096 * k.toNatClampNeg + ixP x y)) co (pX ((rcO (opnJ (gw k.toNatClampNeg) (gh k.toNatClampNeg) cl cx0 cx1 cy0 cy1 ic) (fun t => gd (4096 * k.toNatClampNeg + t)) (gd (4096 * k.toNatClampNeg + ixP x y)) co st1 dn).2.1 dn)) (pY ((rcO (opnJ (gw k.toNatClampNeg) (gh k.toNatClampNeg) cl cx0 cx1 cy0 cy1 ic) (fun t => gd (4096 * k.toNatClampNeg + t)) (gd (4096 * k.toNatClampNeg + ixP x y)) co st1 dn).2.1 dn)) (rcO (opnJ (gw k.toNatClampNeg) (gh k.toNatClampNeg) cl cx0 cx1 cy0 cy1 ic) (fun t => gd (4096 * k.toNatClampNeg + t)) (gd (4096 * k.toNatClampNeg + ixP x y)) co st1 dn) (i + 1)) = rcS (opnJ (gw k.toNatClampNeg) (gh k.toNatClampNeg) cl cx0 cx1 cy0 cy1 ic) (fun t => gd (4096 * k.toNatClampNeg + t)) (gd (4096 * k.toNatClampNeg + ixP x y)) y_24 y_25 (rcI (opnJ (gw k.toNatClampNeg) (gh k.toNatClampNeg) cl cx0 cx1 cy0 cy1 ic) (fun t => gd (4096 * k.toNatClampNeg + t)) (gd (4096 * k.toNatClampNeg + ixP x y)) co (pX ((rcO (opnJ (gw k.toNatClampNeg) (gh k.toNatClampNeg) cl cx0 cx1 cy0 cy1 ic) (fun t => gd (4096 * k.toNatClampNeg + t)) (gd (4096 * k.toNatClampNeg + ixP x y)) co st1 dn).2.1 dn)) (pY ((rcO (opnJ (gw k.toNatClampNeg) (gh k.toNatClampNeg) cl cx0 cx1 cy0 cy1 ic) (fun t => gd (4096 * k.toNatClampNeg + t)) (gd (4096 * k.toNatClampNeg + ixP x y)) co st1 dn).2.1 dn)) (rcO (opnJ (gw k.toNatClampNeg) (gh k.toNatClampNeg) cl cx0 cx1 cy0 cy1 ic) (fun t => gd (4096 * k.toNatClampNeg + t)) (gd (4096 * k.toNatClampNeg + ixP x y)) co st1 dn) i) := by rw [hay_24, hay_25]; exact if_pos (Or.inl c_22)
                        have hSt : (rcI (opnJ (gw k.toNatClampNeg) (gh k.toNatClampNeg) cl cx0 cx1 cy0 cy1 ic) (fun t => gd (4096 * k.toNatClampNeg + t)) (gd (4096 * k.toNatClampNeg + ixP x y)) co (pX ((rcO (opnJ (gw k.toNatClampNeg) (gh k.toNatClampNeg) cl cx0 cx1 cy0 cy1 ic) (fun t => gd (4096 * k.toNatClampNeg + t)) (gd (4096 * k.toNatClampNeg + ixP x y)) co st1 dn).2.1 dn)) (pY ((rcO (opnJ (gw k.toNatClampNeg) (gh k.toNatClampNeg) cl cx0 cx1 cy0 cy1 ic) (fun t => gd (4096 * k.toNatClampNeg + t)) (gd (4096 * k.toNatClampNeg + ixP x y)) co st1 dn).2.1 dn)) (rcO (opnJ (gw k.toNatClampNeg) (gh k.toNatClampNeg) cl cx0 cx1 cy0 cy1 ic) (fun t => gd (4096 * k.toNatClampNeg + t)) (gd (4096 * k.toNatClampNeg + ixP x y)) co st1 dn) (i + 1)) = (rcI (opnJ (gw k.toNatClampNeg) (gh k.toNatClampNeg) cl cx0 cx1 cy0 cy1 ic) (fun t => gd (4096 * k.toNatClampNeg + t)) (gd (4096 * k.toNatClampNeg + ixP x y)) co (pX ((rcO (opnJ (gw k.toNatClampNeg) (gh k.toNatClampNeg) cl cx0 cx1 cy0 cy1 ic) (fun t => gd (4096 * k.toNatClampNeg + t)) (gd (4096 * k.toNatClampNeg + ixP x y)) co st1 dn).2.1 dn)) (pY ((rcO (opnJ (gw k.toNatClampNeg) (gh k.toNatClampNeg) cl cx0 cx1 cy0 cy1 ic) (fun t => gd (4096 * k.toNatClampNeg + t)) (gd (4096 * k.toNatClampNeg + ixP x y)) co st1 dn).2.1 dn)) (rcO (opnJ (gw k.toNatClampNeg) (gh k.toNatClampNeg) cl cx0 cx1 cy0 cy1 ic) (fun t => gd (4096 * k.toNatClampNeg + t)) (gd (4096 * k.toNatClampNeg + ixP x y)) co st1 dn) i) := hS1.trans (if_neg (fun q => c_57 (by rw [f3, hxcy_56]; exact q.2.1)))
                        exact ih_15 (i + 1) y_59 z7 gu gs _ _ _ (by omega) (by omega) (by rw [ey_59, ex_i]; exact nI_1 i) (by rw [hSt]; exact f7) (by rw [hSt]; exact f3) (by rw [hSt]; exact f2) (by rw [hSt]; exact fcn) (hP.sub (ws' := [(m1, .inl (cI, 4, .inl gw)), (m2, .inl (cI, 4, .inl gh)), (m3, .inl (cI, 16384, .inl gd)), (m13, .inl (cI, 4096, .inl gs)), (h0, .inr (9, [.ref m1, .ref m2, .ref m3, .int ik, .int wy, .int op, .int cl, .int cx0, .int cx1, .int cy0, .int cy1, .int ds, .ref m4, .ref m5, .ref m6, .ref m7, .ref m8, .ref m9, .int pn, .ref m10, .ref m11, .ref m12, .ref m13])), (m4, .inl (cZ, 4096, .inl gu))]) [3, 4, 0, 1, 5, 2] rfl) (hD.sub (ws' := [(m1, .inl (cI, 4, .inl gw)), (m2, .inl (cI, 4, .inl gh)), (m3, .inl (cI, 16384, .inl gd)), (m13, .inl (cI, 4096, .inl gs)), (h0, .inr (9, [.ref m1, .ref m2, .ref m3, .int ik, .int wy, .int op, .int cl, .int cx0, .int cx1, .int cy0, .int cy1, .int ds, .ref m4, .ref m5, .ref m6, .ref m7, .ref m8, .ref m9, .int pn, .ref m10, .ref m11, .ref m12, .ref m13])), (m4, .inl (cZ, 4096, .inl gu))]) [3, 4, 0, 1, 5, 2] (by decide) rfl) hS (lv_sub hl [0, 4, 5, 6, 7, 8, 9, 10, 11, 12, 13, 14] rfl)
                      · skip
                        have f_58 : (gu y_56.toNatClampNeg).toInt = 0 := f_eq rfl (by decide) c_57
                        refine lv_aload_n hx hb dX9_joins_194 rfl (lv_at hl 9 rfl) ?_
                        refine va_get (D := D) (ci := 9) (v := .ref m3) (C := RX9) (T := TX9) (N := 23) hx hb hts hi_X9 hown hK hP 5 rfl rfl 2 (by decide) (hts _ bw_398) (fun _ h9 => h9) rfl dX9_joins_195 ?_
                        refine lv_sipush (v := 4096) hx hb dX9_joins_198 (by decide) ?_
                        refine lv_iload_n hx hb dX9_joins_201 rfl (lv_at hl 10 rfl) ?_
                        refine lv_imul hx hb dX9_joins_202 ?_
                        refine lv_topi (fun y_60 ey_60 => ?_)
                        refine lv_iload hx hb dX9_joins_203 (lv_at hl 0 rfl) ?_
                        refine lv_iadd hx hb dX9_joins_205 ?_
                        refine lv_topi (fun y_61 ey_61 => ?_)
                        refine va_iald hx hb hK hP 0 0 rfl rfl (by rw [ey_61, ey_60]; exact kp_in (by omega) hiny_56) dX9_joins_206 ?_
                        refine my_fold (v := gd (4096 * k.toNatClampNeg + ixP y_24 y_25)) (congrArg gd (by rw [ey_61, ey_60]; exact dotx (gd := gd) (y := k) hkk hixy_56 (ix_lt (by omega) (by omega) (by omega) (by omega)) ek)) ?_
                        refine lv_iload hx hb dX9_joins_207 (lv_at hl 8 rfl) ?_
                        refine lv_icmp_eq (tgt := 215) hx hb dX9_joins_209 (by decide) (fun c_62 => ?_) (fun c_62 => ?_)
                        · skip
                          have f_63 : (gd (4096 * k.toNatClampNeg + ixP y_24 y_25)).toInt = (gd (4096 * k.toNatClampNeg + ixP x y)).toInt := f_eq rfl rfl c_62
                          refine lv_aload_n hx hb dX9_joins_215 rfl (lv_at hl 9 rfl) ?_
                          refine va_get (D := D) (ci := 9) (v := .ref m4) (C := RX9) (T := TX9) (N := 23) hx hb hts hi_X9 hown hK hP 5 rfl rfl 12 (by decide) (hts _ bw_404) (fun _ h9 => h9) rfl dX9_joins_216 ?_
                          refine lv_iload hx hb dX9_joins_219 (lv_at hl 0 rfl) ?_
                          refine lv_iconst (v := 1) hx hb dX9_joins_221 (by decide) ?_
                          refine va_zast hx hb hK hP hD hS 2 1 rfl rfl hiny_56 dX9_joins_222 (fun H locs hP hD hS => ?_)
                          have hP : va_P D vwCl [(m3, .inl (cI, 16384, .inl gd)), (m13, .inl (cI, 4096, .inl gs)), (m4, .inl (cZ, 4096, .inl (upd gu y_56.toNatClampNeg (vp_nar .boolean 1)))), (m1, .inl (cI, 4, .inl gw)), (m2, .inl (cI, 4, .inl gh)), (h0, .inr (9, [.ref m1, .ref m2, .ref m3, .int ik, .int wy, .int op, .int cl, .int cx0, .int cx1, .int cy0, .int cy1, .int ds, .ref m4, .ref m5, .ref m6, .ref m7, .ref m8, .ref m9, .int pn, .ref m10, .ref m11, .ref m12, .ref m13]))] H := hP
                          have hD : va_D A [(m3, .inl (cI, 16384, .inl gd)), (m13, .inl (cI, 4096, .inl gs)), (m4, .inl (cZ, 4096, .inl (upd gu y_56.toNatClampNeg (vp_nar .boolean 1)))), (m1, .inl (cI, 4, .inl gw)), (m2, .inl (cI, 4, .inl gh)), (h0, .inr (9, [.ref m1, .ref m2, .ref m3, .int ik, .int wy, .int op, .int cl, .int cx0, .int cx1, .int cy0, .int cy1, .int ds, .ref m4, .ref m5, .ref m6, .ref m7, .ref m8, .ref m9, .int pn, .ref m10, .ref m11, .ref m12, .ref m13]))] := hD
                          generalize eg_64 : upd gu y_56.toNatClampNeg (vp_nar .boolean 1) = g_64 at hP hD
                          have hP : va_P D vwCl [(m3, .inl (cI, 16384, .inl gd)), (m13, .inl (cI, 4096, .inl gs)), (m4, .inl (cZ, 4096, .inl g_64)), (m1, .inl (cI, 4, .inl gw)), (m2, .inl (cI, 4, .inl gh)), (h0, .inr (9, [.ref m1, .ref m2, .ref m3, .int ik, .int wy, .int op, .int cl, .int cx0, .int cx1, .int cy0, .int cy1, .int ds, .ref m4, .ref m5, .ref m6, .ref m7, .ref m8, .ref m9, .int pn, .ref m10, .ref m11, .ref m12, .ref m13]))] H := hP
                          have hD : va_D A [(m3, .inl (cI, 16384, .inl gd)), (m13, .inl (cI, 4096, .inl gs)), (m4, .inl (cZ, 4096, .inl g_64)), (m1, .inl (cI, 4, .inl gw)), (m2, .inl (cI, 4, .inl gh)), (h0, .inr (9, [.ref m1, .ref m2, .ref m3, .int ik, .int wy, .int op, .int cl, .int cx0, .int cx1, .int cy0, .int cy1, .int ds, .ref m4, .ref m5, .ref m6, .ref m7, .ref m8, .ref m9, .int pn, .ref m10, .ref m11, .ref m12, .ref m13]))] := hD
                          have hmk : (rcI (opnJ (gw k.toNatClampNeg) (gh k.toNatClampNeg) cl cx0 cx1 cy0 cy1 ic) (fun t => gd (4096 * k.toNatClampNeg + t)) (gd (4096 * k.toNatClampNeg + ixP x y)) co (pX ((rcO (opnJ (gw k.toNatClampNeg) (gh k.toNatClampNeg) cl cx0 cx1 cy0 cy1 ic) (fun t => gd (4096 * k.toNatClampNeg + t)) (gd (4096 * k.toNatClampNeg + ixP x y)) co st1 dn).2.1 dn)) (pY ((rcO (opnJ (gw k.toNatClampNeg) (gh k.toNatClampNeg) cl cx0 cx1 cy0 cy1 ic) (fun t => gd (4096 * k.toNatClampNeg + t)) (gd (4096 * k.toNatClampNeg + ixP x y)) co st1 dn).2.1 dn)) (rcO (opnJ (gw k.toNatClampNeg) (gh k.toNatClampNeg) cl cx0 cx1 cy0 cy1 ic) (fun t => gd (4096 * k.toNatClampNeg + t)) (gd (4096 * k.toNatClampNeg + ixP x y)) co st1 dn) i).1 (ixP y_24 y_25) = 0 := by rw [← f3, ← hxcy_56]; exact c_57
                          have hixn : ixP y_24 y_25 < 4096 := ix_lt (by omega) (by omega) (by omega) (by omega)
                          have hcn2 : cntP (upd (rcI (opnJ (gw k.toNatClampNeg) (gh k.toNatClampNeg) cl cx0 cx1 cy0 cy1 ic) (fun t => gd (4096 * k.toNatClampNeg + t)) (gd (4096 * k.toNatClampNeg + ixP x y)) co (pX ((rcO (opnJ (gw k.toNatClampNeg) (gh k.toNatClampNeg) cl cx0 cx1 cy0 cy1 ic) (fun t => gd (4096 * k.toNatClampNeg + t)) (gd (4096 * k.toNatClampNeg + ixP x y)) co st1 dn).2.1 dn)) (pY ((rcO (opnJ (gw k.toNatClampNeg) (gh k.toNatClampNeg) cl cx0 cx1 cy0 cy1 ic) (fun t => gd (4096 * k.toNatClampNeg + t)) (gd (4096 * k.toNatClampNeg + ixP x y)) co st1 dn).2.1 dn)) (rcO (opnJ (gw k.toNatClampNeg) (gh k.toNatClampNeg) cl cx0 cx1 cy0 cy1 ic) (fun t => gd (4096 * k.toNatClampNeg + t)) (gd (4096 * k.toNatClampNeg + ixP x y)) co st1 dn) i).1 (ixP y_24 y_25) 1) 4096 = (rcI (opnJ (gw k.toNatClampNeg) (gh k.toNatClampNeg) cl cx0 cx1 cy0 cy1 ic) (fun t => gd (4096 * k.toNatClampNeg + t)) (gd (4096 * k.toNatClampNeg + ixP x y)) co (pX ((rcO (opnJ (gw k.toNatClampNeg) (gh k.toNatClampNeg) cl cx0 cx1 cy0 cy1 ic) (fun t => gd (4096 * k.toNatClampNeg + t)) (gd (4096 * k.toNatClampNeg + ixP x y)) co st1 dn).2.1 dn)) (pY ((rcO (opnJ (gw k.toNatClampNeg) (gh k.toNatClampNeg) cl cx0 cx1 cy0 cy1 ic) (fun t => gd (4096 * k.toNatClampNeg + t)) (gd (4096 * k.toNatClampNeg + ixP x y)) co st1 dn).2.1 dn)) (rcO (opnJ (gw k.toNatClampNeg) (gh k.toNatClampNeg) cl cx0 cx1 cy0 cy1 ic) (fun t => gd (4096 * k.toNatClampNeg + t)) (gd (4096 * k.toNatClampNeg + ixP x y)) co st1 dn) i).2.2 + 1 := by rw [cnt_up1 hixn hmk, fcn]
                          have hm2 : (rcI (opnJ (gw k.toNatClampNeg) (gh k.toNatClampNeg) cl cx0 cx1 cy0 cy1 ic) (fun t => gd (4096 * k.toNatClampNeg + t)) (gd (4096 * k.toNatClampNeg + ixP x y)) co (pX ((rcO (opnJ (gw k.toNatClampNeg) (gh k.toNatClampNeg) cl cx0 cx1 cy0 cy1 ic) (fun t => gd (4096 * k.toNatClampNeg + t)) (gd (4096 * k.toNatClampNeg + ixP x y)) co st1 dn).2.1 dn)) (pY ((rcO (opnJ (gw k.toNatClampNeg) (gh k.toNatClampNeg) cl cx0 cx1 cy0 cy1 ic) (fun t => gd (4096 * k.toNatClampNeg + t)) (gd (4096 * k.toNatClampNeg + ixP x y)) co st1 dn).2.1 dn)) (rcO (opnJ (gw k.toNatClampNeg) (gh k.toNatClampNeg) cl cx0 cx1 cy0 cy1 ic) (fun t => gd (4096 * k.toNatClampNeg + t)) (gd (4096 * k.toNatClampNeg + ixP x y)) co st1 dn) i).2.2 + 1 ≤ 4096 := by rw [← hcn2]; exact cntP_le _ _
                          refine lv_aload_n hx hb dX9_joins_223 rfl (lv_at hl 9 rfl) ?_
                          refine va_get (D := D) (ci := 9) (v := .ref m13) (C := RX9) (T := TX9) (N := 23) hx hb hts hi_X9 hown hK hP 5 rfl rfl 22 (by decide) (hts _ bw_413) (fun _ h9 => h9) rfl dX9_joins_224 ?_
                          refine lv_iload hx hb dX9_joins_227 (lv_at hl 7 rfl) ?_
                          refine lv_iload hx hb dX9_joins_229 (lv_at hl 0 rfl) ?_
                          refine va_iast hx hb hK hP hD hS 1 0 rfl rfl (vp_in_iff.mpr ⟨by omega, by omega⟩) dX9_joins_231 (fun H locs hP hD hS => ?_)
                          have hP : va_P D vwCl [(m3, .inl (cI, 16384, .inl gd)), (m13, .inl (cI, 4096, .inl (upd gs z7.toNatClampNeg y_56))), (m4, .inl (cZ, 4096, .inl g_64)), (m1, .inl (cI, 4, .inl gw)), (m2, .inl (cI, 4, .inl gh)), (h0, .inr (9, [.ref m1, .ref m2, .ref m3, .int ik, .int wy, .int op, .int cl, .int cx0, .int cx1, .int cy0, .int cy1, .int ds, .ref m4, .ref m5, .ref m6, .ref m7, .ref m8, .ref m9, .int pn, .ref m10, .ref m11, .ref m12, .ref m13]))] H := hP
                          have hD : va_D A [(m3, .inl (cI, 16384, .inl gd)), (m13, .inl (cI, 4096, .inl (upd gs z7.toNatClampNeg y_56))), (m4, .inl (cZ, 4096, .inl g_64)), (m1, .inl (cI, 4, .inl gw)), (m2, .inl (cI, 4, .inl gh)), (h0, .inr (9, [.ref m1, .ref m2, .ref m3, .int ik, .int wy, .int op, .int cl, .int cx0, .int cx1, .int cy0, .int cy1, .int ds, .ref m4, .ref m5, .ref m6, .ref m7, .ref m8, .ref m9, .int pn, .ref m10, .ref m11, .ref m12, .ref m13]))] := hD
                          generalize eg_65 : upd gs z7.toNatClampNeg y_56 = g_65 at hP hD
                          have hP : va_P D vwCl [(m3, .inl (cI, 16384, .inl gd)), (m13, .inl (cI, 4096, .inl g_65)), (m4, .inl (cZ, 4096, .inl g_64)), (m1, .inl (cI, 4, .inl gw)), (m2, .inl (cI, 4, .inl gh)), (h0, .inr (9, [.ref m1, .ref m2, .ref m3, .int ik, .int wy, .int op, .int cl, .int cx0, .int cx1, .int cy0, .int cy1, .int ds, .ref m4, .ref m5, .ref m6, .ref m7, .ref m8, .ref m9, .int pn, .ref m10, .ref m11, .ref m12, .ref m13]))] H := hP
                          have hD : va_D A [(m3, .inl (cI, 16384, .inl gd)), (m13, .inl (cI, 4096, .inl g_65)), (m4, .inl (cZ, 4096, .inl g_64)), (m1, .inl (cI, 4, .inl gw)), (m2, .inl (cI, 4, .inl gh)), (h0, .inr (9, [.ref m1, .ref m2, .ref m3, .int ik, .int wy, .int op, .int cl, .int cx0, .int cx1, .int cy0, .int cy1, .int ds, .ref m4, .ref m5, .ref m6, .ref m7, .ref m8, .ref m9, .int pn, .ref m10, .ref m11, .ref m12, .ref m13]))] := hD
                          refine lv_iload hx hb dX9_joins_232 (lv_at hl 7 rfl) ?_
                          refine lv_iconst (v := 1) hx hb dX9_joins_234 (by decide) ?_
                          refine lv_iadd hx hb dX9_joins_235 ?_
                          refine lv_topi (fun y_66 ey_66 => ?_)
                          refine lv_istore (lv' := [(7, .int y_66), (14, .int y_56), (13, .int y_21), (12, .int y_19), (11, .int x11), (8, .int y_13), (10, .int y_12), (9, .int y_11), (6, .int (gd (4096 * k.toNatClampNeg + ixP x y))), (0, .ref h0), (1, .int k), (2, .int x), (3, .int y), (4, .int co), (5, .int ic)]) hx hb dX9_joins_236 hl (by decide) rfl (fun ls hl => ?_)
                          obtain ⟨y_67, ey_67⟩ : ∃ y : Int32, y = x11 + 1 := ⟨_, rfl⟩
                          refine lv_iinc (v := y_67) (lv' := [(11, .int y_67), (7, .int y_66), (14, .int y_56), (13, .int y_21), (12, .int y_19), (8, .int y_13), (10, .int y_12), (9, .int y_11), (6, .int (gd (4096 * k.toNatClampNeg + ixP x y))), (0, .ref h0), (1, .int k), (2, .int x), (3, .int y), (4, .int co), (5, .int ic)]) hx hb dX9_joins_238 hl (k := 4) rfl (by rw [ey_67]; rfl) (by decide) rfl (fun ls hl => ?_)
                          refine lv_goto (tgt := 87) hx hb dX9_joins_241 (by decide) ?_
                          have hS1 : (rcI (opnJ (gw k.toNatClampNeg) (gh k.toNatClampNeg) cl cx0 cx1 cy0 cy1 ic) (fun t => gd (4096 * k.toNatClampNeg + t)) (gd (4096 * k.toNatClampNeg + ixP x y)) co (pX ((rcO (opnJ (gw k.toNatClampNeg) (gh k.toNatClampNeg) cl cx0 cx1 cy0 cy1 ic) (fun t => gd (4096 * k.toNatClampNeg + t)) (gd (4096 * k.toNatClampNeg + ixP x y)) co st1 dn).2.1 dn)) (pY ((rcO (opnJ (gw k.toNatClampNeg) (gh k.toNatClampNeg) cl cx0 cx1 cy0 cy1 ic) (fun t => gd (4096 * k.toNatClampNeg + t)) (gd (4096 * k.toNatClampNeg + ixP x y)) co st1 dn).2.1 dn)) (rcO (opnJ (gw k.toNatClampNeg) (gh k.toNatClampNeg) cl cx0 cx1 cy0 cy1 ic) (fun t => gd (4096 * k.toNatClampNeg + t)) (gd (4096 * k.toNatClampNeg + ixP x y)) co st1 dn) (i + 1)) = rcS (opnJ (gw k.toNatClampNeg) (gh k.toNatClampNeg) cl cx0 cx1 cy0 cy1 ic) (fun t => gd (4096 * k.toNatClampNeg + t)) (gd (4096 * k.toNatClampNeg + ixP x y)) y_24 y_25 (rcI (opnJ (gw k.toNatClampNeg) (gh k.toNatClampNeg) cl cx0 cx1 cy0 cy1 ic) (fun t => gd (4096 * k.toNatClampNeg + t)) (gd (4096 * k.toNatClampNeg + ixP x y)) co (pX ((rcO (opnJ (gw k.toNatClampNeg) (gh k.toNatClampNeg) cl cx0 cx1 cy0 cy1 ic) (fun t => gd (4096 * k.toNatClampNeg + t)) (gd (4096 * k.toNatClampNeg + ixP x y)) co st1 dn).2.1 dn)) (pY ((rcO (opnJ (gw k.toNatClampNeg) (gh k.toNatClampNeg) cl cx0 cx1 cy0 cy1 ic) (fun t => gd (4096 * k.toNatClampNeg + t)) (gd (4096 * k.toNatClampNeg + ixP x y)) co st1 dn).2.1 dn)) (rcO (opnJ (gw k.toNatClampNeg) (gh k.toNatClampNeg) cl cx0 cx1 cy0 cy1 ic) (fun t => gd (4096 * k.toNatClampNeg + t)) (gd (4096 * k.toNatClampNeg + ixP x y)) co st1 dn) i) := by rw [hay_24, hay_25]; exact if_pos (Or.inl c_22)
                          have hSt : (rcI (opnJ (gw k.toNatClampNeg) (gh k.toNatClampNeg) cl cx0 cx1 cy0 cy1 ic) (fun t => gd (4096 * k.toNatClampNeg + t)) (gd (4096 * k.toNatClampNeg + ixP x y)) co (pX ((rcO (opnJ (gw k.toNatClampNeg) (gh k.toNatClampNeg) cl cx0 cx1 cy0 cy1 ic) (fun t => gd (4096 * k.toNatClampNeg + t)) (gd (4096 * k.toNatClampNeg + ixP x y)) co st1 dn).2.1 dn)) (pY ((rcO (opnJ (gw k.toNatClampNeg) (gh k.toNatClampNeg) cl cx0 cx1 cy0 cy1 ic) (fun t => gd (4096 * k.toNatClampNeg + t)) (gd (4096 * k.toNatClampNeg + ixP x y)) co st1 dn).2.1 dn)) (rcO (opnJ (gw k.toNatClampNeg) (gh k.toNatClampNeg) cl cx0 cx1 cy0 cy1 ic) (fun t => gd (4096 * k.toNatClampNeg + t)) (gd (4096 * k.toNatClampNeg + ixP x y)) co st1 dn) (i + 1)) = (upd (rcI (opnJ (gw k.toNatClampNeg) (gh k.toNatClampNeg) cl cx0 cx1 cy0 cy1 ic) (fun t => gd (4096 * k.toNatClampNeg + t)) (gd (4096 * k.toNatClampNeg + ixP x y)) co (pX ((rcO (opnJ (gw k.toNatClampNeg) (gh k.toNatClampNeg) cl cx0 cx1 cy0 cy1 ic) (fun t => gd (4096 * k.toNatClampNeg + t)) (gd (4096 * k.toNatClampNeg + ixP x y)) co st1 dn).2.1 dn)) (pY ((rcO (opnJ (gw k.toNatClampNeg) (gh k.toNatClampNeg) cl cx0 cx1 cy0 cy1 ic) (fun t => gd (4096 * k.toNatClampNeg + t)) (gd (4096 * k.toNatClampNeg + ixP x y)) co st1 dn).2.1 dn)) (rcO (opnJ (gw k.toNatClampNeg) (gh k.toNatClampNeg) cl cx0 cx1 cy0 cy1 ic) (fun t => gd (4096 * k.toNatClampNeg + t)) (gd (4096 * k.toNatClampNeg + ixP x y)) co st1 dn) i).1 (ixP y_24 y_25) 1, upd (rcI (opnJ (gw k.toNatClampNeg) (gh k.toNatClampNeg) cl cx0 cx1 cy0 cy1 ic) (fun t => gd (4096 * k.toNatClampNeg + t)) (gd (4096 * k.toNatClampNeg + ixP x y)) co (pX ((rcO (opnJ (gw k.toNatClampNeg) (gh k.toNatClampNeg) cl cx0 cx1 cy0 cy1 ic) (fun t => gd (4096 * k.toNatClampNeg + t)) (gd (4096 * k.toNatClampNeg + ixP x y)) co st1 dn).2.1 dn)) (pY ((rcO (opnJ (gw k.toNatClampNeg) (gh k.toNatClampNeg) cl cx0 cx1 cy0 cy1 ic) (fun t => gd (4096 * k.toNatClampNeg + t)) (gd (4096 * k.toNatClampNeg + ixP x y)) co st1 dn).2.1 dn)) (rcO (opnJ (gw k.toNatClampNeg) (gh k.toNatClampNeg) cl cx0 cx1 cy0 cy1 ic) (fun t => gd (4096 * k.toNatClampNeg + t)) (gd (4096 * k.toNatClampNeg + ixP x y)) co st1 dn) i).2.1 (rcI (opnJ (gw k.toNatClampNeg) (gh k.toNatClampNeg) cl cx0 cx1 cy0 cy1 ic) (fun t => gd (4096 * k.toNatClampNeg + t)) (gd (4096 * k.toNatClampNeg + ixP x y)) co (pX ((rcO (opnJ (gw k.toNatClampNeg) (gh k.toNatClampNeg) cl cx0 cx1 cy0 cy1 ic) (fun t => gd (4096 * k.toNatClampNeg + t)) (gd (4096 * k.toNatClampNeg + ixP x y)) co st1 dn).2.1 dn)) (pY ((rcO (opnJ (gw k.toNatClampNeg) (gh k.toNatClampNeg) cl cx0 cx1 cy0 cy1 ic) (fun t => gd (4096 * k.toNatClampNeg + t)) (gd (4096 * k.toNatClampNeg + ixP x y)) co st1 dn).2.1 dn)) (rcO (opnJ (gw k.toNatClampNeg) (gh k.toNatClampNeg) cl cx0 cx1 cy0 cy1 ic) (fun t => gd (4096 * k.toNatClampNeg + t)) (gd (4096 * k.toNatClampNeg + ixP x y)) co st1 dn) i).2.2 (nI (ixP y_24 y_25)), (rcI (opnJ (gw k.toNatClampNeg) (gh k.toNatClampNeg) cl cx0 cx1 cy0 cy1 ic) (fun t => gd (4096 * k.toNatClampNeg + t)) (gd (4096 * k.toNatClampNeg + ixP x y)) co (pX ((rcO (opnJ (gw k.toNatClampNeg) (gh k.toNatClampNeg) cl cx0 cx1 cy0 cy1 ic) (fun t => gd (4096 * k.toNatClampNeg + t)) (gd (4096 * k.toNatClampNeg + ixP x y)) co st1 dn).2.1 dn)) (pY ((rcO (opnJ (gw k.toNatClampNeg) (gh k.toNatClampNeg) cl cx0 cx1 cy0 cy1 ic) (fun t => gd (4096 * k.toNatClampNeg + t)) (gd (4096 * k.toNatClampNeg + ixP x y)) co st1 dn).2.1 dn)) (rcO (opnJ (gw k.toNatClampNeg) (gh k.toNatClampNeg) cl cx0 cx1 cy0 cy1 ic) (fun t => gd (4096 * k.toNatClampNeg + t)) (gd (4096 * k.toNatClampNeg + ixP x y)) co st1 dn) i).2.2 + 1) := hS1.trans (if_pos ⟨⟨⟨f_28, Or.inr f_52⟩, c_62⟩, hmk, by omega⟩)
                          exact ih_15 (i + 1) y_67 y_66 g_64 g_65 _ _ _ (by omega) (by omega) (by rw [ey_67, ex_i]; exact nI_1 i) (by rw [hSt, ey_66, f7]; exact nI_1 _) (by rw [hSt, ← eg_64, f3, hxcy_56]; rfl) (by rw [hSt, ← eg_65, f2, hixy_56, show z7.toNatClampNeg = (rcI (opnJ (gw k.toNatClampNeg) (gh k.toNatClampNeg) cl cx0 cx1 cy0 cy1 ic) (fun t => gd (4096 * k.toNatClampNeg + t)) (gd (4096 * k.toNatClampNeg + ixP x y)) co (pX ((rcO (opnJ (gw k.toNatClampNeg) (gh k.toNatClampNeg) cl cx0 cx1 cy0 cy1 ic) (fun t => gd (4096 * k.toNatClampNeg + t)) (gd (4096 * k.toNatClampNeg + ixP x y)) co st1 dn).2.1 dn)) (pY ((rcO (opnJ (gw k.toNatClampNeg) (gh k.toNatClampNeg) cl cx0 cx1 cy0 cy1 ic) (fun t => gd (4096 * k.toNatClampNeg + t)) (gd (4096 * k.toNatClampNeg + ixP x y)) co st1 dn).2.1 dn)) (rcO (opnJ (gw k.toNatClampNeg) (gh k.toNatClampNeg) cl cx0 cx1 cy0 cy1 ic) (fun t => gd (4096 * k.toNatClampNeg + t)) (gd (4096 * k.toNatClampNeg + ixP x y)) co st1 dn) i).2.2 by rw [f7]; exact nI_clamp (by omega)]) (by rw [hSt]; exact hcn2) (hP.sub (ws' := [(m1, .inl (cI, 4, .inl gw)), (m2, .inl (cI, 4, .inl gh)), (m3, .inl (cI, 16384, .inl gd)), (m13, .inl (cI, 4096, .inl g_65)), (h0, .inr (9, [.ref m1, .ref m2, .ref m3, .int ik, .int wy, .int op, .int cl, .int cx0, .int cx1, .int cy0, .int cy1, .int ds, .ref m4, .ref m5, .ref m6, .ref m7, .ref m8, .ref m9, .int pn, .ref m10, .ref m11, .ref m12, .ref m13])), (m4, .inl (cZ, 4096, .inl g_64))]) [3, 4, 0, 1, 5, 2] rfl) (hD.sub (ws' := [(m1, .inl (cI, 4, .inl gw)), (m2, .inl (cI, 4, .inl gh)), (m3, .inl (cI, 16384, .inl gd)), (m13, .inl (cI, 4096, .inl g_65)), (h0, .inr (9, [.ref m1, .ref m2, .ref m3, .int ik, .int wy, .int op, .int cl, .int cx0, .int cx1, .int cy0, .int cy1, .int ds, .ref m4, .ref m5, .ref m6, .ref m7, .ref m8, .ref m9, .int pn, .ref m10, .ref m11, .ref m12, .ref m13])), (m4, .inl (cZ, 4096, .inl g_64))]) [3, 4, 0, 1, 5, 2] (by decide) rfl) hS (lv_sub hl [0, 5, 6, 7, 1, 8, 9, 10, 11, 12, 13, 14] rfl)
                        · skip
                          have f_63 : ¬ ((gd (4096 * k.toNatClampNeg + ixP y_24 y_25)).toInt = (gd (4096 * k.toNatClampNeg + ixP x y)).toInt) := fn_eq rfl rfl c_62
                          refine lv_goto (tgt := 238) hx hb dX9_joins_212 (by decide) ?_
                          obtain ⟨y_68, ey_68⟩ : ∃ y : Int32, y = x11 + 1 := ⟨_, rfl⟩
                          refine lv_iinc (v := y_68) (lv' := [(11, .int y_68), (14, .int y_56), (13, .int y_21), (12, .int y_19), (8, .int y_13), (10, .int y_12), (9, .int y_11), (7, .int z7), (6, .int (gd (4096 * k.toNatClampNeg + ixP x y))), (0, .ref h0), (1, .int k), (2, .int x), (3, .int y), (4, .int co), (5, .int ic)]) hx hb dX9_joins_238 hl (k := 3) rfl (by rw [ey_68]; rfl) (by decide) rfl (fun ls hl => ?_)
                          refine lv_goto (tgt := 87) hx hb dX9_joins_241 (by decide) ?_
                          have hS1 : (rcI (opnJ (gw k.toNatClampNeg) (gh k.toNatClampNeg) cl cx0 cx1 cy0 cy1 ic) (fun t => gd (4096 * k.toNatClampNeg + t)) (gd (4096 * k.toNatClampNeg + ixP x y)) co (pX ((rcO (opnJ (gw k.toNatClampNeg) (gh k.toNatClampNeg) cl cx0 cx1 cy0 cy1 ic) (fun t => gd (4096 * k.toNatClampNeg + t)) (gd (4096 * k.toNatClampNeg + ixP x y)) co st1 dn).2.1 dn)) (pY ((rcO (opnJ (gw k.toNatClampNeg) (gh k.toNatClampNeg) cl cx0 cx1 cy0 cy1 ic) (fun t => gd (4096 * k.toNatClampNeg + t)) (gd (4096 * k.toNatClampNeg + ixP x y)) co st1 dn).2.1 dn)) (rcO (opnJ (gw k.toNatClampNeg) (gh k.toNatClampNeg) cl cx0 cx1 cy0 cy1 ic) (fun t => gd (4096 * k.toNatClampNeg + t)) (gd (4096 * k.toNatClampNeg + ixP x y)) co st1 dn) (i + 1)) = rcS (opnJ (gw k.toNatClampNeg) (gh k.toNatClampNeg) cl cx0 cx1 cy0 cy1 ic) (fun t => gd (4096 * k.toNatClampNeg + t)) (gd (4096 * k.toNatClampNeg + ixP x y)) y_24 y_25 (rcI (opnJ (gw k.toNatClampNeg) (gh k.toNatClampNeg) cl cx0 cx1 cy0 cy1 ic) (fun t => gd (4096 * k.toNatClampNeg + t)) (gd (4096 * k.toNatClampNeg + ixP x y)) co (pX ((rcO (opnJ (gw k.toNatClampNeg) (gh k.toNatClampNeg) cl cx0 cx1 cy0 cy1 ic) (fun t => gd (4096 * k.toNatClampNeg + t)) (gd (4096 * k.toNatClampNeg + ixP x y)) co st1 dn).2.1 dn)) (pY ((rcO (opnJ (gw k.toNatClampNeg) (gh k.toNatClampNeg) cl cx0 cx1 cy0 cy1 ic) (fun t => gd (4096 * k.toNatClampNeg + t)) (gd (4096 * k.toNatClampNeg + ixP x y)) co st1 dn).2.1 dn)) (rcO (opnJ (gw k.toNatClampNeg) (gh k.toNatClampNeg) cl cx0 cx1 cy0 cy1 ic) (fun t => gd (4096 * k.toNatClampNeg + t)) (gd (4096 * k.toNatClampNeg + ixP x y)) co st1 dn) i) := by rw [hay_24, hay_25]; exact if_pos (Or.inl c_22)
                          have hSt : (rcI (opnJ (gw k.toNatClampNeg) (gh k.toNatClampNeg) cl cx0 cx1 cy0 cy1 ic) (fun t => gd (4096 * k.toNatClampNeg + t)) (gd (4096 * k.toNatClampNeg + ixP x y)) co (pX ((rcO (opnJ (gw k.toNatClampNeg) (gh k.toNatClampNeg) cl cx0 cx1 cy0 cy1 ic) (fun t => gd (4096 * k.toNatClampNeg + t)) (gd (4096 * k.toNatClampNeg + ixP x y)) co st1 dn).2.1 dn)) (pY ((rcO (opnJ (gw k.toNatClampNeg) (gh k.toNatClampNeg) cl cx0 cx1 cy0 cy1 ic) (fun t => gd (4096 * k.toNatClampNeg + t)) (gd (4096 * k.toNatClampNeg + ixP x y)) co st1 dn).2.1 dn)) (rcO (opnJ (gw k.toNatClampNeg) (gh k.toNatClampNeg) cl cx0 cx1 cy0 cy1 ic) (fun t => gd (4096 * k.toNatClampNeg + t)) (gd (4096 * k.toNatClampNeg + ixP x y)) co st1 dn) (i + 1)) = (rcI (opnJ (gw k.toNatClampNeg) (gh k.toNatClampNeg) cl cx0 cx1 cy0 cy1 ic) (fun t => gd (4096 * k.toNatClampNeg + t)) (gd (4096 * k.toNatClampNeg + ixP x y)) co (pX ((rcO (opnJ (gw k.toNatClampNeg) (gh k.toNatClampNeg) cl cx0 cx1 cy0 cy1 ic) (fun t => gd (4096 * k.toNatClampNeg + t)) (gd (4096 * k.toNatClampNeg + ixP x y)) co st1 dn).2.1 dn)) (pY ((rcO (opnJ (gw k.toNatClampNeg) (gh k.toNatClampNeg) cl cx0 cx1 cy0 cy1 ic) (fun t => gd (4096 * k.toNatClampNeg + t)) (gd (4096 * k.toNatClampNeg + ixP x y)) co st1 dn).2.1 dn)) (rcO (opnJ (gw k.toNatClampNeg) (gh k.toNatClampNeg) cl cx0 cx1 cy0 cy1 ic) (fun t => gd (4096 * k.toNatClampNeg + t)) (gd (4096 * k.toNatClampNeg + ixP x y)) co st1 dn) i) := hS1.trans (if_neg (fun q => c_62 q.1.2))
                          exact ih_15 (i + 1) y_68 z7 gu gs _ _ _ (by omega) (by omega) (by rw [ey_68, ex_i]; exact nI_1 i) (by rw [hSt]; exact f7) (by rw [hSt]; exact f3) (by rw [hSt]; exact f2) (by rw [hSt]; exact fcn) (hP.sub (ws' := [(m1, .inl (cI, 4, .inl gw)), (m2, .inl (cI, 4, .inl gh)), (m3, .inl (cI, 16384, .inl gd)), (m13, .inl (cI, 4096, .inl gs)), (h0, .inr (9, [.ref m1, .ref m2, .ref m3, .int ik, .int wy, .int op, .int cl, .int cx0, .int cx1, .int cy0, .int cy1, .int ds, .ref m4, .ref m5, .ref m6, .ref m7, .ref m8, .ref m9, .int pn, .ref m10, .ref m11, .ref m12, .ref m13])), (m4, .inl (cZ, 4096, .inl gu))]) [3, 4, 0, 1, 5, 2] rfl) (hD.sub (ws' := [(m1, .inl (cI, 4, .inl gw)), (m2, .inl (cI, 4, .inl gh)), (m3, .inl (cI, 16384, .inl gd)), (m13, .inl (cI, 4096, .inl gs)), (h0, .inr (9, [.ref m1, .ref m2, .ref m3, .int ik, .int wy, .int op, .int cl, .int cx0, .int cx1, .int cy0, .int cy1, .int ds, .ref m4, .ref m5, .ref m6, .ref m7, .ref m8, .ref m9, .int pn, .ref m10, .ref m11, .ref m12, .ref m13])), (m4, .inl (cZ, 4096, .inl gu))]) [3, 4, 0, 1, 5, 2] (by decide) rfl) hS (lv_sub hl [0, 4, 5, 6, 7, 8, 9, 10, 11, 12, 13, 14] rfl)
                    · skip
                      have f_52 := bz0 hr_50 c_51
                      refine lv_goto (tgt := 238) hx hb dX9_joins_165 (by decide) ?_
                      obtain ⟨y_69, ey_69⟩ : ∃ y : Int32, y = x11 + 1 := ⟨_, rfl⟩
                      refine lv_iinc (v := y_69) (lv' := [(11, .int y_69), (13, .int y_21), (12, .int y_19), (8, .int y_13), (10, .int y_12), (9, .int y_11), (7, .int z7), (6, .int (gd (4096 * k.toNatClampNeg + ixP x y))), (0, .ref h0), (1, .int k), (2, .int x), (3, .int y), (4, .int co), (5, .int ic)]) hx hb dX9_joins_238 hl (k := 2) rfl (by rw [ey_69]; rfl) (by decide) rfl (fun ls hl => ?_)
                      refine lv_goto (tgt := 87) hx hb dX9_joins_241 (by decide) ?_
                      have hS1 : (rcI (opnJ (gw k.toNatClampNeg) (gh k.toNatClampNeg) cl cx0 cx1 cy0 cy1 ic) (fun t => gd (4096 * k.toNatClampNeg + t)) (gd (4096 * k.toNatClampNeg + ixP x y)) co (pX ((rcO (opnJ (gw k.toNatClampNeg) (gh k.toNatClampNeg) cl cx0 cx1 cy0 cy1 ic) (fun t => gd (4096 * k.toNatClampNeg + t)) (gd (4096 * k.toNatClampNeg + ixP x y)) co st1 dn).2.1 dn)) (pY ((rcO (opnJ (gw k.toNatClampNeg) (gh k.toNatClampNeg) cl cx0 cx1 cy0 cy1 ic) (fun t => gd (4096 * k.toNatClampNeg + t)) (gd (4096 * k.toNatClampNeg + ixP x y)) co st1 dn).2.1 dn)) (rcO (opnJ (gw k.toNatClampNeg) (gh k.toNatClampNeg) cl cx0 cx1 cy0 cy1 ic) (fun t => gd (4096 * k.toNatClampNeg + t)) (gd (4096 * k.toNatClampNeg + ixP x y)) co st1 dn) (i + 1)) = rcS (opnJ (gw k.toNatClampNeg) (gh k.toNatClampNeg) cl cx0 cx1 cy0 cy1 ic) (fun t => gd (4096 * k.toNatClampNeg + t)) (gd (4096 * k.toNatClampNeg + ixP x y)) y_24 y_25 (rcI (opnJ (gw k.toNatClampNeg) (gh k.toNatClampNeg) cl cx0 cx1 cy0 cy1 ic) (fun t => gd (4096 * k.toNatClampNeg + t)) (gd (4096 * k.toNatClampNeg + ixP x y)) co (pX ((rcO (opnJ (gw k.toNatClampNeg) (gh k.toNatClampNeg) cl cx0 cx1 cy0 cy1 ic) (fun t => gd (4096 * k.toNatClampNeg + t)) (gd (4096 * k.toNatClampNeg + ixP x y)) co st1 dn).2.1 dn)) (pY ((rcO (opnJ (gw k.toNatClampNeg) (gh k.toNatClampNeg) cl cx0 cx1 cy0 cy1 ic) (fun t => gd (4096 * k.toNatClampNeg + t)) (gd (4096 * k.toNatClampNeg + ixP x y)) co st1 dn).2.1 dn)) (rcO (opnJ (gw k.toNatClampNeg) (gh k.toNatClampNeg) cl cx0 cx1 cy0 cy1 ic) (fun t => gd (4096 * k.toNatClampNeg + t)) (gd (4096 * k.toNatClampNeg + ixP x y)) co st1 dn) i) := by rw [hay_24, hay_25]; exact if_pos (Or.inl c_22)
                      have hSt : (rcI (opnJ (gw k.toNatClampNeg) (gh k.toNatClampNeg) cl cx0 cx1 cy0 cy1 ic) (fun t => gd (4096 * k.toNatClampNeg + t)) (gd (4096 * k.toNatClampNeg + ixP x y)) co (pX ((rcO (opnJ (gw k.toNatClampNeg) (gh k.toNatClampNeg) cl cx0 cx1 cy0 cy1 ic) (fun t => gd (4096 * k.toNatClampNeg + t)) (gd (4096 * k.toNatClampNeg + ixP x y)) co st1 dn).2.1 dn)) (pY ((rcO (opnJ (gw k.toNatClampNeg) (gh k.toNatClampNeg) cl cx0 cx1 cy0 cy1 ic) (fun t => gd (4096 * k.toNatClampNeg + t)) (gd (4096 * k.toNatClampNeg + ixP x y)) co st1 dn).2.1 dn)) (rcO (opnJ (gw k.toNatClampNeg) (gh k.toNatClampNeg) cl cx0 cx1 cy0 cy1 ic) (fun t => gd (4096 * k.toNatClampNeg + t)) (gd (4096 * k.toNatClampNeg + ixP x y)) co st1 dn) (i + 1)) = (rcI (opnJ (gw k.toNatClampNeg) (gh k.toNatClampNeg) cl cx0 cx1 cy0 cy1 ic) (fun t => gd (4096 * k.toNatClampNeg + t)) (gd (4096 * k.toNatClampNeg + ixP x y)) co (pX ((rcO (opnJ (gw k.toNatClampNeg) (gh k.toNatClampNeg) cl cx0 cx1 cy0 cy1 ic) (fun t => gd (4096 * k.toNatClampNeg + t)) (gd (4096 * k.toNatClampNeg + ixP x y)) co st1 dn).2.1 dn)) (pY ((rcO (opnJ (gw k.toNatClampNeg) (gh k.toNatClampNeg) cl cx0 cx1 cy0 cy1 ic) (fun t => gd (4096 * k.toNatClampNeg + t)) (gd (4096 * k.toNatClampNeg + ixP x y)) co st1 dn).2.1 dn)) (rcO (opnJ (gw k.toNatClampNeg) (gh k.toNatClampNeg) cl cx0 cx1 cy0 cy1 ic) (fun t => gd (4096 * k.toNatClampNeg + t)) (gd (4096 * k.toNatClampNeg + ixP x y)) co st1 dn) i) := hS1.trans (if_neg (fun q => q.1.1.2.elim c_30 (fun q => f_52 q)))
                      exact ih_15 (i + 1) y_69 z7 gu gs _ _ _ (by omega) (by omega) (by rw [ey_69, ex_i]; exact nI_1 i) (by rw [hSt]; exact f7) (by rw [hSt]; exact f3) (by rw [hSt]; exact f2) (by rw [hSt]; exact fcn) (hP.sub (ws' := [(m1, .inl (cI, 4, .inl gw)), (m2, .inl (cI, 4, .inl gh)), (m3, .inl (cI, 16384, .inl gd)), (m13, .inl (cI, 4096, .inl gs)), (h0, .inr (9, [.ref m1, .ref m2, .ref m3, .int ik, .int wy, .int op, .int cl, .int cx0, .int cx1, .int cy0, .int cy1, .int ds, .ref m4, .ref m5, .ref m6, .ref m7, .ref m8, .ref m9, .int pn, .ref m10, .ref m11, .ref m12, .ref m13])), (m4, .inl (cZ, 4096, .inl gu))]) [3, 4, 0, 1, 5, 2] rfl) (hD.sub (ws' := [(m1, .inl (cI, 4, .inl gw)), (m2, .inl (cI, 4, .inl gh)), (m3, .inl (cI, 16384, .inl gd)), (m13, .inl (cI, 4096, .inl gs)), (h0, .inr (9, [.ref m1, .ref m2, .ref m3, .int ik, .int wy, .int op, .int cl, .int cx0, .int cx1, .int cy0, .int cy1, .int ds, .ref m4, .ref m5, .ref m6, .ref m7, .ref m8, .ref m9, .int pn, .ref m10, .ref m11, .ref m12, .ref m13])), (m4, .inl (cZ, 4096, .inl gu))]) [3, 4, 0, 1, 5, 2] (by decide) rfl) hS (lv_sub hl [0, 3, 4, 5, 6, 7, 8, 9, 10, 11, 12, 13] rfl)
              · skip
                have f_23 : co.toInt = 0 := f_eq rfl (by decide) c_22
                refine lv_iload hx hb dX9_joins_115 (lv_at hl 1 rfl) ?_
                refine lv_if_eq (tgt := 125) hx hb dX9_joins_117 (by decide) (fun c_70 => ?_) (fun c_70 => ?_)
                · skip
                  have f_71 : y_19.toInt = 0 := f_eq rfl (by decide) c_70
                  refine lv_aload_n hx hb dX9_joins_125 rfl (lv_at hl 8 rfl) ?_
                  refine lv_iload_n hx hb dX9_joins_126 rfl (lv_at hl 9 rfl) ?_
                  refine lv_iload hx hb dX9_joins_127 (lv_at hl 5 rfl) ?_
                  refine lv_iload hx hb dX9_joins_129 (lv_at hl 1 rfl) ?_
                  refine lv_iadd hx hb dX9_joins_131 ?_
                  refine lv_topi (fun y_72 ey_72 => ?_)
                  have hay_72 : y_72 = pX ((rcO (opnJ (gw k.toNatClampNeg) (gh k.toNatClampNeg) cl cx0 cx1 cy0 cy1 ic) (fun t => gd (4096 * k.toNatClampNeg + t)) (gd (4096 * k.toNatClampNeg + ixP x y)) co st1 dn).2.1 dn) + dX i := by rw [ey_72, hp9, hdy_19]
                  refine lv_iload hx hb dX9_joins_132 (lv_at hl 4 rfl) ?_
                  refine lv_iload hx hb dX9_joins_134 (lv_at hl 0 rfl) ?_
                  refine lv_iadd hx hb dX9_joins_136 ?_
                  refine lv_topi (fun y_73 ey_73 => ?_)
                  have hay_73 : y_73 = pY ((rcO (opnJ (gw k.toNatClampNeg) (gh k.toNatClampNeg) cl cx0 cx1 cy0 cy1 ic) (fun t => gd (4096 * k.toNatClampNeg + t)) (gd (4096 * k.toNatClampNeg + ixP x y)) co st1 dn).2.1 dn) + dY i := by rw [ey_73, hp10, hdy_21]
                  have hPc := hP.sub (ws' := [(h0, .inr (9, [.ref m1, .ref m2, .ref m3, .int ik, .int wy, .int op, .int cl, .int cx0, .int cx1, .int cy0, .int cy1, .int ds, .ref m4, .ref m5, .ref m6, .ref m7, .ref m8, .ref m9, .int pn, .ref m10, .ref m11, .ref m12, .ref m13])), (m1, .inl (cI, 4, .inl gw)), (m2, .inl (cI, 4, .inl gh))]) [4, 0, 1] rfl
                  have hDc := hD.sub (ws' := [(h0, .inr (9, [.ref m1, .ref m2, .ref m3, .int ik, .int wy, .int op, .int cl, .int cx0, .int cx1, .int cy0, .int cy1, .int ds, .ref m4, .ref m5, .ref m6, .ref m7, .ref m8, .ref m9, .int pn, .ref m10, .ref m11, .ref m12, .ref m13])), (m1, .inl (cI, 4, .inl gw)), (m2, .inl (cI, 4, .inl gh))]) [4, 0, 1] (by decide) rfl
                  have hKc := hK.sub (tys' := [(cI, .int)]) [0] rfl
                  have hFc := va_free (wc := [(h0, .inr (9, [.ref m1, .ref m2, .ref m3, .int ik, .int wy, .int op, .int cl, .int cx0, .int cx1, .int cy0, .int cy1, .int ds, .ref m4, .ref m5, .ref m6, .ref m7, .ref m8, .ref m9, .int pn, .ref m10, .ref m11, .ref m12, .ref m13])), (m1, .inl (cI, 4, .inl gw)), (m2, .inl (cI, 4, .inl gh))]) hD hS hA [4, 0, 1] rfl
                  refine va_calli (va_runV (As := [.int k, .int y_72, .int y_73]) (rest := []) ⟨hx, hb, hml, hown, hts⟩ (k_X9_isOn l D H.size h0 m1 m2 m3 m4 m5 m6 m7 m8 m9 m10 m11 m12 m13 ik wy op cl cx0 cx1 cy0 cy1 ds pn gw gh k y_72 y_73 cI (by omega)) (cwV 3 hts (gV bw_433 bw_418 bw_419 bw_391 bw_417) rfl rfl rfl (by decide +kernel) ⟨(by rw [hR]; exact Nat.le_of_ble_eq_true rfl), (by rw [hR]; exact Nat.le_of_ble_eq_true rfl)⟩) ⟨cP_blind, va_recv hKc hPc (ci := 9) (q0 := 0) rfl rfl, cP_at hPc hKc hDc hN⟩ rfl rfl hl.1 rfl (lv_room (Nat.le_of_ble_eq_true rfl)) dX9_joins_137 ⟨(by rw [hR]; exact Nat.le_of_ble_eq_true rfl), (by rw [hR]; exact Nat.le_of_ble_eq_true rfl)⟩) hS (fun q _ h => hFc q h) hFc (fun r_74 u9 t9 H1 locs ht hvm hr_74 hB hz1 hk1 hS => ?_)
                  try dsimp only at hr_74
                  obtain ⟨hP1, hK1, hD1⟩ := hB
                  rw [ht] at hP1
                  obtain ⟨hP, hD⟩ := va_join (wr := [(m3, .inl (cI, 16384, .inl gd)), (m13, .inl (cI, 4096, .inl gs)), (m4, .inl (cZ, 4096, .inl gu))]) (w1 := [(h0, .inr (9, [.ref m1, .ref m2, .ref m3, .int ik, .int wy, .int op, .int cl, .int cx0, .int cx1, .int cy0, .int cy1, .int ds, .ref m4, .ref m5, .ref m6, .ref m7, .ref m8, .ref m9, .int pn, .ref m10, .ref m11, .ref m12, .ref m13])), (m1, .inl (cI, 4, .inl gw)), (m2, .inl (cI, 4, .inl gh))]) hP hD [4, 0, 1] [2, 3, 5] rfl rfl (by decide) (by decide) hk1 hFc hP1 hD1
                  clear hz1 hk1 hFc hKc hDc hPc
                  generalize H1 = H at hP hS ⊢
                  have hP : va_P D vwCl [(m3, .inl (cI, 16384, .inl gd)), (m13, .inl (cI, 4096, .inl gs)), (m4, .inl (cZ, 4096, .inl gu)), (h0, .inr (9, [.ref m1, .ref m2, .ref m3, .int ik, .int wy, .int op, .int cl, .int cx0, .int cx1, .int cy0, .int cy1, .int ds, .ref m4, .ref m5, .ref m6, .ref m7, .ref m8, .ref m9, .int pn, .ref m10, .ref m11, .ref m12, .ref m13])), (m1, .inl (cI, 4, .inl gw)), (m2, .inl (cI, 4, .inl gh))] H := hP
                  have hD : va_D A [(m3, .inl (cI, 16384, .inl gd)), (m13, .inl (cI, 4096, .inl gs)), (m4, .inl (cZ, 4096, .inl gu)), (h0, .inr (9, [.ref m1, .ref m2, .ref m3, .int ik, .int wy, .int op, .int cl, .int cx0, .int cx1, .int cy0, .int cy1, .int ds, .ref m4, .ref m5, .ref m6, .ref m7, .ref m8, .ref m9, .int pn, .ref m10, .ref m11, .ref m12, .ref m13])), (m1, .inl (cI, 4, .inl gw)), (m2, .inl (cI, 4, .inl gh))] := hD
                  refine lv_if_eq (tgt := 238) hx hb dX9_joins_140 (by decide) (fun c_75 => ?_) (fun c_75 => ?_)
                  · skip
                    have f_76 := bz0 hr_74 c_75
                    obtain ⟨y_77, ey_77⟩ : ∃ y : Int32, y = x11 + 1 := ⟨_, rfl⟩
                    refine lv_iinc (v := y_77) (lv' := [(11, .int y_77), (13, .int y_21), (12, .int y_19), (8, .int y_13), (10, .int y_12), (9, .int y_11), (7, .int z7), (6, .int (gd (4096 * k.toNatClampNeg + ixP x y))), (0, .ref h0), (1, .int k), (2, .int x), (3, .int y), (4, .int co), (5, .int ic)]) hx hb dX9_joins_238 hl (k := 2) rfl (by rw [ey_77]; rfl) (by decide) rfl (fun ls hl => ?_)
                    refine lv_goto (tgt := 87) hx hb dX9_joins_241 (by decide) ?_
                    have hS1 : (rcI (opnJ (gw k.toNatClampNeg) (gh k.toNatClampNeg) cl cx0 cx1 cy0 cy1 ic) (fun t => gd (4096 * k.toNatClampNeg + t)) (gd (4096 * k.toNatClampNeg + ixP x y)) co (pX ((rcO (opnJ (gw k.toNatClampNeg) (gh k.toNatClampNeg) cl cx0 cx1 cy0 cy1 ic) (fun t => gd (4096 * k.toNatClampNeg + t)) (gd (4096 * k.toNatClampNeg + ixP x y)) co st1 dn).2.1 dn)) (pY ((rcO (opnJ (gw k.toNatClampNeg) (gh k.toNatClampNeg) cl cx0 cx1 cy0 cy1 ic) (fun t => gd (4096 * k.toNatClampNeg + t)) (gd (4096 * k.toNatClampNeg + ixP x y)) co st1 dn).2.1 dn)) (rcO (opnJ (gw k.toNatClampNeg) (gh k.toNatClampNeg) cl cx0 cx1 cy0 cy1 ic) (fun t => gd (4096 * k.toNatClampNeg + t)) (gd (4096 * k.toNatClampNeg + ixP x y)) co st1 dn) (i + 1)) = rcS (opnJ (gw k.toNatClampNeg) (gh k.toNatClampNeg) cl cx0 cx1 cy0 cy1 ic) (fun t => gd (4096 * k.toNatClampNeg + t)) (gd (4096 * k.toNatClampNeg + ixP x y)) y_72 y_73 (rcI (opnJ (gw k.toNatClampNeg) (gh k.toNatClampNeg) cl cx0 cx1 cy0 cy1 ic) (fun t => gd (4096 * k.toNatClampNeg + t)) (gd (4096 * k.toNatClampNeg + ixP x y)) co (pX ((rcO (opnJ (gw k.toNatClampNeg) (gh k.toNatClampNeg) cl cx0 cx1 cy0 cy1 ic) (fun t => gd (4096 * k.toNatClampNeg + t)) (gd (4096 * k.toNatClampNeg + ixP x y)) co st1 dn).2.1 dn)) (pY ((rcO (opnJ (gw k.toNatClampNeg) (gh k.toNatClampNeg) cl cx0 cx1 cy0 cy1 ic) (fun t => gd (4096 * k.toNatClampNeg + t)) (gd (4096 * k.toNatClampNeg + ixP x y)) co st1 dn).2.1 dn)) (rcO (opnJ (gw k.toNatClampNeg) (gh k.toNatClampNeg) cl cx0 cx1 cy0 cy1 ic) (fun t => gd (4096 * k.toNatClampNeg + t)) (gd (4096 * k.toNatClampNeg + ixP x y)) co st1 dn) i) := by rw [hay_72, hay_73]; exact if_pos (Or.inr (Or.inl (hdy_19.symm.trans c_70)))
                    have hSt : (rcI (opnJ (gw k.toNatClampNeg) (gh k.toNatClampNeg) cl cx0 cx1 cy0 cy1 ic) (fun t => gd (4096 * k.toNatClampNeg + t)) (gd (4096 * k.toNatClampNeg + ixP x y)) co (pX ((rcO (opnJ (gw k.toNatClampNeg) (gh k.toNatClampNeg) cl cx0 cx1 cy0 cy1 ic) (fun t => gd (4096 * k.toNatClampNeg + t)) (gd (4096 * k.toNatClampNeg + ixP x y)) co st1 dn).2.1 dn)) (pY ((rcO (opnJ (gw k.toNatClampNeg) (gh k.toNatClampNeg) cl cx0 cx1 cy0 cy1 ic) (fun t => gd (4096 * k.toNatClampNeg + t)) (gd (4096 * k.toNatClampNeg + ixP x y)) co st1 dn).2.1 dn)) (rcO (opnJ (gw k.toNatClampNeg) (gh k.toNatClampNeg) cl cx0 cx1 cy0 cy1 ic) (fun t => gd (4096 * k.toNatClampNeg + t)) (gd (4096 * k.toNatClampNeg + ixP x y)) co st1 dn) (i + 1)) = (rcI (opnJ (gw k.toNatClampNeg) (gh k.toNatClampNeg) cl cx0 cx1 cy0 cy1 ic) (fun t => gd (4096 * k.toNatClampNeg + t)) (gd (4096 * k.toNatClampNeg + ixP x y)) co (pX ((rcO (opnJ (gw k.toNatClampNeg) (gh k.toNatClampNeg) cl cx0 cx1 cy0 cy1 ic) (fun t => gd (4096 * k.toNatClampNeg + t)) (gd (4096 * k.toNatClampNeg + ixP x y)) co st1 dn).2.1 dn)) (pY ((rcO (opnJ (gw k.toNatClampNeg) (gh k.toNatClampNeg) cl cx0 cx1 cy0 cy1 ic) (fun t => gd (4096 * k.toNatClampNeg + t)) (gd (4096 * k.toNatClampNeg + ixP x y)) co st1 dn).2.1 dn)) (rcO (opnJ (gw k.toNatClampNeg) (gh k.toNatClampNeg) cl cx0 cx1 cy0 cy1 ic) (fun t => gd (4096 * k.toNatClampNeg + t)) (gd (4096 * k.toNatClampNeg + ixP x y)) co st1 dn) i) := hS1.trans (if_neg (fun q => f_76 q.1.1.1))
                    exact ih_15 (i + 1) y_77 z7 gu gs _ _ _ (by omega) (by omega) (by rw [ey_77, ex_i]; exact nI_1 i) (by rw [hSt]; exact f7) (by rw [hSt]; exact f3) (by rw [hSt]; exact f2) (by rw [hSt]; exact fcn) (hP.sub (ws' := [(m1, .inl (cI, 4, .inl gw)), (m2, .inl (cI, 4, .inl gh)), (m3, .inl (cI, 16384, .inl gd)), (m13, .inl (cI, 4096, .inl gs)), (h0, .inr (9, [.ref m1, .ref m2, .ref m3, .int ik, .int wy, .int op, .int cl, .int cx0, .int cx1, .int cy0, .int cy1, .int ds, .ref m4, .ref m5, .ref m6, .ref m7, .ref m8, .ref m9, .int pn, .ref m10, .ref m11, .ref m12, .ref m13])), (m4, .inl (cZ, 4096, .inl gu))]) [4, 5, 0, 1, 3, 2] rfl) (hD.sub (ws' := [(m1, .inl (cI, 4, .inl gw)), (m2, .inl (cI, 4, .inl gh)), (m3, .inl (cI, 16384, .inl gd)), (m13, .inl (cI, 4096, .inl gs)), (h0, .inr (9, [.ref m1, .ref m2, .ref m3, .int ik, .int wy, .int op, .int cl, .int cx0, .int cx1, .int cy0, .int cy1, .int ds, .ref m4, .ref m5, .ref m6, .ref m7, .ref m8, .ref m9, .int pn, .ref m10, .ref m11, .ref m12, .ref m13])), (m4, .inl (cZ, 4096, .inl gu))]) [4, 5, 0, 1, 3, 2] (by decide) rfl) hS (lv_sub hl [0, 3, 4, 5, 6, 7, 8, 9, 10, 11, 12, 13] rfl)
                  · skip
                    have f_76 := bz1 hr_74 c_75
                    refine lv_iload hx hb dX9_joins_143 (lv_at hl 13 rfl) ?_
                    refine lv_if_eq (tgt := 168) hx hb dX9_joins_145 (by decide) (fun c_78 => ?_) (fun c_78 => ?_)
                    · skip
                      have f_79 : ic.toInt = 0 := f_eq rfl (by decide) c_78
                      refine lv_bipush (v := 64) hx hb dX9_joins_168 (by decide) ?_
                      refine lv_iload hx hb dX9_joins_170 (lv_at hl 4 rfl) ?_
                      refine lv_iload hx hb dX9_joins_172 (lv_at hl 0 rfl) ?_
                      refine lv_iadd hx hb dX9_joins_174 ?_
                      refine lv_topi (fun y_80 ey_80 => ?_)
                      have hay_80 : y_80 = pY ((rcO (opnJ (gw k.toNatClampNeg) (gh k.toNatClampNeg) cl cx0 cx1 cy0 cy1 ic) (fun t => gd (4096 * k.toNatClampNeg + t)) (gd (4096 * k.toNatClampNeg + ixP x y)) co st1 dn).2.1 dn) + dY i := by rw [ey_80, hp10, hdy_21]
                      refine lv_imul hx hb dX9_joins_175 ?_
                      refine lv_topi (fun y_81 ey_81 => ?_)
                      refine lv_iload hx hb dX9_joins_176 (lv_at hl 5 rfl) ?_
                      refine lv_iadd hx hb dX9_joins_178 ?_
                      refine lv_topi (fun y_82 ey_82 => ?_)
                      refine lv_iload hx hb dX9_joins_179 (lv_at hl 1 rfl) ?_
                      refine lv_iadd hx hb dX9_joins_181 ?_
                      refine lv_topi (fun y_83 ey_83 => ?_)
                      have htoy_83 : y_83 = 64 * y_73 + y_72 := by rw [ey_83, ey_82, ey_81, ey_80, ey_73, ey_72, Int32.add_assoc]
                      have hiny_83 : vp_in y_83 4096 := by rw [htoy_83]; exact ix_in2 (by omega) (by omega) (by omega) (by omega)
                      have hixy_83 : y_83 = nI (ixP y_72 y_73) := by rw [htoy_83]; exact ix_nI2 (by omega) (by omega) (by omega) (by omega)
                      have hxcy_83 : y_83.toNatClampNeg = ixP y_72 y_73 := by rw [hixy_83]; exact nI_clamp (by have := ix_lt (x := y_72) (y := y_73) (by omega) (by omega) (by omega) (by omega); omega)
                      refine lv_istore (lv' := [(14, .int y_83), (13, .int y_21), (12, .int y_19), (11, .int x11), (8, .int y_13), (10, .int y_12), (9, .int y_11), (7, .int z7), (6, .int (gd (4096 * k.toNatClampNeg + ixP x y))), (0, .ref h0), (1, .int k), (2, .int x), (3, .int y), (4, .int co), (5, .int ic)]) hx hb dX9_joins_182 hl (by decide) rfl (fun ls hl => ?_)
                      refine lv_aload_n hx hb dX9_joins_184 rfl (lv_at hl 9 rfl) ?_
                      refine va_get (D := D) (ci := 9) (v := .ref m4) (C := RX9) (T := TX9) (N := 23) hx hb hts hi_X9 hown hK hP 3 rfl rfl 12 (by decide) (hts _ bw_404) (fun _ h9 => h9) rfl dX9_joins_185 ?_
                      refine lv_iload hx hb dX9_joins_188 (lv_at hl 0 rfl) ?_
                      refine va_zald hx hb hK hP 2 1 rfl rfl hiny_83 dX9_joins_190 ?_
                      refine lv_if_ne (tgt := 238) hx hb dX9_joins_191 (by decide) (fun c_84 => ?_) (fun c_84 => ?_)
                      · skip
                        have f_85 : ¬ ((gu y_83.toNatClampNeg).toInt = 0) := fn_eq rfl (by decide) c_84
                        obtain ⟨y_86, ey_86⟩ : ∃ y : Int32, y = x11 + 1 := ⟨_, rfl⟩
                        refine lv_iinc (v := y_86) (lv' := [(11, .int y_86), (14, .int y_83), (13, .int y_21), (12, .int y_19), (8, .int y_13), (10, .int y_12), (9, .int y_11), (7, .int z7), (6, .int (gd (4096 * k.toNatClampNeg + ixP x y))), (0, .ref h0), (1, .int k), (2, .int x), (3, .int y), (4, .int co), (5, .int ic)]) hx hb dX9_joins_238 hl (k := 3) rfl (by rw [ey_86]; rfl) (by decide) rfl (fun ls hl => ?_)
                        refine lv_goto (tgt := 87) hx hb dX9_joins_241 (by decide) ?_
                        have hS1 : (rcI (opnJ (gw k.toNatClampNeg) (gh k.toNatClampNeg) cl cx0 cx1 cy0 cy1 ic) (fun t => gd (4096 * k.toNatClampNeg + t)) (gd (4096 * k.toNatClampNeg + ixP x y)) co (pX ((rcO (opnJ (gw k.toNatClampNeg) (gh k.toNatClampNeg) cl cx0 cx1 cy0 cy1 ic) (fun t => gd (4096 * k.toNatClampNeg + t)) (gd (4096 * k.toNatClampNeg + ixP x y)) co st1 dn).2.1 dn)) (pY ((rcO (opnJ (gw k.toNatClampNeg) (gh k.toNatClampNeg) cl cx0 cx1 cy0 cy1 ic) (fun t => gd (4096 * k.toNatClampNeg + t)) (gd (4096 * k.toNatClampNeg + ixP x y)) co st1 dn).2.1 dn)) (rcO (opnJ (gw k.toNatClampNeg) (gh k.toNatClampNeg) cl cx0 cx1 cy0 cy1 ic) (fun t => gd (4096 * k.toNatClampNeg + t)) (gd (4096 * k.toNatClampNeg + ixP x y)) co st1 dn) (i + 1)) = rcS (opnJ (gw k.toNatClampNeg) (gh k.toNatClampNeg) cl cx0 cx1 cy0 cy1 ic) (fun t => gd (4096 * k.toNatClampNeg + t)) (gd (4096 * k.toNatClampNeg + ixP x y)) y_72 y_73 (rcI (opnJ (gw k.toNatClampNeg) (gh k.toNatClampNeg) cl cx0 cx1 cy0 cy1 ic) (fun t => gd (4096 * k.toNatClampNeg + t)) (gd (4096 * k.toNatClampNeg + ixP x y)) co (pX ((rcO (opnJ (gw k.toNatClampNeg) (gh k.toNatClampNeg) cl cx0 cx1 cy0 cy1 ic) (fun t => gd (4096 * k.toNatClampNeg + t)) (gd (4096 * k.toNatClampNeg + ixP x y)) co st1 dn).2.1 dn)) (pY ((rcO (opnJ (gw k.toNatClampNeg) (gh k.toNatClampNeg) cl cx0 cx1 cy0 cy1 ic) (fun t => gd (4096 * k.toNatClampNeg + t)) (gd (4096 * k.toNatClampNeg + ixP x y)) co st1 dn).2.1 dn)) (rcO (opnJ (gw k.toNatClampNeg) (gh k.toNatClampNeg) cl cx0 cx1 cy0 cy1 ic) (fun t => gd (4096 * k.toNatClampNeg + t)) (gd (4096 * k.toNatClampNeg + ixP x y)) co st1 dn) i) := by rw [hay_72, hay_73]; exact if_pos (Or.inr (Or.inl (hdy_19.symm.trans c_70)))
                        have hSt : (rcI (opnJ (gw k.toNatClampNeg) (gh k.toNatClampNeg) cl cx0 cx1 cy0 cy1 ic) (fun t => gd (4096 * k.toNatClampNeg + t)) (gd (4096 * k.toNatClampNeg + ixP x y)) co (pX ((rcO (opnJ (gw k.toNatClampNeg) (gh k.toNatClampNeg) cl cx0 cx1 cy0 cy1 ic) (fun t => gd (4096 * k.toNatClampNeg + t)) (gd (4096 * k.toNatClampNeg + ixP x y)) co st1 dn).2.1 dn)) (pY ((rcO (opnJ (gw k.toNatClampNeg) (gh k.toNatClampNeg) cl cx0 cx1 cy0 cy1 ic) (fun t => gd (4096 * k.toNatClampNeg + t)) (gd (4096 * k.toNatClampNeg + ixP x y)) co st1 dn).2.1 dn)) (rcO (opnJ (gw k.toNatClampNeg) (gh k.toNatClampNeg) cl cx0 cx1 cy0 cy1 ic) (fun t => gd (4096 * k.toNatClampNeg + t)) (gd (4096 * k.toNatClampNeg + ixP x y)) co st1 dn) (i + 1)) = (rcI (opnJ (gw k.toNatClampNeg) (gh k.toNatClampNeg) cl cx0 cx1 cy0 cy1 ic) (fun t => gd (4096 * k.toNatClampNeg + t)) (gd (4096 * k.toNatClampNeg + ixP x y)) co (pX ((rcO (opnJ (gw k.toNatClampNeg) (gh k.toNatClampNeg) cl cx0 cx1 cy0 cy1 ic) (fun t => gd (4096 * k.toNatClampNeg + t)) (gd (4096 * k.toNatClampNeg + ixP x y)) co st1 dn).2.1 dn)) (pY ((rcO (opnJ (gw k.toNatClampNeg) (gh k.toNatClampNeg) cl cx0 cx1 cy0 cy1 ic) (fun t => gd (4096 * k.toNatClampNeg + t)) (gd (4096 * k.toNatClampNeg + ixP x y)) co st1 dn).2.1 dn)) (rcO (opnJ (gw k.toNatClampNeg) (gh k.toNatClampNeg) cl cx0 cx1 cy0 cy1 ic) (fun t => gd (4096 * k.toNatClampNeg + t)) (gd (4096 * k.toNatClampNeg + ixP x y)) co st1 dn) i) := hS1.trans (if_neg (fun q => c_84 (by rw [f3, hxcy_83]; exact q.2.1)))
                        exact ih_15 (i + 1) y_86 z7 gu gs _ _ _ (by omega) (by omega) (by rw [ey_86, ex_i]; exact nI_1 i) (by rw [hSt]; exact f7) (by rw [hSt]; exact f3) (by rw [hSt]; exact f2) (by rw [hSt]; exact fcn) (hP.sub (ws' := [(m1, .inl (cI, 4, .inl gw)), (m2, .inl (cI, 4, .inl gh)), (m3, .inl (cI, 16384, .inl gd)), (m13, .inl (cI, 4096, .inl gs)), (h0, .inr (9, [.ref m1, .ref m2, .ref m3, .int ik, .int wy, .int op, .int cl, .int cx0, .int cx1, .int cy0, .int cy1, .int ds, .ref m4, .ref m5, .ref m6, .ref m7, .ref m8, .ref m9, .int pn, .ref m10, .ref m11, .ref m12, .ref m13])), (m4, .inl (cZ, 4096, .inl gu))]) [4, 5, 0, 1, 3, 2] rfl) (hD.sub (ws' := [(m1, .inl (cI, 4, .inl gw)), (m2, .inl (cI, 4, .inl gh)), (m3, .inl (cI, 16384, .inl gd)), (m13, .inl (cI, 4096, .inl gs)), (h0, .inr (9, [.ref m1, .ref m2, .ref m3, .int ik, .int wy, .int op, .int cl, .int cx0, .int cx1, .int cy0, .int cy1, .int ds, .ref m4, .ref m5, .ref m6, .ref m7, .ref m8, .ref m9, .int pn, .ref m10, .ref m11, .ref m12, .ref m13])), (m4, .inl (cZ, 4096, .inl gu))]) [4, 5, 0, 1, 3, 2] (by decide) rfl) hS (lv_sub hl [0, 4, 5, 6, 7, 8, 9, 10, 11, 12, 13, 14] rfl)
                      · skip
                        have f_85 : (gu y_83.toNatClampNeg).toInt = 0 := f_eq rfl (by decide) c_84
                        refine lv_aload_n hx hb dX9_joins_194 rfl (lv_at hl 9 rfl) ?_
                        refine va_get (D := D) (ci := 9) (v := .ref m3) (C := RX9) (T := TX9) (N := 23) hx hb hts hi_X9 hown hK hP 3 rfl rfl 2 (by decide) (hts _ bw_398) (fun _ h9 => h9) rfl dX9_joins_195 ?_
                        refine lv_sipush (v := 4096) hx hb dX9_joins_198 (by decide) ?_
                        refine lv_iload_n hx hb dX9_joins_201 rfl (lv_at hl 10 rfl) ?_
                        refine lv_imul hx hb dX9_joins_202 ?_
                        refine lv_topi (fun y_87 ey_87 => ?_)
                        refine lv_iload hx hb dX9_joins_203 (lv_at hl 0 rfl) ?_
                        refine lv_iadd hx hb dX9_joins_205 ?_
                        refine lv_topi (fun y_88 ey_88 => ?_)
                        refine va_iald hx hb hK hP 0 0 rfl rfl (by rw [ey_88, ey_87]; exact kp_in (by omega) hiny_83) dX9_joins_206 ?_
                        refine my_fold (v := gd (4096 * k.toNatClampNeg + ixP y_72 y_73)) (congrArg gd (by rw [ey_88, ey_87]; exact dotx (gd := gd) (y := k) hkk hixy_83 (ix_lt (by omega) (by omega) (by omega) (by omega)) ek)) ?_
                        refine lv_iload hx hb dX9_joins_207 (lv_at hl 8 rfl) ?_
                        refine lv_icmp_eq (tgt := 215) hx hb dX9_joins_209 (by decide) (fun c_89 => ?_) (fun c_89 => ?_)
                        · skip
                          have f_90 : (gd (4096 * k.toNatClampNeg + ixP y_72 y_73)).toInt = (gd (4096 * k.toNatClampNeg + ixP x y)).toInt := f_eq rfl rfl c_89
                          refine lv_aload_n hx hb dX9_joins_215 rfl (lv_at hl 9 rfl) ?_
                          refine va_get (D := D) (ci := 9) (v := .ref m4) (C := RX9) (T := TX9) (N := 23) hx hb hts hi_X9 hown hK hP 3 rfl rfl 12 (by decide) (hts _ bw_404) (fun _ h9 => h9) rfl dX9_joins_216 ?_
                          refine lv_iload hx hb dX9_joins_219 (lv_at hl 0 rfl) ?_
                          refine lv_iconst (v := 1) hx hb dX9_joins_221 (by decide) ?_
                          refine va_zast hx hb hK hP hD hS 2 1 rfl rfl hiny_83 dX9_joins_222 (fun H locs hP hD hS => ?_)
                          have hP : va_P D vwCl [(m3, .inl (cI, 16384, .inl gd)), (m13, .inl (cI, 4096, .inl gs)), (m4, .inl (cZ, 4096, .inl (upd gu y_83.toNatClampNeg (vp_nar .boolean 1)))), (h0, .inr (9, [.ref m1, .ref m2, .ref m3, .int ik, .int wy, .int op, .int cl, .int cx0, .int cx1, .int cy0, .int cy1, .int ds, .ref m4, .ref m5, .ref m6, .ref m7, .ref m8, .ref m9, .int pn, .ref m10, .ref m11, .ref m12, .ref m13])), (m1, .inl (cI, 4, .inl gw)), (m2, .inl (cI, 4, .inl gh))] H := hP
                          have hD : va_D A [(m3, .inl (cI, 16384, .inl gd)), (m13, .inl (cI, 4096, .inl gs)), (m4, .inl (cZ, 4096, .inl (upd gu y_83.toNatClampNeg (vp_nar .boolean 1)))), (h0, .inr (9, [.ref m1, .ref m2, .ref m3, .int ik, .int wy, .int op, .int cl, .int cx0, .int cx1, .int cy0, .int cy1, .int ds, .ref m4, .ref m5, .ref m6, .ref m7, .ref m8, .ref m9, .int pn, .ref m10, .ref m11, .ref m12, .ref m13])), (m1, .inl (cI, 4, .inl gw)), (m2, .inl (cI, 4, .inl gh))] := hD
                          generalize eg_91 : upd gu y_83.toNatClampNeg (vp_nar .boolean 1) = g_91 at hP hD
                          have hP : va_P D vwCl [(m3, .inl (cI, 16384, .inl gd)), (m13, .inl (cI, 4096, .inl gs)), (m4, .inl (cZ, 4096, .inl g_91)), (h0, .inr (9, [.ref m1, .ref m2, .ref m3, .int ik, .int wy, .int op, .int cl, .int cx0, .int cx1, .int cy0, .int cy1, .int ds, .ref m4, .ref m5, .ref m6, .ref m7, .ref m8, .ref m9, .int pn, .ref m10, .ref m11, .ref m12, .ref m13])), (m1, .inl (cI, 4, .inl gw)), (m2, .inl (cI, 4, .inl gh))] H := hP
                          have hD : va_D A [(m3, .inl (cI, 16384, .inl gd)), (m13, .inl (cI, 4096, .inl gs)), (m4, .inl (cZ, 4096, .inl g_91)), (h0, .inr (9, [.ref m1, .ref m2, .ref m3, .int ik, .int wy, .int op, .int cl, .int cx0, .int cx1, .int cy0, .int cy1, .int ds, .ref m4, .ref m5, .ref m6, .ref m7, .ref m8, .ref m9, .int pn, .ref m10, .ref m11, .ref m12, .ref m13])), (m1, .inl (cI, 4, .inl gw)), (m2, .inl (cI, 4, .inl gh))] := hD
                          have hmk : (rcI (opnJ (gw k.toNatClampNeg) (gh k.toNatClampNeg) cl cx0 cx1 cy0 cy1 ic) (fun t => gd (4096 * k.toNatClampNeg + t)) (gd (4096 * k.toNatClampNeg + ixP x y)) co (pX ((rcO (opnJ (gw k.toNatClampNeg) (gh k.toNatClampNeg) cl cx0 cx1 cy0 cy1 ic) (fun t => gd (4096 * k.toNatClampNeg + t)) (gd (4096 * k.toNatClampNeg + ixP x y)) co st1 dn).2.1 dn)) (pY ((rcO (opnJ (gw k.toNatClampNeg) (gh k.toNatClampNeg) cl cx0 cx1 cy0 cy1 ic) (fun t => gd (4096 * k.toNatClampNeg + t)) (gd (4096 * k.toNatClampNeg + ixP x y)) co st1 dn).2.1 dn)) (rcO (opnJ (gw k.toNatClampNeg) (gh k.toNatClampNeg) cl cx0 cx1 cy0 cy1 ic) (fun t => gd (4096 * k.toNatClampNeg + t)) (gd (4096 * k.toNatClampNeg + ixP x y)) co st1 dn) i).1 (ixP y_72 y_73) = 0 := by rw [← f3, ← hxcy_83]; exact c_84
                          have hixn : ixP y_72 y_73 < 4096 := ix_lt (by omega) (by omega) (by omega) (by omega)
                          have hcn2 : cntP (upd (rcI (opnJ (gw k.toNatClampNeg) (gh k.toNatClampNeg) cl cx0 cx1 cy0 cy1 ic) (fun t => gd (4096 * k.toNatClampNeg + t)) (gd (4096 * k.toNatClampNeg + ixP x y)) co (pX ((rcO (opnJ (gw k.toNatClampNeg) (gh k.toNatClampNeg) cl cx0 cx1 cy0 cy1 ic) (fun t => gd (4096 * k.toNatClampNeg + t)) (gd (4096 * k.toNatClampNeg + ixP x y)) co st1 dn).2.1 dn)) (pY ((rcO (opnJ (gw k.toNatClampNeg) (gh k.toNatClampNeg) cl cx0 cx1 cy0 cy1 ic) (fun t => gd (4096 * k.toNatClampNeg + t)) (gd (4096 * k.toNatClampNeg + ixP x y)) co st1 dn).2.1 dn)) (rcO (opnJ (gw k.toNatClampNeg) (gh k.toNatClampNeg) cl cx0 cx1 cy0 cy1 ic) (fun t => gd (4096 * k.toNatClampNeg + t)) (gd (4096 * k.toNatClampNeg + ixP x y)) co st1 dn) i).1 (ixP y_72 y_73) 1) 4096 = (rcI (opnJ (gw k.toNatClampNeg) (gh k.toNatClampNeg) cl cx0 cx1 cy0 cy1 ic) (fun t => gd (4096 * k.toNatClampNeg + t)) (gd (4096 * k.toNatClampNeg + ixP x y)) co (pX ((rcO (opnJ (gw k.toNatClampNeg) (gh k.toNatClampNeg) cl cx0 cx1 cy0 cy1 ic) (fun t => gd (4096 * k.toNatClampNeg + t)) (gd (4096 * k.toNatClampNeg + ixP x y)) co st1 dn).2.1 dn)) (pY ((rcO (opnJ (gw k.toNatClampNeg) (gh k.toNatClampNeg) cl cx0 cx1 cy0 cy1 ic) (fun t => gd (4096 * k.toNatClampNeg + t)) (gd (4096 * k.toNatClampNeg + ixP x y)) co st1 dn).2.1 dn)) (rcO (opnJ (gw k.toNatClampNeg) (gh k.toNatClampNeg) cl cx0 cx1 cy0 cy1 ic) (fun t => gd (4096 * k.toNatClampNeg + t)) (gd (4096 * k.toNatClampNeg + ixP x y)) co st1 dn) i).2.2 + 1 := by rw [cnt_up1 hixn hmk, fcn]
                          have hm2 : (rcI (opnJ (gw k.toNatClampNeg) (gh k.toNatClampNeg) cl cx0 cx1 cy0 cy1 ic) (fun t => gd (4096 * k.toNatClampNeg + t)) (gd (4096 * k.toNatClampNeg + ixP x y)) co (pX ((rcO (opnJ (gw k.toNatClampNeg) (gh k.toNatClampNeg) cl cx0 cx1 cy0 cy1 ic) (fun t => gd (4096 * k.toNatClampNeg + t)) (gd (4096 * k.toNatClampNeg + ixP x y)) co st1 dn).2.1 dn)) (pY ((rcO (opnJ (gw k.toNatClampNeg) (gh k.toNatClampNeg) cl cx0 cx1 cy0 cy1 ic) (fun t => gd (4096 * k.toNatClampNeg + t)) (gd (4096 * k.toNatClampNeg + ixP x y)) co st1 dn).2.1 dn)) (rcO (opnJ (gw k.toNatClampNeg) (gh k.toNatClampNeg) cl cx0 cx1 cy0 cy1 ic) (fun t => gd (4096 * k.toNatClampNeg + t)) (gd (4096 * k.toNatClampNeg + ixP x y)) co st1 dn) i).2.2 + 1 ≤ 4096 := by rw [← hcn2]; exact cntP_le _ _
                          refine lv_aload_n hx hb dX9_joins_223 rfl (lv_at hl 9 rfl) ?_
                          refine va_get (D := D) (ci := 9) (v := .ref m13) (C := RX9) (T := TX9) (N := 23) hx hb hts hi_X9 hown hK hP 3 rfl rfl 22 (by decide) (hts _ bw_413) (fun _ h9 => h9) rfl dX9_joins_224 ?_
                          refine lv_iload hx hb dX9_joins_227 (lv_at hl 7 rfl) ?_
                          refine lv_iload hx hb dX9_joins_229 (lv_at hl 0 rfl) ?_
                          refine va_iast hx hb hK hP hD hS 1 0 rfl rfl (vp_in_iff.mpr ⟨by omega, by omega⟩) dX9_joins_231 (fun H locs hP hD hS => ?_)
                          have hP : va_P D vwCl [(m3, .inl (cI, 16384, .inl gd)), (m13, .inl (cI, 4096, .inl (upd gs z7.toNatClampNeg y_83))), (m4, .inl (cZ, 4096, .inl g_91)), (h0, .inr (9, [.ref m1, .ref m2, .ref m3, .int ik, .int wy, .int op, .int cl, .int cx0, .int cx1, .int cy0, .int cy1, .int ds, .ref m4, .ref m5, .ref m6, .ref m7, .ref m8, .ref m9, .int pn, .ref m10, .ref m11, .ref m12, .ref m13])), (m1, .inl (cI, 4, .inl gw)), (m2, .inl (cI, 4, .inl gh))] H := hP
                          have hD : va_D A [(m3, .inl (cI, 16384, .inl gd)), (m13, .inl (cI, 4096, .inl (upd gs z7.toNatClampNeg y_83))), (m4, .inl (cZ, 4096, .inl g_91)), (h0, .inr (9, [.ref m1, .ref m2, .ref m3, .int ik, .int wy, .int op, .int cl, .int cx0, .int cx1, .int cy0, .int cy1, .int ds, .ref m4, .ref m5, .ref m6, .ref m7, .ref m8, .ref m9, .int pn, .ref m10, .ref m11, .ref m12, .ref m13])), (m1, .inl (cI, 4, .inl gw)), (m2, .inl (cI, 4, .inl gh))] := hD
                          generalize eg_92 : upd gs z7.toNatClampNeg y_83 = g_92 at hP hD
                          have hP : va_P D vwCl [(m3, .inl (cI, 16384, .inl gd)), (m13, .inl (cI, 4096, .inl g_92)), (m4, .inl (cZ, 4096, .inl g_91)), (h0, .inr (9, [.ref m1, .ref m2, .ref m3, .int ik, .int wy, .int op, .int cl, .int cx0, .int cx1, .int cy0, .int cy1, .int ds, .ref m4, .ref m5, .ref m6, .ref m7, .ref m8, .ref m9, .int pn, .ref m10, .ref m11, .ref m12, .ref m13])), (m1, .inl (cI, 4, .inl gw)), (m2, .inl (cI, 4, .inl gh))] H := hP
                          have hD : va_D A [(m3, .inl (cI, 16384, .inl gd)), (m13, .inl (cI, 4096, .inl g_92)), (m4, .inl (cZ, 4096, .inl g_91)), (h0, .inr (9, [.ref m1, .ref m2, .ref m3, .int ik, .int wy, .int op, .int cl, .int cx0, .int cx1, .int cy0, .int cy1, .int ds, .ref m4, .ref m5, .ref m6, .ref m7, .ref m8, .ref m9, .int pn, .ref m10, .ref m11, .ref m12, .ref m13])), (m1, .inl (cI, 4, .inl gw)), (m2, .inl (cI, 4, .inl gh))] := hD
                          refine lv_iload hx hb dX9_joins_232 (lv_at hl 7 rfl) ?_
                          refine lv_iconst (v := 1) hx hb dX9_joins_234 (by decide) ?_
                          refine lv_iadd hx hb dX9_joins_235 ?_
                          refine lv_topi (fun y_93 ey_93 => ?_)
                          refine lv_istore (lv' := [(7, .int y_93), (14, .int y_83), (13, .int y_21), (12, .int y_19), (11, .int x11), (8, .int y_13), (10, .int y_12), (9, .int y_11), (6, .int (gd (4096 * k.toNatClampNeg + ixP x y))), (0, .ref h0), (1, .int k), (2, .int x), (3, .int y), (4, .int co), (5, .int ic)]) hx hb dX9_joins_236 hl (by decide) rfl (fun ls hl => ?_)
                          obtain ⟨y_94, ey_94⟩ : ∃ y : Int32, y = x11 + 1 := ⟨_, rfl⟩
                          refine lv_iinc (v := y_94) (lv' := [(11, .int y_94), (7, .int y_93), (14, .int y_83), (13, .int y_21), (12, .int y_19), (8, .int y_13), (10, .int y_12), (9, .int y_11), (6, .int (gd (4096 * k.toNatClampNeg + ixP x y))), (0, .ref h0), (1, .int k), (2, .int x), (3, .int y), (4, .int co), (5, .int ic)]) hx hb dX9_joins_238 hl (k := 4) rfl (by rw [ey_94]; rfl) (by decide) rfl (fun ls hl => ?_)
                          refine lv_goto (tgt := 87) hx hb dX9_joins_241 (by decide) ?_
                          have hS1 : (rcI (opnJ (gw k.toNatClampNeg) (gh k.toNatClampNeg) cl cx0 cx1 cy0 cy1 ic) (fun t => gd (4096 * k.toNatClampNeg + t)) (gd (4096 * k.toNatClampNeg + ixP x y)) co (pX ((rcO (opnJ (gw k.toNatClampNeg) (gh k.toNatClampNeg) cl cx0 cx1 cy0 cy1 ic) (fun t => gd (4096 * k.toNatClampNeg + t)) (gd (4096 * k.toNatClampNeg + ixP x y)) co st1 dn).2.1 dn)) (pY ((rcO (opnJ (gw k.toNatClampNeg) (gh k.toNatClampNeg) cl cx0 cx1 cy0 cy1 ic) (fun t => gd (4096 * k.toNatClampNeg + t)) (gd (4096 * k.toNatClampNeg + ixP x y)) co st1 dn).2.1 dn)) (rcO (opnJ (gw k.toNatClampNeg) (gh k.toNatClampNeg) cl cx0 cx1 cy0 cy1 ic) (fun t => gd (4096 * k.toNatClampNeg + t)) (gd (4096 * k.toNatClampNeg + ixP x y)) co st1 dn) (i + 1)) = rcS (opnJ (gw k.toNatClampNeg) (gh k.toNatClampNeg) cl cx0 cx1 cy0 cy1 ic) (fun t => gd (4096 * k.toNatClampNeg + t)) (gd (4096 * k.toNatClampNeg + ixP x y)) y_72 y_73 (rcI (opnJ (gw k.toNatClampNeg) (gh k.toNatClampNeg) cl cx0 cx1 cy0 cy1 ic) (fun t => gd (4096 * k.toNatClampNeg + t)) (gd (4096 * k.toNatClampNeg + ixP x y)) co (pX ((rcO (opnJ (gw k.toNatClampNeg) (gh k.toNatClampNeg) cl cx0 cx1 cy0 cy1 ic) (fun t => gd (4096 * k.toNatClampNeg + t)) (gd (4096 * k.toNatClampNeg + ixP x y)) co st1 dn).2.1 dn)) (pY ((rcO (opnJ (gw k.toNatClampNeg) (gh k.toNatClampNeg) cl cx0 cx1 cy0 cy1 ic) (fun t => gd (4096 * k.toNatClampNeg + t)) (gd (4096 * k.toNatClampNeg + ixP x y)) co st1 dn).2.1 dn)) (rcO (opnJ (gw k.toNatClampNeg) (gh k.toNatClampNeg) cl cx0 cx1 cy0 cy1 ic) (fun t => gd (4096 * k.toNatClampNeg + t)) (gd (4096 * k.toNatClampNeg + ixP x y)) co st1 dn) i) := by rw [hay_72, hay_73]; exact if_pos (Or.inr (Or.inl (hdy_19.symm.trans c_70)))
                          have hSt : (rcI (opnJ (gw k.toNatClampNeg) (gh k.toNatClampNeg) cl cx0 cx1 cy0 cy1 ic) (fun t => gd (4096 * k.toNatClampNeg + t)) (gd (4096 * k.toNatClampNeg + ixP x y)) co (pX ((rcO (opnJ (gw k.toNatClampNeg) (gh k.toNatClampNeg) cl cx0 cx1 cy0 cy1 ic) (fun t => gd (4096 * k.toNatClampNeg + t)) (gd (4096 * k.toNatClampNeg + ixP x y)) co st1 dn).2.1 dn)) (pY ((rcO (opnJ (gw k.toNatClampNeg) (gh k.toNatClampNeg) cl cx0 cx1 cy0 cy1 ic) (fun t => gd (4096 * k.toNatClampNeg + t)) (gd (4096 * k.toNatClampNeg + ixP x y)) co st1 dn).2.1 dn)) (rcO (opnJ (gw k.toNatClampNeg) (gh k.toNatClampNeg) cl cx0 cx1 cy0 cy1 ic) (fun t => gd (4096 * k.toNatClampNeg + t)) (gd (4096 * k.toNatClampNeg + ixP x y)) co st1 dn) (i + 1)) = (upd (rcI (opnJ (gw k.toNatClampNeg) (gh k.toNatClampNeg) cl cx0 cx1 cy0 cy1 ic) (fun t => gd (4096 * k.toNatClampNeg + t)) (gd (4096 * k.toNatClampNeg + ixP x y)) co (pX ((rcO (opnJ (gw k.toNatClampNeg) (gh k.toNatClampNeg) cl cx0 cx1 cy0 cy1 ic) (fun t => gd (4096 * k.toNatClampNeg + t)) (gd (4096 * k.toNatClampNeg + ixP x y)) co st1 dn).2.1 dn)) (pY ((rcO (opnJ (gw k.toNatClampNeg) (gh k.toNatClampNeg) cl cx0 cx1 cy0 cy1 ic) (fun t => gd (4096 * k.toNatClampNeg + t)) (gd (4096 * k.toNatClampNeg + ixP x y)) co st1 dn).2.1 dn)) (rcO (opnJ (gw k.toNatClampNeg) (gh k.toNatClampNeg) cl cx0 cx1 cy0 cy1 ic) (fun t => gd (4096 * k.toNatClampNeg + t)) (gd (4096 * k.toNatClampNeg + ixP x y)) co st1 dn) i).1 (ixP y_72 y_73) 1, upd (rcI (opnJ (gw k.toNatClampNeg) (gh k.toNatClampNeg) cl cx0 cx1 cy0 cy1 ic) (fun t => gd (4096 * k.toNatClampNeg + t)) (gd (4096 * k.toNatClampNeg + ixP x y)) co (pX ((rcO (opnJ (gw k.toNatClampNeg) (gh k.toNatClampNeg) cl cx0 cx1 cy0 cy1 ic) (fun t => gd (4096 * k.toNatClampNeg + t)) (gd (4096 * k.toNatClampNeg + ixP x y)) co st1 dn).2.1 dn)) (pY ((rcO (opnJ (gw k.toNatClampNeg) (gh k.toNatClampNeg) cl cx0 cx1 cy0 cy1 ic) (fun t => gd (4096 * k.toNatClampNeg + t)) (gd (4096 * k.toNatClampNeg + ixP x y)) co st1 dn).2.1 dn)) (rcO (opnJ (gw k.toNatClampNeg) (gh k.toNatClampNeg) cl cx0 cx1 cy0 cy1 ic) (fun t => gd (4096 * k.toNatClampNeg + t)) (gd (4096 * k.toNatClampNeg + ixP x y)) co st1 dn) i).2.1 (rcI (opnJ (gw k.toNatClampNeg) (gh k.toNatClampNeg) cl cx0 cx1 cy0 cy1 ic) (fun t => gd (4096 * k.toNatClampNeg + t)) (gd (4096 * k.toNatClampNeg + ixP x y)) co (pX ((rcO (opnJ (gw k.toNatClampNeg) (gh k.toNatClampNeg) cl cx0 cx1 cy0 cy1 ic) (fun t => gd (4096 * k.toNatClampNeg + t)) (gd (4096 * k.toNatClampNeg + ixP x y)) co st1 dn).2.1 dn)) (pY ((rcO (opnJ (gw k.toNatClampNeg) (gh k.toNatClampNeg) cl cx0 cx1 cy0 cy1 ic) (fun t => gd (4096 * k.toNatClampNeg + t)) (gd (4096 * k.toNatClampNeg + ixP x y)) co st1 dn).2.1 dn)) (rcO (opnJ (gw k.toNatClampNeg) (gh k.toNatClampNeg) cl cx0 cx1 cy0 cy1 ic) (fun t => gd (4096 * k.toNatClampNeg + t)) (gd (4096 * k.toNatClampNeg + ixP x y)) co st1 dn) i).2.2 (nI (ixP y_72 y_73)), (rcI (opnJ (gw k.toNatClampNeg) (gh k.toNatClampNeg) cl cx0 cx1 cy0 cy1 ic) (fun t => gd (4096 * k.toNatClampNeg + t)) (gd (4096 * k.toNatClampNeg + ixP x y)) co (pX ((rcO (opnJ (gw k.toNatClampNeg) (gh k.toNatClampNeg) cl cx0 cx1 cy0 cy1 ic) (fun t => gd (4096 * k.toNatClampNeg + t)) (gd (4096 * k.toNatClampNeg + ixP x y)) co st1 dn).2.1 dn)) (pY ((rcO (opnJ (gw k.toNatClampNeg) (gh k.toNatClampNeg) cl cx0 cx1 cy0 cy1 ic) (fun t => gd (4096 * k.toNatClampNeg + t)) (gd (4096 * k.toNatClampNeg + ixP x y)) co st1 dn).2.1 dn)) (rcO (opnJ (gw k.toNatClampNeg) (gh k.toNatClampNeg) cl cx0 cx1 cy0 cy1 ic) (fun t => gd (4096 * k.toNatClampNeg + t)) (gd (4096 * k.toNatClampNeg + ixP x y)) co st1 dn) i).2.2 + 1) := hS1.trans (if_pos ⟨⟨⟨f_76, Or.inl c_78⟩, c_89⟩, hmk, by omega⟩)
                          exact ih_15 (i + 1) y_94 y_93 g_91 g_92 _ _ _ (by omega) (by omega) (by rw [ey_94, ex_i]; exact nI_1 i) (by rw [hSt, ey_93, f7]; exact nI_1 _) (by rw [hSt, ← eg_91, f3, hxcy_83]; rfl) (by rw [hSt, ← eg_92, f2, hixy_83, show z7.toNatClampNeg = (rcI (opnJ (gw k.toNatClampNeg) (gh k.toNatClampNeg) cl cx0 cx1 cy0 cy1 ic) (fun t => gd (4096 * k.toNatClampNeg + t)) (gd (4096 * k.toNatClampNeg + ixP x y)) co (pX ((rcO (opnJ (gw k.toNatClampNeg) (gh k.toNatClampNeg) cl cx0 cx1 cy0 cy1 ic) (fun t => gd (4096 * k.toNatClampNeg + t)) (gd (4096 * k.toNatClampNeg + ixP x y)) co st1 dn).2.1 dn)) (pY ((rcO (opnJ (gw k.toNatClampNeg) (gh k.toNatClampNeg) cl cx0 cx1 cy0 cy1 ic) (fun t => gd (4096 * k.toNatClampNeg + t)) (gd (4096 * k.toNatClampNeg + ixP x y)) co st1 dn).2.1 dn)) (rcO (opnJ (gw k.toNatClampNeg) (gh k.toNatClampNeg) cl cx0 cx1 cy0 cy1 ic) (fun t => gd (4096 * k.toNatClampNeg + t)) (gd (4096 * k.toNatClampNeg + ixP x y)) co st1 dn) i).2.2 by rw [f7]; exact nI_clamp (by omega)]) (by rw [hSt]; exact hcn2) (hP.sub (ws' := [(m1, .inl (cI, 4, .inl gw)), (m2, .inl (cI, 4, .inl gh)), (m3, .inl (cI, 16384, .inl gd)), (m13, .inl (cI, 4096, .inl g_92)), (h0, .inr (9, [.ref m1, .ref m2, .ref m3, .int ik, .int wy, .int op, .int cl, .int cx0, .int cx1, .int cy0, .int cy1, .int ds, .ref m4, .ref m5, .ref m6, .ref m7, .ref m8, .ref m9, .int pn, .ref m10, .ref m11, .ref m12, .ref m13])), (m4, .inl (cZ, 4096, .inl g_91))]) [4, 5, 0, 1, 3, 2] rfl) (hD.sub (ws' := [(m1, .inl (cI, 4, .inl gw)), (m2, .inl (cI, 4, .inl gh)), (m3, .inl (cI, 16384, .inl gd)), (m13, .inl (cI, 4096, .inl g_92)), (h0, .inr (9, [.ref m1, .ref m2, .ref m3, .int ik, .int wy, .int op, .int cl, .int cx0, .int cx1, .int cy0, .int cy1, .int ds, .ref m4, .ref m5, .ref m6, .ref m7, .ref m8, .ref m9, .int pn, .ref m10, .ref m11, .ref m12, .ref m13])), (m4, .inl (cZ, 4096, .inl g_91))]) [4, 5, 0, 1, 3, 2] (by decide) rfl) hS (lv_sub hl [0, 5, 6, 7, 1, 8, 9, 10, 11, 12, 13, 14] rfl)
                        · skip
                          have f_90 : ¬ ((gd (4096 * k.toNatClampNeg + ixP y_72 y_73)).toInt = (gd (4096 * k.toNatClampNeg + ixP x y)).toInt) := fn_eq rfl rfl c_89
                          refine lv_goto (tgt := 238) hx hb dX9_joins_212 (by decide) ?_
                          obtain ⟨y_95, ey_95⟩ : ∃ y : Int32, y = x11 + 1 := ⟨_, rfl⟩
                          refine lv_iinc (v := y_95) (lv' := [(11, .int y_95), (14, .int y_83), (13, .int y_21), (12, .int y_19), (8, .int y_13), (10, .int y_12), (9, .int y_11), (7, .int z7), (6, .int (gd (4096 * k.toNatClampNeg + ixP x y))), (0, .ref h0), (1, .int k), (2, .int x), (3, .int y), (4, .int co), (5, .int ic)]) hx hb dX9_joins_238 hl (k := 3) rfl (by rw [ey_95]; rfl) (by decide) rfl (fun ls hl => ?_)
                          refine lv_goto (tgt := 87) hx hb dX9_joins_241 (by decide) ?_
                          have hS1 : (rcI (opnJ (gw k.toNatClampNeg) (gh k.toNatClampNeg) cl cx0 cx1 cy0 cy1 ic) (fun t => gd (4096 * k.toNatClampNeg + t)) (gd (4096 * k.toNatClampNeg + ixP x y)) co (pX ((rcO (opnJ (gw k.toNatClampNeg) (gh k.toNatClampNeg) cl cx0 cx1 cy0 cy1 ic) (fun t => gd (4096 * k.toNatClampNeg + t)) (gd (4096 * k.toNatClampNeg + ixP x y)) co st1 dn).2.1 dn)) (pY ((rcO (opnJ (gw k.toNatClampNeg) (gh k.toNatClampNeg) cl cx0 cx1 cy0 cy1 ic) (fun t => gd (4096 * k.toNatClampNeg + t)) (gd (4096 * k.toNatClampNeg + ixP x y)) co st1 dn).2.1 dn)) (rcO (opnJ (gw k.toNatClampNeg) (gh k.toNatClampNeg) cl cx0 cx1 cy0 cy1 ic) (fun t => gd (4096 * k.toNatClampNeg + t)) (gd (4096 * k.toNatClampNeg + ixP x y)) co st1 dn) (i + 1)) = rcS (opnJ (gw k.toNatClampNeg) (gh k.toNatClampNeg) cl cx0 cx1 cy0 cy1 ic) (fun t => gd (4096 * k.toNatClampNeg + t)) (gd (4096 * k.toNatClampNeg + ixP x y)) y_72 y_73 (rcI (opnJ (gw k.toNatClampNeg) (gh k.toNatClampNeg) cl cx0 cx1 cy0 cy1 ic) (fun t => gd (4096 * k.toNatClampNeg + t)) (gd (4096 * k.toNatClampNeg + ixP x y)) co (pX ((rcO (opnJ (gw k.toNatClampNeg) (gh k.toNatClampNeg) cl cx0 cx1 cy0 cy1 ic) (fun t => gd (4096 * k.toNatClampNeg + t)) (gd (4096 * k.toNatClampNeg + ixP x y)) co st1 dn).2.1 dn)) (pY ((rcO (opnJ (gw k.toNatClampNeg) (gh k.toNatClampNeg) cl cx0 cx1 cy0 cy1 ic) (fun t => gd (4096 * k.toNatClampNeg + t)) (gd (4096 * k.toNatClampNeg + ixP x y)) co st1 dn).2.1 dn)) (rcO (opnJ (gw k.toNatClampNeg) (gh k.toNatClampNeg) cl cx0 cx1 cy0 cy1 ic) (fun t => gd (4096 * k.toNatClampNeg + t)) (gd (4096 * k.toNatClampNeg + ixP x y)) co st1 dn) i) := by rw [hay_72, hay_73]; exact if_pos (Or.inr (Or.inl (hdy_19.symm.trans c_70)))
                          have hSt : (rcI (opnJ (gw k.toNatClampNeg) (gh k.toNatClampNeg) cl cx0 cx1 cy0 cy1 ic) (fun t => gd (4096 * k.toNatClampNeg + t)) (gd (4096 * k.toNatClampNeg + ixP x y)) co (pX ((rcO (opnJ (gw k.toNatClampNeg) (gh k.toNatClampNeg) cl cx0 cx1 cy0 cy1 ic) (fun t => gd (4096 * k.toNatClampNeg + t)) (gd (4096 * k.toNatClampNeg + ixP x y)) co st1 dn).2.1 dn)) (pY ((rcO (opnJ (gw k.toNatClampNeg) (gh k.toNatClampNeg) cl cx0 cx1 cy0 cy1 ic) (fun t => gd (4096 * k.toNatClampNeg + t)) (gd (4096 * k.toNatClampNeg + ixP x y)) co st1 dn).2.1 dn)) (rcO (opnJ (gw k.toNatClampNeg) (gh k.toNatClampNeg) cl cx0 cx1 cy0 cy1 ic) (fun t => gd (4096 * k.toNatClampNeg + t)) (gd (4096 * k.toNatClampNeg + ixP x y)) co st1 dn) (i + 1)) = (rcI (opnJ (gw k.toNatClampNeg) (gh k.toNatClampNeg) cl cx0 cx1 cy0 cy1 ic) (fun t => gd (4096 * k.toNatClampNeg + t)) (gd (4096 * k.toNatClampNeg + ixP x y)) co (pX ((rcO (opnJ (gw k.toNatClampNeg) (gh k.toNatClampNeg) cl cx0 cx1 cy0 cy1 ic) (fun t => gd (4096 * k.toNatClampNeg + t)) (gd (4096 * k.toNatClampNeg + ixP x y)) co st1 dn).2.1 dn)) (pY ((rcO (opnJ (gw k.toNatClampNeg) (gh k.toNatClampNeg) cl cx0 cx1 cy0 cy1 ic) (fun t => gd (4096 * k.toNatClampNeg + t)) (gd (4096 * k.toNatClampNeg + ixP x y)) co st1 dn).2.1 dn)) (rcO (opnJ (gw k.toNatClampNeg) (gh k.toNatClampNeg) cl cx0 cx1 cy0 cy1 ic) (fun t => gd (4096 * k.toNatClampNeg + t)) (gd (4096 * k.toNatClampNeg + ixP x y)) co st1 dn) i) := hS1.trans (if_neg (fun q => c_89 q.1.2))
                          exact ih_15 (i + 1) y_95 z7 gu gs _ _ _ (by omega) (by omega) (by rw [ey_95, ex_i]; exact nI_1 i) (by rw [hSt]; exact f7) (by rw [hSt]; exact f3) (by rw [hSt]; exact f2) (by rw [hSt]; exact fcn) (hP.sub (ws' := [(m1, .inl (cI, 4, .inl gw)), (m2, .inl (cI, 4, .inl gh)), (m3, .inl (cI, 16384, .inl gd)), (m13, .inl (cI, 4096, .inl gs)), (h0, .inr (9, [.ref m1, .ref m2, .ref m3, .int ik, .int wy, .int op, .int cl, .int cx0, .int cx1, .int cy0, .int cy1, .int ds, .ref m4, .ref m5, .ref m6, .ref m7, .ref m8, .ref m9, .int pn, .ref m10, .ref m11, .ref m12, .ref m13])), (m4, .inl (cZ, 4096, .inl gu))]) [4, 5, 0, 1, 3, 2] rfl) (hD.sub (ws' := [(m1, .inl (cI, 4, .inl gw)), (m2, .inl (cI, 4, .inl gh)), (m3, .inl (cI, 16384, .inl gd)), (m13, .inl (cI, 4096, .inl gs)), (h0, .inr (9, [.ref m1, .ref m2, .ref m3, .int ik, .int wy, .int op, .int cl, .int cx0, .int cx1, .int cy0, .int cy1, .int ds, .ref m4, .ref m5, .ref m6, .ref m7, .ref m8, .ref m9, .int pn, .ref m10, .ref m11, .ref m12, .ref m13])), (m4, .inl (cZ, 4096, .inl gu))]) [4, 5, 0, 1, 3, 2] (by decide) rfl) hS (lv_sub hl [0, 4, 5, 6, 7, 8, 9, 10, 11, 12, 13, 14] rfl)
                    · skip
                      have f_79 : ¬ (ic.toInt = 0) := fn_eq rfl (by decide) c_78
                      refine lv_aload_n hx hb dX9_joins_148 rfl (lv_at hl 8 rfl) ?_
                      refine lv_iload hx hb dX9_joins_149 (lv_at hl 5 rfl) ?_
                      refine lv_iload hx hb dX9_joins_151 (lv_at hl 1 rfl) ?_
                      refine lv_iadd hx hb dX9_joins_153 ?_
                      refine lv_topi (fun y_96 ey_96 => ?_)
                      have hay_96 : y_96 = pX ((rcO (opnJ (gw k.toNatClampNeg) (gh k.toNatClampNeg) cl cx0 cx1 cy0 cy1 ic) (fun t => gd (4096 * k.toNatClampNeg + t)) (gd (4096 * k.toNatClampNeg + ixP x y)) co st1 dn).2.1 dn) + dX i := by rw [ey_96, hp9, hdy_19]
                      refine lv_iload hx hb dX9_joins_154 (lv_at hl 4 rfl) ?_
                      refine lv_iload hx hb dX9_joins_156 (lv_at hl 0 rfl) ?_
                      refine lv_iadd hx hb dX9_joins_158 ?_
                      refine lv_topi (fun y_97 ey_97 => ?_)
                      have hay_97 : y_97 = pY ((rcO (opnJ (gw k.toNatClampNeg) (gh k.toNatClampNeg) cl cx0 cx1 cy0 cy1 ic) (fun t => gd (4096 * k.toNatClampNeg + t)) (gd (4096 * k.toNatClampNeg + ixP x y)) co st1 dn).2.1 dn) + dY i := by rw [ey_97, hp10, hdy_21]
                      have hPc := hP.sub (ws' := [(h0, .inr (9, [.ref m1, .ref m2, .ref m3, .int ik, .int wy, .int op, .int cl, .int cx0, .int cx1, .int cy0, .int cy1, .int ds, .ref m4, .ref m5, .ref m6, .ref m7, .ref m8, .ref m9, .int pn, .ref m10, .ref m11, .ref m12, .ref m13]))]) [3] rfl
                      have hDc := hD.sub (ws' := [(h0, .inr (9, [.ref m1, .ref m2, .ref m3, .int ik, .int wy, .int op, .int cl, .int cx0, .int cx1, .int cy0, .int cy1, .int ds, .ref m4, .ref m5, .ref m6, .ref m7, .ref m8, .ref m9, .int pn, .ref m10, .ref m11, .ref m12, .ref m13]))]) [3] (by decide) rfl
                      have hKc := hK.sub (tys' := []) [] rfl
                      have hFc := va_free (wc := [(h0, .inr (9, [.ref m1, .ref m2, .ref m3, .int ik, .int wy, .int op, .int cl, .int cx0, .int cx1, .int cy0, .int cy1, .int ds, .ref m4, .ref m5, .ref m6, .ref m7, .ref m8, .ref m9, .int pn, .ref m10, .ref m11, .ref m12, .ref m13]))]) hD hS hA [3] rfl
                      refine va_calli (va_runV (As := [.int y_96, .int y_97]) (rest := []) ⟨hx, hb, hml, hown, hts⟩ (k_X9_isInClip l D H.size h0 m1 m2 m3 m4 m5 m6 m7 m8 m9 m10 m11 m12 m13 ik wy op cl cx0 cx1 cy0 cy1 ds pn y_96 y_97) (cwV 2 hts (gV bw_434 bw_423 bw_424 bw_391 bw_422) rfl rfl rfl (by decide +kernel) ⟨(by rw [hR]; exact Nat.le_of_ble_eq_true rfl), (by rw [hR]; exact Nat.le_of_ble_eq_true rfl)⟩) ⟨cP_blind, va_recv hKc hPc (ci := 9) (q0 := 0) rfl rfl, cP_at hPc hKc hDc hN⟩ rfl rfl hl.1 rfl (lv_room (Nat.le_of_ble_eq_true rfl)) dX9_joins_159 ⟨(by rw [hR]; exact Nat.le_of_ble_eq_true rfl), (by rw [hR]; exact Nat.le_of_ble_eq_true rfl)⟩) hS (fun q _ h => hFc q h) hFc (fun r_98 u9 t9 H1 locs ht hvm hr_98 hB hz1 hk1 hS => ?_)
                      try dsimp only at hr_98
                      obtain ⟨hP1, hK1, hD1⟩ := hB
                      rw [ht] at hP1
                      obtain ⟨hP, hD⟩ := va_join (wr := [(m3, .inl (cI, 16384, .inl gd)), (m13, .inl (cI, 4096, .inl gs)), (m4, .inl (cZ, 4096, .inl gu)), (m1, .inl (cI, 4, .inl gw)), (m2, .inl (cI, 4, .inl gh))]) (w1 := [(h0, .inr (9, [.ref m1, .ref m2, .ref m3, .int ik, .int wy, .int op, .int cl, .int cx0, .int cx1, .int cy0, .int cy1, .int ds, .ref m4, .ref m5, .ref m6, .ref m7, .ref m8, .ref m9, .int pn, .ref m10, .ref m11, .ref m12, .ref m13]))]) hP hD [3] [0, 1, 2, 4, 5] rfl rfl (by decide) (by decide) hk1 hFc hP1 hD1
                      clear hz1 hk1 hFc hKc hDc hPc
                      generalize H1 = H at hP hS ⊢
                      have hP : va_P D vwCl [(m3, .inl (cI, 16384, .inl gd)), (m13, .inl (cI, 4096, .inl gs)), (m4, .inl (cZ, 4096, .inl gu)), (m1, .inl (cI, 4, .inl gw)), (m2, .inl (cI, 4, .inl gh)), (h0, .inr (9, [.ref m1, .ref m2, .ref m3, .int ik, .int wy, .int op, .int cl, .int cx0, .int cx1, .int cy0, .int cy1, .int ds, .ref m4, .ref m5, .ref m6, .ref m7, .ref m8, .ref m9, .int pn, .ref m10, .ref m11, .ref m12, .ref m13]))] H := hP
                      have hD : va_D A [(m3, .inl (cI, 16384, .inl gd)), (m13, .inl (cI, 4096, .inl gs)), (m4, .inl (cZ, 4096, .inl gu)), (m1, .inl (cI, 4, .inl gw)), (m2, .inl (cI, 4, .inl gh)), (h0, .inr (9, [.ref m1, .ref m2, .ref m3, .int ik, .int wy, .int op, .int cl, .int cx0, .int cx1, .int cy0, .int cy1, .int ds, .ref m4, .ref m5, .ref m6, .ref m7, .ref m8, .ref m9, .int pn, .ref m10, .ref m11, .ref m12, .ref m13]))] := hD
                      have hcqx : y_96 = y_72 := by rw [ey_96, ey_72]
                      have hcqy : y_97 = y_73 := by rw [ey_97, ey_73]
                      rw [hcqx, hcqy] at hr_98
                      refine lv_if_ne (tgt := 168) hx hb dX9_joins_162 (by decide) (fun c_99 => ?_) (fun c_99 => ?_)
                      · skip
                        have f_100 := bz1 hr_98 c_99
                        refine lv_bipush (v := 64) hx hb dX9_joins_168 (by decide) ?_
                        refine lv_iload hx hb dX9_joins_170 (lv_at hl 4 rfl) ?_
                        refine lv_iload hx hb dX9_joins_172 (lv_at hl 0 rfl) ?_
                        refine lv_iadd hx hb dX9_joins_174 ?_
                        refine lv_topi (fun y_101 ey_101 => ?_)
                        have hay_101 : y_101 = pY ((rcO (opnJ (gw k.toNatClampNeg) (gh k.toNatClampNeg) cl cx0 cx1 cy0 cy1 ic) (fun t => gd (4096 * k.toNatClampNeg + t)) (gd (4096 * k.toNatClampNeg + ixP x y)) co st1 dn).2.1 dn) + dY i := by rw [ey_101, hp10, hdy_21]
                        refine lv_imul hx hb dX9_joins_175 ?_
                        refine lv_topi (fun y_102 ey_102 => ?_)
                        refine lv_iload hx hb dX9_joins_176 (lv_at hl 5 rfl) ?_
                        refine lv_iadd hx hb dX9_joins_178 ?_
                        refine lv_topi (fun y_103 ey_103 => ?_)
                        refine lv_iload hx hb dX9_joins_179 (lv_at hl 1 rfl) ?_
                        refine lv_iadd hx hb dX9_joins_181 ?_
                        refine lv_topi (fun y_104 ey_104 => ?_)
                        have htoy_104 : y_104 = 64 * y_73 + y_72 := by rw [ey_104, ey_103, ey_102, ey_101, ey_73, ey_72, Int32.add_assoc]
                        have hiny_104 : vp_in y_104 4096 := by rw [htoy_104]; exact ix_in2 (by omega) (by omega) (by omega) (by omega)
                        have hixy_104 : y_104 = nI (ixP y_72 y_73) := by rw [htoy_104]; exact ix_nI2 (by omega) (by omega) (by omega) (by omega)
                        have hxcy_104 : y_104.toNatClampNeg = ixP y_72 y_73 := by rw [hixy_104]; exact nI_clamp (by have := ix_lt (x := y_72) (y := y_73) (by omega) (by omega) (by omega) (by omega); omega)
                        refine lv_istore (lv' := [(14, .int y_104), (13, .int y_21), (12, .int y_19), (11, .int x11), (8, .int y_13), (10, .int y_12), (9, .int y_11), (7, .int z7), (6, .int (gd (4096 * k.toNatClampNeg + ixP x y))), (0, .ref h0), (1, .int k), (2, .int x), (3, .int y), (4, .int co), (5, .int ic)]) hx hb dX9_joins_182 hl (by decide) rfl (fun ls hl => ?_)
                        refine lv_aload_n hx hb dX9_joins_184 rfl (lv_at hl 9 rfl) ?_
                        refine va_get (D := D) (ci := 9) (v := .ref m4) (C := RX9) (T := TX9) (N := 23) hx hb hts hi_X9 hown hK hP 5 rfl rfl 12 (by decide) (hts _ bw_404) (fun _ h9 => h9) rfl dX9_joins_185 ?_
                        refine lv_iload hx hb dX9_joins_188 (lv_at hl 0 rfl) ?_
                        refine va_zald hx hb hK hP 2 1 rfl rfl hiny_104 dX9_joins_190 ?_
                        refine lv_if_ne (tgt := 238) hx hb dX9_joins_191 (by decide) (fun c_105 => ?_) (fun c_105 => ?_)
                        · skip
                          have f_106 : ¬ ((gu y_104.toNatClampNeg).toInt = 0) := fn_eq rfl (by decide) c_105
                          obtain ⟨y_107, ey_107⟩ : ∃ y : Int32, y = x11 + 1 := ⟨_, rfl⟩
                          refine lv_iinc (v := y_107) (lv' := [(11, .int y_107), (14, .int y_104), (13, .int y_21), (12, .int y_19), (8, .int y_13), (10, .int y_12), (9, .int y_11), (7, .int z7), (6, .int (gd (4096 * k.toNatClampNeg + ixP x y))), (0, .ref h0), (1, .int k), (2, .int x), (3, .int y), (4, .int co), (5, .int ic)]) hx hb dX9_joins_238 hl (k := 3) rfl (by rw [ey_107]; rfl) (by decide) rfl (fun ls hl => ?_)
                          refine lv_goto (tgt := 87) hx hb dX9_joins_241 (by decide) ?_
                          have hS1 : (rcI (opnJ (gw k.toNatClampNeg) (gh k.toNatClampNeg) cl cx0 cx1 cy0 cy1 ic) (fun t => gd (4096 * k.toNatClampNeg + t)) (gd (4096 * k.toNatClampNeg + ixP x y)) co (pX ((rcO (opnJ (gw k.toNatClampNeg) (gh k.toNatClampNeg) cl cx0 cx1 cy0 cy1 ic) (fun t => gd (4096 * k.toNatClampNeg + t)) (gd (4096 * k.toNatClampNeg + ixP x y)) co st1 dn).2.1 dn)) (pY ((rcO (opnJ (gw k.toNatClampNeg) (gh k.toNatClampNeg) cl cx0 cx1 cy0 cy1 ic) (fun t => gd (4096 * k.toNatClampNeg + t)) (gd (4096 * k.toNatClampNeg + ixP x y)) co st1 dn).2.1 dn)) (rcO (opnJ (gw k.toNatClampNeg) (gh k.toNatClampNeg) cl cx0 cx1 cy0 cy1 ic) (fun t => gd (4096 * k.toNatClampNeg + t)) (gd (4096 * k.toNatClampNeg + ixP x y)) co st1 dn) (i + 1)) = rcS (opnJ (gw k.toNatClampNeg) (gh k.toNatClampNeg) cl cx0 cx1 cy0 cy1 ic) (fun t => gd (4096 * k.toNatClampNeg + t)) (gd (4096 * k.toNatClampNeg + ixP x y)) y_72 y_73 (rcI (opnJ (gw k.toNatClampNeg) (gh k.toNatClampNeg) cl cx0 cx1 cy0 cy1 ic) (fun t => gd (4096 * k.toNatClampNeg + t)) (gd (4096 * k.toNatClampNeg + ixP x y)) co (pX ((rcO (opnJ (gw k.toNatClampNeg) (gh k.toNatClampNeg) cl cx0 cx1 cy0 cy1 ic) (fun t => gd (4096 * k.toNatClampNeg + t)) (gd (4096 * k.toNatClampNeg + ixP x y)) co st1 dn).2.1 dn)) (pY ((rcO (opnJ (gw k.toNatClampNeg) (gh k.toNatClampNeg) cl cx0 cx1 cy0 cy1 ic) (fun t => gd (4096 * k.toNatClampNeg + t)) (gd (4096 * k.toNatClampNeg + ixP x y)) co st1 dn).2.1 dn)) (rcO (opnJ (gw k.toNatClampNeg) (gh k.toNatClampNeg) cl cx0 cx1 cy0 cy1 ic) (fun t => gd (4096 * k.toNatClampNeg + t)) (gd (4096 * k.toNatClampNeg + ixP x y)) co st1 dn) i) := by rw [hay_72, hay_73]; exact if_pos (Or.inr (Or.inl (hdy_19.symm.trans c_70)))
                          have hSt : (rcI (opnJ (gw k.toNatClampNeg) (gh k.toNatClampNeg) cl cx0 cx1 cy0 cy1 ic) (fun t => gd (4096 * k.toNatClampNeg + t)) (gd (4096 * k.toNatClampNeg + ixP x y)) co (pX ((rcO (opnJ (gw k.toNatClampNeg) (gh k.toNatClampNeg) cl cx0 cx1 cy0 cy1 ic) (fun t => gd (4096 * k.toNatClampNeg + t)) (gd (4096 * k.toNatClampNeg + ixP x y)) co st1 dn).2.1 dn)) (pY ((rcO (opnJ (gw k.toNatClampNeg) (gh k.toNatClampNeg) cl cx0 cx1 cy0 cy1 ic) (fun t => gd (4096 * k.toNatClampNeg + t)) (gd (4096 * k.toNatClampNeg + ixP x y)) co st1 dn).2.1 dn)) (rcO (opnJ (gw k.toNatClampNeg) (gh k.toNatClampNeg) cl cx0 cx1 cy0 cy1 ic) (fun t => gd (4096 * k.toNatClampNeg + t)) (gd (4096 * k.toNatClampNeg + ixP x y)) co st1 dn) (i + 1)) = (rcI (opnJ (gw k.toNatClampNeg) (gh k.toNatClampNeg) cl cx0 cx1 cy0 cy1 ic) (fun t => gd (4096 * k.toNatClampNeg + t)) (gd (4096 * k.toNatClampNeg + ixP x y)) co (pX ((rcO (opnJ (gw k.toNatClampNeg) (gh k.toNatClampNeg) cl cx0 cx1 cy0 cy1 ic) (fun t => gd (4096 * k.toNatClampNeg + t)) (gd (4096 * k.toNatClampNeg + ixP x y)) co st1 dn).2.1 dn)) (pY ((rcO (opnJ (gw k.toNatClampNeg) (gh k.toNatClampNeg) cl cx0 cx1 cy0 cy1 ic) (fun t => gd (4096 * k.toNatClampNeg + t)) (gd (4096 * k.toNatClampNeg + ixP x y)) co st1 dn).2.1 dn)) (rcO (opnJ (gw k.toNatClampNeg) (gh k.toNatClampNeg) cl cx0 cx1 cy0 cy1 ic) (fun t => gd (4096 * k.toNatClampNeg + t)) (gd (4096 * k.toNatClampNeg + ixP x y)) co st1 dn) i) := hS1.trans (if_neg (fun q => c_105 (by rw [f3, hxcy_104]; exact q.2.1)))
                          exact ih_15 (i + 1) y_107 z7 gu gs _ _ _ (by omega) (by omega) (by rw [ey_107, ex_i]; exact nI_1 i) (by rw [hSt]; exact f7) (by rw [hSt]; exact f3) (by rw [hSt]; exact f2) (by rw [hSt]; exact fcn) (hP.sub (ws' := [(m1, .inl (cI, 4, .inl gw)), (m2, .inl (cI, 4, .inl gh)), (m3, .inl (cI, 16384, .inl gd)), (m13, .inl (cI, 4096, .inl gs)), (h0, .inr (9, [.ref m1, .ref m2, .ref m3, .int ik, .int wy, .int op, .int cl, .int cx0, .int cx1, .int cy0, .int cy1, .int ds, .ref m4, .ref m5, .ref m6, .ref m7, .ref m8, .ref m9, .int pn, .ref m10, .ref m11, .ref m12, .ref m13])), (m4, .inl (cZ, 4096, .inl gu))]) [3, 4, 0, 1, 5, 2] rfl) (hD.sub (ws' := [(m1, .inl (cI, 4, .inl gw)), (m2, .inl (cI, 4, .inl gh)), (m3, .inl (cI, 16384, .inl gd)), (m13, .inl (cI, 4096, .inl gs)), (h0, .inr (9, [.ref m1, .ref m2, .ref m3, .int ik, .int wy, .int op, .int cl, .int cx0, .int cx1, .int cy0, .int cy1, .int ds, .ref m4, .ref m5, .ref m6, .ref m7, .ref m8, .ref m9, .int pn, .ref m10, .ref m11, .ref m12, .ref m13])), (m4, .inl (cZ, 4096, .inl gu))]) [3, 4, 0, 1, 5, 2] (by decide) rfl) hS (lv_sub hl [0, 4, 5, 6, 7, 8, 9, 10, 11, 12, 13, 14] rfl)
                        · skip
                          have f_106 : (gu y_104.toNatClampNeg).toInt = 0 := f_eq rfl (by decide) c_105
                          refine lv_aload_n hx hb dX9_joins_194 rfl (lv_at hl 9 rfl) ?_
                          refine va_get (D := D) (ci := 9) (v := .ref m3) (C := RX9) (T := TX9) (N := 23) hx hb hts hi_X9 hown hK hP 5 rfl rfl 2 (by decide) (hts _ bw_398) (fun _ h9 => h9) rfl dX9_joins_195 ?_
                          refine lv_sipush (v := 4096) hx hb dX9_joins_198 (by decide) ?_
                          refine lv_iload_n hx hb dX9_joins_201 rfl (lv_at hl 10 rfl) ?_
                          refine lv_imul hx hb dX9_joins_202 ?_
                          refine lv_topi (fun y_108 ey_108 => ?_)
                          refine lv_iload hx hb dX9_joins_203 (lv_at hl 0 rfl) ?_
                          refine lv_iadd hx hb dX9_joins_205 ?_
                          refine lv_topi (fun y_109 ey_109 => ?_)
                          refine va_iald hx hb hK hP 0 0 rfl rfl (by rw [ey_109, ey_108]; exact kp_in (by omega) hiny_104) dX9_joins_206 ?_
                          refine my_fold (v := gd (4096 * k.toNatClampNeg + ixP y_72 y_73)) (congrArg gd (by rw [ey_109, ey_108]; exact dotx (gd := gd) (y := k) hkk hixy_104 (ix_lt (by omega) (by omega) (by omega) (by omega)) ek)) ?_
                          refine lv_iload hx hb dX9_joins_207 (lv_at hl 8 rfl) ?_
                          refine lv_icmp_eq (tgt := 215) hx hb dX9_joins_209 (by decide) (fun c_110 => ?_) (fun c_110 => ?_)
                          · skip
                            have f_111 : (gd (4096 * k.toNatClampNeg + ixP y_72 y_73)).toInt = (gd (4096 * k.toNatClampNeg + ixP x y)).toInt := f_eq rfl rfl c_110
                            refine lv_aload_n hx hb dX9_joins_215 rfl (lv_at hl 9 rfl) ?_
                            refine va_get (D := D) (ci := 9) (v := .ref m4) (C := RX9) (T := TX9) (N := 23) hx hb hts hi_X9 hown hK hP 5 rfl rfl 12 (by decide) (hts _ bw_404) (fun _ h9 => h9) rfl dX9_joins_216 ?_
                            refine lv_iload hx hb dX9_joins_219 (lv_at hl 0 rfl) ?_
                            refine lv_iconst (v := 1) hx hb dX9_joins_221 (by decide) ?_
                            refine va_zast hx hb hK hP hD hS 2 1 rfl rfl hiny_104 dX9_joins_222 (fun H locs hP hD hS => ?_)
                            have hP : va_P D vwCl [(m3, .inl (cI, 16384, .inl gd)), (m13, .inl (cI, 4096, .inl gs)), (m4, .inl (cZ, 4096, .inl (upd gu y_104.toNatClampNeg (vp_nar .boolean 1)))), (m1, .inl (cI, 4, .inl gw)), (m2, .inl (cI, 4, .inl gh)), (h0, .inr (9, [.ref m1, .ref m2, .ref m3, .int ik, .int wy, .int op, .int cl, .int cx0, .int cx1, .int cy0, .int cy1, .int ds, .ref m4, .ref m5, .ref m6, .ref m7, .ref m8, .ref m9, .int pn, .ref m10, .ref m11, .ref m12, .ref m13]))] H := hP
                            have hD : va_D A [(m3, .inl (cI, 16384, .inl gd)), (m13, .inl (cI, 4096, .inl gs)), (m4, .inl (cZ, 4096, .inl (upd gu y_104.toNatClampNeg (vp_nar .boolean 1)))), (m1, .inl (cI, 4, .inl gw)), (m2, .inl (cI, 4, .inl gh)), (h0, .inr (9, [.ref m1, .ref m2, .ref m3, .int ik, .int wy, .int op, .int cl, .int cx0, .int cx1, .int cy0, .int cy1, .int ds, .ref m4, .ref m5, .ref m6, .ref m7, .ref m8, .ref m9, .int pn, .ref m10, .ref m11, .ref m12, .ref m13]))] := hD
                            generalize eg_112 : upd gu y_104.toNatClampNeg (vp_nar .boolean 1) = g_112 at hP hD
                            have hP : va_P D vwCl [(m3, .inl (cI, 16384, .inl gd)), (m13, .inl (cI, 4096, .inl gs)), (m4, .inl (cZ, 4096, .inl g_112)), (m1, .inl (cI, 4, .inl gw)), (m2, .inl (cI, 4, .inl gh)), (h0, .inr (9, [.ref m1, .ref m2, .ref m3, .int ik, .int wy, .int op, .int cl, .int cx0, .int cx1, .int cy0, .int cy1, .int ds, .ref m4, .ref m5, .ref m6, .ref m7, .ref m8, .ref m9, .int pn, .ref m10, .ref m11, .ref m12, .ref m13]))] H := hP
                            have hD : va_D A [(m3, .inl (cI, 16384, .inl gd)), (m13, .inl (cI, 4096, .inl gs)), (m4, .inl (cZ, 4096, .inl g_112)), (m1, .inl (cI, 4, .inl gw)), (m2, .inl (cI, 4, .inl gh)), (h0, .inr (9, [.ref m1, .ref m2, .ref m3, .int ik, .int wy, .int op, .int cl, .int cx0, .int cx1, .int cy0, .int cy1, .int ds, .ref m4, .ref m5, .ref m6, .ref m7, .ref m8, .ref m9, .int pn, .ref m10, .ref m11, .ref m12, .ref m13]))] := hD
                            have hmk : (rcI (opnJ (gw k.toNatClampNeg) (gh k.toNatClampNeg) cl cx0 cx1 cy0 cy1 ic) (fun t => gd (4096 * k.toNatClampNeg + t)) (gd (4096 * k.toNatClampNeg + ixP x y)) co (pX ((rcO (opnJ (gw k.toNatClampNeg) (gh k.toNatClampNeg) cl cx0 cx1 cy0 cy1 ic) (fun t => gd (4096 * k.toNatClampNeg + t)) (gd (4096 * k.toNatClampNeg + ixP x y)) co st1 dn).2.1 dn)) (pY ((rcO (opnJ (gw k.toNatClampNeg) (gh k.toNatClampNeg) cl cx0 cx1 cy0 cy1 ic) (fun t => gd (4096 * k.toNatClampNeg + t)) (gd (4096 * k.toNatClampNeg + ixP x y)) co st1 dn).2.1 dn)) (rcO (opnJ (gw k.toNatClampNeg) (gh k.toNatClampNeg) cl cx0 cx1 cy0 cy1 ic) (fun t => gd (4096 * k.toNatClampNeg + t)) (gd (4096 * k.toNatClampNeg + ixP x y)) co st1 dn) i).1 (ixP y_72 y_73) = 0 := by rw [← f3, ← hxcy_104]; exact c_105
                            have hixn : ixP y_72 y_73 < 4096 := ix_lt (by omega) (by omega) (by omega) (by omega)
                            have hcn2 : cntP (upd (rcI (opnJ (gw k.toNatClampNeg) (gh k.toNatClampNeg) cl cx0 cx1 cy0 cy1 ic) (fun t => gd (4096 * k.toNatClampNeg + t)) (gd (4096 * k.toNatClampNeg + ixP x y)) co (pX ((rcO (opnJ (gw k.toNatClampNeg) (gh k.toNatClampNeg) cl cx0 cx1 cy0 cy1 ic) (fun t => gd (4096 * k.toNatClampNeg + t)) (gd (4096 * k.toNatClampNeg + ixP x y)) co st1 dn).2.1 dn)) (pY ((rcO (opnJ (gw k.toNatClampNeg) (gh k.toNatClampNeg) cl cx0 cx1 cy0 cy1 ic) (fun t => gd (4096 * k.toNatClampNeg + t)) (gd (4096 * k.toNatClampNeg + ixP x y)) co st1 dn).2.1 dn)) (rcO (opnJ (gw k.toNatClampNeg) (gh k.toNatClampNeg) cl cx0 cx1 cy0 cy1 ic) (fun t => gd (4096 * k.toNatClampNeg + t)) (gd (4096 * k.toNatClampNeg + ixP x y)) co st1 dn) i).1 (ixP y_72 y_73) 1) 4096 = (rcI (opnJ (gw k.toNatClampNeg) (gh k.toNatClampNeg) cl cx0 cx1 cy0 cy1 ic) (fun t => gd (4096 * k.toNatClampNeg + t)) (gd (4096 * k.toNatClampNeg + ixP x y)) co (pX ((rcO (opnJ (gw k.toNatClampNeg) (gh k.toNatClampNeg) cl cx0 cx1 cy0 cy1 ic) (fun t => gd (4096 * k.toNatClampNeg + t)) (gd (4096 * k.toNatClampNeg + ixP x y)) co st1 dn).2.1 dn)) (pY ((rcO (opnJ (gw k.toNatClampNeg) (gh k.toNatClampNeg) cl cx0 cx1 cy0 cy1 ic) (fun t => gd (4096 * k.toNatClampNeg + t)) (gd (4096 * k.toNatClampNeg + ixP x y)) co st1 dn).2.1 dn)) (rcO (opnJ (gw k.toNatClampNeg) (gh k.toNatClampNeg) cl cx0 cx1 cy0 cy1 ic) (fun t => gd (4096 * k.toNatClampNeg + t)) (gd (4096 * k.toNatClampNeg + ixP x y)) co st1 dn) i).2.2 + 1 := by rw [cnt_up1 hixn hmk, fcn]
                            have hm2 : (rcI (opnJ (gw k.toNatClampNeg) (gh k.toNatClampNeg) cl cx0 cx1 cy0 cy1 ic) (fun t => gd (4096 * k.toNatClampNeg + t)) (gd (4096 * k.toNatClampNeg + ixP x y)) co (pX ((rcO (opnJ (gw k.toNatClampNeg) (gh k.toNatClampNeg) cl cx0 cx1 cy0 cy1 ic) (fun t => gd (4096 * k.toNatClampNeg + t)) (gd (4096 * k.toNatClampNeg + ixP x y)) co st1 dn).2.1 dn)) (pY ((rcO (opnJ (gw k.toNatClampNeg) (gh k.toNatClampNeg) cl cx0 cx1 cy0 cy1 ic) (fun t => gd (4096 * k.toNatClampNeg + t)) (gd (4096 * k.toNatClampNeg + ixP x y)) co st1 dn).2.1 dn)) (rcO (opnJ (gw k.toNatClampNeg) (gh k.toNatClampNeg) cl cx0 cx1 cy0 cy1 ic) (fun t => gd (4096 * k.toNatClampNeg + t)) (gd (4096 * k.toNatClampNeg + ixP x y)) co st1 dn) i).2.2 + 1 ≤ 4096 := by rw [← hcn2]; exact cntP_le _ _
                            refine lv_aload_n hx hb dX9_joins_223 rfl (lv_at hl 9 rfl) ?_
                            refine va_get (D := D) (ci := 9) (v := .ref m13) (C := RX9) (T := TX9) (N := 23) hx hb hts hi_X9 hown hK hP 5 rfl rfl 22 (by decide) (hts _ bw_413) (fun _ h9 => h9) rfl dX9_joins_224 ?_
                            refine lv_iload hx hb dX9_joins_227 (lv_at hl 7 rfl) ?_
                            refine lv_iload hx hb dX9_joins_229 (lv_at hl 0 rfl) ?_
                            refine va_iast hx hb hK hP hD hS 1 0 rfl rfl (vp_in_iff.mpr ⟨by omega, by omega⟩) dX9_joins_231 (fun H locs hP hD hS => ?_)
                            have hP : va_P D vwCl [(m3, .inl (cI, 16384, .inl gd)), (m13, .inl (cI, 4096, .inl (upd gs z7.toNatClampNeg y_104))), (m4, .inl (cZ, 4096, .inl g_112)), (m1, .inl (cI, 4, .inl gw)), (m2, .inl (cI, 4, .inl gh)), (h0, .inr (9, [.ref m1, .ref m2, .ref m3, .int ik, .int wy, .int op, .int cl, .int cx0, .int cx1, .int cy0, .int cy1, .int ds, .ref m4, .ref m5, .ref m6, .ref m7, .ref m8, .ref m9, .int pn, .ref m10, .ref m11, .ref m12, .ref m13]))] H := hP
                            have hD : va_D A [(m3, .inl (cI, 16384, .inl gd)), (m13, .inl (cI, 4096, .inl (upd gs z7.toNatClampNeg y_104))), (m4, .inl (cZ, 4096, .inl g_112)), (m1, .inl (cI, 4, .inl gw)), (m2, .inl (cI, 4, .inl gh)), (h0, .inr (9, [.ref m1, .ref m2, .ref m3, .int ik, .int wy, .int op, .int cl, .int cx0, .int cx1, .int cy0, .int cy1, .int ds, .ref m4, .ref m5, .ref m6, .ref m7, .ref m8, .ref m9, .int pn, .ref m10, .ref m11, .ref m12, .ref m13]))] := hD
                            generalize eg_113 : upd gs z7.toNatClampNeg y_104 = g_113 at hP hD
                            have hP : va_P D vwCl [(m3, .inl (cI, 16384, .inl gd)), (m13, .inl (cI, 4096, .inl g_113)), (m4, .inl (cZ, 4096, .inl g_112)), (m1, .inl (cI, 4, .inl gw)), (m2, .inl (cI, 4, .inl gh)), (h0, .inr (9, [.ref m1, .ref m2, .ref m3, .int ik, .int wy, .int op, .int cl, .int cx0, .int cx1, .int cy0, .int cy1, .int ds, .ref m4, .ref m5, .ref m6, .ref m7, .ref m8, .ref m9, .int pn, .ref m10, .ref m11, .ref m12, .ref m13]))] H := hP
                            have hD : va_D A [(m3, .inl (cI, 16384, .inl gd)), (m13, .inl (cI, 4096, .inl g_113)), (m4, .inl (cZ, 4096, .inl g_112)), (m1, .inl (cI, 4, .inl gw)), (m2, .inl (cI, 4, .inl gh)), (h0, .inr (9, [.ref m1, .ref m2, .ref m3, .int ik, .int wy, .int op, .int cl, .int cx0, .int cx1, .int cy0, .int cy1, .int ds, .ref m4, .ref m5, .ref m6, .ref m7, .ref m8, .ref m9, .int pn, .ref m10, .ref m11, .ref m12, .ref m13]))] := hD
                            refine lv_iload hx hb dX9_joins_232 (lv_at hl 7 rfl) ?_
                            refine lv_iconst (v := 1) hx hb dX9_joins_234 (by decide) ?_
                            refine lv_iadd hx hb dX9_joins_235 ?_
                            refine lv_topi (fun y_114 ey_114 => ?_)
                            refine lv_istore (lv' := [(7, .int y_114), (14, .int y_104), (13, .int y_21), (12, .int y_19), (11, .int x11), (8, .int y_13), (10, .int y_12), (9, .int y_11), (6, .int (gd (4096 * k.toNatClampNeg + ixP x y))), (0, .ref h0), (1, .int k), (2, .int x), (3, .int y), (4, .int co), (5, .int ic)]) hx hb dX9_joins_236 hl (by decide) rfl (fun ls hl => ?_)
                            obtain ⟨y_115, ey_115⟩ : ∃ y : Int32, y = x11 + 1 := ⟨_, rfl⟩
                            refine lv_iinc (v := y_115) (lv' := [(11, .int y_115), (7, .int y_114), (14, .int y_104), (13, .int y_21), (12, .int y_19), (8, .int y_13), (10, .int y_12), (9, .int y_11), (6, .int (gd (4096 * k.toNatClampNeg + ixP x y))), (0, .ref h0), (1, .int k), (2, .int x), (3, .int y), (4, .int co), (5, .int ic)]) hx hb dX9_joins_238 hl (k := 4) rfl (by rw [ey_115]; rfl) (by decide) rfl (fun ls hl => ?_)
                            refine lv_goto (tgt := 87) hx hb dX9_joins_241 (by decide) ?_
                            have hS1 : (rcI (opnJ (gw k.toNatClampNeg) (gh k.toNatClampNeg) cl cx0 cx1 cy0 cy1 ic) (fun t => gd (4096 * k.toNatClampNeg + t)) (gd (4096 * k.toNatClampNeg + ixP x y)) co (pX ((rcO (opnJ (gw k.toNatClampNeg) (gh k.toNatClampNeg) cl cx0 cx1 cy0 cy1 ic) (fun t => gd (4096 * k.toNatClampNeg + t)) (gd (4096 * k.toNatClampNeg + ixP x y)) co st1 dn).2.1 dn)) (pY ((rcO (opnJ (gw k.toNatClampNeg) (gh k.toNatClampNeg) cl cx0 cx1 cy0 cy1 ic) (fun t => gd (4096 * k.toNatClampNeg + t)) (gd (4096 * k.toNatClampNeg + ixP x y)) co st1 dn).2.1 dn)) (rcO (opnJ (gw k.toNatClampNeg) (gh k.toNatClampNeg) cl cx0 cx1 cy0 cy1 ic) (fun t => gd (4096 * k.toNatClampNeg + t)) (gd (4096 * k.toNatClampNeg + ixP x y)) co st1 dn) (i + 1)) = rcS (opnJ (gw k.toNatClampNeg) (gh k.toNatClampNeg) cl cx0 cx1 cy0 cy1 ic) (fun t => gd (4096 * k.toNatClampNeg + t)) (gd (4096 * k.toNatClampNeg + ixP x y)) y_72 y_73 (rcI (opnJ (gw k.toNatClampNeg) (gh k.toNatClampNeg) cl cx0 cx1 cy0 cy1 ic) (fun t => gd (4096 * k.toNatClampNeg + t)) (gd (4096 * k.toNatClampNeg + ixP x y)) co (pX ((rcO (opnJ (gw k.toNatClampNeg) (gh k.toNatClampNeg) cl cx0 cx1 cy0 cy1 ic) (fun t => gd (4096 * k.toNatClampNeg + t)) (gd (4096 * k.toNatClampNeg + ixP x y)) co st1 dn).2.1 dn)) (pY ((rcO (opnJ (gw k.toNatClampNeg) (gh k.toNatClampNeg) cl cx0 cx1 cy0 cy1 ic) (fun t => gd (4096 * k.toNatClampNeg + t)) (gd (4096 * k.toNatClampNeg + ixP x y)) co st1 dn).2.1 dn)) (rcO (opnJ (gw k.toNatClampNeg) (gh k.toNatClampNeg) cl cx0 cx1 cy0 cy1 ic) (fun t => gd (4096 * k.toNatClampNeg + t)) (gd (4096 * k.toNatClampNeg + ixP x y)) co st1 dn) i) := by rw [hay_72, hay_73]; exact if_pos (Or.inr (Or.inl (hdy_19.symm.trans c_70)))
                            have hSt : (rcI (opnJ (gw k.toNatClampNeg) (gh k.toNatClampNeg) cl cx0 cx1 cy0 cy1 ic) (fun t => gd (4096 * k.toNatClampNeg + t)) (gd (4096 * k.toNatClampNeg + ixP x y)) co (pX ((rcO (opnJ (gw k.toNatClampNeg) (gh k.toNatClampNeg) cl cx0 cx1 cy0 cy1 ic) (fun t => gd (4096 * k.toNatClampNeg + t)) (gd (4096 * k.toNatClampNeg + ixP x y)) co st1 dn).2.1 dn)) (pY ((rcO (opnJ (gw k.toNatClampNeg) (gh k.toNatClampNeg) cl cx0 cx1 cy0 cy1 ic) (fun t => gd (4096 * k.toNatClampNeg + t)) (gd (4096 * k.toNatClampNeg + ixP x y)) co st1 dn).2.1 dn)) (rcO (opnJ (gw k.toNatClampNeg) (gh k.toNatClampNeg) cl cx0 cx1 cy0 cy1 ic) (fun t => gd (4096 * k.toNatClampNeg + t)) (gd (4096 * k.toNatClampNeg + ixP x y)) co st1 dn) (i + 1)) = (upd (rcI (opnJ (gw k.toNatClampNeg) (gh k.toNatClampNeg) cl cx0 cx1 cy0 cy1 ic) (fun t => gd (4096 * k.toNatClampNeg + t)) (gd (4096 * k.toNatClampNeg + ixP x y)) co (pX ((rcO (opnJ (gw k.toNatClampNeg) (gh k.toNatClampNeg) cl cx0 cx1 cy0 cy1 ic) (fun t => gd (4096 * k.toNatClampNeg + t)) (gd (4096 * k.toNatClampNeg + ixP x y)) co st1 dn).2.1 dn)) (pY ((rcO (opnJ (gw k.toNatClampNeg) (gh k.toNatClampNeg) cl cx0 cx1 cy0 cy1 ic) (fun t => gd (4096 * k.toNatClampNeg + t)) (gd (4096 * k.toNatClampNeg + ixP x y)) co st1 dn).2.1 dn)) (rcO (opnJ (gw k.toNatClampNeg) (gh k.toNatClampNeg) cl cx0 cx1 cy0 cy1 ic) (fun t => gd (4096 * k.toNatClampNeg + t)) (gd (4096 * k.toNatClampNeg + ixP x y)) co st1 dn) i).1 (ixP y_72 y_73) 1, upd (rcI (opnJ (gw k.toNatClampNeg) (gh k.toNatClampNeg) cl cx0 cx1 cy0 cy1 ic) (fun t => gd (4096 * k.toNatClampNeg + t)) (gd (4096 * k.toNatClampNeg + ixP x y)) co (pX ((rcO (opnJ (gw k.toNatClampNeg) (gh k.toNatClampNeg) cl cx0 cx1 cy0 cy1 ic) (fun t => gd (4096 * k.toNatClampNeg + t)) (gd (4096 * k.toNatClampNeg + ixP x y)) co st1 dn).2.1 dn)) (pY ((rcO (opnJ (gw k.toNatClampNeg) (gh k.toNatClampNeg) cl cx0 cx1 cy0 cy1 ic) (fun t => gd (4096 * k.toNatClampNeg + t)) (gd (4096 * k.toNatClampNeg + ixP x y)) co st1 dn).2.1 dn)) (rcO (opnJ (gw k.toNatClampNeg) (gh k.toNatClampNeg) cl cx0 cx1 cy0 cy1 ic) (fun t => gd (4096 * k.toNatClampNeg + t)) (gd (4096 * k.toNatClampNeg + ixP x y)) co st1 dn) i).2.1 (rcI (opnJ (gw k.toNatClampNeg) (gh k.toNatClampNeg) cl cx0 cx1 cy0 cy1 ic) (fun t => gd (4096 * k.toNatClampNeg + t)) (gd (4096 * k.toNatClampNeg + ixP x y)) co (pX ((rcO (opnJ (gw k.toNatClampNeg) (gh k.toNatClampNeg) cl cx0 cx1 cy0 cy1 ic) (fun t => gd (4096 * k.toNatClampNeg + t)) (gd (4096 * k.toNatClampNeg + ixP x y)) co st1 dn).2.1 dn)) (pY ((rcO (opnJ (gw k.toNatClampNeg) (gh k.toNatClampNeg) cl cx0 cx1 cy0 cy1 ic) (fun t => gd (4096 * k.toNatClampNeg + t)) (gd (4096 * k.toNatClampNeg + ixP x y)) co st1 dn).2.1 dn)) (rcO (opnJ (gw k.toNatClampNeg) (gh k.toNatClampNeg) cl cx0 cx1 cy0 cy1 ic) (fun t => gd (4096 * k.toNatClampNeg + t)) (gd (4096 * k.toNatClampNeg + ixP x y)) co st1 dn) i).2.2 (nI (ixP y_72 y_73)), (rcI (opnJ (gw k.toNatClampNeg) (gh k.toNatClampNeg) cl cx0 cx1 cy0 cy1 ic) (fun t => gd (4096 * k.toNatClampNeg + t)) (gd (4096 * k.toNatClampNeg + ixP x y)) co (pX ((rcO (opnJ (gw k.toNatClampNeg) (gh k.toNatClampNeg) cl cx0 cx1 cy0 cy1 ic) (fun t => gd (4096 * k.toNatClampNeg + t)) (gd (4096 * k.toNatClampNeg + ixP x y)) co st1 dn).2.1 dn)) (pY ((rcO (opnJ (gw k.toNatClampNeg) (gh k.toNatClampNeg) cl cx0 cx1 cy0 cy1 ic) (fun t => gd (4096 * k.toNatClampNeg + t)) (gd (4096 * k.toNatClampNeg + ixP x y)) co st1 dn).2.1 dn)) (rcO (opnJ (gw k.toNatClampNeg) (gh k.toNatClampNeg) cl cx0 cx1 cy0 cy1 ic) (fun t => gd (4096 * k.toNatClampNeg + t)) (gd (4096 * k.toNatClampNeg + ixP x y)) co st1 dn) i).2.2 + 1) := hS1.trans (if_pos ⟨⟨⟨f_76, Or.inr f_100⟩, c_110⟩, hmk, by omega⟩)
                            exact ih_15 (i + 1) y_115 y_114 g_112 g_113 _ _ _ (by omega) (by omega) (by rw [ey_115, ex_i]; exact nI_1 i) (by rw [hSt, ey_114, f7]; exact nI_1 _) (by rw [hSt, ← eg_112, f3, hxcy_104]; rfl) (by rw [hSt, ← eg_113, f2, hixy_104, show z7.toNatClampNeg = (rcI (opnJ (gw k.toNatClampNeg) (gh k.toNatClampNeg) cl cx0 cx1 cy0 cy1 ic) (fun t => gd (4096 * k.toNatClampNeg + t)) (gd (4096 * k.toNatClampNeg + ixP x y)) co (pX ((rcO (opnJ (gw k.toNatClampNeg) (gh k.toNatClampNeg) cl cx0 cx1 cy0 cy1 ic) (fun t => gd (4096 * k.toNatClampNeg + t)) (gd (4096 * k.toNatClampNeg + ixP x y)) co st1 dn).2.1 dn)) (pY ((rcO (opnJ (gw k.toNatClampNeg) (gh k.toNatClampNeg) cl cx0 cx1 cy0 cy1 ic) (fun t => gd (4096 * k.toNatClampNeg + t)) (gd (4096 * k.toNatClampNeg + ixP x y)) co st1 dn).2.1 dn)) (rcO (opnJ (gw k.toNatClampNeg) (gh k.toNatClampNeg) cl cx0 cx1 cy0 cy1 ic) (fun t => gd (4096 * k.toNatClampNeg + t)) (gd (4096 * k.toNatClampNeg + ixP x y)) co st1 dn) i).2.2 by rw [f7]; exact nI_clamp (by omega)]) (by rw [hSt]; exact hcn2) (hP.sub (ws' := [(m1, .inl (cI, 4, .inl gw)), (m2, .inl (cI, 4, .inl gh)), (m3, .inl (cI, 16384, .inl gd)), (m13, .inl (cI, 4096, .inl g_113)), (h0, .inr (9, [.ref m1, .ref m2, .ref m3, .int ik, .int wy, .int op, .int cl, .int cx0, .int cx1, .int cy0, .int cy1, .int ds, .ref m4, .ref m5, .ref m6, .ref m7, .ref m8, .ref m9, .int pn, .ref m10, .ref m11, .ref m12, .ref m13])), (m4, .inl (cZ, 4096, .inl g_112))]) [3, 4, 0, 1, 5, 2] rfl) (hD.sub (ws' := [(m1, .inl (cI, 4, .inl gw)), (m2, .inl (cI, 4, .inl gh)), (m3, .inl (cI, 16384, .inl gd)), (m13, .inl (cI, 4096, .inl g_113)), (h0, .inr (9, [.ref m1, .ref m2, .ref m3, .int ik, .int wy, .int op, .int cl, .int cx0, .int cx1, .int cy0, .int cy1, .int ds, .ref m4, .ref m5, .ref m6, .ref m7, .ref m8, .ref m9, .int pn, .ref m10, .ref m11, .ref m12, .ref m13])), (m4, .inl (cZ, 4096, .inl g_112))]) [3, 4, 0, 1, 5, 2] (by decide) rfl) hS (lv_sub hl [0, 5, 6, 7, 1, 8, 9, 10, 11, 12, 13, 14] rfl)
                          · skip
                            have f_111 : ¬ ((gd (4096 * k.toNatClampNeg + ixP y_72 y_73)).toInt = (gd (4096 * k.toNatClampNeg + ixP x y)).toInt) := fn_eq rfl rfl c_110
                            refine lv_goto (tgt := 238) hx hb dX9_joins_212 (by decide) ?_
                            obtain ⟨y_116, ey_116⟩ : ∃ y : Int32, y = x11 + 1 := ⟨_, rfl⟩
                            refine lv_iinc (v := y_116) (lv' := [(11, .int y_116), (14, .int y_104), (13, .int y_21), (12, .int y_19), (8, .int y_13), (10, .int y_12), (9, .int y_11), (7, .int z7), (6, .int (gd (4096 * k.toNatClampNeg + ixP x y))), (0, .ref h0), (1, .int k), (2, .int x), (3, .int y), (4, .int co), (5, .int ic)]) hx hb dX9_joins_238 hl (k := 3) rfl (by rw [ey_116]; rfl) (by decide) rfl (fun ls hl => ?_)
                            refine lv_goto (tgt := 87) hx hb dX9_joins_241 (by decide) ?_
                            have hS1 : (rcI (opnJ (gw k.toNatClampNeg) (gh k.toNatClampNeg) cl cx0 cx1 cy0 cy1 ic) (fun t => gd (4096 * k.toNatClampNeg + t)) (gd (4096 * k.toNatClampNeg + ixP x y)) co (pX ((rcO (opnJ (gw k.toNatClampNeg) (gh k.toNatClampNeg) cl cx0 cx1 cy0 cy1 ic) (fun t => gd (4096 * k.toNatClampNeg + t)) (gd (4096 * k.toNatClampNeg + ixP x y)) co st1 dn).2.1 dn)) (pY ((rcO (opnJ (gw k.toNatClampNeg) (gh k.toNatClampNeg) cl cx0 cx1 cy0 cy1 ic) (fun t => gd (4096 * k.toNatClampNeg + t)) (gd (4096 * k.toNatClampNeg + ixP x y)) co st1 dn).2.1 dn)) (rcO (opnJ (gw k.toNatClampNeg) (gh k.toNatClampNeg) cl cx0 cx1 cy0 cy1 ic) (fun t => gd (4096 * k.toNatClampNeg + t)) (gd (4096 * k.toNatClampNeg + ixP x y)) co st1 dn) (i + 1)) = rcS (opnJ (gw k.toNatClampNeg) (gh k.toNatClampNeg) cl cx0 cx1 cy0 cy1 ic) (fun t => gd (4096 * k.toNatClampNeg + t)) (gd (4096 * k.toNatClampNeg + ixP x y)) y_72 y_73 (rcI (opnJ (gw k.toNatClampNeg) (gh k.toNatClampNeg) cl cx0 cx1 cy0 cy1 ic) (fun t => gd (4096 * k.toNatClampNeg + t)) (gd (4096 * k.toNatClampNeg + ixP x y)) co (pX ((rcO (opnJ (gw k.toNatClampNeg) (gh k.toNatClampNeg) cl cx0 cx1 cy0 cy1 ic) (fun t => gd (4096 * k.toNatClampNeg + t)) (gd (4096 * k.toNatClampNeg + ixP x y)) co st1 dn).2.1 dn)) (pY ((rcO (opnJ (gw k.toNatClampNeg) (gh k.toNatClampNeg) cl cx0 cx1 cy0 cy1 ic) (fun t => gd (4096 * k.toNatClampNeg + t)) (gd (4096 * k.toNatClampNeg + ixP x y)) co st1 dn).2.1 dn)) (rcO (opnJ (gw k.toNatClampNeg) (gh k.toNatClampNeg) cl cx0 cx1 cy0 cy1 ic) (fun t => gd (4096 * k.toNatClampNeg + t)) (gd (4096 * k.toNatClampNeg + ixP x y)) co st1 dn) i) := by rw [hay_72, hay_73]; exact if_pos (Or.inr (Or.inl (hdy_19.symm.trans c_70)))
                            have hSt : (rcI (opnJ (gw k.toNatClampNeg) (gh k.toNatClampNeg) cl cx0 cx1 cy0 cy1 ic) (fun t => gd (4096 * k.toNatClampNeg + t)) (gd (4096 * k.toNatClampNeg + ixP x y)) co (pX ((rcO (opnJ (gw k.toNatClampNeg) (gh k.toNatClampNeg) cl cx0 cx1 cy0 cy1 ic) (fun t => gd (4096 * k.toNatClampNeg + t)) (gd (4096 * k.toNatClampNeg + ixP x y)) co st1 dn).2.1 dn)) (pY ((rcO (opnJ (gw k.toNatClampNeg) (gh k.toNatClampNeg) cl cx0 cx1 cy0 cy1 ic) (fun t => gd (4096 * k.toNatClampNeg + t)) (gd (4096 * k.toNatClampNeg + ixP x y)) co st1 dn).2.1 dn)) (rcO (opnJ (gw k.toNatClampNeg) (gh k.toNatClampNeg) cl cx0 cx1 cy0 cy1 ic) (fun t => gd (4096 * k.toNatClampNeg + t)) (gd (4096 * k.toNatClampNeg + ixP x y)) co st1 dn) (i + 1)) = (rcI (opnJ (gw k.toNatClampNeg) (gh k.toNatClampNeg) cl cx0 cx1 cy0 cy1 ic) (fun t => gd (4096 * k.toNatClampNeg + t)) (gd (4096 * k.toNatClampNeg + ixP x y)) co (pX ((rcO (opnJ (gw k.toNatClampNeg) (gh k.toNatClampNeg) cl cx0 cx1 cy0 cy1 ic) (fun t => gd (4096 * k.toNatClampNeg + t)) (gd (4096 * k.toNatClampNeg + ixP x y)) co st1 dn).2.1 dn)) (pY ((rcO (opnJ (gw k.toNatClampNeg) (gh k.toNatClampNeg) cl cx0 cx1 cy0 cy1 ic) (fun t => gd (4096 * k.toNatClampNeg + t)) (gd (4096 * k.toNatClampNeg + ixP x y)) co st1 dn).2.1 dn)) (rcO (opnJ (gw k.toNatClampNeg) (gh k.toNatClampNeg) cl cx0 cx1 cy0 cy1 ic) (fun t => gd (4096 * k.toNatClampNeg + t)) (gd (4096 * k.toNatClampNeg + ixP x y)) co st1 dn) i) := hS1.trans (if_neg (fun q => c_110 q.1.2))
                            exact ih_15 (i + 1) y_116 z7 gu gs _ _ _ (by omega) (by omega) (by rw [ey_116, ex_i]; exact nI_1 i) (by rw [hSt]; exact f7) (by rw [hSt]; exact f3) (by rw [hSt]; exact f2) (by rw [hSt]; exact fcn) (hP.sub (ws' := [(m1, .inl (cI, 4, .inl gw)), (m2, .inl (cI, 4, .inl gh)), (m3, .inl (cI, 16384, .inl gd)), (m13, .inl (cI, 4096, .inl gs)), (h0, .inr (9, [.ref m1, .ref m2, .ref m3, .int ik, .int wy, .int op, .int cl, .int cx0, .int cx1, .int cy0, .int cy1, .int ds, .ref m4, .ref m5, .ref m6, .ref m7, .ref m8, .ref m9, .int pn, .ref m10, .ref m11, .ref m12, .ref m13])), (m4, .inl (cZ, 4096, .inl gu))]) [3, 4, 0, 1, 5, 2] rfl) (hD.sub (ws' := [(m1, .inl (cI, 4, .inl gw)), (m2, .inl (cI, 4, .inl gh)), (m3, .inl (cI, 16384, .inl gd)), (m13, .inl (cI, 4096, .inl gs)), (h0, .inr (9, [.ref m1, .ref m2, .ref m3, .int ik, .int wy, .int op, .int cl, .int cx0, .int cx1, .int cy0, .int cy1, .int ds, .ref m4, .ref m5, .ref m6, .ref m7, .ref m8, .ref m9, .int pn, .ref m10, .ref m11, .ref m12, .ref m13])), (m4, .inl (cZ, 4096, .inl gu))]) [3, 4, 0, 1, 5, 2] (by decide) rfl) hS (lv_sub hl [0, 4, 5, 6, 7, 8, 9, 10, 11, 12, 13, 14] rfl)
                      · skip
                        have f_100 := bz0 hr_98 c_99
                        refine lv_goto (tgt := 238) hx hb dX9_joins_165 (by decide) ?_
                        obtain ⟨y_117, ey_117⟩ : ∃ y : Int32, y = x11 + 1 := ⟨_, rfl⟩
                        refine lv_iinc (v := y_117) (lv' := [(11, .int y_117), (13, .int y_21), (12, .int y_19), (8, .int y_13), (10, .int y_12), (9, .int y_11), (7, .int z7), (6, .int (gd (4096 * k.toNatClampNeg + ixP x y))), (0, .ref h0), (1, .int k), (2, .int x), (3, .int y), (4, .int co), (5, .int ic)]) hx hb dX9_joins_238 hl (k := 2) rfl (by rw [ey_117]; rfl) (by decide) rfl (fun ls hl => ?_)
                        refine lv_goto (tgt := 87) hx hb dX9_joins_241 (by decide) ?_
                        have hS1 : (rcI (opnJ (gw k.toNatClampNeg) (gh k.toNatClampNeg) cl cx0 cx1 cy0 cy1 ic) (fun t => gd (4096 * k.toNatClampNeg + t)) (gd (4096 * k.toNatClampNeg + ixP x y)) co (pX ((rcO (opnJ (gw k.toNatClampNeg) (gh k.toNatClampNeg) cl cx0 cx1 cy0 cy1 ic) (fun t => gd (4096 * k.toNatClampNeg + t)) (gd (4096 * k.toNatClampNeg + ixP x y)) co st1 dn).2.1 dn)) (pY ((rcO (opnJ (gw k.toNatClampNeg) (gh k.toNatClampNeg) cl cx0 cx1 cy0 cy1 ic) (fun t => gd (4096 * k.toNatClampNeg + t)) (gd (4096 * k.toNatClampNeg + ixP x y)) co st1 dn).2.1 dn)) (rcO (opnJ (gw k.toNatClampNeg) (gh k.toNatClampNeg) cl cx0 cx1 cy0 cy1 ic) (fun t => gd (4096 * k.toNatClampNeg + t)) (gd (4096 * k.toNatClampNeg + ixP x y)) co st1 dn) (i + 1)) = rcS (opnJ (gw k.toNatClampNeg) (gh k.toNatClampNeg) cl cx0 cx1 cy0 cy1 ic) (fun t => gd (4096 * k.toNatClampNeg + t)) (gd (4096 * k.toNatClampNeg + ixP x y)) y_72 y_73 (rcI (opnJ (gw k.toNatClampNeg) (gh k.toNatClampNeg) cl cx0 cx1 cy0 cy1 ic) (fun t => gd (4096 * k.toNatClampNeg + t)) (gd (4096 * k.toNatClampNeg + ixP x y)) co (pX ((rcO (opnJ (gw k.toNatClampNeg) (gh k.toNatClampNeg) cl cx0 cx1 cy0 cy1 ic) (fun t => gd (4096 * k.toNatClampNeg + t)) (gd (4096 * k.toNatClampNeg + ixP x y)) co st1 dn).2.1 dn)) (pY ((rcO (opnJ (gw k.toNatClampNeg) (gh k.toNatClampNeg) cl cx0 cx1 cy0 cy1 ic) (fun t => gd (4096 * k.toNatClampNeg + t)) (gd (4096 * k.toNatClampNeg + ixP x y)) co st1 dn).2.1 dn)) (rcO (opnJ (gw k.toNatClampNeg) (gh k.toNatClampNeg) cl cx0 cx1 cy0 cy1 ic) (fun t => gd (4096 * k.toNatClampNeg + t)) (gd (4096 * k.toNatClampNeg + ixP x y)) co st1 dn) i) := by rw [hay_72, hay_73]; exact if_pos (Or.inr (Or.inl (hdy_19.symm.trans c_70)))
                        have hSt : (rcI (opnJ (gw k.toNatClampNeg) (gh k.toNatClampNeg) cl cx0 cx1 cy0 cy1 ic) (fun t => gd (4096 * k.toNatClampNeg + t)) (gd (4096 * k.toNatClampNeg + ixP x y)) co (pX ((rcO (opnJ (gw k.toNatClampNeg) (gh k.toNatClampNeg) cl cx0 cx1 cy0 cy1 ic) (fun t => gd (4096 * k.toNatClampNeg + t)) (gd (4096 * k.toNatClampNeg + ixP x y)) co st1 dn).2.1 dn)) (pY ((rcO (opnJ (gw k.toNatClampNeg) (gh k.toNatClampNeg) cl cx0 cx1 cy0 cy1 ic) (fun t => gd (4096 * k.toNatClampNeg + t)) (gd (4096 * k.toNatClampNeg + ixP x y)) co st1 dn).2.1 dn)) (rcO (opnJ (gw k.toNatClampNeg) (gh k.toNatClampNeg) cl cx0 cx1 cy0 cy1 ic) (fun t => gd (4096 * k.toNatClampNeg + t)) (gd (4096 * k.toNatClampNeg + ixP x y)) co st1 dn) (i + 1)) = (rcI (opnJ (gw k.toNatClampNeg) (gh k.toNatClampNeg) cl cx0 cx1 cy0 cy1 ic) (fun t => gd (4096 * k.toNatClampNeg + t)) (gd (4096 * k.toNatClampNeg + ixP x y)) co (pX ((rcO (opnJ (gw k.toNatClampNeg) (gh k.toNatClampNeg) cl cx0 cx1 cy0 cy1 ic) (fun t => gd (4096 * k.toNatClampNeg + t)) (gd (4096 * k.toNatClampNeg + ixP x y)) co st1 dn).2.1 dn)) (pY ((rcO (opnJ (gw k.toNatClampNeg) (gh k.toNatClampNeg) cl cx0 cx1 cy0 cy1 ic) (fun t => gd (4096 * k.toNatClampNeg + t)) (gd (4096 * k.toNatClampNeg + ixP x y)) co st1 dn).2.1 dn)) (rcO (opnJ (gw k.toNatClampNeg) (gh k.toNatClampNeg) cl cx0 cx1 cy0 cy1 ic) (fun t => gd (4096 * k.toNatClampNeg + t)) (gd (4096 * k.toNatClampNeg + ixP x y)) co st1 dn) i) := hS1.trans (if_neg (fun q => q.1.1.2.elim c_78 (fun q => f_100 q)))
                        exact ih_15 (i + 1) y_117 z7 gu gs _ _ _ (by omega) (by omega) (by rw [ey_117, ex_i]; exact nI_1 i) (by rw [hSt]; exact f7) (by rw [hSt]; exact f3) (by rw [hSt]; exact f2) (by rw [hSt]; exact fcn) (hP.sub (ws' := [(m1, .inl (cI, 4, .inl gw)), (m2, .inl (cI, 4, .inl gh)), (m3, .inl (cI, 16384, .inl gd)), (m13, .inl (cI, 4096, .inl gs)), (h0, .inr (9, [.ref m1, .ref m2, .ref m3, .int ik, .int wy, .int op, .int cl, .int cx0, .int cx1, .int cy0, .int cy1, .int ds, .ref m4, .ref m5, .ref m6, .ref m7, .ref m8, .ref m9, .int pn, .ref m10, .ref m11, .ref m12, .ref m13])), (m4, .inl (cZ, 4096, .inl gu))]) [3, 4, 0, 1, 5, 2] rfl) (hD.sub (ws' := [(m1, .inl (cI, 4, .inl gw)), (m2, .inl (cI, 4, .inl gh)), (m3, .inl (cI, 16384, .inl gd)), (m13, .inl (cI, 4096, .inl gs)), (h0, .inr (9, [.ref m1, .ref m2, .ref m3, .int ik, .int wy, .int op, .int cl, .int cx0, .int cx1, .int cy0, .int cy1, .int ds, .ref m4, .ref m5, .ref m6, .ref m7, .ref m8, .ref m9, .int pn, .ref m10, .ref m11, .ref m12, .ref m13])), (m4, .inl (cZ, 4096, .inl gu))]) [3, 4, 0, 1, 5, 2] (by decide) rfl) hS (lv_sub hl [0, 3, 4, 5, 6, 7, 8, 9, 10, 11, 12, 13] rfl)
                · skip
                  have f_71 : ¬ (y_19.toInt = 0) := fn_eq rfl (by decide) c_70
                  refine lv_iload hx hb dX9_joins_120 (lv_at hl 0 rfl) ?_
                  refine lv_if_ne (tgt := 238) hx hb dX9_joins_122 (by decide) (fun c_118 => ?_) (fun c_118 => ?_)
                  · skip
                    have f_119 : ¬ (y_21.toInt = 0) := fn_eq rfl (by decide) c_118
                    obtain ⟨y_120, ey_120⟩ : ∃ y : Int32, y = x11 + 1 := ⟨_, rfl⟩
                    refine lv_iinc (v := y_120) (lv' := [(11, .int y_120), (13, .int y_21), (12, .int y_19), (8, .int y_13), (10, .int y_12), (9, .int y_11), (7, .int z7), (6, .int (gd (4096 * k.toNatClampNeg + ixP x y))), (0, .ref h0), (1, .int k), (2, .int x), (3, .int y), (4, .int co), (5, .int ic)]) hx hb dX9_joins_238 hl (k := 2) rfl (by rw [ey_120]; rfl) (by decide) rfl (fun ls hl => ?_)
                    refine lv_goto (tgt := 87) hx hb dX9_joins_241 (by decide) ?_
                    have hSt : (rcI (opnJ (gw k.toNatClampNeg) (gh k.toNatClampNeg) cl cx0 cx1 cy0 cy1 ic) (fun t => gd (4096 * k.toNatClampNeg + t)) (gd (4096 * k.toNatClampNeg + ixP x y)) co (pX ((rcO (opnJ (gw k.toNatClampNeg) (gh k.toNatClampNeg) cl cx0 cx1 cy0 cy1 ic) (fun t => gd (4096 * k.toNatClampNeg + t)) (gd (4096 * k.toNatClampNeg + ixP x y)) co st1 dn).2.1 dn)) (pY ((rcO (opnJ (gw k.toNatClampNeg) (gh k.toNatClampNeg) cl cx0 cx1 cy0 cy1 ic) (fun t => gd (4096 * k.toNatClampNeg + t)) (gd (4096 * k.toNatClampNeg + ixP x y)) co st1 dn).2.1 dn)) (rcO (opnJ (gw k.toNatClampNeg) (gh k.toNatClampNeg) cl cx0 cx1 cy0 cy1 ic) (fun t => gd (4096 * k.toNatClampNeg + t)) (gd (4096 * k.toNatClampNeg + ixP x y)) co st1 dn) (i + 1)) = (rcI (opnJ (gw k.toNatClampNeg) (gh k.toNatClampNeg) cl cx0 cx1 cy0 cy1 ic) (fun t => gd (4096 * k.toNatClampNeg + t)) (gd (4096 * k.toNatClampNeg + ixP x y)) co (pX ((rcO (opnJ (gw k.toNatClampNeg) (gh k.toNatClampNeg) cl cx0 cx1 cy0 cy1 ic) (fun t => gd (4096 * k.toNatClampNeg + t)) (gd (4096 * k.toNatClampNeg + ixP x y)) co st1 dn).2.1 dn)) (pY ((rcO (opnJ (gw k.toNatClampNeg) (gh k.toNatClampNeg) cl cx0 cx1 cy0 cy1 ic) (fun t => gd (4096 * k.toNatClampNeg + t)) (gd (4096 * k.toNatClampNeg + ixP x y)) co st1 dn).2.1 dn)) (rcO (opnJ (gw k.toNatClampNeg) (gh k.toNatClampNeg) cl cx0 cx1 cy0 cy1 ic) (fun t => gd (4096 * k.toNatClampNeg + t)) (gd (4096 * k.toNatClampNeg + ixP x y)) co st1 dn) i) := if_neg (fun q => q.elim (fun q => q c_22) (fun q => q.elim (fun q => c_70 (hdy_19.trans q)) (fun q => c_118 (hdy_21.trans q))))
                    exact ih_15 (i + 1) y_120 z7 gu gs _ _ _ (by omega) (by omega) (by rw [ey_120, ex_i]; exact nI_1 i) (by rw [hSt]; exact f7) (by rw [hSt]; exact f3) (by rw [hSt]; exact f2) (by rw [hSt]; exact fcn) (hP.sub (ws' := [(m1, .inl (cI, 4, .inl gw)), (m2, .inl (cI, 4, .inl gh)), (m3, .inl (cI, 16384, .inl gd)), (m13, .inl (cI, 4096, .inl gs)), (h0, .inr (9, [.ref m1, .ref m2, .ref m3, .int ik, .int wy, .int op, .int cl, .int cx0, .int cx1, .int cy0, .int cy1, .int ds, .ref m4, .ref m5, .ref m6, .ref m7, .ref m8, .ref m9, .int pn, .ref m10, .ref m11, .ref m12, .ref m13])), (m4, .inl (cZ, 4096, .inl gu))]) [0, 1, 2, 3, 4, 5] rfl) (hD.sub (ws' := [(m1, .inl (cI, 4, .inl gw)), (m2, .inl (cI, 4, .inl gh)), (m3, .inl (cI, 16384, .inl gd)), (m13, .inl (cI, 4096, .inl gs)), (h0, .inr (9, [.ref m1, .ref m2, .ref m3, .int ik, .int wy, .int op, .int cl, .int cx0, .int cx1, .int cy0, .int cy1, .int ds, .ref m4, .ref m5, .ref m6, .ref m7, .ref m8, .ref m9, .int pn, .ref m10, .ref m11, .ref m12, .ref m13])), (m4, .inl (cZ, 4096, .inl gu))]) [0, 1, 2, 3, 4, 5] (by decide) rfl) hS (lv_sub hl [0, 3, 4, 5, 6, 7, 8, 9, 10, 11, 12, 13] rfl)
                  · skip
                    have f_119 : y_21.toInt = 0 := f_eq rfl (by decide) c_118
                    refine lv_aload_n hx hb dX9_joins_125 rfl (lv_at hl 8 rfl) ?_
                    refine lv_iload_n hx hb dX9_joins_126 rfl (lv_at hl 9 rfl) ?_
                    refine lv_iload hx hb dX9_joins_127 (lv_at hl 5 rfl) ?_
                    refine lv_iload hx hb dX9_joins_129 (lv_at hl 1 rfl) ?_
                    refine lv_iadd hx hb dX9_joins_131 ?_
                    refine lv_topi (fun y_121 ey_121 => ?_)
                    have hay_121 : y_121 = pX ((rcO (opnJ (gw k.toNatClampNeg) (gh k.toNatClampNeg) cl cx0 cx1 cy0 cy1 ic) (fun t => gd (4096 * k.toNatClampNeg + t)) (gd (4096 * k.toNatClampNeg + ixP x y)) co st1 dn).2.1 dn) + dX i := by rw [ey_121, hp9, hdy_19]
                    refine lv_iload hx hb dX9_joins_132 (lv_at hl 4 rfl) ?_
                    refine lv_iload hx hb dX9_joins_134 (lv_at hl 0 rfl) ?_
                    refine lv_iadd hx hb dX9_joins_136 ?_
                    refine lv_topi (fun y_122 ey_122 => ?_)
                    have hay_122 : y_122 = pY ((rcO (opnJ (gw k.toNatClampNeg) (gh k.toNatClampNeg) cl cx0 cx1 cy0 cy1 ic) (fun t => gd (4096 * k.toNatClampNeg + t)) (gd (4096 * k.toNatClampNeg + ixP x y)) co st1 dn).2.1 dn) + dY i := by rw [ey_122, hp10, hdy_21]
                    have hPc := hP.sub (ws' := [(h0, .inr (9, [.ref m1, .ref m2, .ref m3, .int ik, .int wy, .int op, .int cl, .int cx0, .int cx1, .int cy0, .int cy1, .int ds, .ref m4, .ref m5, .ref m6, .ref m7, .ref m8, .ref m9, .int pn, .ref m10, .ref m11, .ref m12, .ref m13])), (m1, .inl (cI, 4, .inl gw)), (m2, .inl (cI, 4, .inl gh))]) [4, 0, 1] rfl
                    have hDc := hD.sub (ws' := [(h0, .inr (9, [.ref m1, .ref m2, .ref m3, .int ik, .int wy, .int op, .int cl, .int cx0, .int cx1, .int cy0, .int cy1, .int ds, .ref m4, .ref m5, .ref m6, .ref m7, .ref m8, .ref m9, .int pn, .ref m10, .ref m11, .ref m12, .ref m13])), (m1, .inl (cI, 4, .inl gw)), (m2, .inl (cI, 4, .inl gh))]) [4, 0, 1] (by decide) rfl
                    have hKc := hK.sub (tys' := [(cI, .int)]) [0] rfl
                    have hFc := va_free (wc := [(h0, .inr (9, [.ref m1, .ref m2, .ref m3, .int ik, .int wy, .int op, .int cl, .int cx0, .int cx1, .int cy0, .int cy1, .int ds, .ref m4, .ref m5, .ref m6, .ref m7, .ref m8, .ref m9, .int pn, .ref m10, .ref m11, .ref m12, .ref m13])), (m1, .inl (cI, 4, .inl gw)), (m2, .inl (cI, 4, .inl gh))]) hD hS hA [4, 0, 1] rfl
                    refine va_calli (va_runV (As := [.int k, .int y_121, .int y_122]) (rest := []) ⟨hx, hb, hml, hown, hts⟩ (k_X9_isOn l D H.size h0 m1 m2 m3 m4 m5 m6 m7 m8 m9 m10 m11 m12 m13 ik wy op cl cx0 cx1 cy0 cy1 ds pn gw gh k y_121 y_122 cI (by omega)) (cwV 3 hts (gV bw_433 bw_418 bw_419 bw_391 bw_417) rfl rfl rfl (by decide +kernel) ⟨(by rw [hR]; exact Nat.le_of_ble_eq_true rfl), (by rw [hR]; exact Nat.le_of_ble_eq_true rfl)⟩) ⟨cP_blind, va_recv hKc hPc (ci := 9) (q0 := 0) rfl rfl, cP_at hPc hKc hDc hN⟩ rfl rfl hl.1 rfl (lv_room (Nat.le_of_ble_eq_true rfl)) dX9_joins_137 ⟨(by rw [hR]; exact Nat.le_of_ble_eq_true rfl), (by rw [hR]; exact Nat.le_of_ble_eq_true rfl)⟩) hS (fun q _ h => hFc q h) hFc (fun r_123 u9 t9 H1 locs ht hvm hr_123 hB hz1 hk1 hS => ?_)
                    try dsimp only at hr_123
                    obtain ⟨hP1, hK1, hD1⟩ := hB
                    rw [ht] at hP1
                    obtain ⟨hP, hD⟩ := va_join (wr := [(m3, .inl (cI, 16384, .inl gd)), (m13, .inl (cI, 4096, .inl gs)), (m4, .inl (cZ, 4096, .inl gu))]) (w1 := [(h0, .inr (9, [.ref m1, .ref m2, .ref m3, .int ik, .int wy, .int op, .int cl, .int cx0, .int cx1, .int cy0, .int cy1, .int ds, .ref m4, .ref m5, .ref m6, .ref m7, .ref m8, .ref m9, .int pn, .ref m10, .ref m11, .ref m12, .ref m13])), (m1, .inl (cI, 4, .inl gw)), (m2, .inl (cI, 4, .inl gh))]) hP hD [4, 0, 1] [2, 3, 5] rfl rfl (by decide) (by decide) hk1 hFc hP1 hD1
                    clear hz1 hk1 hFc hKc hDc hPc
                    generalize H1 = H at hP hS ⊢
                    have hP : va_P D vwCl [(m3, .inl (cI, 16384, .inl gd)), (m13, .inl (cI, 4096, .inl gs)), (m4, .inl (cZ, 4096, .inl gu)), (h0, .inr (9, [.ref m1, .ref m2, .ref m3, .int ik, .int wy, .int op, .int cl, .int cx0, .int cx1, .int cy0, .int cy1, .int ds, .ref m4, .ref m5, .ref m6, .ref m7, .ref m8, .ref m9, .int pn, .ref m10, .ref m11, .ref m12, .ref m13])), (m1, .inl (cI, 4, .inl gw)), (m2, .inl (cI, 4, .inl gh))] H := hP
                    have hD : va_D A [(m3, .inl (cI, 16384, .inl gd)), (m13, .inl (cI, 4096, .inl gs)), (m4, .inl (cZ, 4096, .inl gu)), (h0, .inr (9, [.ref m1, .ref m2, .ref m3, .int ik, .int wy, .int op, .int cl, .int cx0, .int cx1, .int cy0, .int cy1, .int ds, .ref m4, .ref m5, .ref m6, .ref m7, .ref m8, .ref m9, .int pn, .ref m10, .ref m11, .ref m12, .ref m13])), (m1, .inl (cI, 4, .inl gw)), (m2, .inl (cI, 4, .inl gh))] := hD
                    refine lv_if_eq (tgt := 238) hx hb dX9_joins_140 (by decide) (fun c_124 => ?_) (fun c_124 => ?_)
                    · skip
                      have f_125 := bz0 hr_123 c_124
                      obtain ⟨y_126, ey_126⟩ : ∃ y : Int32, y = x11 + 1 := ⟨_, rfl⟩
                      refine lv_iinc (v := y_126) (lv' := [(11, .int y_126), (13, .int y_21), (12, .int y_19), (8, .int y_13), (10, .int y_12), (9, .int y_11), (7, .int z7), (6, .int (gd (4096 * k.toNatClampNeg + ixP x y))), (0, .ref h0), (1, .int k), (2, .int x), (3, .int y), (4, .int co), (5, .int ic)]) hx hb dX9_joins_238 hl (k := 2) rfl (by rw [ey_126]; rfl) (by decide) rfl (fun ls hl => ?_)
                      refine lv_goto (tgt := 87) hx hb dX9_joins_241 (by decide) ?_
                      have hS1 : (rcI (opnJ (gw k.toNatClampNeg) (gh k.toNatClampNeg) cl cx0 cx1 cy0 cy1 ic) (fun t => gd (4096 * k.toNatClampNeg + t)) (gd (4096 * k.toNatClampNeg + ixP x y)) co (pX ((rcO (opnJ (gw k.toNatClampNeg) (gh k.toNatClampNeg) cl cx0 cx1 cy0 cy1 ic) (fun t => gd (4096 * k.toNatClampNeg + t)) (gd (4096 * k.toNatClampNeg + ixP x y)) co st1 dn).2.1 dn)) (pY ((rcO (opnJ (gw k.toNatClampNeg) (gh k.toNatClampNeg) cl cx0 cx1 cy0 cy1 ic) (fun t => gd (4096 * k.toNatClampNeg + t)) (gd (4096 * k.toNatClampNeg + ixP x y)) co st1 dn).2.1 dn)) (rcO (opnJ (gw k.toNatClampNeg) (gh k.toNatClampNeg) cl cx0 cx1 cy0 cy1 ic) (fun t => gd (4096 * k.toNatClampNeg + t)) (gd (4096 * k.toNatClampNeg + ixP x y)) co st1 dn) (i + 1)) = rcS (opnJ (gw k.toNatClampNeg) (gh k.toNatClampNeg) cl cx0 cx1 cy0 cy1 ic) (fun t => gd (4096 * k.toNatClampNeg + t)) (gd (4096 * k.toNatClampNeg + ixP x y)) y_121 y_122 (rcI (opnJ (gw k.toNatClampNeg) (gh k.toNatClampNeg) cl cx0 cx1 cy0 cy1 ic) (fun t => gd (4096 * k.toNatClampNeg + t)) (gd (4096 * k.toNatClampNeg + ixP x y)) co (pX ((rcO (opnJ (gw k.toNatClampNeg) (gh k.toNatClampNeg) cl cx0 cx1 cy0 cy1 ic) (fun t => gd (4096 * k.toNatClampNeg + t)) (gd (4096 * k.toNatClampNeg + ixP x y)) co st1 dn).2.1 dn)) (pY ((rcO (opnJ (gw k.toNatClampNeg) (gh k.toNatClampNeg) cl cx0 cx1 cy0 cy1 ic) (fun t => gd (4096 * k.toNatClampNeg + t)) (gd (4096 * k.toNatClampNeg + ixP x y)) co st1 dn).2.1 dn)) (rcO (opnJ (gw k.toNatClampNeg) (gh k.toNatClampNeg) cl cx0 cx1 cy0 cy1 ic) (fun t => gd (4096 * k.toNatClampNeg + t)) (gd (4096 * k.toNatClampNeg + ixP x y)) co st1 dn) i) := by rw [hay_121, hay_122]; exact if_pos (Or.inr (Or.inr (hdy_21.symm.trans c_118)))
                      have hSt : (rcI (opnJ (gw k.toNatClampNeg) (gh k.toNatClampNeg) cl cx0 cx1 cy0 cy1 ic) (fun t => gd (4096 * k.toNatClampNeg + t)) (gd (4096 * k.toNatClampNeg + ixP x y)) co (pX ((rcO (opnJ (gw k.toNatClampNeg) (gh k.toNatClampNeg) cl cx0 cx1 cy0 cy1 ic) (fun t => gd (4096 * k.toNatClampNeg + t)) (gd (4096 * k.toNatClampNeg + ixP x y)) co st1 dn).2.1 dn)) (pY ((rcO (opnJ (gw k.toNatClampNeg) (gh k.toNatClampNeg) cl cx0 cx1 cy0 cy1 ic) (fun t => gd (4096 * k.toNatClampNeg + t)) (gd (4096 * k.toNatClampNeg + ixP x y)) co st1 dn).2.1 dn)) (rcO (opnJ (gw k.toNatClampNeg) (gh k.toNatClampNeg) cl cx0 cx1 cy0 cy1 ic) (fun t => gd (4096 * k.toNatClampNeg + t)) (gd (4096 * k.toNatClampNeg + ixP x y)) co st1 dn) (i + 1)) = (rcI (opnJ (gw k.toNatClampNeg) (gh k.toNatClampNeg) cl cx0 cx1 cy0 cy1 ic) (fun t => gd (4096 * k.toNatClampNeg + t)) (gd (4096 * k.toNatClampNeg + ixP x y)) co (pX ((rcO (opnJ (gw k.toNatClampNeg) (gh k.toNatClampNeg) cl cx0 cx1 cy0 cy1 ic) (fun t => gd (4096 * k.toNatClampNeg + t)) (gd (4096 * k.toNatClampNeg + ixP x y)) co st1 dn).2.1 dn)) (pY ((rcO (opnJ (gw k.toNatClampNeg) (gh k.toNatClampNeg) cl cx0 cx1 cy0 cy1 ic) (fun t => gd (4096 * k.toNatClampNeg + t)) (gd (4096 * k.toNatClampNeg + ixP x y)) co st1 dn).2.1 dn)) (rcO (opnJ (gw k.toNatClampNeg) (gh k.toNatClampNeg) cl cx0 cx1 cy0 cy1 ic) (fun t => gd (4096 * k.toNatClampNeg + t)) (gd (4096 * k.toNatClampNeg + ixP x y)) co st1 dn) i) := hS1.trans (if_neg (fun q => f_125 q.1.1.1))
                      exact ih_15 (i + 1) y_126 z7 gu gs _ _ _ (by omega) (by omega) (by rw [ey_126, ex_i]; exact nI_1 i) (by rw [hSt]; exact f7) (by rw [hSt]; exact f3) (by rw [hSt]; exact f2) (by rw [hSt]; exact fcn) (hP.sub (ws' := [(m1, .inl (cI, 4, .inl gw)), (m2, .inl (cI, 4, .inl gh)), (m3, .inl (cI, 16384, .inl gd)), (m13, .inl (cI, 4096, .inl gs)), (h0, .inr (9, [.ref m1, .ref m2, .ref m3, .int ik, .int wy, .int op, .int cl, .int cx0, .int cx1, .int cy0, .int cy1, .int ds, .ref m4, .ref m5, .ref m6, .ref m7, .ref m8, .ref m9, .int pn, .ref m10, .ref m11, .ref m12, .ref m13])), (m4, .inl (cZ, 4096, .inl gu))]) [4, 5, 0, 1, 3, 2] rfl) (hD.sub (ws' := [(m1, .inl (cI, 4, .inl gw)), (m2, .inl (cI, 4, .inl gh)), (m3, .inl (cI, 16384, .inl gd)), (m13, .inl (cI, 4096, .inl gs)), (h0, .inr (9, [.ref m1, .ref m2, .ref m3, .int ik, .int wy, .int op, .int cl, .int cx0, .int cx1, .int cy0, .int cy1, .int ds, .ref m4, .ref m5, .ref m6, .ref m7, .ref m8, .ref m9, .int pn, .ref m10, .ref m11, .ref m12, .ref m13])), (m4, .inl (cZ, 4096, .inl gu))]) [4, 5, 0, 1, 3, 2] (by decide) rfl) hS (lv_sub hl [0, 3, 4, 5, 6, 7, 8, 9, 10, 11, 12, 13] rfl)
                    · skip
                      have f_125 := bz1 hr_123 c_124
                      refine lv_iload hx hb dX9_joins_143 (lv_at hl 13 rfl) ?_
                      refine lv_if_eq (tgt := 168) hx hb dX9_joins_145 (by decide) (fun c_127 => ?_) (fun c_127 => ?_)
                      · skip
                        have f_128 : ic.toInt = 0 := f_eq rfl (by decide) c_127
                        refine lv_bipush (v := 64) hx hb dX9_joins_168 (by decide) ?_
                        refine lv_iload hx hb dX9_joins_170 (lv_at hl 4 rfl) ?_
                        refine lv_iload hx hb dX9_joins_172 (lv_at hl 0 rfl) ?_
                        refine lv_iadd hx hb dX9_joins_174 ?_
                        refine lv_topi (fun y_129 ey_129 => ?_)
                        have hay_129 : y_129 = pY ((rcO (opnJ (gw k.toNatClampNeg) (gh k.toNatClampNeg) cl cx0 cx1 cy0 cy1 ic) (fun t => gd (4096 * k.toNatClampNeg + t)) (gd (4096 * k.toNatClampNeg + ixP x y)) co st1 dn).2.1 dn) + dY i := by rw [ey_129, hp10, hdy_21]
                        refine lv_imul hx hb dX9_joins_175 ?_
                        refine lv_topi (fun y_130 ey_130 => ?_)
                        refine lv_iload hx hb dX9_joins_176 (lv_at hl 5 rfl) ?_
                        refine lv_iadd hx hb dX9_joins_178 ?_
                        refine lv_topi (fun y_131 ey_131 => ?_)
                        refine lv_iload hx hb dX9_joins_179 (lv_at hl 1 rfl) ?_
                        refine lv_iadd hx hb dX9_joins_181 ?_
                        refine lv_topi (fun y_132 ey_132 => ?_)
                        have htoy_132 : y_132 = 64 * y_122 + y_121 := by rw [ey_132, ey_131, ey_130, ey_129, ey_122, ey_121, Int32.add_assoc]
                        have hiny_132 : vp_in y_132 4096 := by rw [htoy_132]; exact ix_in2 (by omega) (by omega) (by omega) (by omega)
                        have hixy_132 : y_132 = nI (ixP y_121 y_122) := by rw [htoy_132]; exact ix_nI2 (by omega) (by omega) (by omega) (by omega)
                        have hxcy_132 : y_132.toNatClampNeg = ixP y_121 y_122 := by rw [hixy_132]; exact nI_clamp (by have := ix_lt (x := y_121) (y := y_122) (by omega) (by omega) (by omega) (by omega); omega)
                        refine lv_istore (lv' := [(14, .int y_132), (13, .int y_21), (12, .int y_19), (11, .int x11), (8, .int y_13), (10, .int y_12), (9, .int y_11), (7, .int z7), (6, .int (gd (4096 * k.toNatClampNeg + ixP x y))), (0, .ref h0), (1, .int k), (2, .int x), (3, .int y), (4, .int co), (5, .int ic)]) hx hb dX9_joins_182 hl (by decide) rfl (fun ls hl => ?_)
                        refine lv_aload_n hx hb dX9_joins_184 rfl (lv_at hl 9 rfl) ?_
                        refine va_get (D := D) (ci := 9) (v := .ref m4) (C := RX9) (T := TX9) (N := 23) hx hb hts hi_X9 hown hK hP 3 rfl rfl 12 (by decide) (hts _ bw_404) (fun _ h9 => h9) rfl dX9_joins_185 ?_
                        refine lv_iload hx hb dX9_joins_188 (lv_at hl 0 rfl) ?_
                        refine va_zald hx hb hK hP 2 1 rfl rfl hiny_132 dX9_joins_190 ?_
                        refine lv_if_ne (tgt := 238) hx hb dX9_joins_191 (by decide) (fun c_133 => ?_) (fun c_133 => ?_)
                        · skip
                          have f_134 : ¬ ((gu y_132.toNatClampNeg).toInt = 0) := fn_eq rfl (by decide) c_133
                          obtain ⟨y_135, ey_135⟩ : ∃ y : Int32, y = x11 + 1 := ⟨_, rfl⟩
                          refine lv_iinc (v := y_135) (lv' := [(11, .int y_135), (14, .int y_132), (13, .int y_21), (12, .int y_19), (8, .int y_13), (10, .int y_12), (9, .int y_11), (7, .int z7), (6, .int (gd (4096 * k.toNatClampNeg + ixP x y))), (0, .ref h0), (1, .int k), (2, .int x), (3, .int y), (4, .int co), (5, .int ic)]) hx hb dX9_joins_238 hl (k := 3) rfl (by rw [ey_135]; rfl) (by decide) rfl (fun ls hl => ?_)
                          refine lv_goto (tgt := 87) hx hb dX9_joins_241 (by decide) ?_
                          have hS1 : (rcI (opnJ (gw k.toNatClampNeg) (gh k.toNatClampNeg) cl cx0 cx1 cy0 cy1 ic) (fun t => gd (4096 * k.toNatClampNeg + t)) (gd (4096 * k.toNatClampNeg + ixP x y)) co (pX ((rcO (opnJ (gw k.toNatClampNeg) (gh k.toNatClampNeg) cl cx0 cx1 cy0 cy1 ic) (fun t => gd (4096 * k.toNatClampNeg + t)) (gd (4096 * k.toNatClampNeg + ixP x y)) co st1 dn).2.1 dn)) (pY ((rcO (opnJ (gw k.toNatClampNeg) (gh k.toNatClampNeg) cl cx0 cx1 cy0 cy1 ic) (fun t => gd (4096 * k.toNatClampNeg + t)) (gd (4096 * k.toNatClampNeg + ixP x y)) co st1 dn).2.1 dn)) (rcO (opnJ (gw k.toNatClampNeg) (gh k.toNatClampNeg) cl cx0 cx1 cy0 cy1 ic) (fun t => gd (4096 * k.toNatClampNeg + t)) (gd (4096 * k.toNatClampNeg + ixP x y)) co st1 dn) (i + 1)) = rcS (opnJ (gw k.toNatClampNeg) (gh k.toNatClampNeg) cl cx0 cx1 cy0 cy1 ic) (fun t => gd (4096 * k.toNatClampNeg + t)) (gd (4096 * k.toNatClampNeg + ixP x y)) y_121 y_122 (rcI (opnJ (gw k.toNatClampNeg) (gh k.toNatClampNeg) cl cx0 cx1 cy0 cy1 ic) (fun t => gd (4096 * k.toNatClampNeg + t)) (gd (4096 * k.toNatClampNeg + ixP x y)) co (pX ((rcO (opnJ (gw k.toNatClampNeg) (gh k.toNatClampNeg) cl cx0 cx1 cy0 cy1 ic) (fun t => gd (4096 * k.toNatClampNeg + t)) (gd (4096 * k.toNatClampNeg + ixP x y)) co st1 dn).2.1 dn)) (pY ((rcO (opnJ (gw k.toNatClampNeg) (gh k.toNatClampNeg) cl cx0 cx1 cy0 cy1 ic) (fun t => gd (4096 * k.toNatClampNeg + t)) (gd (4096 * k.toNatClampNeg + ixP x y)) co st1 dn).2.1 dn)) (rcO (opnJ (gw k.toNatClampNeg) (gh k.toNatClampNeg) cl cx0 cx1 cy0 cy1 ic) (fun t => gd (4096 * k.toNatClampNeg + t)) (gd (4096 * k.toNatClampNeg + ixP x y)) co st1 dn) i) := by rw [hay_121, hay_122]; exact if_pos (Or.inr (Or.inr (hdy_21.symm.trans c_118)))
                          have hSt : (rcI (opnJ (gw k.toNatClampNeg) (gh k.toNatClampNeg) cl cx0 cx1 cy0 cy1 ic) (fun t => gd (4096 * k.toNatClampNeg + t)) (gd (4096 * k.toNatClampNeg + ixP x y)) co (pX ((rcO (opnJ (gw k.toNatClampNeg) (gh k.toNatClampNeg) cl cx0 cx1 cy0 cy1 ic) (fun t => gd (4096 * k.toNatClampNeg + t)) (gd (4096 * k.toNatClampNeg + ixP x y)) co st1 dn).2.1 dn)) (pY ((rcO (opnJ (gw k.toNatClampNeg) (gh k.toNatClampNeg) cl cx0 cx1 cy0 cy1 ic) (fun t => gd (4096 * k.toNatClampNeg + t)) (gd (4096 * k.toNatClampNeg + ixP x y)) co st1 dn).2.1 dn)) (rcO (opnJ (gw k.toNatClampNeg) (gh k.toNatClampNeg) cl cx0 cx1 cy0 cy1 ic) (fun t => gd (4096 * k.toNatClampNeg + t)) (gd (4096 * k.toNatClampNeg + ixP x y)) co st1 dn) (i + 1)) = (rcI (opnJ (gw k.toNatClampNeg) (gh k.toNatClampNeg) cl cx0 cx1 cy0 cy1 ic) (fun t => gd (4096 * k.toNatClampNeg + t)) (gd (4096 * k.toNatClampNeg + ixP x y)) co (pX ((rcO (opnJ (gw k.toNatClampNeg) (gh k.toNatClampNeg) cl cx0 cx1 cy0 cy1 ic) (fun t => gd (4096 * k.toNatClampNeg + t)) (gd (4096 * k.toNatClampNeg + ixP x y)) co st1 dn).2.1 dn)) (pY ((rcO (opnJ (gw k.toNatClampNeg) (gh k.toNatClampNeg) cl cx0 cx1 cy0 cy1 ic) (fun t => gd (4096 * k.toNatClampNeg + t)) (gd (4096 * k.toNatClampNeg + ixP x y)) co st1 dn).2.1 dn)) (rcO (opnJ (gw k.toNatClampNeg) (gh k.toNatClampNeg) cl cx0 cx1 cy0 cy1 ic) (fun t => gd (4096 * k.toNatClampNeg + t)) (gd (4096 * k.toNatClampNeg + ixP x y)) co st1 dn) i) := hS1.trans (if_neg (fun q => c_133 (by rw [f3, hxcy_132]; exact q.2.1)))
                          exact ih_15 (i + 1) y_135 z7 gu gs _ _ _ (by omega) (by omega) (by rw [ey_135, ex_i]; exact nI_1 i) (by rw [hSt]; exact f7) (by rw [hSt]; exact f3) (by rw [hSt]; exact f2) (by rw [hSt]; exact fcn) (hP.sub (ws' := [(m1, .inl (cI, 4, .inl gw)), (m2, .inl (cI, 4, .inl gh)), (m3, .inl (cI, 16384, .inl gd)), (m13, .inl (cI, 4096, .inl gs)), (h0, .inr (9, [.ref m1, .ref m2, .ref m3, .int ik, .int wy, .int op, .int cl, .int cx0, .int cx1, .int cy0, .int cy1, .int ds, .ref m4, .ref m5, .ref m6, .ref m7, .ref m8, .ref m9, .int pn, .ref m10, .ref m11, .ref m12, .ref m13])), (m4, .inl (cZ, 4096, .inl gu))]) [4, 5, 0, 1, 3, 2] rfl) (hD.sub (ws' := [(m1, .inl (cI, 4, .inl gw)), (m2, .inl (cI, 4, .inl gh)), (m3, .inl (cI, 16384, .inl gd)), (m13, .inl (cI, 4096, .inl gs)), (h0, .inr (9, [.ref m1, .ref m2, .ref m3, .int ik, .int wy, .int op, .int cl, .int cx0, .int cx1, .int cy0, .int cy1, .int ds, .ref m4, .ref m5, .ref m6, .ref m7, .ref m8, .ref m9, .int pn, .ref m10, .ref m11, .ref m12, .ref m13])), (m4, .inl (cZ, 4096, .inl gu))]) [4, 5, 0, 1, 3, 2] (by decide) rfl) hS (lv_sub hl [0, 4, 5, 6, 7, 8, 9, 10, 11, 12, 13, 14] rfl)
                        · skip
                          have f_134 : (gu y_132.toNatClampNeg).toInt = 0 := f_eq rfl (by decide) c_133
                          refine lv_aload_n hx hb dX9_joins_194 rfl (lv_at hl 9 rfl) ?_
                          refine va_get (D := D) (ci := 9) (v := .ref m3) (C := RX9) (T := TX9) (N := 23) hx hb hts hi_X9 hown hK hP 3 rfl rfl 2 (by decide) (hts _ bw_398) (fun _ h9 => h9) rfl dX9_joins_195 ?_
                          refine lv_sipush (v := 4096) hx hb dX9_joins_198 (by decide) ?_
                          refine lv_iload_n hx hb dX9_joins_201 rfl (lv_at hl 10 rfl) ?_
                          refine lv_imul hx hb dX9_joins_202 ?_
                          refine lv_topi (fun y_136 ey_136 => ?_)
                          refine lv_iload hx hb dX9_joins_203 (lv_at hl 0 rfl) ?_
                          refine lv_iadd hx hb dX9_joins_205 ?_
                          refine lv_topi (fun y_137 ey_137 => ?_)
                          refine va_iald hx hb hK hP 0 0 rfl rfl (by rw [ey_137, ey_136]; exact kp_in (by omega) hiny_132) dX9_joins_206 ?_
                          refine my_fold (v := gd (4096 * k.toNatClampNeg + ixP y_121 y_122)) (congrArg gd (by rw [ey_137, ey_136]; exact dotx (gd := gd) (y := k) hkk hixy_132 (ix_lt (by omega) (by omega) (by omega) (by omega)) ek)) ?_
                          refine lv_iload hx hb dX9_joins_207 (lv_at hl 8 rfl) ?_
                          refine lv_icmp_eq (tgt := 215) hx hb dX9_joins_209 (by decide) (fun c_138 => ?_) (fun c_138 => ?_)
                          · skip
                            have f_139 : (gd (4096 * k.toNatClampNeg + ixP y_121 y_122)).toInt = (gd (4096 * k.toNatClampNeg + ixP x y)).toInt := f_eq rfl rfl c_138
                            refine lv_aload_n hx hb dX9_joins_215 rfl (lv_at hl 9 rfl) ?_
                            refine va_get (D := D) (ci := 9) (v := .ref m4) (C := RX9) (T := TX9) (N := 23) hx hb hts hi_X9 hown hK hP 3 rfl rfl 12 (by decide) (hts _ bw_404) (fun _ h9 => h9) rfl dX9_joins_216 ?_
                            refine lv_iload hx hb dX9_joins_219 (lv_at hl 0 rfl) ?_
                            refine lv_iconst (v := 1) hx hb dX9_joins_221 (by decide) ?_
                            refine va_zast hx hb hK hP hD hS 2 1 rfl rfl hiny_132 dX9_joins_222 (fun H locs hP hD hS => ?_)
                            have hP : va_P D vwCl [(m3, .inl (cI, 16384, .inl gd)), (m13, .inl (cI, 4096, .inl gs)), (m4, .inl (cZ, 4096, .inl (upd gu y_132.toNatClampNeg (vp_nar .boolean 1)))), (h0, .inr (9, [.ref m1, .ref m2, .ref m3, .int ik, .int wy, .int op, .int cl, .int cx0, .int cx1, .int cy0, .int cy1, .int ds, .ref m4, .ref m5, .ref m6, .ref m7, .ref m8, .ref m9, .int pn, .ref m10, .ref m11, .ref m12, .ref m13])), (m1, .inl (cI, 4, .inl gw)), (m2, .inl (cI, 4, .inl gh))] H := hP
                            have hD : va_D A [(m3, .inl (cI, 16384, .inl gd)), (m13, .inl (cI, 4096, .inl gs)), (m4, .inl (cZ, 4096, .inl (upd gu y_132.toNatClampNeg (vp_nar .boolean 1)))), (h0, .inr (9, [.ref m1, .ref m2, .ref m3, .int ik, .int wy, .int op, .int cl, .int cx0, .int cx1, .int cy0, .int cy1, .int ds, .ref m4, .ref m5, .ref m6, .ref m7, .ref m8, .ref m9, .int pn, .ref m10, .ref m11, .ref m12, .ref m13])), (m1, .inl (cI, 4, .inl gw)), (m2, .inl (cI, 4, .inl gh))] := hD
                            generalize eg_140 : upd gu y_132.toNatClampNeg (vp_nar .boolean 1) = g_140 at hP hD
                            have hP : va_P D vwCl [(m3, .inl (cI, 16384, .inl gd)), (m13, .inl (cI, 4096, .inl gs)), (m4, .inl (cZ, 4096, .inl g_140)), (h0, .inr (9, [.ref m1, .ref m2, .ref m3, .int ik, .int wy, .int op, .int cl, .int cx0, .int cx1, .int cy0, .int cy1, .int ds, .ref m4, .ref m5, .ref m6, .ref m7, .ref m8, .ref m9, .int pn, .ref m10, .ref m11, .ref m12, .ref m13])), (m1, .inl (cI, 4, .inl gw)), (m2, .inl (cI, 4, .inl gh))] H := hP
                            have hD : va_D A [(m3, .inl (cI, 16384, .inl gd)), (m13, .inl (cI, 4096, .inl gs)), (m4, .inl (cZ, 4096, .inl g_140)), (h0, .inr (9, [.ref m1, .ref m2, .ref m3, .int ik, .int wy, .int op, .int cl, .int cx0, .int cx1, .int cy0, .int cy1, .int ds, .ref m4, .ref m5, .ref m6, .ref m7, .ref m8, .ref m9, .int pn, .ref m10, .ref m11, .ref m12, .ref m13])), (m1, .inl (cI, 4, .inl gw)), (m2, .inl (cI, 4, .inl gh))] := hD
                            have hmk : (rcI (opnJ (gw k.toNatClampNeg) (gh k.toNatClampNeg) cl cx0 cx1 cy0 cy1 ic) (fun t => gd (4096 * k.toNatClampNeg + t)) (gd (4096 * k.toNatClampNeg + ixP x y)) co (pX ((rcO (opnJ (gw k.toNatClampNeg) (gh k.toNatClampNeg) cl cx0 cx1 cy0 cy1 ic) (fun t => gd (4096 * k.toNatClampNeg + t)) (gd (4096 * k.toNatClampNeg + ixP x y)) co st1 dn).2.1 dn)) (pY ((rcO (opnJ (gw k.toNatClampNeg) (gh k.toNatClampNeg) cl cx0 cx1 cy0 cy1 ic) (fun t => gd (4096 * k.toNatClampNeg + t)) (gd (4096 * k.toNatClampNeg + ixP x y)) co st1 dn).2.1 dn)) (rcO (opnJ (gw k.toNatClampNeg) (gh k.toNatClampNeg) cl cx0 cx1 cy0 cy1 ic) (fun t => gd (4096 * k.toNatClampNeg + t)) (gd (4096 * k.toNatClampNeg + ixP x y)) co st1 dn) i).1 (ixP y_121 y_122) = 0 := by rw [← f3, ← hxcy_132]; exact c_133
                            have hixn : ixP y_121 y_122 < 4096 := ix_lt (by omega) (by omega) (by omega) (by omega)
                            have hcn2 : cntP (upd (rcI (opnJ (gw k.toNatClampNeg) (gh k.toNatClampNeg) cl cx0 cx1 cy0 cy1 ic) (fun t => gd (4096 * k.toNatClampNeg + t)) (gd (4096 * k.toNatClampNeg + ixP x y)) co (pX ((rcO (opnJ (gw k.toNatClampNeg) (gh k.toNatClampNeg) cl cx0 cx1 cy0 cy1 ic) (fun t => gd (4096 * k.toNatClampNeg + t)) (gd (4096 * k.toNatClampNeg + ixP x y)) co st1 dn).2.1 dn)) (pY ((rcO (opnJ (gw k.toNatClampNeg) (gh k.toNatClampNeg) cl cx0 cx1 cy0 cy1 ic) (fun t => gd (4096 * k.toNatClampNeg + t)) (gd (4096 * k.toNatClampNeg + ixP x y)) co st1 dn).2.1 dn)) (rcO (opnJ (gw k.toNatClampNeg) (gh k.toNatClampNeg) cl cx0 cx1 cy0 cy1 ic) (fun t => gd (4096 * k.toNatClampNeg + t)) (gd (4096 * k.toNatClampNeg + ixP x y)) co st1 dn) i).1 (ixP y_121 y_122) 1) 4096 = (rcI (opnJ (gw k.toNatClampNeg) (gh k.toNatClampNeg) cl cx0 cx1 cy0 cy1 ic) (fun t => gd (4096 * k.toNatClampNeg + t)) (gd (4096 * k.toNatClampNeg + ixP x y)) co (pX ((rcO (opnJ (gw k.toNatClampNeg) (gh k.toNatClampNeg) cl cx0 cx1 cy0 cy1 ic) (fun t => gd (4096 * k.toNatClampNeg + t)) (gd (4096 * k.toNatClampNeg + ixP x y)) co st1 dn).2.1 dn)) (pY ((rcO (opnJ (gw k.toNatClampNeg) (gh k.toNatClampNeg) cl cx0 cx1 cy0 cy1 ic) (fun t => gd (4096 * k.toNatClampNeg + t)) (gd (4096 * k.toNatClampNeg + ixP x y)) co st1 dn).2.1 dn)) (rcO (opnJ (gw k.toNatClampNeg) (gh k.toNatClampNeg) cl cx0 cx1 cy0 cy1 ic) (fun t => gd (4096 * k.toNatClampNeg + t)) (gd (4096 * k.toNatClampNeg + ixP x y)) co st1 dn) i).2.2 + 1 := by rw [cnt_up1 hixn hmk, fcn]
                            have hm2 : (rcI (opnJ (gw k.toNatClampNeg) (gh k.toNatClampNeg) cl cx0 cx1 cy0 cy1 ic) (fun t => gd (4096 * k.toNatClampNeg + t)) (gd (4096 * k.toNatClampNeg + ixP x y)) co (pX ((rcO (opnJ (gw k.toNatClampNeg) (gh k.toNatClampNeg) cl cx0 cx1 cy0 cy1 ic) (fun t => gd (4096 * k.toNatClampNeg + t)) (gd (4096 * k.toNatClampNeg + ixP x y)) co st1 dn).2.1 dn)) (pY ((rcO (opnJ (gw k.toNatClampNeg) (gh k.toNatClampNeg) cl cx0 cx1 cy0 cy1 ic) (fun t => gd (4096 * k.toNatClampNeg + t)) (gd (4096 * k.toNatClampNeg + ixP x y)) co st1 dn).2.1 dn)) (rcO (opnJ (gw k.toNatClampNeg) (gh k.toNatClampNeg) cl cx0 cx1 cy0 cy1 ic) (fun t => gd (4096 * k.toNatClampNeg + t)) (gd (4096 * k.toNatClampNeg + ixP x y)) co st1 dn) i).2.2 + 1 ≤ 4096 := by rw [← hcn2]; exact cntP_le _ _
                            refine lv_aload_n hx hb dX9_joins_223 rfl (lv_at hl 9 rfl) ?_
                            refine va_get (D := D) (ci := 9) (v := .ref m13) (C := RX9) (T := TX9) (N := 23) hx hb hts hi_X9 hown hK hP 3 rfl rfl 22 (by decide) (hts _ bw_413) (fun _ h9 => h9) rfl dX9_joins_224 ?_
                            refine lv_iload hx hb dX9_joins_227 (lv_at hl 7 rfl) ?_
                            refine lv_iload hx hb dX9_joins_229 (lv_at hl 0 rfl) ?_
                            refine va_iast hx hb hK hP hD hS 1 0 rfl rfl (vp_in_iff.mpr ⟨by omega, by omega⟩) dX9_joins_231 (fun H locs hP hD hS => ?_)
                            have hP : va_P D vwCl [(m3, .inl (cI, 16384, .inl gd)), (m13, .inl (cI, 4096, .inl (upd gs z7.toNatClampNeg y_132))), (m4, .inl (cZ, 4096, .inl g_140)), (h0, .inr (9, [.ref m1, .ref m2, .ref m3, .int ik, .int wy, .int op, .int cl, .int cx0, .int cx1, .int cy0, .int cy1, .int ds, .ref m4, .ref m5, .ref m6, .ref m7, .ref m8, .ref m9, .int pn, .ref m10, .ref m11, .ref m12, .ref m13])), (m1, .inl (cI, 4, .inl gw)), (m2, .inl (cI, 4, .inl gh))] H := hP
                            have hD : va_D A [(m3, .inl (cI, 16384, .inl gd)), (m13, .inl (cI, 4096, .inl (upd gs z7.toNatClampNeg y_132))), (m4, .inl (cZ, 4096, .inl g_140)), (h0, .inr (9, [.ref m1, .ref m2, .ref m3, .int ik, .int wy, .int op, .int cl, .int cx0, .int cx1, .int cy0, .int cy1, .int ds, .ref m4, .ref m5, .ref m6, .ref m7, .ref m8, .ref m9, .int pn, .ref m10, .ref m11, .ref m12, .ref m13])), (m1, .inl (cI, 4, .inl gw)), (m2, .inl (cI, 4, .inl gh))] := hD
                            generalize eg_141 : upd gs z7.toNatClampNeg y_132 = g_141 at hP hD
                            have hP : va_P D vwCl [(m3, .inl (cI, 16384, .inl gd)), (m13, .inl (cI, 4096, .inl g_141)), (m4, .inl (cZ, 4096, .inl g_140)), (h0, .inr (9, [.ref m1, .ref m2, .ref m3, .int ik, .int wy, .int op, .int cl, .int cx0, .int cx1, .int cy0, .int cy1, .int ds, .ref m4, .ref m5, .ref m6, .ref m7, .ref m8, .ref m9, .int pn, .ref m10, .ref m11, .ref m12, .ref m13])), (m1, .inl (cI, 4, .inl gw)), (m2, .inl (cI, 4, .inl gh))] H := hP
                            have hD : va_D A [(m3, .inl (cI, 16384, .inl gd)), (m13, .inl (cI, 4096, .inl g_141)), (m4, .inl (cZ, 4096, .inl g_140)), (h0, .inr (9, [.ref m1, .ref m2, .ref m3, .int ik, .int wy, .int op, .int cl, .int cx0, .int cx1, .int cy0, .int cy1, .int ds, .ref m4, .ref m5, .ref m6, .ref m7, .ref m8, .ref m9, .int pn, .ref m10, .ref m11, .ref m12, .ref m13])), (m1, .inl (cI, 4, .inl gw)), (m2, .inl (cI, 4, .inl gh))] := hD
                            refine lv_iload hx hb dX9_joins_232 (lv_at hl 7 rfl) ?_
                            refine lv_iconst (v := 1) hx hb dX9_joins_234 (by decide) ?_
                            refine lv_iadd hx hb dX9_joins_235 ?_
                            refine lv_topi (fun y_142 ey_142 => ?_)
                            refine lv_istore (lv' := [(7, .int y_142), (14, .int y_132), (13, .int y_21), (12, .int y_19), (11, .int x11), (8, .int y_13), (10, .int y_12), (9, .int y_11), (6, .int (gd (4096 * k.toNatClampNeg + ixP x y))), (0, .ref h0), (1, .int k), (2, .int x), (3, .int y), (4, .int co), (5, .int ic)]) hx hb dX9_joins_236 hl (by decide) rfl (fun ls hl => ?_)
                            obtain ⟨y_143, ey_143⟩ : ∃ y : Int32, y = x11 + 1 := ⟨_, rfl⟩
                            refine lv_iinc (v := y_143) (lv' := [(11, .int y_143), (7, .int y_142), (14, .int y_132), (13, .int y_21), (12, .int y_19), (8, .int y_13), (10, .int y_12), (9, .int y_11), (6, .int (gd (4096 * k.toNatClampNeg + ixP x y))), (0, .ref h0), (1, .int k), (2, .int x), (3, .int y), (4, .int co), (5, .int ic)]) hx hb dX9_joins_238 hl (k := 4) rfl (by rw [ey_143]; rfl) (by decide) rfl (fun ls hl => ?_)
                            refine lv_goto (tgt := 87) hx hb dX9_joins_241 (by decide) ?_
                            have hS1 : (rcI (opnJ (gw k.toNatClampNeg) (gh k.toNatClampNeg) cl cx0 cx1 cy0 cy1 ic) (fun t => gd (4096 * k.toNatClampNeg + t)) (gd (4096 * k.toNatClampNeg + ixP x y)) co (pX ((rcO (opnJ (gw k.toNatClampNeg) (gh k.toNatClampNeg) cl cx0 cx1 cy0 cy1 ic) (fun t => gd (4096 * k.toNatClampNeg + t)) (gd (4096 * k.toNatClampNeg + ixP x y)) co st1 dn).2.1 dn)) (pY ((rcO (opnJ (gw k.toNatClampNeg) (gh k.toNatClampNeg) cl cx0 cx1 cy0 cy1 ic) (fun t => gd (4096 * k.toNatClampNeg + t)) (gd (4096 * k.toNatClampNeg + ixP x y)) co st1 dn).2.1 dn)) (rcO (opnJ (gw k.toNatClampNeg) (gh k.toNatClampNeg) cl cx0 cx1 cy0 cy1 ic) (fun t => gd (4096 * k.toNatClampNeg + t)) (gd (4096 * k.toNatClampNeg + ixP x y)) co st1 dn) (i + 1)) = rcS (opnJ (gw k.toNatClampNeg) (gh k.toNatClampNeg) cl cx0 cx1 cy0 cy1 ic) (fun t => gd (4096 * k.toNatClampNeg + t)) (gd (4096 * k.toNatClampNeg + ixP x y)) y_121 y_122 (rcI (opnJ (gw k.toNatClampNeg) (gh k.toNatClampNeg) cl cx0 cx1 cy0 cy1 ic) (fun t => gd (4096 * k.toNatClampNeg + t)) (gd (4096 * k.toNatClampNeg + ixP x y)) co (pX ((rcO (opnJ (gw k.toNatClampNeg) (gh k.toNatClampNeg) cl cx0 cx1 cy0 cy1 ic) (fun t => gd (4096 * k.toNatClampNeg + t)) (gd (4096 * k.toNatClampNeg + ixP x y)) co st1 dn).2.1 dn)) (pY ((rcO (opnJ (gw k.toNatClampNeg) (gh k.toNatClampNeg) cl cx0 cx1 cy0 cy1 ic) (fun t => gd (4096 * k.toNatClampNeg + t)) (gd (4096 * k.toNatClampNeg + ixP x y)) co st1 dn).2.1 dn)) (rcO (opnJ (gw k.toNatClampNeg) (gh k.toNatClampNeg) cl cx0 cx1 cy0 cy1 ic) (fun t => gd (4096 * k.toNatClampNeg + t)) (gd (4096 * k.toNatClampNeg + ixP x y)) co st1 dn) i) := by rw [hay_121, hay_122]; exact if_pos (Or.inr (Or.inr (hdy_21.symm.trans c_118)))
                            have hSt : (rcI (opnJ (gw k.toNatClampNeg) (gh k.toNatClampNeg) cl cx0 cx1 cy0 cy1 ic) (fun t => gd (4096 * k.toNatClampNeg + t)) (gd (4096 * k.toNatClampNeg + ixP x y)) co (pX ((rcO (opnJ (gw k.toNatClampNeg) (gh k.toNatClampNeg) cl cx0 cx1 cy0 cy1 ic) (fun t => gd (4096 * k.toNatClampNeg + t)) (gd (4096 * k.toNatClampNeg + ixP x y)) co st1 dn).2.1 dn)) (pY ((rcO (opnJ (gw k.toNatClampNeg) (gh k.toNatClampNeg) cl cx0 cx1 cy0 cy1 ic) (fun t => gd (4096 * k.toNatClampNeg + t)) (gd (4096 * k.toNatClampNeg + ixP x y)) co st1 dn).2.1 dn)) (rcO (opnJ (gw k.toNatClampNeg) (gh k.toNatClampNeg) cl cx0 cx1 cy0 cy1 ic) (fun t => gd (4096 * k.toNatClampNeg + t)) (gd (4096 * k.toNatClampNeg + ixP x y)) co st1 dn) (i + 1)) = (upd (rcI (opnJ (gw k.toNatClampNeg) (gh k.toNatClampNeg) cl cx0 cx1 cy0 cy1 ic) (fun t => gd (4096 * k.toNatClampNeg + t)) (gd (4096 * k.toNatClampNeg + ixP x y)) co (pX ((rcO (opnJ (gw k.toNatClampNeg) (gh k.toNatClampNeg) cl cx0 cx1 cy0 cy1 ic) (fun t => gd (4096 * k.toNatClampNeg + t)) (gd (4096 * k.toNatClampNeg + ixP x y)) co st1 dn).2.1 dn)) (pY ((rcO (opnJ (gw k.toNatClampNeg) (gh k.toNatClampNeg) cl cx0 cx1 cy0 cy1 ic) (fun t => gd (4096 * k.toNatClampNeg + t)) (gd (4096 * k.toNatClampNeg + ixP x y)) co st1 dn).2.1 dn)) (rcO (opnJ (gw k.toNatClampNeg) (gh k.toNatClampNeg) cl cx0 cx1 cy0 cy1 ic) (fun t => gd (4096 * k.toNatClampNeg + t)) (gd (4096 * k.toNatClampNeg + ixP x y)) co st1 dn) i).1 (ixP y_121 y_122) 1, upd (rcI (opnJ (gw k.toNatClampNeg) (gh k.toNatClampNeg) cl cx0 cx1 cy0 cy1 ic) (fun t => gd (4096 * k.toNatClampNeg + t)) (gd (4096 * k.toNatClampNeg + ixP x y)) co (pX ((rcO (opnJ (gw k.toNatClampNeg) (gh k.toNatClampNeg) cl cx0 cx1 cy0 cy1 ic) (fun t => gd (4096 * k.toNatClampNeg + t)) (gd (4096 * k.toNatClampNeg + ixP x y)) co st1 dn).2.1 dn)) (pY ((rcO (opnJ (gw k.toNatClampNeg) (gh k.toNatClampNeg) cl cx0 cx1 cy0 cy1 ic) (fun t => gd (4096 * k.toNatClampNeg + t)) (gd (4096 * k.toNatClampNeg + ixP x y)) co st1 dn).2.1 dn)) (rcO (opnJ (gw k.toNatClampNeg) (gh k.toNatClampNeg) cl cx0 cx1 cy0 cy1 ic) (fun t => gd (4096 * k.toNatClampNeg + t)) (gd (4096 * k.toNatClampNeg + ixP x y)) co st1 dn) i).2.1 (rcI (opnJ (gw k.toNatClampNeg) (gh k.toNatClampNeg) cl cx0 cx1 cy0 cy1 ic) (fun t => gd (4096 * k.toNatClampNeg + t)) (gd (4096 * k.toNatClampNeg + ixP x y)) co (pX ((rcO (opnJ (gw k.toNatClampNeg) (gh k.toNatClampNeg) cl cx0 cx1 cy0 cy1 ic) (fun t => gd (4096 * k.toNatClampNeg + t)) (gd (4096 * k.toNatClampNeg + ixP x y)) co st1 dn).2.1 dn)) (pY ((rcO (opnJ (gw k.toNatClampNeg) (gh k.toNatClampNeg) cl cx0 cx1 cy0 cy1 ic) (fun t => gd (4096 * k.toNatClampNeg + t)) (gd (4096 * k.toNatClampNeg + ixP x y)) co st1 dn).2.1 dn)) (rcO (opnJ (gw k.toNatClampNeg) (gh k.toNatClampNeg) cl cx0 cx1 cy0 cy1 ic) (fun t => gd (4096 * k.toNatClampNeg + t)) (gd (4096 * k.toNatClampNeg + ixP x y)) co st1 dn) i).2.2 (nI (ixP y_121 y_122)), (rcI (opnJ (gw k.toNatClampNeg) (gh k.toNatClampNeg) cl cx0 cx1 cy0 cy1 ic) (fun t => gd (4096 * k.toNatClampNeg + t)) (gd (4096 * k.toNatClampNeg + ixP x y)) co (pX ((rcO (opnJ (gw k.toNatClampNeg) (gh k.toNatClampNeg) cl cx0 cx1 cy0 cy1 ic) (fun t => gd (4096 * k.toNatClampNeg + t)) (gd (4096 * k.toNatClampNeg + ixP x y)) co st1 dn).2.1 dn)) (pY ((rcO (opnJ (gw k.toNatClampNeg) (gh k.toNatClampNeg) cl cx0 cx1 cy0 cy1 ic) (fun t => gd (4096 * k.toNatClampNeg + t)) (gd (4096 * k.toNatClampNeg + ixP x y)) co st1 dn).2.1 dn)) (rcO (opnJ (gw k.toNatClampNeg) (gh k.toNatClampNeg) cl cx0 cx1 cy0 cy1 ic) (fun t => gd (4096 * k.toNatClampNeg + t)) (gd (4096 * k.toNatClampNeg + ixP x y)) co st1 dn) i).2.2 + 1) := hS1.trans (if_pos ⟨⟨⟨f_125, Or.inl c_127⟩, c_138⟩, hmk, by omega⟩)
                            exact ih_15 (i + 1) y_143 y_142 g_140 g_141 _ _ _ (by omega) (by omega) (by rw [ey_143, ex_i]; exact nI_1 i) (by rw [hSt, ey_142, f7]; exact nI_1 _) (by rw [hSt, ← eg_140, f3, hxcy_132]; rfl) (by rw [hSt, ← eg_141, f2, hixy_132, show z7.toNatClampNeg = (rcI (opnJ (gw k.toNatClampNeg) (gh k.toNatClampNeg) cl cx0 cx1 cy0 cy1 ic) (fun t => gd (4096 * k.toNatClampNeg + t)) (gd (4096 * k.toNatClampNeg + ixP x y)) co (pX ((rcO (opnJ (gw k.toNatClampNeg) (gh k.toNatClampNeg) cl cx0 cx1 cy0 cy1 ic) (fun t => gd (4096 * k.toNatClampNeg + t)) (gd (4096 * k.toNatClampNeg + ixP x y)) co st1 dn).2.1 dn)) (pY ((rcO (opnJ (gw k.toNatClampNeg) (gh k.toNatClampNeg) cl cx0 cx1 cy0 cy1 ic) (fun t => gd (4096 * k.toNatClampNeg + t)) (gd (4096 * k.toNatClampNeg + ixP x y)) co st1 dn).2.1 dn)) (rcO (opnJ (gw k.toNatClampNeg) (gh k.toNatClampNeg) cl cx0 cx1 cy0 cy1 ic) (fun t => gd (4096 * k.toNatClampNeg + t)) (gd (4096 * k.toNatClampNeg + ixP x y)) co st1 dn) i).2.2 by rw [f7]; exact nI_clamp (by omega)]) (by rw [hSt]; exact hcn2) (hP.sub (ws' := [(m1, .inl (cI, 4, .inl gw)), (m2, .inl (cI, 4, .inl gh)), (m3, .inl (cI, 16384, .inl gd)), (m13, .inl (cI, 4096, .inl g_141)), (h0, .inr (9, [.ref m1, .ref m2, .ref m3, .int ik, .int wy, .int op, .int cl, .int cx0, .int cx1, .int cy0, .int cy1, .int ds, .ref m4, .ref m5, .ref m6, .ref m7, .ref m8, .ref m9, .int pn, .ref m10, .ref m11, .ref m12, .ref m13])), (m4, .inl (cZ, 4096, .inl g_140))]) [4, 5, 0, 1, 3, 2] rfl) (hD.sub (ws' := [(m1, .inl (cI, 4, .inl gw)), (m2, .inl (cI, 4, .inl gh)), (m3, .inl (cI, 16384, .inl gd)), (m13, .inl (cI, 4096, .inl g_141)), (h0, .inr (9, [.ref m1, .ref m2, .ref m3, .int ik, .int wy, .int op, .int cl, .int cx0, .int cx1, .int cy0, .int cy1, .int ds, .ref m4, .ref m5, .ref m6, .ref m7, .ref m8, .ref m9, .int pn, .ref m10, .ref m11, .ref m12, .ref m13])), (m4, .inl (cZ, 4096, .inl g_140))]) [4, 5, 0, 1, 3, 2] (by decide) rfl) hS (lv_sub hl [0, 5, 6, 7, 1, 8, 9, 10, 11, 12, 13, 14] rfl)
                          · skip
                            have f_139 : ¬ ((gd (4096 * k.toNatClampNeg + ixP y_121 y_122)).toInt = (gd (4096 * k.toNatClampNeg + ixP x y)).toInt) := fn_eq rfl rfl c_138
                            refine lv_goto (tgt := 238) hx hb dX9_joins_212 (by decide) ?_
                            obtain ⟨y_144, ey_144⟩ : ∃ y : Int32, y = x11 + 1 := ⟨_, rfl⟩
                            refine lv_iinc (v := y_144) (lv' := [(11, .int y_144), (14, .int y_132), (13, .int y_21), (12, .int y_19), (8, .int y_13), (10, .int y_12), (9, .int y_11), (7, .int z7), (6, .int (gd (4096 * k.toNatClampNeg + ixP x y))), (0, .ref h0), (1, .int k), (2, .int x), (3, .int y), (4, .int co), (5, .int ic)]) hx hb dX9_joins_238 hl (k := 3) rfl (by rw [ey_144]; rfl) (by decide) rfl (fun ls hl => ?_)
                            refine lv_goto (tgt := 87) hx hb dX9_joins_241 (by decide) ?_
                            have hS1 : (rcI (opnJ (gw k.toNatClampNeg) (gh k.toNatClampNeg) cl cx0 cx1 cy0 cy1 ic) (fun t => gd (4096 * k.toNatClampNeg + t)) (gd (4096 * k.toNatClampNeg + ixP x y)) co (pX ((rcO (opnJ (gw k.toNatClampNeg) (gh k.toNatClampNeg) cl cx0 cx1 cy0 cy1 ic) (fun t => gd (4096 * k.toNatClampNeg + t)) (gd (4096 * k.toNatClampNeg + ixP x y)) co st1 dn).2.1 dn)) (pY ((rcO (opnJ (gw k.toNatClampNeg) (gh k.toNatClampNeg) cl cx0 cx1 cy0 cy1 ic) (fun t => gd (4096 * k.toNatClampNeg + t)) (gd (4096 * k.toNatClampNeg + ixP x y)) co st1 dn).2.1 dn)) (rcO (opnJ (gw k.toNatClampNeg) (gh k.toNatClampNeg) cl cx0 cx1 cy0 cy1 ic) (fun t => gd (4096 * k.toNatClampNeg + t)) (gd (4096 * k.toNatClampNeg + ixP x y)) co st1 dn) (i + 1)) = rcS (opnJ (gw k.toNatClampNeg) (gh k.toNatClampNeg) cl cx0 cx1 cy0 cy1 ic) (fun t => gd (4096 * k.toNatClampNeg + t)) (gd (4096 * k.toNatClampNeg + ixP x y)) y_121 y_122 (rcI (opnJ (gw k.toNatClampNeg) (gh k.toNatClampNeg) cl cx0 cx1 cy0 cy1 ic) (fun t => gd (4096 * k.toNatClampNeg + t)) (gd (4096 * k.toNatClampNeg + ixP x y)) co (pX ((rcO (opnJ (gw k.toNatClampNeg) (gh k.toNatClampNeg) cl cx0 cx1 cy0 cy1 ic) (fun t => gd (4096 * k.toNatClampNeg + t)) (gd (4096 * k.toNatClampNeg + ixP x y)) co st1 dn).2.1 dn)) (pY ((rcO (opnJ (gw k.toNatClampNeg) (gh k.toNatClampNeg) cl cx0 cx1 cy0 cy1 ic) (fun t => gd (4096 * k.toNatClampNeg + t)) (gd (4096 * k.toNatClampNeg + ixP x y)) co st1 dn).2.1 dn)) (rcO (opnJ (gw k.toNatClampNeg) (gh k.toNatClampNeg) cl cx0 cx1 cy0 cy1 ic) (fun t => gd (4096 * k.toNatClampNeg + t)) (gd (4096 * k.toNatClampNeg + ixP x y)) co st1 dn) i) := by rw [hay_121, hay_122]; exact if_pos (Or.inr (Or.inr (hdy_21.symm.trans c_118)))
                            have hSt : (rcI (opnJ (gw k.toNatClampNeg) (gh k.toNatClampNeg) cl cx0 cx1 cy0 cy1 ic) (fun t => gd (4096 * k.toNatClampNeg + t)) (gd (4096 * k.toNatClampNeg + ixP x y)) co (pX ((rcO (opnJ (gw k.toNatClampNeg) (gh k.toNatClampNeg) cl cx0 cx1 cy0 cy1 ic) (fun t => gd (4096 * k.toNatClampNeg + t)) (gd (4096 * k.toNatClampNeg + ixP x y)) co st1 dn).2.1 dn)) (pY ((rcO (opnJ (gw k.toNatClampNeg) (gh k.toNatClampNeg) cl cx0 cx1 cy0 cy1 ic) (fun t => gd (4096 * k.toNatClampNeg + t)) (gd (4096 * k.toNatClampNeg + ixP x y)) co st1 dn).2.1 dn)) (rcO (opnJ (gw k.toNatClampNeg) (gh k.toNatClampNeg) cl cx0 cx1 cy0 cy1 ic) (fun t => gd (4096 * k.toNatClampNeg + t)) (gd (4096 * k.toNatClampNeg + ixP x y)) co st1 dn) (i + 1)) = (rcI (opnJ (gw k.toNatClampNeg) (gh k.toNatClampNeg) cl cx0 cx1 cy0 cy1 ic) (fun t => gd (4096 * k.toNatClampNeg + t)) (gd (4096 * k.toNatClampNeg + ixP x y)) co (pX ((rcO (opnJ (gw k.toNatClampNeg) (gh k.toNatClampNeg) cl cx0 cx1 cy0 cy1 ic) (fun t => gd (4096 * k.toNatClampNeg + t)) (gd (4096 * k.toNatClampNeg + ixP x y)) co st1 dn).2.1 dn)) (pY ((rcO (opnJ (gw k.toNatClampNeg) (gh k.toNatClampNeg) cl cx0 cx1 cy0 cy1 ic) (fun t => gd (4096 * k.toNatClampNeg + t)) (gd (4096 * k.toNatClampNeg + ixP x y)) co st1 dn).2.1 dn)) (rcO (opnJ (gw k.toNatClampNeg) (gh k.toNatClampNeg) cl cx0 cx1 cy0 cy1 ic) (fun t => gd (4096 * k.toNatClampNeg + t)) (gd (4096 * k.toNatClampNeg + ixP x y)) co st1 dn) i) := hS1.trans (if_neg (fun q => c_138 q.1.2))
                            exact ih_15 (i + 1) y_144 z7 gu gs _ _ _ (by omega) (by omega) (by rw [ey_144, ex_i]; exact nI_1 i) (by rw [hSt]; exact f7) (by rw [hSt]; exact f3) (by rw [hSt]; exact f2) (by rw [hSt]; exact fcn) (hP.sub (ws' := [(m1, .inl (cI, 4, .inl gw)), (m2, .inl (cI, 4, .inl gh)), (m3, .inl (cI, 16384, .inl gd)), (m13, .inl (cI, 4096, .inl gs)), (h0, .inr (9, [.ref m1, .ref m2, .ref m3, .int ik, .int wy, .int op, .int cl, .int cx0, .int cx1, .int cy0, .int cy1, .int ds, .ref m4, .ref m5, .ref m6, .ref m7, .ref m8, .ref m9, .int pn, .ref m10, .ref m11, .ref m12, .ref m13])), (m4, .inl (cZ, 4096, .inl gu))]) [4, 5, 0, 1, 3, 2] rfl) (hD.sub (ws' := [(m1, .inl (cI, 4, .inl gw)), (m2, .inl (cI, 4, .inl gh)), (m3, .inl (cI, 16384, .inl gd)), (m13, .inl (cI, 4096, .inl gs)), (h0, .inr (9, [.ref m1, .ref m2, .ref m3, .int ik, .int wy, .int op, .int cl, .int cx0, .int cx1, .int cy0, .int cy1, .int ds, .ref m4, .ref m5, .ref m6, .ref m7, .ref m8, .ref m9, .int pn, .ref m10, .ref m11, .ref m12, .ref m13])), (m4, .inl (cZ, 4096, .inl gu))]) [4, 5, 0, 1, 3, 2] (by decide) rfl) hS (lv_sub hl [0, 4, 5, 6, 7, 8, 9, 10, 11, 12, 13, 14] rfl)
                      · skip
                        have f_128 : ¬ (ic.toInt = 0) := fn_eq rfl (by decide) c_127
                        refine lv_aload_n hx hb dX9_joins_148 rfl (lv_at hl 8 rfl) ?_
                        refine lv_iload hx hb dX9_joins_149 (lv_at hl 5 rfl) ?_
                        refine lv_iload hx hb dX9_joins_151 (lv_at hl 1 rfl) ?_
                        refine lv_iadd hx hb dX9_joins_153 ?_
                        refine lv_topi (fun y_145 ey_145 => ?_)
                        have hay_145 : y_145 = pX ((rcO (opnJ (gw k.toNatClampNeg) (gh k.toNatClampNeg) cl cx0 cx1 cy0 cy1 ic) (fun t => gd (4096 * k.toNatClampNeg + t)) (gd (4096 * k.toNatClampNeg + ixP x y)) co st1 dn).2.1 dn) + dX i := by rw [ey_145, hp9, hdy_19]
                        refine lv_iload hx hb dX9_joins_154 (lv_at hl 4 rfl) ?_
                        refine lv_iload hx hb dX9_joins_156 (lv_at hl 0 rfl) ?_
                        refine lv_iadd hx hb dX9_joins_158 ?_
                        refine lv_topi (fun y_146 ey_146 => ?_)
                        have hay_146 : y_146 = pY ((rcO (opnJ (gw k.toNatClampNeg) (gh k.toNatClampNeg) cl cx0 cx1 cy0 cy1 ic) (fun t => gd (4096 * k.toNatClampNeg + t)) (gd (4096 * k.toNatClampNeg + ixP x y)) co st1 dn).2.1 dn) + dY i := by rw [ey_146, hp10, hdy_21]
                        have hPc := hP.sub (ws' := [(h0, .inr (9, [.ref m1, .ref m2, .ref m3, .int ik, .int wy, .int op, .int cl, .int cx0, .int cx1, .int cy0, .int cy1, .int ds, .ref m4, .ref m5, .ref m6, .ref m7, .ref m8, .ref m9, .int pn, .ref m10, .ref m11, .ref m12, .ref m13]))]) [3] rfl
                        have hDc := hD.sub (ws' := [(h0, .inr (9, [.ref m1, .ref m2, .ref m3, .int ik, .int wy, .int op, .int cl, .int cx0, .int cx1, .int cy0, .int cy1, .int ds, .ref m4, .ref m5, .ref m6, .ref m7, .ref m8, .ref m9, .int pn, .ref m10, .ref m11, .ref m12, .ref m13]))]) [3] (by decide) rfl
                        have hKc := hK.sub (tys' := []) [] rfl
                        have hFc := va_free (wc := [(h0, .inr (9, [.ref m1, .ref m2, .ref m3, .int ik, .int wy, .int op, .int cl, .int cx0, .int cx1, .int cy0, .int cy1, .int ds, .ref m4, .ref m5, .ref m6, .ref m7, .ref m8, .ref m9, .int pn, .ref m10, .ref m11, .ref m12, .ref m13]))]) hD hS hA [3] rfl
                        refine va_calli (va_runV (As := [.int y_145, .int y_146]) (rest := []) ⟨hx, hb, hml, hown, hts⟩ (k_X9_isInClip l D H.size h0 m1 m2 m3 m4 m5 m6 m7 m8 m9 m10 m11 m12 m13 ik wy op cl cx0 cx1 cy0 cy1 ds pn y_145 y_146) (cwV 2 hts (gV bw_434 bw_423 bw_424 bw_391 bw_422) rfl rfl rfl (by decide +kernel) ⟨(by rw [hR]; exact Nat.le_of_ble_eq_true rfl), (by rw [hR]; exact Nat.le_of_ble_eq_true rfl)⟩) ⟨cP_blind, va_recv hKc hPc (ci := 9) (q0 := 0) rfl rfl, cP_at hPc hKc hDc hN⟩ rfl rfl hl.1 rfl (lv_room (Nat.le_of_ble_eq_true rfl)) dX9_joins_159 ⟨(by rw [hR]; exact Nat.le_of_ble_eq_true rfl), (by rw [hR]; exact Nat.le_of_ble_eq_true rfl)⟩) hS (fun q _ h => hFc q h) hFc (fun r_147 u9 t9 H1 locs ht hvm hr_147 hB hz1 hk1 hS => ?_)
                        try dsimp only at hr_147
                        obtain ⟨hP1, hK1, hD1⟩ := hB
                        rw [ht] at hP1
                        obtain ⟨hP, hD⟩ := va_join (wr := [(m3, .inl (cI, 16384, .inl gd)), (m13, .inl (cI, 4096, .inl gs)), (m4, .inl (cZ, 4096, .inl gu)), (m1, .inl (cI, 4, .inl gw)), (m2, .inl (cI, 4, .inl gh))]) (w1 := [(h0, .inr (9, [.ref m1, .ref m2, .ref m3, .int ik, .int wy, .int op, .int cl, .int cx0, .int cx1, .int cy0, .int cy1, .int ds, .ref m4, .ref m5, .ref m6, .ref m7, .ref m8, .ref m9, .int pn, .ref m10, .ref m11, .ref m12, .ref m13]))]) hP hD [3] [0, 1, 2, 4, 5] rfl rfl (by decide) (by decide) hk1 hFc hP1 hD1
                        clear hz1 hk1 hFc hKc hDc hPc
                        generalize H1 = H at hP hS ⊢
                        have hP : va_P D vwCl [(m3, .inl (cI, 16384, .inl gd)), (m13, .inl (cI, 4096, .inl gs)), (m4, .inl (cZ, 4096, .inl gu)), (m1, .inl (cI, 4, .inl gw)), (m2, .inl (cI, 4, .inl gh)), (h0, .inr (9, [.ref m1, .ref m2, .ref m3, .int ik, .int wy, .int op, .int cl, .int cx0, .int cx1, .int cy0, .int cy1, .int ds, .ref m4, .ref m5, .ref m6, .ref m7, .ref m8, .ref m9, .int pn, .ref m10, .ref m11, .ref m12, .ref m13]))] H := hP
                        have hD : va_D A [(m3, .inl (cI, 16384, .inl gd)), (m13, .inl (cI, 4096, .inl gs)), (m4, .inl (cZ, 4096, .inl gu)), (m1, .inl (cI, 4, .inl gw)), (m2, .inl (cI, 4, .inl gh)), (h0, .inr (9, [.ref m1, .ref m2, .ref m3, .int ik, .int wy, .int op, .int cl, .int cx0, .int cx1, .int cy0, .int cy1, .int ds, .ref m4, .ref m5, .ref m6, .ref m7, .ref m8, .ref m9, .int pn, .ref m10, .ref m11, .ref m12, .ref m13]))] := hD
                        have hcqx : y_145 = y_121 := by rw [ey_145, ey_121]
                        have hcqy : y_146 = y_122 := by rw [ey_146, ey_122]
                        rw [hcqx, hcqy] at hr_147
                        refine lv_if_ne (tgt := 168) hx hb dX9_joins_162 (by decide) (fun c_148 => ?_) (fun c_148 => ?_)
                        · skip
                          have f_149 := bz1 hr_147 c_148
                          refine lv_bipush (v := 64) hx hb dX9_joins_168 (by decide) ?_
                          refine lv_iload hx hb dX9_joins_170 (lv_at hl 4 rfl) ?_
                          refine lv_iload hx hb dX9_joins_172 (lv_at hl 0 rfl) ?_
                          refine lv_iadd hx hb dX9_joins_174 ?_
                          refine lv_topi (fun y_150 ey_150 => ?_)
                          have hay_150 : y_150 = pY ((rcO (opnJ (gw k.toNatClampNeg) (gh k.toNatClampNeg) cl cx0 cx1 cy0 cy1 ic) (fun t => gd (4096 * k.toNatClampNeg + t)) (gd (4096 * k.toNatClampNeg + ixP x y)) co st1 dn).2.1 dn) + dY i := by rw [ey_150, hp10, hdy_21]
                          refine lv_imul hx hb dX9_joins_175 ?_
                          refine lv_topi (fun y_151 ey_151 => ?_)
                          refine lv_iload hx hb dX9_joins_176 (lv_at hl 5 rfl) ?_
                          refine lv_iadd hx hb dX9_joins_178 ?_
                          refine lv_topi (fun y_152 ey_152 => ?_)
                          refine lv_iload hx hb dX9_joins_179 (lv_at hl 1 rfl) ?_
                          refine lv_iadd hx hb dX9_joins_181 ?_
                          refine lv_topi (fun y_153 ey_153 => ?_)
                          have htoy_153 : y_153 = 64 * y_122 + y_121 := by rw [ey_153, ey_152, ey_151, ey_150, ey_122, ey_121, Int32.add_assoc]
                          have hiny_153 : vp_in y_153 4096 := by rw [htoy_153]; exact ix_in2 (by omega) (by omega) (by omega) (by omega)
                          have hixy_153 : y_153 = nI (ixP y_121 y_122) := by rw [htoy_153]; exact ix_nI2 (by omega) (by omega) (by omega) (by omega)
                          have hxcy_153 : y_153.toNatClampNeg = ixP y_121 y_122 := by rw [hixy_153]; exact nI_clamp (by have := ix_lt (x := y_121) (y := y_122) (by omega) (by omega) (by omega) (by omega); omega)
                          refine lv_istore (lv' := [(14, .int y_153), (13, .int y_21), (12, .int y_19), (11, .int x11), (8, .int y_13), (10, .int y_12), (9, .int y_11), (7, .int z7), (6, .int (gd (4096 * k.toNatClampNeg + ixP x y))), (0, .ref h0), (1, .int k), (2, .int x), (3, .int y), (4, .int co), (5, .int ic)]) hx hb dX9_joins_182 hl (by decide) rfl (fun ls hl => ?_)
                          refine lv_aload_n hx hb dX9_joins_184 rfl (lv_at hl 9 rfl) ?_
                          refine va_get (D := D) (ci := 9) (v := .ref m4) (C := RX9) (T := TX9) (N := 23) hx hb hts hi_X9 hown hK hP 5 rfl rfl 12 (by decide) (hts _ bw_404) (fun _ h9 => h9) rfl dX9_joins_185 ?_
                          refine lv_iload hx hb dX9_joins_188 (lv_at hl 0 rfl) ?_
                          refine va_zald hx hb hK hP 2 1 rfl rfl hiny_153 dX9_joins_190 ?_
                          refine lv_if_ne (tgt := 238) hx hb dX9_joins_191 (by decide) (fun c_154 => ?_) (fun c_154 => ?_)
                          · skip
                            have f_155 : ¬ ((gu y_153.toNatClampNeg).toInt = 0) := fn_eq rfl (by decide) c_154
                            obtain ⟨y_156, ey_156⟩ : ∃ y : Int32, y = x11 + 1 := ⟨_, rfl⟩
                            refine lv_iinc (v := y_156) (lv' := [(11, .int y_156), (14, .int y_153), (13, .int y_21), (12, .int y_19), (8, .int y_13), (10, .int y_12), (9, .int y_11), (7, .int z7), (6, .int (gd (4096 * k.toNatClampNeg + ixP x y))), (0, .ref h0), (1, .int k), (2, .int x), (3, .int y), (4, .int co), (5, .int ic)]) hx hb dX9_joins_238 hl (k := 3) rfl (by rw [ey_156]; rfl) (by decide) rfl (fun ls hl => ?_)
                            refine lv_goto (tgt := 87) hx hb dX9_joins_241 (by decide) ?_
                            have hS1 : (rcI (opnJ (gw k.toNatClampNeg) (gh k.toNatClampNeg) cl cx0 cx1 cy0 cy1 ic) (fun t => gd (4096 * k.toNatClampNeg + t)) (gd (4096 * k.toNatClampNeg + ixP x y)) co (pX ((rcO (opnJ (gw k.toNatClampNeg) (gh k.toNatClampNeg) cl cx0 cx1 cy0 cy1 ic) (fun t => gd (4096 * k.toNatClampNeg + t)) (gd (4096 * k.toNatClampNeg + ixP x y)) co st1 dn).2.1 dn)) (pY ((rcO (opnJ (gw k.toNatClampNeg) (gh k.toNatClampNeg) cl cx0 cx1 cy0 cy1 ic) (fun t => gd (4096 * k.toNatClampNeg + t)) (gd (4096 * k.toNatClampNeg + ixP x y)) co st1 dn).2.1 dn)) (rcO (opnJ (gw k.toNatClampNeg) (gh k.toNatClampNeg) cl cx0 cx1 cy0 cy1 ic) (fun t => gd (4096 * k.toNatClampNeg + t)) (gd (4096 * k.toNatClampNeg + ixP x y)) co st1 dn) (i + 1)) = rcS (opnJ (gw k.toNatClampNeg) (gh k.toNatClampNeg) cl cx0 cx1 cy0 cy1 ic) (fun t => gd (4096 * k.toNatClampNeg + t)) (gd (4096 * k.toNatClampNeg + ixP x y)) y_121 y_122 (rcI (opnJ (gw k.toNatClampNeg) (gh k.toNatClampNeg) cl cx0 cx1 cy0 cy1 ic) (fun t => gd (4096 * k.toNatClampNeg + t)) (gd (4096 * k.toNatClampNeg + ixP x y)) co (pX ((rcO (opnJ (gw k.toNatClampNeg) (gh k.toNatClampNeg) cl cx0 cx1 cy0 cy1 ic) (fun t => gd (4096 * k.toNatClampNeg + t)) (gd (4096 * k.toNatClampNeg + ixP x y)) co st1 dn).2.1 dn)) (pY ((rcO (opnJ (gw k.toNatClampNeg) (gh k.toNatClampNeg) cl cx0 cx1 cy0 cy1 ic) (fun t => gd (4096 * k.toNatClampNeg + t)) (gd (4096 * k.toNatClampNeg + ixP x y)) co st1 dn).2.1 dn)) (rcO (opnJ (gw k.toNatClampNeg) (gh k.toNatClampNeg) cl cx0 cx1 cy0 cy1 ic) (fun t => gd (4096 * k.toNatClampNeg + t)) (gd (4096 * k.toNatClampNeg + ixP x y)) co st1 dn) i) := by rw [hay_121, hay_122]; exact if_pos (Or.inr (Or.inr (hdy_21.symm.trans c_118)))
                            have hSt : (rcI (opnJ (gw k.toNatClampNeg) (gh k.toNatClampNeg) cl cx0 cx1 cy0 cy1 ic) (fun t => gd (4096 * k.toNatClampNeg + t)) (gd (4096 * k.toNatClampNeg + ixP x y)) co (pX ((rcO (opnJ (gw k.toNatClampNeg) (gh k.toNatClampNeg) cl cx0 cx1 cy0 cy1 ic) (fun t => gd (4096 * k.toNatClampNeg + t)) (gd (4096 * k.toNatClampNeg + ixP x y)) co st1 dn).2.1 dn)) (pY ((rcO (opnJ (gw k.toNatClampNeg) (gh k.toNatClampNeg) cl cx0 cx1 cy0 cy1 ic) (fun t => gd (4096 * k.toNatClampNeg + t)) (gd (4096 * k.toNatClampNeg + ixP x y)) co st1 dn).2.1 dn)) (rcO (opnJ (gw k.toNatClampNeg) (gh k.toNatClampNeg) cl cx0 cx1 cy0 cy1 ic) (fun t => gd (4096 * k.toNatClampNeg + t)) (gd (4096 * k.toNatClampNeg + ixP x y)) co st1 dn) (i + 1)) = (rcI (opnJ (gw k.toNatClampNeg) (gh k.toNatClampNeg) cl cx0 cx1 cy0 cy1 ic) (fun t => gd (4096 * k.toNatClampNeg + t)) (gd (4096 * k.toNatClampNeg + ixP x y)) co (pX ((rcO (opnJ (gw k.toNatClampNeg) (gh k.toNatClampNeg) cl cx0 cx1 cy0 cy1 ic) (fun t => gd (4096 * k.toNatClampNeg + t)) (gd (4096 * k.toNatClampNeg + ixP x y)) co st1 dn).2.1 dn)) (pY ((rcO (opnJ (gw k.toNatClampNeg) (gh k.toNatClampNeg) cl cx0 cx1 cy0 cy1 ic) (fun t => gd (4096 * k.toNatClampNeg + t)) (gd (4096 * k.toNatClampNeg + ixP x y)) co st1 dn).2.1 dn)) (rcO (opnJ (gw k.toNatClampNeg) (gh k.toNatClampNeg) cl cx0 cx1 cy0 cy1 ic) (fun t => gd (4096 * k.toNatClampNeg + t)) (gd (4096 * k.toNatClampNeg + ixP x y)) co st1 dn) i) := hS1.trans (if_neg (fun q => c_154 (by rw [f3, hxcy_153]; exact q.2.1)))
                            exact ih_15 (i + 1) y_156 z7 gu gs _ _ _ (by omega) (by omega) (by rw [ey_156, ex_i]; exact nI_1 i) (by rw [hSt]; exact f7) (by rw [hSt]; exact f3) (by rw [hSt]; exact f2) (by rw [hSt]; exact fcn) (hP.sub (ws' := [(m1, .inl (cI, 4, .inl gw)), (m2, .inl (cI, 4, .inl gh)), (m3, .inl (cI, 16384, .inl gd)), (m13, .inl (cI, 4096, .inl gs)), (h0, .inr (9, [.ref m1, .ref m2, .ref m3, .int ik, .int wy, .int op, .int cl, .int cx0, .int cx1, .int cy0, .int cy1, .int ds, .ref m4, .ref m5, .ref m6, .ref m7, .ref m8, .ref m9, .int pn, .ref m10, .ref m11, .ref m12, .ref m13])), (m4, .inl (cZ, 4096, .inl gu))]) [3, 4, 0, 1, 5, 2] rfl) (hD.sub (ws' := [(m1, .inl (cI, 4, .inl gw)), (m2, .inl (cI, 4, .inl gh)), (m3, .inl (cI, 16384, .inl gd)), (m13, .inl (cI, 4096, .inl gs)), (h0, .inr (9, [.ref m1, .ref m2, .ref m3, .int ik, .int wy, .int op, .int cl, .int cx0, .int cx1, .int cy0, .int cy1, .int ds, .ref m4, .ref m5, .ref m6, .ref m7, .ref m8, .ref m9, .int pn, .ref m10, .ref m11, .ref m12, .ref m13])), (m4, .inl (cZ, 4096, .inl gu))]) [3, 4, 0, 1, 5, 2] (by decide) rfl) hS (lv_sub hl [0, 4, 5, 6, 7, 8, 9, 10, 11, 12, 13, 14] rfl)
                          · skip
                            have f_155 : (gu y_153.toNatClampNeg).toInt = 0 := f_eq rfl (by decide) c_154
                            refine lv_aload_n hx hb dX9_joins_194 rfl (lv_at hl 9 rfl) ?_
                            refine va_get (D := D) (ci := 9) (v := .ref m3) (C := RX9) (T := TX9) (N := 23) hx hb hts hi_X9 hown hK hP 5 rfl rfl 2 (by decide) (hts _ bw_398) (fun _ h9 => h9) rfl dX9_joins_195 ?_
                            refine lv_sipush (v := 4096) hx hb dX9_joins_198 (by decide) ?_
                            refine lv_iload_n hx hb dX9_joins_201 rfl (lv_at hl 10 rfl) ?_
                            refine lv_imul hx hb dX9_joins_202 ?_
                            refine lv_topi (fun y_157 ey_157 => ?_)
                            refine lv_iload hx hb dX9_joins_203 (lv_at hl 0 rfl) ?_
                            refine lv_iadd hx hb dX9_joins_205 ?_
                            refine lv_topi (fun y_158 ey_158 => ?_)
                            refine va_iald hx hb hK hP 0 0 rfl rfl (by rw [ey_158, ey_157]; exact kp_in (by omega) hiny_153) dX9_joins_206 ?_
                            refine my_fold (v := gd (4096 * k.toNatClampNeg + ixP y_121 y_122)) (congrArg gd (by rw [ey_158, ey_157]; exact dotx (gd := gd) (y := k) hkk hixy_153 (ix_lt (by omega) (by omega) (by omega) (by omega)) ek)) ?_
                            refine lv_iload hx hb dX9_joins_207 (lv_at hl 8 rfl) ?_
                            refine lv_icmp_eq (tgt := 215) hx hb dX9_joins_209 (by decide) (fun c_159 => ?_) (fun c_159 => ?_)
                            · skip
                              have f_160 : (gd (4096 * k.toNatClampNeg + ixP y_121 y_122)).toInt = (gd (4096 * k.toNatClampNeg + ixP x y)).toInt := f_eq rfl rfl c_159
                              refine lv_aload_n hx hb dX9_joins_215 rfl (lv_at hl 9 rfl) ?_
                              refine va_get (D := D) (ci := 9) (v := .ref m4) (C := RX9) (T := TX9) (N := 23) hx hb hts hi_X9 hown hK hP 5 rfl rfl 12 (by decide) (hts _ bw_404) (fun _ h9 => h9) rfl dX9_joins_216 ?_
                              refine lv_iload hx hb dX9_joins_219 (lv_at hl 0 rfl) ?_
                              refine lv_iconst (v := 1) hx hb dX9_joins_221 (by decide) ?_
                              refine va_zast hx hb hK hP hD hS 2 1 rfl rfl hiny_153 dX9_joins_222 (fun H locs hP hD hS => ?_)
                              have hP : va_P D vwCl [(m3, .inl (cI, 16384, .inl gd)), (m13, .inl (cI, 4096, .inl gs)), (m4, .inl (cZ, 4096, .inl (upd gu y_153.toNatClampNeg (vp_nar .boolean 1)))), (m1, .inl (cI, 4, .inl gw)), (m2, .inl (cI, 4, .inl gh)), (h0, .inr (9, [.ref m1, .ref m2, .ref m3, .int ik, .int wy, .int op, .int cl, .int cx0, .int cx1, .int cy0, .int cy1, .int ds, .ref m4, .ref m5, .ref m6, .ref m7, .ref m8, .ref m9, .int pn, .ref m10, .ref m11, .ref m12, .ref m13]))] H := hP
                              have hD : va_D A [(m3, .inl (cI, 16384, .inl gd)), (m13, .inl (cI, 4096, .inl gs)), (m4, .inl (cZ, 4096, .inl (upd gu y_153.toNatClampNeg (vp_nar .boolean 1)))), (m1, .inl (cI, 4, .inl gw)), (m2, .inl (cI, 4, .inl gh)), (h0, .inr (9, [.ref m1, .ref m2, .ref m3, .int ik, .int wy, .int op, .int cl, .int cx0, .int cx1, .int cy0, .int cy1, .int ds, .ref m4, .ref m5, .ref m6, .ref m7, .ref m8, .ref m9, .int pn, .ref m10, .ref m11, .ref m12, .ref m13]))] := hD
                              generalize eg_161 : upd gu y_153.toNatClampNeg (vp_nar .boolean 1) = g_161 at hP hD
                              have hP : va_P D vwCl [(m3, .inl (cI, 16384, .inl gd)), (m13, .inl (cI, 4096, .inl gs)), (m4, .inl (cZ, 4096, .inl g_161)), (m1, .inl (cI, 4, .inl gw)), (m2, .inl (cI, 4, .inl gh)), (h0, .inr (9, [.ref m1, .ref m2, .ref m3, .int ik, .int wy, .int op, .int cl, .int cx0, .int cx1, .int cy0, .int cy1, .int ds, .ref m4, .ref m5, .ref m6, .ref m7, .ref m8, .ref m9, .int pn, .ref m10, .ref m11, .ref m12, .ref m13]))] H := hP
                              have hD : va_D A [(m3, .inl (cI, 16384, .inl gd)), (m13, .inl (cI, 4096, .inl gs)), (m4, .inl (cZ, 4096, .inl g_161)), (m1, .inl (cI, 4, .inl gw)), (m2, .inl (cI, 4, .inl gh)), (h0, .inr (9, [.ref m1, .ref m2, .ref m3, .int ik, .int wy, .int op, .int cl, .int cx0, .int cx1, .int cy0, .int cy1, .int ds, .ref m4, .ref m5, .ref m6, .ref m7, .ref m8, .ref m9, .int pn, .ref m10, .ref m11, .ref m12, .ref m13]))] := hD
                              have hmk : (rcI (opnJ (gw k.toNatClampNeg) (gh k.toNatClampNeg) cl cx0 cx1 cy0 cy1 ic) (fun t => gd (4096 * k.toNatClampNeg + t)) (gd (4096 * k.toNatClampNeg + ixP x y)) co (pX ((rcO (opnJ (gw k.toNatClampNeg) (gh k.toNatClampNeg) cl cx0 cx1 cy0 cy1 ic) (fun t => gd (4096 * k.toNatClampNeg + t)) (gd (4096 * k.toNatClampNeg + ixP x y)) co st1 dn).2.1 dn)) (pY ((rcO (opnJ (gw k.toNatClampNeg) (gh k.toNatClampNeg) cl cx0 cx1 cy0 cy1 ic) (fun t => gd (4096 * k.toNatClampNeg + t)) (gd (4096 * k.toNatClampNeg + ixP x y)) co st1 dn).2.1 dn)) (rcO (opnJ (gw k.toNatClampNeg) (gh k.toNatClampNeg) cl cx0 cx1 cy0 cy1 ic) (fun t => gd (4096 * k.toNatClampNeg + t)) (gd (4096 * k.toNatClampNeg + ixP x y)) co st1 dn) i).1 (ixP y_121 y_122) = 0 := by rw [← f3, ← hxcy_153]; exact c_154
                              have hixn : ixP y_121 y_122 < 4096 := ix_lt (by omega) (by omega) (by omega) (by omega)
                              have hcn2 : cntP (upd (rcI (opnJ (gw k.toNatClampNeg) (gh k.toNatClampNeg) cl cx0 cx1 cy0 cy1 ic) (fun t => gd (4096 * k.toNatClampNeg + t)) (gd (4096 * k.toNatClampNeg + ixP x y)) co (pX ((rcO (opnJ (gw k.toNatClampNeg) (gh k.toNatClampNeg) cl cx0 cx1 cy0 cy1 ic) (fun t => gd (4096 * k.toNatClampNeg + t)) (gd (4096 * k.toNatClampNeg + ixP x y)) co st1 dn).2.1 dn)) (pY ((rcO (opnJ (gw k.toNatClampNeg) (gh k.toNatClampNeg) cl cx0 cx1 cy0 cy1 ic) (fun t => gd (4096 * k.toNatClampNeg + t)) (gd (4096 * k.toNatClampNeg + ixP x y)) co st1 dn).2.1 dn)) (rcO (opnJ (gw k.toNatClampNeg) (gh k.toNatClampNeg) cl cx0 cx1 cy0 cy1 ic) (fun t => gd (4096 * k.toNatClampNeg + t)) (gd (4096 * k.toNatClampNeg + ixP x y)) co st1 dn) i).1 (ixP y_121 y_122) 1) 4096 = (rcI (opnJ (gw k.toNatClampNeg) (gh k.toNatClampNeg) cl cx0 cx1 cy0 cy1 ic) (fun t => gd (4096 * k.toNatClampNeg + t)) (gd (4096 * k.toNatClampNeg + ixP x y)) co (pX ((rcO (opnJ (gw k.toNatClampNeg) (gh k.toNatClampNeg) cl cx0 cx1 cy0 cy1 ic) (fun t => gd (4096 * k.toNatClampNeg + t)) (gd (4096 * k.toNatClampNeg + ixP x y)) co st1 dn).2.1 dn)) (pY ((rcO (opnJ (gw k.toNatClampNeg) (gh k.toNatClampNeg) cl cx0 cx1 cy0 cy1 ic) (fun t => gd (4096 * k.toNatClampNeg + t)) (gd (4096 * k.toNatClampNeg + ixP x y)) co st1 dn).2.1 dn)) (rcO (opnJ (gw k.toNatClampNeg) (gh k.toNatClampNeg) cl cx0 cx1 cy0 cy1 ic) (fun t => gd (4096 * k.toNatClampNeg + t)) (gd (4096 * k.toNatClampNeg + ixP x y)) co st1 dn) i).2.2 + 1 := by rw [cnt_up1 hixn hmk, fcn]
                              have hm2 : (rcI (opnJ (gw k.toNatClampNeg) (gh k.toNatClampNeg) cl cx0 cx1 cy0 cy1 ic) (fun t => gd (4096 * k.toNatClampNeg + t)) (gd (4096 * k.toNatClampNeg + ixP x y)) co (pX ((rcO (opnJ (gw k.toNatClampNeg) (gh k.toNatClampNeg) cl cx0 cx1 cy0 cy1 ic) (fun t => gd (4096 * k.toNatClampNeg + t)) (gd (4096 * k.toNatClampNeg + ixP x y)) co st1 dn).2.1 dn)) (pY ((rcO (opnJ (gw k.toNatClampNeg) (gh k.toNatClampNeg) cl cx0 cx1 cy0 cy1 ic) (fun t => gd (4096 * k.toNatClampNeg + t)) (gd (4096 * k.toNatClampNeg + ixP x y)) co st1 dn).2.1 dn)) (rcO (opnJ (gw k.toNatClampNeg) (gh k.toNatClampNeg) cl cx0 cx1 cy0 cy1 ic) (fun t => gd (4096 * k.toNatClampNeg + t)) (gd (4096 * k.toNatClampNeg + ixP x y)) co st1 dn) i).2.2 + 1 ≤ 4096 := by rw [← hcn2]; exact cntP_le _ _
                              refine lv_aload_n hx hb dX9_joins_223 rfl (lv_at hl 9 rfl) ?_
                              refine va_get (D := D) (ci := 9) (v := .ref m13) (C := RX9) (T := TX9) (N := 23) hx hb hts hi_X9 hown hK hP 5 rfl rfl 22 (by decide) (hts _ bw_413) (fun _ h9 => h9) rfl dX9_joins_224 ?_
                              refine lv_iload hx hb dX9_joins_227 (lv_at hl 7 rfl) ?_
                              refine lv_iload hx hb dX9_joins_229 (lv_at hl 0 rfl) ?_
                              refine va_iast hx hb hK hP hD hS 1 0 rfl rfl (vp_in_iff.mpr ⟨by omega, by omega⟩) dX9_joins_231 (fun H locs hP hD hS => ?_)
                              have hP : va_P D vwCl [(m3, .inl (cI, 16384, .inl gd)), (m13, .inl (cI, 4096, .inl (upd gs z7.toNatClampNeg y_153))), (m4, .inl (cZ, 4096, .inl g_161)), (m1, .inl (cI, 4, .inl gw)), (m2, .inl (cI, 4, .inl gh)), (h0, .inr (9, [.ref m1, .ref m2, .ref m3, .int ik, .int wy, .int op, .int cl, .int cx0, .int cx1, .int cy0, .int cy1, .int ds, .ref m4, .ref m5, .ref m6, .ref m7, .ref m8, .ref m9, .int pn, .ref m10, .ref m11, .ref m12, .ref m13]))] H := hP
                              have hD : va_D A [(m3, .inl (cI, 16384, .inl gd)), (m13, .inl (cI, 4096, .inl (upd gs z7.toNatClampNeg y_153))), (m4, .inl (cZ, 4096, .inl g_161)), (m1, .inl (cI, 4, .inl gw)), (m2, .inl (cI, 4, .inl gh)), (h0, .inr (9, [.ref m1, .ref m2, .ref m3, .int ik, .int wy, .int op, .int cl, .int cx0, .int cx1, .int cy0, .int cy1, .int ds, .ref m4, .ref m5, .ref m6, .ref m7, .ref m8, .ref m9, .int pn, .ref m10, .ref m11, .ref m12, .ref m13]))] := hD
                              generalize eg_162 : upd gs z7.toNatClampNeg y_153 = g_162 at hP hD
                              have hP : va_P D vwCl [(m3, .inl (cI, 16384, .inl gd)), (m13, .inl (cI, 4096, .inl g_162)), (m4, .inl (cZ, 4096, .inl g_161)), (m1, .inl (cI, 4, .inl gw)), (m2, .inl (cI, 4, .inl gh)), (h0, .inr (9, [.ref m1, .ref m2, .ref m3, .int ik, .int wy, .int op, .int cl, .int cx0, .int cx1, .int cy0, .int cy1, .int ds, .ref m4, .ref m5, .ref m6, .ref m7, .ref m8, .ref m9, .int pn, .ref m10, .ref m11, .ref m12, .ref m13]))] H := hP
                              have hD : va_D A [(m3, .inl (cI, 16384, .inl gd)), (m13, .inl (cI, 4096, .inl g_162)), (m4, .inl (cZ, 4096, .inl g_161)), (m1, .inl (cI, 4, .inl gw)), (m2, .inl (cI, 4, .inl gh)), (h0, .inr (9, [.ref m1, .ref m2, .ref m3, .int ik, .int wy, .int op, .int cl, .int cx0, .int cx1, .int cy0, .int cy1, .int ds, .ref m4, .ref m5, .ref m6, .ref m7, .ref m8, .ref m9, .int pn, .ref m10, .ref m11, .ref m12, .ref m13]))] := hD
                              refine lv_iload hx hb dX9_joins_232 (lv_at hl 7 rfl) ?_
                              refine lv_iconst (v := 1) hx hb dX9_joins_234 (by decide) ?_
                              refine lv_iadd hx hb dX9_joins_235 ?_
                              refine lv_topi (fun y_163 ey_163 => ?_)
                              refine lv_istore (lv' := [(7, .int y_163), (14, .int y_153), (13, .int y_21), (12, .int y_19), (11, .int x11), (8, .int y_13), (10, .int y_12), (9, .int y_11), (6, .int (gd (4096 * k.toNatClampNeg + ixP x y))), (0, .ref h0), (1, .int k), (2, .int x), (3, .int y), (4, .int co), (5, .int ic)]) hx hb dX9_joins_236 hl (by decide) rfl (fun ls hl => ?_)
                              obtain ⟨y_164, ey_164⟩ : ∃ y : Int32, y = x11 + 1 := ⟨_, rfl⟩
                              refine lv_iinc (v := y_164) (lv' := [(11, .int y_164), (7, .int y_163), (14, .int y_153), (13, .int y_21), (12, .int y_19), (8, .int y_13), (10, .int y_12), (9, .int y_11), (6, .int (gd (4096 * k.toNatClampNeg + ixP x y))), (0, .ref h0), (1, .int k), (2, .int x), (3, .int y), (4, .int co), (5, .int ic)]) hx hb dX9_joins_238 hl (k := 4) rfl (by rw [ey_164]; rfl) (by decide) rfl (fun ls hl => ?_)
                              refine lv_goto (tgt := 87) hx hb dX9_joins_241 (by decide) ?_
                              have hS1 : (rcI (opnJ (gw k.toNatClampNeg) (gh k.toNatClampNeg) cl cx0 cx1 cy0 cy1 ic) (fun t => gd (4096 * k.toNatClampNeg + t)) (gd (4096 * k.toNatClampNeg + ixP x y)) co (pX ((rcO (opnJ (gw k.toNatClampNeg) (gh k.toNatClampNeg) cl cx0 cx1 cy0 cy1 ic) (fun t => gd (4096 * k.toNatClampNeg + t)) (gd (4096 * k.toNatClampNeg + ixP x y)) co st1 dn).2.1 dn)) (pY ((rcO (opnJ (gw k.toNatClampNeg) (gh k.toNatClampNeg) cl cx0 cx1 cy0 cy1 ic) (fun t => gd (4096 * k.toNatClampNeg + t)) (gd (4096 * k.toNatClampNeg + ixP x y)) co st1 dn).2.1 dn)) (rcO (opnJ (gw k.toNatClampNeg) (gh k.toNatClampNeg) cl cx0 cx1 cy0 cy1 ic) (fun t => gd (4096 * k.toNatClampNeg + t)) (gd (4096 * k.toNatClampNeg + ixP x y)) co st1 dn) (i + 1)) = rcS (opnJ (gw k.toNatClampNeg) (gh k.toNatClampNeg) cl cx0 cx1 cy0 cy1 ic) (fun t => gd (4096 * k.toNatClampNeg + t)) (gd (4096 * k.toNatClampNeg + ixP x y)) y_121 y_122 (rcI (opnJ (gw k.toNatClampNeg) (gh k.toNatClampNeg) cl cx0 cx1 cy0 cy1 ic) (fun t => gd (4096 * k.toNatClampNeg + t)) (gd (4096 * k.toNatClampNeg + ixP x y)) co (pX ((rcO (opnJ (gw k.toNatClampNeg) (gh k.toNatClampNeg) cl cx0 cx1 cy0 cy1 ic) (fun t => gd (4096 * k.toNatClampNeg + t)) (gd (4096 * k.toNatClampNeg + ixP x y)) co st1 dn).2.1 dn)) (pY ((rcO (opnJ (gw k.toNatClampNeg) (gh k.toNatClampNeg) cl cx0 cx1 cy0 cy1 ic) (fun t => gd (4096 * k.toNatClampNeg + t)) (gd (4096 * k.toNatClampNeg + ixP x y)) co st1 dn).2.1 dn)) (rcO (opnJ (gw k.toNatClampNeg) (gh k.toNatClampNeg) cl cx0 cx1 cy0 cy1 ic) (fun t => gd (4096 * k.toNatClampNeg + t)) (gd (4096 * k.toNatClampNeg + ixP x y)) co st1 dn) i) := by rw [hay_121, hay_122]; exact if_pos (Or.inr (Or.inr (hdy_21.symm.trans c_118)))
                              have hSt : (rcI (opnJ (gw k.toNatClampNeg) (gh k.toNatClampNeg) cl cx0 cx1 cy0 cy1 ic) (fun t => gd (4096 * k.toNatClampNeg + t)) (gd (4096 * k.toNatClampNeg + ixP x y)) co (pX ((rcO (opnJ (gw k.toNatClampNeg) (gh k.toNatClampNeg) cl cx0 cx1 cy0 cy1 ic) (fun t => gd (4096 * k.toNatClampNeg + t)) (gd (4096 * k.toNatClampNeg + ixP x y)) co st1 dn).2.1 dn)) (pY ((rcO (opnJ (gw k.toNatClampNeg) (gh k.toNatClampNeg) cl cx0 cx1 cy0 cy1 ic) (fun t => gd (4096 * k.toNatClampNeg + t)) (gd (4096 * k.toNatClampNeg + ixP x y)) co st1 dn).2.1 dn)) (rcO (opnJ (gw k.toNatClampNeg) (gh k.toNatClampNeg) cl cx0 cx1 cy0 cy1 ic) (fun t => gd (4096 * k.toNatClampNeg + t)) (gd (4096 * k.toNatClampNeg + ixP x y)) co st1 dn) (i + 1)) = (upd (rcI (opnJ (gw k.toNatClampNeg) (gh k.toNatClampNeg) cl cx0 cx1 cy0 cy1 ic) (fun t => gd (4096 * k.toNatClampNeg + t)) (gd (4096 * k.toNatClampNeg + ixP x y)) co (pX ((rcO (opnJ (gw k.toNatClampNeg) (gh k.toNatClampNeg) cl cx0 cx1 cy0 cy1 ic) (fun t => gd (4096 * k.toNatClampNeg + t)) (gd (4096 * k.toNatClampNeg + ixP x y)) co st1 dn).2.1 dn)) (pY ((rcO (opnJ (gw k.toNatClampNeg) (gh k.toNatClampNeg) cl cx0 cx1 cy0 cy1 ic) (fun t => gd (4096 * k.toNatClampNeg + t)) (gd (4096 * k.toNatClampNeg + ixP x y)) co st1 dn).2.1 dn)) (rcO (opnJ (gw k.toNatClampNeg) (gh k.toNatClampNeg) cl cx0 cx1 cy0 cy1 ic) (fun t => gd (4096 * k.toNatClampNeg + t)) (gd (4096 * k.toNatClampNeg + ixP x y)) co st1 dn) i).1 (ixP y_121 y_122) 1, upd (rcI (opnJ (gw k.toNatClampNeg) (gh k.toNatClampNeg) cl cx0 cx1 cy0 cy1 ic) (fun t => gd (4096 * k.toNatClampNeg + t)) (gd (4096 * k.toNatClampNeg + ixP x y)) co (pX ((rcO (opnJ (gw k.toNatClampNeg) (gh k.toNatClampNeg) cl cx0 cx1 cy0 cy1 ic) (fun t => gd (4096 * k.toNatClampNeg + t)) (gd (4096 * k.toNatClampNeg + ixP x y)) co st1 dn).2.1 dn)) (pY ((rcO (opnJ (gw k.toNatClampNeg) (gh k.toNatClampNeg) cl cx0 cx1 cy0 cy1 ic) (fun t => gd (4096 * k.toNatClampNeg + t)) (gd (4096 * k.toNatClampNeg + ixP x y)) co st1 dn).2.1 dn)) (rcO (opnJ (gw k.toNatClampNeg) (gh k.toNatClampNeg) cl cx0 cx1 cy0 cy1 ic) (fun t => gd (4096 * k.toNatClampNeg + t)) (gd (4096 * k.toNatClampNeg + ixP x y)) co st1 dn) i).2.1 (rcI (opnJ (gw k.toNatClampNeg) (gh k.toNatClampNeg) cl cx0 cx1 cy0 cy1 ic) (fun t => gd (4096 * k.toNatClampNeg + t)) (gd (4096 * k.toNatClampNeg + ixP x y)) co (pX ((rcO (opnJ (gw k.toNatClampNeg) (gh k.toNatClampNeg) cl cx0 cx1 cy0 cy1 ic) (fun t => gd (4096 * k.toNatClampNeg + t)) (gd (4096 * k.toNatClampNeg + ixP x y)) co st1 dn).2.1 dn)) (pY ((rcO (opnJ (gw k.toNatClampNeg) (gh k.toNatClampNeg) cl cx0 cx1 cy0 cy1 ic) (fun t => gd (4096 * k.toNatClampNeg + t)) (gd (4096 * k.toNatClampNeg + ixP x y)) co st1 dn).2.1 dn)) (rcO (opnJ (gw k.toNatClampNeg) (gh k.toNatClampNeg) cl cx0 cx1 cy0 cy1 ic) (fun t => gd (4096 * k.toNatClampNeg + t)) (gd (4096 * k.toNatClampNeg + ixP x y)) co st1 dn) i).2.2 (nI (ixP y_121 y_122)), (rcI (opnJ (gw k.toNatClampNeg) (gh k.toNatClampNeg) cl cx0 cx1 cy0 cy1 ic) (fun t => gd (4096 * k.toNatClampNeg + t)) (gd (4096 * k.toNatClampNeg + ixP x y)) co (pX ((rcO (opnJ (gw k.toNatClampNeg) (gh k.toNatClampNeg) cl cx0 cx1 cy0 cy1 ic) (fun t => gd (4096 * k.toNatClampNeg + t)) (gd (4096 * k.toNatClampNeg + ixP x y)) co st1 dn).2.1 dn)) (pY ((rcO (opnJ (gw k.toNatClampNeg) (gh k.toNatClampNeg) cl cx0 cx1 cy0 cy1 ic) (fun t => gd (4096 * k.toNatClampNeg + t)) (gd (4096 * k.toNatClampNeg + ixP x y)) co st1 dn).2.1 dn)) (rcO (opnJ (gw k.toNatClampNeg) (gh k.toNatClampNeg) cl cx0 cx1 cy0 cy1 ic) (fun t => gd (4096 * k.toNatClampNeg + t)) (gd (4096 * k.toNatClampNeg + ixP x y)) co st1 dn) i).2.2 + 1) := hS1.trans (if_pos ⟨⟨⟨f_125, Or.inr f_149⟩, c_159⟩, hmk, by omega⟩)
                              exact ih_15 (i + 1) y_164 y_163 g_161 g_162 _ _ _ (by omega) (by omega) (by rw [ey_164, ex_i]; exact nI_1 i) (by rw [hSt, ey_163, f7]; exact nI_1 _) (by rw [hSt, ← eg_161, f3, hxcy_153]; rfl) (by rw [hSt, ← eg_162, f2, hixy_153, show z7.toNatClampNeg = (rcI (opnJ (gw k.toNatClampNeg) (gh k.toNatClampNeg) cl cx0 cx1 cy0 cy1 ic) (fun t => gd (4096 * k.toNatClampNeg + t)) (gd (4096 * k.toNatClampNeg + ixP x y)) co (pX ((rcO (opnJ (gw k.toNatClampNeg) (gh k.toNatClampNeg) cl cx0 cx1 cy0 cy1 ic) (fun t => gd (4096 * k.toNatClampNeg + t)) (gd (4096 * k.toNatClampNeg + ixP x y)) co st1 dn).2.1 dn)) (pY ((rcO (opnJ (gw k.toNatClampNeg) (gh k.toNatClampNeg) cl cx0 cx1 cy0 cy1 ic) (fun t => gd (4096 * k.toNatClampNeg + t)) (gd (4096 * k.toNatClampNeg + ixP x y)) co st1 dn).2.1 dn)) (rcO (opnJ (gw k.toNatClampNeg) (gh k.toNatClampNeg) cl cx0 cx1 cy0 cy1 ic) (fun t => gd (4096 * k.toNatClampNeg + t)) (gd (4096 * k.toNatClampNeg + ixP x y)) co st1 dn) i).2.2 by rw [f7]; exact nI_clamp (by omega)]) (by rw [hSt]; exact hcn2) (hP.sub (ws' := [(m1, .inl (cI, 4, .inl gw)), (m2, .inl (cI, 4, .inl gh)), (m3, .inl (cI, 16384, .inl gd)), (m13, .inl (cI, 4096, .inl g_162)), (h0, .inr (9, [.ref m1, .ref m2, .ref m3, .int ik, .int wy, .int op, .int cl, .int cx0, .int cx1, .int cy0, .int cy1, .int ds, .ref m4, .ref m5, .ref m6, .ref m7, .ref m8, .ref m9, .int pn, .ref m10, .ref m11, .ref m12, .ref m13])), (m4, .inl (cZ, 4096, .inl g_161))]) [3, 4, 0, 1, 5, 2] rfl) (hD.sub (ws' := [(m1, .inl (cI, 4, .inl gw)), (m2, .inl (cI, 4, .inl gh)), (m3, .inl (cI, 16384, .inl gd)), (m13, .inl (cI, 4096, .inl g_162)), (h0, .inr (9, [.ref m1, .ref m2, .ref m3, .int ik, .int wy, .int op, .int cl, .int cx0, .int cx1, .int cy0, .int cy1, .int ds, .ref m4, .ref m5, .ref m6, .ref m7, .ref m8, .ref m9, .int pn, .ref m10, .ref m11, .ref m12, .ref m13])), (m4, .inl (cZ, 4096, .inl g_161))]) [3, 4, 0, 1, 5, 2] (by decide) rfl) hS (lv_sub hl [0, 5, 6, 7, 1, 8, 9, 10, 11, 12, 13, 14] rfl)
                            · skip
                              have f_160 : ¬ ((gd (4096 * k.toNatClampNeg + ixP y_121 y_122)).toInt = (gd (4096 * k.toNatClampNeg + ixP x y)).toInt) := fn_eq rfl rfl c_159
                              refine lv_goto (tgt := 238) hx hb dX9_joins_212 (by decide) ?_
                              obtain ⟨y_165, ey_165⟩ : ∃ y : Int32, y = x11 + 1 := ⟨_, rfl⟩
                              refine lv_iinc (v := y_165) (lv' := [(11, .int y_165), (14, .int y_153), (13, .int y_21), (12, .int y_19), (8, .int y_13), (10, .int y_12), (9, .int y_11), (7, .int z7), (6, .int (gd (4096 * k.toNatClampNeg + ixP x y))), (0, .ref h0), (1, .int k), (2, .int x), (3, .int y), (4, .int co), (5, .int ic)]) hx hb dX9_joins_238 hl (k := 3) rfl (by rw [ey_165]; rfl) (by decide) rfl (fun ls hl => ?_)
                              refine lv_goto (tgt := 87) hx hb dX9_joins_241 (by decide) ?_
                              have hS1 : (rcI (opnJ (gw k.toNatClampNeg) (gh k.toNatClampNeg) cl cx0 cx1 cy0 cy1 ic) (fun t => gd (4096 * k.toNatClampNeg + t)) (gd (4096 * k.toNatClampNeg + ixP x y)) co (pX ((rcO (opnJ (gw k.toNatClampNeg) (gh k.toNatClampNeg) cl cx0 cx1 cy0 cy1 ic) (fun t => gd (4096 * k.toNatClampNeg + t)) (gd (4096 * k.toNatClampNeg + ixP x y)) co st1 dn).2.1 dn)) (pY ((rcO (opnJ (gw k.toNatClampNeg) (gh k.toNatClampNeg) cl cx0 cx1 cy0 cy1 ic) (fun t => gd (4096 * k.toNatClampNeg + t)) (gd (4096 * k.toNatClampNeg + ixP x y)) co st1 dn).2.1 dn)) (rcO (opnJ (gw k.toNatClampNeg) (gh k.toNatClampNeg) cl cx0 cx1 cy0 cy1 ic) (fun t => gd (4096 * k.toNatClampNeg + t)) (gd (4096 * k.toNatClampNeg + ixP x y)) co st1 dn) (i + 1)) = rcS (opnJ (gw k.toNatClampNeg) (gh k.toNatClampNeg) cl cx0 cx1 cy0 cy1 ic) (fun t => gd (4096 * k.toNatClampNeg + t)) (gd (4096 * k.toNatClampNeg + ixP x y)) y_121 y_122 (rcI (opnJ (gw k.toNatClampNeg) (gh k.toNatClampNeg) cl cx0 cx1 cy0 cy1 ic) (fun t => gd (4096 * k.toNatClampNeg + t)) (gd (4096 * k.toNatClampNeg + ixP x y)) co (pX ((rcO (opnJ (gw k.toNatClampNeg) (gh k.toNatClampNeg) cl cx0 cx1 cy0 cy1 ic) (fun t => gd (4096 * k.toNatClampNeg + t)) (gd (4096 * k.toNatClampNeg + ixP x y)) co st1 dn).2.1 dn)) (pY ((rcO (opnJ (gw k.toNatClampNeg) (gh k.toNatClampNeg) cl cx0 cx1 cy0 cy1 ic) (fun t => gd (4096 * k.toNatClampNeg + t)) (gd (4096 * k.toNatClampNeg + ixP x y)) co st1 dn).2.1 dn)) (rcO (opnJ (gw k.toNatClampNeg) (gh k.toNatClampNeg) cl cx0 cx1 cy0 cy1 ic) (fun t => gd (4096 * k.toNatClampNeg + t)) (gd (4096 * k.toNatClampNeg + ixP x y)) co st1 dn) i) := by rw [hay_121, hay_122]; exact if_pos (Or.inr (Or.inr (hdy_21.symm.trans c_118)))
                              have hSt : (rcI (opnJ (gw k.toNatClampNeg) (gh k.toNatClampNeg) cl cx0 cx1 cy0 cy1 ic) (fun t => gd (4096 * k.toNatClampNeg + t)) (gd (4096 * k.toNatClampNeg + ixP x y)) co (pX ((rcO (opnJ (gw k.toNatClampNeg) (gh k.toNatClampNeg) cl cx0 cx1 cy0 cy1 ic) (fun t => gd (4096 * k.toNatClampNeg + t)) (gd (4096 * k.toNatClampNeg + ixP x y)) co st1 dn).2.1 dn)) (pY ((rcO (opnJ (gw k.toNatClampNeg) (gh k.toNatClampNeg) cl cx0 cx1 cy0 cy1 ic) (fun t => gd (4096 * k.toNatClampNeg + t)) (gd (4096 * k.toNatClampNeg + ixP x y)) co st1 dn).2.1 dn)) (rcO (opnJ (gw k.toNatClampNeg) (gh k.toNatClampNeg) cl cx0 cx1 cy0 cy1 ic) (fun t => gd (4096 * k.toNatClampNeg + t)) (gd (4096 * k.toNatClampNeg + ixP x y)) co st1 dn) (i + 1)) = (rcI (opnJ (gw k.toNatClampNeg) (gh k.toNatClampNeg) cl cx0 cx1 cy0 cy1 ic) (fun t => gd (4096 * k.toNatClampNeg + t)) (gd (4096 * k.toNatClampNeg + ixP x y)) co (pX ((rcO (opnJ (gw k.toNatClampNeg) (gh k.toNatClampNeg) cl cx0 cx1 cy0 cy1 ic) (fun t => gd (4096 * k.toNatClampNeg + t)) (gd (4096 * k.toNatClampNeg + ixP x y)) co st1 dn).2.1 dn)) (pY ((rcO (opnJ (gw k.toNatClampNeg) (gh k.toNatClampNeg) cl cx0 cx1 cy0 cy1 ic) (fun t => gd (4096 * k.toNatClampNeg + t)) (gd (4096 * k.toNatClampNeg + ixP x y)) co st1 dn).2.1 dn)) (rcO (opnJ (gw k.toNatClampNeg) (gh k.toNatClampNeg) cl cx0 cx1 cy0 cy1 ic) (fun t => gd (4096 * k.toNatClampNeg + t)) (gd (4096 * k.toNatClampNeg + ixP x y)) co st1 dn) i) := hS1.trans (if_neg (fun q => c_159 q.1.2))
                              exact ih_15 (i + 1) y_165 z7 gu gs _ _ _ (by omega) (by omega) (by rw [ey_165, ex_i]; exact nI_1 i) (by rw [hSt]; exact f7) (by rw [hSt]; exact f3) (by rw [hSt]; exact f2) (by rw [hSt]; exact fcn) (hP.sub (ws' := [(m1, .inl (cI, 4, .inl gw)), (m2, .inl (cI, 4, .inl gh)), (m3, .inl (cI, 16384, .inl gd)), (m13, .inl (cI, 4096, .inl gs)), (h0, .inr (9, [.ref m1, .ref m2, .ref m3, .int ik, .int wy, .int op, .int cl, .int cx0, .int cx1, .int cy0, .int cy1, .int ds, .ref m4, .ref m5, .ref m6, .ref m7, .ref m8, .ref m9, .int pn, .ref m10, .ref m11, .ref m12, .ref m13])), (m4, .inl (cZ, 4096, .inl gu))]) [3, 4, 0, 1, 5, 2] rfl) (hD.sub (ws' := [(m1, .inl (cI, 4, .inl gw)), (m2, .inl (cI, 4, .inl gh)), (m3, .inl (cI, 16384, .inl gd)), (m13, .inl (cI, 4096, .inl gs)), (h0, .inr (9, [.ref m1, .ref m2, .ref m3, .int ik, .int wy, .int op, .int cl, .int cx0, .int cx1, .int cy0, .int cy1, .int ds, .ref m4, .ref m5, .ref m6, .ref m7, .ref m8, .ref m9, .int pn, .ref m10, .ref m11, .ref m12, .ref m13])), (m4, .inl (cZ, 4096, .inl gu))]) [3, 4, 0, 1, 5, 2] (by decide) rfl) hS (lv_sub hl [0, 4, 5, 6, 7, 8, 9, 10, 11, 12, 13, 14] rfl)
                        · skip
                          have f_149 := bz0 hr_147 c_148
                          refine lv_goto (tgt := 238) hx hb dX9_joins_165 (by decide) ?_
                          obtain ⟨y_166, ey_166⟩ : ∃ y : Int32, y = x11 + 1 := ⟨_, rfl⟩
                          refine lv_iinc (v := y_166) (lv' := [(11, .int y_166), (13, .int y_21), (12, .int y_19), (8, .int y_13), (10, .int y_12), (9, .int y_11), (7, .int z7), (6, .int (gd (4096 * k.toNatClampNeg + ixP x y))), (0, .ref h0), (1, .int k), (2, .int x), (3, .int y), (4, .int co), (5, .int ic)]) hx hb dX9_joins_238 hl (k := 2) rfl (by rw [ey_166]; rfl) (by decide) rfl (fun ls hl => ?_)
                          refine lv_goto (tgt := 87) hx hb dX9_joins_241 (by decide) ?_
                          have hS1 : (rcI (opnJ (gw k.toNatClampNeg) (gh k.toNatClampNeg) cl cx0 cx1 cy0 cy1 ic) (fun t => gd (4096 * k.toNatClampNeg + t)) (gd (4096 * k.toNatClampNeg + ixP x y)) co (pX ((rcO (opnJ (gw k.toNatClampNeg) (gh k.toNatClampNeg) cl cx0 cx1 cy0 cy1 ic) (fun t => gd (4096 * k.toNatClampNeg + t)) (gd (4096 * k.toNatClampNeg + ixP x y)) co st1 dn).2.1 dn)) (pY ((rcO (opnJ (gw k.toNatClampNeg) (gh k.toNatClampNeg) cl cx0 cx1 cy0 cy1 ic) (fun t => gd (4096 * k.toNatClampNeg + t)) (gd (4096 * k.toNatClampNeg + ixP x y)) co st1 dn).2.1 dn)) (rcO (opnJ (gw k.toNatClampNeg) (gh k.toNatClampNeg) cl cx0 cx1 cy0 cy1 ic) (fun t => gd (4096 * k.toNatClampNeg + t)) (gd (4096 * k.toNatClampNeg + ixP x y)) co st1 dn) (i + 1)) = rcS (opnJ (gw k.toNatClampNeg) (gh k.toNatClampNeg) cl cx0 cx1 cy0 cy1 ic) (fun t => gd (4096 * k.toNatClampNeg + t)) (gd (4096 * k.toNatClampNeg + ixP x y)) y_121 y_122 (rcI (opnJ (gw k.toNatClampNeg) (gh k.toNatClampNeg) cl cx0 cx1 cy0 cy1 ic) (fun t => gd (4096 * k.toNatClampNeg + t)) (gd (4096 * k.toNatClampNeg + ixP x y)) co (pX ((rcO (opnJ (gw k.toNatClampNeg) (gh k.toNatClampNeg) cl cx0 cx1 cy0 cy1 ic) (fun t => gd (4096 * k.toNatClampNeg + t)) (gd (4096 * k.toNatClampNeg + ixP x y)) co st1 dn).2.1 dn)) (pY ((rcO (opnJ (gw k.toNatClampNeg) (gh k.toNatClampNeg) cl cx0 cx1 cy0 cy1 ic) (fun t => gd (4096 * k.toNatClampNeg + t)) (gd (4096 * k.toNatClampNeg + ixP x y)) co st1 dn).2.1 dn)) (rcO (opnJ (gw k.toNatClampNeg) (gh k.toNatClampNeg) cl cx0 cx1 cy0 cy1 ic) (fun t => gd (4096 * k.toNatClampNeg + t)) (gd (4096 * k.toNatClampNeg + ixP x y)) co st1 dn) i) := by rw [hay_121, hay_122]; exact if_pos (Or.inr (Or.inr (hdy_21.symm.trans c_118)))
                          have hSt : (rcI (opnJ (gw k.toNatClampNeg) (gh k.toNatClampNeg) cl cx0 cx1 cy0 cy1 ic) (fun t => gd (4096 * k.toNatClampNeg + t)) (gd (4096 * k.toNatClampNeg + ixP x y)) co (pX ((rcO (opnJ (gw k.toNatClampNeg) (gh k.toNatClampNeg) cl cx0 cx1 cy0 cy1 ic) (fun t => gd (4096 * k.toNatClampNeg + t)) (gd (4096 * k.toNatClampNeg + ixP x y)) co st1 dn).2.1 dn)) (pY ((rcO (opnJ (gw k.toNatClampNeg) (gh k.toNatClampNeg) cl cx0 cx1 cy0 cy1 ic) (fun t => gd (4096 * k.toNatClampNeg + t)) (gd (4096 * k.toNatClampNeg + ixP x y)) co st1 dn).2.1 dn)) (rcO (opnJ (gw k.toNatClampNeg) (gh k.toNatClampNeg) cl cx0 cx1 cy0 cy1 ic) (fun t => gd (4096 * k.toNatClampNeg + t)) (gd (4096 * k.toNatClampNeg + ixP x y)) co st1 dn) (i + 1)) = (rcI (opnJ (gw k.toNatClampNeg) (gh k.toNatClampNeg) cl cx0 cx1 cy0 cy1 ic) (fun t => gd (4096 * k.toNatClampNeg + t)) (gd (4096 * k.toNatClampNeg + ixP x y)) co (pX ((rcO (opnJ (gw k.toNatClampNeg) (gh k.toNatClampNeg) cl cx0 cx1 cy0 cy1 ic) (fun t => gd (4096 * k.toNatClampNeg + t)) (gd (4096 * k.toNatClampNeg + ixP x y)) co st1 dn).2.1 dn)) (pY ((rcO (opnJ (gw k.toNatClampNeg) (gh k.toNatClampNeg) cl cx0 cx1 cy0 cy1 ic) (fun t => gd (4096 * k.toNatClampNeg + t)) (gd (4096 * k.toNatClampNeg + ixP x y)) co st1 dn).2.1 dn)) (rcO (opnJ (gw k.toNatClampNeg) (gh k.toNatClampNeg) cl cx0 cx1 cy0 cy1 ic) (fun t => gd (4096 * k.toNatClampNeg + t)) (gd (4096 * k.toNatClampNeg + ixP x y)) co st1 dn) i) := hS1.trans (if_neg (fun q => q.1.1.2.elim c_127 (fun q => f_149 q)))
                          exact ih_15 (i + 1) y_166 z7 gu gs _ _ _ (by omega) (by omega) (by rw [ey_166, ex_i]; exact nI_1 i) (by rw [hSt]; exact f7) (by rw [hSt]; exact f3) (by rw [hSt]; exact f2) (by rw [hSt]; exact fcn) (hP.sub (ws' := [(m1, .inl (cI, 4, .inl gw)), (m2, .inl (cI, 4, .inl gh)), (m3, .inl (cI, 16384, .inl gd)), (m13, .inl (cI, 4096, .inl gs)), (h0, .inr (9, [.ref m1, .ref m2, .ref m3, .int ik, .int wy, .int op, .int cl, .int cx0, .int cx1, .int cy0, .int cy1, .int ds, .ref m4, .ref m5, .ref m6, .ref m7, .ref m8, .ref m9, .int pn, .ref m10, .ref m11, .ref m12, .ref m13])), (m4, .inl (cZ, 4096, .inl gu))]) [3, 4, 0, 1, 5, 2] rfl) (hD.sub (ws' := [(m1, .inl (cI, 4, .inl gw)), (m2, .inl (cI, 4, .inl gh)), (m3, .inl (cI, 16384, .inl gd)), (m13, .inl (cI, 4096, .inl gs)), (h0, .inr (9, [.ref m1, .ref m2, .ref m3, .int ik, .int wy, .int op, .int cl, .int cx0, .int cx1, .int cy0, .int cy1, .int ds, .ref m4, .ref m5, .ref m6, .ref m7, .ref m8, .ref m9, .int pn, .ref m10, .ref m11, .ref m12, .ref m13])), (m4, .inl (cZ, 4096, .inl gu))]) [3, 4, 0, 1, 5, 2] (by decide) rfl) hS (lv_sub hl [0, 3, 4, 5, 6, 7, 8, 9, 10, 11, 12, 13] rfl)
        exact loop_14 (9 + 1) 0 0 x7 gq gt _ _ _ (by omega) (by omega) nI_0.symm e7 q3 q2 hcn hP hD hS (lv_sub hl [0, 1, 2, 3, 4, 5, 6, 7, 8, 9, 10, 11] rfl)
  exact loop_7 4098 0 1 0 g_6 g_5 _ _ _ (by omega) (Nat.zero_le _) (by show (1 : Int32) = nI st1.2.2; rw [hs1]; rfl) nI_0.symm hg4 hg13 (by show cntP st1.1 4096 = st1.2.2; rw [hs1]; exact hc0) (fun _ h => absurd h (by omega)) hP hD hS (lv_sub hl [0, 1, 2, 3, 4, 5, 6, 7, 8] rfl)

set_option maxHeartbeats 4000000 in
set_option maxRecDepth 100000 in
theorem k_X9_flood_ye (l : Launch) (D : va_G) (sz : Nat) (h0 m1 m2 m3 m4 m5 m6 m7 m8 m9 m10 m11 m12 m13 : Nat) (ik wy op cl cx0 cx1 cy0 cy1 ds pn : Int32) (gw : Nat → Int32) (gh : Nat → Int32) (gd : Nat → Int32) (gm : Nat → Int32) (ge : Nat → Int32) (gv : Nat → Int32) (wt : Nat → Int32) (k x y co : Int32) (cI : ClassId) (cZ : ClassId) (hk : 0 ≤ k.toInt ∧ k.toInt ≤ 3) (hgw : 0 ≤ (gw k.toNatClampNeg).toInt ∧ (gw k.toNatClampNeg).toInt ≤ 64) (hgh : 0 ≤ (gh k.toNatClampNeg).toInt ∧ (gh k.toNatClampNeg).toInt ≤ 64) (hwy : 0 ≤ wy.toInt ∧ wy.toInt ≤ 12) (hgp : 0 < (gw k.toNatClampNeg).toInt) (hon : 0 ≤ x.toInt ∧ x.toInt < (gw k.toNatClampNeg).toInt ∧ 0 ≤ y.toInt ∧ y.toInt < (gh k.toNatClampNeg).toInt) (hcl : (cl.toInt = 0 ∨ (cx0.toInt ≤ x.toInt ∧ x.toInt ≤ cx1.toInt ∧ cy0.toInt ≤ y.toInt ∧ y.toInt ≤ cy1.toInt))) (hcx : opnJ (gw k.toNatClampNeg) (gh k.toNatClampNeg) cl cx0 cx1 cy0 cy1 1 x y) : Met l yX9_flood (wB yX9_flood cX9_flood 6 (some .int)) ({ frames := 3, cells := 0, slots := 0, locals := 73 }) (cP D [(h0, .inr (9, [.ref m1, .ref m2, .ref m3, .int ik, .int wy, .int op, .int cl, .int cx0, .int cx1, .int cy0, .int cy1, .int ds, .ref m4, .ref m5, .ref m6, .ref m7, .ref m8, .ref m9, .int pn, .ref m10, .ref m11, .ref m12, .ref m13])), (m1, .inl (cI, 4, .inl gw)), (m2, .inl (cI, 4, .inl gh)), (m3, .inl (cI, 16384, .inl gd)), (m4, .inl (cZ, 4096, .inl gm)), (m5, .inl (cI, 4096, .inl ge)), (m6, .inl (cI, 4096, .inl gv)), (m13, .inl (cI, 4096, .inl wt))] [(cI, .int), (cZ, .boolean)] sz [.ref h0, .int k, .int x, .int y, .int co]) (va_Qi (fun (r : Int32) (_ : Unit) => r = nI (spS (opnJ (gw k.toNatClampNeg) (gh k.toNatClampNeg) cl cx0 cx1 cy0 cy1 1) (fun t => gd (4096 * k.toNatClampNeg + t)) x y co).2.2) (fun (_ : Unit) (t : State) => ∃ (g3 g4 g5 g6 : Nat → Int32), cB D (va_A [(h0, .inr (9, [.ref m1, .ref m2, .ref m3, .int ik, .int wy, .int op, .int cl, .int cx0, .int cx1, .int cy0, .int cy1, .int ds, .ref m4, .ref m5, .ref m6, .ref m7, .ref m8, .ref m9, .int pn, .ref m10, .ref m11, .ref m12, .ref m13])), (m1, .inl (cI, 4, .inl gw)), (m2, .inl (cI, 4, .inl gh)), (m3, .inl (cI, 16384, .inl gd)), (m4, .inl (cZ, 4096, .inl gm)), (m5, .inl (cI, 4096, .inl ge)), (m6, .inl (cI, 4096, .inl gv)), (m13, .inl (cI, 4096, .inl wt))] sz) [(h0, .inr (9, [.ref m1, .ref m2, .ref m3, .int ik, .int wy, .int op, .int cl, .int cx0, .int cx1, .int cy0, .int cy1, .int ds, .ref m4, .ref m5, .ref m6, .ref m7, .ref m8, .ref m9, .int pn, .ref m10, .ref m11, .ref m12, .ref m13])), (m1, .inl (cI, 4, .inl gw)), (m2, .inl (cI, 4, .inl gh)), (m3, .inl (cI, 16384, .inl (lysN wy gd (spS (opnJ (gw k.toNatClampNeg) (gh k.toNatClampNeg) cl cx0 cx1 cy0 cy1 1) (fun t => gd (4096 * k.toNatClampNeg + t)) x y co).1 (fun _ => op) (fun _ => ik) k.toNatClampNeg 4096))), (m4, .inl (cZ, 4096, .inl g3)), (m5, .inl (cI, 4096, .inl g4)), (m6, .inl (cI, 4096, .inl g5)), (m13, .inl (cI, 4096, .inl g6))] [(cI, .int), (cZ, .boolean)] t) (va_A [(h0, .inr (9, [.ref m1, .ref m2, .ref m3, .int ik, .int wy, .int op, .int cl, .int cx0, .int cx1, .int cy0, .int cy1, .int ds, .ref m4, .ref m5, .ref m6, .ref m7, .ref m8, .ref m9, .int pn, .ref m10, .ref m11, .ref m12, .ref m13])), (m1, .inl (cI, 4, .inl gw)), (m2, .inl (cI, 4, .inl gh)), (m3, .inl (cI, 16384, .inl gd)), (m4, .inl (cZ, 4096, .inl gm)), (m5, .inl (cI, 4096, .inl ge)), (m6, .inl (cI, 4096, .inl gv)), (m13, .inl (cI, 4096, .inl wt))] sz)) 0 0 (va_A [(h0, .inr (9, [.ref m1, .ref m2, .ref m3, .int ik, .int wy, .int op, .int cl, .int cx0, .int cx1, .int cy0, .int cy1, .int ds, .ref m4, .ref m5, .ref m6, .ref m7, .ref m8, .ref m9, .int pn, .ref m10, .ref m11, .ref m12, .ref m13])), (m1, .inl (cI, 4, .inl gw)), (m2, .inl (cI, 4, .inl gh)), (m3, .inl (cI, 16384, .inl gd)), (m4, .inl (cZ, 4096, .inl gm)), (m5, .inl (cI, 4096, .inl ge)), (m6, .inl (cI, 4096, .inl gv)), (m13, .inl (cI, 4096, .inl wt))] sz) := by
  refine Met.ofW (cc := cX9_flood) (maxL := 6) (ret := (some .int)) (by decide) rfl ?_
  intro p e s m args below meth c s₁ B hml hv
  obtain ⟨rfl, hsz, hP, hK, hD0, hN⟩ := hv
  have hx := B.exec
  have hb := B.bytes
  have hr := B.returns
  have hts0 := atoms_spec (ws := (wB yX9_flood cX9_flood 6 (some .int))) B.pre
  have hts : ∀ w ∈ bigW, w.before _ s = true := fun w h => hts0 w (List.mem_cons_of_mem _ h)
  have hown : s.vm.findClass RX9 = some m.cls := findClass_of_methodNamed B.named
  have hlocks := B.notSynchronized
  subst hsz
  have hD := hD0.self (sz := s.heap.size)
  generalize hAe : va_A [(h0, .inr (9, [.ref m1, .ref m2, .ref m3, .int ik, .int wy, .int op, .int cl, .int cx0, .int cx1, .int cy0, .int cy1, .int ds, .ref m4, .ref m5, .ref m6, .ref m7, .ref m8, .ref m9, .int pn, .ref m10, .ref m11, .ref m12, .ref m13])), (m1, .inl (cI, 4, .inl gw)), (m2, .inl (cI, 4, .inl gh)), (m3, .inl (cI, 16384, .inl gd)), (m4, .inl (cZ, 4096, .inl gm)), (m5, .inl (cI, 4096, .inl ge)), (m6, .inl (cI, 4096, .inl gv)), (m13, .inl (cI, 4096, .inl wt))] s.heap.size = A at hD ⊢
  have hA : ∀ q : Nat, s.heap.size ≤ q → A q := fun q h => by rw [← hAe]; exact Or.inr h
  have hS : va_S A s.heap s.heap [] := va_S.rf
  have hP : va_P D vwCl [(h0, .inr (9, [.ref m1, .ref m2, .ref m3, .int ik, .int wy, .int op, .int cl, .int cx0, .int cx1, .int cy0, .int cy1, .int ds, .ref m4, .ref m5, .ref m6, .ref m7, .ref m8, .ref m9, .int pn, .ref m10, .ref m11, .ref m12, .ref m13])), (m1, .inl (cI, 4, .inl gw)), (m2, .inl (cI, 4, .inl gh)), (m3, .inl (cI, 16384, .inl gd)), (m4, .inl (cZ, 4096, .inl gm)), (m5, .inl (cI, 4096, .inl ge)), (m6, .inl (cI, 4096, .inl gv)), (m13, .inl (cI, 4096, .inl wt))] s.heap := hP
  have hl := lv_entry ([.ref h0, .int k, .int x, .int y, .int co]) (n := 6) (Nat.le_of_ble_eq_true rfl)
  rw [lg_entry_eq]
  generalize (lg_sl ([.ref h0, .int k, .int x, .int y, .int co]) ++ List.replicate (6 - (lg_sl ([.ref h0, .int k, .int x, .int y, .int co])).length) Slot.unset).toArray = ls at hl ⊢
  have hl : lv_has ls 6 [(0, .ref h0), (1, .int k), (2, .int x), (3, .int y), (4, .int co)] := hl
  clear hts0 hD0 hAe
  refine my_abs (fun R Q hR hQ => ?_)
  refine lv_aload_n hx hb dX9_flood_0 rfl (lv_at hl 0 rfl) ?_
  refine lv_iload_n hx hb dX9_flood_1 rfl (lv_at hl 1 rfl) ?_
  have hPc := hP.sub (ws' := [(h0, .inr (9, [.ref m1, .ref m2, .ref m3, .int ik, .int wy, .int op, .int cl, .int cx0, .int cx1, .int cy0, .int cy1, .int ds, .ref m4, .ref m5, .ref m6, .ref m7, .ref m8, .ref m9, .int pn, .ref m10, .ref m11, .ref m12, .ref m13])), (m1, .inl (cI, 4, .inl gw))]) [0, 1] rfl
  have hDc := hD.sub (ws' := [(h0, .inr (9, [.ref m1, .ref m2, .ref m3, .int ik, .int wy, .int op, .int cl, .int cx0, .int cx1, .int cy0, .int cy1, .int ds, .ref m4, .ref m5, .ref m6, .ref m7, .ref m8, .ref m9, .int pn, .ref m10, .ref m11, .ref m12, .ref m13])), (m1, .inl (cI, 4, .inl gw))]) [0, 1] (by decide) rfl
  have hKc := hK.sub (tys' := [(cI, .int)]) [0] rfl
  have hFc := va_free (wc := [(h0, .inr (9, [.ref m1, .ref m2, .ref m3, .int ik, .int wy, .int op, .int cl, .int cx0, .int cx1, .int cy0, .int cy1, .int ds, .ref m4, .ref m5, .ref m6, .ref m7, .ref m8, .ref m9, .int pn, .ref m10, .ref m11, .ref m12, .ref m13])), (m1, .inl (cI, 4, .inl gw))]) hD hS hA [0, 1] rfl
  refine va_calli (va_runV (As := [.int k]) (rest := []) ⟨hx, hb, hml, hown, hts⟩ (k_X9_isSheet l D s.heap.size h0 m1 m2 m3 m4 m5 m6 m7 m8 m9 m10 m11 m12 m13 ik wy op cl cx0 cx1 cy0 cy1 ds pn gw k cI) (cwV 1 hts (gV bw_490 bw_415 bw_416 bw_391 bw_414) rfl rfl rfl (by decide +kernel) ⟨(by rw [hR]; exact Nat.le_of_ble_eq_true rfl), (by rw [hR]; exact Nat.le_of_ble_eq_true rfl)⟩) ⟨cP_blind, va_recv hKc hPc (ci := 9) (q0 := 0) rfl rfl, cP_at hPc hKc hDc hN⟩ rfl rfl hl.1 rfl (lv_room (Nat.le_of_ble_eq_true rfl)) dX9_flood_2 ⟨(by rw [hR]; exact Nat.le_of_ble_eq_true rfl), (by rw [hR]; exact Nat.le_of_ble_eq_true rfl)⟩) hS (fun q _ h => hFc q h) hFc (fun r_1 u9 t9 H1 locs ht hvm hr_1 hB hz1 hk1 hS => ?_)
  try dsimp only at hr_1
  obtain ⟨hP1, hK1, hD1⟩ := hB
  rw [ht] at hP1
  obtain ⟨hP, hD⟩ := va_join (wr := [(m2, .inl (cI, 4, .inl gh)), (m3, .inl (cI, 16384, .inl gd)), (m4, .inl (cZ, 4096, .inl gm)), (m5, .inl (cI, 4096, .inl ge)), (m6, .inl (cI, 4096, .inl gv)), (m13, .inl (cI, 4096, .inl wt))]) (w1 := [(h0, .inr (9, [.ref m1, .ref m2, .ref m3, .int ik, .int wy, .int op, .int cl, .int cx0, .int cx1, .int cy0, .int cy1, .int ds, .ref m4, .ref m5, .ref m6, .ref m7, .ref m8, .ref m9, .int pn, .ref m10, .ref m11, .ref m12, .ref m13])), (m1, .inl (cI, 4, .inl gw))]) hP hD [0, 1] [2, 3, 4, 5, 6, 7] rfl rfl (by decide) (by decide) hk1 hFc hP1 hD1
  clear hz1 hk1 hFc hKc hDc hPc
  generalize H1 = H at hP hS ⊢
  have hP : va_P D vwCl [(m2, .inl (cI, 4, .inl gh)), (m3, .inl (cI, 16384, .inl gd)), (m4, .inl (cZ, 4096, .inl gm)), (m5, .inl (cI, 4096, .inl ge)), (m6, .inl (cI, 4096, .inl gv)), (m13, .inl (cI, 4096, .inl wt)), (h0, .inr (9, [.ref m1, .ref m2, .ref m3, .int ik, .int wy, .int op, .int cl, .int cx0, .int cx1, .int cy0, .int cy1, .int ds, .ref m4, .ref m5, .ref m6, .ref m7, .ref m8, .ref m9, .int pn, .ref m10, .ref m11, .ref m12, .ref m13])), (m1, .inl (cI, 4, .inl gw))] H := hP
  have hD : va_D A [(m2, .inl (cI, 4, .inl gh)), (m3, .inl (cI, 16384, .inl gd)), (m4, .inl (cZ, 4096, .inl gm)), (m5, .inl (cI, 4096, .inl ge)), (m6, .inl (cI, 4096, .inl gv)), (m13, .inl (cI, 4096, .inl wt)), (h0, .inr (9, [.ref m1, .ref m2, .ref m3, .int ik, .int wy, .int op, .int cl, .int cx0, .int cx1, .int cy0, .int cy1, .int ds, .ref m4, .ref m5, .ref m6, .ref m7, .ref m8, .ref m9, .int pn, .ref m10, .ref m11, .ref m12, .ref m13])), (m1, .inl (cI, 4, .inl gw))] := hD
  refine lv_if_eq (tgt := 18) hx hb dX9_flood_5 (by decide) (fun c_2 => ?_) (fun c_2 => ?_)
  · skip
    have f_3 := bz0 hr_1 c_2
    exact False.elim (by omega)
  · skip
    have f_3 := bz1 hr_1 c_2
    refine lv_aload_n hx hb dX9_flood_8 rfl (lv_at hl 0 rfl) ?_
    refine lv_iload_n hx hb dX9_flood_9 rfl (lv_at hl 1 rfl) ?_
    refine lv_iload_n hx hb dX9_flood_10 rfl (lv_at hl 2 rfl) ?_
    refine lv_iload_n hx hb dX9_flood_11 rfl (lv_at hl 3 rfl) ?_
    have hPc := hP.sub (ws' := [(h0, .inr (9, [.ref m1, .ref m2, .ref m3, .int ik, .int wy, .int op, .int cl, .int cx0, .int cx1, .int cy0, .int cy1, .int ds, .ref m4, .ref m5, .ref m6, .ref m7, .ref m8, .ref m9, .int pn, .ref m10, .ref m11, .ref m12, .ref m13])), (m1, .inl (cI, 4, .inl gw)), (m2, .inl (cI, 4, .inl gh))]) [6, 7, 0] rfl
    have hDc := hD.sub (ws' := [(h0, .inr (9, [.ref m1, .ref m2, .ref m3, .int ik, .int wy, .int op, .int cl, .int cx0, .int cx1, .int cy0, .int cy1, .int ds, .ref m4, .ref m5, .ref m6, .ref m7, .ref m8, .ref m9, .int pn, .ref m10, .ref m11, .ref m12, .ref m13])), (m1, .inl (cI, 4, .inl gw)), (m2, .inl (cI, 4, .inl gh))]) [6, 7, 0] (by decide) rfl
    have hKc := hK.sub (tys' := [(cI, .int)]) [0] rfl
    have hFc := va_free (wc := [(h0, .inr (9, [.ref m1, .ref m2, .ref m3, .int ik, .int wy, .int op, .int cl, .int cx0, .int cx1, .int cy0, .int cy1, .int ds, .ref m4, .ref m5, .ref m6, .ref m7, .ref m8, .ref m9, .int pn, .ref m10, .ref m11, .ref m12, .ref m13])), (m1, .inl (cI, 4, .inl gw)), (m2, .inl (cI, 4, .inl gh))]) hD hS hA [6, 7, 0] rfl
    refine va_calli (va_runV (As := [.int k, .int x, .int y]) (rest := []) ⟨hx, hb, hml, hown, hts⟩ (k_X9_isOn l D H.size h0 m1 m2 m3 m4 m5 m6 m7 m8 m9 m10 m11 m12 m13 ik wy op cl cx0 cx1 cy0 cy1 ds pn gw gh k x y cI (by omega)) (cwV 3 hts (gV bw_433 bw_418 bw_419 bw_391 bw_417) rfl rfl rfl (by decide +kernel) ⟨(by rw [hR]; exact Nat.le_of_ble_eq_true rfl), (by rw [hR]; exact Nat.le_of_ble_eq_true rfl)⟩) ⟨cP_blind, va_recv hKc hPc (ci := 9) (q0 := 0) rfl rfl, cP_at hPc hKc hDc hN⟩ rfl rfl hl.1 rfl (lv_room (Nat.le_of_ble_eq_true rfl)) dX9_flood_12 ⟨(by rw [hR]; exact Nat.le_of_ble_eq_true rfl), (by rw [hR]; exact Nat.le_of_ble_eq_true rfl)⟩) hS (fun q _ h => hFc q h) hFc (fun r_4 u9 t9 H1 locs ht hvm hr_4 hB hz1 hk1 hS => ?_)
    try dsimp only at hr_4
    obtain ⟨hP1, hK1, hD1⟩ := hB
    rw [ht] at hP1
    obtain ⟨hP, hD⟩ := va_join (wr := [(m3, .inl (cI, 16384, .inl gd)), (m4, .inl (cZ, 4096, .inl gm)), (m5, .inl (cI, 4096, .inl ge)), (m6, .inl (cI, 4096, .inl gv)), (m13, .inl (cI, 4096, .inl wt))]) (w1 := [(h0, .inr (9, [.ref m1, .ref m2, .ref m3, .int ik, .int wy, .int op, .int cl, .int cx0, .int cx1, .int cy0, .int cy1, .int ds, .ref m4, .ref m5, .ref m6, .ref m7, .ref m8, .ref m9, .int pn, .ref m10, .ref m11, .ref m12, .ref m13])), (m1, .inl (cI, 4, .inl gw)), (m2, .inl (cI, 4, .inl gh))]) hP hD [6, 7, 0] [1, 2, 3, 4, 5] rfl rfl (by decide) (by decide) hk1 hFc hP1 hD1
    clear hz1 hk1 hFc hKc hDc hPc
    generalize H1 = H at hP hS ⊢
    have hP : va_P D vwCl [(m3, .inl (cI, 16384, .inl gd)), (m4, .inl (cZ, 4096, .inl gm)), (m5, .inl (cI, 4096, .inl ge)), (m6, .inl (cI, 4096, .inl gv)), (m13, .inl (cI, 4096, .inl wt)), (h0, .inr (9, [.ref m1, .ref m2, .ref m3, .int ik, .int wy, .int op, .int cl, .int cx0, .int cx1, .int cy0, .int cy1, .int ds, .ref m4, .ref m5, .ref m6, .ref m7, .ref m8, .ref m9, .int pn, .ref m10, .ref m11, .ref m12, .ref m13])), (m1, .inl (cI, 4, .inl gw)), (m2, .inl (cI, 4, .inl gh))] H := hP
    have hD : va_D A [(m3, .inl (cI, 16384, .inl gd)), (m4, .inl (cZ, 4096, .inl gm)), (m5, .inl (cI, 4096, .inl ge)), (m6, .inl (cI, 4096, .inl gv)), (m13, .inl (cI, 4096, .inl wt)), (h0, .inr (9, [.ref m1, .ref m2, .ref m3, .int ik, .int wy, .int op, .int cl, .int cx0, .int cx1, .int cy0, .int cy1, .int ds, .ref m4, .ref m5, .ref m6, .ref m7, .ref m8, .ref m9, .int pn, .ref m10, .ref m11, .ref m12, .ref m13])), (m1, .inl (cI, 4, .inl gw)), (m2, .inl (cI, 4, .inl gh))] := hD
    refine lv_if_ne (tgt := 20) hx hb dX9_flood_15 (by decide) (fun c_5 => ?_) (fun c_5 => ?_)
    · skip
      have f_6 := bz1 hr_4 c_5
      refine lv_aload_n hx hb dX9_flood_20 rfl (lv_at hl 0 rfl) ?_
      refine lv_iload_n hx hb dX9_flood_21 rfl (lv_at hl 2 rfl) ?_
      refine lv_iload_n hx hb dX9_flood_22 rfl (lv_at hl 3 rfl) ?_
      have hPc := hP.sub (ws' := [(h0, .inr (9, [.ref m1, .ref m2, .ref m3, .int ik, .int wy, .int op, .int cl, .int cx0, .int cx1, .int cy0, .int cy1, .int ds, .ref m4, .ref m5, .ref m6, .ref m7, .ref m8, .ref m9, .int pn, .ref m10, .ref m11, .ref m12, .ref m13]))]) [5] rfl
      have hDc := hD.sub (ws' := [(h0, .inr (9, [.ref m1, .ref m2, .ref m3, .int ik, .int wy, .int op, .int cl, .int cx0, .int cx1, .int cy0, .int cy1, .int ds, .ref m4, .ref m5, .ref m6, .ref m7, .ref m8, .ref m9, .int pn, .ref m10, .ref m11, .ref m12, .ref m13]))]) [5] (by decide) rfl
      have hKc := hK.sub (tys' := []) [] rfl
      have hFc := va_free (wc := [(h0, .inr (9, [.ref m1, .ref m2, .ref m3, .int ik, .int wy, .int op, .int cl, .int cx0, .int cx1, .int cy0, .int cy1, .int ds, .ref m4, .ref m5, .ref m6, .ref m7, .ref m8, .ref m9, .int pn, .ref m10, .ref m11, .ref m12, .ref m13]))]) hD hS hA [5] rfl
      refine va_calli (va_runV (As := [.int x, .int y]) (rest := []) ⟨hx, hb, hml, hown, hts⟩ (k_X9_isInClip l D H.size h0 m1 m2 m3 m4 m5 m6 m7 m8 m9 m10 m11 m12 m13 ik wy op cl cx0 cx1 cy0 cy1 ds pn x y) (cwV 2 hts (gV bw_434 bw_423 bw_424 bw_391 bw_422) rfl rfl rfl (by decide +kernel) ⟨(by rw [hR]; exact Nat.le_of_ble_eq_true rfl), (by rw [hR]; exact Nat.le_of_ble_eq_true rfl)⟩) ⟨cP_blind, va_recv hKc hPc (ci := 9) (q0 := 0) rfl rfl, cP_at hPc hKc hDc hN⟩ rfl rfl hl.1 rfl (lv_room (Nat.le_of_ble_eq_true rfl)) dX9_flood_23 ⟨(by rw [hR]; exact Nat.le_of_ble_eq_true rfl), (by rw [hR]; exact Nat.le_of_ble_eq_true rfl)⟩) hS (fun q _ h => hFc q h) hFc (fun r_7 u9 t9 H1 locs ht hvm hr_7 hB hz1 hk1 hS => ?_)
      try dsimp only at hr_7
      obtain ⟨hP1, hK1, hD1⟩ := hB
      rw [ht] at hP1
      obtain ⟨hP, hD⟩ := va_join (wr := [(m3, .inl (cI, 16384, .inl gd)), (m4, .inl (cZ, 4096, .inl gm)), (m5, .inl (cI, 4096, .inl ge)), (m6, .inl (cI, 4096, .inl gv)), (m13, .inl (cI, 4096, .inl wt)), (m1, .inl (cI, 4, .inl gw)), (m2, .inl (cI, 4, .inl gh))]) (w1 := [(h0, .inr (9, [.ref m1, .ref m2, .ref m3, .int ik, .int wy, .int op, .int cl, .int cx0, .int cx1, .int cy0, .int cy1, .int ds, .ref m4, .ref m5, .ref m6, .ref m7, .ref m8, .ref m9, .int pn, .ref m10, .ref m11, .ref m12, .ref m13]))]) hP hD [5] [0, 1, 2, 3, 4, 6, 7] rfl rfl (by decide) (by decide) hk1 hFc hP1 hD1
      clear hz1 hk1 hFc hKc hDc hPc
      generalize H1 = H at hP hS ⊢
      have hP : va_P D vwCl [(m3, .inl (cI, 16384, .inl gd)), (m4, .inl (cZ, 4096, .inl gm)), (m5, .inl (cI, 4096, .inl ge)), (m6, .inl (cI, 4096, .inl gv)), (m13, .inl (cI, 4096, .inl wt)), (m1, .inl (cI, 4, .inl gw)), (m2, .inl (cI, 4, .inl gh)), (h0, .inr (9, [.ref m1, .ref m2, .ref m3, .int ik, .int wy, .int op, .int cl, .int cx0, .int cx1, .int cy0, .int cy1, .int ds, .ref m4, .ref m5, .ref m6, .ref m7, .ref m8, .ref m9, .int pn, .ref m10, .ref m11, .ref m12, .ref m13]))] H := hP
      have hD : va_D A [(m3, .inl (cI, 16384, .inl gd)), (m4, .inl (cZ, 4096, .inl gm)), (m5, .inl (cI, 4096, .inl ge)), (m6, .inl (cI, 4096, .inl gv)), (m13, .inl (cI, 4096, .inl wt)), (m1, .inl (cI, 4, .inl gw)), (m2, .inl (cI, 4, .inl gh)), (h0, .inr (9, [.ref m1, .ref m2, .ref m3, .int ik, .int wy, .int op, .int cl, .int cx0, .int cx1, .int cy0, .int cy1, .int ds, .ref m4, .ref m5, .ref m6, .ref m7, .ref m8, .ref m9, .int pn, .ref m10, .ref m11, .ref m12, .ref m13]))] := hD
      refine lv_if_ne (tgt := 31) hx hb dX9_flood_26 (by decide) (fun c_8 => ?_) (fun c_8 => ?_)
      · skip
        have f_9 := bz1 hr_7 c_8
        refine lv_aload_n hx hb dX9_flood_31 rfl (lv_at hl 0 rfl) ?_
        refine lv_iload_n hx hb dX9_flood_32 rfl (lv_at hl 1 rfl) ?_
        refine lv_iload_n hx hb dX9_flood_33 rfl (lv_at hl 2 rfl) ?_
        refine lv_iload_n hx hb dX9_flood_34 rfl (lv_at hl 3 rfl) ?_
        refine lv_iload hx hb dX9_flood_35 (lv_at hl 4 rfl) ?_
        refine lv_iconst (v := 1) hx hb dX9_flood_37 (by decide) ?_
        have hPc := hP.sub (ws' := [(h0, .inr (9, [.ref m1, .ref m2, .ref m3, .int ik, .int wy, .int op, .int cl, .int cx0, .int cx1, .int cy0, .int cy1, .int ds, .ref m4, .ref m5, .ref m6, .ref m7, .ref m8, .ref m9, .int pn, .ref m10, .ref m11, .ref m12, .ref m13])), (m1, .inl (cI, 4, .inl gw)), (m2, .inl (cI, 4, .inl gh)), (m3, .inl (cI, 16384, .inl gd)), (m4, .inl (cZ, 4096, .inl gm)), (m13, .inl (cI, 4096, .inl wt))]) [7, 5, 6, 0, 1, 4] rfl
        have hDc := hD.sub (ws' := [(h0, .inr (9, [.ref m1, .ref m2, .ref m3, .int ik, .int wy, .int op, .int cl, .int cx0, .int cx1, .int cy0, .int cy1, .int ds, .ref m4, .ref m5, .ref m6, .ref m7, .ref m8, .ref m9, .int pn, .ref m10, .ref m11, .ref m12, .ref m13])), (m1, .inl (cI, 4, .inl gw)), (m2, .inl (cI, 4, .inl gh)), (m3, .inl (cI, 16384, .inl gd)), (m4, .inl (cZ, 4096, .inl gm)), (m13, .inl (cI, 4096, .inl wt))]) [7, 5, 6, 0, 1, 4] (by decide) rfl
        have hKc := hK.sub (tys' := [(cI, .int), (cZ, .boolean)]) [0, 1] rfl
        have hFc := va_free (wc := [(h0, .inr (9, [.ref m1, .ref m2, .ref m3, .int ik, .int wy, .int op, .int cl, .int cx0, .int cx1, .int cy0, .int cy1, .int ds, .ref m4, .ref m5, .ref m6, .ref m7, .ref m8, .ref m9, .int pn, .ref m10, .ref m11, .ref m12, .ref m13])), (m1, .inl (cI, 4, .inl gw)), (m2, .inl (cI, 4, .inl gh)), (m3, .inl (cI, 16384, .inl gd)), (m4, .inl (cZ, 4096, .inl gm)), (m13, .inl (cI, 4096, .inl wt))]) hD hS hA [7, 5, 6, 0, 1, 4] rfl
        refine va_callv (va_runV (As := [.int k, .int x, .int y, .int co, .int 1]) (rest := []) ⟨hx, hb, hml, hown, hts⟩ (k_X9_joins_e l D H.size h0 m1 m2 m3 m4 m5 m6 m7 m8 m9 m10 m11 m12 m13 ik wy op cl cx0 cx1 cy0 cy1 ds pn gw gh gd gm wt k x y co 1 cI cZ (by omega) hgw hgh hon hcx) (cwV 5 hts (gV bw_555 bw_549 bw_550 bw_391 bw_548) rfl rfl rfl (by decide +kernel) ⟨(by rw [hR]; exact Nat.le_of_ble_eq_true rfl), (by rw [hR]; exact Nat.le_of_ble_eq_true rfl)⟩) ⟨cP_blind, va_recv hKc hPc (ci := 9) (q0 := 0) rfl rfl, cP_at hPc hKc hDc hN⟩ rfl rfl hl.1 rfl (lv_room (Nat.le_of_ble_eq_true rfl)) dX9_flood_38 ⟨(by rw [hR]; exact Nat.le_of_ble_eq_true rfl), (by rw [hR]; exact Nat.le_of_ble_eq_true rfl)⟩) hS (fun q _ h => hFc q h) hFc (fun u9 t9 H1 locs ht hvm hr_10 hB hz1 hk1 hS => ?_)
        try dsimp only at hr_10
        obtain ⟨g_11, g_12, b_13, b_14, hP1, hK1, hD1⟩ := hB
        rw [ht] at hP1
        obtain ⟨hP, hD⟩ := va_join (wr := [(m5, .inl (cI, 4096, .inl ge)), (m6, .inl (cI, 4096, .inl gv))]) (w1 := [(h0, .inr (9, [.ref m1, .ref m2, .ref m3, .int ik, .int wy, .int op, .int cl, .int cx0, .int cx1, .int cy0, .int cy1, .int ds, .ref m4, .ref m5, .ref m6, .ref m7, .ref m8, .ref m9, .int pn, .ref m10, .ref m11, .ref m12, .ref m13])), (m1, .inl (cI, 4, .inl gw)), (m2, .inl (cI, 4, .inl gh)), (m3, .inl (cI, 16384, .inl gd)), (m4, .inl (cZ, 4096, .inl g_11)), (m13, .inl (cI, 4096, .inl g_12))]) hP hD [7, 5, 6, 0, 1, 4] [2, 3] rfl rfl (by decide) (by decide) hk1 hFc hP1 hD1
        clear hz1 hk1 hFc hKc hDc hPc
        generalize H1 = H at hP hS ⊢
        have hP : va_P D vwCl [(m5, .inl (cI, 4096, .inl ge)), (m6, .inl (cI, 4096, .inl gv)), (h0, .inr (9, [.ref m1, .ref m2, .ref m3, .int ik, .int wy, .int op, .int cl, .int cx0, .int cx1, .int cy0, .int cy1, .int ds, .ref m4, .ref m5, .ref m6, .ref m7, .ref m8, .ref m9, .int pn, .ref m10, .ref m11, .ref m12, .ref m13])), (m1, .inl (cI, 4, .inl gw)), (m2, .inl (cI, 4, .inl gh)), (m3, .inl (cI, 16384, .inl gd)), (m4, .inl (cZ, 4096, .inl g_11)), (m13, .inl (cI, 4096, .inl g_12))] H := hP
        have hD : va_D A [(m5, .inl (cI, 4096, .inl ge)), (m6, .inl (cI, 4096, .inl gv)), (h0, .inr (9, [.ref m1, .ref m2, .ref m3, .int ik, .int wy, .int op, .int cl, .int cx0, .int cx1, .int cy0, .int cy1, .int ds, .ref m4, .ref m5, .ref m6, .ref m7, .ref m8, .ref m9, .int pn, .ref m10, .ref m11, .ref m12, .ref m13])), (m1, .inl (cI, 4, .inl gw)), (m2, .inl (cI, 4, .inl gh)), (m3, .inl (cI, 16384, .inl gd)), (m4, .inl (cZ, 4096, .inl g_11)), (m13, .inl (cI, 4096, .inl g_12))] := hD
        refine lv_iconst (v := 0) hx hb dX9_flood_41 (by decide) ?_
        refine lv_istore (lv' := [(5, .int 0), (0, .ref h0), (1, .int k), (2, .int x), (3, .int y), (4, .int co)]) hx hb dX9_flood_42 hl (by decide) rfl (fun ls hl => ?_)
        have loop_15 : ∀ (n : Nat) (i : Nat) (x5 : Int32) (gb : Nat → Int32) (gc : Nat → Int32) (H : Heap) (locs : List Loc) (ls : Array Slot), (i ≤ 4096) → (4096 + 1 ≤ i + n) → (x5 = nI i) → (∀ j : Nat, j < i → gb j = op) → (∀ j : Nat, j < i → gc j = ik) → va_P D vwCl [(m5, .inl (cI, 4096, .inl gb)), (m6, .inl (cI, 4096, .inl gc)), (h0, .inr (9, [.ref m1, .ref m2, .ref m3, .int ik, .int wy, .int op, .int cl, .int cx0, .int cx1, .int cy0, .int cy1, .int ds, .ref m4, .ref m5, .ref m6, .ref m7, .ref m8, .ref m9, .int pn, .ref m10, .ref m11, .ref m12, .ref m13])), (m1, .inl (cI, 4, .inl gw)), (m2, .inl (cI, 4, .inl gh)), (m3, .inl (cI, 16384, .inl gd)), (m4, .inl (cZ, 4096, .inl g_11)), (m13, .inl (cI, 4096, .inl g_12))] H → va_D A [(m5, .inl (cI, 4096, .inl gb)), (m6, .inl (cI, 4096, .inl gc)), (h0, .inr (9, [.ref m1, .ref m2, .ref m3, .int ik, .int wy, .int op, .int cl, .int cx0, .int cx1, .int cy0, .int cy1, .int ds, .ref m4, .ref m5, .ref m6, .ref m7, .ref m8, .ref m9, .int pn, .ref m10, .ref m11, .ref m12, .ref m13])), (m1, .inl (cI, 4, .inl gw)), (m2, .inl (cI, 4, .inl gh)), (m3, .inl (cI, 16384, .inl gd)), (m4, .inl (cZ, 4096, .inl g_11)), (m13, .inl (cI, 4096, .inl g_12))] → va_S A s.heap H locs → lv_has ls 6 [(5, .int x5), (0, .ref h0), (1, .int k), (2, .int x), (3, .int y), (4, .int co)] → W p l e R s m ([.ref h0, .int k, .int x, .int y, .int co] : List Value).toArray below meth c H locs 0 0 Q (F0 m 44 ls []) := by
          intro n
          induction n with
          | zero =>
            intro i x5 gb gc H locs ls hi_i hm_i ex_i hb9 hc9 hP hD hS hl
            exact absurd (show False by omega) not_false
          | succ n ih_16 =>
            intro i x5 gb gc H locs ls hi_i hm_i ex_i hb9 hc9 hP hD hS hl
            have hx_i : x5.toInt = (i : Int) := by rw [ex_i]; exact nI_toInt (by omega)
            have hc_i : x5.toNatClampNeg = i := by rw [ex_i]; exact nI_clamp (by omega)
            refine lv_iload hx hb dX9_flood_44 (lv_at hl 0 rfl) ?_
            refine lv_sipush (v := 4096) hx hb dX9_flood_46 (by decide) ?_
            refine lv_icmp_ge (tgt := 80) hx hb dX9_flood_49 (by decide) (fun c_17 => ?_) (fun c_17 => ?_)
            · skip
              have f_18 : 4096 ≤ (i : Int) := f_le (by decide) hx_i c_17
              refine lv_aload_n hx hb dX9_flood_80 rfl (lv_at hl 1 rfl) ?_
              refine lv_iload_n hx hb dX9_flood_81 rfl (lv_at hl 2 rfl) ?_
              have hPc := hP.sub (ws' := [(h0, .inr (9, [.ref m1, .ref m2, .ref m3, .int ik, .int wy, .int op, .int cl, .int cx0, .int cx1, .int cy0, .int cy1, .int ds, .ref m4, .ref m5, .ref m6, .ref m7, .ref m8, .ref m9, .int pn, .ref m10, .ref m11, .ref m12, .ref m13])), (m3, .inl (cI, 16384, .inl gd)), (m4, .inl (cZ, 4096, .inl g_11)), (m5, .inl (cI, 4096, .inl gb)), (m6, .inl (cI, 4096, .inl gc))]) [2, 5, 6, 0, 1] rfl
              have hDc := hD.sub (ws' := [(h0, .inr (9, [.ref m1, .ref m2, .ref m3, .int ik, .int wy, .int op, .int cl, .int cx0, .int cx1, .int cy0, .int cy1, .int ds, .ref m4, .ref m5, .ref m6, .ref m7, .ref m8, .ref m9, .int pn, .ref m10, .ref m11, .ref m12, .ref m13])), (m3, .inl (cI, 16384, .inl gd)), (m4, .inl (cZ, 4096, .inl g_11)), (m5, .inl (cI, 4096, .inl gb)), (m6, .inl (cI, 4096, .inl gc))]) [2, 5, 6, 0, 1] (by decide) rfl
              have hKc := hK.sub (tys' := [(cI, .int), (cZ, .boolean)]) [0, 1] rfl
              have hFc := va_free (wc := [(h0, .inr (9, [.ref m1, .ref m2, .ref m3, .int ik, .int wy, .int op, .int cl, .int cx0, .int cx1, .int cy0, .int cy1, .int ds, .ref m4, .ref m5, .ref m6, .ref m7, .ref m8, .ref m9, .int pn, .ref m10, .ref m11, .ref m12, .ref m13])), (m3, .inl (cI, 16384, .inl gd)), (m4, .inl (cZ, 4096, .inl g_11)), (m5, .inl (cI, 4096, .inl gb)), (m6, .inl (cI, 4096, .inl gc))]) hD hS hA [2, 5, 6, 0, 1] rfl
              refine va_calli (va_runV (As := [.int k]) (rest := []) ⟨hx, hb, hml, hown, hts⟩ (k_X9_lays l D H.size h0 m1 m2 m3 m4 m5 m6 m7 m8 m9 m10 m11 m12 m13 ik wy op cl cx0 cx1 cy0 cy1 ds pn gd g_11 gb gc k cI cZ (by omega) (by first | assumption | omega | decide)) (cwV 1 hts (gV bw_496 bw_462 bw_463 bw_391 bw_461) rfl rfl rfl (by decide +kernel) ⟨(by rw [hR]; exact Nat.le_of_ble_eq_true rfl), (by rw [hR]; exact Nat.le_of_ble_eq_true rfl)⟩) ⟨cP_blind, va_recv hKc hPc (ci := 9) (q0 := 0) rfl rfl, cP_at hPc hKc hDc hN⟩ rfl rfl hl.1 rfl (lv_room (Nat.le_of_ble_eq_true rfl)) dX9_flood_82 ⟨(by rw [hR]; exact Nat.le_of_ble_eq_true rfl), (by rw [hR]; exact Nat.le_of_ble_eq_true rfl)⟩) hS (fun q _ h => hFc q h) hFc (fun r_19 u9 t9 H1 locs ht hvm hr_19 hB hz1 hk1 hS => ?_)
              try dsimp only at hr_19
              obtain ⟨hP1, hK1, hD1⟩ := hB
              rw [ht] at hP1
              obtain ⟨hP, hD⟩ := va_join (wr := [(m1, .inl (cI, 4, .inl gw)), (m2, .inl (cI, 4, .inl gh)), (m13, .inl (cI, 4096, .inl g_12))]) (w1 := [(h0, .inr (9, [.ref m1, .ref m2, .ref m3, .int ik, .int wy, .int op, .int cl, .int cx0, .int cx1, .int cy0, .int cy1, .int ds, .ref m4, .ref m5, .ref m6, .ref m7, .ref m8, .ref m9, .int pn, .ref m10, .ref m11, .ref m12, .ref m13])), (m3, .inl (cI, 16384, .inl (lysN wy gd g_11 gb gc k.toNatClampNeg 4096))), (m4, .inl (cZ, 4096, .inl g_11)), (m5, .inl (cI, 4096, .inl gb)), (m6, .inl (cI, 4096, .inl gc))]) hP hD [2, 5, 6, 0, 1] [3, 4, 7] rfl rfl (by decide) (by decide) hk1 hFc hP1 hD1
              clear hz1 hk1 hFc hKc hDc hPc
              generalize H1 = H at hP hS ⊢
              have hP : va_P D vwCl [(m1, .inl (cI, 4, .inl gw)), (m2, .inl (cI, 4, .inl gh)), (m13, .inl (cI, 4096, .inl g_12)), (h0, .inr (9, [.ref m1, .ref m2, .ref m3, .int ik, .int wy, .int op, .int cl, .int cx0, .int cx1, .int cy0, .int cy1, .int ds, .ref m4, .ref m5, .ref m6, .ref m7, .ref m8, .ref m9, .int pn, .ref m10, .ref m11, .ref m12, .ref m13])), (m3, .inl (cI, 16384, .inl (lysN wy gd g_11 gb gc k.toNatClampNeg 4096))), (m4, .inl (cZ, 4096, .inl g_11)), (m5, .inl (cI, 4096, .inl gb)), (m6, .inl (cI, 4096, .inl gc))] H := hP
              have hD : va_D A [(m1, .inl (cI, 4, .inl gw)), (m2, .inl (cI, 4, .inl gh)), (m13, .inl (cI, 4096, .inl g_12)), (h0, .inr (9, [.ref m1, .ref m2, .ref m3, .int ik, .int wy, .int op, .int cl, .int cx0, .int cx1, .int cy0, .int cy1, .int ds, .ref m4, .ref m5, .ref m6, .ref m7, .ref m8, .ref m9, .int pn, .ref m10, .ref m11, .ref m12, .ref m13])), (m3, .inl (cI, 16384, .inl (lysN wy gd g_11 gb gc k.toNatClampNeg 4096))), (m4, .inl (cZ, 4096, .inl g_11)), (m5, .inl (cI, 4096, .inl gb)), (m6, .inl (cI, 4096, .inl gc))] := hD
              have hLY : lysN wy gd (spS (opnJ (gw k.toNatClampNeg) (gh k.toNatClampNeg) cl cx0 cx1 cy0 cy1 1) (fun t => gd (4096 * k.toNatClampNeg + t)) x y co).1 (fun _ => op) (fun _ => ik) k.toNatClampNeg 4096 = lysN wy gd g_11 gb gc k.toNatClampNeg 4096 := lys_eq (fun j hj => ⟨(b_13 j hj).symm, (hb9 j (by omega)).symm, (hc9 j (by omega)).symm⟩)
              have hP : va_P D vwCl [(m1, .inl (cI, 4, .inl gw)), (m2, .inl (cI, 4, .inl gh)), (m13, .inl (cI, 4096, .inl g_12)), (h0, .inr (9, [.ref m1, .ref m2, .ref m3, .int ik, .int wy, .int op, .int cl, .int cx0, .int cx1, .int cy0, .int cy1, .int ds, .ref m4, .ref m5, .ref m6, .ref m7, .ref m8, .ref m9, .int pn, .ref m10, .ref m11, .ref m12, .ref m13])), (m3, .inl (cI, 16384, .inl (lysN wy gd (spS (opnJ (gw k.toNatClampNeg) (gh k.toNatClampNeg) cl cx0 cx1 cy0 cy1 1) (fun t => gd (4096 * k.toNatClampNeg + t)) x y co).1 (fun _ => op) (fun _ => ik) k.toNatClampNeg 4096))), (m4, .inl (cZ, 4096, .inl g_11)), (m5, .inl (cI, 4096, .inl gb)), (m6, .inl (cI, 4096, .inl gc))] H := by rw [hLY]; exact hP
              have hD : va_D A [(m1, .inl (cI, 4, .inl gw)), (m2, .inl (cI, 4, .inl gh)), (m13, .inl (cI, 4096, .inl g_12)), (h0, .inr (9, [.ref m1, .ref m2, .ref m3, .int ik, .int wy, .int op, .int cl, .int cx0, .int cx1, .int cy0, .int cy1, .int ds, .ref m4, .ref m5, .ref m6, .ref m7, .ref m8, .ref m9, .int pn, .ref m10, .ref m11, .ref m12, .ref m13])), (m3, .inl (cI, 16384, .inl (lysN wy gd (spS (opnJ (gw k.toNatClampNeg) (gh k.toNatClampNeg) cl cx0 cx1 cy0 cy1 1) (fun t => gd (4096 * k.toNatClampNeg + t)) x y co).1 (fun _ => op) (fun _ => ik) k.toNatClampNeg 4096))), (m4, .inl (cZ, 4096, .inl g_11)), (m5, .inl (cI, 4096, .inl gb)), (m6, .inl (cI, 4096, .inl gc))] := by rw [hLY]; exact hD
              have hP9 := hP.sub (ws' := [(h0, .inr (9, [.ref m1, .ref m2, .ref m3, .int ik, .int wy, .int op, .int cl, .int cx0, .int cx1, .int cy0, .int cy1, .int ds, .ref m4, .ref m5, .ref m6, .ref m7, .ref m8, .ref m9, .int pn, .ref m10, .ref m11, .ref m12, .ref m13])), (m1, .inl (cI, 4, .inl gw)), (m2, .inl (cI, 4, .inl gh)), (m3, .inl (cI, 16384, .inl (lysN wy gd (spS (opnJ (gw k.toNatClampNeg) (gh k.toNatClampNeg) cl cx0 cx1 cy0 cy1 1) (fun t => gd (4096 * k.toNatClampNeg + t)) x y co).1 (fun _ => op) (fun _ => ik) k.toNatClampNeg 4096))), (m4, .inl (cZ, 4096, .inl g_11)), (m5, .inl (cI, 4096, .inl gb)), (m6, .inl (cI, 4096, .inl gc)), (m13, .inl (cI, 4096, .inl g_12))]) [3, 0, 1, 4, 5, 6, 7, 2] rfl
              have hD9 := hD.sub (ws' := [(h0, .inr (9, [.ref m1, .ref m2, .ref m3, .int ik, .int wy, .int op, .int cl, .int cx0, .int cx1, .int cy0, .int cy1, .int ds, .ref m4, .ref m5, .ref m6, .ref m7, .ref m8, .ref m9, .int pn, .ref m10, .ref m11, .ref m12, .ref m13])), (m1, .inl (cI, 4, .inl gw)), (m2, .inl (cI, 4, .inl gh)), (m3, .inl (cI, 16384, .inl (lysN wy gd (spS (opnJ (gw k.toNatClampNeg) (gh k.toNatClampNeg) cl cx0 cx1 cy0 cy1 1) (fun t => gd (4096 * k.toNatClampNeg + t)) x y co).1 (fun _ => op) (fun _ => ik) k.toNatClampNeg 4096))), (m4, .inl (cZ, 4096, .inl g_11)), (m5, .inl (cI, 4096, .inl gb)), (m6, .inl (cI, 4096, .inl gc)), (m13, .inl (cI, 4096, .inl g_12))]) [3, 0, 1, 4, 5, 6, 7, 2] (by decide) rfl
              have hK9 := hK.sub (tys' := [(cI, .int), (cZ, .boolean)]) [0, 1] rfl
              refine hQ _ _ _ _ _ ?_
              exact W.iret (v := r_19) hx hb hr (fun t ht hW => ⟨⟨r_19, (), rfl, (hr_19.trans (congrArg nI b_14)), ⟨g_11, gb, gc, g_12, by rw [ht]; exact hP9, va_K.moved hW.alike hK9, hD9⟩⟩, hS.F ht⟩) hS.2.2 dX9_flood_85
            · skip
              have f_18 : ¬ (4096 ≤ (i : Int)) := fn_le (by decide) hx_i c_17
              refine lv_aload_n hx hb dX9_flood_52 rfl (lv_at hl 1 rfl) ?_
              refine va_get (D := D) (ci := 9) (v := .ref m5) (C := RX9) (T := TX9) (N := 23) hx hb hts hi_X9 hown hK hP 2 rfl rfl 13 (by decide) (hts _ bw_405) (fun _ h9 => h9) rfl dX9_flood_53 ?_
              refine lv_iload hx hb dX9_flood_56 (lv_at hl 0 rfl) ?_
              refine lv_aload_n hx hb dX9_flood_58 rfl (lv_at hl 1 rfl) ?_
              refine va_get (D := D) (ci := 9) (v := .int op) (C := RX9) (T := TX9) (N := 23) hx hb hts hi_X9 hown hK hP 2 rfl rfl 5 (by decide) (hts _ bw_401) (fun _ h9 => h9) rfl dX9_flood_59 ?_
              refine va_iast hx hb hK hP hD hS 0 0 rfl rfl (vp_in_iff.mpr ⟨by omega, by omega⟩) dX9_flood_62 (fun H locs hP hD hS => ?_)
              have hP : va_P D vwCl [(m5, .inl (cI, 4096, .inl (upd gb x5.toNatClampNeg op))), (m6, .inl (cI, 4096, .inl gc)), (h0, .inr (9, [.ref m1, .ref m2, .ref m3, .int ik, .int wy, .int op, .int cl, .int cx0, .int cx1, .int cy0, .int cy1, .int ds, .ref m4, .ref m5, .ref m6, .ref m7, .ref m8, .ref m9, .int pn, .ref m10, .ref m11, .ref m12, .ref m13])), (m1, .inl (cI, 4, .inl gw)), (m2, .inl (cI, 4, .inl gh)), (m3, .inl (cI, 16384, .inl gd)), (m4, .inl (cZ, 4096, .inl g_11)), (m13, .inl (cI, 4096, .inl g_12))] H := hP
              have hD : va_D A [(m5, .inl (cI, 4096, .inl (upd gb x5.toNatClampNeg op))), (m6, .inl (cI, 4096, .inl gc)), (h0, .inr (9, [.ref m1, .ref m2, .ref m3, .int ik, .int wy, .int op, .int cl, .int cx0, .int cx1, .int cy0, .int cy1, .int ds, .ref m4, .ref m5, .ref m6, .ref m7, .ref m8, .ref m9, .int pn, .ref m10, .ref m11, .ref m12, .ref m13])), (m1, .inl (cI, 4, .inl gw)), (m2, .inl (cI, 4, .inl gh)), (m3, .inl (cI, 16384, .inl gd)), (m4, .inl (cZ, 4096, .inl g_11)), (m13, .inl (cI, 4096, .inl g_12))] := hD
              generalize eg_20 : upd gb x5.toNatClampNeg op = g_20 at hP hD
              have hP : va_P D vwCl [(m5, .inl (cI, 4096, .inl g_20)), (m6, .inl (cI, 4096, .inl gc)), (h0, .inr (9, [.ref m1, .ref m2, .ref m3, .int ik, .int wy, .int op, .int cl, .int cx0, .int cx1, .int cy0, .int cy1, .int ds, .ref m4, .ref m5, .ref m6, .ref m7, .ref m8, .ref m9, .int pn, .ref m10, .ref m11, .ref m12, .ref m13])), (m1, .inl (cI, 4, .inl gw)), (m2, .inl (cI, 4, .inl gh)), (m3, .inl (cI, 16384, .inl gd)), (m4, .inl (cZ, 4096, .inl g_11)), (m13, .inl (cI, 4096, .inl g_12))] H := hP
              have hD : va_D A [(m5, .inl (cI, 4096, .inl g_20)), (m6, .inl (cI, 4096, .inl gc)), (h0, .inr (9, [.ref m1, .ref m2, .ref m3, .int ik, .int wy, .int op, .int cl, .int cx0, .int cx1, .int cy0, .int cy1, .int ds, .ref m4, .ref m5, .ref m6, .ref m7, .ref m8, .ref m9, .int pn, .ref m10, .ref m11, .ref m12, .ref m13])), (m1, .inl (cI, 4, .inl gw)), (m2, .inl (cI, 4, .inl gh)), (m3, .inl (cI, 16384, .inl gd)), (m4, .inl (cZ, 4096, .inl g_11)), (m13, .inl (cI, 4096, .inl g_12))] := hD
              refine lv_aload_n hx hb dX9_flood_63 rfl (lv_at hl 1 rfl) ?_
              refine va_get (D := D) (ci := 9) (v := .ref m6) (C := RX9) (T := TX9) (N := 23) hx hb hts hi_X9 hown hK hP 2 rfl rfl 14 (by decide) (hts _ bw_406) (fun _ h9 => h9) rfl dX9_flood_64 ?_
              refine lv_iload hx hb dX9_flood_67 (lv_at hl 0 rfl) ?_
              refine lv_aload_n hx hb dX9_flood_69 rfl (lv_at hl 1 rfl) ?_
              refine va_get (D := D) (ci := 9) (v := .int ik) (C := RX9) (T := TX9) (N := 23) hx hb hts hi_X9 hown hK hP 2 rfl rfl 3 (by decide) (hts _ bw_399) (fun _ h9 => h9) rfl dX9_flood_70 ?_
              refine va_iast hx hb hK hP hD hS 1 0 rfl rfl (vp_in_iff.mpr ⟨by omega, by omega⟩) dX9_flood_73 (fun H locs hP hD hS => ?_)
              have hP : va_P D vwCl [(m5, .inl (cI, 4096, .inl g_20)), (m6, .inl (cI, 4096, .inl (upd gc x5.toNatClampNeg ik))), (h0, .inr (9, [.ref m1, .ref m2, .ref m3, .int ik, .int wy, .int op, .int cl, .int cx0, .int cx1, .int cy0, .int cy1, .int ds, .ref m4, .ref m5, .ref m6, .ref m7, .ref m8, .ref m9, .int pn, .ref m10, .ref m11, .ref m12, .ref m13])), (m1, .inl (cI, 4, .inl gw)), (m2, .inl (cI, 4, .inl gh)), (m3, .inl (cI, 16384, .inl gd)), (m4, .inl (cZ, 4096, .inl g_11)), (m13, .inl (cI, 4096, .inl g_12))] H := hP
              have hD : va_D A [(m5, .inl (cI, 4096, .inl g_20)), (m6, .inl (cI, 4096, .inl (upd gc x5.toNatClampNeg ik))), (h0, .inr (9, [.ref m1, .ref m2, .ref m3, .int ik, .int wy, .int op, .int cl, .int cx0, .int cx1, .int cy0, .int cy1, .int ds, .ref m4, .ref m5, .ref m6, .ref m7, .ref m8, .ref m9, .int pn, .ref m10, .ref m11, .ref m12, .ref m13])), (m1, .inl (cI, 4, .inl gw)), (m2, .inl (cI, 4, .inl gh)), (m3, .inl (cI, 16384, .inl gd)), (m4, .inl (cZ, 4096, .inl g_11)), (m13, .inl (cI, 4096, .inl g_12))] := hD
              generalize eg_21 : upd gc x5.toNatClampNeg ik = g_21 at hP hD
              have hP : va_P D vwCl [(m5, .inl (cI, 4096, .inl g_20)), (m6, .inl (cI, 4096, .inl g_21)), (h0, .inr (9, [.ref m1, .ref m2, .ref m3, .int ik, .int wy, .int op, .int cl, .int cx0, .int cx1, .int cy0, .int cy1, .int ds, .ref m4, .ref m5, .ref m6, .ref m7, .ref m8, .ref m9, .int pn, .ref m10, .ref m11, .ref m12, .ref m13])), (m1, .inl (cI, 4, .inl gw)), (m2, .inl (cI, 4, .inl gh)), (m3, .inl (cI, 16384, .inl gd)), (m4, .inl (cZ, 4096, .inl g_11)), (m13, .inl (cI, 4096, .inl g_12))] H := hP
              have hD : va_D A [(m5, .inl (cI, 4096, .inl g_20)), (m6, .inl (cI, 4096, .inl g_21)), (h0, .inr (9, [.ref m1, .ref m2, .ref m3, .int ik, .int wy, .int op, .int cl, .int cx0, .int cx1, .int cy0, .int cy1, .int ds, .ref m4, .ref m5, .ref m6, .ref m7, .ref m8, .ref m9, .int pn, .ref m10, .ref m11, .ref m12, .ref m13])), (m1, .inl (cI, 4, .inl gw)), (m2, .inl (cI, 4, .inl gh)), (m3, .inl (cI, 16384, .inl gd)), (m4, .inl (cZ, 4096, .inl g_11)), (m13, .inl (cI, 4096, .inl g_12))] := hD
              obtain ⟨y_22, ey_22⟩ : ∃ y : Int32, y = x5 + 1 := ⟨_, rfl⟩
              refine lv_iinc (v := y_22) (lv' := [(5, .int y_22), (0, .ref h0), (1, .int k), (2, .int x), (3, .int y), (4, .int co)]) hx hb dX9_flood_74 hl (k := 0) rfl (by rw [ey_22]; rfl) (by decide) rfl (fun ls hl => ?_)
              refine lv_goto (tgt := 44) hx hb dX9_flood_77 (by decide) ?_
              exact ih_16 (i + 1) y_22 g_20 g_21 _ _ _ (by omega) (by omega) (by rw [ey_22, ex_i]; exact nI_1 i) (by rw [← eg_20]; exact fill_up hb9 hc_i) (by rw [← eg_21]; exact fill_up hc9 hc_i) (hP.sub (ws' := [(m5, .inl (cI, 4096, .inl g_20)), (m6, .inl (cI, 4096, .inl g_21)), (h0, .inr (9, [.ref m1, .ref m2, .ref m3, .int ik, .int wy, .int op, .int cl, .int cx0, .int cx1, .int cy0, .int cy1, .int ds, .ref m4, .ref m5, .ref m6, .ref m7, .ref m8, .ref m9, .int pn, .ref m10, .ref m11, .ref m12, .ref m13])), (m1, .inl (cI, 4, .inl gw)), (m2, .inl (cI, 4, .inl gh)), (m3, .inl (cI, 16384, .inl gd)), (m4, .inl (cZ, 4096, .inl g_11)), (m13, .inl (cI, 4096, .inl g_12))]) [0, 1, 2, 3, 4, 5, 6, 7] rfl) (hD.sub (ws' := [(m5, .inl (cI, 4096, .inl g_20)), (m6, .inl (cI, 4096, .inl g_21)), (h0, .inr (9, [.ref m1, .ref m2, .ref m3, .int ik, .int wy, .int op, .int cl, .int cx0, .int cx1, .int cy0, .int cy1, .int ds, .ref m4, .ref m5, .ref m6, .ref m7, .ref m8, .ref m9, .int pn, .ref m10, .ref m11, .ref m12, .ref m13])), (m1, .inl (cI, 4, .inl gw)), (m2, .inl (cI, 4, .inl gh)), (m3, .inl (cI, 16384, .inl gd)), (m4, .inl (cZ, 4096, .inl g_11)), (m13, .inl (cI, 4096, .inl g_12))]) [0, 1, 2, 3, 4, 5, 6, 7] (by decide) rfl) hS (lv_sub hl [0, 1, 2, 3, 4, 5] rfl)
        exact loop_15 (4096 + 1) 0 0 ge gv _ _ _ (by omega) (by omega) nI_0.symm (fun j hj => absurd hj (by omega)) (fun j hj => absurd hj (by omega)) hP hD hS (lv_sub hl [0, 1, 2, 3, 4, 5] rfl)
      · skip
        have f_9 := bz0 hr_7 c_8
        exact False.elim (by omega)
    · skip
      have f_6 := bz0 hr_4 c_5
      exact False.elim (by omega)

set_option maxHeartbeats 4000000 in
set_option maxRecDepth 100000 in
theorem k_X9_flood_ce (l : Launch) (D : va_G) (sz : Nat) (h0 m1 m2 m3 m4 m5 m6 m7 m8 m9 m10 m11 m12 m13 : Nat) (ik wy op cl cx0 cx1 cy0 cy1 ds pn : Int32) (gw : Nat → Int32) (gh : Nat → Int32) (k x y co : Int32) (cI : ClassId) (hk : 0 ≤ k.toInt ∧ k.toInt ≤ 3) (hgp : 0 < (gw k.toNatClampNeg).toInt) (hon : 0 ≤ x.toInt ∧ x.toInt < (gw k.toNatClampNeg).toInt ∧ 0 ≤ y.toInt ∧ y.toInt < (gh k.toNatClampNeg).toInt) (hcl : ¬ (cl.toInt = 0 ∨ (cx0.toInt ≤ x.toInt ∧ x.toInt ≤ cx1.toInt ∧ cy0.toInt ≤ y.toInt ∧ y.toInt ≤ cy1.toInt))) : Met l yX9_flood (wB yX9_flood cX9_flood 6 (some .int)) ({ frames := 1, cells := 0, slots := 0, locals := 23 }) (cP D [(h0, .inr (9, [.ref m1, .ref m2, .ref m3, .int ik, .int wy, .int op, .int cl, .int cx0, .int cx1, .int cy0, .int cy1, .int ds, .ref m4, .ref m5, .ref m6, .ref m7, .ref m8, .ref m9, .int pn, .ref m10, .ref m11, .ref m12, .ref m13])), (m1, .inl (cI, 4, .inl gw)), (m2, .inl (cI, 4, .inl gh))] [(cI, .int)] sz [.ref h0, .int k, .int x, .int y, .int co]) (va_Qi (fun (r : Int32) (_ : Unit) => r = 0) (fun (_ : Unit) (t : State) => cB D (va_A [(h0, .inr (9, [.ref m1, .ref m2, .ref m3, .int ik, .int wy, .int op, .int cl, .int cx0, .int cx1, .int cy0, .int cy1, .int ds, .ref m4, .ref m5, .ref m6, .ref m7, .ref m8, .ref m9, .int pn, .ref m10, .ref m11, .ref m12, .ref m13])), (m1, .inl (cI, 4, .inl gw)), (m2, .inl (cI, 4, .inl gh))] sz) [(h0, .inr (9, [.ref m1, .ref m2, .ref m3, .int ik, .int wy, .int op, .int cl, .int cx0, .int cx1, .int cy0, .int cy1, .int ds, .ref m4, .ref m5, .ref m6, .ref m7, .ref m8, .ref m9, .int pn, .ref m10, .ref m11, .ref m12, .ref m13])), (m1, .inl (cI, 4, .inl gw)), (m2, .inl (cI, 4, .inl gh))] [(cI, .int)] t) (va_A [(h0, .inr (9, [.ref m1, .ref m2, .ref m3, .int ik, .int wy, .int op, .int cl, .int cx0, .int cx1, .int cy0, .int cy1, .int ds, .ref m4, .ref m5, .ref m6, .ref m7, .ref m8, .ref m9, .int pn, .ref m10, .ref m11, .ref m12, .ref m13])), (m1, .inl (cI, 4, .inl gw)), (m2, .inl (cI, 4, .inl gh))] sz)) 0 0 (va_A [(h0, .inr (9, [.ref m1, .ref m2, .ref m3, .int ik, .int wy, .int op, .int cl, .int cx0, .int cx1, .int cy0, .int cy1, .int ds, .ref m4, .ref m5, .ref m6, .ref m7, .ref m8, .ref m9, .int pn, .ref m10, .ref m11, .ref m12, .ref m13])), (m1, .inl (cI, 4, .inl gw)), (m2, .inl (cI, 4, .inl gh))] sz) := by
  refine Met.ofW (cc := cX9_flood) (maxL := 6) (ret := (some .int)) (by decide) rfl ?_
  intro p e s m args below meth c s₁ B hml hv
  obtain ⟨rfl, hsz, hP, hK, hD0, hN⟩ := hv
  have hx := B.exec
  have hb := B.bytes
  have hr := B.returns
  have hts0 := atoms_spec (ws := (wB yX9_flood cX9_flood 6 (some .int))) B.pre
  have hts : ∀ w ∈ bigW, w.before _ s = true := fun w h => hts0 w (List.mem_cons_of_mem _ h)
  have hown : s.vm.findClass RX9 = some m.cls := findClass_of_methodNamed B.named
  have hlocks := B.notSynchronized
  subst hsz
  have hD := hD0.self (sz := s.heap.size)
  generalize hAe : va_A [(h0, .inr (9, [.ref m1, .ref m2, .ref m3, .int ik, .int wy, .int op, .int cl, .int cx0, .int cx1, .int cy0, .int cy1, .int ds, .ref m4, .ref m5, .ref m6, .ref m7, .ref m8, .ref m9, .int pn, .ref m10, .ref m11, .ref m12, .ref m13])), (m1, .inl (cI, 4, .inl gw)), (m2, .inl (cI, 4, .inl gh))] s.heap.size = A at hD ⊢
  have hA : ∀ q : Nat, s.heap.size ≤ q → A q := fun q h => by rw [← hAe]; exact Or.inr h
  have hS : va_S A s.heap s.heap [] := va_S.rf
  have hP : va_P D vwCl [(h0, .inr (9, [.ref m1, .ref m2, .ref m3, .int ik, .int wy, .int op, .int cl, .int cx0, .int cx1, .int cy0, .int cy1, .int ds, .ref m4, .ref m5, .ref m6, .ref m7, .ref m8, .ref m9, .int pn, .ref m10, .ref m11, .ref m12, .ref m13])), (m1, .inl (cI, 4, .inl gw)), (m2, .inl (cI, 4, .inl gh))] s.heap := hP
  have hl := lv_entry ([.ref h0, .int k, .int x, .int y, .int co]) (n := 6) (Nat.le_of_ble_eq_true rfl)
  rw [lg_entry_eq]
  generalize (lg_sl ([.ref h0, .int k, .int x, .int y, .int co]) ++ List.replicate (6 - (lg_sl ([.ref h0, .int k, .int x, .int y, .int co])).length) Slot.unset).toArray = ls at hl ⊢
  have hl : lv_has ls 6 [(0, .ref h0), (1, .int k), (2, .int x), (3, .int y), (4, .int co)] := hl
  clear hts0 hD0 hAe
  refine my_abs (fun R Q hR hQ => ?_)
  refine lv_aload_n hx hb dX9_flood_0 rfl (lv_at hl 0 rfl) ?_
  refine lv_iload_n hx hb dX9_flood_1 rfl (lv_at hl 1 rfl) ?_
  have hPc := hP.sub (ws' := [(h0, .inr (9, [.ref m1, .ref m2, .ref m3, .int ik, .int wy, .int op, .int cl, .int cx0, .int cx1, .int cy0, .int cy1, .int ds, .ref m4, .ref m5, .ref m6, .ref m7, .ref m8, .ref m9, .int pn, .ref m10, .ref m11, .ref m12, .ref m13])), (m1, .inl (cI, 4, .inl gw))]) [0, 1] rfl
  have hDc := hD.sub (ws' := [(h0, .inr (9, [.ref m1, .ref m2, .ref m3, .int ik, .int wy, .int op, .int cl, .int cx0, .int cx1, .int cy0, .int cy1, .int ds, .ref m4, .ref m5, .ref m6, .ref m7, .ref m8, .ref m9, .int pn, .ref m10, .ref m11, .ref m12, .ref m13])), (m1, .inl (cI, 4, .inl gw))]) [0, 1] (by decide) rfl
  have hKc := hK.sub (tys' := [(cI, .int)]) [0] rfl
  have hFc := va_free (wc := [(h0, .inr (9, [.ref m1, .ref m2, .ref m3, .int ik, .int wy, .int op, .int cl, .int cx0, .int cx1, .int cy0, .int cy1, .int ds, .ref m4, .ref m5, .ref m6, .ref m7, .ref m8, .ref m9, .int pn, .ref m10, .ref m11, .ref m12, .ref m13])), (m1, .inl (cI, 4, .inl gw))]) hD hS hA [0, 1] rfl
  refine va_calli (va_runV (As := [.int k]) (rest := []) ⟨hx, hb, hml, hown, hts⟩ (k_X9_isSheet l D s.heap.size h0 m1 m2 m3 m4 m5 m6 m7 m8 m9 m10 m11 m12 m13 ik wy op cl cx0 cx1 cy0 cy1 ds pn gw k cI) (cwV 1 hts (gV bw_490 bw_415 bw_416 bw_391 bw_414) rfl rfl rfl (by decide +kernel) ⟨(by rw [hR]; exact Nat.le_of_ble_eq_true rfl), (by rw [hR]; exact Nat.le_of_ble_eq_true rfl)⟩) ⟨cP_blind, va_recv hKc hPc (ci := 9) (q0 := 0) rfl rfl, cP_at hPc hKc hDc hN⟩ rfl rfl hl.1 rfl (lv_room (Nat.le_of_ble_eq_true rfl)) dX9_flood_2 ⟨(by rw [hR]; exact Nat.le_of_ble_eq_true rfl), (by rw [hR]; exact Nat.le_of_ble_eq_true rfl)⟩) hS (fun q _ h => hFc q h) hFc (fun r_1 u9 t9 H1 locs ht hvm hr_1 hB hz1 hk1 hS => ?_)
  try dsimp only at hr_1
  obtain ⟨hP1, hK1, hD1⟩ := hB
  rw [ht] at hP1
  obtain ⟨hP, hD⟩ := va_join (wr := [(m2, .inl (cI, 4, .inl gh))]) (w1 := [(h0, .inr (9, [.ref m1, .ref m2, .ref m3, .int ik, .int wy, .int op, .int cl, .int cx0, .int cx1, .int cy0, .int cy1, .int ds, .ref m4, .ref m5, .ref m6, .ref m7, .ref m8, .ref m9, .int pn, .ref m10, .ref m11, .ref m12, .ref m13])), (m1, .inl (cI, 4, .inl gw))]) hP hD [0, 1] [2] rfl rfl (by decide) (by decide) hk1 hFc hP1 hD1
  clear hz1 hk1 hFc hKc hDc hPc
  generalize H1 = H at hP hS ⊢
  have hP : va_P D vwCl [(m2, .inl (cI, 4, .inl gh)), (h0, .inr (9, [.ref m1, .ref m2, .ref m3, .int ik, .int wy, .int op, .int cl, .int cx0, .int cx1, .int cy0, .int cy1, .int ds, .ref m4, .ref m5, .ref m6, .ref m7, .ref m8, .ref m9, .int pn, .ref m10, .ref m11, .ref m12, .ref m13])), (m1, .inl (cI, 4, .inl gw))] H := hP
  have hD : va_D A [(m2, .inl (cI, 4, .inl gh)), (h0, .inr (9, [.ref m1, .ref m2, .ref m3, .int ik, .int wy, .int op, .int cl, .int cx0, .int cx1, .int cy0, .int cy1, .int ds, .ref m4, .ref m5, .ref m6, .ref m7, .ref m8, .ref m9, .int pn, .ref m10, .ref m11, .ref m12, .ref m13])), (m1, .inl (cI, 4, .inl gw))] := hD
  refine lv_if_eq (tgt := 18) hx hb dX9_flood_5 (by decide) (fun c_2 => ?_) (fun c_2 => ?_)
  · skip
    have f_3 := bz0 hr_1 c_2
    exact False.elim (by omega)
  · skip
    have f_3 := bz1 hr_1 c_2
    refine lv_aload_n hx hb dX9_flood_8 rfl (lv_at hl 0 rfl) ?_
    refine lv_iload_n hx hb dX9_flood_9 rfl (lv_at hl 1 rfl) ?_
    refine lv_iload_n hx hb dX9_flood_10 rfl (lv_at hl 2 rfl) ?_
    refine lv_iload_n hx hb dX9_flood_11 rfl (lv_at hl 3 rfl) ?_
    have hPc := hP.sub (ws' := [(h0, .inr (9, [.ref m1, .ref m2, .ref m3, .int ik, .int wy, .int op, .int cl, .int cx0, .int cx1, .int cy0, .int cy1, .int ds, .ref m4, .ref m5, .ref m6, .ref m7, .ref m8, .ref m9, .int pn, .ref m10, .ref m11, .ref m12, .ref m13])), (m1, .inl (cI, 4, .inl gw)), (m2, .inl (cI, 4, .inl gh))]) [1, 2, 0] rfl
    have hDc := hD.sub (ws' := [(h0, .inr (9, [.ref m1, .ref m2, .ref m3, .int ik, .int wy, .int op, .int cl, .int cx0, .int cx1, .int cy0, .int cy1, .int ds, .ref m4, .ref m5, .ref m6, .ref m7, .ref m8, .ref m9, .int pn, .ref m10, .ref m11, .ref m12, .ref m13])), (m1, .inl (cI, 4, .inl gw)), (m2, .inl (cI, 4, .inl gh))]) [1, 2, 0] (by decide) rfl
    have hKc := hK.sub (tys' := [(cI, .int)]) [0] rfl
    have hFc := va_free (wc := [(h0, .inr (9, [.ref m1, .ref m2, .ref m3, .int ik, .int wy, .int op, .int cl, .int cx0, .int cx1, .int cy0, .int cy1, .int ds, .ref m4, .ref m5, .ref m6, .ref m7, .ref m8, .ref m9, .int pn, .ref m10, .ref m11, .ref m12, .ref m13])), (m1, .inl (cI, 4, .inl gw)), (m2, .inl (cI, 4, .inl gh))]) hD hS hA [1, 2, 0] rfl
    refine va_calli (va_runV (As := [.int k, .int x, .int y]) (rest := []) ⟨hx, hb, hml, hown, hts⟩ (k_X9_isOn l D H.size h0 m1 m2 m3 m4 m5 m6 m7 m8 m9 m10 m11 m12 m13 ik wy op cl cx0 cx1 cy0 cy1 ds pn gw gh k x y cI (by omega)) (cwV 3 hts (gV bw_433 bw_418 bw_419 bw_391 bw_417) rfl rfl rfl (by decide +kernel) ⟨(by rw [hR]; exact Nat.le_of_ble_eq_true rfl), (by rw [hR]; exact Nat.le_of_ble_eq_true rfl)⟩) ⟨cP_blind, va_recv hKc hPc (ci := 9) (q0 := 0) rfl rfl, cP_at hPc hKc hDc hN⟩ rfl rfl hl.1 rfl (lv_room (Nat.le_of_ble_eq_true rfl)) dX9_flood_12 ⟨(by rw [hR]; exact Nat.le_of_ble_eq_true rfl), (by rw [hR]; exact Nat.le_of_ble_eq_true rfl)⟩) hS (fun q _ h => hFc q h) hFc (fun r_4 u9 t9 H1 locs ht hvm hr_4 hB hz1 hk1 hS => ?_)
    try dsimp only at hr_4
    obtain ⟨hP1, hK1, hD1⟩ := hB
    rw [ht] at hP1
    obtain ⟨hP, hD⟩ := va_join (wr := []) (w1 := [(h0, .inr (9, [.ref m1, .ref m2, .ref m3, .int ik, .int wy, .int op, .int cl, .int cx0, .int cx1, .int cy0, .int cy1, .int ds, .ref m4, .ref m5, .ref m6, .ref m7, .ref m8, .ref m9, .int pn, .ref m10, .ref m11, .ref m12, .ref m13])), (m1, .inl (cI, 4, .inl gw)), (m2, .inl (cI, 4, .inl gh))]) hP hD [1, 2, 0] [] rfl rfl (by decide) (by decide) hk1 hFc hP1 hD1
    clear hz1 hk1 hFc hKc hDc hPc
    generalize H1 = H at hP hS ⊢
    have hP : va_P D vwCl [(h0, .inr (9, [.ref m1, .ref m2, .ref m3, .int ik, .int wy, .int op, .int cl, .int cx0, .int cx1, .int cy0, .int cy1, .int ds, .ref m4, .ref m5, .ref m6, .ref m7, .ref m8, .ref m9, .int pn, .ref m10, .ref m11, .ref m12, .ref m13])), (m1, .inl (cI, 4, .inl gw)), (m2, .inl (cI, 4, .inl gh))] H := hP
    have hD : va_D A [(h0, .inr (9, [.ref m1, .ref m2, .ref m3, .int ik, .int wy, .int op, .int cl, .int cx0, .int cx1, .int cy0, .int cy1, .int ds, .ref m4, .ref m5, .ref m6, .ref m7, .ref m8, .ref m9, .int pn, .ref m10, .ref m11, .ref m12, .ref m13])), (m1, .inl (cI, 4, .inl gw)), (m2, .inl (cI, 4, .inl gh))] := hD
    refine lv_if_ne (tgt := 20) hx hb dX9_flood_15 (by decide) (fun c_5 => ?_) (fun c_5 => ?_)
    · skip
      have f_6 := bz1 hr_4 c_5
      refine lv_aload_n hx hb dX9_flood_20 rfl (lv_at hl 0 rfl) ?_
      refine lv_iload_n hx hb dX9_flood_21 rfl (lv_at hl 2 rfl) ?_
      refine lv_iload_n hx hb dX9_flood_22 rfl (lv_at hl 3 rfl) ?_
      have hPc := hP.sub (ws' := [(h0, .inr (9, [.ref m1, .ref m2, .ref m3, .int ik, .int wy, .int op, .int cl, .int cx0, .int cx1, .int cy0, .int cy1, .int ds, .ref m4, .ref m5, .ref m6, .ref m7, .ref m8, .ref m9, .int pn, .ref m10, .ref m11, .ref m12, .ref m13]))]) [0] rfl
      have hDc := hD.sub (ws' := [(h0, .inr (9, [.ref m1, .ref m2, .ref m3, .int ik, .int wy, .int op, .int cl, .int cx0, .int cx1, .int cy0, .int cy1, .int ds, .ref m4, .ref m5, .ref m6, .ref m7, .ref m8, .ref m9, .int pn, .ref m10, .ref m11, .ref m12, .ref m13]))]) [0] (by decide) rfl
      have hKc := hK.sub (tys' := []) [] rfl
      have hFc := va_free (wc := [(h0, .inr (9, [.ref m1, .ref m2, .ref m3, .int ik, .int wy, .int op, .int cl, .int cx0, .int cx1, .int cy0, .int cy1, .int ds, .ref m4, .ref m5, .ref m6, .ref m7, .ref m8, .ref m9, .int pn, .ref m10, .ref m11, .ref m12, .ref m13]))]) hD hS hA [0] rfl
      refine va_calli (va_runV (As := [.int x, .int y]) (rest := []) ⟨hx, hb, hml, hown, hts⟩ (k_X9_isInClip l D H.size h0 m1 m2 m3 m4 m5 m6 m7 m8 m9 m10 m11 m12 m13 ik wy op cl cx0 cx1 cy0 cy1 ds pn x y) (cwV 2 hts (gV bw_434 bw_423 bw_424 bw_391 bw_422) rfl rfl rfl (by decide +kernel) ⟨(by rw [hR]; exact Nat.le_of_ble_eq_true rfl), (by rw [hR]; exact Nat.le_of_ble_eq_true rfl)⟩) ⟨cP_blind, va_recv hKc hPc (ci := 9) (q0 := 0) rfl rfl, cP_at hPc hKc hDc hN⟩ rfl rfl hl.1 rfl (lv_room (Nat.le_of_ble_eq_true rfl)) dX9_flood_23 ⟨(by rw [hR]; exact Nat.le_of_ble_eq_true rfl), (by rw [hR]; exact Nat.le_of_ble_eq_true rfl)⟩) hS (fun q _ h => hFc q h) hFc (fun r_7 u9 t9 H1 locs ht hvm hr_7 hB hz1 hk1 hS => ?_)
      try dsimp only at hr_7
      obtain ⟨hP1, hK1, hD1⟩ := hB
      rw [ht] at hP1
      obtain ⟨hP, hD⟩ := va_join (wr := [(m1, .inl (cI, 4, .inl gw)), (m2, .inl (cI, 4, .inl gh))]) (w1 := [(h0, .inr (9, [.ref m1, .ref m2, .ref m3, .int ik, .int wy, .int op, .int cl, .int cx0, .int cx1, .int cy0, .int cy1, .int ds, .ref m4, .ref m5, .ref m6, .ref m7, .ref m8, .ref m9, .int pn, .ref m10, .ref m11, .ref m12, .ref m13]))]) hP hD [0] [1, 2] rfl rfl (by decide) (by decide) hk1 hFc hP1 hD1
      clear hz1 hk1 hFc hKc hDc hPc
      generalize H1 = H at hP hS ⊢
      have hP : va_P D vwCl [(m1, .inl (cI, 4, .inl gw)), (m2, .inl (cI, 4, .inl gh)), (h0, .inr (9, [.ref m1, .ref m2, .ref m3, .int ik, .int wy, .int op, .int cl, .int cx0, .int cx1, .int cy0, .int cy1, .int ds, .ref m4, .ref m5, .ref m6, .ref m7, .ref m8, .ref m9, .int pn, .ref m10, .ref m11, .ref m12, .ref m13]))] H := hP
      have hD : va_D A [(m1, .inl (cI, 4, .inl gw)), (m2, .inl (cI, 4, .inl gh)), (h0, .inr (9, [.ref m1, .ref m2, .ref m3, .int ik, .int wy, .int op, .int cl, .int cx0, .int cx1, .int cy0, .int cy1, .int ds, .ref m4, .ref m5, .ref m6, .ref m7, .ref m8, .ref m9, .int pn, .ref m10, .ref m11, .ref m12, .ref m13]))] := hD
      refine lv_if_ne (tgt := 31) hx hb dX9_flood_26 (by decide) (fun c_8 => ?_) (fun c_8 => ?_)
      · skip
        have f_9 := bz1 hr_7 c_8
        exact False.elim (by omega)
      · skip
        have f_9 := bz0 hr_7 c_8
        refine lv_iconst (v := 0) hx hb dX9_flood_29 (by decide) ?_
        have hP9 := hP.sub (ws' := [(h0, .inr (9, [.ref m1, .ref m2, .ref m3, .int ik, .int wy, .int op, .int cl, .int cx0, .int cx1, .int cy0, .int cy1, .int ds, .ref m4, .ref m5, .ref m6, .ref m7, .ref m8, .ref m9, .int pn, .ref m10, .ref m11, .ref m12, .ref m13])), (m1, .inl (cI, 4, .inl gw)), (m2, .inl (cI, 4, .inl gh))]) [2, 0, 1] rfl
        have hD9 := hD.sub (ws' := [(h0, .inr (9, [.ref m1, .ref m2, .ref m3, .int ik, .int wy, .int op, .int cl, .int cx0, .int cx1, .int cy0, .int cy1, .int ds, .ref m4, .ref m5, .ref m6, .ref m7, .ref m8, .ref m9, .int pn, .ref m10, .ref m11, .ref m12, .ref m13])), (m1, .inl (cI, 4, .inl gw)), (m2, .inl (cI, 4, .inl gh))]) [2, 0, 1] (by decide) rfl
        have hK9 := hK.sub (tys' := [(cI, .int)]) [0] rfl
        refine hQ _ _ _ _ _ ?_
        exact W.iret (v := 0) hx hb hr (fun t ht hW => ⟨⟨0, (), rfl, rfl, ⟨by rw [ht]; exact hP9, va_K.moved hW.alike hK9, hD9⟩⟩, hS.F ht⟩) hS.2.2 dX9_flood_30
    · skip
      have f_6 := bz0 hr_4 c_5
      exact False.elim (by omega)

set_option maxHeartbeats 4000000 in
set_option maxRecDepth 100000 in
theorem k_X9_flood_ne (l : Launch) (D : va_G) (sz : Nat) (h0 m1 m2 m3 m4 m5 m6 m7 m8 m9 m10 m11 m12 m13 : Nat) (ik wy op cl cx0 cx1 cy0 cy1 ds pn : Int32) (gw : Nat → Int32) (gh : Nat → Int32) (k x y co : Int32) (cI : ClassId) (hns : ¬ ((0 ≤ k.toInt ∧ k.toInt ≤ 3 ∧ 0 < (gw k.toNatClampNeg).toInt) ∧ (0 ≤ x.toInt ∧ x.toInt < (gw k.toNatClampNeg).toInt ∧ 0 ≤ y.toInt ∧ y.toInt < (gh k.toNatClampNeg).toInt))) : Met l yX9_flood (wB yX9_flood cX9_flood 6 (some .int)) ({ frames := 1, cells := 0, slots := 0, locals := 23 }) (cP D [(h0, .inr (9, [.ref m1, .ref m2, .ref m3, .int ik, .int wy, .int op, .int cl, .int cx0, .int cx1, .int cy0, .int cy1, .int ds, .ref m4, .ref m5, .ref m6, .ref m7, .ref m8, .ref m9, .int pn, .ref m10, .ref m11, .ref m12, .ref m13])), (m1, .inl (cI, 4, .inl gw)), (m2, .inl (cI, 4, .inl gh))] [(cI, .int)] sz [.ref h0, .int k, .int x, .int y, .int co]) (va_Qi (fun (r : Int32) (_ : Unit) => r = -1) (fun (_ : Unit) (t : State) => cB D (va_A [(h0, .inr (9, [.ref m1, .ref m2, .ref m3, .int ik, .int wy, .int op, .int cl, .int cx0, .int cx1, .int cy0, .int cy1, .int ds, .ref m4, .ref m5, .ref m6, .ref m7, .ref m8, .ref m9, .int pn, .ref m10, .ref m11, .ref m12, .ref m13])), (m1, .inl (cI, 4, .inl gw)), (m2, .inl (cI, 4, .inl gh))] sz) [(h0, .inr (9, [.ref m1, .ref m2, .ref m3, .int ik, .int wy, .int op, .int cl, .int cx0, .int cx1, .int cy0, .int cy1, .int ds, .ref m4, .ref m5, .ref m6, .ref m7, .ref m8, .ref m9, .int pn, .ref m10, .ref m11, .ref m12, .ref m13])), (m1, .inl (cI, 4, .inl gw)), (m2, .inl (cI, 4, .inl gh))] [(cI, .int)] t) (va_A [(h0, .inr (9, [.ref m1, .ref m2, .ref m3, .int ik, .int wy, .int op, .int cl, .int cx0, .int cx1, .int cy0, .int cy1, .int ds, .ref m4, .ref m5, .ref m6, .ref m7, .ref m8, .ref m9, .int pn, .ref m10, .ref m11, .ref m12, .ref m13])), (m1, .inl (cI, 4, .inl gw)), (m2, .inl (cI, 4, .inl gh))] sz)) 0 0 (va_A [(h0, .inr (9, [.ref m1, .ref m2, .ref m3, .int ik, .int wy, .int op, .int cl, .int cx0, .int cx1, .int cy0, .int cy1, .int ds, .ref m4, .ref m5, .ref m6, .ref m7, .ref m8, .ref m9, .int pn, .ref m10, .ref m11, .ref m12, .ref m13])), (m1, .inl (cI, 4, .inl gw)), (m2, .inl (cI, 4, .inl gh))] sz) := by
  refine Met.ofW (cc := cX9_flood) (maxL := 6) (ret := (some .int)) (by decide) rfl ?_
  intro p e s m args below meth c s₁ B hml hv
  obtain ⟨rfl, hsz, hP, hK, hD0, hN⟩ := hv
  have hx := B.exec
  have hb := B.bytes
  have hr := B.returns
  have hts0 := atoms_spec (ws := (wB yX9_flood cX9_flood 6 (some .int))) B.pre
  have hts : ∀ w ∈ bigW, w.before _ s = true := fun w h => hts0 w (List.mem_cons_of_mem _ h)
  have hown : s.vm.findClass RX9 = some m.cls := findClass_of_methodNamed B.named
  have hlocks := B.notSynchronized
  subst hsz
  have hD := hD0.self (sz := s.heap.size)
  generalize hAe : va_A [(h0, .inr (9, [.ref m1, .ref m2, .ref m3, .int ik, .int wy, .int op, .int cl, .int cx0, .int cx1, .int cy0, .int cy1, .int ds, .ref m4, .ref m5, .ref m6, .ref m7, .ref m8, .ref m9, .int pn, .ref m10, .ref m11, .ref m12, .ref m13])), (m1, .inl (cI, 4, .inl gw)), (m2, .inl (cI, 4, .inl gh))] s.heap.size = A at hD ⊢
  have hA : ∀ q : Nat, s.heap.size ≤ q → A q := fun q h => by rw [← hAe]; exact Or.inr h
  have hS : va_S A s.heap s.heap [] := va_S.rf
  have hP : va_P D vwCl [(h0, .inr (9, [.ref m1, .ref m2, .ref m3, .int ik, .int wy, .int op, .int cl, .int cx0, .int cx1, .int cy0, .int cy1, .int ds, .ref m4, .ref m5, .ref m6, .ref m7, .ref m8, .ref m9, .int pn, .ref m10, .ref m11, .ref m12, .ref m13])), (m1, .inl (cI, 4, .inl gw)), (m2, .inl (cI, 4, .inl gh))] s.heap := hP
  have hl := lv_entry ([.ref h0, .int k, .int x, .int y, .int co]) (n := 6) (Nat.le_of_ble_eq_true rfl)
  rw [lg_entry_eq]
  generalize (lg_sl ([.ref h0, .int k, .int x, .int y, .int co]) ++ List.replicate (6 - (lg_sl ([.ref h0, .int k, .int x, .int y, .int co])).length) Slot.unset).toArray = ls at hl ⊢
  have hl : lv_has ls 6 [(0, .ref h0), (1, .int k), (2, .int x), (3, .int y), (4, .int co)] := hl
  clear hts0 hD0 hAe
  refine my_abs (fun R Q hR hQ => ?_)
  refine lv_aload_n hx hb dX9_flood_0 rfl (lv_at hl 0 rfl) ?_
  refine lv_iload_n hx hb dX9_flood_1 rfl (lv_at hl 1 rfl) ?_
  have hPc := hP.sub (ws' := [(h0, .inr (9, [.ref m1, .ref m2, .ref m3, .int ik, .int wy, .int op, .int cl, .int cx0, .int cx1, .int cy0, .int cy1, .int ds, .ref m4, .ref m5, .ref m6, .ref m7, .ref m8, .ref m9, .int pn, .ref m10, .ref m11, .ref m12, .ref m13])), (m1, .inl (cI, 4, .inl gw))]) [0, 1] rfl
  have hDc := hD.sub (ws' := [(h0, .inr (9, [.ref m1, .ref m2, .ref m3, .int ik, .int wy, .int op, .int cl, .int cx0, .int cx1, .int cy0, .int cy1, .int ds, .ref m4, .ref m5, .ref m6, .ref m7, .ref m8, .ref m9, .int pn, .ref m10, .ref m11, .ref m12, .ref m13])), (m1, .inl (cI, 4, .inl gw))]) [0, 1] (by decide) rfl
  have hKc := hK.sub (tys' := [(cI, .int)]) [0] rfl
  have hFc := va_free (wc := [(h0, .inr (9, [.ref m1, .ref m2, .ref m3, .int ik, .int wy, .int op, .int cl, .int cx0, .int cx1, .int cy0, .int cy1, .int ds, .ref m4, .ref m5, .ref m6, .ref m7, .ref m8, .ref m9, .int pn, .ref m10, .ref m11, .ref m12, .ref m13])), (m1, .inl (cI, 4, .inl gw))]) hD hS hA [0, 1] rfl
  refine va_calli (va_runV (As := [.int k]) (rest := []) ⟨hx, hb, hml, hown, hts⟩ (k_X9_isSheet l D s.heap.size h0 m1 m2 m3 m4 m5 m6 m7 m8 m9 m10 m11 m12 m13 ik wy op cl cx0 cx1 cy0 cy1 ds pn gw k cI) (cwV 1 hts (gV bw_490 bw_415 bw_416 bw_391 bw_414) rfl rfl rfl (by decide +kernel) ⟨(by rw [hR]; exact Nat.le_of_ble_eq_true rfl), (by rw [hR]; exact Nat.le_of_ble_eq_true rfl)⟩) ⟨cP_blind, va_recv hKc hPc (ci := 9) (q0 := 0) rfl rfl, cP_at hPc hKc hDc hN⟩ rfl rfl hl.1 rfl (lv_room (Nat.le_of_ble_eq_true rfl)) dX9_flood_2 ⟨(by rw [hR]; exact Nat.le_of_ble_eq_true rfl), (by rw [hR]; exact Nat.le_of_ble_eq_true rfl)⟩) hS (fun q _ h => hFc q h) hFc (fun r_1 u9 t9 H1 locs ht hvm hr_1 hB hz1 hk1 hS => ?_)
  try dsimp only at hr_1
  obtain ⟨hP1, hK1, hD1⟩ := hB
  rw [ht] at hP1
  obtain ⟨hP, hD⟩ := va_join (wr := [(m2, .inl (cI, 4, .inl gh))]) (w1 := [(h0, .inr (9, [.ref m1, .ref m2, .ref m3, .int ik, .int wy, .int op, .int cl, .int cx0, .int cx1, .int cy0, .int cy1, .int ds, .ref m4, .ref m5, .ref m6, .ref m7, .ref m8, .ref m9, .int pn, .ref m10, .ref m11, .ref m12, .ref m13])), (m1, .inl (cI, 4, .inl gw))]) hP hD [0, 1] [2] rfl rfl (by decide) (by decide) hk1 hFc hP1 hD1
  clear hz1 hk1 hFc hKc hDc hPc
  generalize H1 = H at hP hS ⊢
  have hP : va_P D vwCl [(m2, .inl (cI, 4, .inl gh)), (h0, .inr (9, [.ref m1, .ref m2, .ref m3, .int ik, .int wy, .int op, .int cl, .int cx0, .int cx1, .int cy0, .int cy1, .int ds, .ref m4, .ref m5, .ref m6, .ref m7, .ref m8, .ref m9, .int pn, .ref m10, .ref m11, .ref m12, .ref m13])), (m1, .inl (cI, 4, .inl gw))] H := hP
  have hD : va_D A [(m2, .inl (cI, 4, .inl gh)), (h0, .inr (9, [.ref m1, .ref m2, .ref m3, .int ik, .int wy, .int op, .int cl, .int cx0, .int cx1, .int cy0, .int cy1, .int ds, .ref m4, .ref m5, .ref m6, .ref m7, .ref m8, .ref m9, .int pn, .ref m10, .ref m11, .ref m12, .ref m13])), (m1, .inl (cI, 4, .inl gw))] := hD
  refine lv_if_eq (tgt := 18) hx hb dX9_flood_5 (by decide) (fun c_2 => ?_) (fun c_2 => ?_)
  · skip
    have f_3 := bz0 hr_1 c_2
    refine lv_iconst (v := (-1)) hx hb dX9_flood_18 (by decide) ?_
    have hP9 := hP.sub (ws' := [(h0, .inr (9, [.ref m1, .ref m2, .ref m3, .int ik, .int wy, .int op, .int cl, .int cx0, .int cx1, .int cy0, .int cy1, .int ds, .ref m4, .ref m5, .ref m6, .ref m7, .ref m8, .ref m9, .int pn, .ref m10, .ref m11, .ref m12, .ref m13])), (m1, .inl (cI, 4, .inl gw)), (m2, .inl (cI, 4, .inl gh))]) [1, 2, 0] rfl
    have hD9 := hD.sub (ws' := [(h0, .inr (9, [.ref m1, .ref m2, .ref m3, .int ik, .int wy, .int op, .int cl, .int cx0, .int cx1, .int cy0, .int cy1, .int ds, .ref m4, .ref m5, .ref m6, .ref m7, .ref m8, .ref m9, .int pn, .ref m10, .ref m11, .ref m12, .ref m13])), (m1, .inl (cI, 4, .inl gw)), (m2, .inl (cI, 4, .inl gh))]) [1, 2, 0] (by decide) rfl
    have hK9 := hK.sub (tys' := [(cI, .int)]) [0] rfl
    refine hQ _ _ _ _ _ ?_
    exact W.iret (v := (-1)) hx hb hr (fun t ht hW => ⟨⟨(-1), (), rfl, rfl, ⟨by rw [ht]; exact hP9, va_K.moved hW.alike hK9, hD9⟩⟩, hS.F ht⟩) hS.2.2 dX9_flood_19
  · skip
    have f_3 := bz1 hr_1 c_2
    refine lv_aload_n hx hb dX9_flood_8 rfl (lv_at hl 0 rfl) ?_
    refine lv_iload_n hx hb dX9_flood_9 rfl (lv_at hl 1 rfl) ?_
    refine lv_iload_n hx hb dX9_flood_10 rfl (lv_at hl 2 rfl) ?_
    refine lv_iload_n hx hb dX9_flood_11 rfl (lv_at hl 3 rfl) ?_
    have hPc := hP.sub (ws' := [(h0, .inr (9, [.ref m1, .ref m2, .ref m3, .int ik, .int wy, .int op, .int cl, .int cx0, .int cx1, .int cy0, .int cy1, .int ds, .ref m4, .ref m5, .ref m6, .ref m7, .ref m8, .ref m9, .int pn, .ref m10, .ref m11, .ref m12, .ref m13])), (m1, .inl (cI, 4, .inl gw)), (m2, .inl (cI, 4, .inl gh))]) [1, 2, 0] rfl
    have hDc := hD.sub (ws' := [(h0, .inr (9, [.ref m1, .ref m2, .ref m3, .int ik, .int wy, .int op, .int cl, .int cx0, .int cx1, .int cy0, .int cy1, .int ds, .ref m4, .ref m5, .ref m6, .ref m7, .ref m8, .ref m9, .int pn, .ref m10, .ref m11, .ref m12, .ref m13])), (m1, .inl (cI, 4, .inl gw)), (m2, .inl (cI, 4, .inl gh))]) [1, 2, 0] (by decide) rfl
    have hKc := hK.sub (tys' := [(cI, .int)]) [0] rfl
    have hFc := va_free (wc := [(h0, .inr (9, [.ref m1, .ref m2, .ref m3, .int ik, .int wy, .int op, .int cl, .int cx0, .int cx1, .int cy0, .int cy1, .int ds, .ref m4, .ref m5, .ref m6, .ref m7, .ref m8, .ref m9, .int pn, .ref m10, .ref m11, .ref m12, .ref m13])), (m1, .inl (cI, 4, .inl gw)), (m2, .inl (cI, 4, .inl gh))]) hD hS hA [1, 2, 0] rfl
    refine va_calli (va_runV (As := [.int k, .int x, .int y]) (rest := []) ⟨hx, hb, hml, hown, hts⟩ (k_X9_isOn l D H.size h0 m1 m2 m3 m4 m5 m6 m7 m8 m9 m10 m11 m12 m13 ik wy op cl cx0 cx1 cy0 cy1 ds pn gw gh k x y cI (by omega)) (cwV 3 hts (gV bw_433 bw_418 bw_419 bw_391 bw_417) rfl rfl rfl (by decide +kernel) ⟨(by rw [hR]; exact Nat.le_of_ble_eq_true rfl), (by rw [hR]; exact Nat.le_of_ble_eq_true rfl)⟩) ⟨cP_blind, va_recv hKc hPc (ci := 9) (q0 := 0) rfl rfl, cP_at hPc hKc hDc hN⟩ rfl rfl hl.1 rfl (lv_room (Nat.le_of_ble_eq_true rfl)) dX9_flood_12 ⟨(by rw [hR]; exact Nat.le_of_ble_eq_true rfl), (by rw [hR]; exact Nat.le_of_ble_eq_true rfl)⟩) hS (fun q _ h => hFc q h) hFc (fun r_4 u9 t9 H1 locs ht hvm hr_4 hB hz1 hk1 hS => ?_)
    try dsimp only at hr_4
    obtain ⟨hP1, hK1, hD1⟩ := hB
    rw [ht] at hP1
    obtain ⟨hP, hD⟩ := va_join (wr := []) (w1 := [(h0, .inr (9, [.ref m1, .ref m2, .ref m3, .int ik, .int wy, .int op, .int cl, .int cx0, .int cx1, .int cy0, .int cy1, .int ds, .ref m4, .ref m5, .ref m6, .ref m7, .ref m8, .ref m9, .int pn, .ref m10, .ref m11, .ref m12, .ref m13])), (m1, .inl (cI, 4, .inl gw)), (m2, .inl (cI, 4, .inl gh))]) hP hD [1, 2, 0] [] rfl rfl (by decide) (by decide) hk1 hFc hP1 hD1
    clear hz1 hk1 hFc hKc hDc hPc
    generalize H1 = H at hP hS ⊢
    have hP : va_P D vwCl [(h0, .inr (9, [.ref m1, .ref m2, .ref m3, .int ik, .int wy, .int op, .int cl, .int cx0, .int cx1, .int cy0, .int cy1, .int ds, .ref m4, .ref m5, .ref m6, .ref m7, .ref m8, .ref m9, .int pn, .ref m10, .ref m11, .ref m12, .ref m13])), (m1, .inl (cI, 4, .inl gw)), (m2, .inl (cI, 4, .inl gh))] H := hP
    have hD : va_D A [(h0, .inr (9, [.ref m1, .ref m2, .ref m3, .int ik, .int wy, .int op, .int cl, .int cx0, .int cx1, .int cy0, .int cy1, .int ds, .ref m4, .ref m5, .ref m6, .ref m7, .ref m8, .ref m9, .int pn, .ref m10, .ref m11, .ref m12, .ref m13])), (m1, .inl (cI, 4, .inl gw)), (m2, .inl (cI, 4, .inl gh))] := hD
    refine lv_if_ne (tgt := 20) hx hb dX9_flood_15 (by decide) (fun c_5 => ?_) (fun c_5 => ?_)
    · skip
      have f_6 := bz1 hr_4 c_5
      exact False.elim (by omega)
    · skip
      have f_6 := bz0 hr_4 c_5
      refine lv_iconst (v := (-1)) hx hb dX9_flood_18 (by decide) ?_
      have hP9 := hP.sub (ws' := [(h0, .inr (9, [.ref m1, .ref m2, .ref m3, .int ik, .int wy, .int op, .int cl, .int cx0, .int cx1, .int cy0, .int cy1, .int ds, .ref m4, .ref m5, .ref m6, .ref m7, .ref m8, .ref m9, .int pn, .ref m10, .ref m11, .ref m12, .ref m13])), (m1, .inl (cI, 4, .inl gw)), (m2, .inl (cI, 4, .inl gh))]) [0, 1, 2] rfl
      have hD9 := hD.sub (ws' := [(h0, .inr (9, [.ref m1, .ref m2, .ref m3, .int ik, .int wy, .int op, .int cl, .int cx0, .int cx1, .int cy0, .int cy1, .int ds, .ref m4, .ref m5, .ref m6, .ref m7, .ref m8, .ref m9, .int pn, .ref m10, .ref m11, .ref m12, .ref m13])), (m1, .inl (cI, 4, .inl gw)), (m2, .inl (cI, 4, .inl gh))]) [0, 1, 2] (by decide) rfl
      have hK9 := hK.sub (tys' := [(cI, .int)]) [0] rfl
      refine hQ _ _ _ _ _ ?_
      exact W.iret (v := (-1)) hx hb hr (fun t ht hW => ⟨⟨(-1), (), rfl, rfl, ⟨by rw [ht]; exact hP9, va_K.moved hW.alike hK9, hD9⟩⟩, hS.F ht⟩) hS.2.2 dX9_flood_19

set_option maxHeartbeats 4000000 in
set_option maxRecDepth 100000 in
theorem k_X9_region_ne (l : Launch) (D : va_G) (sz : Nat) (h0 m1 m2 m3 m4 m5 m6 m7 m8 m9 m10 m11 m12 m13 : Nat) (ik wy op cl cx0 cx1 cy0 cy1 ds pn : Int32) (gw : Nat → Int32) (gh : Nat → Int32) (k x y co : Int32) (cI : ClassId) (hns : ¬ ((0 ≤ k.toInt ∧ k.toInt ≤ 3 ∧ 0 < (gw k.toNatClampNeg).toInt) ∧ (0 ≤ x.toInt ∧ x.toInt < (gw k.toNatClampNeg).toInt ∧ 0 ≤ y.toInt ∧ y.toInt < (gh k.toNatClampNeg).toInt))) : Met l yX9_region (wB yX9_region cX9_region 7 (some .int)) ({ frames := 1, cells := 0, slots := 0, locals := 23 }) (cP D [(h0, .inr (9, [.ref m1, .ref m2, .ref m3, .int ik, .int wy, .int op, .int cl, .int cx0, .int cx1, .int cy0, .int cy1, .int ds, .ref m4, .ref m5, .ref m6, .ref m7, .ref m8, .ref m9, .int pn, .ref m10, .ref m11, .ref m12, .ref m13])), (m1, .inl (cI, 4, .inl gw)), (m2, .inl (cI, 4, .inl gh))] [(cI, .int)] sz [.ref h0, .int k, .int x, .int y, .int co]) (va_Qi (fun (r : Int32) (_ : Unit) => r = -1) (fun (_ : Unit) (t : State) => cB D (va_A [(h0, .inr (9, [.ref m1, .ref m2, .ref m3, .int ik, .int wy, .int op, .int cl, .int cx0, .int cx1, .int cy0, .int cy1, .int ds, .ref m4, .ref m5, .ref m6, .ref m7, .ref m8, .ref m9, .int pn, .ref m10, .ref m11, .ref m12, .ref m13])), (m1, .inl (cI, 4, .inl gw)), (m2, .inl (cI, 4, .inl gh))] sz) [(h0, .inr (9, [.ref m1, .ref m2, .ref m3, .int ik, .int wy, .int op, .int cl, .int cx0, .int cx1, .int cy0, .int cy1, .int ds, .ref m4, .ref m5, .ref m6, .ref m7, .ref m8, .ref m9, .int pn, .ref m10, .ref m11, .ref m12, .ref m13])), (m1, .inl (cI, 4, .inl gw)), (m2, .inl (cI, 4, .inl gh))] [(cI, .int)] t) (va_A [(h0, .inr (9, [.ref m1, .ref m2, .ref m3, .int ik, .int wy, .int op, .int cl, .int cx0, .int cx1, .int cy0, .int cy1, .int ds, .ref m4, .ref m5, .ref m6, .ref m7, .ref m8, .ref m9, .int pn, .ref m10, .ref m11, .ref m12, .ref m13])), (m1, .inl (cI, 4, .inl gw)), (m2, .inl (cI, 4, .inl gh))] sz)) 0 0 (va_A [(h0, .inr (9, [.ref m1, .ref m2, .ref m3, .int ik, .int wy, .int op, .int cl, .int cx0, .int cx1, .int cy0, .int cy1, .int ds, .ref m4, .ref m5, .ref m6, .ref m7, .ref m8, .ref m9, .int pn, .ref m10, .ref m11, .ref m12, .ref m13])), (m1, .inl (cI, 4, .inl gw)), (m2, .inl (cI, 4, .inl gh))] sz) := by
  refine Met.ofW (cc := cX9_region) (maxL := 7) (ret := (some .int)) (by decide) rfl ?_
  intro p e s m args below meth c s₁ B hml hv
  obtain ⟨rfl, hsz, hP, hK, hD0, hN⟩ := hv
  have hx := B.exec
  have hb := B.bytes
  have hr := B.returns
  have hts0 := atoms_spec (ws := (wB yX9_region cX9_region 7 (some .int))) B.pre
  have hts : ∀ w ∈ bigW, w.before _ s = true := fun w h => hts0 w (List.mem_cons_of_mem _ h)
  have hown : s.vm.findClass RX9 = some m.cls := findClass_of_methodNamed B.named
  have hlocks := B.notSynchronized
  subst hsz
  have hD := hD0.self (sz := s.heap.size)
  generalize hAe : va_A [(h0, .inr (9, [.ref m1, .ref m2, .ref m3, .int ik, .int wy, .int op, .int cl, .int cx0, .int cx1, .int cy0, .int cy1, .int ds, .ref m4, .ref m5, .ref m6, .ref m7, .ref m8, .ref m9, .int pn, .ref m10, .ref m11, .ref m12, .ref m13])), (m1, .inl (cI, 4, .inl gw)), (m2, .inl (cI, 4, .inl gh))] s.heap.size = A at hD ⊢
  have hA : ∀ q : Nat, s.heap.size ≤ q → A q := fun q h => by rw [← hAe]; exact Or.inr h
  have hS : va_S A s.heap s.heap [] := va_S.rf
  have hP : va_P D vwCl [(h0, .inr (9, [.ref m1, .ref m2, .ref m3, .int ik, .int wy, .int op, .int cl, .int cx0, .int cx1, .int cy0, .int cy1, .int ds, .ref m4, .ref m5, .ref m6, .ref m7, .ref m8, .ref m9, .int pn, .ref m10, .ref m11, .ref m12, .ref m13])), (m1, .inl (cI, 4, .inl gw)), (m2, .inl (cI, 4, .inl gh))] s.heap := hP
  have hl := lv_entry ([.ref h0, .int k, .int x, .int y, .int co]) (n := 7) (Nat.le_of_ble_eq_true rfl)
  rw [lg_entry_eq]
  generalize (lg_sl ([.ref h0, .int k, .int x, .int y, .int co]) ++ List.replicate (7 - (lg_sl ([.ref h0, .int k, .int x, .int y, .int co])).length) Slot.unset).toArray = ls at hl ⊢
  have hl : lv_has ls 7 [(0, .ref h0), (1, .int k), (2, .int x), (3, .int y), (4, .int co)] := hl
  clear hts0 hD0 hAe
  refine my_abs (fun R Q hR hQ => ?_)
  refine lv_aload_n hx hb dX9_region_0 rfl (lv_at hl 0 rfl) ?_
  refine lv_iload_n hx hb dX9_region_1 rfl (lv_at hl 1 rfl) ?_
  have hPc := hP.sub (ws' := [(h0, .inr (9, [.ref m1, .ref m2, .ref m3, .int ik, .int wy, .int op, .int cl, .int cx0, .int cx1, .int cy0, .int cy1, .int ds, .ref m4, .ref m5, .ref m6, .ref m7, .ref m8, .ref m9, .int pn, .ref m10, .ref m11, .ref m12, .ref m13])), (m1, .inl (cI, 4, .inl gw))]) [0, 1] rfl
  have hDc := hD.sub (ws' := [(h0, .inr (9, [.ref m1, .ref m2, .ref m3, .int ik, .int wy, .int op, .int cl, .int cx0, .int cx1, .int cy0, .int cy1, .int ds, .ref m4, .ref m5, .ref m6, .ref m7, .ref m8, .ref m9, .int pn, .ref m10, .ref m11, .ref m12, .ref m13])), (m1, .inl (cI, 4, .inl gw))]) [0, 1] (by decide) rfl
  have hKc := hK.sub (tys' := [(cI, .int)]) [0] rfl
  have hFc := va_free (wc := [(h0, .inr (9, [.ref m1, .ref m2, .ref m3, .int ik, .int wy, .int op, .int cl, .int cx0, .int cx1, .int cy0, .int cy1, .int ds, .ref m4, .ref m5, .ref m6, .ref m7, .ref m8, .ref m9, .int pn, .ref m10, .ref m11, .ref m12, .ref m13])), (m1, .inl (cI, 4, .inl gw))]) hD hS hA [0, 1] rfl
  refine va_calli (va_runV (As := [.int k]) (rest := []) ⟨hx, hb, hml, hown, hts⟩ (k_X9_isSheet l D s.heap.size h0 m1 m2 m3 m4 m5 m6 m7 m8 m9 m10 m11 m12 m13 ik wy op cl cx0 cx1 cy0 cy1 ds pn gw k cI) (cwV 1 hts (gV bw_490 bw_415 bw_416 bw_391 bw_414) rfl rfl rfl (by decide +kernel) ⟨(by rw [hR]; exact Nat.le_of_ble_eq_true rfl), (by rw [hR]; exact Nat.le_of_ble_eq_true rfl)⟩) ⟨cP_blind, va_recv hKc hPc (ci := 9) (q0 := 0) rfl rfl, cP_at hPc hKc hDc hN⟩ rfl rfl hl.1 rfl (lv_room (Nat.le_of_ble_eq_true rfl)) dX9_region_2 ⟨(by rw [hR]; exact Nat.le_of_ble_eq_true rfl), (by rw [hR]; exact Nat.le_of_ble_eq_true rfl)⟩) hS (fun q _ h => hFc q h) hFc (fun r_1 u9 t9 H1 locs ht hvm hr_1 hB hz1 hk1 hS => ?_)
  try dsimp only at hr_1
  obtain ⟨hP1, hK1, hD1⟩ := hB
  rw [ht] at hP1
  obtain ⟨hP, hD⟩ := va_join (wr := [(m2, .inl (cI, 4, .inl gh))]) (w1 := [(h0, .inr (9, [.ref m1, .ref m2, .ref m3, .int ik, .int wy, .int op, .int cl, .int cx0, .int cx1, .int cy0, .int cy1, .int ds, .ref m4, .ref m5, .ref m6, .ref m7, .ref m8, .ref m9, .int pn, .ref m10, .ref m11, .ref m12, .ref m13])), (m1, .inl (cI, 4, .inl gw))]) hP hD [0, 1] [2] rfl rfl (by decide) (by decide) hk1 hFc hP1 hD1
  clear hz1 hk1 hFc hKc hDc hPc
  generalize H1 = H at hP hS ⊢
  have hP : va_P D vwCl [(m2, .inl (cI, 4, .inl gh)), (h0, .inr (9, [.ref m1, .ref m2, .ref m3, .int ik, .int wy, .int op, .int cl, .int cx0, .int cx1, .int cy0, .int cy1, .int ds, .ref m4, .ref m5, .ref m6, .ref m7, .ref m8, .ref m9, .int pn, .ref m10, .ref m11, .ref m12, .ref m13])), (m1, .inl (cI, 4, .inl gw))] H := hP
  have hD : va_D A [(m2, .inl (cI, 4, .inl gh)), (h0, .inr (9, [.ref m1, .ref m2, .ref m3, .int ik, .int wy, .int op, .int cl, .int cx0, .int cx1, .int cy0, .int cy1, .int ds, .ref m4, .ref m5, .ref m6, .ref m7, .ref m8, .ref m9, .int pn, .ref m10, .ref m11, .ref m12, .ref m13])), (m1, .inl (cI, 4, .inl gw))] := hD
  refine lv_if_eq (tgt := 18) hx hb dX9_region_5 (by decide) (fun c_2 => ?_) (fun c_2 => ?_)
  · skip
    have f_3 := bz0 hr_1 c_2
    refine lv_iconst (v := (-1)) hx hb dX9_region_18 (by decide) ?_
    have hP9 := hP.sub (ws' := [(h0, .inr (9, [.ref m1, .ref m2, .ref m3, .int ik, .int wy, .int op, .int cl, .int cx0, .int cx1, .int cy0, .int cy1, .int ds, .ref m4, .ref m5, .ref m6, .ref m7, .ref m8, .ref m9, .int pn, .ref m10, .ref m11, .ref m12, .ref m13])), (m1, .inl (cI, 4, .inl gw)), (m2, .inl (cI, 4, .inl gh))]) [1, 2, 0] rfl
    have hD9 := hD.sub (ws' := [(h0, .inr (9, [.ref m1, .ref m2, .ref m3, .int ik, .int wy, .int op, .int cl, .int cx0, .int cx1, .int cy0, .int cy1, .int ds, .ref m4, .ref m5, .ref m6, .ref m7, .ref m8, .ref m9, .int pn, .ref m10, .ref m11, .ref m12, .ref m13])), (m1, .inl (cI, 4, .inl gw)), (m2, .inl (cI, 4, .inl gh))]) [1, 2, 0] (by decide) rfl
    have hK9 := hK.sub (tys' := [(cI, .int)]) [0] rfl
    refine hQ _ _ _ _ _ ?_
    exact W.iret (v := (-1)) hx hb hr (fun t ht hW => ⟨⟨(-1), (), rfl, rfl, ⟨by rw [ht]; exact hP9, va_K.moved hW.alike hK9, hD9⟩⟩, hS.F ht⟩) hS.2.2 dX9_region_19
  · skip
    have f_3 := bz1 hr_1 c_2
    refine lv_aload_n hx hb dX9_region_8 rfl (lv_at hl 0 rfl) ?_
    refine lv_iload_n hx hb dX9_region_9 rfl (lv_at hl 1 rfl) ?_
    refine lv_iload_n hx hb dX9_region_10 rfl (lv_at hl 2 rfl) ?_
    refine lv_iload_n hx hb dX9_region_11 rfl (lv_at hl 3 rfl) ?_
    have hPc := hP.sub (ws' := [(h0, .inr (9, [.ref m1, .ref m2, .ref m3, .int ik, .int wy, .int op, .int cl, .int cx0, .int cx1, .int cy0, .int cy1, .int ds, .ref m4, .ref m5, .ref m6, .ref m7, .ref m8, .ref m9, .int pn, .ref m10, .ref m11, .ref m12, .ref m13])), (m1, .inl (cI, 4, .inl gw)), (m2, .inl (cI, 4, .inl gh))]) [1, 2, 0] rfl
    have hDc := hD.sub (ws' := [(h0, .inr (9, [.ref m1, .ref m2, .ref m3, .int ik, .int wy, .int op, .int cl, .int cx0, .int cx1, .int cy0, .int cy1, .int ds, .ref m4, .ref m5, .ref m6, .ref m7, .ref m8, .ref m9, .int pn, .ref m10, .ref m11, .ref m12, .ref m13])), (m1, .inl (cI, 4, .inl gw)), (m2, .inl (cI, 4, .inl gh))]) [1, 2, 0] (by decide) rfl
    have hKc := hK.sub (tys' := [(cI, .int)]) [0] rfl
    have hFc := va_free (wc := [(h0, .inr (9, [.ref m1, .ref m2, .ref m3, .int ik, .int wy, .int op, .int cl, .int cx0, .int cx1, .int cy0, .int cy1, .int ds, .ref m4, .ref m5, .ref m6, .ref m7, .ref m8, .ref m9, .int pn, .ref m10, .ref m11, .ref m12, .ref m13])), (m1, .inl (cI, 4, .inl gw)), (m2, .inl (cI, 4, .inl gh))]) hD hS hA [1, 2, 0] rfl
    refine va_calli (va_runV (As := [.int k, .int x, .int y]) (rest := []) ⟨hx, hb, hml, hown, hts⟩ (k_X9_isOn l D H.size h0 m1 m2 m3 m4 m5 m6 m7 m8 m9 m10 m11 m12 m13 ik wy op cl cx0 cx1 cy0 cy1 ds pn gw gh k x y cI (by omega)) (cwV 3 hts (gV bw_433 bw_418 bw_419 bw_391 bw_417) rfl rfl rfl (by decide +kernel) ⟨(by rw [hR]; exact Nat.le_of_ble_eq_true rfl), (by rw [hR]; exact Nat.le_of_ble_eq_true rfl)⟩) ⟨cP_blind, va_recv hKc hPc (ci := 9) (q0 := 0) rfl rfl, cP_at hPc hKc hDc hN⟩ rfl rfl hl.1 rfl (lv_room (Nat.le_of_ble_eq_true rfl)) dX9_region_12 ⟨(by rw [hR]; exact Nat.le_of_ble_eq_true rfl), (by rw [hR]; exact Nat.le_of_ble_eq_true rfl)⟩) hS (fun q _ h => hFc q h) hFc (fun r_4 u9 t9 H1 locs ht hvm hr_4 hB hz1 hk1 hS => ?_)
    try dsimp only at hr_4
    obtain ⟨hP1, hK1, hD1⟩ := hB
    rw [ht] at hP1
    obtain ⟨hP, hD⟩ := va_join (wr := []) (w1 := [(h0, .inr (9, [.ref m1, .ref m2, .ref m3, .int ik, .int wy, .int op, .int cl, .int cx0, .int cx1, .int cy0, .int cy1, .int ds, .ref m4, .ref m5, .ref m6, .ref m7, .ref m8, .ref m9, .int pn, .ref m10, .ref m11, .ref m12, .ref m13])), (m1, .inl (cI, 4, .inl gw)), (m2, .inl (cI, 4, .inl gh))]) hP hD [1, 2, 0] [] rfl rfl (by decide) (by decide) hk1 hFc hP1 hD1
    clear hz1 hk1 hFc hKc hDc hPc
    generalize H1 = H at hP hS ⊢
    have hP : va_P D vwCl [(h0, .inr (9, [.ref m1, .ref m2, .ref m3, .int ik, .int wy, .int op, .int cl, .int cx0, .int cx1, .int cy0, .int cy1, .int ds, .ref m4, .ref m5, .ref m6, .ref m7, .ref m8, .ref m9, .int pn, .ref m10, .ref m11, .ref m12, .ref m13])), (m1, .inl (cI, 4, .inl gw)), (m2, .inl (cI, 4, .inl gh))] H := hP
    have hD : va_D A [(h0, .inr (9, [.ref m1, .ref m2, .ref m3, .int ik, .int wy, .int op, .int cl, .int cx0, .int cx1, .int cy0, .int cy1, .int ds, .ref m4, .ref m5, .ref m6, .ref m7, .ref m8, .ref m9, .int pn, .ref m10, .ref m11, .ref m12, .ref m13])), (m1, .inl (cI, 4, .inl gw)), (m2, .inl (cI, 4, .inl gh))] := hD
    refine lv_if_ne (tgt := 20) hx hb dX9_region_15 (by decide) (fun c_5 => ?_) (fun c_5 => ?_)
    · skip
      have f_6 := bz1 hr_4 c_5
      exact False.elim (by omega)
    · skip
      have f_6 := bz0 hr_4 c_5
      refine lv_iconst (v := (-1)) hx hb dX9_region_18 (by decide) ?_
      have hP9 := hP.sub (ws' := [(h0, .inr (9, [.ref m1, .ref m2, .ref m3, .int ik, .int wy, .int op, .int cl, .int cx0, .int cx1, .int cy0, .int cy1, .int ds, .ref m4, .ref m5, .ref m6, .ref m7, .ref m8, .ref m9, .int pn, .ref m10, .ref m11, .ref m12, .ref m13])), (m1, .inl (cI, 4, .inl gw)), (m2, .inl (cI, 4, .inl gh))]) [0, 1, 2] rfl
      have hD9 := hD.sub (ws' := [(h0, .inr (9, [.ref m1, .ref m2, .ref m3, .int ik, .int wy, .int op, .int cl, .int cx0, .int cx1, .int cy0, .int cy1, .int ds, .ref m4, .ref m5, .ref m6, .ref m7, .ref m8, .ref m9, .int pn, .ref m10, .ref m11, .ref m12, .ref m13])), (m1, .inl (cI, 4, .inl gw)), (m2, .inl (cI, 4, .inl gh))]) [0, 1, 2] (by decide) rfl
      have hK9 := hK.sub (tys' := [(cI, .int)]) [0] rfl
      refine hQ _ _ _ _ _ ?_
      exact W.iret (v := (-1)) hx hb hr (fun t ht hW => ⟨⟨(-1), (), rfl, rfl, ⟨by rw [ht]; exact hP9, va_K.moved hW.alike hK9, hD9⟩⟩, hS.F ht⟩) hS.2.2 dX9_region_19

set_option maxHeartbeats 4000000 in
set_option maxRecDepth 100000 in
theorem k_X9_region_ye (l : Launch) (D : va_G) (sz : Nat) (h0 m1 m2 m3 m4 m5 m6 m7 m8 m9 m10 m11 m12 m13 : Nat) (ik wy op cl cx0 cx1 cy0 cy1 ds pn : Int32) (gw : Nat → Int32) (gh : Nat → Int32) (gd : Nat → Int32) (gm : Nat → Int32) (wt : Nat → Int32) (k x y co : Int32) (cI : ClassId) (cZ : ClassId) (hk : 0 ≤ k.toInt ∧ k.toInt ≤ 3) (hgw : 0 ≤ (gw k.toNatClampNeg).toInt ∧ (gw k.toNatClampNeg).toInt ≤ 64) (hgh : 0 ≤ (gh k.toNatClampNeg).toInt ∧ (gh k.toNatClampNeg).toInt ≤ 64) (hgp : 0 < (gw k.toNatClampNeg).toInt) (hon : 0 ≤ x.toInt ∧ x.toInt < (gw k.toNatClampNeg).toInt ∧ 0 ≤ y.toInt ∧ y.toInt < (gh k.toNatClampNeg).toInt) (hcx : opnJ (gw k.toNatClampNeg) (gh k.toNatClampNeg) cl cx0 cx1 cy0 cy1 0 x y) : Met l yX9_region (wB yX9_region cX9_region 7 (some .int)) ({ frames := 2, cells := 0, slots := 0, locals := 57 }) (cP D [(h0, .inr (9, [.ref m1, .ref m2, .ref m3, .int ik, .int wy, .int op, .int cl, .int cx0, .int cx1, .int cy0, .int cy1, .int ds, .ref m4, .ref m5, .ref m6, .ref m7, .ref m8, .ref m9, .int pn, .ref m10, .ref m11, .ref m12, .ref m13])), (m1, .inl (cI, 4, .inl gw)), (m2, .inl (cI, 4, .inl gh)), (m3, .inl (cI, 16384, .inl gd)), (m4, .inl (cZ, 4096, .inl gm)), (m13, .inl (cI, 4096, .inl wt))] [(cI, .int), (cZ, .boolean)] sz [.ref h0, .int k, .int x, .int y, .int co]) (va_Qi (fun (r : Int32) (_ : Unit) => r = nI (spS (opnJ (gw k.toNatClampNeg) (gh k.toNatClampNeg) cl cx0 cx1 cy0 cy1 0) (fun t => gd (4096 * k.toNatClampNeg + t)) x y co).2.2) (fun (_ : Unit) (t : State) => ∃ (g3 g6 : Nat → Int32), cB D (va_A [(h0, .inr (9, [.ref m1, .ref m2, .ref m3, .int ik, .int wy, .int op, .int cl, .int cx0, .int cx1, .int cy0, .int cy1, .int ds, .ref m4, .ref m5, .ref m6, .ref m7, .ref m8, .ref m9, .int pn, .ref m10, .ref m11, .ref m12, .ref m13])), (m1, .inl (cI, 4, .inl gw)), (m2, .inl (cI, 4, .inl gh)), (m3, .inl (cI, 16384, .inl gd)), (m4, .inl (cZ, 4096, .inl gm)), (m13, .inl (cI, 4096, .inl wt))] sz) [(h0, .inr (9, [.ref m1, .ref m2, .ref m3, .int ik, .int wy, .int op, .int cl, .int cx0, .int cx1, .int cy0, .int cy1, .int ds, .ref m4, .ref m5, .ref m6, .ref m7, .ref m8, .ref m9, .int pn, .ref m10, .ref m11, .ref m12, .ref m13])), (m1, .inl (cI, 4, .inl gw)), (m2, .inl (cI, 4, .inl gh)), (m3, .inl (cI, 16384, .inl gd)), (m4, .inl (cZ, 4096, .inl g3)), (m13, .inl (cI, 4096, .inl g6))] [(cI, .int), (cZ, .boolean)] t) (va_A [(h0, .inr (9, [.ref m1, .ref m2, .ref m3, .int ik, .int wy, .int op, .int cl, .int cx0, .int cx1, .int cy0, .int cy1, .int ds, .ref m4, .ref m5, .ref m6, .ref m7, .ref m8, .ref m9, .int pn, .ref m10, .ref m11, .ref m12, .ref m13])), (m1, .inl (cI, 4, .inl gw)), (m2, .inl (cI, 4, .inl gh)), (m3, .inl (cI, 16384, .inl gd)), (m4, .inl (cZ, 4096, .inl gm)), (m13, .inl (cI, 4096, .inl wt))] sz)) 0 0 (va_A [(h0, .inr (9, [.ref m1, .ref m2, .ref m3, .int ik, .int wy, .int op, .int cl, .int cx0, .int cx1, .int cy0, .int cy1, .int ds, .ref m4, .ref m5, .ref m6, .ref m7, .ref m8, .ref m9, .int pn, .ref m10, .ref m11, .ref m12, .ref m13])), (m1, .inl (cI, 4, .inl gw)), (m2, .inl (cI, 4, .inl gh)), (m3, .inl (cI, 16384, .inl gd)), (m4, .inl (cZ, 4096, .inl gm)), (m13, .inl (cI, 4096, .inl wt))] sz) := by
  refine Met.ofW (cc := cX9_region) (maxL := 7) (ret := (some .int)) (by decide) rfl ?_
  intro p e s m args below meth c s₁ B hml hv
  obtain ⟨rfl, hsz, hP, hK, hD0, hN⟩ := hv
  have hx := B.exec
  have hb := B.bytes
  have hr := B.returns
  have hts0 := atoms_spec (ws := (wB yX9_region cX9_region 7 (some .int))) B.pre
  have hts : ∀ w ∈ bigW, w.before _ s = true := fun w h => hts0 w (List.mem_cons_of_mem _ h)
  have hown : s.vm.findClass RX9 = some m.cls := findClass_of_methodNamed B.named
  have hlocks := B.notSynchronized
  subst hsz
  have hD := hD0.self (sz := s.heap.size)
  generalize hAe : va_A [(h0, .inr (9, [.ref m1, .ref m2, .ref m3, .int ik, .int wy, .int op, .int cl, .int cx0, .int cx1, .int cy0, .int cy1, .int ds, .ref m4, .ref m5, .ref m6, .ref m7, .ref m8, .ref m9, .int pn, .ref m10, .ref m11, .ref m12, .ref m13])), (m1, .inl (cI, 4, .inl gw)), (m2, .inl (cI, 4, .inl gh)), (m3, .inl (cI, 16384, .inl gd)), (m4, .inl (cZ, 4096, .inl gm)), (m13, .inl (cI, 4096, .inl wt))] s.heap.size = A at hD ⊢
  have hA : ∀ q : Nat, s.heap.size ≤ q → A q := fun q h => by rw [← hAe]; exact Or.inr h
  have hS : va_S A s.heap s.heap [] := va_S.rf
  have hP : va_P D vwCl [(h0, .inr (9, [.ref m1, .ref m2, .ref m3, .int ik, .int wy, .int op, .int cl, .int cx0, .int cx1, .int cy0, .int cy1, .int ds, .ref m4, .ref m5, .ref m6, .ref m7, .ref m8, .ref m9, .int pn, .ref m10, .ref m11, .ref m12, .ref m13])), (m1, .inl (cI, 4, .inl gw)), (m2, .inl (cI, 4, .inl gh)), (m3, .inl (cI, 16384, .inl gd)), (m4, .inl (cZ, 4096, .inl gm)), (m13, .inl (cI, 4096, .inl wt))] s.heap := hP
  have hl := lv_entry ([.ref h0, .int k, .int x, .int y, .int co]) (n := 7) (Nat.le_of_ble_eq_true rfl)
  rw [lg_entry_eq]
  generalize (lg_sl ([.ref h0, .int k, .int x, .int y, .int co]) ++ List.replicate (7 - (lg_sl ([.ref h0, .int k, .int x, .int y, .int co])).length) Slot.unset).toArray = ls at hl ⊢
  have hl : lv_has ls 7 [(0, .ref h0), (1, .int k), (2, .int x), (3, .int y), (4, .int co)] := hl
  clear hts0 hD0 hAe
  refine my_abs (fun R Q hR hQ => ?_)
  refine lv_aload_n hx hb dX9_region_0 rfl (lv_at hl 0 rfl) ?_
  refine lv_iload_n hx hb dX9_region_1 rfl (lv_at hl 1 rfl) ?_
  have hPc := hP.sub (ws' := [(h0, .inr (9, [.ref m1, .ref m2, .ref m3, .int ik, .int wy, .int op, .int cl, .int cx0, .int cx1, .int cy0, .int cy1, .int ds, .ref m4, .ref m5, .ref m6, .ref m7, .ref m8, .ref m9, .int pn, .ref m10, .ref m11, .ref m12, .ref m13])), (m1, .inl (cI, 4, .inl gw))]) [0, 1] rfl
  have hDc := hD.sub (ws' := [(h0, .inr (9, [.ref m1, .ref m2, .ref m3, .int ik, .int wy, .int op, .int cl, .int cx0, .int cx1, .int cy0, .int cy1, .int ds, .ref m4, .ref m5, .ref m6, .ref m7, .ref m8, .ref m9, .int pn, .ref m10, .ref m11, .ref m12, .ref m13])), (m1, .inl (cI, 4, .inl gw))]) [0, 1] (by decide) rfl
  have hKc := hK.sub (tys' := [(cI, .int)]) [0] rfl
  have hFc := va_free (wc := [(h0, .inr (9, [.ref m1, .ref m2, .ref m3, .int ik, .int wy, .int op, .int cl, .int cx0, .int cx1, .int cy0, .int cy1, .int ds, .ref m4, .ref m5, .ref m6, .ref m7, .ref m8, .ref m9, .int pn, .ref m10, .ref m11, .ref m12, .ref m13])), (m1, .inl (cI, 4, .inl gw))]) hD hS hA [0, 1] rfl
  refine va_calli (va_runV (As := [.int k]) (rest := []) ⟨hx, hb, hml, hown, hts⟩ (k_X9_isSheet l D s.heap.size h0 m1 m2 m3 m4 m5 m6 m7 m8 m9 m10 m11 m12 m13 ik wy op cl cx0 cx1 cy0 cy1 ds pn gw k cI) (cwV 1 hts (gV bw_490 bw_415 bw_416 bw_391 bw_414) rfl rfl rfl (by decide +kernel) ⟨(by rw [hR]; exact Nat.le_of_ble_eq_true rfl), (by rw [hR]; exact Nat.le_of_ble_eq_true rfl)⟩) ⟨cP_blind, va_recv hKc hPc (ci := 9) (q0 := 0) rfl rfl, cP_at hPc hKc hDc hN⟩ rfl rfl hl.1 rfl (lv_room (Nat.le_of_ble_eq_true rfl)) dX9_region_2 ⟨(by rw [hR]; exact Nat.le_of_ble_eq_true rfl), (by rw [hR]; exact Nat.le_of_ble_eq_true rfl)⟩) hS (fun q _ h => hFc q h) hFc (fun r_1 u9 t9 H1 locs ht hvm hr_1 hB hz1 hk1 hS => ?_)
  try dsimp only at hr_1
  obtain ⟨hP1, hK1, hD1⟩ := hB
  rw [ht] at hP1
  obtain ⟨hP, hD⟩ := va_join (wr := [(m2, .inl (cI, 4, .inl gh)), (m3, .inl (cI, 16384, .inl gd)), (m4, .inl (cZ, 4096, .inl gm)), (m13, .inl (cI, 4096, .inl wt))]) (w1 := [(h0, .inr (9, [.ref m1, .ref m2, .ref m3, .int ik, .int wy, .int op, .int cl, .int cx0, .int cx1, .int cy0, .int cy1, .int ds, .ref m4, .ref m5, .ref m6, .ref m7, .ref m8, .ref m9, .int pn, .ref m10, .ref m11, .ref m12, .ref m13])), (m1, .inl (cI, 4, .inl gw))]) hP hD [0, 1] [2, 3, 4, 5] rfl rfl (by decide) (by decide) hk1 hFc hP1 hD1
  clear hz1 hk1 hFc hKc hDc hPc
  generalize H1 = H at hP hS ⊢
  have hP : va_P D vwCl [(m2, .inl (cI, 4, .inl gh)), (m3, .inl (cI, 16384, .inl gd)), (m4, .inl (cZ, 4096, .inl gm)), (m13, .inl (cI, 4096, .inl wt)), (h0, .inr (9, [.ref m1, .ref m2, .ref m3, .int ik, .int wy, .int op, .int cl, .int cx0, .int cx1, .int cy0, .int cy1, .int ds, .ref m4, .ref m5, .ref m6, .ref m7, .ref m8, .ref m9, .int pn, .ref m10, .ref m11, .ref m12, .ref m13])), (m1, .inl (cI, 4, .inl gw))] H := hP
  have hD : va_D A [(m2, .inl (cI, 4, .inl gh)), (m3, .inl (cI, 16384, .inl gd)), (m4, .inl (cZ, 4096, .inl gm)), (m13, .inl (cI, 4096, .inl wt)), (h0, .inr (9, [.ref m1, .ref m2, .ref m3, .int ik, .int wy, .int op, .int cl, .int cx0, .int cx1, .int cy0, .int cy1, .int ds, .ref m4, .ref m5, .ref m6, .ref m7, .ref m8, .ref m9, .int pn, .ref m10, .ref m11, .ref m12, .ref m13])), (m1, .inl (cI, 4, .inl gw))] := hD
  refine lv_if_eq (tgt := 18) hx hb dX9_region_5 (by decide) (fun c_2 => ?_) (fun c_2 => ?_)
  · skip
    have f_3 := bz0 hr_1 c_2
    exact False.elim (by omega)
  · skip
    have f_3 := bz1 hr_1 c_2
    refine lv_aload_n hx hb dX9_region_8 rfl (lv_at hl 0 rfl) ?_
    refine lv_iload_n hx hb dX9_region_9 rfl (lv_at hl 1 rfl) ?_
    refine lv_iload_n hx hb dX9_region_10 rfl (lv_at hl 2 rfl) ?_
    refine lv_iload_n hx hb dX9_region_11 rfl (lv_at hl 3 rfl) ?_
    have hPc := hP.sub (ws' := [(h0, .inr (9, [.ref m1, .ref m2, .ref m3, .int ik, .int wy, .int op, .int cl, .int cx0, .int cx1, .int cy0, .int cy1, .int ds, .ref m4, .ref m5, .ref m6, .ref m7, .ref m8, .ref m9, .int pn, .ref m10, .ref m11, .ref m12, .ref m13])), (m1, .inl (cI, 4, .inl gw)), (m2, .inl (cI, 4, .inl gh))]) [4, 5, 0] rfl
    have hDc := hD.sub (ws' := [(h0, .inr (9, [.ref m1, .ref m2, .ref m3, .int ik, .int wy, .int op, .int cl, .int cx0, .int cx1, .int cy0, .int cy1, .int ds, .ref m4, .ref m5, .ref m6, .ref m7, .ref m8, .ref m9, .int pn, .ref m10, .ref m11, .ref m12, .ref m13])), (m1, .inl (cI, 4, .inl gw)), (m2, .inl (cI, 4, .inl gh))]) [4, 5, 0] (by decide) rfl
    have hKc := hK.sub (tys' := [(cI, .int)]) [0] rfl
    have hFc := va_free (wc := [(h0, .inr (9, [.ref m1, .ref m2, .ref m3, .int ik, .int wy, .int op, .int cl, .int cx0, .int cx1, .int cy0, .int cy1, .int ds, .ref m4, .ref m5, .ref m6, .ref m7, .ref m8, .ref m9, .int pn, .ref m10, .ref m11, .ref m12, .ref m13])), (m1, .inl (cI, 4, .inl gw)), (m2, .inl (cI, 4, .inl gh))]) hD hS hA [4, 5, 0] rfl
    refine va_calli (va_runV (As := [.int k, .int x, .int y]) (rest := []) ⟨hx, hb, hml, hown, hts⟩ (k_X9_isOn l D H.size h0 m1 m2 m3 m4 m5 m6 m7 m8 m9 m10 m11 m12 m13 ik wy op cl cx0 cx1 cy0 cy1 ds pn gw gh k x y cI (by omega)) (cwV 3 hts (gV bw_433 bw_418 bw_419 bw_391 bw_417) rfl rfl rfl (by decide +kernel) ⟨(by rw [hR]; exact Nat.le_of_ble_eq_true rfl), (by rw [hR]; exact Nat.le_of_ble_eq_true rfl)⟩) ⟨cP_blind, va_recv hKc hPc (ci := 9) (q0 := 0) rfl rfl, cP_at hPc hKc hDc hN⟩ rfl rfl hl.1 rfl (lv_room (Nat.le_of_ble_eq_true rfl)) dX9_region_12 ⟨(by rw [hR]; exact Nat.le_of_ble_eq_true rfl), (by rw [hR]; exact Nat.le_of_ble_eq_true rfl)⟩) hS (fun q _ h => hFc q h) hFc (fun r_4 u9 t9 H1 locs ht hvm hr_4 hB hz1 hk1 hS => ?_)
    try dsimp only at hr_4
    obtain ⟨hP1, hK1, hD1⟩ := hB
    rw [ht] at hP1
    obtain ⟨hP, hD⟩ := va_join (wr := [(m3, .inl (cI, 16384, .inl gd)), (m4, .inl (cZ, 4096, .inl gm)), (m13, .inl (cI, 4096, .inl wt))]) (w1 := [(h0, .inr (9, [.ref m1, .ref m2, .ref m3, .int ik, .int wy, .int op, .int cl, .int cx0, .int cx1, .int cy0, .int cy1, .int ds, .ref m4, .ref m5, .ref m6, .ref m7, .ref m8, .ref m9, .int pn, .ref m10, .ref m11, .ref m12, .ref m13])), (m1, .inl (cI, 4, .inl gw)), (m2, .inl (cI, 4, .inl gh))]) hP hD [4, 5, 0] [1, 2, 3] rfl rfl (by decide) (by decide) hk1 hFc hP1 hD1
    clear hz1 hk1 hFc hKc hDc hPc
    generalize H1 = H at hP hS ⊢
    have hP : va_P D vwCl [(m3, .inl (cI, 16384, .inl gd)), (m4, .inl (cZ, 4096, .inl gm)), (m13, .inl (cI, 4096, .inl wt)), (h0, .inr (9, [.ref m1, .ref m2, .ref m3, .int ik, .int wy, .int op, .int cl, .int cx0, .int cx1, .int cy0, .int cy1, .int ds, .ref m4, .ref m5, .ref m6, .ref m7, .ref m8, .ref m9, .int pn, .ref m10, .ref m11, .ref m12, .ref m13])), (m1, .inl (cI, 4, .inl gw)), (m2, .inl (cI, 4, .inl gh))] H := hP
    have hD : va_D A [(m3, .inl (cI, 16384, .inl gd)), (m4, .inl (cZ, 4096, .inl gm)), (m13, .inl (cI, 4096, .inl wt)), (h0, .inr (9, [.ref m1, .ref m2, .ref m3, .int ik, .int wy, .int op, .int cl, .int cx0, .int cx1, .int cy0, .int cy1, .int ds, .ref m4, .ref m5, .ref m6, .ref m7, .ref m8, .ref m9, .int pn, .ref m10, .ref m11, .ref m12, .ref m13])), (m1, .inl (cI, 4, .inl gw)), (m2, .inl (cI, 4, .inl gh))] := hD
    refine lv_if_ne (tgt := 20) hx hb dX9_region_15 (by decide) (fun c_5 => ?_) (fun c_5 => ?_)
    · skip
      have f_6 := bz1 hr_4 c_5
      refine lv_aload_n hx hb dX9_region_20 rfl (lv_at hl 0 rfl) ?_
      refine lv_iload_n hx hb dX9_region_21 rfl (lv_at hl 1 rfl) ?_
      refine lv_iload_n hx hb dX9_region_22 rfl (lv_at hl 2 rfl) ?_
      refine lv_iload_n hx hb dX9_region_23 rfl (lv_at hl 3 rfl) ?_
      refine lv_iload hx hb dX9_region_24 (lv_at hl 4 rfl) ?_
      refine lv_iconst (v := 0) hx hb dX9_region_26 (by decide) ?_
      have hPc := hP.sub (ws' := [(h0, .inr (9, [.ref m1, .ref m2, .ref m3, .int ik, .int wy, .int op, .int cl, .int cx0, .int cx1, .int cy0, .int cy1, .int ds, .ref m4, .ref m5, .ref m6, .ref m7, .ref m8, .ref m9, .int pn, .ref m10, .ref m11, .ref m12, .ref m13])), (m1, .inl (cI, 4, .inl gw)), (m2, .inl (cI, 4, .inl gh)), (m3, .inl (cI, 16384, .inl gd)), (m4, .inl (cZ, 4096, .inl gm)), (m13, .inl (cI, 4096, .inl wt))]) [3, 4, 5, 0, 1, 2] rfl
      have hDc := hD.sub (ws' := [(h0, .inr (9, [.ref m1, .ref m2, .ref m3, .int ik, .int wy, .int op, .int cl, .int cx0, .int cx1, .int cy0, .int cy1, .int ds, .ref m4, .ref m5, .ref m6, .ref m7, .ref m8, .ref m9, .int pn, .ref m10, .ref m11, .ref m12, .ref m13])), (m1, .inl (cI, 4, .inl gw)), (m2, .inl (cI, 4, .inl gh)), (m3, .inl (cI, 16384, .inl gd)), (m4, .inl (cZ, 4096, .inl gm)), (m13, .inl (cI, 4096, .inl wt))]) [3, 4, 5, 0, 1, 2] (by decide) rfl
      have hKc := hK.sub (tys' := [(cI, .int), (cZ, .boolean)]) [0, 1] rfl
      have hFc := va_free (wc := [(h0, .inr (9, [.ref m1, .ref m2, .ref m3, .int ik, .int wy, .int op, .int cl, .int cx0, .int cx1, .int cy0, .int cy1, .int ds, .ref m4, .ref m5, .ref m6, .ref m7, .ref m8, .ref m9, .int pn, .ref m10, .ref m11, .ref m12, .ref m13])), (m1, .inl (cI, 4, .inl gw)), (m2, .inl (cI, 4, .inl gh)), (m3, .inl (cI, 16384, .inl gd)), (m4, .inl (cZ, 4096, .inl gm)), (m13, .inl (cI, 4096, .inl wt))]) hD hS hA [3, 4, 5, 0, 1, 2] rfl
      refine va_callv (va_runV (As := [.int k, .int x, .int y, .int co, .int 0]) (rest := []) ⟨hx, hb, hml, hown, hts⟩ (k_X9_joins_e l D H.size h0 m1 m2 m3 m4 m5 m6 m7 m8 m9 m10 m11 m12 m13 ik wy op cl cx0 cx1 cy0 cy1 ds pn gw gh gd gm wt k x y co 0 cI cZ (by omega) hgw hgh hon hcx) (cwV 5 hts (gV bw_555 bw_549 bw_550 bw_391 bw_548) rfl rfl rfl (by decide +kernel) ⟨(by rw [hR]; exact Nat.le_of_ble_eq_true rfl), (by rw [hR]; exact Nat.le_of_ble_eq_true rfl)⟩) ⟨cP_blind, va_recv hKc hPc (ci := 9) (q0 := 0) rfl rfl, cP_at hPc hKc hDc hN⟩ rfl rfl hl.1 rfl (lv_room (Nat.le_of_ble_eq_true rfl)) dX9_region_27 ⟨(by rw [hR]; exact Nat.le_of_ble_eq_true rfl), (by rw [hR]; exact Nat.le_of_ble_eq_true rfl)⟩) hS (fun q _ h => hFc q h) hFc (fun u9 t9 H1 locs ht hvm hr_7 hB hz1 hk1 hS => ?_)
      try dsimp only at hr_7
      obtain ⟨g_8, g_9, b_10, b_11, hP1, hK1, hD1⟩ := hB
      rw [ht] at hP1
      obtain ⟨hP, hD⟩ := va_join (wr := []) (w1 := [(h0, .inr (9, [.ref m1, .ref m2, .ref m3, .int ik, .int wy, .int op, .int cl, .int cx0, .int cx1, .int cy0, .int cy1, .int ds, .ref m4, .ref m5, .ref m6, .ref m7, .ref m8, .ref m9, .int pn, .ref m10, .ref m11, .ref m12, .ref m13])), (m1, .inl (cI, 4, .inl gw)), (m2, .inl (cI, 4, .inl gh)), (m3, .inl (cI, 16384, .inl gd)), (m4, .inl (cZ, 4096, .inl g_8)), (m13, .inl (cI, 4096, .inl g_9))]) hP hD [3, 4, 5, 0, 1, 2] [] rfl rfl (by decide) (by decide) hk1 hFc hP1 hD1
      clear hz1 hk1 hFc hKc hDc hPc
      generalize H1 = H at hP hS ⊢
      have hP : va_P D vwCl [(h0, .inr (9, [.ref m1, .ref m2, .ref m3, .int ik, .int wy, .int op, .int cl, .int cx0, .int cx1, .int cy0, .int cy1, .int ds, .ref m4, .ref m5, .ref m6, .ref m7, .ref m8, .ref m9, .int pn, .ref m10, .ref m11, .ref m12, .ref m13])), (m1, .inl (cI, 4, .inl gw)), (m2, .inl (cI, 4, .inl gh)), (m3, .inl (cI, 16384, .inl gd)), (m4, .inl (cZ, 4096, .inl g_8)), (m13, .inl (cI, 4096, .inl g_9))] H := hP
      have hD : va_D A [(h0, .inr (9, [.ref m1, .ref m2, .ref m3, .int ik, .int wy, .int op, .int cl, .int cx0, .int cx1, .int cy0, .int cy1, .int ds, .ref m4, .ref m5, .ref m6, .ref m7, .ref m8, .ref m9, .int pn, .ref m10, .ref m11, .ref m12, .ref m13])), (m1, .inl (cI, 4, .inl gw)), (m2, .inl (cI, 4, .inl gh)), (m3, .inl (cI, 16384, .inl gd)), (m4, .inl (cZ, 4096, .inl g_8)), (m13, .inl (cI, 4096, .inl g_9))] := hD
      refine lv_iconst (v := 0) hx hb dX9_region_30 (by decide) ?_
      refine lv_istore (lv' := [(5, .int 0), (0, .ref h0), (1, .int k), (2, .int x), (3, .int y), (4, .int co)]) hx hb dX9_region_31 hl (by decide) rfl (fun ls hl => ?_)
      refine lv_iconst (v := 0) hx hb dX9_region_33 (by decide) ?_
      refine lv_istore (lv' := [(6, .int 0), (5, .int 0), (0, .ref h0), (1, .int k), (2, .int x), (3, .int y), (4, .int co)]) hx hb dX9_region_34 hl (by decide) rfl (fun ls hl => ?_)
      have loop_12 : ∀ (n : Nat) (i : Nat) (x6 : Int32) (x5 : Int32) (H : Heap) (locs : List Loc) (ls : Array Slot), (i ≤ 4096) → (4096 + 1 ≤ i + n) → (x6 = nI i) → (x5 = nI (cntP g_8 i)) → va_P D vwCl [(h0, .inr (9, [.ref m1, .ref m2, .ref m3, .int ik, .int wy, .int op, .int cl, .int cx0, .int cx1, .int cy0, .int cy1, .int ds, .ref m4, .ref m5, .ref m6, .ref m7, .ref m8, .ref m9, .int pn, .ref m10, .ref m11, .ref m12, .ref m13])), (m1, .inl (cI, 4, .inl gw)), (m2, .inl (cI, 4, .inl gh)), (m3, .inl (cI, 16384, .inl gd)), (m4, .inl (cZ, 4096, .inl g_8)), (m13, .inl (cI, 4096, .inl g_9))] H → va_D A [(h0, .inr (9, [.ref m1, .ref m2, .ref m3, .int ik, .int wy, .int op, .int cl, .int cx0, .int cx1, .int cy0, .int cy1, .int ds, .ref m4, .ref m5, .ref m6, .ref m7, .ref m8, .ref m9, .int pn, .ref m10, .ref m11, .ref m12, .ref m13])), (m1, .inl (cI, 4, .inl gw)), (m2, .inl (cI, 4, .inl gh)), (m3, .inl (cI, 16384, .inl gd)), (m4, .inl (cZ, 4096, .inl g_8)), (m13, .inl (cI, 4096, .inl g_9))] → va_S A s.heap H locs → lv_has ls 7 [(6, .int x6), (5, .int x5), (0, .ref h0), (1, .int k), (2, .int x), (3, .int y), (4, .int co)] → W p l e R s m ([.ref h0, .int k, .int x, .int y, .int co] : List Value).toArray below meth c H locs 0 0 Q (F0 m 36 ls []) := by
        intro n
        induction n with
        | zero =>
          intro i x6 x5 H locs ls hi_i hm_i ex_i et hP hD hS hl
          exact absurd (show False by omega) not_false
        | succ n ih_13 =>
          intro i x6 x5 H locs ls hi_i hm_i ex_i et hP hD hS hl
          have hx_i : x6.toInt = (i : Int) := by rw [ex_i]; exact nI_toInt (by omega)
          have hc_i : x6.toNatClampNeg = i := by rw [ex_i]; exact nI_clamp (by omega)
          refine lv_iload hx hb dX9_region_36 (lv_at hl 0 rfl) ?_
          refine lv_sipush (v := 4096) hx hb dX9_region_38 (by decide) ?_
          refine lv_icmp_ge (tgt := 70) hx hb dX9_region_41 (by decide) (fun c_14 => ?_) (fun c_14 => ?_)
          · skip
            have f_15 : 4096 ≤ (i : Int) := f_le (by decide) hx_i c_14
            refine lv_iload hx hb dX9_region_70 (lv_at hl 1 rfl) ?_
            have hP9 := hP.sub (ws' := [(h0, .inr (9, [.ref m1, .ref m2, .ref m3, .int ik, .int wy, .int op, .int cl, .int cx0, .int cx1, .int cy0, .int cy1, .int ds, .ref m4, .ref m5, .ref m6, .ref m7, .ref m8, .ref m9, .int pn, .ref m10, .ref m11, .ref m12, .ref m13])), (m1, .inl (cI, 4, .inl gw)), (m2, .inl (cI, 4, .inl gh)), (m3, .inl (cI, 16384, .inl gd)), (m4, .inl (cZ, 4096, .inl g_8)), (m13, .inl (cI, 4096, .inl g_9))]) [0, 1, 2, 3, 4, 5] rfl
            have hD9 := hD.sub (ws' := [(h0, .inr (9, [.ref m1, .ref m2, .ref m3, .int ik, .int wy, .int op, .int cl, .int cx0, .int cx1, .int cy0, .int cy1, .int ds, .ref m4, .ref m5, .ref m6, .ref m7, .ref m8, .ref m9, .int pn, .ref m10, .ref m11, .ref m12, .ref m13])), (m1, .inl (cI, 4, .inl gw)), (m2, .inl (cI, 4, .inl gh)), (m3, .inl (cI, 16384, .inl gd)), (m4, .inl (cZ, 4096, .inl g_8)), (m13, .inl (cI, 4096, .inl g_9))]) [0, 1, 2, 3, 4, 5] (by decide) rfl
            have hK9 := hK.sub (tys' := [(cI, .int), (cZ, .boolean)]) [0, 1] rfl
            refine hQ _ _ _ _ _ ?_
            exact W.iret (v := x5) hx hb hr (fun t ht hW => ⟨⟨x5, (), rfl, (by rw [et, show i = 4096 by omega, b_11]), ⟨g_8, g_9, by rw [ht]; exact hP9, va_K.moved hW.alike hK9, hD9⟩⟩, hS.F ht⟩) hS.2.2 dX9_region_72
          · skip
            have f_15 : ¬ (4096 ≤ (i : Int)) := fn_le (by decide) hx_i c_14
            refine lv_iload hx hb dX9_region_44 (lv_at hl 1 rfl) ?_
            refine lv_aload_n hx hb dX9_region_46 rfl (lv_at hl 2 rfl) ?_
            refine va_get (D := D) (ci := 9) (v := .ref m4) (C := RX9) (T := TX9) (N := 23) hx hb hts hi_X9 hown hK hP 0 rfl rfl 12 (by decide) (hts _ bw_404) (fun _ h9 => h9) rfl dX9_region_47 ?_
            refine lv_iload hx hb dX9_region_50 (lv_at hl 0 rfl) ?_
            refine va_zald hx hb hK hP 4 1 rfl rfl (vp_in_iff.mpr ⟨by omega, by omega⟩) dX9_region_52 ?_
            refine my_fold (v := g_8 i) (congrArg g_8 hc_i) ?_
            refine lv_if_eq (tgt := 60) hx hb dX9_region_53 (by decide) (fun c_16 => ?_) (fun c_16 => ?_)
            · skip
              have f_17 : (g_8 i).toInt = 0 := f_eq rfl (by decide) c_16
              refine lv_iconst (v := 0) hx hb dX9_region_60 (by decide) ?_
              refine lv_iadd hx hb dX9_region_61 ?_
              refine lv_topi (fun y_18 ey_18 => ?_)
              refine lv_istore (lv' := [(5, .int y_18), (6, .int x6), (0, .ref h0), (1, .int k), (2, .int x), (3, .int y), (4, .int co)]) hx hb dX9_region_62 hl (by decide) rfl (fun ls hl => ?_)
              obtain ⟨y_19, ey_19⟩ : ∃ y : Int32, y = x6 + 1 := ⟨_, rfl⟩
              refine lv_iinc (v := y_19) (lv' := [(6, .int y_19), (5, .int y_18), (0, .ref h0), (1, .int k), (2, .int x), (3, .int y), (4, .int co)]) hx hb dX9_region_64 hl (k := 1) rfl (by rw [ey_19]; rfl) (by decide) rfl (fun ls hl => ?_)
              refine lv_goto (tgt := 36) hx hb dX9_region_67 (by decide) ?_
              exact ih_13 (i + 1) y_19 y_18 _ _ _ (by omega) (by omega) (by rw [ey_19, ex_i]; exact nI_1 i) (by rw [ey_18, et, cnt_skip c_16, Int32.add_zero]) (hP.sub (ws' := [(h0, .inr (9, [.ref m1, .ref m2, .ref m3, .int ik, .int wy, .int op, .int cl, .int cx0, .int cx1, .int cy0, .int cy1, .int ds, .ref m4, .ref m5, .ref m6, .ref m7, .ref m8, .ref m9, .int pn, .ref m10, .ref m11, .ref m12, .ref m13])), (m1, .inl (cI, 4, .inl gw)), (m2, .inl (cI, 4, .inl gh)), (m3, .inl (cI, 16384, .inl gd)), (m4, .inl (cZ, 4096, .inl g_8)), (m13, .inl (cI, 4096, .inl g_9))]) [0, 1, 2, 3, 4, 5] rfl) (hD.sub (ws' := [(h0, .inr (9, [.ref m1, .ref m2, .ref m3, .int ik, .int wy, .int op, .int cl, .int cx0, .int cx1, .int cy0, .int cy1, .int ds, .ref m4, .ref m5, .ref m6, .ref m7, .ref m8, .ref m9, .int pn, .ref m10, .ref m11, .ref m12, .ref m13])), (m1, .inl (cI, 4, .inl gw)), (m2, .inl (cI, 4, .inl gh)), (m3, .inl (cI, 16384, .inl gd)), (m4, .inl (cZ, 4096, .inl g_8)), (m13, .inl (cI, 4096, .inl g_9))]) [0, 1, 2, 3, 4, 5] (by decide) rfl) hS (lv_sub hl [0, 1, 2, 3, 4, 5, 6] rfl)
            · skip
              have f_17 : ¬ ((g_8 i).toInt = 0) := fn_eq rfl (by decide) c_16
              refine lv_iconst (v := 1) hx hb dX9_region_56 (by decide) ?_
              refine lv_goto (tgt := 61) hx hb dX9_region_57 (by decide) ?_
              refine lv_iadd hx hb dX9_region_61 ?_
              refine lv_topi (fun y_20 ey_20 => ?_)
              refine lv_istore (lv' := [(5, .int y_20), (6, .int x6), (0, .ref h0), (1, .int k), (2, .int x), (3, .int y), (4, .int co)]) hx hb dX9_region_62 hl (by decide) rfl (fun ls hl => ?_)
              obtain ⟨y_21, ey_21⟩ : ∃ y : Int32, y = x6 + 1 := ⟨_, rfl⟩
              refine lv_iinc (v := y_21) (lv' := [(6, .int y_21), (5, .int y_20), (0, .ref h0), (1, .int k), (2, .int x), (3, .int y), (4, .int co)]) hx hb dX9_region_64 hl (k := 1) rfl (by rw [ey_21]; rfl) (by decide) rfl (fun ls hl => ?_)
              refine lv_goto (tgt := 36) hx hb dX9_region_67 (by decide) ?_
              exact ih_13 (i + 1) y_21 y_20 _ _ _ (by omega) (by omega) (by rw [ey_21, ex_i]; exact nI_1 i) (by rw [ey_20, et, cnt_up c_16]; exact nI_1 _) (hP.sub (ws' := [(h0, .inr (9, [.ref m1, .ref m2, .ref m3, .int ik, .int wy, .int op, .int cl, .int cx0, .int cx1, .int cy0, .int cy1, .int ds, .ref m4, .ref m5, .ref m6, .ref m7, .ref m8, .ref m9, .int pn, .ref m10, .ref m11, .ref m12, .ref m13])), (m1, .inl (cI, 4, .inl gw)), (m2, .inl (cI, 4, .inl gh)), (m3, .inl (cI, 16384, .inl gd)), (m4, .inl (cZ, 4096, .inl g_8)), (m13, .inl (cI, 4096, .inl g_9))]) [0, 1, 2, 3, 4, 5] rfl) (hD.sub (ws' := [(h0, .inr (9, [.ref m1, .ref m2, .ref m3, .int ik, .int wy, .int op, .int cl, .int cx0, .int cx1, .int cy0, .int cy1, .int ds, .ref m4, .ref m5, .ref m6, .ref m7, .ref m8, .ref m9, .int pn, .ref m10, .ref m11, .ref m12, .ref m13])), (m1, .inl (cI, 4, .inl gw)), (m2, .inl (cI, 4, .inl gh)), (m3, .inl (cI, 16384, .inl gd)), (m4, .inl (cZ, 4096, .inl g_8)), (m13, .inl (cI, 4096, .inl g_9))]) [0, 1, 2, 3, 4, 5] (by decide) rfl) hS (lv_sub hl [0, 1, 2, 3, 4, 5, 6] rfl)
      exact loop_12 (4096 + 1) 0 0 0 _ _ _ (by omega) (by omega) nI_0.symm rfl hP hD hS (lv_sub hl [0, 1, 2, 3, 4, 5, 6] rfl)
    · skip
      have f_6 := bz0 hr_4 c_5
      exact False.elim (by omega)

set_option maxHeartbeats 4000000 in
set_option maxRecDepth 100000 in
theorem k_X9_count_ye (l : Launch) (D : va_G) (sz : Nat) (h0 m1 m2 m3 m4 m5 m6 m7 m8 m9 m10 m11 m12 m13 : Nat) (ik wy op cl cx0 cx1 cy0 cy1 ds pn : Int32) (gw : Nat → Int32) (gh : Nat → Int32) (gd : Nat → Int32) (k vl : Int32) (cI : ClassId) (hk : 0 ≤ k.toInt ∧ k.toInt ≤ 3) (hgw : 0 ≤ (gw k.toNatClampNeg).toInt ∧ (gw k.toNatClampNeg).toInt ≤ 64) (hgh : 0 ≤ (gh k.toNatClampNeg).toInt ∧ (gh k.toNatClampNeg).toInt ≤ 64) (hgp : 0 < (gw k.toNatClampNeg).toInt) : Met l yX9_count (wB yX9_count cX9_count 6 (some .int)) ({ frames := 1, cells := 0, slots := 0, locals := 22 }) (cP D [(h0, .inr (9, [.ref m1, .ref m2, .ref m3, .int ik, .int wy, .int op, .int cl, .int cx0, .int cx1, .int cy0, .int cy1, .int ds, .ref m4, .ref m5, .ref m6, .ref m7, .ref m8, .ref m9, .int pn, .ref m10, .ref m11, .ref m12, .ref m13])), (m1, .inl (cI, 4, .inl gw)), (m2, .inl (cI, 4, .inl gh)), (m3, .inl (cI, 16384, .inl gd))] [(cI, .int)] sz [.ref h0, .int k, .int vl]) (va_Qi (fun (r : Int32) (_ : Unit) => r = smL (ctF (fun t => gd (4096 * k.toNatClampNeg + t)) vl) (gw k.toNatClampNeg).toNatClampNeg 0 (gh k.toNatClampNeg).toNatClampNeg) (fun (_ : Unit) (t : State) => cB D (va_A [(h0, .inr (9, [.ref m1, .ref m2, .ref m3, .int ik, .int wy, .int op, .int cl, .int cx0, .int cx1, .int cy0, .int cy1, .int ds, .ref m4, .ref m5, .ref m6, .ref m7, .ref m8, .ref m9, .int pn, .ref m10, .ref m11, .ref m12, .ref m13])), (m1, .inl (cI, 4, .inl gw)), (m2, .inl (cI, 4, .inl gh)), (m3, .inl (cI, 16384, .inl gd))] sz) [(h0, .inr (9, [.ref m1, .ref m2, .ref m3, .int ik, .int wy, .int op, .int cl, .int cx0, .int cx1, .int cy0, .int cy1, .int ds, .ref m4, .ref m5, .ref m6, .ref m7, .ref m8, .ref m9, .int pn, .ref m10, .ref m11, .ref m12, .ref m13])), (m1, .inl (cI, 4, .inl gw)), (m2, .inl (cI, 4, .inl gh)), (m3, .inl (cI, 16384, .inl gd))] [(cI, .int)] t) (va_A [(h0, .inr (9, [.ref m1, .ref m2, .ref m3, .int ik, .int wy, .int op, .int cl, .int cx0, .int cx1, .int cy0, .int cy1, .int ds, .ref m4, .ref m5, .ref m6, .ref m7, .ref m8, .ref m9, .int pn, .ref m10, .ref m11, .ref m12, .ref m13])), (m1, .inl (cI, 4, .inl gw)), (m2, .inl (cI, 4, .inl gh)), (m3, .inl (cI, 16384, .inl gd))] sz)) 0 0 (va_A [(h0, .inr (9, [.ref m1, .ref m2, .ref m3, .int ik, .int wy, .int op, .int cl, .int cx0, .int cx1, .int cy0, .int cy1, .int ds, .ref m4, .ref m5, .ref m6, .ref m7, .ref m8, .ref m9, .int pn, .ref m10, .ref m11, .ref m12, .ref m13])), (m1, .inl (cI, 4, .inl gw)), (m2, .inl (cI, 4, .inl gh)), (m3, .inl (cI, 16384, .inl gd))] sz) := by
  refine Met.ofW (cc := cX9_count) (maxL := 6) (ret := (some .int)) (by decide) rfl ?_
  intro p e s m args below meth c s₁ B hml hv
  obtain ⟨rfl, hsz, hP, hK, hD0, hN⟩ := hv
  have hx := B.exec
  have hb := B.bytes
  have hr := B.returns
  have hts0 := atoms_spec (ws := (wB yX9_count cX9_count 6 (some .int))) B.pre
  have hts : ∀ w ∈ bigW, w.before _ s = true := fun w h => hts0 w (List.mem_cons_of_mem _ h)
  have hown : s.vm.findClass RX9 = some m.cls := findClass_of_methodNamed B.named
  have hlocks := B.notSynchronized
  subst hsz
  have hD := hD0.self (sz := s.heap.size)
  generalize hAe : va_A [(h0, .inr (9, [.ref m1, .ref m2, .ref m3, .int ik, .int wy, .int op, .int cl, .int cx0, .int cx1, .int cy0, .int cy1, .int ds, .ref m4, .ref m5, .ref m6, .ref m7, .ref m8, .ref m9, .int pn, .ref m10, .ref m11, .ref m12, .ref m13])), (m1, .inl (cI, 4, .inl gw)), (m2, .inl (cI, 4, .inl gh)), (m3, .inl (cI, 16384, .inl gd))] s.heap.size = A at hD ⊢
  have hA : ∀ q : Nat, s.heap.size ≤ q → A q := fun q h => by rw [← hAe]; exact Or.inr h
  have hS : va_S A s.heap s.heap [] := va_S.rf
  have hP : va_P D vwCl [(h0, .inr (9, [.ref m1, .ref m2, .ref m3, .int ik, .int wy, .int op, .int cl, .int cx0, .int cx1, .int cy0, .int cy1, .int ds, .ref m4, .ref m5, .ref m6, .ref m7, .ref m8, .ref m9, .int pn, .ref m10, .ref m11, .ref m12, .ref m13])), (m1, .inl (cI, 4, .inl gw)), (m2, .inl (cI, 4, .inl gh)), (m3, .inl (cI, 16384, .inl gd))] s.heap := hP
  have hl := lv_entry ([.ref h0, .int k, .int vl]) (n := 6) (Nat.le_of_ble_eq_true rfl)
  rw [lg_entry_eq]
  generalize (lg_sl ([.ref h0, .int k, .int vl]) ++ List.replicate (6 - (lg_sl ([.ref h0, .int k, .int vl])).length) Slot.unset).toArray = ls at hl ⊢
  have hl : lv_has ls 6 [(0, .ref h0), (1, .int k), (2, .int vl)] := hl
  clear hts0 hD0 hAe
  refine my_abs (fun R Q hR hQ => ?_)
  obtain ⟨W9, hW9, eW9⟩ := i_of (x := gw k.toNatClampNeg) (N := 65) (by omega) (by omega) (by decide)
  have eW9n : (gw k.toNatClampNeg).toNatClampNeg = W9 := by rw [eW9]; exact nI_clamp (by omega)
  have hW9t : (gw k.toNatClampNeg).toInt = (W9 : Int) := by rw [eW9]; exact nI_toInt (by omega)
  obtain ⟨H9, hH9, eH9⟩ := i_of (x := gh k.toNatClampNeg) (N := 65) (by omega) (by omega) (by decide)
  have eH9n : (gh k.toNatClampNeg).toNatClampNeg = H9 := by rw [eH9]; exact nI_clamp (by omega)
  have hH9t : (gh k.toNatClampNeg).toInt = (H9 : Int) := by rw [eH9]; exact nI_toInt (by omega)
  refine lv_aload_n hx hb dX9_count_0 rfl (lv_at hl 0 rfl) ?_
  refine lv_iload_n hx hb dX9_count_1 rfl (lv_at hl 1 rfl) ?_
  have hPc := hP.sub (ws' := [(h0, .inr (9, [.ref m1, .ref m2, .ref m3, .int ik, .int wy, .int op, .int cl, .int cx0, .int cx1, .int cy0, .int cy1, .int ds, .ref m4, .ref m5, .ref m6, .ref m7, .ref m8, .ref m9, .int pn, .ref m10, .ref m11, .ref m12, .ref m13])), (m1, .inl (cI, 4, .inl gw))]) [0, 1] rfl
  have hDc := hD.sub (ws' := [(h0, .inr (9, [.ref m1, .ref m2, .ref m3, .int ik, .int wy, .int op, .int cl, .int cx0, .int cx1, .int cy0, .int cy1, .int ds, .ref m4, .ref m5, .ref m6, .ref m7, .ref m8, .ref m9, .int pn, .ref m10, .ref m11, .ref m12, .ref m13])), (m1, .inl (cI, 4, .inl gw))]) [0, 1] (by decide) rfl
  have hKc := hK.sub (tys' := [(cI, .int)]) [0] rfl
  have hFc := va_free (wc := [(h0, .inr (9, [.ref m1, .ref m2, .ref m3, .int ik, .int wy, .int op, .int cl, .int cx0, .int cx1, .int cy0, .int cy1, .int ds, .ref m4, .ref m5, .ref m6, .ref m7, .ref m8, .ref m9, .int pn, .ref m10, .ref m11, .ref m12, .ref m13])), (m1, .inl (cI, 4, .inl gw))]) hD hS hA [0, 1] rfl
  refine va_calli (va_runV (As := [.int k]) (rest := []) ⟨hx, hb, hml, hown, hts⟩ (k_X9_isSheet l D s.heap.size h0 m1 m2 m3 m4 m5 m6 m7 m8 m9 m10 m11 m12 m13 ik wy op cl cx0 cx1 cy0 cy1 ds pn gw k cI) (cwV 1 hts (gV bw_490 bw_415 bw_416 bw_391 bw_414) rfl rfl rfl (by decide +kernel) ⟨(by rw [hR]; exact Nat.le_of_ble_eq_true rfl), (by rw [hR]; exact Nat.le_of_ble_eq_true rfl)⟩) ⟨cP_blind, va_recv hKc hPc (ci := 9) (q0 := 0) rfl rfl, cP_at hPc hKc hDc hN⟩ rfl rfl hl.1 rfl (lv_room (Nat.le_of_ble_eq_true rfl)) dX9_count_2 ⟨(by rw [hR]; exact Nat.le_of_ble_eq_true rfl), (by rw [hR]; exact Nat.le_of_ble_eq_true rfl)⟩) hS (fun q _ h => hFc q h) hFc (fun r_1 u9 t9 H1 locs ht hvm hr_1 hB hz1 hk1 hS => ?_)
  try dsimp only at hr_1
  obtain ⟨hP1, hK1, hD1⟩ := hB
  rw [ht] at hP1
  obtain ⟨hP, hD⟩ := va_join (wr := [(m2, .inl (cI, 4, .inl gh)), (m3, .inl (cI, 16384, .inl gd))]) (w1 := [(h0, .inr (9, [.ref m1, .ref m2, .ref m3, .int ik, .int wy, .int op, .int cl, .int cx0, .int cx1, .int cy0, .int cy1, .int ds, .ref m4, .ref m5, .ref m6, .ref m7, .ref m8, .ref m9, .int pn, .ref m10, .ref m11, .ref m12, .ref m13])), (m1, .inl (cI, 4, .inl gw))]) hP hD [0, 1] [2, 3] rfl rfl (by decide) (by decide) hk1 hFc hP1 hD1
  clear hz1 hk1 hFc hKc hDc hPc
  generalize H1 = H at hP hS ⊢
  have hP : va_P D vwCl [(m2, .inl (cI, 4, .inl gh)), (m3, .inl (cI, 16384, .inl gd)), (h0, .inr (9, [.ref m1, .ref m2, .ref m3, .int ik, .int wy, .int op, .int cl, .int cx0, .int cx1, .int cy0, .int cy1, .int ds, .ref m4, .ref m5, .ref m6, .ref m7, .ref m8, .ref m9, .int pn, .ref m10, .ref m11, .ref m12, .ref m13])), (m1, .inl (cI, 4, .inl gw))] H := hP
  have hD : va_D A [(m2, .inl (cI, 4, .inl gh)), (m3, .inl (cI, 16384, .inl gd)), (h0, .inr (9, [.ref m1, .ref m2, .ref m3, .int ik, .int wy, .int op, .int cl, .int cx0, .int cx1, .int cy0, .int cy1, .int ds, .ref m4, .ref m5, .ref m6, .ref m7, .ref m8, .ref m9, .int pn, .ref m10, .ref m11, .ref m12, .ref m13])), (m1, .inl (cI, 4, .inl gw))] := hD
  refine lv_if_ne (tgt := 10) hx hb dX9_count_5 (by decide) (fun c_2 => ?_) (fun c_2 => ?_)
  · skip
    have f_3 := bz1 hr_1 c_2
    refine lv_iconst (v := 0) hx hb dX9_count_10 (by decide) ?_
    refine lv_istore_n (lv' := [(3, .int 0), (0, .ref h0), (1, .int k), (2, .int vl)]) hx hb dX9_count_11 rfl hl (by decide) rfl (fun ls hl => ?_)
    refine lv_iconst (v := 0) hx hb dX9_count_12 (by decide) ?_
    refine lv_istore (lv' := [(4, .int 0), (3, .int 0), (0, .ref h0), (1, .int k), (2, .int vl)]) hx hb dX9_count_13 hl (by decide) rfl (fun ls hl => ?_)
    have loop_4 : ∀ (n : Nat) (j : Nat) (x4 : Int32) (x3 : Int32) (H : Heap) (locs : List Loc) (ls : Array Slot), (j ≤ 64) → (64 + 1 ≤ j + n) → (x4 = nI j) → (j ≤ H9) → (x3 = smL (ctF (fun t => gd (4096 * k.toNatClampNeg + t)) vl) W9 0 j) → va_P D vwCl [(m2, .inl (cI, 4, .inl gh)), (m3, .inl (cI, 16384, .inl gd)), (h0, .inr (9, [.ref m1, .ref m2, .ref m3, .int ik, .int wy, .int op, .int cl, .int cx0, .int cx1, .int cy0, .int cy1, .int ds, .ref m4, .ref m5, .ref m6, .ref m7, .ref m8, .ref m9, .int pn, .ref m10, .ref m11, .ref m12, .ref m13])), (m1, .inl (cI, 4, .inl gw))] H → va_D A [(m2, .inl (cI, 4, .inl gh)), (m3, .inl (cI, 16384, .inl gd)), (h0, .inr (9, [.ref m1, .ref m2, .ref m3, .int ik, .int wy, .int op, .int cl, .int cx0, .int cx1, .int cy0, .int cy1, .int ds, .ref m4, .ref m5, .ref m6, .ref m7, .ref m8, .ref m9, .int pn, .ref m10, .ref m11, .ref m12, .ref m13])), (m1, .inl (cI, 4, .inl gw))] → va_S A s.heap H locs → lv_has ls 6 [(4, .int x4), (3, .int x3), (0, .ref h0), (1, .int k), (2, .int vl)] → W p l e R s m ([.ref h0, .int k, .int vl] : List Value).toArray below meth c H locs 0 0 Q (F0 m 15 ls []) := by
      intro n
      induction n with
      | zero =>
        intro j x4 x3 H locs ls hi_j hm_j ex_j hjo eto hP hD hS hl
        exact absurd (show False by omega) not_false
      | succ n ih_5 =>
        intro j x4 x3 H locs ls hi_j hm_j ex_j hjo eto hP hD hS hl
        have hx_j : x4.toInt = (j : Int) := by rw [ex_j]; exact nI_toInt (by omega)
        have hc_j : x4.toNatClampNeg = j := by rw [ex_j]; exact nI_clamp (by omega)
        refine lv_iload hx hb dX9_count_15 (lv_at hl 0 rfl) ?_
        refine lv_aload_n hx hb dX9_count_17 rfl (lv_at hl 2 rfl) ?_
        refine va_get (D := D) (ci := 9) (v := .ref m2) (C := RX9) (T := TX9) (N := 23) hx hb hts hi_X9 hown hK hP 2 rfl rfl 1 (by decide) (hts _ bw_397) (fun _ h9 => h9) rfl dX9_count_18 ?_
        refine lv_iload_n hx hb dX9_count_21 rfl (lv_at hl 3 rfl) ?_
        refine va_iald hx hb hK hP 0 0 rfl rfl (vp_in_iff.mpr ⟨by omega, by omega⟩) dX9_count_22 ?_
        refine lv_icmp_ge (tgt := 77) hx hb dX9_count_23 (by decide) (fun c_6 => ?_) (fun c_6 => ?_)
        · skip
          have f_7 : (gh k.toNatClampNeg).toInt ≤ (j : Int) := f_le rfl hx_j c_6
          refine lv_iload_n hx hb dX9_count_77 rfl (lv_at hl 1 rfl) ?_
          have hP9 := hP.sub (ws' := [(h0, .inr (9, [.ref m1, .ref m2, .ref m3, .int ik, .int wy, .int op, .int cl, .int cx0, .int cx1, .int cy0, .int cy1, .int ds, .ref m4, .ref m5, .ref m6, .ref m7, .ref m8, .ref m9, .int pn, .ref m10, .ref m11, .ref m12, .ref m13])), (m1, .inl (cI, 4, .inl gw)), (m2, .inl (cI, 4, .inl gh)), (m3, .inl (cI, 16384, .inl gd))]) [2, 3, 0, 1] rfl
          have hD9 := hD.sub (ws' := [(h0, .inr (9, [.ref m1, .ref m2, .ref m3, .int ik, .int wy, .int op, .int cl, .int cx0, .int cx1, .int cy0, .int cy1, .int ds, .ref m4, .ref m5, .ref m6, .ref m7, .ref m8, .ref m9, .int pn, .ref m10, .ref m11, .ref m12, .ref m13])), (m1, .inl (cI, 4, .inl gw)), (m2, .inl (cI, 4, .inl gh)), (m3, .inl (cI, 16384, .inl gd))]) [2, 3, 0, 1] (by decide) rfl
          have hK9 := hK.sub (tys' := [(cI, .int)]) [0] rfl
          refine hQ _ _ _ _ _ ?_
          exact W.iret (v := x3) hx hb hr (fun t ht hW => ⟨⟨x3, (), rfl, (by rw [eW9n, eH9n, ← show j = H9 by omega]; exact eto), ⟨by rw [ht]; exact hP9, va_K.moved hW.alike hK9, hD9⟩⟩, hS.F ht⟩) hS.2.2 dX9_count_78
        · skip
          have f_7 : ¬ ((gh k.toNatClampNeg).toInt ≤ (j : Int)) := fn_le rfl hx_j c_6
          refine lv_iconst (v := 0) hx hb dX9_count_26 (by decide) ?_
          refine lv_istore (lv' := [(5, .int 0), (4, .int x4), (3, .int x3), (0, .ref h0), (1, .int k), (2, .int vl)]) hx hb dX9_count_27 hl (by decide) rfl (fun ls hl => ?_)
          have loop_8 : ∀ (n : Nat) (i : Nat) (x5 : Int32) (z3 : Int32) (H : Heap) (locs : List Loc) (ls : Array Slot), (i ≤ 64) → (64 + 1 ≤ i + n) → (x5 = nI i) → (i ≤ W9) → (z3 = smR (ctF (fun t => gd (4096 * k.toNatClampNeg + t)) vl) j (smL (ctF (fun t => gd (4096 * k.toNatClampNeg + t)) vl) W9 0 j) i) → va_P D vwCl [(m2, .inl (cI, 4, .inl gh)), (m3, .inl (cI, 16384, .inl gd)), (h0, .inr (9, [.ref m1, .ref m2, .ref m3, .int ik, .int wy, .int op, .int cl, .int cx0, .int cx1, .int cy0, .int cy1, .int ds, .ref m4, .ref m5, .ref m6, .ref m7, .ref m8, .ref m9, .int pn, .ref m10, .ref m11, .ref m12, .ref m13])), (m1, .inl (cI, 4, .inl gw))] H → va_D A [(m2, .inl (cI, 4, .inl gh)), (m3, .inl (cI, 16384, .inl gd)), (h0, .inr (9, [.ref m1, .ref m2, .ref m3, .int ik, .int wy, .int op, .int cl, .int cx0, .int cx1, .int cy0, .int cy1, .int ds, .ref m4, .ref m5, .ref m6, .ref m7, .ref m8, .ref m9, .int pn, .ref m10, .ref m11, .ref m12, .ref m13])), (m1, .inl (cI, 4, .inl gw))] → va_S A s.heap H locs → lv_has ls 6 [(5, .int x5), (4, .int x4), (3, .int z3), (0, .ref h0), (1, .int k), (2, .int vl)] → W p l e R s m ([.ref h0, .int k, .int vl] : List Value).toArray below meth c H locs 0 0 Q (F0 m 29 ls []) := by
            intro n
            induction n with
            | zero =>
              intro i x5 z3 H locs ls hi_i hm_i ex_i hio eti hP hD hS hl
              exact absurd (show False by omega) not_false
            | succ n ih_9 =>
              intro i x5 z3 H locs ls hi_i hm_i ex_i hio eti hP hD hS hl
              have hx_i : x5.toInt = (i : Int) := by rw [ex_i]; exact nI_toInt (by omega)
              have hc_i : x5.toNatClampNeg = i := by rw [ex_i]; exact nI_clamp (by omega)
              refine lv_iload hx hb dX9_count_29 (lv_at hl 0 rfl) ?_
              refine lv_aload_n hx hb dX9_count_31 rfl (lv_at hl 3 rfl) ?_
              refine va_get (D := D) (ci := 9) (v := .ref m1) (C := RX9) (T := TX9) (N := 23) hx hb hts hi_X9 hown hK hP 2 rfl rfl 0 (by decide) (hts _ bw_396) (fun _ h9 => h9) rfl dX9_count_32 ?_
              refine lv_iload_n hx hb dX9_count_35 rfl (lv_at hl 4 rfl) ?_
              refine va_iald hx hb hK hP 3 0 rfl rfl (vp_in_iff.mpr ⟨by omega, by omega⟩) dX9_count_36 ?_
              refine lv_icmp_ge (tgt := 71) hx hb dX9_count_37 (by decide) (fun c_10 => ?_) (fun c_10 => ?_)
              · skip
                have f_11 : (gw k.toNatClampNeg).toInt ≤ (i : Int) := f_le rfl hx_i c_10
                obtain ⟨y_12, ey_12⟩ : ∃ y : Int32, y = x4 + 1 := ⟨_, rfl⟩
                refine lv_iinc (v := y_12) (lv' := [(4, .int y_12), (5, .int x5), (3, .int z3), (0, .ref h0), (1, .int k), (2, .int vl)]) hx hb dX9_count_71 hl (k := 1) rfl (by rw [ey_12]; rfl) (by decide) rfl (fun ls hl => ?_)
                refine lv_goto (tgt := 15) hx hb dX9_count_74 (by decide) ?_
                exact ih_5 (j + 1) y_12 z3 _ _ _ (by omega) (by omega) (by rw [ey_12, ex_j]; exact nI_1 j) (by omega) (sm_nx eti (by omega)) (hP.sub (ws' := [(m2, .inl (cI, 4, .inl gh)), (m3, .inl (cI, 16384, .inl gd)), (h0, .inr (9, [.ref m1, .ref m2, .ref m3, .int ik, .int wy, .int op, .int cl, .int cx0, .int cx1, .int cy0, .int cy1, .int ds, .ref m4, .ref m5, .ref m6, .ref m7, .ref m8, .ref m9, .int pn, .ref m10, .ref m11, .ref m12, .ref m13])), (m1, .inl (cI, 4, .inl gw))]) [0, 1, 2, 3] rfl) (hD.sub (ws' := [(m2, .inl (cI, 4, .inl gh)), (m3, .inl (cI, 16384, .inl gd)), (h0, .inr (9, [.ref m1, .ref m2, .ref m3, .int ik, .int wy, .int op, .int cl, .int cx0, .int cx1, .int cy0, .int cy1, .int ds, .ref m4, .ref m5, .ref m6, .ref m7, .ref m8, .ref m9, .int pn, .ref m10, .ref m11, .ref m12, .ref m13])), (m1, .inl (cI, 4, .inl gw))]) [0, 1, 2, 3] (by decide) rfl) hS (lv_sub hl [0, 2, 3, 4, 5] rfl)
              · skip
                have f_11 : ¬ ((gw k.toNatClampNeg).toInt ≤ (i : Int)) := fn_le rfl hx_i c_10
                refine lv_iload_n hx hb dX9_count_40 rfl (lv_at hl 2 rfl) ?_
                refine lv_aload_n hx hb dX9_count_41 rfl (lv_at hl 3 rfl) ?_
                refine va_get (D := D) (ci := 9) (v := .ref m3) (C := RX9) (T := TX9) (N := 23) hx hb hts hi_X9 hown hK hP 2 rfl rfl 2 (by decide) (hts _ bw_398) (fun _ h9 => h9) rfl dX9_count_42 ?_
                refine lv_iload_n hx hb dX9_count_45 rfl (lv_at hl 4 rfl) ?_
                refine lv_iload hx hb dX9_count_46 (lv_at hl 0 rfl) ?_
                refine lv_iload hx hb dX9_count_48 (lv_at hl 1 rfl) ?_
                have hPc := hP.sub (ws' := []) [] rfl
                have hDc := hD.sub (ws' := []) [] (by decide) rfl
                have hKc := hK.sub (tys' := []) [] rfl
                have hFc := va_free (wc := []) hD hS hA [] rfl
                refine va_calli (va_runS (As := [.int k, .int x5, .int x4]) (rest := [.ref m3, .int z3]) ⟨hx, hb, hml, hown, hts⟩ (k_X9_spot l D H.size k x5 x4) (va_cwS 3 hts (gS bw_551 bw_421 bw_391 bw_420) rfl rfl rfl (by decide +kernel) ⟨(by rw [hR]; exact Nat.le_of_ble_eq_true rfl), (by rw [hR]; exact Nat.le_of_ble_eq_true rfl)⟩) ⟨cP_blind, cP_at hPc hKc hDc hN⟩ rfl rfl hl.1 rfl (lv_room (Nat.le_of_ble_eq_true rfl)) dX9_count_50 ⟨(by rw [hR]; exact Nat.le_of_ble_eq_true rfl), (by rw [hR]; exact Nat.le_of_ble_eq_true rfl)⟩) hS (fun q _ h => hFc q h) hFc (fun r_13 u9 t9 H1 locs ht hvm hr_13 hB hz1 hk1 hS => ?_)
                try dsimp only at hr_13
                have hP1 : va_P D vwCl [] H1 := vP_nil
                have hD1 : va_D (va_A [] H.size) [] := vD_nil
                obtain ⟨hP, hD⟩ := va_join (wr := [(m2, .inl (cI, 4, .inl gh)), (m3, .inl (cI, 16384, .inl gd)), (h0, .inr (9, [.ref m1, .ref m2, .ref m3, .int ik, .int wy, .int op, .int cl, .int cx0, .int cx1, .int cy0, .int cy1, .int ds, .ref m4, .ref m5, .ref m6, .ref m7, .ref m8, .ref m9, .int pn, .ref m10, .ref m11, .ref m12, .ref m13])), (m1, .inl (cI, 4, .inl gw))]) (w1 := []) hP hD [] [0, 1, 2, 3] rfl rfl (by decide) (by decide) hk1 hFc hP1 hD1
                clear hz1 hk1 hFc hKc hDc hPc
                generalize H1 = H at hP hS ⊢
                have hP : va_P D vwCl [(m2, .inl (cI, 4, .inl gh)), (m3, .inl (cI, 16384, .inl gd)), (h0, .inr (9, [.ref m1, .ref m2, .ref m3, .int ik, .int wy, .int op, .int cl, .int cx0, .int cx1, .int cy0, .int cy1, .int ds, .ref m4, .ref m5, .ref m6, .ref m7, .ref m8, .ref m9, .int pn, .ref m10, .ref m11, .ref m12, .ref m13])), (m1, .inl (cI, 4, .inl gw))] H := hP
                have hD : va_D A [(m2, .inl (cI, 4, .inl gh)), (m3, .inl (cI, 16384, .inl gd)), (h0, .inr (9, [.ref m1, .ref m2, .ref m3, .int ik, .int wy, .int op, .int cl, .int cx0, .int cx1, .int cy0, .int cy1, .int ds, .ref m4, .ref m5, .ref m6, .ref m7, .ref m8, .ref m9, .int pn, .ref m10, .ref m11, .ref m12, .ref m13])), (m1, .inl (cI, 4, .inl gw))] := hD
                refine va_iald hx hb hK hP 1 0 rfl rfl (by rw [hr_13]; exact sp_in (by omega) (by omega) (by omega) (by omega) (by omega) (by omega)) dX9_count_53 ?_
                refine my_fold (v := gd (4096 * k.toNatClampNeg + ixP (nI i) (nI j))) (congrArg gd (by rw [hr_13, sp_cl (by omega) (by omega) (by omega) (by omega) (by omega) (by omega), ex_i, ex_j])) ?_
                refine lv_iload_n hx hb dX9_count_54 rfl (lv_at hl 5 rfl) ?_
                refine lv_icmp_ne (tgt := 62) hx hb dX9_count_55 (by decide) (fun c_14 => ?_) (fun c_14 => ?_)
                · skip
                  have f_15 : ¬ ((gd (4096 * k.toNatClampNeg + ixP (nI i) (nI j))).toInt = vl.toInt) := fn_eq rfl rfl c_14
                  refine lv_iconst (v := 0) hx hb dX9_count_62 (by decide) ?_
                  refine lv_iadd hx hb dX9_count_63 ?_
                  refine lv_topi (fun y_16 ey_16 => ?_)
                  refine lv_istore_n (lv' := [(3, .int y_16), (5, .int x5), (4, .int x4), (0, .ref h0), (1, .int k), (2, .int vl)]) hx hb dX9_count_64 rfl hl (by decide) rfl (fun ls hl => ?_)
                  obtain ⟨y_17, ey_17⟩ : ∃ y : Int32, y = x5 + 1 := ⟨_, rfl⟩
                  refine lv_iinc (v := y_17) (lv' := [(5, .int y_17), (3, .int y_16), (4, .int x4), (0, .ref h0), (1, .int k), (2, .int vl)]) hx hb dX9_count_65 hl (k := 1) rfl (by rw [ey_17]; rfl) (by decide) rfl (fun ls hl => ?_)
                  refine lv_goto (tgt := 29) hx hb dX9_count_68 (by decide) ?_
                  exact ih_9 (i + 1) y_17 y_16 _ _ _ (by omega) (by omega) (by rw [ey_17, ex_i]; exact nI_1 i) (by omega) (by rw [ey_16, Int32.add_zero, eti]; exact (ct_n (g := (fun t => gd (4096 * k.toNatClampNeg + t))) c_14).symm) (hP.sub (ws' := [(m2, .inl (cI, 4, .inl gh)), (m3, .inl (cI, 16384, .inl gd)), (h0, .inr (9, [.ref m1, .ref m2, .ref m3, .int ik, .int wy, .int op, .int cl, .int cx0, .int cx1, .int cy0, .int cy1, .int ds, .ref m4, .ref m5, .ref m6, .ref m7, .ref m8, .ref m9, .int pn, .ref m10, .ref m11, .ref m12, .ref m13])), (m1, .inl (cI, 4, .inl gw))]) [0, 1, 2, 3] rfl) (hD.sub (ws' := [(m2, .inl (cI, 4, .inl gh)), (m3, .inl (cI, 16384, .inl gd)), (h0, .inr (9, [.ref m1, .ref m2, .ref m3, .int ik, .int wy, .int op, .int cl, .int cx0, .int cx1, .int cy0, .int cy1, .int ds, .ref m4, .ref m5, .ref m6, .ref m7, .ref m8, .ref m9, .int pn, .ref m10, .ref m11, .ref m12, .ref m13])), (m1, .inl (cI, 4, .inl gw))]) [0, 1, 2, 3] (by decide) rfl) hS (lv_sub hl [0, 2, 1, 3, 4, 5] rfl)
                · skip
                  have f_15 : (gd (4096 * k.toNatClampNeg + ixP (nI i) (nI j))).toInt = vl.toInt := f_eq rfl rfl c_14
                  refine lv_iconst (v := 1) hx hb dX9_count_58 (by decide) ?_
                  refine lv_goto (tgt := 63) hx hb dX9_count_59 (by decide) ?_
                  refine lv_iadd hx hb dX9_count_63 ?_
                  refine lv_topi (fun y_18 ey_18 => ?_)
                  refine lv_istore_n (lv' := [(3, .int y_18), (5, .int x5), (4, .int x4), (0, .ref h0), (1, .int k), (2, .int vl)]) hx hb dX9_count_64 rfl hl (by decide) rfl (fun ls hl => ?_)
                  obtain ⟨y_19, ey_19⟩ : ∃ y : Int32, y = x5 + 1 := ⟨_, rfl⟩
                  refine lv_iinc (v := y_19) (lv' := [(5, .int y_19), (3, .int y_18), (4, .int x4), (0, .ref h0), (1, .int k), (2, .int vl)]) hx hb dX9_count_65 hl (k := 1) rfl (by rw [ey_19]; rfl) (by decide) rfl (fun ls hl => ?_)
                  refine lv_goto (tgt := 29) hx hb dX9_count_68 (by decide) ?_
                  exact ih_9 (i + 1) y_19 y_18 _ _ _ (by omega) (by omega) (by rw [ey_19, ex_i]; exact nI_1 i) (by omega) (by rw [ey_18, eti]; exact (ct_y (g := (fun t => gd (4096 * k.toNatClampNeg + t))) c_14).symm) (hP.sub (ws' := [(m2, .inl (cI, 4, .inl gh)), (m3, .inl (cI, 16384, .inl gd)), (h0, .inr (9, [.ref m1, .ref m2, .ref m3, .int ik, .int wy, .int op, .int cl, .int cx0, .int cx1, .int cy0, .int cy1, .int ds, .ref m4, .ref m5, .ref m6, .ref m7, .ref m8, .ref m9, .int pn, .ref m10, .ref m11, .ref m12, .ref m13])), (m1, .inl (cI, 4, .inl gw))]) [0, 1, 2, 3] rfl) (hD.sub (ws' := [(m2, .inl (cI, 4, .inl gh)), (m3, .inl (cI, 16384, .inl gd)), (h0, .inr (9, [.ref m1, .ref m2, .ref m3, .int ik, .int wy, .int op, .int cl, .int cx0, .int cx1, .int cy0, .int cy1, .int ds, .ref m4, .ref m5, .ref m6, .ref m7, .ref m8, .ref m9, .int pn, .ref m10, .ref m11, .ref m12, .ref m13])), (m1, .inl (cI, 4, .inl gw))]) [0, 1, 2, 3] (by decide) rfl) hS (lv_sub hl [0, 2, 1, 3, 4, 5] rfl)
          exact loop_8 (64 + 1) 0 0 x3 _ _ _ (by omega) (by omega) nI_0.symm (by omega) eto hP hD hS (lv_sub hl [0, 1, 2, 3, 4, 5] rfl)
    exact loop_4 (64 + 1) 0 0 0 _ _ _ (by omega) (by omega) nI_0.symm (by omega) rfl hP hD hS (lv_sub hl [0, 1, 2, 3, 4] rfl)
  · skip
    have f_3 := bz0 hr_1 c_2
    exact False.elim (by omega)

set_option maxHeartbeats 4000000 in
set_option maxRecDepth 100000 in
theorem k_X9_count_ne (l : Launch) (D : va_G) (sz : Nat) (h0 m1 m2 m3 m4 m5 m6 m7 m8 m9 m10 m11 m12 m13 : Nat) (ik wy op cl cx0 cx1 cy0 cy1 ds pn : Int32) (gw : Nat → Int32) (k vl : Int32) (cI : ClassId) (hns : ¬ (0 ≤ k.toInt ∧ k.toInt ≤ 3 ∧ 0 < (gw k.toNatClampNeg).toInt)) : Met l yX9_count (wB yX9_count cX9_count 6 (some .int)) ({ frames := 1, cells := 0, slots := 0, locals := 21 }) (cP D [(h0, .inr (9, [.ref m1, .ref m2, .ref m3, .int ik, .int wy, .int op, .int cl, .int cx0, .int cx1, .int cy0, .int cy1, .int ds, .ref m4, .ref m5, .ref m6, .ref m7, .ref m8, .ref m9, .int pn, .ref m10, .ref m11, .ref m12, .ref m13])), (m1, .inl (cI, 4, .inl gw))] [(cI, .int)] sz [.ref h0, .int k, .int vl]) (va_Qi (fun (r : Int32) (_ : Unit) => r = -1) (fun (_ : Unit) (t : State) => cB D (va_A [(h0, .inr (9, [.ref m1, .ref m2, .ref m3, .int ik, .int wy, .int op, .int cl, .int cx0, .int cx1, .int cy0, .int cy1, .int ds, .ref m4, .ref m5, .ref m6, .ref m7, .ref m8, .ref m9, .int pn, .ref m10, .ref m11, .ref m12, .ref m13])), (m1, .inl (cI, 4, .inl gw))] sz) [(h0, .inr (9, [.ref m1, .ref m2, .ref m3, .int ik, .int wy, .int op, .int cl, .int cx0, .int cx1, .int cy0, .int cy1, .int ds, .ref m4, .ref m5, .ref m6, .ref m7, .ref m8, .ref m9, .int pn, .ref m10, .ref m11, .ref m12, .ref m13])), (m1, .inl (cI, 4, .inl gw))] [(cI, .int)] t) (va_A [(h0, .inr (9, [.ref m1, .ref m2, .ref m3, .int ik, .int wy, .int op, .int cl, .int cx0, .int cx1, .int cy0, .int cy1, .int ds, .ref m4, .ref m5, .ref m6, .ref m7, .ref m8, .ref m9, .int pn, .ref m10, .ref m11, .ref m12, .ref m13])), (m1, .inl (cI, 4, .inl gw))] sz)) 0 0 (va_A [(h0, .inr (9, [.ref m1, .ref m2, .ref m3, .int ik, .int wy, .int op, .int cl, .int cx0, .int cx1, .int cy0, .int cy1, .int ds, .ref m4, .ref m5, .ref m6, .ref m7, .ref m8, .ref m9, .int pn, .ref m10, .ref m11, .ref m12, .ref m13])), (m1, .inl (cI, 4, .inl gw))] sz) := by
  refine Met.ofW (cc := cX9_count) (maxL := 6) (ret := (some .int)) (by decide) rfl ?_
  intro p e s m args below meth c s₁ B hml hv
  obtain ⟨rfl, hsz, hP, hK, hD0, hN⟩ := hv
  have hx := B.exec
  have hb := B.bytes
  have hr := B.returns
  have hts0 := atoms_spec (ws := (wB yX9_count cX9_count 6 (some .int))) B.pre
  have hts : ∀ w ∈ bigW, w.before _ s = true := fun w h => hts0 w (List.mem_cons_of_mem _ h)
  have hown : s.vm.findClass RX9 = some m.cls := findClass_of_methodNamed B.named
  have hlocks := B.notSynchronized
  subst hsz
  have hD := hD0.self (sz := s.heap.size)
  generalize hAe : va_A [(h0, .inr (9, [.ref m1, .ref m2, .ref m3, .int ik, .int wy, .int op, .int cl, .int cx0, .int cx1, .int cy0, .int cy1, .int ds, .ref m4, .ref m5, .ref m6, .ref m7, .ref m8, .ref m9, .int pn, .ref m10, .ref m11, .ref m12, .ref m13])), (m1, .inl (cI, 4, .inl gw))] s.heap.size = A at hD ⊢
  have hA : ∀ q : Nat, s.heap.size ≤ q → A q := fun q h => by rw [← hAe]; exact Or.inr h
  have hS : va_S A s.heap s.heap [] := va_S.rf
  have hP : va_P D vwCl [(h0, .inr (9, [.ref m1, .ref m2, .ref m3, .int ik, .int wy, .int op, .int cl, .int cx0, .int cx1, .int cy0, .int cy1, .int ds, .ref m4, .ref m5, .ref m6, .ref m7, .ref m8, .ref m9, .int pn, .ref m10, .ref m11, .ref m12, .ref m13])), (m1, .inl (cI, 4, .inl gw))] s.heap := hP
  have hl := lv_entry ([.ref h0, .int k, .int vl]) (n := 6) (Nat.le_of_ble_eq_true rfl)
  rw [lg_entry_eq]
  generalize (lg_sl ([.ref h0, .int k, .int vl]) ++ List.replicate (6 - (lg_sl ([.ref h0, .int k, .int vl])).length) Slot.unset).toArray = ls at hl ⊢
  have hl : lv_has ls 6 [(0, .ref h0), (1, .int k), (2, .int vl)] := hl
  clear hts0 hD0 hAe
  refine my_abs (fun R Q hR hQ => ?_)
  refine lv_aload_n hx hb dX9_count_0 rfl (lv_at hl 0 rfl) ?_
  refine lv_iload_n hx hb dX9_count_1 rfl (lv_at hl 1 rfl) ?_
  have hPc := hP.sub (ws' := [(h0, .inr (9, [.ref m1, .ref m2, .ref m3, .int ik, .int wy, .int op, .int cl, .int cx0, .int cx1, .int cy0, .int cy1, .int ds, .ref m4, .ref m5, .ref m6, .ref m7, .ref m8, .ref m9, .int pn, .ref m10, .ref m11, .ref m12, .ref m13])), (m1, .inl (cI, 4, .inl gw))]) [0, 1] rfl
  have hDc := hD.sub (ws' := [(h0, .inr (9, [.ref m1, .ref m2, .ref m3, .int ik, .int wy, .int op, .int cl, .int cx0, .int cx1, .int cy0, .int cy1, .int ds, .ref m4, .ref m5, .ref m6, .ref m7, .ref m8, .ref m9, .int pn, .ref m10, .ref m11, .ref m12, .ref m13])), (m1, .inl (cI, 4, .inl gw))]) [0, 1] (by decide) rfl
  have hKc := hK.sub (tys' := [(cI, .int)]) [0] rfl
  have hFc := va_free (wc := [(h0, .inr (9, [.ref m1, .ref m2, .ref m3, .int ik, .int wy, .int op, .int cl, .int cx0, .int cx1, .int cy0, .int cy1, .int ds, .ref m4, .ref m5, .ref m6, .ref m7, .ref m8, .ref m9, .int pn, .ref m10, .ref m11, .ref m12, .ref m13])), (m1, .inl (cI, 4, .inl gw))]) hD hS hA [0, 1] rfl
  refine va_calli (va_runV (As := [.int k]) (rest := []) ⟨hx, hb, hml, hown, hts⟩ (k_X9_isSheet l D s.heap.size h0 m1 m2 m3 m4 m5 m6 m7 m8 m9 m10 m11 m12 m13 ik wy op cl cx0 cx1 cy0 cy1 ds pn gw k cI) (cwV 1 hts (gV bw_490 bw_415 bw_416 bw_391 bw_414) rfl rfl rfl (by decide +kernel) ⟨(by rw [hR]; exact Nat.le_of_ble_eq_true rfl), (by rw [hR]; exact Nat.le_of_ble_eq_true rfl)⟩) ⟨cP_blind, va_recv hKc hPc (ci := 9) (q0 := 0) rfl rfl, cP_at hPc hKc hDc hN⟩ rfl rfl hl.1 rfl (lv_room (Nat.le_of_ble_eq_true rfl)) dX9_count_2 ⟨(by rw [hR]; exact Nat.le_of_ble_eq_true rfl), (by rw [hR]; exact Nat.le_of_ble_eq_true rfl)⟩) hS (fun q _ h => hFc q h) hFc (fun r_1 u9 t9 H1 locs ht hvm hr_1 hB hz1 hk1 hS => ?_)
  try dsimp only at hr_1
  obtain ⟨hP1, hK1, hD1⟩ := hB
  rw [ht] at hP1
  obtain ⟨hP, hD⟩ := va_join (wr := []) (w1 := [(h0, .inr (9, [.ref m1, .ref m2, .ref m3, .int ik, .int wy, .int op, .int cl, .int cx0, .int cx1, .int cy0, .int cy1, .int ds, .ref m4, .ref m5, .ref m6, .ref m7, .ref m8, .ref m9, .int pn, .ref m10, .ref m11, .ref m12, .ref m13])), (m1, .inl (cI, 4, .inl gw))]) hP hD [0, 1] [] rfl rfl (by decide) (by decide) hk1 hFc hP1 hD1
  clear hz1 hk1 hFc hKc hDc hPc
  generalize H1 = H at hP hS ⊢
  have hP : va_P D vwCl [(h0, .inr (9, [.ref m1, .ref m2, .ref m3, .int ik, .int wy, .int op, .int cl, .int cx0, .int cx1, .int cy0, .int cy1, .int ds, .ref m4, .ref m5, .ref m6, .ref m7, .ref m8, .ref m9, .int pn, .ref m10, .ref m11, .ref m12, .ref m13])), (m1, .inl (cI, 4, .inl gw))] H := hP
  have hD : va_D A [(h0, .inr (9, [.ref m1, .ref m2, .ref m3, .int ik, .int wy, .int op, .int cl, .int cx0, .int cx1, .int cy0, .int cy1, .int ds, .ref m4, .ref m5, .ref m6, .ref m7, .ref m8, .ref m9, .int pn, .ref m10, .ref m11, .ref m12, .ref m13])), (m1, .inl (cI, 4, .inl gw))] := hD
  refine lv_if_ne (tgt := 10) hx hb dX9_count_5 (by decide) (fun c_2 => ?_) (fun c_2 => ?_)
  · skip
    have f_3 := bz1 hr_1 c_2
    exact False.elim (by omega)
  · skip
    have f_3 := bz0 hr_1 c_2
    refine lv_iconst (v := (-1)) hx hb dX9_count_8 (by decide) ?_
    have hP9 := hP.sub (ws' := [(h0, .inr (9, [.ref m1, .ref m2, .ref m3, .int ik, .int wy, .int op, .int cl, .int cx0, .int cx1, .int cy0, .int cy1, .int ds, .ref m4, .ref m5, .ref m6, .ref m7, .ref m8, .ref m9, .int pn, .ref m10, .ref m11, .ref m12, .ref m13])), (m1, .inl (cI, 4, .inl gw))]) [0, 1] rfl
    have hD9 := hD.sub (ws' := [(h0, .inr (9, [.ref m1, .ref m2, .ref m3, .int ik, .int wy, .int op, .int cl, .int cx0, .int cx1, .int cy0, .int cy1, .int ds, .ref m4, .ref m5, .ref m6, .ref m7, .ref m8, .ref m9, .int pn, .ref m10, .ref m11, .ref m12, .ref m13])), (m1, .inl (cI, 4, .inl gw))]) [0, 1] (by decide) rfl
    have hK9 := hK.sub (tys' := [(cI, .int)]) [0] rfl
    refine hQ _ _ _ _ _ ?_
    exact W.iret (v := (-1)) hx hb hr (fun t ht hW => ⟨⟨(-1), (), rfl, rfl, ⟨by rw [ht]; exact hP9, va_K.moved hW.alike hK9, hD9⟩⟩, hS.F ht⟩) hS.2.2 dX9_count_9

set_option maxHeartbeats 4000000 in
set_option maxRecDepth 100000 in
theorem k_X9_differ_ye (l : Launch) (D : va_G) (sz : Nat) (h0 m1 m2 m3 m4 m5 m6 m7 m8 m9 m10 m11 m12 m13 : Nat) (ik wy op cl cx0 cx1 cy0 cy1 ds pn : Int32) (gw : Nat → Int32) (gh : Nat → Int32) (gd : Nat → Int32) (k kq : Int32) (cI : ClassId) (hgkw : 0 ≤ (gw k.toNatClampNeg).toInt ∧ (gw k.toNatClampNeg).toInt ≤ 64) (hgkh : 0 ≤ (gh k.toNatClampNeg).toInt ∧ (gh k.toNatClampNeg).toInt ≤ 64) (hgqw : 0 ≤ (gw kq.toNatClampNeg).toInt ∧ (gw kq.toNatClampNeg).toInt ≤ 64) (hgqh : 0 ≤ (gh kq.toNatClampNeg).toInt ∧ (gh kq.toNatClampNeg).toInt ≤ 64) (hcd : ((0 ≤ k.toInt ∧ k.toInt ≤ 3 ∧ 0 < (gw k.toNatClampNeg).toInt) ∧ (0 ≤ kq.toInt ∧ kq.toInt ≤ 3 ∧ 0 < (gw kq.toNatClampNeg).toInt)) ∧ ((gw k.toNatClampNeg).toInt = (gw kq.toNatClampNeg).toInt ∧ (gh k.toNatClampNeg).toInt = (gh kq.toNatClampNeg).toInt)) : Met l yX9_differ (wB yX9_differ cX9_differ 6 (some .int)) ({ frames := 1, cells := 0, slots := 0, locals := 22 }) (cP D [(h0, .inr (9, [.ref m1, .ref m2, .ref m3, .int ik, .int wy, .int op, .int cl, .int cx0, .int cx1, .int cy0, .int cy1, .int ds, .ref m4, .ref m5, .ref m6, .ref m7, .ref m8, .ref m9, .int pn, .ref m10, .ref m11, .ref m12, .ref m13])), (m1, .inl (cI, 4, .inl gw)), (m2, .inl (cI, 4, .inl gh)), (m3, .inl (cI, 16384, .inl gd))] [(cI, .int)] sz [.ref h0, .int k, .int kq]) (va_Qi (fun (r : Int32) (_ : Unit) => r = smL (dfF (fun t => gd (4096 * k.toNatClampNeg + t)) (fun t => gd (4096 * kq.toNatClampNeg + t))) (gw k.toNatClampNeg).toNatClampNeg 0 (gh k.toNatClampNeg).toNatClampNeg) (fun (_ : Unit) (t : State) => cB D (va_A [(h0, .inr (9, [.ref m1, .ref m2, .ref m3, .int ik, .int wy, .int op, .int cl, .int cx0, .int cx1, .int cy0, .int cy1, .int ds, .ref m4, .ref m5, .ref m6, .ref m7, .ref m8, .ref m9, .int pn, .ref m10, .ref m11, .ref m12, .ref m13])), (m1, .inl (cI, 4, .inl gw)), (m2, .inl (cI, 4, .inl gh)), (m3, .inl (cI, 16384, .inl gd))] sz) [(h0, .inr (9, [.ref m1, .ref m2, .ref m3, .int ik, .int wy, .int op, .int cl, .int cx0, .int cx1, .int cy0, .int cy1, .int ds, .ref m4, .ref m5, .ref m6, .ref m7, .ref m8, .ref m9, .int pn, .ref m10, .ref m11, .ref m12, .ref m13])), (m1, .inl (cI, 4, .inl gw)), (m2, .inl (cI, 4, .inl gh)), (m3, .inl (cI, 16384, .inl gd))] [(cI, .int)] t) (va_A [(h0, .inr (9, [.ref m1, .ref m2, .ref m3, .int ik, .int wy, .int op, .int cl, .int cx0, .int cx1, .int cy0, .int cy1, .int ds, .ref m4, .ref m5, .ref m6, .ref m7, .ref m8, .ref m9, .int pn, .ref m10, .ref m11, .ref m12, .ref m13])), (m1, .inl (cI, 4, .inl gw)), (m2, .inl (cI, 4, .inl gh)), (m3, .inl (cI, 16384, .inl gd))] sz)) 0 0 (va_A [(h0, .inr (9, [.ref m1, .ref m2, .ref m3, .int ik, .int wy, .int op, .int cl, .int cx0, .int cx1, .int cy0, .int cy1, .int ds, .ref m4, .ref m5, .ref m6, .ref m7, .ref m8, .ref m9, .int pn, .ref m10, .ref m11, .ref m12, .ref m13])), (m1, .inl (cI, 4, .inl gw)), (m2, .inl (cI, 4, .inl gh)), (m3, .inl (cI, 16384, .inl gd))] sz) := by
  refine Met.ofW (cc := cX9_differ) (maxL := 6) (ret := (some .int)) (by decide) rfl ?_
  intro p e s m args below meth c s₁ B hml hv
  obtain ⟨rfl, hsz, hP, hK, hD0, hN⟩ := hv
  have hx := B.exec
  have hb := B.bytes
  have hr := B.returns
  have hts0 := atoms_spec (ws := (wB yX9_differ cX9_differ 6 (some .int))) B.pre
  have hts : ∀ w ∈ bigW, w.before _ s = true := fun w h => hts0 w (List.mem_cons_of_mem _ h)
  have hown : s.vm.findClass RX9 = some m.cls := findClass_of_methodNamed B.named
  have hlocks := B.notSynchronized
  subst hsz
  have hD := hD0.self (sz := s.heap.size)
  generalize hAe : va_A [(h0, .inr (9, [.ref m1, .ref m2, .ref m3, .int ik, .int wy, .int op, .int cl, .int cx0, .int cx1, .int cy0, .int cy1, .int ds, .ref m4, .ref m5, .ref m6, .ref m7, .ref m8, .ref m9, .int pn, .ref m10, .ref m11, .ref m12, .ref m13])), (m1, .inl (cI, 4, .inl gw)), (m2, .inl (cI, 4, .inl gh)), (m3, .inl (cI, 16384, .inl gd))] s.heap.size = A at hD ⊢
  have hA : ∀ q : Nat, s.heap.size ≤ q → A q := fun q h => by rw [← hAe]; exact Or.inr h
  have hS : va_S A s.heap s.heap [] := va_S.rf
  have hP : va_P D vwCl [(h0, .inr (9, [.ref m1, .ref m2, .ref m3, .int ik, .int wy, .int op, .int cl, .int cx0, .int cx1, .int cy0, .int cy1, .int ds, .ref m4, .ref m5, .ref m6, .ref m7, .ref m8, .ref m9, .int pn, .ref m10, .ref m11, .ref m12, .ref m13])), (m1, .inl (cI, 4, .inl gw)), (m2, .inl (cI, 4, .inl gh)), (m3, .inl (cI, 16384, .inl gd))] s.heap := hP
  have hl := lv_entry ([.ref h0, .int k, .int kq]) (n := 6) (Nat.le_of_ble_eq_true rfl)
  rw [lg_entry_eq]
  generalize (lg_sl ([.ref h0, .int k, .int kq]) ++ List.replicate (6 - (lg_sl ([.ref h0, .int k, .int kq])).length) Slot.unset).toArray = ls at hl ⊢
  have hl : lv_has ls 6 [(0, .ref h0), (1, .int k), (2, .int kq)] := hl
  clear hts0 hD0 hAe
  refine my_abs (fun R Q hR hQ => ?_)
  obtain ⟨W9, hW9, eW9⟩ := i_of (x := gw k.toNatClampNeg) (N := 65) (by omega) (by omega) (by decide)
  have eW9n : (gw k.toNatClampNeg).toNatClampNeg = W9 := by rw [eW9]; exact nI_clamp (by omega)
  have hW9t : (gw k.toNatClampNeg).toInt = (W9 : Int) := by rw [eW9]; exact nI_toInt (by omega)
  obtain ⟨H9, hH9, eH9⟩ := i_of (x := gh k.toNatClampNeg) (N := 65) (by omega) (by omega) (by decide)
  have eH9n : (gh k.toNatClampNeg).toNatClampNeg = H9 := by rw [eH9]; exact nI_clamp (by omega)
  have hH9t : (gh k.toNatClampNeg).toInt = (H9 : Int) := by rw [eH9]; exact nI_toInt (by omega)
  refine lv_aload_n hx hb dX9_differ_0 rfl (lv_at hl 0 rfl) ?_
  refine lv_iload_n hx hb dX9_differ_1 rfl (lv_at hl 1 rfl) ?_
  have hPc := hP.sub (ws' := [(h0, .inr (9, [.ref m1, .ref m2, .ref m3, .int ik, .int wy, .int op, .int cl, .int cx0, .int cx1, .int cy0, .int cy1, .int ds, .ref m4, .ref m5, .ref m6, .ref m7, .ref m8, .ref m9, .int pn, .ref m10, .ref m11, .ref m12, .ref m13])), (m1, .inl (cI, 4, .inl gw))]) [0, 1] rfl
  have hDc := hD.sub (ws' := [(h0, .inr (9, [.ref m1, .ref m2, .ref m3, .int ik, .int wy, .int op, .int cl, .int cx0, .int cx1, .int cy0, .int cy1, .int ds, .ref m4, .ref m5, .ref m6, .ref m7, .ref m8, .ref m9, .int pn, .ref m10, .ref m11, .ref m12, .ref m13])), (m1, .inl (cI, 4, .inl gw))]) [0, 1] (by decide) rfl
  have hKc := hK.sub (tys' := [(cI, .int)]) [0] rfl
  have hFc := va_free (wc := [(h0, .inr (9, [.ref m1, .ref m2, .ref m3, .int ik, .int wy, .int op, .int cl, .int cx0, .int cx1, .int cy0, .int cy1, .int ds, .ref m4, .ref m5, .ref m6, .ref m7, .ref m8, .ref m9, .int pn, .ref m10, .ref m11, .ref m12, .ref m13])), (m1, .inl (cI, 4, .inl gw))]) hD hS hA [0, 1] rfl
  refine va_calli (va_runV (As := [.int k]) (rest := []) ⟨hx, hb, hml, hown, hts⟩ (k_X9_isSheet l D s.heap.size h0 m1 m2 m3 m4 m5 m6 m7 m8 m9 m10 m11 m12 m13 ik wy op cl cx0 cx1 cy0 cy1 ds pn gw k cI) (cwV 1 hts (gV bw_490 bw_415 bw_416 bw_391 bw_414) rfl rfl rfl (by decide +kernel) ⟨(by rw [hR]; exact Nat.le_of_ble_eq_true rfl), (by rw [hR]; exact Nat.le_of_ble_eq_true rfl)⟩) ⟨cP_blind, va_recv hKc hPc (ci := 9) (q0 := 0) rfl rfl, cP_at hPc hKc hDc hN⟩ rfl rfl hl.1 rfl (lv_room (Nat.le_of_ble_eq_true rfl)) dX9_differ_2 ⟨(by rw [hR]; exact Nat.le_of_ble_eq_true rfl), (by rw [hR]; exact Nat.le_of_ble_eq_true rfl)⟩) hS (fun q _ h => hFc q h) hFc (fun r_1 u9 t9 H1 locs ht hvm hr_1 hB hz1 hk1 hS => ?_)
  try dsimp only at hr_1
  obtain ⟨hP1, hK1, hD1⟩ := hB
  rw [ht] at hP1
  obtain ⟨hP, hD⟩ := va_join (wr := [(m2, .inl (cI, 4, .inl gh)), (m3, .inl (cI, 16384, .inl gd))]) (w1 := [(h0, .inr (9, [.ref m1, .ref m2, .ref m3, .int ik, .int wy, .int op, .int cl, .int cx0, .int cx1, .int cy0, .int cy1, .int ds, .ref m4, .ref m5, .ref m6, .ref m7, .ref m8, .ref m9, .int pn, .ref m10, .ref m11, .ref m12, .ref m13])), (m1, .inl (cI, 4, .inl gw))]) hP hD [0, 1] [2, 3] rfl rfl (by decide) (by decide) hk1 hFc hP1 hD1
  clear hz1 hk1 hFc hKc hDc hPc
  generalize H1 = H at hP hS ⊢
  have hP : va_P D vwCl [(m2, .inl (cI, 4, .inl gh)), (m3, .inl (cI, 16384, .inl gd)), (h0, .inr (9, [.ref m1, .ref m2, .ref m3, .int ik, .int wy, .int op, .int cl, .int cx0, .int cx1, .int cy0, .int cy1, .int ds, .ref m4, .ref m5, .ref m6, .ref m7, .ref m8, .ref m9, .int pn, .ref m10, .ref m11, .ref m12, .ref m13])), (m1, .inl (cI, 4, .inl gw))] H := hP
  have hD : va_D A [(m2, .inl (cI, 4, .inl gh)), (m3, .inl (cI, 16384, .inl gd)), (h0, .inr (9, [.ref m1, .ref m2, .ref m3, .int ik, .int wy, .int op, .int cl, .int cx0, .int cx1, .int cy0, .int cy1, .int ds, .ref m4, .ref m5, .ref m6, .ref m7, .ref m8, .ref m9, .int pn, .ref m10, .ref m11, .ref m12, .ref m13])), (m1, .inl (cI, 4, .inl gw))] := hD
  refine lv_if_eq (tgt := 46) hx hb dX9_differ_5 (by decide) (fun c_2 => ?_) (fun c_2 => ?_)
  · skip
    have f_3 := bz0 hr_1 c_2
    exact False.elim (by omega)
  · skip
    have f_3 := bz1 hr_1 c_2
    refine lv_aload_n hx hb dX9_differ_8 rfl (lv_at hl 0 rfl) ?_
    refine lv_iload_n hx hb dX9_differ_9 rfl (lv_at hl 2 rfl) ?_
    have hPc := hP.sub (ws' := [(h0, .inr (9, [.ref m1, .ref m2, .ref m3, .int ik, .int wy, .int op, .int cl, .int cx0, .int cx1, .int cy0, .int cy1, .int ds, .ref m4, .ref m5, .ref m6, .ref m7, .ref m8, .ref m9, .int pn, .ref m10, .ref m11, .ref m12, .ref m13])), (m1, .inl (cI, 4, .inl gw))]) [2, 3] rfl
    have hDc := hD.sub (ws' := [(h0, .inr (9, [.ref m1, .ref m2, .ref m3, .int ik, .int wy, .int op, .int cl, .int cx0, .int cx1, .int cy0, .int cy1, .int ds, .ref m4, .ref m5, .ref m6, .ref m7, .ref m8, .ref m9, .int pn, .ref m10, .ref m11, .ref m12, .ref m13])), (m1, .inl (cI, 4, .inl gw))]) [2, 3] (by decide) rfl
    have hKc := hK.sub (tys' := [(cI, .int)]) [0] rfl
    have hFc := va_free (wc := [(h0, .inr (9, [.ref m1, .ref m2, .ref m3, .int ik, .int wy, .int op, .int cl, .int cx0, .int cx1, .int cy0, .int cy1, .int ds, .ref m4, .ref m5, .ref m6, .ref m7, .ref m8, .ref m9, .int pn, .ref m10, .ref m11, .ref m12, .ref m13])), (m1, .inl (cI, 4, .inl gw))]) hD hS hA [2, 3] rfl
    refine va_calli (va_runV (As := [.int kq]) (rest := []) ⟨hx, hb, hml, hown, hts⟩ (k_X9_isSheet l D H.size h0 m1 m2 m3 m4 m5 m6 m7 m8 m9 m10 m11 m12 m13 ik wy op cl cx0 cx1 cy0 cy1 ds pn gw kq cI) (cwV 1 hts (gV bw_490 bw_415 bw_416 bw_391 bw_414) rfl rfl rfl (by decide +kernel) ⟨(by rw [hR]; exact Nat.le_of_ble_eq_true rfl), (by rw [hR]; exact Nat.le_of_ble_eq_true rfl)⟩) ⟨cP_blind, va_recv hKc hPc (ci := 9) (q0 := 0) rfl rfl, cP_at hPc hKc hDc hN⟩ rfl rfl hl.1 rfl (lv_room (Nat.le_of_ble_eq_true rfl)) dX9_differ_10 ⟨(by rw [hR]; exact Nat.le_of_ble_eq_true rfl), (by rw [hR]; exact Nat.le_of_ble_eq_true rfl)⟩) hS (fun q _ h => hFc q h) hFc (fun r_4 u9 t9 H1 locs ht hvm hr_4 hB hz1 hk1 hS => ?_)
    try dsimp only at hr_4
    obtain ⟨hP1, hK1, hD1⟩ := hB
    rw [ht] at hP1
    obtain ⟨hP, hD⟩ := va_join (wr := [(m2, .inl (cI, 4, .inl gh)), (m3, .inl (cI, 16384, .inl gd))]) (w1 := [(h0, .inr (9, [.ref m1, .ref m2, .ref m3, .int ik, .int wy, .int op, .int cl, .int cx0, .int cx1, .int cy0, .int cy1, .int ds, .ref m4, .ref m5, .ref m6, .ref m7, .ref m8, .ref m9, .int pn, .ref m10, .ref m11, .ref m12, .ref m13])), (m1, .inl (cI, 4, .inl gw))]) hP hD [2, 3] [0, 1] rfl rfl (by decide) (by decide) hk1 hFc hP1 hD1
    clear hz1 hk1 hFc hKc hDc hPc
    generalize H1 = H at hP hS ⊢
    have hP : va_P D vwCl [(m2, .inl (cI, 4, .inl gh)), (m3, .inl (cI, 16384, .inl gd)), (h0, .inr (9, [.ref m1, .ref m2, .ref m3, .int ik, .int wy, .int op, .int cl, .int cx0, .int cx1, .int cy0, .int cy1, .int ds, .ref m4, .ref m5, .ref m6, .ref m7, .ref m8, .ref m9, .int pn, .ref m10, .ref m11, .ref m12, .ref m13])), (m1, .inl (cI, 4, .inl gw))] H := hP
    have hD : va_D A [(m2, .inl (cI, 4, .inl gh)), (m3, .inl (cI, 16384, .inl gd)), (h0, .inr (9, [.ref m1, .ref m2, .ref m3, .int ik, .int wy, .int op, .int cl, .int cx0, .int cx1, .int cy0, .int cy1, .int ds, .ref m4, .ref m5, .ref m6, .ref m7, .ref m8, .ref m9, .int pn, .ref m10, .ref m11, .ref m12, .ref m13])), (m1, .inl (cI, 4, .inl gw))] := hD
    refine lv_if_eq (tgt := 46) hx hb dX9_differ_13 (by decide) (fun c_5 => ?_) (fun c_5 => ?_)
    · skip
      have f_6 := bz0 hr_4 c_5
      exact False.elim (by omega)
    · skip
      have f_6 := bz1 hr_4 c_5
      refine lv_aload_n hx hb dX9_differ_16 rfl (lv_at hl 0 rfl) ?_
      refine va_get (D := D) (ci := 9) (v := .ref m1) (C := RX9) (T := TX9) (N := 23) hx hb hts hi_X9 hown hK hP 2 rfl rfl 0 (by decide) (hts _ bw_396) (fun _ h9 => h9) rfl dX9_differ_17 ?_
      refine lv_iload_n hx hb dX9_differ_20 rfl (lv_at hl 1 rfl) ?_
      refine va_iald hx hb hK hP 3 0 rfl rfl (vp_in_iff.mpr ⟨by omega, by omega⟩) dX9_differ_21 ?_
      refine lv_aload_n hx hb dX9_differ_22 rfl (lv_at hl 0 rfl) ?_
      refine va_get (D := D) (ci := 9) (v := .ref m1) (C := RX9) (T := TX9) (N := 23) hx hb hts hi_X9 hown hK hP 2 rfl rfl 0 (by decide) (hts _ bw_396) (fun _ h9 => h9) rfl dX9_differ_23 ?_
      refine lv_iload_n hx hb dX9_differ_26 rfl (lv_at hl 2 rfl) ?_
      refine va_iald hx hb hK hP 3 0 rfl rfl (vp_in_iff.mpr ⟨by omega, by omega⟩) dX9_differ_27 ?_
      refine lv_icmp_ne (tgt := 46) hx hb dX9_differ_28 (by decide) (fun c_7 => ?_) (fun c_7 => ?_)
      · skip
        have f_8 : ¬ ((gw k.toNatClampNeg).toInt = (gw kq.toNatClampNeg).toInt) := fn_eq rfl rfl c_7
        exact False.elim (by omega)
      · skip
        have f_8 : (gw k.toNatClampNeg).toInt = (gw kq.toNatClampNeg).toInt := f_eq rfl rfl c_7
        refine lv_aload_n hx hb dX9_differ_31 rfl (lv_at hl 0 rfl) ?_
        refine va_get (D := D) (ci := 9) (v := .ref m2) (C := RX9) (T := TX9) (N := 23) hx hb hts hi_X9 hown hK hP 2 rfl rfl 1 (by decide) (hts _ bw_397) (fun _ h9 => h9) rfl dX9_differ_32 ?_
        refine lv_iload_n hx hb dX9_differ_35 rfl (lv_at hl 1 rfl) ?_
        refine va_iald hx hb hK hP 0 0 rfl rfl (vp_in_iff.mpr ⟨by omega, by omega⟩) dX9_differ_36 ?_
        refine lv_aload_n hx hb dX9_differ_37 rfl (lv_at hl 0 rfl) ?_
        refine va_get (D := D) (ci := 9) (v := .ref m2) (C := RX9) (T := TX9) (N := 23) hx hb hts hi_X9 hown hK hP 2 rfl rfl 1 (by decide) (hts _ bw_397) (fun _ h9 => h9) rfl dX9_differ_38 ?_
        refine lv_iload_n hx hb dX9_differ_41 rfl (lv_at hl 2 rfl) ?_
        refine va_iald hx hb hK hP 0 0 rfl rfl (vp_in_iff.mpr ⟨by omega, by omega⟩) dX9_differ_42 ?_
        refine lv_icmp_eq (tgt := 48) hx hb dX9_differ_43 (by decide) (fun c_9 => ?_) (fun c_9 => ?_)
        · skip
          have f_10 : (gh k.toNatClampNeg).toInt = (gh kq.toNatClampNeg).toInt := f_eq rfl rfl c_9
          refine lv_iconst (v := 0) hx hb dX9_differ_48 (by decide) ?_
          refine lv_istore_n (lv' := [(3, .int 0), (0, .ref h0), (1, .int k), (2, .int kq)]) hx hb dX9_differ_49 rfl hl (by decide) rfl (fun ls hl => ?_)
          refine lv_iconst (v := 0) hx hb dX9_differ_50 (by decide) ?_
          refine lv_istore (lv' := [(4, .int 0), (3, .int 0), (0, .ref h0), (1, .int k), (2, .int kq)]) hx hb dX9_differ_51 hl (by decide) rfl (fun ls hl => ?_)
          have loop_11 : ∀ (n : Nat) (j : Nat) (x4 : Int32) (x3 : Int32) (H : Heap) (locs : List Loc) (ls : Array Slot), (j ≤ 64) → (64 + 1 ≤ j + n) → (x4 = nI j) → (j ≤ H9) → (x3 = smL (dfF (fun t => gd (4096 * k.toNatClampNeg + t)) (fun t => gd (4096 * kq.toNatClampNeg + t))) W9 0 j) → va_P D vwCl [(m2, .inl (cI, 4, .inl gh)), (m3, .inl (cI, 16384, .inl gd)), (h0, .inr (9, [.ref m1, .ref m2, .ref m3, .int ik, .int wy, .int op, .int cl, .int cx0, .int cx1, .int cy0, .int cy1, .int ds, .ref m4, .ref m5, .ref m6, .ref m7, .ref m8, .ref m9, .int pn, .ref m10, .ref m11, .ref m12, .ref m13])), (m1, .inl (cI, 4, .inl gw))] H → va_D A [(m2, .inl (cI, 4, .inl gh)), (m3, .inl (cI, 16384, .inl gd)), (h0, .inr (9, [.ref m1, .ref m2, .ref m3, .int ik, .int wy, .int op, .int cl, .int cx0, .int cx1, .int cy0, .int cy1, .int ds, .ref m4, .ref m5, .ref m6, .ref m7, .ref m8, .ref m9, .int pn, .ref m10, .ref m11, .ref m12, .ref m13])), (m1, .inl (cI, 4, .inl gw))] → va_S A s.heap H locs → lv_has ls 6 [(4, .int x4), (3, .int x3), (0, .ref h0), (1, .int k), (2, .int kq)] → W p l e R s m ([.ref h0, .int k, .int kq] : List Value).toArray below meth c H locs 0 0 Q (F0 m 53 ls []) := by
            intro n
            induction n with
            | zero =>
              intro j x4 x3 H locs ls hi_j hm_j ex_j hjo eto hP hD hS hl
              exact absurd (show False by omega) not_false
            | succ n ih_12 =>
              intro j x4 x3 H locs ls hi_j hm_j ex_j hjo eto hP hD hS hl
              have hx_j : x4.toInt = (j : Int) := by rw [ex_j]; exact nI_toInt (by omega)
              have hc_j : x4.toNatClampNeg = j := by rw [ex_j]; exact nI_clamp (by omega)
              refine lv_iload hx hb dX9_differ_53 (lv_at hl 0 rfl) ?_
              refine lv_aload_n hx hb dX9_differ_55 rfl (lv_at hl 2 rfl) ?_
              refine va_get (D := D) (ci := 9) (v := .ref m2) (C := RX9) (T := TX9) (N := 23) hx hb hts hi_X9 hown hK hP 2 rfl rfl 1 (by decide) (hts _ bw_397) (fun _ h9 => h9) rfl dX9_differ_56 ?_
              refine lv_iload_n hx hb dX9_differ_59 rfl (lv_at hl 3 rfl) ?_
              refine va_iald hx hb hK hP 0 0 rfl rfl (vp_in_iff.mpr ⟨by omega, by omega⟩) dX9_differ_60 ?_
              refine lv_icmp_ge (tgt := 127) hx hb dX9_differ_61 (by decide) (fun c_13 => ?_) (fun c_13 => ?_)
              · skip
                have f_14 : (gh k.toNatClampNeg).toInt ≤ (j : Int) := f_le rfl hx_j c_13
                refine lv_iload_n hx hb dX9_differ_127 rfl (lv_at hl 1 rfl) ?_
                have hP9 := hP.sub (ws' := [(h0, .inr (9, [.ref m1, .ref m2, .ref m3, .int ik, .int wy, .int op, .int cl, .int cx0, .int cx1, .int cy0, .int cy1, .int ds, .ref m4, .ref m5, .ref m6, .ref m7, .ref m8, .ref m9, .int pn, .ref m10, .ref m11, .ref m12, .ref m13])), (m1, .inl (cI, 4, .inl gw)), (m2, .inl (cI, 4, .inl gh)), (m3, .inl (cI, 16384, .inl gd))]) [2, 3, 0, 1] rfl
                have hD9 := hD.sub (ws' := [(h0, .inr (9, [.ref m1, .ref m2, .ref m3, .int ik, .int wy, .int op, .int cl, .int cx0, .int cx1, .int cy0, .int cy1, .int ds, .ref m4, .ref m5, .ref m6, .ref m7, .ref m8, .ref m9, .int pn, .ref m10, .ref m11, .ref m12, .ref m13])), (m1, .inl (cI, 4, .inl gw)), (m2, .inl (cI, 4, .inl gh)), (m3, .inl (cI, 16384, .inl gd))]) [2, 3, 0, 1] (by decide) rfl
                have hK9 := hK.sub (tys' := [(cI, .int)]) [0] rfl
                refine hQ _ _ _ _ _ ?_
                exact W.iret (v := x3) hx hb hr (fun t ht hW => ⟨⟨x3, (), rfl, (by rw [eW9n, eH9n, ← show j = H9 by omega]; exact eto), ⟨by rw [ht]; exact hP9, va_K.moved hW.alike hK9, hD9⟩⟩, hS.F ht⟩) hS.2.2 dX9_differ_128
              · skip
                have f_14 : ¬ ((gh k.toNatClampNeg).toInt ≤ (j : Int)) := fn_le rfl hx_j c_13
                refine lv_iconst (v := 0) hx hb dX9_differ_64 (by decide) ?_
                refine lv_istore (lv' := [(5, .int 0), (4, .int x4), (3, .int x3), (0, .ref h0), (1, .int k), (2, .int kq)]) hx hb dX9_differ_65 hl (by decide) rfl (fun ls hl => ?_)
                have loop_15 : ∀ (n : Nat) (i : Nat) (x5 : Int32) (z3 : Int32) (H : Heap) (locs : List Loc) (ls : Array Slot), (i ≤ 64) → (64 + 1 ≤ i + n) → (x5 = nI i) → (i ≤ W9) → (z3 = smR (dfF (fun t => gd (4096 * k.toNatClampNeg + t)) (fun t => gd (4096 * kq.toNatClampNeg + t))) j (smL (dfF (fun t => gd (4096 * k.toNatClampNeg + t)) (fun t => gd (4096 * kq.toNatClampNeg + t))) W9 0 j) i) → va_P D vwCl [(m2, .inl (cI, 4, .inl gh)), (m3, .inl (cI, 16384, .inl gd)), (h0, .inr (9, [.ref m1, .ref m2, .ref m3, .int ik, .int wy, .int op, .int cl, .int cx0, .int cx1, .int cy0, .int cy1, .int ds, .ref m4, .ref m5, .ref m6, .ref m7, .ref m8, .ref m9, .int pn, .ref m10, .ref m11, .ref m12, .ref m13])), (m1, .inl (cI, 4, .inl gw))] H → va_D A [(m2, .inl (cI, 4, .inl gh)), (m3, .inl (cI, 16384, .inl gd)), (h0, .inr (9, [.ref m1, .ref m2, .ref m3, .int ik, .int wy, .int op, .int cl, .int cx0, .int cx1, .int cy0, .int cy1, .int ds, .ref m4, .ref m5, .ref m6, .ref m7, .ref m8, .ref m9, .int pn, .ref m10, .ref m11, .ref m12, .ref m13])), (m1, .inl (cI, 4, .inl gw))] → va_S A s.heap H locs → lv_has ls 6 [(5, .int x5), (4, .int x4), (3, .int z3), (0, .ref h0), (1, .int k), (2, .int kq)] → W p l e R s m ([.ref h0, .int k, .int kq] : List Value).toArray below meth c H locs 0 0 Q (F0 m 67 ls []) := by
                  intro n
                  induction n with
                  | zero =>
                    intro i x5 z3 H locs ls hi_i hm_i ex_i hio eti hP hD hS hl
                    exact absurd (show False by omega) not_false
                  | succ n ih_16 =>
                    intro i x5 z3 H locs ls hi_i hm_i ex_i hio eti hP hD hS hl
                    have hx_i : x5.toInt = (i : Int) := by rw [ex_i]; exact nI_toInt (by omega)
                    have hc_i : x5.toNatClampNeg = i := by rw [ex_i]; exact nI_clamp (by omega)
                    refine lv_iload hx hb dX9_differ_67 (lv_at hl 0 rfl) ?_
                    refine lv_aload_n hx hb dX9_differ_69 rfl (lv_at hl 3 rfl) ?_
                    refine va_get (D := D) (ci := 9) (v := .ref m1) (C := RX9) (T := TX9) (N := 23) hx hb hts hi_X9 hown hK hP 2 rfl rfl 0 (by decide) (hts _ bw_396) (fun _ h9 => h9) rfl dX9_differ_70 ?_
                    refine lv_iload_n hx hb dX9_differ_73 rfl (lv_at hl 4 rfl) ?_
                    refine va_iald hx hb hK hP 3 0 rfl rfl (vp_in_iff.mpr ⟨by omega, by omega⟩) dX9_differ_74 ?_
                    refine lv_icmp_ge (tgt := 121) hx hb dX9_differ_75 (by decide) (fun c_17 => ?_) (fun c_17 => ?_)
                    · skip
                      have f_18 : (gw k.toNatClampNeg).toInt ≤ (i : Int) := f_le rfl hx_i c_17
                      obtain ⟨y_19, ey_19⟩ : ∃ y : Int32, y = x4 + 1 := ⟨_, rfl⟩
                      refine lv_iinc (v := y_19) (lv' := [(4, .int y_19), (5, .int x5), (3, .int z3), (0, .ref h0), (1, .int k), (2, .int kq)]) hx hb dX9_differ_121 hl (k := 1) rfl (by rw [ey_19]; rfl) (by decide) rfl (fun ls hl => ?_)
                      refine lv_goto (tgt := 53) hx hb dX9_differ_124 (by decide) ?_
                      exact ih_12 (j + 1) y_19 z3 _ _ _ (by omega) (by omega) (by rw [ey_19, ex_j]; exact nI_1 j) (by omega) (sm_nx eti (by omega)) (hP.sub (ws' := [(m2, .inl (cI, 4, .inl gh)), (m3, .inl (cI, 16384, .inl gd)), (h0, .inr (9, [.ref m1, .ref m2, .ref m3, .int ik, .int wy, .int op, .int cl, .int cx0, .int cx1, .int cy0, .int cy1, .int ds, .ref m4, .ref m5, .ref m6, .ref m7, .ref m8, .ref m9, .int pn, .ref m10, .ref m11, .ref m12, .ref m13])), (m1, .inl (cI, 4, .inl gw))]) [0, 1, 2, 3] rfl) (hD.sub (ws' := [(m2, .inl (cI, 4, .inl gh)), (m3, .inl (cI, 16384, .inl gd)), (h0, .inr (9, [.ref m1, .ref m2, .ref m3, .int ik, .int wy, .int op, .int cl, .int cx0, .int cx1, .int cy0, .int cy1, .int ds, .ref m4, .ref m5, .ref m6, .ref m7, .ref m8, .ref m9, .int pn, .ref m10, .ref m11, .ref m12, .ref m13])), (m1, .inl (cI, 4, .inl gw))]) [0, 1, 2, 3] (by decide) rfl) hS (lv_sub hl [0, 2, 3, 4, 5] rfl)
                    · skip
                      have f_18 : ¬ ((gw k.toNatClampNeg).toInt ≤ (i : Int)) := fn_le rfl hx_i c_17
                      refine lv_iload_n hx hb dX9_differ_78 rfl (lv_at hl 2 rfl) ?_
                      refine lv_aload_n hx hb dX9_differ_79 rfl (lv_at hl 3 rfl) ?_
                      refine va_get (D := D) (ci := 9) (v := .ref m3) (C := RX9) (T := TX9) (N := 23) hx hb hts hi_X9 hown hK hP 2 rfl rfl 2 (by decide) (hts _ bw_398) (fun _ h9 => h9) rfl dX9_differ_80 ?_
                      refine lv_iload_n hx hb dX9_differ_83 rfl (lv_at hl 4 rfl) ?_
                      refine lv_iload hx hb dX9_differ_84 (lv_at hl 0 rfl) ?_
                      refine lv_iload hx hb dX9_differ_86 (lv_at hl 1 rfl) ?_
                      have hPc := hP.sub (ws' := []) [] rfl
                      have hDc := hD.sub (ws' := []) [] (by decide) rfl
                      have hKc := hK.sub (tys' := []) [] rfl
                      have hFc := va_free (wc := []) hD hS hA [] rfl
                      refine va_calli (va_runS (As := [.int k, .int x5, .int x4]) (rest := [.ref m3, .int z3]) ⟨hx, hb, hml, hown, hts⟩ (k_X9_spot l D H.size k x5 x4) (va_cwS 3 hts (gS bw_551 bw_421 bw_391 bw_420) rfl rfl rfl (by decide +kernel) ⟨(by rw [hR]; exact Nat.le_of_ble_eq_true rfl), (by rw [hR]; exact Nat.le_of_ble_eq_true rfl)⟩) ⟨cP_blind, cP_at hPc hKc hDc hN⟩ rfl rfl hl.1 rfl (lv_room (Nat.le_of_ble_eq_true rfl)) dX9_differ_88 ⟨(by rw [hR]; exact Nat.le_of_ble_eq_true rfl), (by rw [hR]; exact Nat.le_of_ble_eq_true rfl)⟩) hS (fun q _ h => hFc q h) hFc (fun r_20 u9 t9 H1 locs ht hvm hr_20 hB hz1 hk1 hS => ?_)
                      try dsimp only at hr_20
                      have hP1 : va_P D vwCl [] H1 := vP_nil
                      have hD1 : va_D (va_A [] H.size) [] := vD_nil
                      obtain ⟨hP, hD⟩ := va_join (wr := [(m2, .inl (cI, 4, .inl gh)), (m3, .inl (cI, 16384, .inl gd)), (h0, .inr (9, [.ref m1, .ref m2, .ref m3, .int ik, .int wy, .int op, .int cl, .int cx0, .int cx1, .int cy0, .int cy1, .int ds, .ref m4, .ref m5, .ref m6, .ref m7, .ref m8, .ref m9, .int pn, .ref m10, .ref m11, .ref m12, .ref m13])), (m1, .inl (cI, 4, .inl gw))]) (w1 := []) hP hD [] [0, 1, 2, 3] rfl rfl (by decide) (by decide) hk1 hFc hP1 hD1
                      clear hz1 hk1 hFc hKc hDc hPc
                      generalize H1 = H at hP hS ⊢
                      have hP : va_P D vwCl [(m2, .inl (cI, 4, .inl gh)), (m3, .inl (cI, 16384, .inl gd)), (h0, .inr (9, [.ref m1, .ref m2, .ref m3, .int ik, .int wy, .int op, .int cl, .int cx0, .int cx1, .int cy0, .int cy1, .int ds, .ref m4, .ref m5, .ref m6, .ref m7, .ref m8, .ref m9, .int pn, .ref m10, .ref m11, .ref m12, .ref m13])), (m1, .inl (cI, 4, .inl gw))] H := hP
                      have hD : va_D A [(m2, .inl (cI, 4, .inl gh)), (m3, .inl (cI, 16384, .inl gd)), (h0, .inr (9, [.ref m1, .ref m2, .ref m3, .int ik, .int wy, .int op, .int cl, .int cx0, .int cx1, .int cy0, .int cy1, .int ds, .ref m4, .ref m5, .ref m6, .ref m7, .ref m8, .ref m9, .int pn, .ref m10, .ref m11, .ref m12, .ref m13])), (m1, .inl (cI, 4, .inl gw))] := hD
                      refine va_iald hx hb hK hP 1 0 rfl rfl (by rw [hr_20]; exact sp_in (by omega) (by omega) (by omega) (by omega) (by omega) (by omega)) dX9_differ_91 ?_
                      refine my_fold (v := gd (4096 * k.toNatClampNeg + ixP (nI i) (nI j))) (congrArg gd (by rw [hr_20, sp_cl (by omega) (by omega) (by omega) (by omega) (by omega) (by omega), ex_i, ex_j])) ?_
                      refine lv_aload_n hx hb dX9_differ_92 rfl (lv_at hl 3 rfl) ?_
                      refine va_get (D := D) (ci := 9) (v := .ref m3) (C := RX9) (T := TX9) (N := 23) hx hb hts hi_X9 hown hK hP 2 rfl rfl 2 (by decide) (hts _ bw_398) (fun _ h9 => h9) rfl dX9_differ_93 ?_
                      refine lv_iload_n hx hb dX9_differ_96 rfl (lv_at hl 5 rfl) ?_
                      refine lv_iload hx hb dX9_differ_97 (lv_at hl 0 rfl) ?_
                      refine lv_iload hx hb dX9_differ_99 (lv_at hl 1 rfl) ?_
                      have hPc := hP.sub (ws' := []) [] rfl
                      have hDc := hD.sub (ws' := []) [] (by decide) rfl
                      have hKc := hK.sub (tys' := []) [] rfl
                      have hFc := va_free (wc := []) hD hS hA [] rfl
                      refine va_calli (va_runS (As := [.int kq, .int x5, .int x4]) (rest := [.ref m3, .int (gd (4096 * k.toNatClampNeg + ixP (nI i) (nI j))), .int z3]) ⟨hx, hb, hml, hown, hts⟩ (k_X9_spot l D H.size kq x5 x4) (va_cwS 3 hts (gS bw_551 bw_421 bw_391 bw_420) rfl rfl rfl (by decide +kernel) ⟨(by rw [hR]; exact Nat.le_of_ble_eq_true rfl), (by rw [hR]; exact Nat.le_of_ble_eq_true rfl)⟩) ⟨cP_blind, cP_at hPc hKc hDc hN⟩ rfl rfl hl.1 rfl (lv_room (Nat.le_of_ble_eq_true rfl)) dX9_differ_101 ⟨(by rw [hR]; exact Nat.le_of_ble_eq_true rfl), (by rw [hR]; exact Nat.le_of_ble_eq_true rfl)⟩) hS (fun q _ h => hFc q h) hFc (fun r_21 u9 t9 H1 locs ht hvm hr_21 hB hz1 hk1 hS => ?_)
                      try dsimp only at hr_21
                      have hP1 : va_P D vwCl [] H1 := vP_nil
                      have hD1 : va_D (va_A [] H.size) [] := vD_nil
                      obtain ⟨hP, hD⟩ := va_join (wr := [(m2, .inl (cI, 4, .inl gh)), (m3, .inl (cI, 16384, .inl gd)), (h0, .inr (9, [.ref m1, .ref m2, .ref m3, .int ik, .int wy, .int op, .int cl, .int cx0, .int cx1, .int cy0, .int cy1, .int ds, .ref m4, .ref m5, .ref m6, .ref m7, .ref m8, .ref m9, .int pn, .ref m10, .ref m11, .ref m12, .ref m13])), (m1, .inl (cI, 4, .inl gw))]) (w1 := []) hP hD [] [0, 1, 2, 3] rfl rfl (by decide) (by decide) hk1 hFc hP1 hD1
                      clear hz1 hk1 hFc hKc hDc hPc
                      generalize H1 = H at hP hS ⊢
                      have hP : va_P D vwCl [(m2, .inl (cI, 4, .inl gh)), (m3, .inl (cI, 16384, .inl gd)), (h0, .inr (9, [.ref m1, .ref m2, .ref m3, .int ik, .int wy, .int op, .int cl, .int cx0, .int cx1, .int cy0, .int cy1, .int ds, .ref m4, .ref m5, .ref m6, .ref m7, .ref m8, .ref m9, .int pn, .ref m10, .ref m11, .ref m12, .ref m13])), (m1, .inl (cI, 4, .inl gw))] H := hP
                      have hD : va_D A [(m2, .inl (cI, 4, .inl gh)), (m3, .inl (cI, 16384, .inl gd)), (h0, .inr (9, [.ref m1, .ref m2, .ref m3, .int ik, .int wy, .int op, .int cl, .int cx0, .int cx1, .int cy0, .int cy1, .int ds, .ref m4, .ref m5, .ref m6, .ref m7, .ref m8, .ref m9, .int pn, .ref m10, .ref m11, .ref m12, .ref m13])), (m1, .inl (cI, 4, .inl gw))] := hD
                      refine va_iald hx hb hK hP 1 0 rfl rfl (by rw [hr_21]; exact sp_in (by omega) (by omega) (by omega) (by omega) (by omega) (by omega)) dX9_differ_104 ?_
                      refine my_fold (v := gd (4096 * kq.toNatClampNeg + ixP (nI i) (nI j))) (congrArg gd (by rw [hr_21, sp_cl (by omega) (by omega) (by omega) (by omega) (by omega) (by omega), ex_i, ex_j])) ?_
                      refine lv_icmp_eq (tgt := 112) hx hb dX9_differ_105 (by decide) (fun c_22 => ?_) (fun c_22 => ?_)
                      · skip
                        have f_23 : (gd (4096 * k.toNatClampNeg + ixP (nI i) (nI j))).toInt = (gd (4096 * kq.toNatClampNeg + ixP (nI i) (nI j))).toInt := f_eq rfl rfl c_22
                        refine lv_iconst (v := 0) hx hb dX9_differ_112 (by decide) ?_
                        refine lv_iadd hx hb dX9_differ_113 ?_
                        refine lv_topi (fun y_24 ey_24 => ?_)
                        refine lv_istore_n (lv' := [(3, .int y_24), (5, .int x5), (4, .int x4), (0, .ref h0), (1, .int k), (2, .int kq)]) hx hb dX9_differ_114 rfl hl (by decide) rfl (fun ls hl => ?_)
                        obtain ⟨y_25, ey_25⟩ : ∃ y : Int32, y = x5 + 1 := ⟨_, rfl⟩
                        refine lv_iinc (v := y_25) (lv' := [(5, .int y_25), (3, .int y_24), (4, .int x4), (0, .ref h0), (1, .int k), (2, .int kq)]) hx hb dX9_differ_115 hl (k := 1) rfl (by rw [ey_25]; rfl) (by decide) rfl (fun ls hl => ?_)
                        refine lv_goto (tgt := 67) hx hb dX9_differ_118 (by decide) ?_
                        exact ih_16 (i + 1) y_25 y_24 _ _ _ (by omega) (by omega) (by rw [ey_25, ex_i]; exact nI_1 i) (by omega) (by rw [ey_24, Int32.add_zero, eti]; exact (df_y (g := (fun t => gd (4096 * k.toNatClampNeg + t))) (g' := (fun t => gd (4096 * kq.toNatClampNeg + t))) c_22).symm) (hP.sub (ws' := [(m2, .inl (cI, 4, .inl gh)), (m3, .inl (cI, 16384, .inl gd)), (h0, .inr (9, [.ref m1, .ref m2, .ref m3, .int ik, .int wy, .int op, .int cl, .int cx0, .int cx1, .int cy0, .int cy1, .int ds, .ref m4, .ref m5, .ref m6, .ref m7, .ref m8, .ref m9, .int pn, .ref m10, .ref m11, .ref m12, .ref m13])), (m1, .inl (cI, 4, .inl gw))]) [0, 1, 2, 3] rfl) (hD.sub (ws' := [(m2, .inl (cI, 4, .inl gh)), (m3, .inl (cI, 16384, .inl gd)), (h0, .inr (9, [.ref m1, .ref m2, .ref m3, .int ik, .int wy, .int op, .int cl, .int cx0, .int cx1, .int cy0, .int cy1, .int ds, .ref m4, .ref m5, .ref m6, .ref m7, .ref m8, .ref m9, .int pn, .ref m10, .ref m11, .ref m12, .ref m13])), (m1, .inl (cI, 4, .inl gw))]) [0, 1, 2, 3] (by decide) rfl) hS (lv_sub hl [0, 2, 1, 3, 4, 5] rfl)
                      · skip
                        have f_23 : ¬ ((gd (4096 * k.toNatClampNeg + ixP (nI i) (nI j))).toInt = (gd (4096 * kq.toNatClampNeg + ixP (nI i) (nI j))).toInt) := fn_eq rfl rfl c_22
                        refine lv_iconst (v := 1) hx hb dX9_differ_108 (by decide) ?_
                        refine lv_goto (tgt := 113) hx hb dX9_differ_109 (by decide) ?_
                        refine lv_iadd hx hb dX9_differ_113 ?_
                        refine lv_topi (fun y_26 ey_26 => ?_)
                        refine lv_istore_n (lv' := [(3, .int y_26), (5, .int x5), (4, .int x4), (0, .ref h0), (1, .int k), (2, .int kq)]) hx hb dX9_differ_114 rfl hl (by decide) rfl (fun ls hl => ?_)
                        obtain ⟨y_27, ey_27⟩ : ∃ y : Int32, y = x5 + 1 := ⟨_, rfl⟩
                        refine lv_iinc (v := y_27) (lv' := [(5, .int y_27), (3, .int y_26), (4, .int x4), (0, .ref h0), (1, .int k), (2, .int kq)]) hx hb dX9_differ_115 hl (k := 1) rfl (by rw [ey_27]; rfl) (by decide) rfl (fun ls hl => ?_)
                        refine lv_goto (tgt := 67) hx hb dX9_differ_118 (by decide) ?_
                        exact ih_16 (i + 1) y_27 y_26 _ _ _ (by omega) (by omega) (by rw [ey_27, ex_i]; exact nI_1 i) (by omega) (by rw [ey_26, eti]; exact (df_n (g := (fun t => gd (4096 * k.toNatClampNeg + t))) (g' := (fun t => gd (4096 * kq.toNatClampNeg + t))) c_22).symm) (hP.sub (ws' := [(m2, .inl (cI, 4, .inl gh)), (m3, .inl (cI, 16384, .inl gd)), (h0, .inr (9, [.ref m1, .ref m2, .ref m3, .int ik, .int wy, .int op, .int cl, .int cx0, .int cx1, .int cy0, .int cy1, .int ds, .ref m4, .ref m5, .ref m6, .ref m7, .ref m8, .ref m9, .int pn, .ref m10, .ref m11, .ref m12, .ref m13])), (m1, .inl (cI, 4, .inl gw))]) [0, 1, 2, 3] rfl) (hD.sub (ws' := [(m2, .inl (cI, 4, .inl gh)), (m3, .inl (cI, 16384, .inl gd)), (h0, .inr (9, [.ref m1, .ref m2, .ref m3, .int ik, .int wy, .int op, .int cl, .int cx0, .int cx1, .int cy0, .int cy1, .int ds, .ref m4, .ref m5, .ref m6, .ref m7, .ref m8, .ref m9, .int pn, .ref m10, .ref m11, .ref m12, .ref m13])), (m1, .inl (cI, 4, .inl gw))]) [0, 1, 2, 3] (by decide) rfl) hS (lv_sub hl [0, 2, 1, 3, 4, 5] rfl)
                exact loop_15 (64 + 1) 0 0 x3 _ _ _ (by omega) (by omega) nI_0.symm (by omega) eto hP hD hS (lv_sub hl [0, 1, 2, 3, 4, 5] rfl)
          exact loop_11 (64 + 1) 0 0 0 _ _ _ (by omega) (by omega) nI_0.symm (by omega) rfl hP hD hS (lv_sub hl [0, 1, 2, 3, 4] rfl)
        · skip
          have f_10 : ¬ ((gh k.toNatClampNeg).toInt = (gh kq.toNatClampNeg).toInt) := fn_eq rfl rfl c_9
          exact False.elim (by omega)

set_option maxHeartbeats 4000000 in
set_option maxRecDepth 100000 in
theorem k_X9_differ_ne (l : Launch) (D : va_G) (sz : Nat) (h0 m1 m2 m3 m4 m5 m6 m7 m8 m9 m10 m11 m12 m13 : Nat) (ik wy op cl cx0 cx1 cy0 cy1 ds pn : Int32) (gw : Nat → Int32) (gh : Nat → Int32) (k kq : Int32) (cI : ClassId) (hcd : ¬ (((0 ≤ k.toInt ∧ k.toInt ≤ 3 ∧ 0 < (gw k.toNatClampNeg).toInt) ∧ (0 ≤ kq.toInt ∧ kq.toInt ≤ 3 ∧ 0 < (gw kq.toNatClampNeg).toInt)) ∧ ((gw k.toNatClampNeg).toInt = (gw kq.toNatClampNeg).toInt ∧ (gh k.toNatClampNeg).toInt = (gh kq.toNatClampNeg).toInt))) : Met l yX9_differ (wB yX9_differ cX9_differ 6 (some .int)) ({ frames := 1, cells := 0, slots := 0, locals := 21 }) (cP D [(h0, .inr (9, [.ref m1, .ref m2, .ref m3, .int ik, .int wy, .int op, .int cl, .int cx0, .int cx1, .int cy0, .int cy1, .int ds, .ref m4, .ref m5, .ref m6, .ref m7, .ref m8, .ref m9, .int pn, .ref m10, .ref m11, .ref m12, .ref m13])), (m1, .inl (cI, 4, .inl gw)), (m2, .inl (cI, 4, .inl gh))] [(cI, .int)] sz [.ref h0, .int k, .int kq]) (va_Qi (fun (r : Int32) (_ : Unit) => r = -1) (fun (_ : Unit) (t : State) => cB D (va_A [(h0, .inr (9, [.ref m1, .ref m2, .ref m3, .int ik, .int wy, .int op, .int cl, .int cx0, .int cx1, .int cy0, .int cy1, .int ds, .ref m4, .ref m5, .ref m6, .ref m7, .ref m8, .ref m9, .int pn, .ref m10, .ref m11, .ref m12, .ref m13])), (m1, .inl (cI, 4, .inl gw)), (m2, .inl (cI, 4, .inl gh))] sz) [(h0, .inr (9, [.ref m1, .ref m2, .ref m3, .int ik, .int wy, .int op, .int cl, .int cx0, .int cx1, .int cy0, .int cy1, .int ds, .ref m4, .ref m5, .ref m6, .ref m7, .ref m8, .ref m9, .int pn, .ref m10, .ref m11, .ref m12, .ref m13])), (m1, .inl (cI, 4, .inl gw)), (m2, .inl (cI, 4, .inl gh))] [(cI, .int)] t) (va_A [(h0, .inr (9, [.ref m1, .ref m2, .ref m3, .int ik, .int wy, .int op, .int cl, .int cx0, .int cx1, .int cy0, .int cy1, .int ds, .ref m4, .ref m5, .ref m6, .ref m7, .ref m8, .ref m9, .int pn, .ref m10, .ref m11, .ref m12, .ref m13])), (m1, .inl (cI, 4, .inl gw)), (m2, .inl (cI, 4, .inl gh))] sz)) 0 0 (va_A [(h0, .inr (9, [.ref m1, .ref m2, .ref m3, .int ik, .int wy, .int op, .int cl, .int cx0, .int cx1, .int cy0, .int cy1, .int ds, .ref m4, .ref m5, .ref m6, .ref m7, .ref m8, .ref m9, .int pn, .ref m10, .ref m11, .ref m12, .ref m13])), (m1, .inl (cI, 4, .inl gw)), (m2, .inl (cI, 4, .inl gh))] sz) := by
  refine Met.ofW (cc := cX9_differ) (maxL := 6) (ret := (some .int)) (by decide) rfl ?_
  intro p e s m args below meth c s₁ B hml hv
  obtain ⟨rfl, hsz, hP, hK, hD0, hN⟩ := hv
  have hx := B.exec
  have hb := B.bytes
  have hr := B.returns
  have hts0 := atoms_spec (ws := (wB yX9_differ cX9_differ 6 (some .int))) B.pre
  have hts : ∀ w ∈ bigW, w.before _ s = true := fun w h => hts0 w (List.mem_cons_of_mem _ h)
  have hown : s.vm.findClass RX9 = some m.cls := findClass_of_methodNamed B.named
  have hlocks := B.notSynchronized
  subst hsz
  have hD := hD0.self (sz := s.heap.size)
  generalize hAe : va_A [(h0, .inr (9, [.ref m1, .ref m2, .ref m3, .int ik, .int wy, .int op, .int cl, .int cx0, .int cx1, .int cy0, .int cy1, .int ds, .ref m4, .ref m5, .ref m6, .ref m7, .ref m8, .ref m9, .int pn, .ref m10, .ref m11, .ref m12, .ref m13])), (m1, .inl (cI, 4, .inl gw)), (m2, .inl (cI, 4, .inl gh))] s.heap.size = A at hD ⊢
  have hA : ∀ q : Nat, s.heap.size ≤ q → A q := fun q h => by rw [← hAe]; exact Or.inr h
  have hS : va_S A s.heap s.heap [] := va_S.rf
  have hP : va_P D vwCl [(h0, .inr (9, [.ref m1, .ref m2, .ref m3, .int ik, .int wy, .int op, .int cl, .int cx0, .int cx1, .int cy0, .int cy1, .int ds, .ref m4, .ref m5, .ref m6, .ref m7, .ref m8, .ref m9, .int pn, .ref m10, .ref m11, .ref m12, .ref m13])), (m1, .inl (cI, 4, .inl gw)), (m2, .inl (cI, 4, .inl gh))] s.heap := hP
  have hl := lv_entry ([.ref h0, .int k, .int kq]) (n := 6) (Nat.le_of_ble_eq_true rfl)
  rw [lg_entry_eq]
  generalize (lg_sl ([.ref h0, .int k, .int kq]) ++ List.replicate (6 - (lg_sl ([.ref h0, .int k, .int kq])).length) Slot.unset).toArray = ls at hl ⊢
  have hl : lv_has ls 6 [(0, .ref h0), (1, .int k), (2, .int kq)] := hl
  clear hts0 hD0 hAe
  refine my_abs (fun R Q hR hQ => ?_)
  refine lv_aload_n hx hb dX9_differ_0 rfl (lv_at hl 0 rfl) ?_
  refine lv_iload_n hx hb dX9_differ_1 rfl (lv_at hl 1 rfl) ?_
  have hPc := hP.sub (ws' := [(h0, .inr (9, [.ref m1, .ref m2, .ref m3, .int ik, .int wy, .int op, .int cl, .int cx0, .int cx1, .int cy0, .int cy1, .int ds, .ref m4, .ref m5, .ref m6, .ref m7, .ref m8, .ref m9, .int pn, .ref m10, .ref m11, .ref m12, .ref m13])), (m1, .inl (cI, 4, .inl gw))]) [0, 1] rfl
  have hDc := hD.sub (ws' := [(h0, .inr (9, [.ref m1, .ref m2, .ref m3, .int ik, .int wy, .int op, .int cl, .int cx0, .int cx1, .int cy0, .int cy1, .int ds, .ref m4, .ref m5, .ref m6, .ref m7, .ref m8, .ref m9, .int pn, .ref m10, .ref m11, .ref m12, .ref m13])), (m1, .inl (cI, 4, .inl gw))]) [0, 1] (by decide) rfl
  have hKc := hK.sub (tys' := [(cI, .int)]) [0] rfl
  have hFc := va_free (wc := [(h0, .inr (9, [.ref m1, .ref m2, .ref m3, .int ik, .int wy, .int op, .int cl, .int cx0, .int cx1, .int cy0, .int cy1, .int ds, .ref m4, .ref m5, .ref m6, .ref m7, .ref m8, .ref m9, .int pn, .ref m10, .ref m11, .ref m12, .ref m13])), (m1, .inl (cI, 4, .inl gw))]) hD hS hA [0, 1] rfl
  refine va_calli (va_runV (As := [.int k]) (rest := []) ⟨hx, hb, hml, hown, hts⟩ (k_X9_isSheet l D s.heap.size h0 m1 m2 m3 m4 m5 m6 m7 m8 m9 m10 m11 m12 m13 ik wy op cl cx0 cx1 cy0 cy1 ds pn gw k cI) (cwV 1 hts (gV bw_490 bw_415 bw_416 bw_391 bw_414) rfl rfl rfl (by decide +kernel) ⟨(by rw [hR]; exact Nat.le_of_ble_eq_true rfl), (by rw [hR]; exact Nat.le_of_ble_eq_true rfl)⟩) ⟨cP_blind, va_recv hKc hPc (ci := 9) (q0 := 0) rfl rfl, cP_at hPc hKc hDc hN⟩ rfl rfl hl.1 rfl (lv_room (Nat.le_of_ble_eq_true rfl)) dX9_differ_2 ⟨(by rw [hR]; exact Nat.le_of_ble_eq_true rfl), (by rw [hR]; exact Nat.le_of_ble_eq_true rfl)⟩) hS (fun q _ h => hFc q h) hFc (fun r_1 u9 t9 H1 locs ht hvm hr_1 hB hz1 hk1 hS => ?_)
  try dsimp only at hr_1
  obtain ⟨hP1, hK1, hD1⟩ := hB
  rw [ht] at hP1
  obtain ⟨hP, hD⟩ := va_join (wr := [(m2, .inl (cI, 4, .inl gh))]) (w1 := [(h0, .inr (9, [.ref m1, .ref m2, .ref m3, .int ik, .int wy, .int op, .int cl, .int cx0, .int cx1, .int cy0, .int cy1, .int ds, .ref m4, .ref m5, .ref m6, .ref m7, .ref m8, .ref m9, .int pn, .ref m10, .ref m11, .ref m12, .ref m13])), (m1, .inl (cI, 4, .inl gw))]) hP hD [0, 1] [2] rfl rfl (by decide) (by decide) hk1 hFc hP1 hD1
  clear hz1 hk1 hFc hKc hDc hPc
  generalize H1 = H at hP hS ⊢
  have hP : va_P D vwCl [(m2, .inl (cI, 4, .inl gh)), (h0, .inr (9, [.ref m1, .ref m2, .ref m3, .int ik, .int wy, .int op, .int cl, .int cx0, .int cx1, .int cy0, .int cy1, .int ds, .ref m4, .ref m5, .ref m6, .ref m7, .ref m8, .ref m9, .int pn, .ref m10, .ref m11, .ref m12, .ref m13])), (m1, .inl (cI, 4, .inl gw))] H := hP
  have hD : va_D A [(m2, .inl (cI, 4, .inl gh)), (h0, .inr (9, [.ref m1, .ref m2, .ref m3, .int ik, .int wy, .int op, .int cl, .int cx0, .int cx1, .int cy0, .int cy1, .int ds, .ref m4, .ref m5, .ref m6, .ref m7, .ref m8, .ref m9, .int pn, .ref m10, .ref m11, .ref m12, .ref m13])), (m1, .inl (cI, 4, .inl gw))] := hD
  refine lv_if_eq (tgt := 46) hx hb dX9_differ_5 (by decide) (fun c_2 => ?_) (fun c_2 => ?_)
  · skip
    have f_3 := bz0 hr_1 c_2
    refine lv_iconst (v := (-1)) hx hb dX9_differ_46 (by decide) ?_
    have hP9 := hP.sub (ws' := [(h0, .inr (9, [.ref m1, .ref m2, .ref m3, .int ik, .int wy, .int op, .int cl, .int cx0, .int cx1, .int cy0, .int cy1, .int ds, .ref m4, .ref m5, .ref m6, .ref m7, .ref m8, .ref m9, .int pn, .ref m10, .ref m11, .ref m12, .ref m13])), (m1, .inl (cI, 4, .inl gw)), (m2, .inl (cI, 4, .inl gh))]) [1, 2, 0] rfl
    have hD9 := hD.sub (ws' := [(h0, .inr (9, [.ref m1, .ref m2, .ref m3, .int ik, .int wy, .int op, .int cl, .int cx0, .int cx1, .int cy0, .int cy1, .int ds, .ref m4, .ref m5, .ref m6, .ref m7, .ref m8, .ref m9, .int pn, .ref m10, .ref m11, .ref m12, .ref m13])), (m1, .inl (cI, 4, .inl gw)), (m2, .inl (cI, 4, .inl gh))]) [1, 2, 0] (by decide) rfl
    have hK9 := hK.sub (tys' := [(cI, .int)]) [0] rfl
    refine hQ _ _ _ _ _ ?_
    exact W.iret (v := (-1)) hx hb hr (fun t ht hW => ⟨⟨(-1), (), rfl, rfl, ⟨by rw [ht]; exact hP9, va_K.moved hW.alike hK9, hD9⟩⟩, hS.F ht⟩) hS.2.2 dX9_differ_47
  · skip
    have f_3 := bz1 hr_1 c_2
    refine lv_aload_n hx hb dX9_differ_8 rfl (lv_at hl 0 rfl) ?_
    refine lv_iload_n hx hb dX9_differ_9 rfl (lv_at hl 2 rfl) ?_
    have hPc := hP.sub (ws' := [(h0, .inr (9, [.ref m1, .ref m2, .ref m3, .int ik, .int wy, .int op, .int cl, .int cx0, .int cx1, .int cy0, .int cy1, .int ds, .ref m4, .ref m5, .ref m6, .ref m7, .ref m8, .ref m9, .int pn, .ref m10, .ref m11, .ref m12, .ref m13])), (m1, .inl (cI, 4, .inl gw))]) [1, 2] rfl
    have hDc := hD.sub (ws' := [(h0, .inr (9, [.ref m1, .ref m2, .ref m3, .int ik, .int wy, .int op, .int cl, .int cx0, .int cx1, .int cy0, .int cy1, .int ds, .ref m4, .ref m5, .ref m6, .ref m7, .ref m8, .ref m9, .int pn, .ref m10, .ref m11, .ref m12, .ref m13])), (m1, .inl (cI, 4, .inl gw))]) [1, 2] (by decide) rfl
    have hKc := hK.sub (tys' := [(cI, .int)]) [0] rfl
    have hFc := va_free (wc := [(h0, .inr (9, [.ref m1, .ref m2, .ref m3, .int ik, .int wy, .int op, .int cl, .int cx0, .int cx1, .int cy0, .int cy1, .int ds, .ref m4, .ref m5, .ref m6, .ref m7, .ref m8, .ref m9, .int pn, .ref m10, .ref m11, .ref m12, .ref m13])), (m1, .inl (cI, 4, .inl gw))]) hD hS hA [1, 2] rfl
    refine va_calli (va_runV (As := [.int kq]) (rest := []) ⟨hx, hb, hml, hown, hts⟩ (k_X9_isSheet l D H.size h0 m1 m2 m3 m4 m5 m6 m7 m8 m9 m10 m11 m12 m13 ik wy op cl cx0 cx1 cy0 cy1 ds pn gw kq cI) (cwV 1 hts (gV bw_490 bw_415 bw_416 bw_391 bw_414) rfl rfl rfl (by decide +kernel) ⟨(by rw [hR]; exact Nat.le_of_ble_eq_true rfl), (by rw [hR]; exact Nat.le_of_ble_eq_true rfl)⟩) ⟨cP_blind, va_recv hKc hPc (ci := 9) (q0 := 0) rfl rfl, cP_at hPc hKc hDc hN⟩ rfl rfl hl.1 rfl (lv_room (Nat.le_of_ble_eq_true rfl)) dX9_differ_10 ⟨(by rw [hR]; exact Nat.le_of_ble_eq_true rfl), (by rw [hR]; exact Nat.le_of_ble_eq_true rfl)⟩) hS (fun q _ h => hFc q h) hFc (fun r_4 u9 t9 H1 locs ht hvm hr_4 hB hz1 hk1 hS => ?_)
    try dsimp only at hr_4
    obtain ⟨hP1, hK1, hD1⟩ := hB
    rw [ht] at hP1
    obtain ⟨hP, hD⟩ := va_join (wr := [(m2, .inl (cI, 4, .inl gh))]) (w1 := [(h0, .inr (9, [.ref m1, .ref m2, .ref m3, .int ik, .int wy, .int op, .int cl, .int cx0, .int cx1, .int cy0, .int cy1, .int ds, .ref m4, .ref m5, .ref m6, .ref m7, .ref m8, .ref m9, .int pn, .ref m10, .ref m11, .ref m12, .ref m13])), (m1, .inl (cI, 4, .inl gw))]) hP hD [1, 2] [0] rfl rfl (by decide) (by decide) hk1 hFc hP1 hD1
    clear hz1 hk1 hFc hKc hDc hPc
    generalize H1 = H at hP hS ⊢
    have hP : va_P D vwCl [(m2, .inl (cI, 4, .inl gh)), (h0, .inr (9, [.ref m1, .ref m2, .ref m3, .int ik, .int wy, .int op, .int cl, .int cx0, .int cx1, .int cy0, .int cy1, .int ds, .ref m4, .ref m5, .ref m6, .ref m7, .ref m8, .ref m9, .int pn, .ref m10, .ref m11, .ref m12, .ref m13])), (m1, .inl (cI, 4, .inl gw))] H := hP
    have hD : va_D A [(m2, .inl (cI, 4, .inl gh)), (h0, .inr (9, [.ref m1, .ref m2, .ref m3, .int ik, .int wy, .int op, .int cl, .int cx0, .int cx1, .int cy0, .int cy1, .int ds, .ref m4, .ref m5, .ref m6, .ref m7, .ref m8, .ref m9, .int pn, .ref m10, .ref m11, .ref m12, .ref m13])), (m1, .inl (cI, 4, .inl gw))] := hD
    refine lv_if_eq (tgt := 46) hx hb dX9_differ_13 (by decide) (fun c_5 => ?_) (fun c_5 => ?_)
    · skip
      have f_6 := bz0 hr_4 c_5
      refine lv_iconst (v := (-1)) hx hb dX9_differ_46 (by decide) ?_
      have hP9 := hP.sub (ws' := [(h0, .inr (9, [.ref m1, .ref m2, .ref m3, .int ik, .int wy, .int op, .int cl, .int cx0, .int cx1, .int cy0, .int cy1, .int ds, .ref m4, .ref m5, .ref m6, .ref m7, .ref m8, .ref m9, .int pn, .ref m10, .ref m11, .ref m12, .ref m13])), (m1, .inl (cI, 4, .inl gw)), (m2, .inl (cI, 4, .inl gh))]) [1, 2, 0] rfl
      have hD9 := hD.sub (ws' := [(h0, .inr (9, [.ref m1, .ref m2, .ref m3, .int ik, .int wy, .int op, .int cl, .int cx0, .int cx1, .int cy0, .int cy1, .int ds, .ref m4, .ref m5, .ref m6, .ref m7, .ref m8, .ref m9, .int pn, .ref m10, .ref m11, .ref m12, .ref m13])), (m1, .inl (cI, 4, .inl gw)), (m2, .inl (cI, 4, .inl gh))]) [1, 2, 0] (by decide) rfl
      have hK9 := hK.sub (tys' := [(cI, .int)]) [0] rfl
      refine hQ _ _ _ _ _ ?_
      exact W.iret (v := (-1)) hx hb hr (fun t ht hW => ⟨⟨(-1), (), rfl, rfl, ⟨by rw [ht]; exact hP9, va_K.moved hW.alike hK9, hD9⟩⟩, hS.F ht⟩) hS.2.2 dX9_differ_47
    · skip
      have f_6 := bz1 hr_4 c_5
      refine lv_aload_n hx hb dX9_differ_16 rfl (lv_at hl 0 rfl) ?_
      refine va_get (D := D) (ci := 9) (v := .ref m1) (C := RX9) (T := TX9) (N := 23) hx hb hts hi_X9 hown hK hP 1 rfl rfl 0 (by decide) (hts _ bw_396) (fun _ h9 => h9) rfl dX9_differ_17 ?_
      refine lv_iload_n hx hb dX9_differ_20 rfl (lv_at hl 1 rfl) ?_
      refine va_iald hx hb hK hP 2 0 rfl rfl (vp_in_iff.mpr ⟨by omega, by omega⟩) dX9_differ_21 ?_
      refine lv_aload_n hx hb dX9_differ_22 rfl (lv_at hl 0 rfl) ?_
      refine va_get (D := D) (ci := 9) (v := .ref m1) (C := RX9) (T := TX9) (N := 23) hx hb hts hi_X9 hown hK hP 1 rfl rfl 0 (by decide) (hts _ bw_396) (fun _ h9 => h9) rfl dX9_differ_23 ?_
      refine lv_iload_n hx hb dX9_differ_26 rfl (lv_at hl 2 rfl) ?_
      refine va_iald hx hb hK hP 2 0 rfl rfl (vp_in_iff.mpr ⟨by omega, by omega⟩) dX9_differ_27 ?_
      refine lv_icmp_ne (tgt := 46) hx hb dX9_differ_28 (by decide) (fun c_7 => ?_) (fun c_7 => ?_)
      · skip
        have f_8 : ¬ ((gw k.toNatClampNeg).toInt = (gw kq.toNatClampNeg).toInt) := fn_eq rfl rfl c_7
        refine lv_iconst (v := (-1)) hx hb dX9_differ_46 (by decide) ?_
        have hP9 := hP.sub (ws' := [(h0, .inr (9, [.ref m1, .ref m2, .ref m3, .int ik, .int wy, .int op, .int cl, .int cx0, .int cx1, .int cy0, .int cy1, .int ds, .ref m4, .ref m5, .ref m6, .ref m7, .ref m8, .ref m9, .int pn, .ref m10, .ref m11, .ref m12, .ref m13])), (m1, .inl (cI, 4, .inl gw)), (m2, .inl (cI, 4, .inl gh))]) [1, 2, 0] rfl
        have hD9 := hD.sub (ws' := [(h0, .inr (9, [.ref m1, .ref m2, .ref m3, .int ik, .int wy, .int op, .int cl, .int cx0, .int cx1, .int cy0, .int cy1, .int ds, .ref m4, .ref m5, .ref m6, .ref m7, .ref m8, .ref m9, .int pn, .ref m10, .ref m11, .ref m12, .ref m13])), (m1, .inl (cI, 4, .inl gw)), (m2, .inl (cI, 4, .inl gh))]) [1, 2, 0] (by decide) rfl
        have hK9 := hK.sub (tys' := [(cI, .int)]) [0] rfl
        refine hQ _ _ _ _ _ ?_
        exact W.iret (v := (-1)) hx hb hr (fun t ht hW => ⟨⟨(-1), (), rfl, rfl, ⟨by rw [ht]; exact hP9, va_K.moved hW.alike hK9, hD9⟩⟩, hS.F ht⟩) hS.2.2 dX9_differ_47
      · skip
        have f_8 : (gw k.toNatClampNeg).toInt = (gw kq.toNatClampNeg).toInt := f_eq rfl rfl c_7
        refine lv_aload_n hx hb dX9_differ_31 rfl (lv_at hl 0 rfl) ?_
        refine va_get (D := D) (ci := 9) (v := .ref m2) (C := RX9) (T := TX9) (N := 23) hx hb hts hi_X9 hown hK hP 1 rfl rfl 1 (by decide) (hts _ bw_397) (fun _ h9 => h9) rfl dX9_differ_32 ?_
        refine lv_iload_n hx hb dX9_differ_35 rfl (lv_at hl 1 rfl) ?_
        refine va_iald hx hb hK hP 0 0 rfl rfl (vp_in_iff.mpr ⟨by omega, by omega⟩) dX9_differ_36 ?_
        refine lv_aload_n hx hb dX9_differ_37 rfl (lv_at hl 0 rfl) ?_
        refine va_get (D := D) (ci := 9) (v := .ref m2) (C := RX9) (T := TX9) (N := 23) hx hb hts hi_X9 hown hK hP 1 rfl rfl 1 (by decide) (hts _ bw_397) (fun _ h9 => h9) rfl dX9_differ_38 ?_
        refine lv_iload_n hx hb dX9_differ_41 rfl (lv_at hl 2 rfl) ?_
        refine va_iald hx hb hK hP 0 0 rfl rfl (vp_in_iff.mpr ⟨by omega, by omega⟩) dX9_differ_42 ?_
        refine lv_icmp_eq (tgt := 48) hx hb dX9_differ_43 (by decide) (fun c_9 => ?_) (fun c_9 => ?_)
        · skip
          have f_10 : (gh k.toNatClampNeg).toInt = (gh kq.toNatClampNeg).toInt := f_eq rfl rfl c_9
          exact False.elim (by omega)
        · skip
          have f_10 : ¬ ((gh k.toNatClampNeg).toInt = (gh kq.toNatClampNeg).toInt) := fn_eq rfl rfl c_9
          refine lv_iconst (v := (-1)) hx hb dX9_differ_46 (by decide) ?_
          have hP9 := hP.sub (ws' := [(h0, .inr (9, [.ref m1, .ref m2, .ref m3, .int ik, .int wy, .int op, .int cl, .int cx0, .int cx1, .int cy0, .int cy1, .int ds, .ref m4, .ref m5, .ref m6, .ref m7, .ref m8, .ref m9, .int pn, .ref m10, .ref m11, .ref m12, .ref m13])), (m1, .inl (cI, 4, .inl gw)), (m2, .inl (cI, 4, .inl gh))]) [1, 2, 0] rfl
          have hD9 := hD.sub (ws' := [(h0, .inr (9, [.ref m1, .ref m2, .ref m3, .int ik, .int wy, .int op, .int cl, .int cx0, .int cx1, .int cy0, .int cy1, .int ds, .ref m4, .ref m5, .ref m6, .ref m7, .ref m8, .ref m9, .int pn, .ref m10, .ref m11, .ref m12, .ref m13])), (m1, .inl (cI, 4, .inl gw)), (m2, .inl (cI, 4, .inl gh))]) [1, 2, 0] (by decide) rfl
          have hK9 := hK.sub (tys' := [(cI, .int)]) [0] rfl
          refine hQ _ _ _ _ _ ?_
          exact W.iret (v := (-1)) hx hb hr (fun t ht hW => ⟨⟨(-1), (), rfl, rfl, ⟨by rw [ht]; exact hP9, va_K.moved hW.alike hK9, hD9⟩⟩, hS.F ht⟩) hS.2.2 dX9_differ_47

set_option maxHeartbeats 4000000 in
set_option maxRecDepth 100000 in
theorem k_X9_look_ye (l : Launch) (D : va_G) (sz : Nat) (h0 m1 m2 m3 m4 m5 m6 m7 m8 m9 m10 m11 m12 m13 : Nat) (ik wy op cl cx0 cx1 cy0 cy1 ds pn : Int32) (gw : Nat → Int32) (gh : Nat → Int32) (gd : Nat → Int32) (k wh : Int32) (cI : ClassId) (hk : 0 ≤ k.toInt ∧ k.toInt ≤ 3) (hgw : 0 ≤ (gw k.toNatClampNeg).toInt ∧ (gw k.toNatClampNeg).toInt ≤ 64) (hgh : 0 ≤ (gh k.toNatClampNeg).toInt ∧ (gh k.toNatClampNeg).toInt ≤ 64) (hgp : 0 < (gw k.toNatClampNeg).toInt) (hwh : 0 ≤ wh.toInt ∧ wh.toInt ≤ 9) : Met l yX9_look (wB yX9_look cX9_look 8 (some .int)) ({ frames := 1, cells := 0, slots := 0, locals := 22 }) (cP D [(h0, .inr (9, [.ref m1, .ref m2, .ref m3, .int ik, .int wy, .int op, .int cl, .int cx0, .int cx1, .int cy0, .int cy1, .int ds, .ref m4, .ref m5, .ref m6, .ref m7, .ref m8, .ref m9, .int pn, .ref m10, .ref m11, .ref m12, .ref m13])), (m1, .inl (cI, 4, .inl gw)), (m2, .inl (cI, 4, .inl gh)), (m3, .inl (cI, 16384, .inl gd))] [(cI, .int)] sz [.ref h0, .int k, .int wh]) (va_Qi (fun (r : Int32) (_ : Unit) => r = lkP (fun t => gd (4096 * k.toNatClampNeg + t)) (gw k.toNatClampNeg) (gh k.toNatClampNeg) wh) (fun (_ : Unit) (t : State) => cB D (va_A [(h0, .inr (9, [.ref m1, .ref m2, .ref m3, .int ik, .int wy, .int op, .int cl, .int cx0, .int cx1, .int cy0, .int cy1, .int ds, .ref m4, .ref m5, .ref m6, .ref m7, .ref m8, .ref m9, .int pn, .ref m10, .ref m11, .ref m12, .ref m13])), (m1, .inl (cI, 4, .inl gw)), (m2, .inl (cI, 4, .inl gh)), (m3, .inl (cI, 16384, .inl gd))] sz) [(h0, .inr (9, [.ref m1, .ref m2, .ref m3, .int ik, .int wy, .int op, .int cl, .int cx0, .int cx1, .int cy0, .int cy1, .int ds, .ref m4, .ref m5, .ref m6, .ref m7, .ref m8, .ref m9, .int pn, .ref m10, .ref m11, .ref m12, .ref m13])), (m1, .inl (cI, 4, .inl gw)), (m2, .inl (cI, 4, .inl gh)), (m3, .inl (cI, 16384, .inl gd))] [(cI, .int)] t) (va_A [(h0, .inr (9, [.ref m1, .ref m2, .ref m3, .int ik, .int wy, .int op, .int cl, .int cx0, .int cx1, .int cy0, .int cy1, .int ds, .ref m4, .ref m5, .ref m6, .ref m7, .ref m8, .ref m9, .int pn, .ref m10, .ref m11, .ref m12, .ref m13])), (m1, .inl (cI, 4, .inl gw)), (m2, .inl (cI, 4, .inl gh)), (m3, .inl (cI, 16384, .inl gd))] sz)) 0 0 (va_A [(h0, .inr (9, [.ref m1, .ref m2, .ref m3, .int ik, .int wy, .int op, .int cl, .int cx0, .int cx1, .int cy0, .int cy1, .int ds, .ref m4, .ref m5, .ref m6, .ref m7, .ref m8, .ref m9, .int pn, .ref m10, .ref m11, .ref m12, .ref m13])), (m1, .inl (cI, 4, .inl gw)), (m2, .inl (cI, 4, .inl gh)), (m3, .inl (cI, 16384, .inl gd))] sz) := by
  refine Met.ofW (cc := cX9_look) (maxL := 8) (ret := (some .int)) (by decide) rfl ?_
  intro p e s m args below meth c s₁ B hml hv
  obtain ⟨rfl, hsz, hP, hK, hD0, hN⟩ := hv
  have hx := B.exec
  have hb := B.bytes
  have hr := B.returns
  have hts0 := atoms_spec (ws := (wB yX9_look cX9_look 8 (some .int))) B.pre
  have hts : ∀ w ∈ bigW, w.before _ s = true := fun w h => hts0 w (List.mem_cons_of_mem _ h)
  have hown : s.vm.findClass RX9 = some m.cls := findClass_of_methodNamed B.named
  have hlocks := B.notSynchronized
  subst hsz
  have hD := hD0.self (sz := s.heap.size)
  generalize hAe : va_A [(h0, .inr (9, [.ref m1, .ref m2, .ref m3, .int ik, .int wy, .int op, .int cl, .int cx0, .int cx1, .int cy0, .int cy1, .int ds, .ref m4, .ref m5, .ref m6, .ref m7, .ref m8, .ref m9, .int pn, .ref m10, .ref m11, .ref m12, .ref m13])), (m1, .inl (cI, 4, .inl gw)), (m2, .inl (cI, 4, .inl gh)), (m3, .inl (cI, 16384, .inl gd))] s.heap.size = A at hD ⊢
  have hA : ∀ q : Nat, s.heap.size ≤ q → A q := fun q h => by rw [← hAe]; exact Or.inr h
  have hS : va_S A s.heap s.heap [] := va_S.rf
  have hP : va_P D vwCl [(h0, .inr (9, [.ref m1, .ref m2, .ref m3, .int ik, .int wy, .int op, .int cl, .int cx0, .int cx1, .int cy0, .int cy1, .int ds, .ref m4, .ref m5, .ref m6, .ref m7, .ref m8, .ref m9, .int pn, .ref m10, .ref m11, .ref m12, .ref m13])), (m1, .inl (cI, 4, .inl gw)), (m2, .inl (cI, 4, .inl gh)), (m3, .inl (cI, 16384, .inl gd))] s.heap := hP
  have hl := lv_entry ([.ref h0, .int k, .int wh]) (n := 8) (Nat.le_of_ble_eq_true rfl)
  rw [lg_entry_eq]
  generalize (lg_sl ([.ref h0, .int k, .int wh]) ++ List.replicate (8 - (lg_sl ([.ref h0, .int k, .int wh])).length) Slot.unset).toArray = ls at hl ⊢
  have hl : lv_has ls 8 [(0, .ref h0), (1, .int k), (2, .int wh)] := hl
  clear hts0 hD0 hAe
  refine my_abs (fun R Q hR hQ => ?_)
  obtain ⟨W9, hW9, eW9⟩ := i_of (x := gw k.toNatClampNeg) (N := 65) (by omega) (by omega) (by decide)
  have eW9n : (gw k.toNatClampNeg).toNatClampNeg = W9 := by rw [eW9]; exact nI_clamp (by omega)
  have hW9t : (gw k.toNatClampNeg).toInt = (W9 : Int) := by rw [eW9]; exact nI_toInt (by omega)
  obtain ⟨H9, hH9, eH9⟩ := i_of (x := gh k.toNatClampNeg) (N := 65) (by omega) (by omega) (by decide)
  have eH9n : (gh k.toNatClampNeg).toNatClampNeg = H9 := by rw [eH9]; exact nI_clamp (by omega)
  have hH9t : (gh k.toNatClampNeg).toInt = (H9 : Int) := by rw [eH9]; exact nI_toInt (by omega)
  refine lv_aload_n hx hb dX9_look_0 rfl (lv_at hl 0 rfl) ?_
  refine lv_iload_n hx hb dX9_look_1 rfl (lv_at hl 1 rfl) ?_
  have hPc := hP.sub (ws' := [(h0, .inr (9, [.ref m1, .ref m2, .ref m3, .int ik, .int wy, .int op, .int cl, .int cx0, .int cx1, .int cy0, .int cy1, .int ds, .ref m4, .ref m5, .ref m6, .ref m7, .ref m8, .ref m9, .int pn, .ref m10, .ref m11, .ref m12, .ref m13])), (m1, .inl (cI, 4, .inl gw))]) [0, 1] rfl
  have hDc := hD.sub (ws' := [(h0, .inr (9, [.ref m1, .ref m2, .ref m3, .int ik, .int wy, .int op, .int cl, .int cx0, .int cx1, .int cy0, .int cy1, .int ds, .ref m4, .ref m5, .ref m6, .ref m7, .ref m8, .ref m9, .int pn, .ref m10, .ref m11, .ref m12, .ref m13])), (m1, .inl (cI, 4, .inl gw))]) [0, 1] (by decide) rfl
  have hKc := hK.sub (tys' := [(cI, .int)]) [0] rfl
  have hFc := va_free (wc := [(h0, .inr (9, [.ref m1, .ref m2, .ref m3, .int ik, .int wy, .int op, .int cl, .int cx0, .int cx1, .int cy0, .int cy1, .int ds, .ref m4, .ref m5, .ref m6, .ref m7, .ref m8, .ref m9, .int pn, .ref m10, .ref m11, .ref m12, .ref m13])), (m1, .inl (cI, 4, .inl gw))]) hD hS hA [0, 1] rfl
  refine va_calli (va_runV (As := [.int k]) (rest := []) ⟨hx, hb, hml, hown, hts⟩ (k_X9_isSheet l D s.heap.size h0 m1 m2 m3 m4 m5 m6 m7 m8 m9 m10 m11 m12 m13 ik wy op cl cx0 cx1 cy0 cy1 ds pn gw k cI) (cwV 1 hts (gV bw_490 bw_415 bw_416 bw_391 bw_414) rfl rfl rfl (by decide +kernel) ⟨(by rw [hR]; exact Nat.le_of_ble_eq_true rfl), (by rw [hR]; exact Nat.le_of_ble_eq_true rfl)⟩) ⟨cP_blind, va_recv hKc hPc (ci := 9) (q0 := 0) rfl rfl, cP_at hPc hKc hDc hN⟩ rfl rfl hl.1 rfl (lv_room (Nat.le_of_ble_eq_true rfl)) dX9_look_2 ⟨(by rw [hR]; exact Nat.le_of_ble_eq_true rfl), (by rw [hR]; exact Nat.le_of_ble_eq_true rfl)⟩) hS (fun q _ h => hFc q h) hFc (fun r_1 u9 t9 H1 locs ht hvm hr_1 hB hz1 hk1 hS => ?_)
  try dsimp only at hr_1
  obtain ⟨hP1, hK1, hD1⟩ := hB
  rw [ht] at hP1
  obtain ⟨hP, hD⟩ := va_join (wr := [(m2, .inl (cI, 4, .inl gh)), (m3, .inl (cI, 16384, .inl gd))]) (w1 := [(h0, .inr (9, [.ref m1, .ref m2, .ref m3, .int ik, .int wy, .int op, .int cl, .int cx0, .int cx1, .int cy0, .int cy1, .int ds, .ref m4, .ref m5, .ref m6, .ref m7, .ref m8, .ref m9, .int pn, .ref m10, .ref m11, .ref m12, .ref m13])), (m1, .inl (cI, 4, .inl gw))]) hP hD [0, 1] [2, 3] rfl rfl (by decide) (by decide) hk1 hFc hP1 hD1
  clear hz1 hk1 hFc hKc hDc hPc
  generalize H1 = H at hP hS ⊢
  have hP : va_P D vwCl [(m2, .inl (cI, 4, .inl gh)), (m3, .inl (cI, 16384, .inl gd)), (h0, .inr (9, [.ref m1, .ref m2, .ref m3, .int ik, .int wy, .int op, .int cl, .int cx0, .int cx1, .int cy0, .int cy1, .int ds, .ref m4, .ref m5, .ref m6, .ref m7, .ref m8, .ref m9, .int pn, .ref m10, .ref m11, .ref m12, .ref m13])), (m1, .inl (cI, 4, .inl gw))] H := hP
  have hD : va_D A [(m2, .inl (cI, 4, .inl gh)), (m3, .inl (cI, 16384, .inl gd)), (h0, .inr (9, [.ref m1, .ref m2, .ref m3, .int ik, .int wy, .int op, .int cl, .int cx0, .int cx1, .int cy0, .int cy1, .int ds, .ref m4, .ref m5, .ref m6, .ref m7, .ref m8, .ref m9, .int pn, .ref m10, .ref m11, .ref m12, .ref m13])), (m1, .inl (cI, 4, .inl gw))] := hD
  refine lv_if_eq (tgt := 18) hx hb dX9_look_5 (by decide) (fun c_2 => ?_) (fun c_2 => ?_)
  · skip
    have f_3 := bz0 hr_1 c_2
    exact False.elim (by omega)
  · skip
    have f_3 := bz1 hr_1 c_2
    refine lv_iload_n hx hb dX9_look_8 rfl (lv_at hl 2 rfl) ?_
    refine lv_if_lt (tgt := 18) hx hb dX9_look_9 (by decide) (fun c_4 => ?_) (fun c_4 => ?_)
    · skip
      have f_5 : wh.toInt < 0 := f_lt rfl (by decide) c_4
      exact False.elim (by omega)
    · skip
      have f_5 : ¬ (wh.toInt < 0) := fn_lt rfl (by decide) c_4
      refine lv_iload_n hx hb dX9_look_12 rfl (lv_at hl 2 rfl) ?_
      refine lv_bipush (v := 9) hx hb dX9_look_13 (by decide) ?_
      refine lv_icmp_le (tgt := 20) hx hb dX9_look_15 (by decide) (fun c_6 => ?_) (fun c_6 => ?_)
      · skip
        have f_7 : wh.toInt ≤ 9 := f_le rfl (by decide) c_6
        obtain ⟨j9, hj9, ej9⟩ := i_of (x := wh) (N := 10) (by omega) (by omega) (by decide)
        subst ej9
        rcases (show j9 = 0 ∨ j9 = 1 ∨ j9 = 2 ∨ j9 = 3 ∨ j9 = 4 ∨ j9 = 5 ∨ j9 = 6 ∨ j9 = 7 ∨ j9 = 8 ∨ j9 = 9 by omega) with rfl | rfl | rfl | rfl | rfl | rfl | rfl | rfl | rfl | rfl
        · skip
          have hl : lv_has ls 8 [(0, .ref h0), (1, .int k), (2, .int 0)] := hl
          refine lv_iload_n hx hb dX9_look_20 rfl (lv_at hl 2 rfl) ?_
          refine lv_iconst (v := 4) hx hb dX9_look_21 (by decide) ?_
          refine lv_icmp_ne (tgt := 32) hx hb dX9_look_22 (by decide) (fun c_8 => ?_) (fun c_8 => ?_)
          · skip
            refine lv_iload_n hx hb dX9_look_32 rfl (lv_at hl 2 rfl) ?_
            refine lv_iconst (v := 5) hx hb dX9_look_33 (by decide) ?_
            refine lv_icmp_ne (tgt := 44) hx hb dX9_look_34 (by decide) (fun c_10 => ?_) (fun c_10 => ?_)
            · skip
              refine lv_iload_n hx hb dX9_look_44 rfl (lv_at hl 2 rfl) ?_
              refine lv_bipush (v := 6) hx hb dX9_look_45 (by decide) ?_
              refine lv_icmp_ge (tgt := 54) hx hb dX9_look_47 (by decide) (fun c_12 => ?_) (fun c_12 => ?_)
              · skip
                exact absurd c_12 (by decide)
              · skip
                refine lv_iconst (v := (-1)) hx hb dX9_look_50 (by decide) ?_
                refine lv_goto (tgt := 55) hx hb dX9_look_51 (by decide) ?_
                refine lv_istore_n (lv' := [(3, .int (-1)), (0, .ref h0), (1, .int k), (2, .int 0)]) hx hb dX9_look_55 rfl hl (by decide) rfl (fun ls hl => ?_)
                refine lv_iconst (v := 0) hx hb dX9_look_56 (by decide) ?_
                refine lv_istore (lv' := [(4, .int 0), (3, .int (-1)), (0, .ref h0), (1, .int k), (2, .int 0)]) hx hb dX9_look_57 hl (by decide) rfl (fun ls hl => ?_)
                have loop_14 : ∀ (n : Nat) (j : Nat) (x4 : Int32) (x3 : Int32) (H : Heap) (locs : List Loc) (ls : Array Slot), (j ≤ 64) → (64 + 1 ≤ j + n) → (x4 = nI j) → (j ≤ H9) → (x3 = smL (blF (fun t => gd (4096 * k.toNatClampNeg + t)) 1) W9 (-1) j) → va_P D vwCl [(m2, .inl (cI, 4, .inl gh)), (m3, .inl (cI, 16384, .inl gd)), (h0, .inr (9, [.ref m1, .ref m2, .ref m3, .int ik, .int wy, .int op, .int cl, .int cx0, .int cx1, .int cy0, .int cy1, .int ds, .ref m4, .ref m5, .ref m6, .ref m7, .ref m8, .ref m9, .int pn, .ref m10, .ref m11, .ref m12, .ref m13])), (m1, .inl (cI, 4, .inl gw))] H → va_D A [(m2, .inl (cI, 4, .inl gh)), (m3, .inl (cI, 16384, .inl gd)), (h0, .inr (9, [.ref m1, .ref m2, .ref m3, .int ik, .int wy, .int op, .int cl, .int cx0, .int cx1, .int cy0, .int cy1, .int ds, .ref m4, .ref m5, .ref m6, .ref m7, .ref m8, .ref m9, .int pn, .ref m10, .ref m11, .ref m12, .ref m13])), (m1, .inl (cI, 4, .inl gw))] → va_S A s.heap H locs → lv_has ls 8 [(4, .int x4), (3, .int x3), (0, .ref h0), (1, .int k), (2, .int 0)] → W p l e R s m ([.ref h0, .int k, .int (nI 0)] : List Value).toArray below meth c H locs 0 0 Q (F0 m 59 ls []) := by
                  intro n
                  induction n with
                  | zero =>
                    intro j x4 x3 H locs ls hi_j hm_j ex_j hjo eto hP hD hS hl
                    exact absurd (show False by omega) not_false
                  | succ n ih_15 =>
                    intro j x4 x3 H locs ls hi_j hm_j ex_j hjo eto hP hD hS hl
                    have hx_j : x4.toInt = (j : Int) := by rw [ex_j]; exact nI_toInt (by omega)
                    have hc_j : x4.toNatClampNeg = j := by rw [ex_j]; exact nI_clamp (by omega)
                    refine lv_iload hx hb dX9_look_59 (lv_at hl 0 rfl) ?_
                    refine lv_aload_n hx hb dX9_look_61 rfl (lv_at hl 2 rfl) ?_
                    refine va_get (D := D) (ci := 9) (v := .ref m2) (C := RX9) (T := TX9) (N := 23) hx hb hts hi_X9 hown hK hP 2 rfl rfl 1 (by decide) (hts _ bw_397) (fun _ h9 => h9) rfl dX9_look_62 ?_
                    refine lv_iload_n hx hb dX9_look_65 rfl (lv_at hl 3 rfl) ?_
                    refine va_iald hx hb hK hP 0 0 rfl rfl (vp_in_iff.mpr ⟨by omega, by omega⟩) dX9_look_66 ?_
                    refine lv_icmp_ge (tgt := 187) hx hb dX9_look_67 (by decide) (fun c_16 => ?_) (fun c_16 => ?_)
                    · skip
                      have f_17 : (gh k.toNatClampNeg).toInt ≤ (j : Int) := f_le rfl hx_j c_16
                      refine lv_iload_n hx hb dX9_look_187 rfl (lv_at hl 1 rfl) ?_
                      have hP9 := hP.sub (ws' := [(h0, .inr (9, [.ref m1, .ref m2, .ref m3, .int ik, .int wy, .int op, .int cl, .int cx0, .int cx1, .int cy0, .int cy1, .int ds, .ref m4, .ref m5, .ref m6, .ref m7, .ref m8, .ref m9, .int pn, .ref m10, .ref m11, .ref m12, .ref m13])), (m1, .inl (cI, 4, .inl gw)), (m2, .inl (cI, 4, .inl gh)), (m3, .inl (cI, 16384, .inl gd))]) [2, 3, 0, 1] rfl
                      have hD9 := hD.sub (ws' := [(h0, .inr (9, [.ref m1, .ref m2, .ref m3, .int ik, .int wy, .int op, .int cl, .int cx0, .int cx1, .int cy0, .int cy1, .int ds, .ref m4, .ref m5, .ref m6, .ref m7, .ref m8, .ref m9, .int pn, .ref m10, .ref m11, .ref m12, .ref m13])), (m1, .inl (cI, 4, .inl gw)), (m2, .inl (cI, 4, .inl gh)), (m3, .inl (cI, 16384, .inl gd))]) [2, 3, 0, 1] (by decide) rfl
                      have hK9 := hK.sub (tys' := [(cI, .int)]) [0] rfl
                      refine hQ _ _ _ _ _ ?_
                      exact W.iret (v := x3) hx hb hr (fun t ht hW => ⟨⟨x3, (), rfl, (show _ = lkP (fun t => gd (4096 * k.toNatClampNeg + t)) (gw k.toNatClampNeg) (gh k.toNatClampNeg) (nI 0) from (show _ = smL (blF (fun t => gd (4096 * k.toNatClampNeg + t)) 1) (gw k.toNatClampNeg).toNatClampNeg (-1) (gh k.toNatClampNeg).toNatClampNeg from (by rw [eW9n, eH9n, ← show j = H9 by omega]; exact eto)).trans (if_pos (by decide)).symm), ⟨by rw [ht]; exact hP9, va_K.moved hW.alike hK9, hD9⟩⟩, hS.F ht⟩) hS.2.2 dX9_look_188
                    · skip
                      have f_17 : ¬ ((gh k.toNatClampNeg).toInt ≤ (j : Int)) := fn_le rfl hx_j c_16
                      refine lv_iconst (v := 0) hx hb dX9_look_70 (by decide) ?_
                      refine lv_istore (lv' := [(5, .int 0), (4, .int x4), (3, .int x3), (0, .ref h0), (1, .int k), (2, .int 0)]) hx hb dX9_look_71 hl (by decide) rfl (fun ls hl => ?_)
                      have loop_18 : ∀ (n : Nat) (i : Nat) (x5 : Int32) (z3 : Int32) (H : Heap) (locs : List Loc) (ls : Array Slot), (i ≤ 64) → (64 + 1 ≤ i + n) → (x5 = nI i) → (i ≤ W9) → (z3 = smR (blF (fun t => gd (4096 * k.toNatClampNeg + t)) 1) j (smL (blF (fun t => gd (4096 * k.toNatClampNeg + t)) 1) W9 (-1) j) i) → va_P D vwCl [(m2, .inl (cI, 4, .inl gh)), (m3, .inl (cI, 16384, .inl gd)), (h0, .inr (9, [.ref m1, .ref m2, .ref m3, .int ik, .int wy, .int op, .int cl, .int cx0, .int cx1, .int cy0, .int cy1, .int ds, .ref m4, .ref m5, .ref m6, .ref m7, .ref m8, .ref m9, .int pn, .ref m10, .ref m11, .ref m12, .ref m13])), (m1, .inl (cI, 4, .inl gw))] H → va_D A [(m2, .inl (cI, 4, .inl gh)), (m3, .inl (cI, 16384, .inl gd)), (h0, .inr (9, [.ref m1, .ref m2, .ref m3, .int ik, .int wy, .int op, .int cl, .int cx0, .int cx1, .int cy0, .int cy1, .int ds, .ref m4, .ref m5, .ref m6, .ref m7, .ref m8, .ref m9, .int pn, .ref m10, .ref m11, .ref m12, .ref m13])), (m1, .inl (cI, 4, .inl gw))] → va_S A s.heap H locs → lv_has ls 8 [(5, .int x5), (4, .int x4), (3, .int z3), (0, .ref h0), (1, .int k), (2, .int 0)] → W p l e R s m ([.ref h0, .int k, .int (nI 0)] : List Value).toArray below meth c H locs 0 0 Q (F0 m 73 ls []) := by
                        intro n
                        induction n with
                        | zero =>
                          intro i x5 z3 H locs ls hi_i hm_i ex_i hio eti hP hD hS hl
                          exact absurd (show False by omega) not_false
                        | succ n ih_19 =>
                          intro i x5 z3 H locs ls hi_i hm_i ex_i hio eti hP hD hS hl
                          have hx_i : x5.toInt = (i : Int) := by rw [ex_i]; exact nI_toInt (by omega)
                          have hc_i : x5.toNatClampNeg = i := by rw [ex_i]; exact nI_clamp (by omega)
                          refine lv_iload hx hb dX9_look_73 (lv_at hl 0 rfl) ?_
                          refine lv_aload_n hx hb dX9_look_75 rfl (lv_at hl 3 rfl) ?_
                          refine va_get (D := D) (ci := 9) (v := .ref m1) (C := RX9) (T := TX9) (N := 23) hx hb hts hi_X9 hown hK hP 2 rfl rfl 0 (by decide) (hts _ bw_396) (fun _ h9 => h9) rfl dX9_look_76 ?_
                          refine lv_iload_n hx hb dX9_look_79 rfl (lv_at hl 4 rfl) ?_
                          refine va_iald hx hb hK hP 3 0 rfl rfl (vp_in_iff.mpr ⟨by omega, by omega⟩) dX9_look_80 ?_
                          refine lv_icmp_ge (tgt := 181) hx hb dX9_look_81 (by decide) (fun c_20 => ?_) (fun c_20 => ?_)
                          · skip
                            have f_21 : (gw k.toNatClampNeg).toInt ≤ (i : Int) := f_le rfl hx_i c_20
                            obtain ⟨y_22, ey_22⟩ : ∃ y : Int32, y = x4 + 1 := ⟨_, rfl⟩
                            refine lv_iinc (v := y_22) (lv' := [(4, .int y_22), (5, .int x5), (3, .int z3), (0, .ref h0), (1, .int k), (2, .int 0)]) hx hb dX9_look_181 hl (k := 1) rfl (by rw [ey_22]; rfl) (by decide) rfl (fun ls hl => ?_)
                            refine lv_goto (tgt := 59) hx hb dX9_look_184 (by decide) ?_
                            exact ih_15 (j + 1) y_22 z3 _ _ _ (by omega) (by omega) (by rw [ey_22, ex_j]; exact nI_1 j) (by omega) (sm_nx eti (by omega)) (hP.sub (ws' := [(m2, .inl (cI, 4, .inl gh)), (m3, .inl (cI, 16384, .inl gd)), (h0, .inr (9, [.ref m1, .ref m2, .ref m3, .int ik, .int wy, .int op, .int cl, .int cx0, .int cx1, .int cy0, .int cy1, .int ds, .ref m4, .ref m5, .ref m6, .ref m7, .ref m8, .ref m9, .int pn, .ref m10, .ref m11, .ref m12, .ref m13])), (m1, .inl (cI, 4, .inl gw))]) [0, 1, 2, 3] rfl) (hD.sub (ws' := [(m2, .inl (cI, 4, .inl gh)), (m3, .inl (cI, 16384, .inl gd)), (h0, .inr (9, [.ref m1, .ref m2, .ref m3, .int ik, .int wy, .int op, .int cl, .int cx0, .int cx1, .int cy0, .int cy1, .int ds, .ref m4, .ref m5, .ref m6, .ref m7, .ref m8, .ref m9, .int pn, .ref m10, .ref m11, .ref m12, .ref m13])), (m1, .inl (cI, 4, .inl gw))]) [0, 1, 2, 3] (by decide) rfl) hS (lv_sub hl [0, 2, 3, 4, 5] rfl)
                          · skip
                            have f_21 : ¬ ((gw k.toNatClampNeg).toInt ≤ (i : Int)) := fn_le rfl hx_i c_20
                            refine lv_aload_n hx hb dX9_look_84 rfl (lv_at hl 3 rfl) ?_
                            refine va_get (D := D) (ci := 9) (v := .ref m3) (C := RX9) (T := TX9) (N := 23) hx hb hts hi_X9 hown hK hP 2 rfl rfl 2 (by decide) (hts _ bw_398) (fun _ h9 => h9) rfl dX9_look_85 ?_
                            refine lv_iload_n hx hb dX9_look_88 rfl (lv_at hl 4 rfl) ?_
                            refine lv_iload hx hb dX9_look_89 (lv_at hl 0 rfl) ?_
                            refine lv_iload hx hb dX9_look_91 (lv_at hl 1 rfl) ?_
                            have hPc := hP.sub (ws' := []) [] rfl
                            have hDc := hD.sub (ws' := []) [] (by decide) rfl
                            have hKc := hK.sub (tys' := []) [] rfl
                            have hFc := va_free (wc := []) hD hS hA [] rfl
                            refine va_calli (va_runS (As := [.int k, .int x5, .int x4]) (rest := [.ref m3]) ⟨hx, hb, hml, hown, hts⟩ (k_X9_spot l D H.size k x5 x4) (va_cwS 3 hts (gS bw_551 bw_421 bw_391 bw_420) rfl rfl rfl (by decide +kernel) ⟨(by rw [hR]; exact Nat.le_of_ble_eq_true rfl), (by rw [hR]; exact Nat.le_of_ble_eq_true rfl)⟩) ⟨cP_blind, cP_at hPc hKc hDc hN⟩ rfl rfl hl.1 rfl (lv_room (Nat.le_of_ble_eq_true rfl)) dX9_look_93 ⟨(by rw [hR]; exact Nat.le_of_ble_eq_true rfl), (by rw [hR]; exact Nat.le_of_ble_eq_true rfl)⟩) hS (fun q _ h => hFc q h) hFc (fun r_23 u9 t9 H1 locs ht hvm hr_23 hB hz1 hk1 hS => ?_)
                            try dsimp only at hr_23
                            have hP1 : va_P D vwCl [] H1 := vP_nil
                            have hD1 : va_D (va_A [] H.size) [] := vD_nil
                            obtain ⟨hP, hD⟩ := va_join (wr := [(m2, .inl (cI, 4, .inl gh)), (m3, .inl (cI, 16384, .inl gd)), (h0, .inr (9, [.ref m1, .ref m2, .ref m3, .int ik, .int wy, .int op, .int cl, .int cx0, .int cx1, .int cy0, .int cy1, .int ds, .ref m4, .ref m5, .ref m6, .ref m7, .ref m8, .ref m9, .int pn, .ref m10, .ref m11, .ref m12, .ref m13])), (m1, .inl (cI, 4, .inl gw))]) (w1 := []) hP hD [] [0, 1, 2, 3] rfl rfl (by decide) (by decide) hk1 hFc hP1 hD1
                            clear hz1 hk1 hFc hKc hDc hPc
                            generalize H1 = H at hP hS ⊢
                            have hP : va_P D vwCl [(m2, .inl (cI, 4, .inl gh)), (m3, .inl (cI, 16384, .inl gd)), (h0, .inr (9, [.ref m1, .ref m2, .ref m3, .int ik, .int wy, .int op, .int cl, .int cx0, .int cx1, .int cy0, .int cy1, .int ds, .ref m4, .ref m5, .ref m6, .ref m7, .ref m8, .ref m9, .int pn, .ref m10, .ref m11, .ref m12, .ref m13])), (m1, .inl (cI, 4, .inl gw))] H := hP
                            have hD : va_D A [(m2, .inl (cI, 4, .inl gh)), (m3, .inl (cI, 16384, .inl gd)), (h0, .inr (9, [.ref m1, .ref m2, .ref m3, .int ik, .int wy, .int op, .int cl, .int cx0, .int cx1, .int cy0, .int cy1, .int ds, .ref m4, .ref m5, .ref m6, .ref m7, .ref m8, .ref m9, .int pn, .ref m10, .ref m11, .ref m12, .ref m13])), (m1, .inl (cI, 4, .inl gw))] := hD
                            refine va_iald hx hb hK hP 1 0 rfl rfl (by rw [hr_23]; exact sp_in (by omega) (by omega) (by omega) (by omega) (by omega) (by omega)) dX9_look_96 ?_
                            refine my_fold (v := gd (4096 * k.toNatClampNeg + ixP (nI i) (nI j))) (congrArg gd (by rw [hr_23, sp_cl (by omega) (by omega) (by omega) (by omega) (by omega) (by omega), ex_i, ex_j])) ?_
                            refine lv_istore (lv' := [(6, .int (gd (4096 * k.toNatClampNeg + ixP (nI i) (nI j)))), (5, .int x5), (4, .int x4), (3, .int z3), (0, .ref h0), (1, .int k), (2, .int 0)]) hx hb dX9_look_97 hl (by decide) rfl (fun ls hl => ?_)
                            refine lv_iload_n hx hb dX9_look_99 rfl (lv_at hl 6 rfl) ?_
                            refine lv_iconst (v := 5) hx hb dX9_look_100 (by decide) ?_
                            refine lv_icmp_le (tgt := 119) hx hb dX9_look_101 (by decide) (fun c_24 => ?_) (fun c_24 => ?_)
                            · skip
                              refine lv_iload hx hb dX9_look_119 (lv_at hl 0 rfl) ?_
                              refine lv_iconst (v := 0) hx hb dX9_look_121 (by decide) ?_
                              have hPc := hP.sub (ws' := []) [] rfl
                              have hDc := hD.sub (ws' := []) [] (by decide) rfl
                              have hKc := hK.sub (tys' := []) [] rfl
                              have hFc := va_free (wc := []) hD hS hA [] rfl
                              refine va_calli (va_runS (As := [.int (gd (4096 * k.toNatClampNeg + ixP (nI i) (nI j))), .int 0]) (rest := []) ⟨hx, hb, hml, hown, hts⟩ (k_X9_channel_0 l D H.size (gd (4096 * k.toNatClampNeg + ixP (nI i) (nI j)))) (va_cwS 2 hts (gS bw_441 bw_438 bw_391 bw_437) rfl rfl rfl (by decide +kernel) ⟨(by rw [hR]; exact Nat.le_of_ble_eq_true rfl), (by rw [hR]; exact Nat.le_of_ble_eq_true rfl)⟩) ⟨cP_blind, cP_at hPc hKc hDc hN⟩ rfl rfl hl.1 rfl (lv_room (Nat.le_of_ble_eq_true rfl)) dX9_look_122 ⟨(by rw [hR]; exact Nat.le_of_ble_eq_true rfl), (by rw [hR]; exact Nat.le_of_ble_eq_true rfl)⟩) hS (fun q _ h => hFc q h) hFc (fun r_26 u9 t9 H1 locs ht hvm hr_26 hB hz1 hk1 hS => ?_)
                              try dsimp only at hr_26
                              have hP1 : va_P D vwCl [] H1 := vP_nil
                              have hD1 : va_D (va_A [] H.size) [] := vD_nil
                              obtain ⟨hP, hD⟩ := va_join (wr := [(m2, .inl (cI, 4, .inl gh)), (m3, .inl (cI, 16384, .inl gd)), (h0, .inr (9, [.ref m1, .ref m2, .ref m3, .int ik, .int wy, .int op, .int cl, .int cx0, .int cx1, .int cy0, .int cy1, .int ds, .ref m4, .ref m5, .ref m6, .ref m7, .ref m8, .ref m9, .int pn, .ref m10, .ref m11, .ref m12, .ref m13])), (m1, .inl (cI, 4, .inl gw))]) (w1 := []) hP hD [] [0, 1, 2, 3] rfl rfl (by decide) (by decide) hk1 hFc hP1 hD1
                              clear hz1 hk1 hFc hKc hDc hPc
                              generalize H1 = H at hP hS ⊢
                              have hP : va_P D vwCl [(m2, .inl (cI, 4, .inl gh)), (m3, .inl (cI, 16384, .inl gd)), (h0, .inr (9, [.ref m1, .ref m2, .ref m3, .int ik, .int wy, .int op, .int cl, .int cx0, .int cx1, .int cy0, .int cy1, .int ds, .ref m4, .ref m5, .ref m6, .ref m7, .ref m8, .ref m9, .int pn, .ref m10, .ref m11, .ref m12, .ref m13])), (m1, .inl (cI, 4, .inl gw))] H := hP
                              have hD : va_D A [(m2, .inl (cI, 4, .inl gh)), (m3, .inl (cI, 16384, .inl gd)), (h0, .inr (9, [.ref m1, .ref m2, .ref m3, .int ik, .int wy, .int op, .int cl, .int cx0, .int cx1, .int cy0, .int cy1, .int ds, .ref m4, .ref m5, .ref m6, .ref m7, .ref m8, .ref m9, .int pn, .ref m10, .ref m11, .ref m12, .ref m13])), (m1, .inl (cI, 4, .inl gw))] := hD
                              refine lv_if_eq (tgt := 175) hx hb dX9_look_125 (by decide) (fun c_27 => ?_) (fun c_27 => ?_)
                              · skip
                                have f_28 : r_26.toInt = 0 := f_eq rfl (by decide) c_27
                                obtain ⟨y_29, ey_29⟩ : ∃ y : Int32, y = x5 + 1 := ⟨_, rfl⟩
                                refine lv_iinc (v := y_29) (lv' := [(5, .int y_29), (6, .int (gd (4096 * k.toNatClampNeg + ixP (nI i) (nI j)))), (4, .int x4), (3, .int z3), (0, .ref h0), (1, .int k), (2, .int 0)]) hx hb dX9_look_175 hl (k := 1) rfl (by rw [ey_29]; rfl) (by decide) rfl (fun ls hl => ?_)
                                refine lv_goto (tgt := 73) hx hb dX9_look_178 (by decide) ?_
                                exact ih_19 (i + 1) y_29 z3 _ _ _ (by omega) (by omega) (by rw [ey_29, ex_i]; exact nI_1 i) (by omega) (by rw [show smR (blF (fun t => gd (4096 * k.toNatClampNeg + t)) 1) j (smL (blF (fun t => gd (4096 * k.toNatClampNeg + t)) 1) W9 (-1) j) (i + 1) = (blF (fun t => gd (4096 * k.toNatClampNeg + t)) 1) j i z3 from congrArg ((blF (fun t => gd (4096 * k.toNatClampNeg + t)) 1) j i) eti.symm]; exact (show (blF (fun t => gd (4096 * k.toNatClampNeg + t)) 1) j i z3 = z3 from if_pos (hr_26.symm.trans c_27)).symm) (hP.sub (ws' := [(m2, .inl (cI, 4, .inl gh)), (m3, .inl (cI, 16384, .inl gd)), (h0, .inr (9, [.ref m1, .ref m2, .ref m3, .int ik, .int wy, .int op, .int cl, .int cx0, .int cx1, .int cy0, .int cy1, .int ds, .ref m4, .ref m5, .ref m6, .ref m7, .ref m8, .ref m9, .int pn, .ref m10, .ref m11, .ref m12, .ref m13])), (m1, .inl (cI, 4, .inl gw))]) [0, 1, 2, 3] rfl) (hD.sub (ws' := [(m2, .inl (cI, 4, .inl gh)), (m3, .inl (cI, 16384, .inl gd)), (h0, .inr (9, [.ref m1, .ref m2, .ref m3, .int ik, .int wy, .int op, .int cl, .int cx0, .int cx1, .int cy0, .int cy1, .int ds, .ref m4, .ref m5, .ref m6, .ref m7, .ref m8, .ref m9, .int pn, .ref m10, .ref m11, .ref m12, .ref m13])), (m1, .inl (cI, 4, .inl gw))]) [0, 1, 2, 3] (by decide) rfl) hS (lv_sub hl [0, 2, 3, 4, 5, 6] rfl)
                              · skip
                                have f_28 : ¬ (r_26.toInt = 0) := fn_eq rfl (by decide) c_27
                                refine lv_iload_n hx hb dX9_look_128 rfl (lv_at hl 6 rfl) ?_
                                refine lv_iconst (v := 2) hx hb dX9_look_129 (by decide) ?_
                                refine lv_icmp_ge (tgt := 138) hx hb dX9_look_130 (by decide) (fun c_30 => ?_) (fun c_30 => ?_)
                                · skip
                                  exact absurd c_30 (by decide)
                                · skip
                                  refine lv_iload hx hb dX9_look_133 (lv_at hl 1 rfl) ?_
                                  refine lv_goto (tgt := 140) hx hb dX9_look_135 (by decide) ?_
                                  refine lv_istore (lv' := [(7, .int x5), (6, .int (gd (4096 * k.toNatClampNeg + ixP (nI i) (nI j)))), (5, .int x5), (4, .int x4), (3, .int z3), (0, .ref h0), (1, .int k), (2, .int 0)]) hx hb dX9_look_140 hl (by decide) rfl (fun ls hl => ?_)
                                  refine lv_iload_n hx hb dX9_look_142 rfl (lv_at hl 4 rfl) ?_
                                  refine lv_iconst (v := (-1)) hx hb dX9_look_143 (by decide) ?_
                                  refine lv_icmp_eq (tgt := 172) hx hb dX9_look_144 (by decide) (fun c_32 => ?_) (fun c_32 => ?_)
                                  · skip
                                    have f_33 : z3.toInt = (-1) := f_eq rfl (by decide) c_32
                                    refine lv_iload hx hb dX9_look_172 (lv_at hl 0 rfl) ?_
                                    refine lv_istore_n (lv' := [(3, .int x5), (7, .int x5), (6, .int (gd (4096 * k.toNatClampNeg + ixP (nI i) (nI j)))), (5, .int x5), (4, .int x4), (0, .ref h0), (1, .int k), (2, .int 0)]) hx hb dX9_look_174 rfl hl (by decide) rfl (fun ls hl => ?_)
                                    obtain ⟨y_34, ey_34⟩ : ∃ y : Int32, y = x5 + 1 := ⟨_, rfl⟩
                                    refine lv_iinc (v := y_34) (lv' := [(5, .int y_34), (3, .int x5), (7, .int x5), (6, .int (gd (4096 * k.toNatClampNeg + ixP (nI i) (nI j)))), (4, .int x4), (0, .ref h0), (1, .int k), (2, .int 0)]) hx hb dX9_look_175 hl (k := 3) rfl (by rw [ey_34]; rfl) (by decide) rfl (fun ls hl => ?_)
                                    refine lv_goto (tgt := 73) hx hb dX9_look_178 (by decide) ?_
                                    exact ih_19 (i + 1) y_34 x5 _ _ _ (by omega) (by omega) (by rw [ey_34, ex_i]; exact nI_1 i) (by omega) (by rw [show smR (blF (fun t => gd (4096 * k.toNatClampNeg + t)) 1) j (smL (blF (fun t => gd (4096 * k.toNatClampNeg + t)) 1) W9 (-1) j) (i + 1) = (blF (fun t => gd (4096 * k.toNatClampNeg + t)) 1) j i z3 from congrArg ((blF (fun t => gd (4096 * k.toNatClampNeg + t)) 1) j i) eti.symm]; unfold blF; rw [if_neg (fun q => c_27 (hr_26.trans q)), if_pos c_32, (show plC 1 j i = x5 from (if_neg (by decide)).trans ex_i.symm)]) (hP.sub (ws' := [(m2, .inl (cI, 4, .inl gh)), (m3, .inl (cI, 16384, .inl gd)), (h0, .inr (9, [.ref m1, .ref m2, .ref m3, .int ik, .int wy, .int op, .int cl, .int cx0, .int cx1, .int cy0, .int cy1, .int ds, .ref m4, .ref m5, .ref m6, .ref m7, .ref m8, .ref m9, .int pn, .ref m10, .ref m11, .ref m12, .ref m13])), (m1, .inl (cI, 4, .inl gw))]) [0, 1, 2, 3] rfl) (hD.sub (ws' := [(m2, .inl (cI, 4, .inl gh)), (m3, .inl (cI, 16384, .inl gd)), (h0, .inr (9, [.ref m1, .ref m2, .ref m3, .int ik, .int wy, .int op, .int cl, .int cx0, .int cx1, .int cy0, .int cy1, .int ds, .ref m4, .ref m5, .ref m6, .ref m7, .ref m8, .ref m9, .int pn, .ref m10, .ref m11, .ref m12, .ref m13])), (m1, .inl (cI, 4, .inl gw))]) [0, 1, 2, 3] (by decide) rfl) hS (lv_sub hl [0, 4, 1, 5, 6, 7] rfl)
                                  · skip
                                    have f_33 : ¬ (z3.toInt = (-1)) := fn_eq rfl (by decide) c_32
                                    refine lv_iload_n hx hb dX9_look_147 rfl (lv_at hl 7 rfl) ?_
                                    refine lv_iconst (v := 2) hx hb dX9_look_148 (by decide) ?_
                                    refine lv_irem hx hb dX9_look_149 (by decide) ?_
                                    refine my_fold (v := 0) (by decide) ?_
                                    refine lv_if_ne (tgt := 159) hx hb dX9_look_150 (by decide) (fun c_35 => ?_) (fun c_35 => ?_)
                                    · skip
                                      exact absurd c_35 (by decide)
                                    · skip
                                      refine lv_iload hx hb dX9_look_153 (lv_at hl 0 rfl) ?_
                                      refine lv_iload_n hx hb dX9_look_155 rfl (lv_at hl 4 rfl) ?_
                                      refine lv_icmp_lt (tgt := 172) hx hb dX9_look_156 (by decide) (fun c_37 => ?_) (fun c_37 => ?_)
                                      · skip
                                        have f_38 : (i : Int) < z3.toInt := f_lt hx_i rfl c_37
                                        refine lv_iload hx hb dX9_look_172 (lv_at hl 0 rfl) ?_
                                        refine lv_istore_n (lv' := [(3, .int x5), (7, .int x5), (6, .int (gd (4096 * k.toNatClampNeg + ixP (nI i) (nI j)))), (5, .int x5), (4, .int x4), (0, .ref h0), (1, .int k), (2, .int 0)]) hx hb dX9_look_174 rfl hl (by decide) rfl (fun ls hl => ?_)
                                        obtain ⟨y_39, ey_39⟩ : ∃ y : Int32, y = x5 + 1 := ⟨_, rfl⟩
                                        refine lv_iinc (v := y_39) (lv' := [(5, .int y_39), (3, .int x5), (7, .int x5), (6, .int (gd (4096 * k.toNatClampNeg + ixP (nI i) (nI j)))), (4, .int x4), (0, .ref h0), (1, .int k), (2, .int 0)]) hx hb dX9_look_175 hl (k := 3) rfl (by rw [ey_39]; rfl) (by decide) rfl (fun ls hl => ?_)
                                        refine lv_goto (tgt := 73) hx hb dX9_look_178 (by decide) ?_
                                        exact ih_19 (i + 1) y_39 x5 _ _ _ (by omega) (by omega) (by rw [ey_39, ex_i]; exact nI_1 i) (by omega) (by rw [show smR (blF (fun t => gd (4096 * k.toNatClampNeg + t)) 1) j (smL (blF (fun t => gd (4096 * k.toNatClampNeg + t)) 1) W9 (-1) j) (i + 1) = (blF (fun t => gd (4096 * k.toNatClampNeg + t)) 1) j i z3 from congrArg ((blF (fun t => gd (4096 * k.toNatClampNeg + t)) 1) j i) eti.symm]; unfold blF; rw [if_neg (fun q => c_27 (hr_26.trans q)), if_neg c_32, (show plC 1 j i = x5 from (if_neg (by decide)).trans ex_i.symm), if_pos c_37]) (hP.sub (ws' := [(m2, .inl (cI, 4, .inl gh)), (m3, .inl (cI, 16384, .inl gd)), (h0, .inr (9, [.ref m1, .ref m2, .ref m3, .int ik, .int wy, .int op, .int cl, .int cx0, .int cx1, .int cy0, .int cy1, .int ds, .ref m4, .ref m5, .ref m6, .ref m7, .ref m8, .ref m9, .int pn, .ref m10, .ref m11, .ref m12, .ref m13])), (m1, .inl (cI, 4, .inl gw))]) [0, 1, 2, 3] rfl) (hD.sub (ws' := [(m2, .inl (cI, 4, .inl gh)), (m3, .inl (cI, 16384, .inl gd)), (h0, .inr (9, [.ref m1, .ref m2, .ref m3, .int ik, .int wy, .int op, .int cl, .int cx0, .int cx1, .int cy0, .int cy1, .int ds, .ref m4, .ref m5, .ref m6, .ref m7, .ref m8, .ref m9, .int pn, .ref m10, .ref m11, .ref m12, .ref m13])), (m1, .inl (cI, 4, .inl gw))]) [0, 1, 2, 3] (by decide) rfl) hS (lv_sub hl [0, 4, 1, 5, 6, 7] rfl)
                                      · skip
                                        have f_38 : ¬ ((i : Int) < z3.toInt) := fn_lt hx_i rfl c_37
                                        refine lv_iload_n hx hb dX9_look_159 rfl (lv_at hl 7 rfl) ?_
                                        refine lv_iconst (v := 2) hx hb dX9_look_160 (by decide) ?_
                                        refine lv_irem hx hb dX9_look_161 (by decide) ?_
                                        refine my_fold (v := 0) (by decide) ?_
                                        refine lv_iconst (v := 1) hx hb dX9_look_162 (by decide) ?_
                                        refine lv_icmp_ne (tgt := 175) hx hb dX9_look_163 (by decide) (fun c_40 => ?_) (fun c_40 => ?_)
                                        · skip
                                          obtain ⟨y_42, ey_42⟩ : ∃ y : Int32, y = x5 + 1 := ⟨_, rfl⟩
                                          refine lv_iinc (v := y_42) (lv' := [(5, .int y_42), (7, .int x5), (6, .int (gd (4096 * k.toNatClampNeg + ixP (nI i) (nI j)))), (4, .int x4), (3, .int z3), (0, .ref h0), (1, .int k), (2, .int 0)]) hx hb dX9_look_175 hl (k := 2) rfl (by rw [ey_42]; rfl) (by decide) rfl (fun ls hl => ?_)
                                          refine lv_goto (tgt := 73) hx hb dX9_look_178 (by decide) ?_
                                          exact ih_19 (i + 1) y_42 z3 _ _ _ (by omega) (by omega) (by rw [ey_42, ex_i]; exact nI_1 i) (by omega) (by rw [show smR (blF (fun t => gd (4096 * k.toNatClampNeg + t)) 1) j (smL (blF (fun t => gd (4096 * k.toNatClampNeg + t)) 1) W9 (-1) j) (i + 1) = (blF (fun t => gd (4096 * k.toNatClampNeg + t)) 1) j i z3 from congrArg ((blF (fun t => gd (4096 * k.toNatClampNeg + t)) 1) j i) eti.symm]; unfold blF; rw [if_neg (fun q => c_27 (hr_26.trans q)), if_neg c_32, (show plC 1 j i = x5 from (if_neg (by decide)).trans ex_i.symm), if_neg c_37]) (hP.sub (ws' := [(m2, .inl (cI, 4, .inl gh)), (m3, .inl (cI, 16384, .inl gd)), (h0, .inr (9, [.ref m1, .ref m2, .ref m3, .int ik, .int wy, .int op, .int cl, .int cx0, .int cx1, .int cy0, .int cy1, .int ds, .ref m4, .ref m5, .ref m6, .ref m7, .ref m8, .ref m9, .int pn, .ref m10, .ref m11, .ref m12, .ref m13])), (m1, .inl (cI, 4, .inl gw))]) [0, 1, 2, 3] rfl) (hD.sub (ws' := [(m2, .inl (cI, 4, .inl gh)), (m3, .inl (cI, 16384, .inl gd)), (h0, .inr (9, [.ref m1, .ref m2, .ref m3, .int ik, .int wy, .int op, .int cl, .int cx0, .int cx1, .int cy0, .int cy1, .int ds, .ref m4, .ref m5, .ref m6, .ref m7, .ref m8, .ref m9, .int pn, .ref m10, .ref m11, .ref m12, .ref m13])), (m1, .inl (cI, 4, .inl gw))]) [0, 1, 2, 3] (by decide) rfl) hS (lv_sub hl [0, 3, 4, 5, 6, 7] rfl)
                                        · skip
                                          exact absurd c_40 (by decide)
                            · skip
                              exact absurd c_24 (by decide)
                      exact loop_18 (64 + 1) 0 0 x3 _ _ _ (by omega) (by omega) nI_0.symm (by omega) eto hP hD hS (lv_sub hl [0, 1, 2, 3, 4, 5] rfl)
                exact loop_14 (64 + 1) 0 0 (-1) _ _ _ (by omega) (by omega) nI_0.symm (by omega) rfl hP hD hS (lv_sub hl [0, 1, 2, 3, 4] rfl)
            · skip
              exact absurd c_10 (by decide)
          · skip
            exact absurd c_8 (by decide)
        · skip
          have hl : lv_has ls 8 [(0, .ref h0), (1, .int k), (2, .int 1)] := hl
          refine lv_iload_n hx hb dX9_look_20 rfl (lv_at hl 2 rfl) ?_
          refine lv_iconst (v := 4) hx hb dX9_look_21 (by decide) ?_
          refine lv_icmp_ne (tgt := 32) hx hb dX9_look_22 (by decide) (fun c_43 => ?_) (fun c_43 => ?_)
          · skip
            refine lv_iload_n hx hb dX9_look_32 rfl (lv_at hl 2 rfl) ?_
            refine lv_iconst (v := 5) hx hb dX9_look_33 (by decide) ?_
            refine lv_icmp_ne (tgt := 44) hx hb dX9_look_34 (by decide) (fun c_45 => ?_) (fun c_45 => ?_)
            · skip
              refine lv_iload_n hx hb dX9_look_44 rfl (lv_at hl 2 rfl) ?_
              refine lv_bipush (v := 6) hx hb dX9_look_45 (by decide) ?_
              refine lv_icmp_ge (tgt := 54) hx hb dX9_look_47 (by decide) (fun c_47 => ?_) (fun c_47 => ?_)
              · skip
                exact absurd c_47 (by decide)
              · skip
                refine lv_iconst (v := (-1)) hx hb dX9_look_50 (by decide) ?_
                refine lv_goto (tgt := 55) hx hb dX9_look_51 (by decide) ?_
                refine lv_istore_n (lv' := [(3, .int (-1)), (0, .ref h0), (1, .int k), (2, .int 1)]) hx hb dX9_look_55 rfl hl (by decide) rfl (fun ls hl => ?_)
                refine lv_iconst (v := 0) hx hb dX9_look_56 (by decide) ?_
                refine lv_istore (lv' := [(4, .int 0), (3, .int (-1)), (0, .ref h0), (1, .int k), (2, .int 1)]) hx hb dX9_look_57 hl (by decide) rfl (fun ls hl => ?_)
                have loop_49 : ∀ (n : Nat) (j : Nat) (x4 : Int32) (x3 : Int32) (H : Heap) (locs : List Loc) (ls : Array Slot), (j ≤ 64) → (64 + 1 ≤ j + n) → (x4 = nI j) → (j ≤ H9) → (x3 = smL (bhF (fun t => gd (4096 * k.toNatClampNeg + t)) 1) W9 (-1) j) → va_P D vwCl [(m2, .inl (cI, 4, .inl gh)), (m3, .inl (cI, 16384, .inl gd)), (h0, .inr (9, [.ref m1, .ref m2, .ref m3, .int ik, .int wy, .int op, .int cl, .int cx0, .int cx1, .int cy0, .int cy1, .int ds, .ref m4, .ref m5, .ref m6, .ref m7, .ref m8, .ref m9, .int pn, .ref m10, .ref m11, .ref m12, .ref m13])), (m1, .inl (cI, 4, .inl gw))] H → va_D A [(m2, .inl (cI, 4, .inl gh)), (m3, .inl (cI, 16384, .inl gd)), (h0, .inr (9, [.ref m1, .ref m2, .ref m3, .int ik, .int wy, .int op, .int cl, .int cx0, .int cx1, .int cy0, .int cy1, .int ds, .ref m4, .ref m5, .ref m6, .ref m7, .ref m8, .ref m9, .int pn, .ref m10, .ref m11, .ref m12, .ref m13])), (m1, .inl (cI, 4, .inl gw))] → va_S A s.heap H locs → lv_has ls 8 [(4, .int x4), (3, .int x3), (0, .ref h0), (1, .int k), (2, .int 1)] → W p l e R s m ([.ref h0, .int k, .int (nI 1)] : List Value).toArray below meth c H locs 0 0 Q (F0 m 59 ls []) := by
                  intro n
                  induction n with
                  | zero =>
                    intro j x4 x3 H locs ls hi_j hm_j ex_j hjo eto hP hD hS hl
                    exact absurd (show False by omega) not_false
                  | succ n ih_50 =>
                    intro j x4 x3 H locs ls hi_j hm_j ex_j hjo eto hP hD hS hl
                    have hx_j : x4.toInt = (j : Int) := by rw [ex_j]; exact nI_toInt (by omega)
                    have hc_j : x4.toNatClampNeg = j := by rw [ex_j]; exact nI_clamp (by omega)
                    refine lv_iload hx hb dX9_look_59 (lv_at hl 0 rfl) ?_
                    refine lv_aload_n hx hb dX9_look_61 rfl (lv_at hl 2 rfl) ?_
                    refine va_get (D := D) (ci := 9) (v := .ref m2) (C := RX9) (T := TX9) (N := 23) hx hb hts hi_X9 hown hK hP 2 rfl rfl 1 (by decide) (hts _ bw_397) (fun _ h9 => h9) rfl dX9_look_62 ?_
                    refine lv_iload_n hx hb dX9_look_65 rfl (lv_at hl 3 rfl) ?_
                    refine va_iald hx hb hK hP 0 0 rfl rfl (vp_in_iff.mpr ⟨by omega, by omega⟩) dX9_look_66 ?_
                    refine lv_icmp_ge (tgt := 187) hx hb dX9_look_67 (by decide) (fun c_51 => ?_) (fun c_51 => ?_)
                    · skip
                      have f_52 : (gh k.toNatClampNeg).toInt ≤ (j : Int) := f_le rfl hx_j c_51
                      refine lv_iload_n hx hb dX9_look_187 rfl (lv_at hl 1 rfl) ?_
                      have hP9 := hP.sub (ws' := [(h0, .inr (9, [.ref m1, .ref m2, .ref m3, .int ik, .int wy, .int op, .int cl, .int cx0, .int cx1, .int cy0, .int cy1, .int ds, .ref m4, .ref m5, .ref m6, .ref m7, .ref m8, .ref m9, .int pn, .ref m10, .ref m11, .ref m12, .ref m13])), (m1, .inl (cI, 4, .inl gw)), (m2, .inl (cI, 4, .inl gh)), (m3, .inl (cI, 16384, .inl gd))]) [2, 3, 0, 1] rfl
                      have hD9 := hD.sub (ws' := [(h0, .inr (9, [.ref m1, .ref m2, .ref m3, .int ik, .int wy, .int op, .int cl, .int cx0, .int cx1, .int cy0, .int cy1, .int ds, .ref m4, .ref m5, .ref m6, .ref m7, .ref m8, .ref m9, .int pn, .ref m10, .ref m11, .ref m12, .ref m13])), (m1, .inl (cI, 4, .inl gw)), (m2, .inl (cI, 4, .inl gh)), (m3, .inl (cI, 16384, .inl gd))]) [2, 3, 0, 1] (by decide) rfl
                      have hK9 := hK.sub (tys' := [(cI, .int)]) [0] rfl
                      refine hQ _ _ _ _ _ ?_
                      exact W.iret (v := x3) hx hb hr (fun t ht hW => ⟨⟨x3, (), rfl, (show _ = lkP (fun t => gd (4096 * k.toNatClampNeg + t)) (gw k.toNatClampNeg) (gh k.toNatClampNeg) (nI 1) from (show _ = smL (bhF (fun t => gd (4096 * k.toNatClampNeg + t)) 1) (gw k.toNatClampNeg).toNatClampNeg (-1) (gh k.toNatClampNeg).toNatClampNeg from (by rw [eW9n, eH9n, ← show j = H9 by omega]; exact eto)).trans (if_pos (by decide)).symm), ⟨by rw [ht]; exact hP9, va_K.moved hW.alike hK9, hD9⟩⟩, hS.F ht⟩) hS.2.2 dX9_look_188
                    · skip
                      have f_52 : ¬ ((gh k.toNatClampNeg).toInt ≤ (j : Int)) := fn_le rfl hx_j c_51
                      refine lv_iconst (v := 0) hx hb dX9_look_70 (by decide) ?_
                      refine lv_istore (lv' := [(5, .int 0), (4, .int x4), (3, .int x3), (0, .ref h0), (1, .int k), (2, .int 1)]) hx hb dX9_look_71 hl (by decide) rfl (fun ls hl => ?_)
                      have loop_53 : ∀ (n : Nat) (i : Nat) (x5 : Int32) (z3 : Int32) (H : Heap) (locs : List Loc) (ls : Array Slot), (i ≤ 64) → (64 + 1 ≤ i + n) → (x5 = nI i) → (i ≤ W9) → (z3 = smR (bhF (fun t => gd (4096 * k.toNatClampNeg + t)) 1) j (smL (bhF (fun t => gd (4096 * k.toNatClampNeg + t)) 1) W9 (-1) j) i) → va_P D vwCl [(m2, .inl (cI, 4, .inl gh)), (m3, .inl (cI, 16384, .inl gd)), (h0, .inr (9, [.ref m1, .ref m2, .ref m3, .int ik, .int wy, .int op, .int cl, .int cx0, .int cx1, .int cy0, .int cy1, .int ds, .ref m4, .ref m5, .ref m6, .ref m7, .ref m8, .ref m9, .int pn, .ref m10, .ref m11, .ref m12, .ref m13])), (m1, .inl (cI, 4, .inl gw))] H → va_D A [(m2, .inl (cI, 4, .inl gh)), (m3, .inl (cI, 16384, .inl gd)), (h0, .inr (9, [.ref m1, .ref m2, .ref m3, .int ik, .int wy, .int op, .int cl, .int cx0, .int cx1, .int cy0, .int cy1, .int ds, .ref m4, .ref m5, .ref m6, .ref m7, .ref m8, .ref m9, .int pn, .ref m10, .ref m11, .ref m12, .ref m13])), (m1, .inl (cI, 4, .inl gw))] → va_S A s.heap H locs → lv_has ls 8 [(5, .int x5), (4, .int x4), (3, .int z3), (0, .ref h0), (1, .int k), (2, .int 1)] → W p l e R s m ([.ref h0, .int k, .int (nI 1)] : List Value).toArray below meth c H locs 0 0 Q (F0 m 73 ls []) := by
                        intro n
                        induction n with
                        | zero =>
                          intro i x5 z3 H locs ls hi_i hm_i ex_i hio eti hP hD hS hl
                          exact absurd (show False by omega) not_false
                        | succ n ih_54 =>
                          intro i x5 z3 H locs ls hi_i hm_i ex_i hio eti hP hD hS hl
                          have hx_i : x5.toInt = (i : Int) := by rw [ex_i]; exact nI_toInt (by omega)
                          have hc_i : x5.toNatClampNeg = i := by rw [ex_i]; exact nI_clamp (by omega)
                          refine lv_iload hx hb dX9_look_73 (lv_at hl 0 rfl) ?_
                          refine lv_aload_n hx hb dX9_look_75 rfl (lv_at hl 3 rfl) ?_
                          refine va_get (D := D) (ci := 9) (v := .ref m1) (C := RX9) (T := TX9) (N := 23) hx hb hts hi_X9 hown hK hP 2 rfl rfl 0 (by decide) (hts _ bw_396) (fun _ h9 => h9) rfl dX9_look_76 ?_
                          refine lv_iload_n hx hb dX9_look_79 rfl (lv_at hl 4 rfl) ?_
                          refine va_iald hx hb hK hP 3 0 rfl rfl (vp_in_iff.mpr ⟨by omega, by omega⟩) dX9_look_80 ?_
                          refine lv_icmp_ge (tgt := 181) hx hb dX9_look_81 (by decide) (fun c_55 => ?_) (fun c_55 => ?_)
                          · skip
                            have f_56 : (gw k.toNatClampNeg).toInt ≤ (i : Int) := f_le rfl hx_i c_55
                            obtain ⟨y_57, ey_57⟩ : ∃ y : Int32, y = x4 + 1 := ⟨_, rfl⟩
                            refine lv_iinc (v := y_57) (lv' := [(4, .int y_57), (5, .int x5), (3, .int z3), (0, .ref h0), (1, .int k), (2, .int 1)]) hx hb dX9_look_181 hl (k := 1) rfl (by rw [ey_57]; rfl) (by decide) rfl (fun ls hl => ?_)
                            refine lv_goto (tgt := 59) hx hb dX9_look_184 (by decide) ?_
                            exact ih_50 (j + 1) y_57 z3 _ _ _ (by omega) (by omega) (by rw [ey_57, ex_j]; exact nI_1 j) (by omega) (sm_nx eti (by omega)) (hP.sub (ws' := [(m2, .inl (cI, 4, .inl gh)), (m3, .inl (cI, 16384, .inl gd)), (h0, .inr (9, [.ref m1, .ref m2, .ref m3, .int ik, .int wy, .int op, .int cl, .int cx0, .int cx1, .int cy0, .int cy1, .int ds, .ref m4, .ref m5, .ref m6, .ref m7, .ref m8, .ref m9, .int pn, .ref m10, .ref m11, .ref m12, .ref m13])), (m1, .inl (cI, 4, .inl gw))]) [0, 1, 2, 3] rfl) (hD.sub (ws' := [(m2, .inl (cI, 4, .inl gh)), (m3, .inl (cI, 16384, .inl gd)), (h0, .inr (9, [.ref m1, .ref m2, .ref m3, .int ik, .int wy, .int op, .int cl, .int cx0, .int cx1, .int cy0, .int cy1, .int ds, .ref m4, .ref m5, .ref m6, .ref m7, .ref m8, .ref m9, .int pn, .ref m10, .ref m11, .ref m12, .ref m13])), (m1, .inl (cI, 4, .inl gw))]) [0, 1, 2, 3] (by decide) rfl) hS (lv_sub hl [0, 2, 3, 4, 5] rfl)
                          · skip
                            have f_56 : ¬ ((gw k.toNatClampNeg).toInt ≤ (i : Int)) := fn_le rfl hx_i c_55
                            refine lv_aload_n hx hb dX9_look_84 rfl (lv_at hl 3 rfl) ?_
                            refine va_get (D := D) (ci := 9) (v := .ref m3) (C := RX9) (T := TX9) (N := 23) hx hb hts hi_X9 hown hK hP 2 rfl rfl 2 (by decide) (hts _ bw_398) (fun _ h9 => h9) rfl dX9_look_85 ?_
                            refine lv_iload_n hx hb dX9_look_88 rfl (lv_at hl 4 rfl) ?_
                            refine lv_iload hx hb dX9_look_89 (lv_at hl 0 rfl) ?_
                            refine lv_iload hx hb dX9_look_91 (lv_at hl 1 rfl) ?_
                            have hPc := hP.sub (ws' := []) [] rfl
                            have hDc := hD.sub (ws' := []) [] (by decide) rfl
                            have hKc := hK.sub (tys' := []) [] rfl
                            have hFc := va_free (wc := []) hD hS hA [] rfl
                            refine va_calli (va_runS (As := [.int k, .int x5, .int x4]) (rest := [.ref m3]) ⟨hx, hb, hml, hown, hts⟩ (k_X9_spot l D H.size k x5 x4) (va_cwS 3 hts (gS bw_551 bw_421 bw_391 bw_420) rfl rfl rfl (by decide +kernel) ⟨(by rw [hR]; exact Nat.le_of_ble_eq_true rfl), (by rw [hR]; exact Nat.le_of_ble_eq_true rfl)⟩) ⟨cP_blind, cP_at hPc hKc hDc hN⟩ rfl rfl hl.1 rfl (lv_room (Nat.le_of_ble_eq_true rfl)) dX9_look_93 ⟨(by rw [hR]; exact Nat.le_of_ble_eq_true rfl), (by rw [hR]; exact Nat.le_of_ble_eq_true rfl)⟩) hS (fun q _ h => hFc q h) hFc (fun r_58 u9 t9 H1 locs ht hvm hr_58 hB hz1 hk1 hS => ?_)
                            try dsimp only at hr_58
                            have hP1 : va_P D vwCl [] H1 := vP_nil
                            have hD1 : va_D (va_A [] H.size) [] := vD_nil
                            obtain ⟨hP, hD⟩ := va_join (wr := [(m2, .inl (cI, 4, .inl gh)), (m3, .inl (cI, 16384, .inl gd)), (h0, .inr (9, [.ref m1, .ref m2, .ref m3, .int ik, .int wy, .int op, .int cl, .int cx0, .int cx1, .int cy0, .int cy1, .int ds, .ref m4, .ref m5, .ref m6, .ref m7, .ref m8, .ref m9, .int pn, .ref m10, .ref m11, .ref m12, .ref m13])), (m1, .inl (cI, 4, .inl gw))]) (w1 := []) hP hD [] [0, 1, 2, 3] rfl rfl (by decide) (by decide) hk1 hFc hP1 hD1
                            clear hz1 hk1 hFc hKc hDc hPc
                            generalize H1 = H at hP hS ⊢
                            have hP : va_P D vwCl [(m2, .inl (cI, 4, .inl gh)), (m3, .inl (cI, 16384, .inl gd)), (h0, .inr (9, [.ref m1, .ref m2, .ref m3, .int ik, .int wy, .int op, .int cl, .int cx0, .int cx1, .int cy0, .int cy1, .int ds, .ref m4, .ref m5, .ref m6, .ref m7, .ref m8, .ref m9, .int pn, .ref m10, .ref m11, .ref m12, .ref m13])), (m1, .inl (cI, 4, .inl gw))] H := hP
                            have hD : va_D A [(m2, .inl (cI, 4, .inl gh)), (m3, .inl (cI, 16384, .inl gd)), (h0, .inr (9, [.ref m1, .ref m2, .ref m3, .int ik, .int wy, .int op, .int cl, .int cx0, .int cx1, .int cy0, .int cy1, .int ds, .ref m4, .ref m5, .ref m6, .ref m7, .ref m8, .ref m9, .int pn, .ref m10, .ref m11, .ref m12, .ref m13])), (m1, .inl (cI, 4, .inl gw))] := hD
                            refine va_iald hx hb hK hP 1 0 rfl rfl (by rw [hr_58]; exact sp_in (by omega) (by omega) (by omega) (by omega) (by omega) (by omega)) dX9_look_96 ?_
                            refine my_fold (v := gd (4096 * k.toNatClampNeg + ixP (nI i) (nI j))) (congrArg gd (by rw [hr_58, sp_cl (by omega) (by omega) (by omega) (by omega) (by omega) (by omega), ex_i, ex_j])) ?_
                            refine lv_istore (lv' := [(6, .int (gd (4096 * k.toNatClampNeg + ixP (nI i) (nI j)))), (5, .int x5), (4, .int x4), (3, .int z3), (0, .ref h0), (1, .int k), (2, .int 1)]) hx hb dX9_look_97 hl (by decide) rfl (fun ls hl => ?_)
                            refine lv_iload_n hx hb dX9_look_99 rfl (lv_at hl 6 rfl) ?_
                            refine lv_iconst (v := 5) hx hb dX9_look_100 (by decide) ?_
                            refine lv_icmp_le (tgt := 119) hx hb dX9_look_101 (by decide) (fun c_59 => ?_) (fun c_59 => ?_)
                            · skip
                              refine lv_iload hx hb dX9_look_119 (lv_at hl 0 rfl) ?_
                              refine lv_iconst (v := 0) hx hb dX9_look_121 (by decide) ?_
                              have hPc := hP.sub (ws' := []) [] rfl
                              have hDc := hD.sub (ws' := []) [] (by decide) rfl
                              have hKc := hK.sub (tys' := []) [] rfl
                              have hFc := va_free (wc := []) hD hS hA [] rfl
                              refine va_calli (va_runS (As := [.int (gd (4096 * k.toNatClampNeg + ixP (nI i) (nI j))), .int 0]) (rest := []) ⟨hx, hb, hml, hown, hts⟩ (k_X9_channel_0 l D H.size (gd (4096 * k.toNatClampNeg + ixP (nI i) (nI j)))) (va_cwS 2 hts (gS bw_441 bw_438 bw_391 bw_437) rfl rfl rfl (by decide +kernel) ⟨(by rw [hR]; exact Nat.le_of_ble_eq_true rfl), (by rw [hR]; exact Nat.le_of_ble_eq_true rfl)⟩) ⟨cP_blind, cP_at hPc hKc hDc hN⟩ rfl rfl hl.1 rfl (lv_room (Nat.le_of_ble_eq_true rfl)) dX9_look_122 ⟨(by rw [hR]; exact Nat.le_of_ble_eq_true rfl), (by rw [hR]; exact Nat.le_of_ble_eq_true rfl)⟩) hS (fun q _ h => hFc q h) hFc (fun r_61 u9 t9 H1 locs ht hvm hr_61 hB hz1 hk1 hS => ?_)
                              try dsimp only at hr_61
                              have hP1 : va_P D vwCl [] H1 := vP_nil
                              have hD1 : va_D (va_A [] H.size) [] := vD_nil
                              obtain ⟨hP, hD⟩ := va_join (wr := [(m2, .inl (cI, 4, .inl gh)), (m3, .inl (cI, 16384, .inl gd)), (h0, .inr (9, [.ref m1, .ref m2, .ref m3, .int ik, .int wy, .int op, .int cl, .int cx0, .int cx1, .int cy0, .int cy1, .int ds, .ref m4, .ref m5, .ref m6, .ref m7, .ref m8, .ref m9, .int pn, .ref m10, .ref m11, .ref m12, .ref m13])), (m1, .inl (cI, 4, .inl gw))]) (w1 := []) hP hD [] [0, 1, 2, 3] rfl rfl (by decide) (by decide) hk1 hFc hP1 hD1
                              clear hz1 hk1 hFc hKc hDc hPc
                              generalize H1 = H at hP hS ⊢
                              have hP : va_P D vwCl [(m2, .inl (cI, 4, .inl gh)), (m3, .inl (cI, 16384, .inl gd)), (h0, .inr (9, [.ref m1, .ref m2, .ref m3, .int ik, .int wy, .int op, .int cl, .int cx0, .int cx1, .int cy0, .int cy1, .int ds, .ref m4, .ref m5, .ref m6, .ref m7, .ref m8, .ref m9, .int pn, .ref m10, .ref m11, .ref m12, .ref m13])), (m1, .inl (cI, 4, .inl gw))] H := hP
                              have hD : va_D A [(m2, .inl (cI, 4, .inl gh)), (m3, .inl (cI, 16384, .inl gd)), (h0, .inr (9, [.ref m1, .ref m2, .ref m3, .int ik, .int wy, .int op, .int cl, .int cx0, .int cx1, .int cy0, .int cy1, .int ds, .ref m4, .ref m5, .ref m6, .ref m7, .ref m8, .ref m9, .int pn, .ref m10, .ref m11, .ref m12, .ref m13])), (m1, .inl (cI, 4, .inl gw))] := hD
                              refine lv_if_eq (tgt := 175) hx hb dX9_look_125 (by decide) (fun c_62 => ?_) (fun c_62 => ?_)
                              · skip
                                have f_63 : r_61.toInt = 0 := f_eq rfl (by decide) c_62
                                obtain ⟨y_64, ey_64⟩ : ∃ y : Int32, y = x5 + 1 := ⟨_, rfl⟩
                                refine lv_iinc (v := y_64) (lv' := [(5, .int y_64), (6, .int (gd (4096 * k.toNatClampNeg + ixP (nI i) (nI j)))), (4, .int x4), (3, .int z3), (0, .ref h0), (1, .int k), (2, .int 1)]) hx hb dX9_look_175 hl (k := 1) rfl (by rw [ey_64]; rfl) (by decide) rfl (fun ls hl => ?_)
                                refine lv_goto (tgt := 73) hx hb dX9_look_178 (by decide) ?_
                                exact ih_54 (i + 1) y_64 z3 _ _ _ (by omega) (by omega) (by rw [ey_64, ex_i]; exact nI_1 i) (by omega) (by rw [show smR (bhF (fun t => gd (4096 * k.toNatClampNeg + t)) 1) j (smL (bhF (fun t => gd (4096 * k.toNatClampNeg + t)) 1) W9 (-1) j) (i + 1) = (bhF (fun t => gd (4096 * k.toNatClampNeg + t)) 1) j i z3 from congrArg ((bhF (fun t => gd (4096 * k.toNatClampNeg + t)) 1) j i) eti.symm]; exact (show (bhF (fun t => gd (4096 * k.toNatClampNeg + t)) 1) j i z3 = z3 from if_pos (hr_61.symm.trans c_62)).symm) (hP.sub (ws' := [(m2, .inl (cI, 4, .inl gh)), (m3, .inl (cI, 16384, .inl gd)), (h0, .inr (9, [.ref m1, .ref m2, .ref m3, .int ik, .int wy, .int op, .int cl, .int cx0, .int cx1, .int cy0, .int cy1, .int ds, .ref m4, .ref m5, .ref m6, .ref m7, .ref m8, .ref m9, .int pn, .ref m10, .ref m11, .ref m12, .ref m13])), (m1, .inl (cI, 4, .inl gw))]) [0, 1, 2, 3] rfl) (hD.sub (ws' := [(m2, .inl (cI, 4, .inl gh)), (m3, .inl (cI, 16384, .inl gd)), (h0, .inr (9, [.ref m1, .ref m2, .ref m3, .int ik, .int wy, .int op, .int cl, .int cx0, .int cx1, .int cy0, .int cy1, .int ds, .ref m4, .ref m5, .ref m6, .ref m7, .ref m8, .ref m9, .int pn, .ref m10, .ref m11, .ref m12, .ref m13])), (m1, .inl (cI, 4, .inl gw))]) [0, 1, 2, 3] (by decide) rfl) hS (lv_sub hl [0, 2, 3, 4, 5, 6] rfl)
                              · skip
                                have f_63 : ¬ (r_61.toInt = 0) := fn_eq rfl (by decide) c_62
                                refine lv_iload_n hx hb dX9_look_128 rfl (lv_at hl 6 rfl) ?_
                                refine lv_iconst (v := 2) hx hb dX9_look_129 (by decide) ?_
                                refine lv_icmp_ge (tgt := 138) hx hb dX9_look_130 (by decide) (fun c_65 => ?_) (fun c_65 => ?_)
                                · skip
                                  exact absurd c_65 (by decide)
                                · skip
                                  refine lv_iload hx hb dX9_look_133 (lv_at hl 1 rfl) ?_
                                  refine lv_goto (tgt := 140) hx hb dX9_look_135 (by decide) ?_
                                  refine lv_istore (lv' := [(7, .int x5), (6, .int (gd (4096 * k.toNatClampNeg + ixP (nI i) (nI j)))), (5, .int x5), (4, .int x4), (3, .int z3), (0, .ref h0), (1, .int k), (2, .int 1)]) hx hb dX9_look_140 hl (by decide) rfl (fun ls hl => ?_)
                                  refine lv_iload_n hx hb dX9_look_142 rfl (lv_at hl 4 rfl) ?_
                                  refine lv_iconst (v := (-1)) hx hb dX9_look_143 (by decide) ?_
                                  refine lv_icmp_eq (tgt := 172) hx hb dX9_look_144 (by decide) (fun c_67 => ?_) (fun c_67 => ?_)
                                  · skip
                                    have f_68 : z3.toInt = (-1) := f_eq rfl (by decide) c_67
                                    refine lv_iload hx hb dX9_look_172 (lv_at hl 0 rfl) ?_
                                    refine lv_istore_n (lv' := [(3, .int x5), (7, .int x5), (6, .int (gd (4096 * k.toNatClampNeg + ixP (nI i) (nI j)))), (5, .int x5), (4, .int x4), (0, .ref h0), (1, .int k), (2, .int 1)]) hx hb dX9_look_174 rfl hl (by decide) rfl (fun ls hl => ?_)
                                    obtain ⟨y_69, ey_69⟩ : ∃ y : Int32, y = x5 + 1 := ⟨_, rfl⟩
                                    refine lv_iinc (v := y_69) (lv' := [(5, .int y_69), (3, .int x5), (7, .int x5), (6, .int (gd (4096 * k.toNatClampNeg + ixP (nI i) (nI j)))), (4, .int x4), (0, .ref h0), (1, .int k), (2, .int 1)]) hx hb dX9_look_175 hl (k := 3) rfl (by rw [ey_69]; rfl) (by decide) rfl (fun ls hl => ?_)
                                    refine lv_goto (tgt := 73) hx hb dX9_look_178 (by decide) ?_
                                    exact ih_54 (i + 1) y_69 x5 _ _ _ (by omega) (by omega) (by rw [ey_69, ex_i]; exact nI_1 i) (by omega) (by rw [show smR (bhF (fun t => gd (4096 * k.toNatClampNeg + t)) 1) j (smL (bhF (fun t => gd (4096 * k.toNatClampNeg + t)) 1) W9 (-1) j) (i + 1) = (bhF (fun t => gd (4096 * k.toNatClampNeg + t)) 1) j i z3 from congrArg ((bhF (fun t => gd (4096 * k.toNatClampNeg + t)) 1) j i) eti.symm]; unfold bhF; rw [if_neg (fun q => c_62 (hr_61.trans q)), (show plC 1 j i = x5 from (if_neg (by decide)).trans ex_i.symm), if_pos (m1_lt c_67 (by omega))]) (hP.sub (ws' := [(m2, .inl (cI, 4, .inl gh)), (m3, .inl (cI, 16384, .inl gd)), (h0, .inr (9, [.ref m1, .ref m2, .ref m3, .int ik, .int wy, .int op, .int cl, .int cx0, .int cx1, .int cy0, .int cy1, .int ds, .ref m4, .ref m5, .ref m6, .ref m7, .ref m8, .ref m9, .int pn, .ref m10, .ref m11, .ref m12, .ref m13])), (m1, .inl (cI, 4, .inl gw))]) [0, 1, 2, 3] rfl) (hD.sub (ws' := [(m2, .inl (cI, 4, .inl gh)), (m3, .inl (cI, 16384, .inl gd)), (h0, .inr (9, [.ref m1, .ref m2, .ref m3, .int ik, .int wy, .int op, .int cl, .int cx0, .int cx1, .int cy0, .int cy1, .int ds, .ref m4, .ref m5, .ref m6, .ref m7, .ref m8, .ref m9, .int pn, .ref m10, .ref m11, .ref m12, .ref m13])), (m1, .inl (cI, 4, .inl gw))]) [0, 1, 2, 3] (by decide) rfl) hS (lv_sub hl [0, 4, 1, 5, 6, 7] rfl)
                                  · skip
                                    have f_68 : ¬ (z3.toInt = (-1)) := fn_eq rfl (by decide) c_67
                                    refine lv_iload_n hx hb dX9_look_147 rfl (lv_at hl 7 rfl) ?_
                                    refine lv_iconst (v := 2) hx hb dX9_look_148 (by decide) ?_
                                    refine lv_irem hx hb dX9_look_149 (by decide) ?_
                                    refine my_fold (v := 1) (by decide) ?_
                                    refine lv_if_ne (tgt := 159) hx hb dX9_look_150 (by decide) (fun c_70 => ?_) (fun c_70 => ?_)
                                    · skip
                                      refine lv_iload_n hx hb dX9_look_159 rfl (lv_at hl 7 rfl) ?_
                                      refine lv_iconst (v := 2) hx hb dX9_look_160 (by decide) ?_
                                      refine lv_irem hx hb dX9_look_161 (by decide) ?_
                                      refine my_fold (v := 1) (by decide) ?_
                                      refine lv_iconst (v := 1) hx hb dX9_look_162 (by decide) ?_
                                      refine lv_icmp_ne (tgt := 175) hx hb dX9_look_163 (by decide) (fun c_72 => ?_) (fun c_72 => ?_)
                                      · skip
                                        exact absurd c_72 (by decide)
                                      · skip
                                        refine lv_iload hx hb dX9_look_166 (lv_at hl 0 rfl) ?_
                                        refine lv_iload_n hx hb dX9_look_168 rfl (lv_at hl 4 rfl) ?_
                                        refine lv_icmp_le (tgt := 175) hx hb dX9_look_169 (by decide) (fun c_74 => ?_) (fun c_74 => ?_)
                                        · skip
                                          have f_75 : (i : Int) ≤ z3.toInt := f_le hx_i rfl c_74
                                          obtain ⟨y_76, ey_76⟩ : ∃ y : Int32, y = x5 + 1 := ⟨_, rfl⟩
                                          refine lv_iinc (v := y_76) (lv' := [(5, .int y_76), (7, .int x5), (6, .int (gd (4096 * k.toNatClampNeg + ixP (nI i) (nI j)))), (4, .int x4), (3, .int z3), (0, .ref h0), (1, .int k), (2, .int 1)]) hx hb dX9_look_175 hl (k := 2) rfl (by rw [ey_76]; rfl) (by decide) rfl (fun ls hl => ?_)
                                          refine lv_goto (tgt := 73) hx hb dX9_look_178 (by decide) ?_
                                          exact ih_54 (i + 1) y_76 z3 _ _ _ (by omega) (by omega) (by rw [ey_76, ex_i]; exact nI_1 i) (by omega) (by rw [show smR (bhF (fun t => gd (4096 * k.toNatClampNeg + t)) 1) j (smL (bhF (fun t => gd (4096 * k.toNatClampNeg + t)) 1) W9 (-1) j) (i + 1) = (bhF (fun t => gd (4096 * k.toNatClampNeg + t)) 1) j i z3 from congrArg ((bhF (fun t => gd (4096 * k.toNatClampNeg + t)) 1) j i) eti.symm]; unfold bhF; rw [if_neg (fun q => c_62 (hr_61.trans q)), (show plC 1 j i = x5 from (if_neg (by decide)).trans ex_i.symm), if_neg c_74]) (hP.sub (ws' := [(m2, .inl (cI, 4, .inl gh)), (m3, .inl (cI, 16384, .inl gd)), (h0, .inr (9, [.ref m1, .ref m2, .ref m3, .int ik, .int wy, .int op, .int cl, .int cx0, .int cx1, .int cy0, .int cy1, .int ds, .ref m4, .ref m5, .ref m6, .ref m7, .ref m8, .ref m9, .int pn, .ref m10, .ref m11, .ref m12, .ref m13])), (m1, .inl (cI, 4, .inl gw))]) [0, 1, 2, 3] rfl) (hD.sub (ws' := [(m2, .inl (cI, 4, .inl gh)), (m3, .inl (cI, 16384, .inl gd)), (h0, .inr (9, [.ref m1, .ref m2, .ref m3, .int ik, .int wy, .int op, .int cl, .int cx0, .int cx1, .int cy0, .int cy1, .int ds, .ref m4, .ref m5, .ref m6, .ref m7, .ref m8, .ref m9, .int pn, .ref m10, .ref m11, .ref m12, .ref m13])), (m1, .inl (cI, 4, .inl gw))]) [0, 1, 2, 3] (by decide) rfl) hS (lv_sub hl [0, 3, 4, 5, 6, 7] rfl)
                                        · skip
                                          have f_75 : ¬ ((i : Int) ≤ z3.toInt) := fn_le hx_i rfl c_74
                                          refine lv_iload hx hb dX9_look_172 (lv_at hl 0 rfl) ?_
                                          refine lv_istore_n (lv' := [(3, .int x5), (7, .int x5), (6, .int (gd (4096 * k.toNatClampNeg + ixP (nI i) (nI j)))), (5, .int x5), (4, .int x4), (0, .ref h0), (1, .int k), (2, .int 1)]) hx hb dX9_look_174 rfl hl (by decide) rfl (fun ls hl => ?_)
                                          obtain ⟨y_77, ey_77⟩ : ∃ y : Int32, y = x5 + 1 := ⟨_, rfl⟩
                                          refine lv_iinc (v := y_77) (lv' := [(5, .int y_77), (3, .int x5), (7, .int x5), (6, .int (gd (4096 * k.toNatClampNeg + ixP (nI i) (nI j)))), (4, .int x4), (0, .ref h0), (1, .int k), (2, .int 1)]) hx hb dX9_look_175 hl (k := 3) rfl (by rw [ey_77]; rfl) (by decide) rfl (fun ls hl => ?_)
                                          refine lv_goto (tgt := 73) hx hb dX9_look_178 (by decide) ?_
                                          exact ih_54 (i + 1) y_77 x5 _ _ _ (by omega) (by omega) (by rw [ey_77, ex_i]; exact nI_1 i) (by omega) (by rw [show smR (bhF (fun t => gd (4096 * k.toNatClampNeg + t)) 1) j (smL (bhF (fun t => gd (4096 * k.toNatClampNeg + t)) 1) W9 (-1) j) (i + 1) = (bhF (fun t => gd (4096 * k.toNatClampNeg + t)) 1) j i z3 from congrArg ((bhF (fun t => gd (4096 * k.toNatClampNeg + t)) 1) j i) eti.symm]; unfold bhF; rw [if_neg (fun q => c_62 (hr_61.trans q)), (show plC 1 j i = x5 from (if_neg (by decide)).trans ex_i.symm), if_pos c_74]) (hP.sub (ws' := [(m2, .inl (cI, 4, .inl gh)), (m3, .inl (cI, 16384, .inl gd)), (h0, .inr (9, [.ref m1, .ref m2, .ref m3, .int ik, .int wy, .int op, .int cl, .int cx0, .int cx1, .int cy0, .int cy1, .int ds, .ref m4, .ref m5, .ref m6, .ref m7, .ref m8, .ref m9, .int pn, .ref m10, .ref m11, .ref m12, .ref m13])), (m1, .inl (cI, 4, .inl gw))]) [0, 1, 2, 3] rfl) (hD.sub (ws' := [(m2, .inl (cI, 4, .inl gh)), (m3, .inl (cI, 16384, .inl gd)), (h0, .inr (9, [.ref m1, .ref m2, .ref m3, .int ik, .int wy, .int op, .int cl, .int cx0, .int cx1, .int cy0, .int cy1, .int ds, .ref m4, .ref m5, .ref m6, .ref m7, .ref m8, .ref m9, .int pn, .ref m10, .ref m11, .ref m12, .ref m13])), (m1, .inl (cI, 4, .inl gw))]) [0, 1, 2, 3] (by decide) rfl) hS (lv_sub hl [0, 4, 1, 5, 6, 7] rfl)
                                    · skip
                                      exact absurd c_70 (by decide)
                            · skip
                              exact absurd c_59 (by decide)
                      exact loop_53 (64 + 1) 0 0 x3 _ _ _ (by omega) (by omega) nI_0.symm (by omega) eto hP hD hS (lv_sub hl [0, 1, 2, 3, 4, 5] rfl)
                exact loop_49 (64 + 1) 0 0 (-1) _ _ _ (by omega) (by omega) nI_0.symm (by omega) rfl hP hD hS (lv_sub hl [0, 1, 2, 3, 4] rfl)
            · skip
              exact absurd c_45 (by decide)
          · skip
            exact absurd c_43 (by decide)
        · skip
          have hl : lv_has ls 8 [(0, .ref h0), (1, .int k), (2, .int 2)] := hl
          refine lv_iload_n hx hb dX9_look_20 rfl (lv_at hl 2 rfl) ?_
          refine lv_iconst (v := 4) hx hb dX9_look_21 (by decide) ?_
          refine lv_icmp_ne (tgt := 32) hx hb dX9_look_22 (by decide) (fun c_78 => ?_) (fun c_78 => ?_)
          · skip
            refine lv_iload_n hx hb dX9_look_32 rfl (lv_at hl 2 rfl) ?_
            refine lv_iconst (v := 5) hx hb dX9_look_33 (by decide) ?_
            refine lv_icmp_ne (tgt := 44) hx hb dX9_look_34 (by decide) (fun c_80 => ?_) (fun c_80 => ?_)
            · skip
              refine lv_iload_n hx hb dX9_look_44 rfl (lv_at hl 2 rfl) ?_
              refine lv_bipush (v := 6) hx hb dX9_look_45 (by decide) ?_
              refine lv_icmp_ge (tgt := 54) hx hb dX9_look_47 (by decide) (fun c_82 => ?_) (fun c_82 => ?_)
              · skip
                exact absurd c_82 (by decide)
              · skip
                refine lv_iconst (v := (-1)) hx hb dX9_look_50 (by decide) ?_
                refine lv_goto (tgt := 55) hx hb dX9_look_51 (by decide) ?_
                refine lv_istore_n (lv' := [(3, .int (-1)), (0, .ref h0), (1, .int k), (2, .int 2)]) hx hb dX9_look_55 rfl hl (by decide) rfl (fun ls hl => ?_)
                refine lv_iconst (v := 0) hx hb dX9_look_56 (by decide) ?_
                refine lv_istore (lv' := [(4, .int 0), (3, .int (-1)), (0, .ref h0), (1, .int k), (2, .int 2)]) hx hb dX9_look_57 hl (by decide) rfl (fun ls hl => ?_)
                have loop_84 : ∀ (n : Nat) (j : Nat) (x4 : Int32) (x3 : Int32) (H : Heap) (locs : List Loc) (ls : Array Slot), (j ≤ 64) → (64 + 1 ≤ j + n) → (x4 = nI j) → (j ≤ H9) → (x3 = smL (blF (fun t => gd (4096 * k.toNatClampNeg + t)) 0) W9 (-1) j) → va_P D vwCl [(m2, .inl (cI, 4, .inl gh)), (m3, .inl (cI, 16384, .inl gd)), (h0, .inr (9, [.ref m1, .ref m2, .ref m3, .int ik, .int wy, .int op, .int cl, .int cx0, .int cx1, .int cy0, .int cy1, .int ds, .ref m4, .ref m5, .ref m6, .ref m7, .ref m8, .ref m9, .int pn, .ref m10, .ref m11, .ref m12, .ref m13])), (m1, .inl (cI, 4, .inl gw))] H → va_D A [(m2, .inl (cI, 4, .inl gh)), (m3, .inl (cI, 16384, .inl gd)), (h0, .inr (9, [.ref m1, .ref m2, .ref m3, .int ik, .int wy, .int op, .int cl, .int cx0, .int cx1, .int cy0, .int cy1, .int ds, .ref m4, .ref m5, .ref m6, .ref m7, .ref m8, .ref m9, .int pn, .ref m10, .ref m11, .ref m12, .ref m13])), (m1, .inl (cI, 4, .inl gw))] → va_S A s.heap H locs → lv_has ls 8 [(4, .int x4), (3, .int x3), (0, .ref h0), (1, .int k), (2, .int 2)] → W p l e R s m ([.ref h0, .int k, .int (nI 2)] : List Value).toArray below meth c H locs 0 0 Q (F0 m 59 ls []) := by
                  intro n
                  induction n with
                  | zero =>
                    intro j x4 x3 H locs ls hi_j hm_j ex_j hjo eto hP hD hS hl
                    exact absurd (show False by omega) not_false
                  | succ n ih_85 =>
                    intro j x4 x3 H locs ls hi_j hm_j ex_j hjo eto hP hD hS hl
                    have hx_j : x4.toInt = (j : Int) := by rw [ex_j]; exact nI_toInt (by omega)
                    have hc_j : x4.toNatClampNeg = j := by rw [ex_j]; exact nI_clamp (by omega)
                    refine lv_iload hx hb dX9_look_59 (lv_at hl 0 rfl) ?_
                    refine lv_aload_n hx hb dX9_look_61 rfl (lv_at hl 2 rfl) ?_
                    refine va_get (D := D) (ci := 9) (v := .ref m2) (C := RX9) (T := TX9) (N := 23) hx hb hts hi_X9 hown hK hP 2 rfl rfl 1 (by decide) (hts _ bw_397) (fun _ h9 => h9) rfl dX9_look_62 ?_
                    refine lv_iload_n hx hb dX9_look_65 rfl (lv_at hl 3 rfl) ?_
                    refine va_iald hx hb hK hP 0 0 rfl rfl (vp_in_iff.mpr ⟨by omega, by omega⟩) dX9_look_66 ?_
                    refine lv_icmp_ge (tgt := 187) hx hb dX9_look_67 (by decide) (fun c_86 => ?_) (fun c_86 => ?_)
                    · skip
                      have f_87 : (gh k.toNatClampNeg).toInt ≤ (j : Int) := f_le rfl hx_j c_86
                      refine lv_iload_n hx hb dX9_look_187 rfl (lv_at hl 1 rfl) ?_
                      have hP9 := hP.sub (ws' := [(h0, .inr (9, [.ref m1, .ref m2, .ref m3, .int ik, .int wy, .int op, .int cl, .int cx0, .int cx1, .int cy0, .int cy1, .int ds, .ref m4, .ref m5, .ref m6, .ref m7, .ref m8, .ref m9, .int pn, .ref m10, .ref m11, .ref m12, .ref m13])), (m1, .inl (cI, 4, .inl gw)), (m2, .inl (cI, 4, .inl gh)), (m3, .inl (cI, 16384, .inl gd))]) [2, 3, 0, 1] rfl
                      have hD9 := hD.sub (ws' := [(h0, .inr (9, [.ref m1, .ref m2, .ref m3, .int ik, .int wy, .int op, .int cl, .int cx0, .int cx1, .int cy0, .int cy1, .int ds, .ref m4, .ref m5, .ref m6, .ref m7, .ref m8, .ref m9, .int pn, .ref m10, .ref m11, .ref m12, .ref m13])), (m1, .inl (cI, 4, .inl gw)), (m2, .inl (cI, 4, .inl gh)), (m3, .inl (cI, 16384, .inl gd))]) [2, 3, 0, 1] (by decide) rfl
                      have hK9 := hK.sub (tys' := [(cI, .int)]) [0] rfl
                      refine hQ _ _ _ _ _ ?_
                      exact W.iret (v := x3) hx hb hr (fun t ht hW => ⟨⟨x3, (), rfl, (show _ = lkP (fun t => gd (4096 * k.toNatClampNeg + t)) (gw k.toNatClampNeg) (gh k.toNatClampNeg) (nI 2) from (show _ = smL (blF (fun t => gd (4096 * k.toNatClampNeg + t)) 0) (gw k.toNatClampNeg).toNatClampNeg (-1) (gh k.toNatClampNeg).toNatClampNeg from (by rw [eW9n, eH9n, ← show j = H9 by omega]; exact eto)).trans (if_pos (by decide)).symm), ⟨by rw [ht]; exact hP9, va_K.moved hW.alike hK9, hD9⟩⟩, hS.F ht⟩) hS.2.2 dX9_look_188
                    · skip
                      have f_87 : ¬ ((gh k.toNatClampNeg).toInt ≤ (j : Int)) := fn_le rfl hx_j c_86
                      refine lv_iconst (v := 0) hx hb dX9_look_70 (by decide) ?_
                      refine lv_istore (lv' := [(5, .int 0), (4, .int x4), (3, .int x3), (0, .ref h0), (1, .int k), (2, .int 2)]) hx hb dX9_look_71 hl (by decide) rfl (fun ls hl => ?_)
                      have loop_88 : ∀ (n : Nat) (i : Nat) (x5 : Int32) (z3 : Int32) (H : Heap) (locs : List Loc) (ls : Array Slot), (i ≤ 64) → (64 + 1 ≤ i + n) → (x5 = nI i) → (i ≤ W9) → (z3 = smR (blF (fun t => gd (4096 * k.toNatClampNeg + t)) 0) j (smL (blF (fun t => gd (4096 * k.toNatClampNeg + t)) 0) W9 (-1) j) i) → va_P D vwCl [(m2, .inl (cI, 4, .inl gh)), (m3, .inl (cI, 16384, .inl gd)), (h0, .inr (9, [.ref m1, .ref m2, .ref m3, .int ik, .int wy, .int op, .int cl, .int cx0, .int cx1, .int cy0, .int cy1, .int ds, .ref m4, .ref m5, .ref m6, .ref m7, .ref m8, .ref m9, .int pn, .ref m10, .ref m11, .ref m12, .ref m13])), (m1, .inl (cI, 4, .inl gw))] H → va_D A [(m2, .inl (cI, 4, .inl gh)), (m3, .inl (cI, 16384, .inl gd)), (h0, .inr (9, [.ref m1, .ref m2, .ref m3, .int ik, .int wy, .int op, .int cl, .int cx0, .int cx1, .int cy0, .int cy1, .int ds, .ref m4, .ref m5, .ref m6, .ref m7, .ref m8, .ref m9, .int pn, .ref m10, .ref m11, .ref m12, .ref m13])), (m1, .inl (cI, 4, .inl gw))] → va_S A s.heap H locs → lv_has ls 8 [(5, .int x5), (4, .int x4), (3, .int z3), (0, .ref h0), (1, .int k), (2, .int 2)] → W p l e R s m ([.ref h0, .int k, .int (nI 2)] : List Value).toArray below meth c H locs 0 0 Q (F0 m 73 ls []) := by
                        intro n
                        induction n with
                        | zero =>
                          intro i x5 z3 H locs ls hi_i hm_i ex_i hio eti hP hD hS hl
                          exact absurd (show False by omega) not_false
                        | succ n ih_89 =>
                          intro i x5 z3 H locs ls hi_i hm_i ex_i hio eti hP hD hS hl
                          have hx_i : x5.toInt = (i : Int) := by rw [ex_i]; exact nI_toInt (by omega)
                          have hc_i : x5.toNatClampNeg = i := by rw [ex_i]; exact nI_clamp (by omega)
                          refine lv_iload hx hb dX9_look_73 (lv_at hl 0 rfl) ?_
                          refine lv_aload_n hx hb dX9_look_75 rfl (lv_at hl 3 rfl) ?_
                          refine va_get (D := D) (ci := 9) (v := .ref m1) (C := RX9) (T := TX9) (N := 23) hx hb hts hi_X9 hown hK hP 2 rfl rfl 0 (by decide) (hts _ bw_396) (fun _ h9 => h9) rfl dX9_look_76 ?_
                          refine lv_iload_n hx hb dX9_look_79 rfl (lv_at hl 4 rfl) ?_
                          refine va_iald hx hb hK hP 3 0 rfl rfl (vp_in_iff.mpr ⟨by omega, by omega⟩) dX9_look_80 ?_
                          refine lv_icmp_ge (tgt := 181) hx hb dX9_look_81 (by decide) (fun c_90 => ?_) (fun c_90 => ?_)
                          · skip
                            have f_91 : (gw k.toNatClampNeg).toInt ≤ (i : Int) := f_le rfl hx_i c_90
                            obtain ⟨y_92, ey_92⟩ : ∃ y : Int32, y = x4 + 1 := ⟨_, rfl⟩
                            refine lv_iinc (v := y_92) (lv' := [(4, .int y_92), (5, .int x5), (3, .int z3), (0, .ref h0), (1, .int k), (2, .int 2)]) hx hb dX9_look_181 hl (k := 1) rfl (by rw [ey_92]; rfl) (by decide) rfl (fun ls hl => ?_)
                            refine lv_goto (tgt := 59) hx hb dX9_look_184 (by decide) ?_
                            exact ih_85 (j + 1) y_92 z3 _ _ _ (by omega) (by omega) (by rw [ey_92, ex_j]; exact nI_1 j) (by omega) (sm_nx eti (by omega)) (hP.sub (ws' := [(m2, .inl (cI, 4, .inl gh)), (m3, .inl (cI, 16384, .inl gd)), (h0, .inr (9, [.ref m1, .ref m2, .ref m3, .int ik, .int wy, .int op, .int cl, .int cx0, .int cx1, .int cy0, .int cy1, .int ds, .ref m4, .ref m5, .ref m6, .ref m7, .ref m8, .ref m9, .int pn, .ref m10, .ref m11, .ref m12, .ref m13])), (m1, .inl (cI, 4, .inl gw))]) [0, 1, 2, 3] rfl) (hD.sub (ws' := [(m2, .inl (cI, 4, .inl gh)), (m3, .inl (cI, 16384, .inl gd)), (h0, .inr (9, [.ref m1, .ref m2, .ref m3, .int ik, .int wy, .int op, .int cl, .int cx0, .int cx1, .int cy0, .int cy1, .int ds, .ref m4, .ref m5, .ref m6, .ref m7, .ref m8, .ref m9, .int pn, .ref m10, .ref m11, .ref m12, .ref m13])), (m1, .inl (cI, 4, .inl gw))]) [0, 1, 2, 3] (by decide) rfl) hS (lv_sub hl [0, 2, 3, 4, 5] rfl)
                          · skip
                            have f_91 : ¬ ((gw k.toNatClampNeg).toInt ≤ (i : Int)) := fn_le rfl hx_i c_90
                            refine lv_aload_n hx hb dX9_look_84 rfl (lv_at hl 3 rfl) ?_
                            refine va_get (D := D) (ci := 9) (v := .ref m3) (C := RX9) (T := TX9) (N := 23) hx hb hts hi_X9 hown hK hP 2 rfl rfl 2 (by decide) (hts _ bw_398) (fun _ h9 => h9) rfl dX9_look_85 ?_
                            refine lv_iload_n hx hb dX9_look_88 rfl (lv_at hl 4 rfl) ?_
                            refine lv_iload hx hb dX9_look_89 (lv_at hl 0 rfl) ?_
                            refine lv_iload hx hb dX9_look_91 (lv_at hl 1 rfl) ?_
                            have hPc := hP.sub (ws' := []) [] rfl
                            have hDc := hD.sub (ws' := []) [] (by decide) rfl
                            have hKc := hK.sub (tys' := []) [] rfl
                            have hFc := va_free (wc := []) hD hS hA [] rfl
                            refine va_calli (va_runS (As := [.int k, .int x5, .int x4]) (rest := [.ref m3]) ⟨hx, hb, hml, hown, hts⟩ (k_X9_spot l D H.size k x5 x4) (va_cwS 3 hts (gS bw_551 bw_421 bw_391 bw_420) rfl rfl rfl (by decide +kernel) ⟨(by rw [hR]; exact Nat.le_of_ble_eq_true rfl), (by rw [hR]; exact Nat.le_of_ble_eq_true rfl)⟩) ⟨cP_blind, cP_at hPc hKc hDc hN⟩ rfl rfl hl.1 rfl (lv_room (Nat.le_of_ble_eq_true rfl)) dX9_look_93 ⟨(by rw [hR]; exact Nat.le_of_ble_eq_true rfl), (by rw [hR]; exact Nat.le_of_ble_eq_true rfl)⟩) hS (fun q _ h => hFc q h) hFc (fun r_93 u9 t9 H1 locs ht hvm hr_93 hB hz1 hk1 hS => ?_)
                            try dsimp only at hr_93
                            have hP1 : va_P D vwCl [] H1 := vP_nil
                            have hD1 : va_D (va_A [] H.size) [] := vD_nil
                            obtain ⟨hP, hD⟩ := va_join (wr := [(m2, .inl (cI, 4, .inl gh)), (m3, .inl (cI, 16384, .inl gd)), (h0, .inr (9, [.ref m1, .ref m2, .ref m3, .int ik, .int wy, .int op, .int cl, .int cx0, .int cx1, .int cy0, .int cy1, .int ds, .ref m4, .ref m5, .ref m6, .ref m7, .ref m8, .ref m9, .int pn, .ref m10, .ref m11, .ref m12, .ref m13])), (m1, .inl (cI, 4, .inl gw))]) (w1 := []) hP hD [] [0, 1, 2, 3] rfl rfl (by decide) (by decide) hk1 hFc hP1 hD1
                            clear hz1 hk1 hFc hKc hDc hPc
                            generalize H1 = H at hP hS ⊢
                            have hP : va_P D vwCl [(m2, .inl (cI, 4, .inl gh)), (m3, .inl (cI, 16384, .inl gd)), (h0, .inr (9, [.ref m1, .ref m2, .ref m3, .int ik, .int wy, .int op, .int cl, .int cx0, .int cx1, .int cy0, .int cy1, .int ds, .ref m4, .ref m5, .ref m6, .ref m7, .ref m8, .ref m9, .int pn, .ref m10, .ref m11, .ref m12, .ref m13])), (m1, .inl (cI, 4, .inl gw))] H := hP
                            have hD : va_D A [(m2, .inl (cI, 4, .inl gh)), (m3, .inl (cI, 16384, .inl gd)), (h0, .inr (9, [.ref m1, .ref m2, .ref m3, .int ik, .int wy, .int op, .int cl, .int cx0, .int cx1, .int cy0, .int cy1, .int ds, .ref m4, .ref m5, .ref m6, .ref m7, .ref m8, .ref m9, .int pn, .ref m10, .ref m11, .ref m12, .ref m13])), (m1, .inl (cI, 4, .inl gw))] := hD
                            refine va_iald hx hb hK hP 1 0 rfl rfl (by rw [hr_93]; exact sp_in (by omega) (by omega) (by omega) (by omega) (by omega) (by omega)) dX9_look_96 ?_
                            refine my_fold (v := gd (4096 * k.toNatClampNeg + ixP (nI i) (nI j))) (congrArg gd (by rw [hr_93, sp_cl (by omega) (by omega) (by omega) (by omega) (by omega) (by omega), ex_i, ex_j])) ?_
                            refine lv_istore (lv' := [(6, .int (gd (4096 * k.toNatClampNeg + ixP (nI i) (nI j)))), (5, .int x5), (4, .int x4), (3, .int z3), (0, .ref h0), (1, .int k), (2, .int 2)]) hx hb dX9_look_97 hl (by decide) rfl (fun ls hl => ?_)
                            refine lv_iload_n hx hb dX9_look_99 rfl (lv_at hl 6 rfl) ?_
                            refine lv_iconst (v := 5) hx hb dX9_look_100 (by decide) ?_
                            refine lv_icmp_le (tgt := 119) hx hb dX9_look_101 (by decide) (fun c_94 => ?_) (fun c_94 => ?_)
                            · skip
                              refine lv_iload hx hb dX9_look_119 (lv_at hl 0 rfl) ?_
                              refine lv_iconst (v := 0) hx hb dX9_look_121 (by decide) ?_
                              have hPc := hP.sub (ws' := []) [] rfl
                              have hDc := hD.sub (ws' := []) [] (by decide) rfl
                              have hKc := hK.sub (tys' := []) [] rfl
                              have hFc := va_free (wc := []) hD hS hA [] rfl
                              refine va_calli (va_runS (As := [.int (gd (4096 * k.toNatClampNeg + ixP (nI i) (nI j))), .int 0]) (rest := []) ⟨hx, hb, hml, hown, hts⟩ (k_X9_channel_0 l D H.size (gd (4096 * k.toNatClampNeg + ixP (nI i) (nI j)))) (va_cwS 2 hts (gS bw_441 bw_438 bw_391 bw_437) rfl rfl rfl (by decide +kernel) ⟨(by rw [hR]; exact Nat.le_of_ble_eq_true rfl), (by rw [hR]; exact Nat.le_of_ble_eq_true rfl)⟩) ⟨cP_blind, cP_at hPc hKc hDc hN⟩ rfl rfl hl.1 rfl (lv_room (Nat.le_of_ble_eq_true rfl)) dX9_look_122 ⟨(by rw [hR]; exact Nat.le_of_ble_eq_true rfl), (by rw [hR]; exact Nat.le_of_ble_eq_true rfl)⟩) hS (fun q _ h => hFc q h) hFc (fun r_96 u9 t9 H1 locs ht hvm hr_96 hB hz1 hk1 hS => ?_)
                              try dsimp only at hr_96
                              have hP1 : va_P D vwCl [] H1 := vP_nil
                              have hD1 : va_D (va_A [] H.size) [] := vD_nil
                              obtain ⟨hP, hD⟩ := va_join (wr := [(m2, .inl (cI, 4, .inl gh)), (m3, .inl (cI, 16384, .inl gd)), (h0, .inr (9, [.ref m1, .ref m2, .ref m3, .int ik, .int wy, .int op, .int cl, .int cx0, .int cx1, .int cy0, .int cy1, .int ds, .ref m4, .ref m5, .ref m6, .ref m7, .ref m8, .ref m9, .int pn, .ref m10, .ref m11, .ref m12, .ref m13])), (m1, .inl (cI, 4, .inl gw))]) (w1 := []) hP hD [] [0, 1, 2, 3] rfl rfl (by decide) (by decide) hk1 hFc hP1 hD1
                              clear hz1 hk1 hFc hKc hDc hPc
                              generalize H1 = H at hP hS ⊢
                              have hP : va_P D vwCl [(m2, .inl (cI, 4, .inl gh)), (m3, .inl (cI, 16384, .inl gd)), (h0, .inr (9, [.ref m1, .ref m2, .ref m3, .int ik, .int wy, .int op, .int cl, .int cx0, .int cx1, .int cy0, .int cy1, .int ds, .ref m4, .ref m5, .ref m6, .ref m7, .ref m8, .ref m9, .int pn, .ref m10, .ref m11, .ref m12, .ref m13])), (m1, .inl (cI, 4, .inl gw))] H := hP
                              have hD : va_D A [(m2, .inl (cI, 4, .inl gh)), (m3, .inl (cI, 16384, .inl gd)), (h0, .inr (9, [.ref m1, .ref m2, .ref m3, .int ik, .int wy, .int op, .int cl, .int cx0, .int cx1, .int cy0, .int cy1, .int ds, .ref m4, .ref m5, .ref m6, .ref m7, .ref m8, .ref m9, .int pn, .ref m10, .ref m11, .ref m12, .ref m13])), (m1, .inl (cI, 4, .inl gw))] := hD
                              refine lv_if_eq (tgt := 175) hx hb dX9_look_125 (by decide) (fun c_97 => ?_) (fun c_97 => ?_)
                              · skip
                                have f_98 : r_96.toInt = 0 := f_eq rfl (by decide) c_97
                                obtain ⟨y_99, ey_99⟩ : ∃ y : Int32, y = x5 + 1 := ⟨_, rfl⟩
                                refine lv_iinc (v := y_99) (lv' := [(5, .int y_99), (6, .int (gd (4096 * k.toNatClampNeg + ixP (nI i) (nI j)))), (4, .int x4), (3, .int z3), (0, .ref h0), (1, .int k), (2, .int 2)]) hx hb dX9_look_175 hl (k := 1) rfl (by rw [ey_99]; rfl) (by decide) rfl (fun ls hl => ?_)
                                refine lv_goto (tgt := 73) hx hb dX9_look_178 (by decide) ?_
                                exact ih_89 (i + 1) y_99 z3 _ _ _ (by omega) (by omega) (by rw [ey_99, ex_i]; exact nI_1 i) (by omega) (by rw [show smR (blF (fun t => gd (4096 * k.toNatClampNeg + t)) 0) j (smL (blF (fun t => gd (4096 * k.toNatClampNeg + t)) 0) W9 (-1) j) (i + 1) = (blF (fun t => gd (4096 * k.toNatClampNeg + t)) 0) j i z3 from congrArg ((blF (fun t => gd (4096 * k.toNatClampNeg + t)) 0) j i) eti.symm]; exact (show (blF (fun t => gd (4096 * k.toNatClampNeg + t)) 0) j i z3 = z3 from if_pos (hr_96.symm.trans c_97)).symm) (hP.sub (ws' := [(m2, .inl (cI, 4, .inl gh)), (m3, .inl (cI, 16384, .inl gd)), (h0, .inr (9, [.ref m1, .ref m2, .ref m3, .int ik, .int wy, .int op, .int cl, .int cx0, .int cx1, .int cy0, .int cy1, .int ds, .ref m4, .ref m5, .ref m6, .ref m7, .ref m8, .ref m9, .int pn, .ref m10, .ref m11, .ref m12, .ref m13])), (m1, .inl (cI, 4, .inl gw))]) [0, 1, 2, 3] rfl) (hD.sub (ws' := [(m2, .inl (cI, 4, .inl gh)), (m3, .inl (cI, 16384, .inl gd)), (h0, .inr (9, [.ref m1, .ref m2, .ref m3, .int ik, .int wy, .int op, .int cl, .int cx0, .int cx1, .int cy0, .int cy1, .int ds, .ref m4, .ref m5, .ref m6, .ref m7, .ref m8, .ref m9, .int pn, .ref m10, .ref m11, .ref m12, .ref m13])), (m1, .inl (cI, 4, .inl gw))]) [0, 1, 2, 3] (by decide) rfl) hS (lv_sub hl [0, 2, 3, 4, 5, 6] rfl)
                              · skip
                                have f_98 : ¬ (r_96.toInt = 0) := fn_eq rfl (by decide) c_97
                                refine lv_iload_n hx hb dX9_look_128 rfl (lv_at hl 6 rfl) ?_
                                refine lv_iconst (v := 2) hx hb dX9_look_129 (by decide) ?_
                                refine lv_icmp_ge (tgt := 138) hx hb dX9_look_130 (by decide) (fun c_100 => ?_) (fun c_100 => ?_)
                                · skip
                                  refine lv_iload hx hb dX9_look_138 (lv_at hl 2 rfl) ?_
                                  refine lv_istore (lv' := [(7, .int x4), (6, .int (gd (4096 * k.toNatClampNeg + ixP (nI i) (nI j)))), (5, .int x5), (4, .int x4), (3, .int z3), (0, .ref h0), (1, .int k), (2, .int 2)]) hx hb dX9_look_140 hl (by decide) rfl (fun ls hl => ?_)
                                  refine lv_iload_n hx hb dX9_look_142 rfl (lv_at hl 4 rfl) ?_
                                  refine lv_iconst (v := (-1)) hx hb dX9_look_143 (by decide) ?_
                                  refine lv_icmp_eq (tgt := 172) hx hb dX9_look_144 (by decide) (fun c_102 => ?_) (fun c_102 => ?_)
                                  · skip
                                    have f_103 : z3.toInt = (-1) := f_eq rfl (by decide) c_102
                                    refine lv_iload hx hb dX9_look_172 (lv_at hl 0 rfl) ?_
                                    refine lv_istore_n (lv' := [(3, .int x4), (7, .int x4), (6, .int (gd (4096 * k.toNatClampNeg + ixP (nI i) (nI j)))), (5, .int x5), (4, .int x4), (0, .ref h0), (1, .int k), (2, .int 2)]) hx hb dX9_look_174 rfl hl (by decide) rfl (fun ls hl => ?_)
                                    obtain ⟨y_104, ey_104⟩ : ∃ y : Int32, y = x5 + 1 := ⟨_, rfl⟩
                                    refine lv_iinc (v := y_104) (lv' := [(5, .int y_104), (3, .int x4), (7, .int x4), (6, .int (gd (4096 * k.toNatClampNeg + ixP (nI i) (nI j)))), (4, .int x4), (0, .ref h0), (1, .int k), (2, .int 2)]) hx hb dX9_look_175 hl (k := 3) rfl (by rw [ey_104]; rfl) (by decide) rfl (fun ls hl => ?_)
                                    refine lv_goto (tgt := 73) hx hb dX9_look_178 (by decide) ?_
                                    exact ih_89 (i + 1) y_104 x4 _ _ _ (by omega) (by omega) (by rw [ey_104, ex_i]; exact nI_1 i) (by omega) (by rw [show smR (blF (fun t => gd (4096 * k.toNatClampNeg + t)) 0) j (smL (blF (fun t => gd (4096 * k.toNatClampNeg + t)) 0) W9 (-1) j) (i + 1) = (blF (fun t => gd (4096 * k.toNatClampNeg + t)) 0) j i z3 from congrArg ((blF (fun t => gd (4096 * k.toNatClampNeg + t)) 0) j i) eti.symm]; unfold blF; rw [if_neg (fun q => c_97 (hr_96.trans q)), if_pos c_102, (show plC 0 j i = x4 from (if_pos (by decide)).trans ex_j.symm)]) (hP.sub (ws' := [(m2, .inl (cI, 4, .inl gh)), (m3, .inl (cI, 16384, .inl gd)), (h0, .inr (9, [.ref m1, .ref m2, .ref m3, .int ik, .int wy, .int op, .int cl, .int cx0, .int cx1, .int cy0, .int cy1, .int ds, .ref m4, .ref m5, .ref m6, .ref m7, .ref m8, .ref m9, .int pn, .ref m10, .ref m11, .ref m12, .ref m13])), (m1, .inl (cI, 4, .inl gw))]) [0, 1, 2, 3] rfl) (hD.sub (ws' := [(m2, .inl (cI, 4, .inl gh)), (m3, .inl (cI, 16384, .inl gd)), (h0, .inr (9, [.ref m1, .ref m2, .ref m3, .int ik, .int wy, .int op, .int cl, .int cx0, .int cx1, .int cy0, .int cy1, .int ds, .ref m4, .ref m5, .ref m6, .ref m7, .ref m8, .ref m9, .int pn, .ref m10, .ref m11, .ref m12, .ref m13])), (m1, .inl (cI, 4, .inl gw))]) [0, 1, 2, 3] (by decide) rfl) hS (lv_sub hl [0, 4, 1, 5, 6, 7] rfl)
                                  · skip
                                    have f_103 : ¬ (z3.toInt = (-1)) := fn_eq rfl (by decide) c_102
                                    refine lv_iload_n hx hb dX9_look_147 rfl (lv_at hl 7 rfl) ?_
                                    refine lv_iconst (v := 2) hx hb dX9_look_148 (by decide) ?_
                                    refine lv_irem hx hb dX9_look_149 (by decide) ?_
                                    refine my_fold (v := 0) (by decide) ?_
                                    refine lv_if_ne (tgt := 159) hx hb dX9_look_150 (by decide) (fun c_105 => ?_) (fun c_105 => ?_)
                                    · skip
                                      exact absurd c_105 (by decide)
                                    · skip
                                      refine lv_iload hx hb dX9_look_153 (lv_at hl 0 rfl) ?_
                                      refine lv_iload_n hx hb dX9_look_155 rfl (lv_at hl 4 rfl) ?_
                                      refine lv_icmp_lt (tgt := 172) hx hb dX9_look_156 (by decide) (fun c_107 => ?_) (fun c_107 => ?_)
                                      · skip
                                        have f_108 : (j : Int) < z3.toInt := f_lt hx_j rfl c_107
                                        refine lv_iload hx hb dX9_look_172 (lv_at hl 0 rfl) ?_
                                        refine lv_istore_n (lv' := [(3, .int x4), (7, .int x4), (6, .int (gd (4096 * k.toNatClampNeg + ixP (nI i) (nI j)))), (5, .int x5), (4, .int x4), (0, .ref h0), (1, .int k), (2, .int 2)]) hx hb dX9_look_174 rfl hl (by decide) rfl (fun ls hl => ?_)
                                        obtain ⟨y_109, ey_109⟩ : ∃ y : Int32, y = x5 + 1 := ⟨_, rfl⟩
                                        refine lv_iinc (v := y_109) (lv' := [(5, .int y_109), (3, .int x4), (7, .int x4), (6, .int (gd (4096 * k.toNatClampNeg + ixP (nI i) (nI j)))), (4, .int x4), (0, .ref h0), (1, .int k), (2, .int 2)]) hx hb dX9_look_175 hl (k := 3) rfl (by rw [ey_109]; rfl) (by decide) rfl (fun ls hl => ?_)
                                        refine lv_goto (tgt := 73) hx hb dX9_look_178 (by decide) ?_
                                        exact ih_89 (i + 1) y_109 x4 _ _ _ (by omega) (by omega) (by rw [ey_109, ex_i]; exact nI_1 i) (by omega) (by rw [show smR (blF (fun t => gd (4096 * k.toNatClampNeg + t)) 0) j (smL (blF (fun t => gd (4096 * k.toNatClampNeg + t)) 0) W9 (-1) j) (i + 1) = (blF (fun t => gd (4096 * k.toNatClampNeg + t)) 0) j i z3 from congrArg ((blF (fun t => gd (4096 * k.toNatClampNeg + t)) 0) j i) eti.symm]; unfold blF; rw [if_neg (fun q => c_97 (hr_96.trans q)), if_neg c_102, (show plC 0 j i = x4 from (if_pos (by decide)).trans ex_j.symm), if_pos c_107]) (hP.sub (ws' := [(m2, .inl (cI, 4, .inl gh)), (m3, .inl (cI, 16384, .inl gd)), (h0, .inr (9, [.ref m1, .ref m2, .ref m3, .int ik, .int wy, .int op, .int cl, .int cx0, .int cx1, .int cy0, .int cy1, .int ds, .ref m4, .ref m5, .ref m6, .ref m7, .ref m8, .ref m9, .int pn, .ref m10, .ref m11, .ref m12, .ref m13])), (m1, .inl (cI, 4, .inl gw))]) [0, 1, 2, 3] rfl) (hD.sub (ws' := [(m2, .inl (cI, 4, .inl gh)), (m3, .inl (cI, 16384, .inl gd)), (h0, .inr (9, [.ref m1, .ref m2, .ref m3, .int ik, .int wy, .int op, .int cl, .int cx0, .int cx1, .int cy0, .int cy1, .int ds, .ref m4, .ref m5, .ref m6, .ref m7, .ref m8, .ref m9, .int pn, .ref m10, .ref m11, .ref m12, .ref m13])), (m1, .inl (cI, 4, .inl gw))]) [0, 1, 2, 3] (by decide) rfl) hS (lv_sub hl [0, 4, 1, 5, 6, 7] rfl)
                                      · skip
                                        have f_108 : ¬ ((j : Int) < z3.toInt) := fn_lt hx_j rfl c_107
                                        refine lv_iload_n hx hb dX9_look_159 rfl (lv_at hl 7 rfl) ?_
                                        refine lv_iconst (v := 2) hx hb dX9_look_160 (by decide) ?_
                                        refine lv_irem hx hb dX9_look_161 (by decide) ?_
                                        refine my_fold (v := 0) (by decide) ?_
                                        refine lv_iconst (v := 1) hx hb dX9_look_162 (by decide) ?_
                                        refine lv_icmp_ne (tgt := 175) hx hb dX9_look_163 (by decide) (fun c_110 => ?_) (fun c_110 => ?_)
                                        · skip
                                          obtain ⟨y_112, ey_112⟩ : ∃ y : Int32, y = x5 + 1 := ⟨_, rfl⟩
                                          refine lv_iinc (v := y_112) (lv' := [(5, .int y_112), (7, .int x4), (6, .int (gd (4096 * k.toNatClampNeg + ixP (nI i) (nI j)))), (4, .int x4), (3, .int z3), (0, .ref h0), (1, .int k), (2, .int 2)]) hx hb dX9_look_175 hl (k := 2) rfl (by rw [ey_112]; rfl) (by decide) rfl (fun ls hl => ?_)
                                          refine lv_goto (tgt := 73) hx hb dX9_look_178 (by decide) ?_
                                          exact ih_89 (i + 1) y_112 z3 _ _ _ (by omega) (by omega) (by rw [ey_112, ex_i]; exact nI_1 i) (by omega) (by rw [show smR (blF (fun t => gd (4096 * k.toNatClampNeg + t)) 0) j (smL (blF (fun t => gd (4096 * k.toNatClampNeg + t)) 0) W9 (-1) j) (i + 1) = (blF (fun t => gd (4096 * k.toNatClampNeg + t)) 0) j i z3 from congrArg ((blF (fun t => gd (4096 * k.toNatClampNeg + t)) 0) j i) eti.symm]; unfold blF; rw [if_neg (fun q => c_97 (hr_96.trans q)), if_neg c_102, (show plC 0 j i = x4 from (if_pos (by decide)).trans ex_j.symm), if_neg c_107]) (hP.sub (ws' := [(m2, .inl (cI, 4, .inl gh)), (m3, .inl (cI, 16384, .inl gd)), (h0, .inr (9, [.ref m1, .ref m2, .ref m3, .int ik, .int wy, .int op, .int cl, .int cx0, .int cx1, .int cy0, .int cy1, .int ds, .ref m4, .ref m5, .ref m6, .ref m7, .ref m8, .ref m9, .int pn, .ref m10, .ref m11, .ref m12, .ref m13])), (m1, .inl (cI, 4, .inl gw))]) [0, 1, 2, 3] rfl) (hD.sub (ws' := [(m2, .inl (cI, 4, .inl gh)), (m3, .inl (cI, 16384, .inl gd)), (h0, .inr (9, [.ref m1, .ref m2, .ref m3, .int ik, .int wy, .int op, .int cl, .int cx0, .int cx1, .int cy0, .int cy1, .int ds, .ref m4, .ref m5, .ref m6, .ref m7, .ref m8, .ref m9, .int pn, .ref m10, .ref m11, .ref m12, .ref m13])), (m1, .inl (cI, 4, .inl gw))]) [0, 1, 2, 3] (by decide) rfl) hS (lv_sub hl [0, 3, 4, 5, 6, 7] rfl)
                                        · skip
                                          exact absurd c_110 (by decide)
                                · skip
                                  exact absurd c_100 (by decide)
                            · skip
                              exact absurd c_94 (by decide)
                      exact loop_88 (64 + 1) 0 0 x3 _ _ _ (by omega) (by omega) nI_0.symm (by omega) eto hP hD hS (lv_sub hl [0, 1, 2, 3, 4, 5] rfl)
                exact loop_84 (64 + 1) 0 0 (-1) _ _ _ (by omega) (by omega) nI_0.symm (by omega) rfl hP hD hS (lv_sub hl [0, 1, 2, 3, 4] rfl)
            · skip
              exact absurd c_80 (by decide)
          · skip
            exact absurd c_78 (by decide)
        · skip
          have hl : lv_has ls 8 [(0, .ref h0), (1, .int k), (2, .int 3)] := hl
          refine lv_iload_n hx hb dX9_look_20 rfl (lv_at hl 2 rfl) ?_
          refine lv_iconst (v := 4) hx hb dX9_look_21 (by decide) ?_
          refine lv_icmp_ne (tgt := 32) hx hb dX9_look_22 (by decide) (fun c_113 => ?_) (fun c_113 => ?_)
          · skip
            refine lv_iload_n hx hb dX9_look_32 rfl (lv_at hl 2 rfl) ?_
            refine lv_iconst (v := 5) hx hb dX9_look_33 (by decide) ?_
            refine lv_icmp_ne (tgt := 44) hx hb dX9_look_34 (by decide) (fun c_115 => ?_) (fun c_115 => ?_)
            · skip
              refine lv_iload_n hx hb dX9_look_44 rfl (lv_at hl 2 rfl) ?_
              refine lv_bipush (v := 6) hx hb dX9_look_45 (by decide) ?_
              refine lv_icmp_ge (tgt := 54) hx hb dX9_look_47 (by decide) (fun c_117 => ?_) (fun c_117 => ?_)
              · skip
                exact absurd c_117 (by decide)
              · skip
                refine lv_iconst (v := (-1)) hx hb dX9_look_50 (by decide) ?_
                refine lv_goto (tgt := 55) hx hb dX9_look_51 (by decide) ?_
                refine lv_istore_n (lv' := [(3, .int (-1)), (0, .ref h0), (1, .int k), (2, .int 3)]) hx hb dX9_look_55 rfl hl (by decide) rfl (fun ls hl => ?_)
                refine lv_iconst (v := 0) hx hb dX9_look_56 (by decide) ?_
                refine lv_istore (lv' := [(4, .int 0), (3, .int (-1)), (0, .ref h0), (1, .int k), (2, .int 3)]) hx hb dX9_look_57 hl (by decide) rfl (fun ls hl => ?_)
                have loop_119 : ∀ (n : Nat) (j : Nat) (x4 : Int32) (x3 : Int32) (H : Heap) (locs : List Loc) (ls : Array Slot), (j ≤ 64) → (64 + 1 ≤ j + n) → (x4 = nI j) → (j ≤ H9) → (x3 = smL (bhF (fun t => gd (4096 * k.toNatClampNeg + t)) 0) W9 (-1) j) → va_P D vwCl [(m2, .inl (cI, 4, .inl gh)), (m3, .inl (cI, 16384, .inl gd)), (h0, .inr (9, [.ref m1, .ref m2, .ref m3, .int ik, .int wy, .int op, .int cl, .int cx0, .int cx1, .int cy0, .int cy1, .int ds, .ref m4, .ref m5, .ref m6, .ref m7, .ref m8, .ref m9, .int pn, .ref m10, .ref m11, .ref m12, .ref m13])), (m1, .inl (cI, 4, .inl gw))] H → va_D A [(m2, .inl (cI, 4, .inl gh)), (m3, .inl (cI, 16384, .inl gd)), (h0, .inr (9, [.ref m1, .ref m2, .ref m3, .int ik, .int wy, .int op, .int cl, .int cx0, .int cx1, .int cy0, .int cy1, .int ds, .ref m4, .ref m5, .ref m6, .ref m7, .ref m8, .ref m9, .int pn, .ref m10, .ref m11, .ref m12, .ref m13])), (m1, .inl (cI, 4, .inl gw))] → va_S A s.heap H locs → lv_has ls 8 [(4, .int x4), (3, .int x3), (0, .ref h0), (1, .int k), (2, .int 3)] → W p l e R s m ([.ref h0, .int k, .int (nI 3)] : List Value).toArray below meth c H locs 0 0 Q (F0 m 59 ls []) := by
                  intro n
                  induction n with
                  | zero =>
                    intro j x4 x3 H locs ls hi_j hm_j ex_j hjo eto hP hD hS hl
                    exact absurd (show False by omega) not_false
                  | succ n ih_120 =>
                    intro j x4 x3 H locs ls hi_j hm_j ex_j hjo eto hP hD hS hl
                    have hx_j : x4.toInt = (j : Int) := by rw [ex_j]; exact nI_toInt (by omega)
                    have hc_j : x4.toNatClampNeg = j := by rw [ex_j]; exact nI_clamp (by omega)
                    refine lv_iload hx hb dX9_look_59 (lv_at hl 0 rfl) ?_
                    refine lv_aload_n hx hb dX9_look_61 rfl (lv_at hl 2 rfl) ?_
                    refine va_get (D := D) (ci := 9) (v := .ref m2) (C := RX9) (T := TX9) (N := 23) hx hb hts hi_X9 hown hK hP 2 rfl rfl 1 (by decide) (hts _ bw_397) (fun _ h9 => h9) rfl dX9_look_62 ?_
                    refine lv_iload_n hx hb dX9_look_65 rfl (lv_at hl 3 rfl) ?_
                    refine va_iald hx hb hK hP 0 0 rfl rfl (vp_in_iff.mpr ⟨by omega, by omega⟩) dX9_look_66 ?_
                    refine lv_icmp_ge (tgt := 187) hx hb dX9_look_67 (by decide) (fun c_121 => ?_) (fun c_121 => ?_)
                    · skip
                      have f_122 : (gh k.toNatClampNeg).toInt ≤ (j : Int) := f_le rfl hx_j c_121
                      refine lv_iload_n hx hb dX9_look_187 rfl (lv_at hl 1 rfl) ?_
                      have hP9 := hP.sub (ws' := [(h0, .inr (9, [.ref m1, .ref m2, .ref m3, .int ik, .int wy, .int op, .int cl, .int cx0, .int cx1, .int cy0, .int cy1, .int ds, .ref m4, .ref m5, .ref m6, .ref m7, .ref m8, .ref m9, .int pn, .ref m10, .ref m11, .ref m12, .ref m13])), (m1, .inl (cI, 4, .inl gw)), (m2, .inl (cI, 4, .inl gh)), (m3, .inl (cI, 16384, .inl gd))]) [2, 3, 0, 1] rfl
                      have hD9 := hD.sub (ws' := [(h0, .inr (9, [.ref m1, .ref m2, .ref m3, .int ik, .int wy, .int op, .int cl, .int cx0, .int cx1, .int cy0, .int cy1, .int ds, .ref m4, .ref m5, .ref m6, .ref m7, .ref m8, .ref m9, .int pn, .ref m10, .ref m11, .ref m12, .ref m13])), (m1, .inl (cI, 4, .inl gw)), (m2, .inl (cI, 4, .inl gh)), (m3, .inl (cI, 16384, .inl gd))]) [2, 3, 0, 1] (by decide) rfl
                      have hK9 := hK.sub (tys' := [(cI, .int)]) [0] rfl
                      refine hQ _ _ _ _ _ ?_
                      exact W.iret (v := x3) hx hb hr (fun t ht hW => ⟨⟨x3, (), rfl, (show _ = lkP (fun t => gd (4096 * k.toNatClampNeg + t)) (gw k.toNatClampNeg) (gh k.toNatClampNeg) (nI 3) from (show _ = smL (bhF (fun t => gd (4096 * k.toNatClampNeg + t)) 0) (gw k.toNatClampNeg).toNatClampNeg (-1) (gh k.toNatClampNeg).toNatClampNeg from (by rw [eW9n, eH9n, ← show j = H9 by omega]; exact eto)).trans (if_pos (by decide)).symm), ⟨by rw [ht]; exact hP9, va_K.moved hW.alike hK9, hD9⟩⟩, hS.F ht⟩) hS.2.2 dX9_look_188
                    · skip
                      have f_122 : ¬ ((gh k.toNatClampNeg).toInt ≤ (j : Int)) := fn_le rfl hx_j c_121
                      refine lv_iconst (v := 0) hx hb dX9_look_70 (by decide) ?_
                      refine lv_istore (lv' := [(5, .int 0), (4, .int x4), (3, .int x3), (0, .ref h0), (1, .int k), (2, .int 3)]) hx hb dX9_look_71 hl (by decide) rfl (fun ls hl => ?_)
                      have loop_123 : ∀ (n : Nat) (i : Nat) (x5 : Int32) (z3 : Int32) (H : Heap) (locs : List Loc) (ls : Array Slot), (i ≤ 64) → (64 + 1 ≤ i + n) → (x5 = nI i) → (i ≤ W9) → (z3 = smR (bhF (fun t => gd (4096 * k.toNatClampNeg + t)) 0) j (smL (bhF (fun t => gd (4096 * k.toNatClampNeg + t)) 0) W9 (-1) j) i) → va_P D vwCl [(m2, .inl (cI, 4, .inl gh)), (m3, .inl (cI, 16384, .inl gd)), (h0, .inr (9, [.ref m1, .ref m2, .ref m3, .int ik, .int wy, .int op, .int cl, .int cx0, .int cx1, .int cy0, .int cy1, .int ds, .ref m4, .ref m5, .ref m6, .ref m7, .ref m8, .ref m9, .int pn, .ref m10, .ref m11, .ref m12, .ref m13])), (m1, .inl (cI, 4, .inl gw))] H → va_D A [(m2, .inl (cI, 4, .inl gh)), (m3, .inl (cI, 16384, .inl gd)), (h0, .inr (9, [.ref m1, .ref m2, .ref m3, .int ik, .int wy, .int op, .int cl, .int cx0, .int cx1, .int cy0, .int cy1, .int ds, .ref m4, .ref m5, .ref m6, .ref m7, .ref m8, .ref m9, .int pn, .ref m10, .ref m11, .ref m12, .ref m13])), (m1, .inl (cI, 4, .inl gw))] → va_S A s.heap H locs → lv_has ls 8 [(5, .int x5), (4, .int x4), (3, .int z3), (0, .ref h0), (1, .int k), (2, .int 3)] → W p l e R s m ([.ref h0, .int k, .int (nI 3)] : List Value).toArray below meth c H locs 0 0 Q (F0 m 73 ls []) := by
                        intro n
                        induction n with
                        | zero =>
                          intro i x5 z3 H locs ls hi_i hm_i ex_i hio eti hP hD hS hl
                          exact absurd (show False by omega) not_false
                        | succ n ih_124 =>
                          intro i x5 z3 H locs ls hi_i hm_i ex_i hio eti hP hD hS hl
                          have hx_i : x5.toInt = (i : Int) := by rw [ex_i]; exact nI_toInt (by omega)
                          have hc_i : x5.toNatClampNeg = i := by rw [ex_i]; exact nI_clamp (by omega)
                          refine lv_iload hx hb dX9_look_73 (lv_at hl 0 rfl) ?_
                          refine lv_aload_n hx hb dX9_look_75 rfl (lv_at hl 3 rfl) ?_
                          refine va_get (D := D) (ci := 9) (v := .ref m1) (C := RX9) (T := TX9) (N := 23) hx hb hts hi_X9 hown hK hP 2 rfl rfl 0 (by decide) (hts _ bw_396) (fun _ h9 => h9) rfl dX9_look_76 ?_
                          refine lv_iload_n hx hb dX9_look_79 rfl (lv_at hl 4 rfl) ?_
                          refine va_iald hx hb hK hP 3 0 rfl rfl (vp_in_iff.mpr ⟨by omega, by omega⟩) dX9_look_80 ?_
                          refine lv_icmp_ge (tgt := 181) hx hb dX9_look_81 (by decide) (fun c_125 => ?_) (fun c_125 => ?_)
                          · skip
                            have f_126 : (gw k.toNatClampNeg).toInt ≤ (i : Int) := f_le rfl hx_i c_125
                            obtain ⟨y_127, ey_127⟩ : ∃ y : Int32, y = x4 + 1 := ⟨_, rfl⟩
                            refine lv_iinc (v := y_127) (lv' := [(4, .int y_127), (5, .int x5), (3, .int z3), (0, .ref h0), (1, .int k), (2, .int 3)]) hx hb dX9_look_181 hl (k := 1) rfl (by rw [ey_127]; rfl) (by decide) rfl (fun ls hl => ?_)
                            refine lv_goto (tgt := 59) hx hb dX9_look_184 (by decide) ?_
                            exact ih_120 (j + 1) y_127 z3 _ _ _ (by omega) (by omega) (by rw [ey_127, ex_j]; exact nI_1 j) (by omega) (sm_nx eti (by omega)) (hP.sub (ws' := [(m2, .inl (cI, 4, .inl gh)), (m3, .inl (cI, 16384, .inl gd)), (h0, .inr (9, [.ref m1, .ref m2, .ref m3, .int ik, .int wy, .int op, .int cl, .int cx0, .int cx1, .int cy0, .int cy1, .int ds, .ref m4, .ref m5, .ref m6, .ref m7, .ref m8, .ref m9, .int pn, .ref m10, .ref m11, .ref m12, .ref m13])), (m1, .inl (cI, 4, .inl gw))]) [0, 1, 2, 3] rfl) (hD.sub (ws' := [(m2, .inl (cI, 4, .inl gh)), (m3, .inl (cI, 16384, .inl gd)), (h0, .inr (9, [.ref m1, .ref m2, .ref m3, .int ik, .int wy, .int op, .int cl, .int cx0, .int cx1, .int cy0, .int cy1, .int ds, .ref m4, .ref m5, .ref m6, .ref m7, .ref m8, .ref m9, .int pn, .ref m10, .ref m11, .ref m12, .ref m13])), (m1, .inl (cI, 4, .inl gw))]) [0, 1, 2, 3] (by decide) rfl) hS (lv_sub hl [0, 2, 3, 4, 5] rfl)
                          · skip
                            have f_126 : ¬ ((gw k.toNatClampNeg).toInt ≤ (i : Int)) := fn_le rfl hx_i c_125
                            refine lv_aload_n hx hb dX9_look_84 rfl (lv_at hl 3 rfl) ?_
                            refine va_get (D := D) (ci := 9) (v := .ref m3) (C := RX9) (T := TX9) (N := 23) hx hb hts hi_X9 hown hK hP 2 rfl rfl 2 (by decide) (hts _ bw_398) (fun _ h9 => h9) rfl dX9_look_85 ?_
                            refine lv_iload_n hx hb dX9_look_88 rfl (lv_at hl 4 rfl) ?_
                            refine lv_iload hx hb dX9_look_89 (lv_at hl 0 rfl) ?_
                            refine lv_iload hx hb dX9_look_91 (lv_at hl 1 rfl) ?_
                            have hPc := hP.sub (ws' := []) [] rfl
                            have hDc := hD.sub (ws' := []) [] (by decide) rfl
                            have hKc := hK.sub (tys' := []) [] rfl
                            have hFc := va_free (wc := []) hD hS hA [] rfl
                            refine va_calli (va_runS (As := [.int k, .int x5, .int x4]) (rest := [.ref m3]) ⟨hx, hb, hml, hown, hts⟩ (k_X9_spot l D H.size k x5 x4) (va_cwS 3 hts (gS bw_551 bw_421 bw_391 bw_420) rfl rfl rfl (by decide +kernel) ⟨(by rw [hR]; exact Nat.le_of_ble_eq_true rfl), (by rw [hR]; exact Nat.le_of_ble_eq_true rfl)⟩) ⟨cP_blind, cP_at hPc hKc hDc hN⟩ rfl rfl hl.1 rfl (lv_room (Nat.le_of_ble_eq_true rfl)) dX9_look_93 ⟨(by rw [hR]; exact Nat.le_of_ble_eq_true rfl), (by rw [hR]; exact Nat.le_of_ble_eq_true rfl)⟩) hS (fun q _ h => hFc q h) hFc (fun r_128 u9 t9 H1 locs ht hvm hr_128 hB hz1 hk1 hS => ?_)
                            try dsimp only at hr_128
                            have hP1 : va_P D vwCl [] H1 := vP_nil
                            have hD1 : va_D (va_A [] H.size) [] := vD_nil
                            obtain ⟨hP, hD⟩ := va_join (wr := [(m2, .inl (cI, 4, .inl gh)), (m3, .inl (cI, 16384, .inl gd)), (h0, .inr (9, [.ref m1, .ref m2, .ref m3, .int ik, .int wy, .int op, .int cl, .int cx0, .int cx1, .int cy0, .int cy1, .int ds, .ref m4, .ref m5, .ref m6, .ref m7, .ref m8, .ref m9, .int pn, .ref m10, .ref m11, .ref m12, .ref m13])), (m1, .inl (cI, 4, .inl gw))]) (w1 := []) hP hD [] [0, 1, 2, 3] rfl rfl (by decide) (by decide) hk1 hFc hP1 hD1
                            clear hz1 hk1 hFc hKc hDc hPc
                            generalize H1 = H at hP hS ⊢
                            have hP : va_P D vwCl [(m2, .inl (cI, 4, .inl gh)), (m3, .inl (cI, 16384, .inl gd)), (h0, .inr (9, [.ref m1, .ref m2, .ref m3, .int ik, .int wy, .int op, .int cl, .int cx0, .int cx1, .int cy0, .int cy1, .int ds, .ref m4, .ref m5, .ref m6, .ref m7, .ref m8, .ref m9, .int pn, .ref m10, .ref m11, .ref m12, .ref m13])), (m1, .inl (cI, 4, .inl gw))] H := hP
                            have hD : va_D A [(m2, .inl (cI, 4, .inl gh)), (m3, .inl (cI, 16384, .inl gd)), (h0, .inr (9, [.ref m1, .ref m2, .ref m3, .int ik, .int wy, .int op, .int cl, .int cx0, .int cx1, .int cy0, .int cy1, .int ds, .ref m4, .ref m5, .ref m6, .ref m7, .ref m8, .ref m9, .int pn, .ref m10, .ref m11, .ref m12, .ref m13])), (m1, .inl (cI, 4, .inl gw))] := hD
                            refine va_iald hx hb hK hP 1 0 rfl rfl (by rw [hr_128]; exact sp_in (by omega) (by omega) (by omega) (by omega) (by omega) (by omega)) dX9_look_96 ?_
                            refine my_fold (v := gd (4096 * k.toNatClampNeg + ixP (nI i) (nI j))) (congrArg gd (by rw [hr_128, sp_cl (by omega) (by omega) (by omega) (by omega) (by omega) (by omega), ex_i, ex_j])) ?_
                            refine lv_istore (lv' := [(6, .int (gd (4096 * k.toNatClampNeg + ixP (nI i) (nI j)))), (5, .int x5), (4, .int x4), (3, .int z3), (0, .ref h0), (1, .int k), (2, .int 3)]) hx hb dX9_look_97 hl (by decide) rfl (fun ls hl => ?_)
                            refine lv_iload_n hx hb dX9_look_99 rfl (lv_at hl 6 rfl) ?_
                            refine lv_iconst (v := 5) hx hb dX9_look_100 (by decide) ?_
                            refine lv_icmp_le (tgt := 119) hx hb dX9_look_101 (by decide) (fun c_129 => ?_) (fun c_129 => ?_)
                            · skip
                              refine lv_iload hx hb dX9_look_119 (lv_at hl 0 rfl) ?_
                              refine lv_iconst (v := 0) hx hb dX9_look_121 (by decide) ?_
                              have hPc := hP.sub (ws' := []) [] rfl
                              have hDc := hD.sub (ws' := []) [] (by decide) rfl
                              have hKc := hK.sub (tys' := []) [] rfl
                              have hFc := va_free (wc := []) hD hS hA [] rfl
                              refine va_calli (va_runS (As := [.int (gd (4096 * k.toNatClampNeg + ixP (nI i) (nI j))), .int 0]) (rest := []) ⟨hx, hb, hml, hown, hts⟩ (k_X9_channel_0 l D H.size (gd (4096 * k.toNatClampNeg + ixP (nI i) (nI j)))) (va_cwS 2 hts (gS bw_441 bw_438 bw_391 bw_437) rfl rfl rfl (by decide +kernel) ⟨(by rw [hR]; exact Nat.le_of_ble_eq_true rfl), (by rw [hR]; exact Nat.le_of_ble_eq_true rfl)⟩) ⟨cP_blind, cP_at hPc hKc hDc hN⟩ rfl rfl hl.1 rfl (lv_room (Nat.le_of_ble_eq_true rfl)) dX9_look_122 ⟨(by rw [hR]; exact Nat.le_of_ble_eq_true rfl), (by rw [hR]; exact Nat.le_of_ble_eq_true rfl)⟩) hS (fun q _ h => hFc q h) hFc (fun r_131 u9 t9 H1 locs ht hvm hr_131 hB hz1 hk1 hS => ?_)
                              try dsimp only at hr_131
                              have hP1 : va_P D vwCl [] H1 := vP_nil
                              have hD1 : va_D (va_A [] H.size) [] := vD_nil
                              obtain ⟨hP, hD⟩ := va_join (wr := [(m2, .inl (cI, 4, .inl gh)), (m3, .inl (cI, 16384, .inl gd)), (h0, .inr (9, [.ref m1, .ref m2, .ref m3, .int ik, .int wy, .int op, .int cl, .int cx0, .int cx1, .int cy0, .int cy1, .int ds, .ref m4, .ref m5, .ref m6, .ref m7, .ref m8, .ref m9, .int pn, .ref m10, .ref m11, .ref m12, .ref m13])), (m1, .inl (cI, 4, .inl gw))]) (w1 := []) hP hD [] [0, 1, 2, 3] rfl rfl (by decide) (by decide) hk1 hFc hP1 hD1
                              clear hz1 hk1 hFc hKc hDc hPc
                              generalize H1 = H at hP hS ⊢
                              have hP : va_P D vwCl [(m2, .inl (cI, 4, .inl gh)), (m3, .inl (cI, 16384, .inl gd)), (h0, .inr (9, [.ref m1, .ref m2, .ref m3, .int ik, .int wy, .int op, .int cl, .int cx0, .int cx1, .int cy0, .int cy1, .int ds, .ref m4, .ref m5, .ref m6, .ref m7, .ref m8, .ref m9, .int pn, .ref m10, .ref m11, .ref m12, .ref m13])), (m1, .inl (cI, 4, .inl gw))] H := hP
                              have hD : va_D A [(m2, .inl (cI, 4, .inl gh)), (m3, .inl (cI, 16384, .inl gd)), (h0, .inr (9, [.ref m1, .ref m2, .ref m3, .int ik, .int wy, .int op, .int cl, .int cx0, .int cx1, .int cy0, .int cy1, .int ds, .ref m4, .ref m5, .ref m6, .ref m7, .ref m8, .ref m9, .int pn, .ref m10, .ref m11, .ref m12, .ref m13])), (m1, .inl (cI, 4, .inl gw))] := hD
                              refine lv_if_eq (tgt := 175) hx hb dX9_look_125 (by decide) (fun c_132 => ?_) (fun c_132 => ?_)
                              · skip
                                have f_133 : r_131.toInt = 0 := f_eq rfl (by decide) c_132
                                obtain ⟨y_134, ey_134⟩ : ∃ y : Int32, y = x5 + 1 := ⟨_, rfl⟩
                                refine lv_iinc (v := y_134) (lv' := [(5, .int y_134), (6, .int (gd (4096 * k.toNatClampNeg + ixP (nI i) (nI j)))), (4, .int x4), (3, .int z3), (0, .ref h0), (1, .int k), (2, .int 3)]) hx hb dX9_look_175 hl (k := 1) rfl (by rw [ey_134]; rfl) (by decide) rfl (fun ls hl => ?_)
                                refine lv_goto (tgt := 73) hx hb dX9_look_178 (by decide) ?_
                                exact ih_124 (i + 1) y_134 z3 _ _ _ (by omega) (by omega) (by rw [ey_134, ex_i]; exact nI_1 i) (by omega) (by rw [show smR (bhF (fun t => gd (4096 * k.toNatClampNeg + t)) 0) j (smL (bhF (fun t => gd (4096 * k.toNatClampNeg + t)) 0) W9 (-1) j) (i + 1) = (bhF (fun t => gd (4096 * k.toNatClampNeg + t)) 0) j i z3 from congrArg ((bhF (fun t => gd (4096 * k.toNatClampNeg + t)) 0) j i) eti.symm]; exact (show (bhF (fun t => gd (4096 * k.toNatClampNeg + t)) 0) j i z3 = z3 from if_pos (hr_131.symm.trans c_132)).symm) (hP.sub (ws' := [(m2, .inl (cI, 4, .inl gh)), (m3, .inl (cI, 16384, .inl gd)), (h0, .inr (9, [.ref m1, .ref m2, .ref m3, .int ik, .int wy, .int op, .int cl, .int cx0, .int cx1, .int cy0, .int cy1, .int ds, .ref m4, .ref m5, .ref m6, .ref m7, .ref m8, .ref m9, .int pn, .ref m10, .ref m11, .ref m12, .ref m13])), (m1, .inl (cI, 4, .inl gw))]) [0, 1, 2, 3] rfl) (hD.sub (ws' := [(m2, .inl (cI, 4, .inl gh)), (m3, .inl (cI, 16384, .inl gd)), (h0, .inr (9, [.ref m1, .ref m2, .ref m3, .int ik, .int wy, .int op, .int cl, .int cx0, .int cx1, .int cy0, .int cy1, .int ds, .ref m4, .ref m5, .ref m6, .ref m7, .ref m8, .ref m9, .int pn, .ref m10, .ref m11, .ref m12, .ref m13])), (m1, .inl (cI, 4, .inl gw))]) [0, 1, 2, 3] (by decide) rfl) hS (lv_sub hl [0, 2, 3, 4, 5, 6] rfl)
                              · skip
                                have f_133 : ¬ (r_131.toInt = 0) := fn_eq rfl (by decide) c_132
                                refine lv_iload_n hx hb dX9_look_128 rfl (lv_at hl 6 rfl) ?_
                                refine lv_iconst (v := 2) hx hb dX9_look_129 (by decide) ?_
                                refine lv_icmp_ge (tgt := 138) hx hb dX9_look_130 (by decide) (fun c_135 => ?_) (fun c_135 => ?_)
                                · skip
                                  refine lv_iload hx hb dX9_look_138 (lv_at hl 2 rfl) ?_
                                  refine lv_istore (lv' := [(7, .int x4), (6, .int (gd (4096 * k.toNatClampNeg + ixP (nI i) (nI j)))), (5, .int x5), (4, .int x4), (3, .int z3), (0, .ref h0), (1, .int k), (2, .int 3)]) hx hb dX9_look_140 hl (by decide) rfl (fun ls hl => ?_)
                                  refine lv_iload_n hx hb dX9_look_142 rfl (lv_at hl 4 rfl) ?_
                                  refine lv_iconst (v := (-1)) hx hb dX9_look_143 (by decide) ?_
                                  refine lv_icmp_eq (tgt := 172) hx hb dX9_look_144 (by decide) (fun c_137 => ?_) (fun c_137 => ?_)
                                  · skip
                                    have f_138 : z3.toInt = (-1) := f_eq rfl (by decide) c_137
                                    refine lv_iload hx hb dX9_look_172 (lv_at hl 0 rfl) ?_
                                    refine lv_istore_n (lv' := [(3, .int x4), (7, .int x4), (6, .int (gd (4096 * k.toNatClampNeg + ixP (nI i) (nI j)))), (5, .int x5), (4, .int x4), (0, .ref h0), (1, .int k), (2, .int 3)]) hx hb dX9_look_174 rfl hl (by decide) rfl (fun ls hl => ?_)
                                    obtain ⟨y_139, ey_139⟩ : ∃ y : Int32, y = x5 + 1 := ⟨_, rfl⟩
                                    refine lv_iinc (v := y_139) (lv' := [(5, .int y_139), (3, .int x4), (7, .int x4), (6, .int (gd (4096 * k.toNatClampNeg + ixP (nI i) (nI j)))), (4, .int x4), (0, .ref h0), (1, .int k), (2, .int 3)]) hx hb dX9_look_175 hl (k := 3) rfl (by rw [ey_139]; rfl) (by decide) rfl (fun ls hl => ?_)
                                    refine lv_goto (tgt := 73) hx hb dX9_look_178 (by decide) ?_
                                    exact ih_124 (i + 1) y_139 x4 _ _ _ (by omega) (by omega) (by rw [ey_139, ex_i]; exact nI_1 i) (by omega) (by rw [show smR (bhF (fun t => gd (4096 * k.toNatClampNeg + t)) 0) j (smL (bhF (fun t => gd (4096 * k.toNatClampNeg + t)) 0) W9 (-1) j) (i + 1) = (bhF (fun t => gd (4096 * k.toNatClampNeg + t)) 0) j i z3 from congrArg ((bhF (fun t => gd (4096 * k.toNatClampNeg + t)) 0) j i) eti.symm]; unfold bhF; rw [if_neg (fun q => c_132 (hr_131.trans q)), (show plC 0 j i = x4 from (if_pos (by decide)).trans ex_j.symm), if_pos (m1_lt c_137 (by omega))]) (hP.sub (ws' := [(m2, .inl (cI, 4, .inl gh)), (m3, .inl (cI, 16384, .inl gd)), (h0, .inr (9, [.ref m1, .ref m2, .ref m3, .int ik, .int wy, .int op, .int cl, .int cx0, .int cx1, .int cy0, .int cy1, .int ds, .ref m4, .ref m5, .ref m6, .ref m7, .ref m8, .ref m9, .int pn, .ref m10, .ref m11, .ref m12, .ref m13])), (m1, .inl (cI, 4, .inl gw))]) [0, 1, 2, 3] rfl) (hD.sub (ws' := [(m2, .inl (cI, 4, .inl gh)), (m3, .inl (cI, 16384, .inl gd)), (h0, .inr (9, [.ref m1, .ref m2, .ref m3, .int ik, .int wy, .int op, .int cl, .int cx0, .int cx1, .int cy0, .int cy1, .int ds, .ref m4, .ref m5, .ref m6, .ref m7, .ref m8, .ref m9, .int pn, .ref m10, .ref m11, .ref m12, .ref m13])), (m1, .inl (cI, 4, .inl gw))]) [0, 1, 2, 3] (by decide) rfl) hS (lv_sub hl [0, 4, 1, 5, 6, 7] rfl)
                                  · skip
                                    have f_138 : ¬ (z3.toInt = (-1)) := fn_eq rfl (by decide) c_137
                                    refine lv_iload_n hx hb dX9_look_147 rfl (lv_at hl 7 rfl) ?_
                                    refine lv_iconst (v := 2) hx hb dX9_look_148 (by decide) ?_
                                    refine lv_irem hx hb dX9_look_149 (by decide) ?_
                                    refine my_fold (v := 1) (by decide) ?_
                                    refine lv_if_ne (tgt := 159) hx hb dX9_look_150 (by decide) (fun c_140 => ?_) (fun c_140 => ?_)
                                    · skip
                                      refine lv_iload_n hx hb dX9_look_159 rfl (lv_at hl 7 rfl) ?_
                                      refine lv_iconst (v := 2) hx hb dX9_look_160 (by decide) ?_
                                      refine lv_irem hx hb dX9_look_161 (by decide) ?_
                                      refine my_fold (v := 1) (by decide) ?_
                                      refine lv_iconst (v := 1) hx hb dX9_look_162 (by decide) ?_
                                      refine lv_icmp_ne (tgt := 175) hx hb dX9_look_163 (by decide) (fun c_142 => ?_) (fun c_142 => ?_)
                                      · skip
                                        exact absurd c_142 (by decide)
                                      · skip
                                        refine lv_iload hx hb dX9_look_166 (lv_at hl 0 rfl) ?_
                                        refine lv_iload_n hx hb dX9_look_168 rfl (lv_at hl 4 rfl) ?_
                                        refine lv_icmp_le (tgt := 175) hx hb dX9_look_169 (by decide) (fun c_144 => ?_) (fun c_144 => ?_)
                                        · skip
                                          have f_145 : (j : Int) ≤ z3.toInt := f_le hx_j rfl c_144
                                          obtain ⟨y_146, ey_146⟩ : ∃ y : Int32, y = x5 + 1 := ⟨_, rfl⟩
                                          refine lv_iinc (v := y_146) (lv' := [(5, .int y_146), (7, .int x4), (6, .int (gd (4096 * k.toNatClampNeg + ixP (nI i) (nI j)))), (4, .int x4), (3, .int z3), (0, .ref h0), (1, .int k), (2, .int 3)]) hx hb dX9_look_175 hl (k := 2) rfl (by rw [ey_146]; rfl) (by decide) rfl (fun ls hl => ?_)
                                          refine lv_goto (tgt := 73) hx hb dX9_look_178 (by decide) ?_
                                          exact ih_124 (i + 1) y_146 z3 _ _ _ (by omega) (by omega) (by rw [ey_146, ex_i]; exact nI_1 i) (by omega) (by rw [show smR (bhF (fun t => gd (4096 * k.toNatClampNeg + t)) 0) j (smL (bhF (fun t => gd (4096 * k.toNatClampNeg + t)) 0) W9 (-1) j) (i + 1) = (bhF (fun t => gd (4096 * k.toNatClampNeg + t)) 0) j i z3 from congrArg ((bhF (fun t => gd (4096 * k.toNatClampNeg + t)) 0) j i) eti.symm]; unfold bhF; rw [if_neg (fun q => c_132 (hr_131.trans q)), (show plC 0 j i = x4 from (if_pos (by decide)).trans ex_j.symm), if_neg c_144]) (hP.sub (ws' := [(m2, .inl (cI, 4, .inl gh)), (m3, .inl (cI, 16384, .inl gd)), (h0, .inr (9, [.ref m1, .ref m2, .ref m3, .int ik, .int wy, .int op, .int cl, .int cx0, .int cx1, .int cy0, .int cy1, .int ds, .ref m4, .ref m5, .ref m6, .ref m7, .ref m8, .ref m9, .int pn, .ref m10, .ref m11, .ref m12, .ref m13])), (m1, .inl (cI, 4, .inl gw))]) [0, 1, 2, 3] rfl) (hD.sub (ws' := [(m2, .inl (cI, 4, .inl gh)), (m3, .inl (cI, 16384, .inl gd)), (h0, .inr (9, [.ref m1, .ref m2, .ref m3, .int ik, .int wy, .int op, .int cl, .int cx0, .int cx1, .int cy0, .int cy1, .int ds, .ref m4, .ref m5, .ref m6, .ref m7, .ref m8, .ref m9, .int pn, .ref m10, .ref m11, .ref m12, .ref m13])), (m1, .inl (cI, 4, .inl gw))]) [0, 1, 2, 3] (by decide) rfl) hS (lv_sub hl [0, 3, 4, 5, 6, 7] rfl)
                                        · skip
                                          have f_145 : ¬ ((j : Int) ≤ z3.toInt) := fn_le hx_j rfl c_144
                                          refine lv_iload hx hb dX9_look_172 (lv_at hl 0 rfl) ?_
                                          refine lv_istore_n (lv' := [(3, .int x4), (7, .int x4), (6, .int (gd (4096 * k.toNatClampNeg + ixP (nI i) (nI j)))), (5, .int x5), (4, .int x4), (0, .ref h0), (1, .int k), (2, .int 3)]) hx hb dX9_look_174 rfl hl (by decide) rfl (fun ls hl => ?_)
                                          obtain ⟨y_147, ey_147⟩ : ∃ y : Int32, y = x5 + 1 := ⟨_, rfl⟩
                                          refine lv_iinc (v := y_147) (lv' := [(5, .int y_147), (3, .int x4), (7, .int x4), (6, .int (gd (4096 * k.toNatClampNeg + ixP (nI i) (nI j)))), (4, .int x4), (0, .ref h0), (1, .int k), (2, .int 3)]) hx hb dX9_look_175 hl (k := 3) rfl (by rw [ey_147]; rfl) (by decide) rfl (fun ls hl => ?_)
                                          refine lv_goto (tgt := 73) hx hb dX9_look_178 (by decide) ?_
                                          exact ih_124 (i + 1) y_147 x4 _ _ _ (by omega) (by omega) (by rw [ey_147, ex_i]; exact nI_1 i) (by omega) (by rw [show smR (bhF (fun t => gd (4096 * k.toNatClampNeg + t)) 0) j (smL (bhF (fun t => gd (4096 * k.toNatClampNeg + t)) 0) W9 (-1) j) (i + 1) = (bhF (fun t => gd (4096 * k.toNatClampNeg + t)) 0) j i z3 from congrArg ((bhF (fun t => gd (4096 * k.toNatClampNeg + t)) 0) j i) eti.symm]; unfold bhF; rw [if_neg (fun q => c_132 (hr_131.trans q)), (show plC 0 j i = x4 from (if_pos (by decide)).trans ex_j.symm), if_pos c_144]) (hP.sub (ws' := [(m2, .inl (cI, 4, .inl gh)), (m3, .inl (cI, 16384, .inl gd)), (h0, .inr (9, [.ref m1, .ref m2, .ref m3, .int ik, .int wy, .int op, .int cl, .int cx0, .int cx1, .int cy0, .int cy1, .int ds, .ref m4, .ref m5, .ref m6, .ref m7, .ref m8, .ref m9, .int pn, .ref m10, .ref m11, .ref m12, .ref m13])), (m1, .inl (cI, 4, .inl gw))]) [0, 1, 2, 3] rfl) (hD.sub (ws' := [(m2, .inl (cI, 4, .inl gh)), (m3, .inl (cI, 16384, .inl gd)), (h0, .inr (9, [.ref m1, .ref m2, .ref m3, .int ik, .int wy, .int op, .int cl, .int cx0, .int cx1, .int cy0, .int cy1, .int ds, .ref m4, .ref m5, .ref m6, .ref m7, .ref m8, .ref m9, .int pn, .ref m10, .ref m11, .ref m12, .ref m13])), (m1, .inl (cI, 4, .inl gw))]) [0, 1, 2, 3] (by decide) rfl) hS (lv_sub hl [0, 4, 1, 5, 6, 7] rfl)
                                    · skip
                                      exact absurd c_140 (by decide)
                                · skip
                                  exact absurd c_135 (by decide)
                            · skip
                              exact absurd c_129 (by decide)
                      exact loop_123 (64 + 1) 0 0 x3 _ _ _ (by omega) (by omega) nI_0.symm (by omega) eto hP hD hS (lv_sub hl [0, 1, 2, 3, 4, 5] rfl)
                exact loop_119 (64 + 1) 0 0 (-1) _ _ _ (by omega) (by omega) nI_0.symm (by omega) rfl hP hD hS (lv_sub hl [0, 1, 2, 3, 4] rfl)
            · skip
              exact absurd c_115 (by decide)
          · skip
            exact absurd c_113 (by decide)
        · skip
          have hl : lv_has ls 8 [(0, .ref h0), (1, .int k), (2, .int 4)] := hl
          refine lv_iload_n hx hb dX9_look_20 rfl (lv_at hl 2 rfl) ?_
          refine lv_iconst (v := 4) hx hb dX9_look_21 (by decide) ?_
          refine lv_icmp_ne (tgt := 32) hx hb dX9_look_22 (by decide) (fun c_148 => ?_) (fun c_148 => ?_)
          · skip
            exact absurd c_148 (by decide)
          · skip
            refine lv_aload_n hx hb dX9_look_25 rfl (lv_at hl 0 rfl) ?_
            refine va_get (D := D) (ci := 9) (v := .ref m1) (C := RX9) (T := TX9) (N := 23) hx hb hts hi_X9 hown hK hP 2 rfl rfl 0 (by decide) (hts _ bw_396) (fun _ h9 => h9) rfl dX9_look_26 ?_
            refine lv_iload_n hx hb dX9_look_29 rfl (lv_at hl 1 rfl) ?_
            refine va_iald hx hb hK hP 3 0 rfl rfl (vp_in_iff.mpr ⟨by omega, by omega⟩) dX9_look_30 ?_
            have hP9 := hP.sub (ws' := [(h0, .inr (9, [.ref m1, .ref m2, .ref m3, .int ik, .int wy, .int op, .int cl, .int cx0, .int cx1, .int cy0, .int cy1, .int ds, .ref m4, .ref m5, .ref m6, .ref m7, .ref m8, .ref m9, .int pn, .ref m10, .ref m11, .ref m12, .ref m13])), (m1, .inl (cI, 4, .inl gw)), (m2, .inl (cI, 4, .inl gh)), (m3, .inl (cI, 16384, .inl gd))]) [2, 3, 0, 1] rfl
            have hD9 := hD.sub (ws' := [(h0, .inr (9, [.ref m1, .ref m2, .ref m3, .int ik, .int wy, .int op, .int cl, .int cx0, .int cx1, .int cy0, .int cy1, .int ds, .ref m4, .ref m5, .ref m6, .ref m7, .ref m8, .ref m9, .int pn, .ref m10, .ref m11, .ref m12, .ref m13])), (m1, .inl (cI, 4, .inl gw)), (m2, .inl (cI, 4, .inl gh)), (m3, .inl (cI, 16384, .inl gd))]) [2, 3, 0, 1] (by decide) rfl
            have hK9 := hK.sub (tys' := [(cI, .int)]) [0] rfl
            refine hQ _ _ _ _ _ ?_
            exact W.iret (v := gw k.toNatClampNeg) hx hb hr (fun t ht hW => ⟨⟨gw k.toNatClampNeg, (), rfl, (show _ = lkP (fun t => gd (4096 * k.toNatClampNeg + t)) (gw k.toNatClampNeg) (gh k.toNatClampNeg) (nI 4) from (if_pos (by decide)).symm), ⟨by rw [ht]; exact hP9, va_K.moved hW.alike hK9, hD9⟩⟩, hS.F ht⟩) hS.2.2 dX9_look_31
        · skip
          have hl : lv_has ls 8 [(0, .ref h0), (1, .int k), (2, .int 5)] := hl
          refine lv_iload_n hx hb dX9_look_20 rfl (lv_at hl 2 rfl) ?_
          refine lv_iconst (v := 4) hx hb dX9_look_21 (by decide) ?_
          refine lv_icmp_ne (tgt := 32) hx hb dX9_look_22 (by decide) (fun c_150 => ?_) (fun c_150 => ?_)
          · skip
            refine lv_iload_n hx hb dX9_look_32 rfl (lv_at hl 2 rfl) ?_
            refine lv_iconst (v := 5) hx hb dX9_look_33 (by decide) ?_
            refine lv_icmp_ne (tgt := 44) hx hb dX9_look_34 (by decide) (fun c_152 => ?_) (fun c_152 => ?_)
            · skip
              exact absurd c_152 (by decide)
            · skip
              refine lv_aload_n hx hb dX9_look_37 rfl (lv_at hl 0 rfl) ?_
              refine va_get (D := D) (ci := 9) (v := .ref m2) (C := RX9) (T := TX9) (N := 23) hx hb hts hi_X9 hown hK hP 2 rfl rfl 1 (by decide) (hts _ bw_397) (fun _ h9 => h9) rfl dX9_look_38 ?_
              refine lv_iload_n hx hb dX9_look_41 rfl (lv_at hl 1 rfl) ?_
              refine va_iald hx hb hK hP 0 0 rfl rfl (vp_in_iff.mpr ⟨by omega, by omega⟩) dX9_look_42 ?_
              have hP9 := hP.sub (ws' := [(h0, .inr (9, [.ref m1, .ref m2, .ref m3, .int ik, .int wy, .int op, .int cl, .int cx0, .int cx1, .int cy0, .int cy1, .int ds, .ref m4, .ref m5, .ref m6, .ref m7, .ref m8, .ref m9, .int pn, .ref m10, .ref m11, .ref m12, .ref m13])), (m1, .inl (cI, 4, .inl gw)), (m2, .inl (cI, 4, .inl gh)), (m3, .inl (cI, 16384, .inl gd))]) [2, 3, 0, 1] rfl
              have hD9 := hD.sub (ws' := [(h0, .inr (9, [.ref m1, .ref m2, .ref m3, .int ik, .int wy, .int op, .int cl, .int cx0, .int cx1, .int cy0, .int cy1, .int ds, .ref m4, .ref m5, .ref m6, .ref m7, .ref m8, .ref m9, .int pn, .ref m10, .ref m11, .ref m12, .ref m13])), (m1, .inl (cI, 4, .inl gw)), (m2, .inl (cI, 4, .inl gh)), (m3, .inl (cI, 16384, .inl gd))]) [2, 3, 0, 1] (by decide) rfl
              have hK9 := hK.sub (tys' := [(cI, .int)]) [0] rfl
              refine hQ _ _ _ _ _ ?_
              exact W.iret (v := gh k.toNatClampNeg) hx hb hr (fun t ht hW => ⟨⟨gh k.toNatClampNeg, (), rfl, (show _ = lkP (fun t => gd (4096 * k.toNatClampNeg + t)) (gw k.toNatClampNeg) (gh k.toNatClampNeg) (nI 5) from (if_pos (by decide)).symm), ⟨by rw [ht]; exact hP9, va_K.moved hW.alike hK9, hD9⟩⟩, hS.F ht⟩) hS.2.2 dX9_look_43
          · skip
            exact absurd c_150 (by decide)
        · skip
          have hl : lv_has ls 8 [(0, .ref h0), (1, .int k), (2, .int 6)] := hl
          refine lv_iload_n hx hb dX9_look_20 rfl (lv_at hl 2 rfl) ?_
          refine lv_iconst (v := 4) hx hb dX9_look_21 (by decide) ?_
          refine lv_icmp_ne (tgt := 32) hx hb dX9_look_22 (by decide) (fun c_154 => ?_) (fun c_154 => ?_)
          · skip
            refine lv_iload_n hx hb dX9_look_32 rfl (lv_at hl 2 rfl) ?_
            refine lv_iconst (v := 5) hx hb dX9_look_33 (by decide) ?_
            refine lv_icmp_ne (tgt := 44) hx hb dX9_look_34 (by decide) (fun c_156 => ?_) (fun c_156 => ?_)
            · skip
              refine lv_iload_n hx hb dX9_look_44 rfl (lv_at hl 2 rfl) ?_
              refine lv_bipush (v := 6) hx hb dX9_look_45 (by decide) ?_
              refine lv_icmp_ge (tgt := 54) hx hb dX9_look_47 (by decide) (fun c_158 => ?_) (fun c_158 => ?_)
              · skip
                refine lv_iconst (v := 0) hx hb dX9_look_54 (by decide) ?_
                refine lv_istore_n (lv' := [(3, .int 0), (0, .ref h0), (1, .int k), (2, .int 6)]) hx hb dX9_look_55 rfl hl (by decide) rfl (fun ls hl => ?_)
                refine lv_iconst (v := 0) hx hb dX9_look_56 (by decide) ?_
                refine lv_istore (lv' := [(4, .int 0), (3, .int 0), (0, .ref h0), (1, .int k), (2, .int 6)]) hx hb dX9_look_57 hl (by decide) rfl (fun ls hl => ?_)
                have loop_160 : ∀ (n : Nat) (j : Nat) (x4 : Int32) (x3 : Int32) (H : Heap) (locs : List Loc) (ls : Array Slot), (j ≤ 64) → (64 + 1 ≤ j + n) → (x4 = nI j) → (j ≤ H9) → (x3 = smL (chF (fun t => gd (4096 * k.toNatClampNeg + t)) 24) W9 0 j) → va_P D vwCl [(m2, .inl (cI, 4, .inl gh)), (m3, .inl (cI, 16384, .inl gd)), (h0, .inr (9, [.ref m1, .ref m2, .ref m3, .int ik, .int wy, .int op, .int cl, .int cx0, .int cx1, .int cy0, .int cy1, .int ds, .ref m4, .ref m5, .ref m6, .ref m7, .ref m8, .ref m9, .int pn, .ref m10, .ref m11, .ref m12, .ref m13])), (m1, .inl (cI, 4, .inl gw))] H → va_D A [(m2, .inl (cI, 4, .inl gh)), (m3, .inl (cI, 16384, .inl gd)), (h0, .inr (9, [.ref m1, .ref m2, .ref m3, .int ik, .int wy, .int op, .int cl, .int cx0, .int cx1, .int cy0, .int cy1, .int ds, .ref m4, .ref m5, .ref m6, .ref m7, .ref m8, .ref m9, .int pn, .ref m10, .ref m11, .ref m12, .ref m13])), (m1, .inl (cI, 4, .inl gw))] → va_S A s.heap H locs → lv_has ls 8 [(4, .int x4), (3, .int x3), (0, .ref h0), (1, .int k), (2, .int 6)] → W p l e R s m ([.ref h0, .int k, .int (nI 6)] : List Value).toArray below meth c H locs 0 0 Q (F0 m 59 ls []) := by
                  intro n
                  induction n with
                  | zero =>
                    intro j x4 x3 H locs ls hi_j hm_j ex_j hjo eto hP hD hS hl
                    exact absurd (show False by omega) not_false
                  | succ n ih_161 =>
                    intro j x4 x3 H locs ls hi_j hm_j ex_j hjo eto hP hD hS hl
                    have hx_j : x4.toInt = (j : Int) := by rw [ex_j]; exact nI_toInt (by omega)
                    have hc_j : x4.toNatClampNeg = j := by rw [ex_j]; exact nI_clamp (by omega)
                    refine lv_iload hx hb dX9_look_59 (lv_at hl 0 rfl) ?_
                    refine lv_aload_n hx hb dX9_look_61 rfl (lv_at hl 2 rfl) ?_
                    refine va_get (D := D) (ci := 9) (v := .ref m2) (C := RX9) (T := TX9) (N := 23) hx hb hts hi_X9 hown hK hP 2 rfl rfl 1 (by decide) (hts _ bw_397) (fun _ h9 => h9) rfl dX9_look_62 ?_
                    refine lv_iload_n hx hb dX9_look_65 rfl (lv_at hl 3 rfl) ?_
                    refine va_iald hx hb hK hP 0 0 rfl rfl (vp_in_iff.mpr ⟨by omega, by omega⟩) dX9_look_66 ?_
                    refine lv_icmp_ge (tgt := 187) hx hb dX9_look_67 (by decide) (fun c_162 => ?_) (fun c_162 => ?_)
                    · skip
                      have f_163 : (gh k.toNatClampNeg).toInt ≤ (j : Int) := f_le rfl hx_j c_162
                      refine lv_iload_n hx hb dX9_look_187 rfl (lv_at hl 1 rfl) ?_
                      have hP9 := hP.sub (ws' := [(h0, .inr (9, [.ref m1, .ref m2, .ref m3, .int ik, .int wy, .int op, .int cl, .int cx0, .int cx1, .int cy0, .int cy1, .int ds, .ref m4, .ref m5, .ref m6, .ref m7, .ref m8, .ref m9, .int pn, .ref m10, .ref m11, .ref m12, .ref m13])), (m1, .inl (cI, 4, .inl gw)), (m2, .inl (cI, 4, .inl gh)), (m3, .inl (cI, 16384, .inl gd))]) [2, 3, 0, 1] rfl
                      have hD9 := hD.sub (ws' := [(h0, .inr (9, [.ref m1, .ref m2, .ref m3, .int ik, .int wy, .int op, .int cl, .int cx0, .int cx1, .int cy0, .int cy1, .int ds, .ref m4, .ref m5, .ref m6, .ref m7, .ref m8, .ref m9, .int pn, .ref m10, .ref m11, .ref m12, .ref m13])), (m1, .inl (cI, 4, .inl gw)), (m2, .inl (cI, 4, .inl gh)), (m3, .inl (cI, 16384, .inl gd))]) [2, 3, 0, 1] (by decide) rfl
                      have hK9 := hK.sub (tys' := [(cI, .int)]) [0] rfl
                      refine hQ _ _ _ _ _ ?_
                      exact W.iret (v := x3) hx hb hr (fun t ht hW => ⟨⟨x3, (), rfl, (show _ = lkP (fun t => gd (4096 * k.toNatClampNeg + t)) (gw k.toNatClampNeg) (gh k.toNatClampNeg) (nI 6) from (show _ = smL (chF (fun t => gd (4096 * k.toNatClampNeg + t)) 24) (gw k.toNatClampNeg).toNatClampNeg 0 (gh k.toNatClampNeg).toNatClampNeg from (by rw [eW9n, eH9n, ← show j = H9 by omega]; exact eto)).trans (if_pos (by decide)).symm), ⟨by rw [ht]; exact hP9, va_K.moved hW.alike hK9, hD9⟩⟩, hS.F ht⟩) hS.2.2 dX9_look_188
                    · skip
                      have f_163 : ¬ ((gh k.toNatClampNeg).toInt ≤ (j : Int)) := fn_le rfl hx_j c_162
                      refine lv_iconst (v := 0) hx hb dX9_look_70 (by decide) ?_
                      refine lv_istore (lv' := [(5, .int 0), (4, .int x4), (3, .int x3), (0, .ref h0), (1, .int k), (2, .int 6)]) hx hb dX9_look_71 hl (by decide) rfl (fun ls hl => ?_)
                      have loop_164 : ∀ (n : Nat) (i : Nat) (x5 : Int32) (z3 : Int32) (H : Heap) (locs : List Loc) (ls : Array Slot), (i ≤ 64) → (64 + 1 ≤ i + n) → (x5 = nI i) → (i ≤ W9) → (z3 = smR (chF (fun t => gd (4096 * k.toNatClampNeg + t)) 24) j (smL (chF (fun t => gd (4096 * k.toNatClampNeg + t)) 24) W9 0 j) i) → va_P D vwCl [(m2, .inl (cI, 4, .inl gh)), (m3, .inl (cI, 16384, .inl gd)), (h0, .inr (9, [.ref m1, .ref m2, .ref m3, .int ik, .int wy, .int op, .int cl, .int cx0, .int cx1, .int cy0, .int cy1, .int ds, .ref m4, .ref m5, .ref m6, .ref m7, .ref m8, .ref m9, .int pn, .ref m10, .ref m11, .ref m12, .ref m13])), (m1, .inl (cI, 4, .inl gw))] H → va_D A [(m2, .inl (cI, 4, .inl gh)), (m3, .inl (cI, 16384, .inl gd)), (h0, .inr (9, [.ref m1, .ref m2, .ref m3, .int ik, .int wy, .int op, .int cl, .int cx0, .int cx1, .int cy0, .int cy1, .int ds, .ref m4, .ref m5, .ref m6, .ref m7, .ref m8, .ref m9, .int pn, .ref m10, .ref m11, .ref m12, .ref m13])), (m1, .inl (cI, 4, .inl gw))] → va_S A s.heap H locs → lv_has ls 8 [(5, .int x5), (4, .int x4), (3, .int z3), (0, .ref h0), (1, .int k), (2, .int 6)] → W p l e R s m ([.ref h0, .int k, .int (nI 6)] : List Value).toArray below meth c H locs 0 0 Q (F0 m 73 ls []) := by
                        intro n
                        induction n with
                        | zero =>
                          intro i x5 z3 H locs ls hi_i hm_i ex_i hio eti hP hD hS hl
                          exact absurd (show False by omega) not_false
                        | succ n ih_165 =>
                          intro i x5 z3 H locs ls hi_i hm_i ex_i hio eti hP hD hS hl
                          have hx_i : x5.toInt = (i : Int) := by rw [ex_i]; exact nI_toInt (by omega)
                          have hc_i : x5.toNatClampNeg = i := by rw [ex_i]; exact nI_clamp (by omega)
                          refine lv_iload hx hb dX9_look_73 (lv_at hl 0 rfl) ?_
                          refine lv_aload_n hx hb dX9_look_75 rfl (lv_at hl 3 rfl) ?_
                          refine va_get (D := D) (ci := 9) (v := .ref m1) (C := RX9) (T := TX9) (N := 23) hx hb hts hi_X9 hown hK hP 2 rfl rfl 0 (by decide) (hts _ bw_396) (fun _ h9 => h9) rfl dX9_look_76 ?_
                          refine lv_iload_n hx hb dX9_look_79 rfl (lv_at hl 4 rfl) ?_
                          refine va_iald hx hb hK hP 3 0 rfl rfl (vp_in_iff.mpr ⟨by omega, by omega⟩) dX9_look_80 ?_
                          refine lv_icmp_ge (tgt := 181) hx hb dX9_look_81 (by decide) (fun c_166 => ?_) (fun c_166 => ?_)
                          · skip
                            have f_167 : (gw k.toNatClampNeg).toInt ≤ (i : Int) := f_le rfl hx_i c_166
                            obtain ⟨y_168, ey_168⟩ : ∃ y : Int32, y = x4 + 1 := ⟨_, rfl⟩
                            refine lv_iinc (v := y_168) (lv' := [(4, .int y_168), (5, .int x5), (3, .int z3), (0, .ref h0), (1, .int k), (2, .int 6)]) hx hb dX9_look_181 hl (k := 1) rfl (by rw [ey_168]; rfl) (by decide) rfl (fun ls hl => ?_)
                            refine lv_goto (tgt := 59) hx hb dX9_look_184 (by decide) ?_
                            exact ih_161 (j + 1) y_168 z3 _ _ _ (by omega) (by omega) (by rw [ey_168, ex_j]; exact nI_1 j) (by omega) (sm_nx eti (by omega)) (hP.sub (ws' := [(m2, .inl (cI, 4, .inl gh)), (m3, .inl (cI, 16384, .inl gd)), (h0, .inr (9, [.ref m1, .ref m2, .ref m3, .int ik, .int wy, .int op, .int cl, .int cx0, .int cx1, .int cy0, .int cy1, .int ds, .ref m4, .ref m5, .ref m6, .ref m7, .ref m8, .ref m9, .int pn, .ref m10, .ref m11, .ref m12, .ref m13])), (m1, .inl (cI, 4, .inl gw))]) [0, 1, 2, 3] rfl) (hD.sub (ws' := [(m2, .inl (cI, 4, .inl gh)), (m3, .inl (cI, 16384, .inl gd)), (h0, .inr (9, [.ref m1, .ref m2, .ref m3, .int ik, .int wy, .int op, .int cl, .int cx0, .int cx1, .int cy0, .int cy1, .int ds, .ref m4, .ref m5, .ref m6, .ref m7, .ref m8, .ref m9, .int pn, .ref m10, .ref m11, .ref m12, .ref m13])), (m1, .inl (cI, 4, .inl gw))]) [0, 1, 2, 3] (by decide) rfl) hS (lv_sub hl [0, 2, 3, 4, 5] rfl)
                          · skip
                            have f_167 : ¬ ((gw k.toNatClampNeg).toInt ≤ (i : Int)) := fn_le rfl hx_i c_166
                            refine lv_aload_n hx hb dX9_look_84 rfl (lv_at hl 3 rfl) ?_
                            refine va_get (D := D) (ci := 9) (v := .ref m3) (C := RX9) (T := TX9) (N := 23) hx hb hts hi_X9 hown hK hP 2 rfl rfl 2 (by decide) (hts _ bw_398) (fun _ h9 => h9) rfl dX9_look_85 ?_
                            refine lv_iload_n hx hb dX9_look_88 rfl (lv_at hl 4 rfl) ?_
                            refine lv_iload hx hb dX9_look_89 (lv_at hl 0 rfl) ?_
                            refine lv_iload hx hb dX9_look_91 (lv_at hl 1 rfl) ?_
                            have hPc := hP.sub (ws' := []) [] rfl
                            have hDc := hD.sub (ws' := []) [] (by decide) rfl
                            have hKc := hK.sub (tys' := []) [] rfl
                            have hFc := va_free (wc := []) hD hS hA [] rfl
                            refine va_calli (va_runS (As := [.int k, .int x5, .int x4]) (rest := [.ref m3]) ⟨hx, hb, hml, hown, hts⟩ (k_X9_spot l D H.size k x5 x4) (va_cwS 3 hts (gS bw_551 bw_421 bw_391 bw_420) rfl rfl rfl (by decide +kernel) ⟨(by rw [hR]; exact Nat.le_of_ble_eq_true rfl), (by rw [hR]; exact Nat.le_of_ble_eq_true rfl)⟩) ⟨cP_blind, cP_at hPc hKc hDc hN⟩ rfl rfl hl.1 rfl (lv_room (Nat.le_of_ble_eq_true rfl)) dX9_look_93 ⟨(by rw [hR]; exact Nat.le_of_ble_eq_true rfl), (by rw [hR]; exact Nat.le_of_ble_eq_true rfl)⟩) hS (fun q _ h => hFc q h) hFc (fun r_169 u9 t9 H1 locs ht hvm hr_169 hB hz1 hk1 hS => ?_)
                            try dsimp only at hr_169
                            have hP1 : va_P D vwCl [] H1 := vP_nil
                            have hD1 : va_D (va_A [] H.size) [] := vD_nil
                            obtain ⟨hP, hD⟩ := va_join (wr := [(m2, .inl (cI, 4, .inl gh)), (m3, .inl (cI, 16384, .inl gd)), (h0, .inr (9, [.ref m1, .ref m2, .ref m3, .int ik, .int wy, .int op, .int cl, .int cx0, .int cx1, .int cy0, .int cy1, .int ds, .ref m4, .ref m5, .ref m6, .ref m7, .ref m8, .ref m9, .int pn, .ref m10, .ref m11, .ref m12, .ref m13])), (m1, .inl (cI, 4, .inl gw))]) (w1 := []) hP hD [] [0, 1, 2, 3] rfl rfl (by decide) (by decide) hk1 hFc hP1 hD1
                            clear hz1 hk1 hFc hKc hDc hPc
                            generalize H1 = H at hP hS ⊢
                            have hP : va_P D vwCl [(m2, .inl (cI, 4, .inl gh)), (m3, .inl (cI, 16384, .inl gd)), (h0, .inr (9, [.ref m1, .ref m2, .ref m3, .int ik, .int wy, .int op, .int cl, .int cx0, .int cx1, .int cy0, .int cy1, .int ds, .ref m4, .ref m5, .ref m6, .ref m7, .ref m8, .ref m9, .int pn, .ref m10, .ref m11, .ref m12, .ref m13])), (m1, .inl (cI, 4, .inl gw))] H := hP
                            have hD : va_D A [(m2, .inl (cI, 4, .inl gh)), (m3, .inl (cI, 16384, .inl gd)), (h0, .inr (9, [.ref m1, .ref m2, .ref m3, .int ik, .int wy, .int op, .int cl, .int cx0, .int cx1, .int cy0, .int cy1, .int ds, .ref m4, .ref m5, .ref m6, .ref m7, .ref m8, .ref m9, .int pn, .ref m10, .ref m11, .ref m12, .ref m13])), (m1, .inl (cI, 4, .inl gw))] := hD
                            refine va_iald hx hb hK hP 1 0 rfl rfl (by rw [hr_169]; exact sp_in (by omega) (by omega) (by omega) (by omega) (by omega) (by omega)) dX9_look_96 ?_
                            refine my_fold (v := gd (4096 * k.toNatClampNeg + ixP (nI i) (nI j))) (congrArg gd (by rw [hr_169, sp_cl (by omega) (by omega) (by omega) (by omega) (by omega) (by omega), ex_i, ex_j])) ?_
                            refine lv_istore (lv' := [(6, .int (gd (4096 * k.toNatClampNeg + ixP (nI i) (nI j)))), (5, .int x5), (4, .int x4), (3, .int z3), (0, .ref h0), (1, .int k), (2, .int 6)]) hx hb dX9_look_97 hl (by decide) rfl (fun ls hl => ?_)
                            refine lv_iload_n hx hb dX9_look_99 rfl (lv_at hl 6 rfl) ?_
                            refine lv_iconst (v := 5) hx hb dX9_look_100 (by decide) ?_
                            refine lv_icmp_le (tgt := 119) hx hb dX9_look_101 (by decide) (fun c_170 => ?_) (fun c_170 => ?_)
                            · skip
                              exact absurd c_170 (by decide)
                            · skip
                              refine lv_iload_n hx hb dX9_look_104 rfl (lv_at hl 3 rfl) ?_
                              refine lv_iload hx hb dX9_look_105 (lv_at hl 0 rfl) ?_
                              refine lv_iload_n hx hb dX9_look_107 rfl (lv_at hl 6 rfl) ?_
                              refine lv_bipush (v := 6) hx hb dX9_look_108 (by decide) ?_
                              refine lv_isub hx hb dX9_look_110 ?_
                              refine my_fold (v := 0) (by decide) ?_
                              have hPc := hP.sub (ws' := []) [] rfl
                              have hDc := hD.sub (ws' := []) [] (by decide) rfl
                              have hKc := hK.sub (tys' := []) [] rfl
                              have hFc := va_free (wc := []) hD hS hA [] rfl
                              refine va_calli (va_runS (As := [.int (gd (4096 * k.toNatClampNeg + ixP (nI i) (nI j))), .int 0]) (rest := [.int z3]) ⟨hx, hb, hml, hown, hts⟩ (k_X9_channel_0 l D H.size (gd (4096 * k.toNatClampNeg + ixP (nI i) (nI j)))) (va_cwS 2 hts (gS bw_441 bw_438 bw_391 bw_437) rfl rfl rfl (by decide +kernel) ⟨(by rw [hR]; exact Nat.le_of_ble_eq_true rfl), (by rw [hR]; exact Nat.le_of_ble_eq_true rfl)⟩) ⟨cP_blind, cP_at hPc hKc hDc hN⟩ rfl rfl hl.1 rfl (lv_room (Nat.le_of_ble_eq_true rfl)) dX9_look_111 ⟨(by rw [hR]; exact Nat.le_of_ble_eq_true rfl), (by rw [hR]; exact Nat.le_of_ble_eq_true rfl)⟩) hS (fun q _ h => hFc q h) hFc (fun r_172 u9 t9 H1 locs ht hvm hr_172 hB hz1 hk1 hS => ?_)
                              try dsimp only at hr_172
                              have hP1 : va_P D vwCl [] H1 := vP_nil
                              have hD1 : va_D (va_A [] H.size) [] := vD_nil
                              obtain ⟨hP, hD⟩ := va_join (wr := [(m2, .inl (cI, 4, .inl gh)), (m3, .inl (cI, 16384, .inl gd)), (h0, .inr (9, [.ref m1, .ref m2, .ref m3, .int ik, .int wy, .int op, .int cl, .int cx0, .int cx1, .int cy0, .int cy1, .int ds, .ref m4, .ref m5, .ref m6, .ref m7, .ref m8, .ref m9, .int pn, .ref m10, .ref m11, .ref m12, .ref m13])), (m1, .inl (cI, 4, .inl gw))]) (w1 := []) hP hD [] [0, 1, 2, 3] rfl rfl (by decide) (by decide) hk1 hFc hP1 hD1
                              clear hz1 hk1 hFc hKc hDc hPc
                              generalize H1 = H at hP hS ⊢
                              have hP : va_P D vwCl [(m2, .inl (cI, 4, .inl gh)), (m3, .inl (cI, 16384, .inl gd)), (h0, .inr (9, [.ref m1, .ref m2, .ref m3, .int ik, .int wy, .int op, .int cl, .int cx0, .int cx1, .int cy0, .int cy1, .int ds, .ref m4, .ref m5, .ref m6, .ref m7, .ref m8, .ref m9, .int pn, .ref m10, .ref m11, .ref m12, .ref m13])), (m1, .inl (cI, 4, .inl gw))] H := hP
                              have hD : va_D A [(m2, .inl (cI, 4, .inl gh)), (m3, .inl (cI, 16384, .inl gd)), (h0, .inr (9, [.ref m1, .ref m2, .ref m3, .int ik, .int wy, .int op, .int cl, .int cx0, .int cx1, .int cy0, .int cy1, .int ds, .ref m4, .ref m5, .ref m6, .ref m7, .ref m8, .ref m9, .int pn, .ref m10, .ref m11, .ref m12, .ref m13])), (m1, .inl (cI, 4, .inl gw))] := hD
                              refine lv_iadd hx hb dX9_look_114 ?_
                              refine lv_topi (fun y_173 ey_173 => ?_)
                              refine lv_istore_n (lv' := [(3, .int y_173), (6, .int (gd (4096 * k.toNatClampNeg + ixP (nI i) (nI j)))), (5, .int x5), (4, .int x4), (0, .ref h0), (1, .int k), (2, .int 6)]) hx hb dX9_look_115 rfl hl (by decide) rfl (fun ls hl => ?_)
                              refine lv_goto (tgt := 175) hx hb dX9_look_116 (by decide) ?_
                              obtain ⟨y_174, ey_174⟩ : ∃ y : Int32, y = x5 + 1 := ⟨_, rfl⟩
                              refine lv_iinc (v := y_174) (lv' := [(5, .int y_174), (3, .int y_173), (6, .int (gd (4096 * k.toNatClampNeg + ixP (nI i) (nI j)))), (4, .int x4), (0, .ref h0), (1, .int k), (2, .int 6)]) hx hb dX9_look_175 hl (k := 2) rfl (by rw [ey_174]; rfl) (by decide) rfl (fun ls hl => ?_)
                              refine lv_goto (tgt := 73) hx hb dX9_look_178 (by decide) ?_
                              exact ih_165 (i + 1) y_174 y_173 _ _ _ (by omega) (by omega) (by rw [ey_174, ex_i]; exact nI_1 i) (by omega) (by rw [show smR (chF (fun t => gd (4096 * k.toNatClampNeg + t)) 24) j (smL (chF (fun t => gd (4096 * k.toNatClampNeg + t)) 24) W9 0 j) (i + 1) = (chF (fun t => gd (4096 * k.toNatClampNeg + t)) 24) j i z3 from congrArg ((chF (fun t => gd (4096 * k.toNatClampNeg + t)) 24) j i) eti.symm, ey_173, hr_172]; rfl) (hP.sub (ws' := [(m2, .inl (cI, 4, .inl gh)), (m3, .inl (cI, 16384, .inl gd)), (h0, .inr (9, [.ref m1, .ref m2, .ref m3, .int ik, .int wy, .int op, .int cl, .int cx0, .int cx1, .int cy0, .int cy1, .int ds, .ref m4, .ref m5, .ref m6, .ref m7, .ref m8, .ref m9, .int pn, .ref m10, .ref m11, .ref m12, .ref m13])), (m1, .inl (cI, 4, .inl gw))]) [0, 1, 2, 3] rfl) (hD.sub (ws' := [(m2, .inl (cI, 4, .inl gh)), (m3, .inl (cI, 16384, .inl gd)), (h0, .inr (9, [.ref m1, .ref m2, .ref m3, .int ik, .int wy, .int op, .int cl, .int cx0, .int cx1, .int cy0, .int cy1, .int ds, .ref m4, .ref m5, .ref m6, .ref m7, .ref m8, .ref m9, .int pn, .ref m10, .ref m11, .ref m12, .ref m13])), (m1, .inl (cI, 4, .inl gw))]) [0, 1, 2, 3] (by decide) rfl) hS (lv_sub hl [0, 3, 1, 4, 5, 6] rfl)
                      exact loop_164 (64 + 1) 0 0 x3 _ _ _ (by omega) (by omega) nI_0.symm (by omega) eto hP hD hS (lv_sub hl [0, 1, 2, 3, 4, 5] rfl)
                exact loop_160 (64 + 1) 0 0 0 _ _ _ (by omega) (by omega) nI_0.symm (by omega) rfl hP hD hS (lv_sub hl [0, 1, 2, 3, 4] rfl)
              · skip
                exact absurd c_158 (by decide)
            · skip
              exact absurd c_156 (by decide)
          · skip
            exact absurd c_154 (by decide)
        · skip
          have hl : lv_has ls 8 [(0, .ref h0), (1, .int k), (2, .int 7)] := hl
          refine lv_iload_n hx hb dX9_look_20 rfl (lv_at hl 2 rfl) ?_
          refine lv_iconst (v := 4) hx hb dX9_look_21 (by decide) ?_
          refine lv_icmp_ne (tgt := 32) hx hb dX9_look_22 (by decide) (fun c_175 => ?_) (fun c_175 => ?_)
          · skip
            refine lv_iload_n hx hb dX9_look_32 rfl (lv_at hl 2 rfl) ?_
            refine lv_iconst (v := 5) hx hb dX9_look_33 (by decide) ?_
            refine lv_icmp_ne (tgt := 44) hx hb dX9_look_34 (by decide) (fun c_177 => ?_) (fun c_177 => ?_)
            · skip
              refine lv_iload_n hx hb dX9_look_44 rfl (lv_at hl 2 rfl) ?_
              refine lv_bipush (v := 6) hx hb dX9_look_45 (by decide) ?_
              refine lv_icmp_ge (tgt := 54) hx hb dX9_look_47 (by decide) (fun c_179 => ?_) (fun c_179 => ?_)
              · skip
                refine lv_iconst (v := 0) hx hb dX9_look_54 (by decide) ?_
                refine lv_istore_n (lv' := [(3, .int 0), (0, .ref h0), (1, .int k), (2, .int 7)]) hx hb dX9_look_55 rfl hl (by decide) rfl (fun ls hl => ?_)
                refine lv_iconst (v := 0) hx hb dX9_look_56 (by decide) ?_
                refine lv_istore (lv' := [(4, .int 0), (3, .int 0), (0, .ref h0), (1, .int k), (2, .int 7)]) hx hb dX9_look_57 hl (by decide) rfl (fun ls hl => ?_)
                have loop_181 : ∀ (n : Nat) (j : Nat) (x4 : Int32) (x3 : Int32) (H : Heap) (locs : List Loc) (ls : Array Slot), (j ≤ 64) → (64 + 1 ≤ j + n) → (x4 = nI j) → (j ≤ H9) → (x3 = smL (chF (fun t => gd (4096 * k.toNatClampNeg + t)) 16) W9 0 j) → va_P D vwCl [(m2, .inl (cI, 4, .inl gh)), (m3, .inl (cI, 16384, .inl gd)), (h0, .inr (9, [.ref m1, .ref m2, .ref m3, .int ik, .int wy, .int op, .int cl, .int cx0, .int cx1, .int cy0, .int cy1, .int ds, .ref m4, .ref m5, .ref m6, .ref m7, .ref m8, .ref m9, .int pn, .ref m10, .ref m11, .ref m12, .ref m13])), (m1, .inl (cI, 4, .inl gw))] H → va_D A [(m2, .inl (cI, 4, .inl gh)), (m3, .inl (cI, 16384, .inl gd)), (h0, .inr (9, [.ref m1, .ref m2, .ref m3, .int ik, .int wy, .int op, .int cl, .int cx0, .int cx1, .int cy0, .int cy1, .int ds, .ref m4, .ref m5, .ref m6, .ref m7, .ref m8, .ref m9, .int pn, .ref m10, .ref m11, .ref m12, .ref m13])), (m1, .inl (cI, 4, .inl gw))] → va_S A s.heap H locs → lv_has ls 8 [(4, .int x4), (3, .int x3), (0, .ref h0), (1, .int k), (2, .int 7)] → W p l e R s m ([.ref h0, .int k, .int (nI 7)] : List Value).toArray below meth c H locs 0 0 Q (F0 m 59 ls []) := by
                  intro n
                  induction n with
                  | zero =>
                    intro j x4 x3 H locs ls hi_j hm_j ex_j hjo eto hP hD hS hl
                    exact absurd (show False by omega) not_false
                  | succ n ih_182 =>
                    intro j x4 x3 H locs ls hi_j hm_j ex_j hjo eto hP hD hS hl
                    have hx_j : x4.toInt = (j : Int) := by rw [ex_j]; exact nI_toInt (by omega)
                    have hc_j : x4.toNatClampNeg = j := by rw [ex_j]; exact nI_clamp (by omega)
                    refine lv_iload hx hb dX9_look_59 (lv_at hl 0 rfl) ?_
                    refine lv_aload_n hx hb dX9_look_61 rfl (lv_at hl 2 rfl) ?_
                    refine va_get (D := D) (ci := 9) (v := .ref m2) (C := RX9) (T := TX9) (N := 23) hx hb hts hi_X9 hown hK hP 2 rfl rfl 1 (by decide) (hts _ bw_397) (fun _ h9 => h9) rfl dX9_look_62 ?_
                    refine lv_iload_n hx hb dX9_look_65 rfl (lv_at hl 3 rfl) ?_
                    refine va_iald hx hb hK hP 0 0 rfl rfl (vp_in_iff.mpr ⟨by omega, by omega⟩) dX9_look_66 ?_
                    refine lv_icmp_ge (tgt := 187) hx hb dX9_look_67 (by decide) (fun c_183 => ?_) (fun c_183 => ?_)
                    · skip
                      have f_184 : (gh k.toNatClampNeg).toInt ≤ (j : Int) := f_le rfl hx_j c_183
                      refine lv_iload_n hx hb dX9_look_187 rfl (lv_at hl 1 rfl) ?_
                      have hP9 := hP.sub (ws' := [(h0, .inr (9, [.ref m1, .ref m2, .ref m3, .int ik, .int wy, .int op, .int cl, .int cx0, .int cx1, .int cy0, .int cy1, .int ds, .ref m4, .ref m5, .ref m6, .ref m7, .ref m8, .ref m9, .int pn, .ref m10, .ref m11, .ref m12, .ref m13])), (m1, .inl (cI, 4, .inl gw)), (m2, .inl (cI, 4, .inl gh)), (m3, .inl (cI, 16384, .inl gd))]) [2, 3, 0, 1] rfl
                      have hD9 := hD.sub (ws' := [(h0, .inr (9, [.ref m1, .ref m2, .ref m3, .int ik, .int wy, .int op, .int cl, .int cx0, .int cx1, .int cy0, .int cy1, .int ds, .ref m4, .ref m5, .ref m6, .ref m7, .ref m8, .ref m9, .int pn, .ref m10, .ref m11, .ref m12, .ref m13])), (m1, .inl (cI, 4, .inl gw)), (m2, .inl (cI, 4, .inl gh)), (m3, .inl (cI, 16384, .inl gd))]) [2, 3, 0, 1] (by decide) rfl
                      have hK9 := hK.sub (tys' := [(cI, .int)]) [0] rfl
                      refine hQ _ _ _ _ _ ?_
                      exact W.iret (v := x3) hx hb hr (fun t ht hW => ⟨⟨x3, (), rfl, (show _ = lkP (fun t => gd (4096 * k.toNatClampNeg + t)) (gw k.toNatClampNeg) (gh k.toNatClampNeg) (nI 7) from (show _ = smL (chF (fun t => gd (4096 * k.toNatClampNeg + t)) 16) (gw k.toNatClampNeg).toNatClampNeg 0 (gh k.toNatClampNeg).toNatClampNeg from (by rw [eW9n, eH9n, ← show j = H9 by omega]; exact eto)).trans (if_pos (by decide)).symm), ⟨by rw [ht]; exact hP9, va_K.moved hW.alike hK9, hD9⟩⟩, hS.F ht⟩) hS.2.2 dX9_look_188
                    · skip
                      have f_184 : ¬ ((gh k.toNatClampNeg).toInt ≤ (j : Int)) := fn_le rfl hx_j c_183
                      refine lv_iconst (v := 0) hx hb dX9_look_70 (by decide) ?_
                      refine lv_istore (lv' := [(5, .int 0), (4, .int x4), (3, .int x3), (0, .ref h0), (1, .int k), (2, .int 7)]) hx hb dX9_look_71 hl (by decide) rfl (fun ls hl => ?_)
                      have loop_185 : ∀ (n : Nat) (i : Nat) (x5 : Int32) (z3 : Int32) (H : Heap) (locs : List Loc) (ls : Array Slot), (i ≤ 64) → (64 + 1 ≤ i + n) → (x5 = nI i) → (i ≤ W9) → (z3 = smR (chF (fun t => gd (4096 * k.toNatClampNeg + t)) 16) j (smL (chF (fun t => gd (4096 * k.toNatClampNeg + t)) 16) W9 0 j) i) → va_P D vwCl [(m2, .inl (cI, 4, .inl gh)), (m3, .inl (cI, 16384, .inl gd)), (h0, .inr (9, [.ref m1, .ref m2, .ref m3, .int ik, .int wy, .int op, .int cl, .int cx0, .int cx1, .int cy0, .int cy1, .int ds, .ref m4, .ref m5, .ref m6, .ref m7, .ref m8, .ref m9, .int pn, .ref m10, .ref m11, .ref m12, .ref m13])), (m1, .inl (cI, 4, .inl gw))] H → va_D A [(m2, .inl (cI, 4, .inl gh)), (m3, .inl (cI, 16384, .inl gd)), (h0, .inr (9, [.ref m1, .ref m2, .ref m3, .int ik, .int wy, .int op, .int cl, .int cx0, .int cx1, .int cy0, .int cy1, .int ds, .ref m4, .ref m5, .ref m6, .ref m7, .ref m8, .ref m9, .int pn, .ref m10, .ref m11, .ref m12, .ref m13])), (m1, .inl (cI, 4, .inl gw))] → va_S A s.heap H locs → lv_has ls 8 [(5, .int x5), (4, .int x4), (3, .int z3), (0, .ref h0), (1, .int k), (2, .int 7)] → W p l e R s m ([.ref h0, .int k, .int (nI 7)] : List Value).toArray below meth c H locs 0 0 Q (F0 m 73 ls []) := by
                        intro n
                        induction n with
                        | zero =>
                          intro i x5 z3 H locs ls hi_i hm_i ex_i hio eti hP hD hS hl
                          exact absurd (show False by omega) not_false
                        | succ n ih_186 =>
                          intro i x5 z3 H locs ls hi_i hm_i ex_i hio eti hP hD hS hl
                          have hx_i : x5.toInt = (i : Int) := by rw [ex_i]; exact nI_toInt (by omega)
                          have hc_i : x5.toNatClampNeg = i := by rw [ex_i]; exact nI_clamp (by omega)
                          refine lv_iload hx hb dX9_look_73 (lv_at hl 0 rfl) ?_
                          refine lv_aload_n hx hb dX9_look_75 rfl (lv_at hl 3 rfl) ?_
                          refine va_get (D := D) (ci := 9) (v := .ref m1) (C := RX9) (T := TX9) (N := 23) hx hb hts hi_X9 hown hK hP 2 rfl rfl 0 (by decide) (hts _ bw_396) (fun _ h9 => h9) rfl dX9_look_76 ?_
                          refine lv_iload_n hx hb dX9_look_79 rfl (lv_at hl 4 rfl) ?_
                          refine va_iald hx hb hK hP 3 0 rfl rfl (vp_in_iff.mpr ⟨by omega, by omega⟩) dX9_look_80 ?_
                          refine lv_icmp_ge (tgt := 181) hx hb dX9_look_81 (by decide) (fun c_187 => ?_) (fun c_187 => ?_)
                          · skip
                            have f_188 : (gw k.toNatClampNeg).toInt ≤ (i : Int) := f_le rfl hx_i c_187
                            obtain ⟨y_189, ey_189⟩ : ∃ y : Int32, y = x4 + 1 := ⟨_, rfl⟩
                            refine lv_iinc (v := y_189) (lv' := [(4, .int y_189), (5, .int x5), (3, .int z3), (0, .ref h0), (1, .int k), (2, .int 7)]) hx hb dX9_look_181 hl (k := 1) rfl (by rw [ey_189]; rfl) (by decide) rfl (fun ls hl => ?_)
                            refine lv_goto (tgt := 59) hx hb dX9_look_184 (by decide) ?_
                            exact ih_182 (j + 1) y_189 z3 _ _ _ (by omega) (by omega) (by rw [ey_189, ex_j]; exact nI_1 j) (by omega) (sm_nx eti (by omega)) (hP.sub (ws' := [(m2, .inl (cI, 4, .inl gh)), (m3, .inl (cI, 16384, .inl gd)), (h0, .inr (9, [.ref m1, .ref m2, .ref m3, .int ik, .int wy, .int op, .int cl, .int cx0, .int cx1, .int cy0, .int cy1, .int ds, .ref m4, .ref m5, .ref m6, .ref m7, .ref m8, .ref m9, .int pn, .ref m10, .ref m11, .ref m12, .ref m13])), (m1, .inl (cI, 4, .inl gw))]) [0, 1, 2, 3] rfl) (hD.sub (ws' := [(m2, .inl (cI, 4, .inl gh)), (m3, .inl (cI, 16384, .inl gd)), (h0, .inr (9, [.ref m1, .ref m2, .ref m3, .int ik, .int wy, .int op, .int cl, .int cx0, .int cx1, .int cy0, .int cy1, .int ds, .ref m4, .ref m5, .ref m6, .ref m7, .ref m8, .ref m9, .int pn, .ref m10, .ref m11, .ref m12, .ref m13])), (m1, .inl (cI, 4, .inl gw))]) [0, 1, 2, 3] (by decide) rfl) hS (lv_sub hl [0, 2, 3, 4, 5] rfl)
                          · skip
                            have f_188 : ¬ ((gw k.toNatClampNeg).toInt ≤ (i : Int)) := fn_le rfl hx_i c_187
                            refine lv_aload_n hx hb dX9_look_84 rfl (lv_at hl 3 rfl) ?_
                            refine va_get (D := D) (ci := 9) (v := .ref m3) (C := RX9) (T := TX9) (N := 23) hx hb hts hi_X9 hown hK hP 2 rfl rfl 2 (by decide) (hts _ bw_398) (fun _ h9 => h9) rfl dX9_look_85 ?_
                            refine lv_iload_n hx hb dX9_look_88 rfl (lv_at hl 4 rfl) ?_
                            refine lv_iload hx hb dX9_look_89 (lv_at hl 0 rfl) ?_
                            refine lv_iload hx hb dX9_look_91 (lv_at hl 1 rfl) ?_
                            have hPc := hP.sub (ws' := []) [] rfl
                            have hDc := hD.sub (ws' := []) [] (by decide) rfl
                            have hKc := hK.sub (tys' := []) [] rfl
                            have hFc := va_free (wc := []) hD hS hA [] rfl
                            refine va_calli (va_runS (As := [.int k, .int x5, .int x4]) (rest := [.ref m3]) ⟨hx, hb, hml, hown, hts⟩ (k_X9_spot l D H.size k x5 x4) (va_cwS 3 hts (gS bw_551 bw_421 bw_391 bw_420) rfl rfl rfl (by decide +kernel) ⟨(by rw [hR]; exact Nat.le_of_ble_eq_true rfl), (by rw [hR]; exact Nat.le_of_ble_eq_true rfl)⟩) ⟨cP_blind, cP_at hPc hKc hDc hN⟩ rfl rfl hl.1 rfl (lv_room (Nat.le_of_ble_eq_true rfl)) dX9_look_93 ⟨(by rw [hR]; exact Nat.le_of_ble_eq_true rfl), (by rw [hR]; exact Nat.le_of_ble_eq_true rfl)⟩) hS (fun q _ h => hFc q h) hFc (fun r_190 u9 t9 H1 locs ht hvm hr_190 hB hz1 hk1 hS => ?_)
                            try dsimp only at hr_190
                            have hP1 : va_P D vwCl [] H1 := vP_nil
                            have hD1 : va_D (va_A [] H.size) [] := vD_nil
                            obtain ⟨hP, hD⟩ := va_join (wr := [(m2, .inl (cI, 4, .inl gh)), (m3, .inl (cI, 16384, .inl gd)), (h0, .inr (9, [.ref m1, .ref m2, .ref m3, .int ik, .int wy, .int op, .int cl, .int cx0, .int cx1, .int cy0, .int cy1, .int ds, .ref m4, .ref m5, .ref m6, .ref m7, .ref m8, .ref m9, .int pn, .ref m10, .ref m11, .ref m12, .ref m13])), (m1, .inl (cI, 4, .inl gw))]) (w1 := []) hP hD [] [0, 1, 2, 3] rfl rfl (by decide) (by decide) hk1 hFc hP1 hD1
                            clear hz1 hk1 hFc hKc hDc hPc
                            generalize H1 = H at hP hS ⊢
                            have hP : va_P D vwCl [(m2, .inl (cI, 4, .inl gh)), (m3, .inl (cI, 16384, .inl gd)), (h0, .inr (9, [.ref m1, .ref m2, .ref m3, .int ik, .int wy, .int op, .int cl, .int cx0, .int cx1, .int cy0, .int cy1, .int ds, .ref m4, .ref m5, .ref m6, .ref m7, .ref m8, .ref m9, .int pn, .ref m10, .ref m11, .ref m12, .ref m13])), (m1, .inl (cI, 4, .inl gw))] H := hP
                            have hD : va_D A [(m2, .inl (cI, 4, .inl gh)), (m3, .inl (cI, 16384, .inl gd)), (h0, .inr (9, [.ref m1, .ref m2, .ref m3, .int ik, .int wy, .int op, .int cl, .int cx0, .int cx1, .int cy0, .int cy1, .int ds, .ref m4, .ref m5, .ref m6, .ref m7, .ref m8, .ref m9, .int pn, .ref m10, .ref m11, .ref m12, .ref m13])), (m1, .inl (cI, 4, .inl gw))] := hD
                            refine va_iald hx hb hK hP 1 0 rfl rfl (by rw [hr_190]; exact sp_in (by omega) (by omega) (by omega) (by omega) (by omega) (by omega)) dX9_look_96 ?_
                            refine my_fold (v := gd (4096 * k.toNatClampNeg + ixP (nI i) (nI j))) (congrArg gd (by rw [hr_190, sp_cl (by omega) (by omega) (by omega) (by omega) (by omega) (by omega), ex_i, ex_j])) ?_
                            refine lv_istore (lv' := [(6, .int (gd (4096 * k.toNatClampNeg + ixP (nI i) (nI j)))), (5, .int x5), (4, .int x4), (3, .int z3), (0, .ref h0), (1, .int k), (2, .int 7)]) hx hb dX9_look_97 hl (by decide) rfl (fun ls hl => ?_)
                            refine lv_iload_n hx hb dX9_look_99 rfl (lv_at hl 6 rfl) ?_
                            refine lv_iconst (v := 5) hx hb dX9_look_100 (by decide) ?_
                            refine lv_icmp_le (tgt := 119) hx hb dX9_look_101 (by decide) (fun c_191 => ?_) (fun c_191 => ?_)
                            · skip
                              exact absurd c_191 (by decide)
                            · skip
                              refine lv_iload_n hx hb dX9_look_104 rfl (lv_at hl 3 rfl) ?_
                              refine lv_iload hx hb dX9_look_105 (lv_at hl 0 rfl) ?_
                              refine lv_iload_n hx hb dX9_look_107 rfl (lv_at hl 6 rfl) ?_
                              refine lv_bipush (v := 6) hx hb dX9_look_108 (by decide) ?_
                              refine lv_isub hx hb dX9_look_110 ?_
                              refine my_fold (v := 1) (by decide) ?_
                              have hPc := hP.sub (ws' := []) [] rfl
                              have hDc := hD.sub (ws' := []) [] (by decide) rfl
                              have hKc := hK.sub (tys' := []) [] rfl
                              have hFc := va_free (wc := []) hD hS hA [] rfl
                              refine va_calli (va_runS (As := [.int (gd (4096 * k.toNatClampNeg + ixP (nI i) (nI j))), .int 1]) (rest := [.int z3]) ⟨hx, hb, hml, hown, hts⟩ (k_X9_channel_1 l D H.size (gd (4096 * k.toNatClampNeg + ixP (nI i) (nI j)))) (va_cwS 2 hts (gS bw_441 bw_438 bw_391 bw_437) rfl rfl rfl (by decide +kernel) ⟨(by rw [hR]; exact Nat.le_of_ble_eq_true rfl), (by rw [hR]; exact Nat.le_of_ble_eq_true rfl)⟩) ⟨cP_blind, cP_at hPc hKc hDc hN⟩ rfl rfl hl.1 rfl (lv_room (Nat.le_of_ble_eq_true rfl)) dX9_look_111 ⟨(by rw [hR]; exact Nat.le_of_ble_eq_true rfl), (by rw [hR]; exact Nat.le_of_ble_eq_true rfl)⟩) hS (fun q _ h => hFc q h) hFc (fun r_193 u9 t9 H1 locs ht hvm hr_193 hB hz1 hk1 hS => ?_)
                              try dsimp only at hr_193
                              have hP1 : va_P D vwCl [] H1 := vP_nil
                              have hD1 : va_D (va_A [] H.size) [] := vD_nil
                              obtain ⟨hP, hD⟩ := va_join (wr := [(m2, .inl (cI, 4, .inl gh)), (m3, .inl (cI, 16384, .inl gd)), (h0, .inr (9, [.ref m1, .ref m2, .ref m3, .int ik, .int wy, .int op, .int cl, .int cx0, .int cx1, .int cy0, .int cy1, .int ds, .ref m4, .ref m5, .ref m6, .ref m7, .ref m8, .ref m9, .int pn, .ref m10, .ref m11, .ref m12, .ref m13])), (m1, .inl (cI, 4, .inl gw))]) (w1 := []) hP hD [] [0, 1, 2, 3] rfl rfl (by decide) (by decide) hk1 hFc hP1 hD1
                              clear hz1 hk1 hFc hKc hDc hPc
                              generalize H1 = H at hP hS ⊢
                              have hP : va_P D vwCl [(m2, .inl (cI, 4, .inl gh)), (m3, .inl (cI, 16384, .inl gd)), (h0, .inr (9, [.ref m1, .ref m2, .ref m3, .int ik, .int wy, .int op, .int cl, .int cx0, .int cx1, .int cy0, .int cy1, .int ds, .ref m4, .ref m5, .ref m6, .ref m7, .ref m8, .ref m9, .int pn, .ref m10, .ref m11, .ref m12, .ref m13])), (m1, .inl (cI, 4, .inl gw))] H := hP
                              have hD : va_D A [(m2, .inl (cI, 4, .inl gh)), (m3, .inl (cI, 16384, .inl gd)), (h0, .inr (9, [.ref m1, .ref m2, .ref m3, .int ik, .int wy, .int op, .int cl, .int cx0, .int cx1, .int cy0, .int cy1, .int ds, .ref m4, .ref m5, .ref m6, .ref m7, .ref m8, .ref m9, .int pn, .ref m10, .ref m11, .ref m12, .ref m13])), (m1, .inl (cI, 4, .inl gw))] := hD
                              refine lv_iadd hx hb dX9_look_114 ?_
                              refine lv_topi (fun y_194 ey_194 => ?_)
                              refine lv_istore_n (lv' := [(3, .int y_194), (6, .int (gd (4096 * k.toNatClampNeg + ixP (nI i) (nI j)))), (5, .int x5), (4, .int x4), (0, .ref h0), (1, .int k), (2, .int 7)]) hx hb dX9_look_115 rfl hl (by decide) rfl (fun ls hl => ?_)
                              refine lv_goto (tgt := 175) hx hb dX9_look_116 (by decide) ?_
                              obtain ⟨y_195, ey_195⟩ : ∃ y : Int32, y = x5 + 1 := ⟨_, rfl⟩
                              refine lv_iinc (v := y_195) (lv' := [(5, .int y_195), (3, .int y_194), (6, .int (gd (4096 * k.toNatClampNeg + ixP (nI i) (nI j)))), (4, .int x4), (0, .ref h0), (1, .int k), (2, .int 7)]) hx hb dX9_look_175 hl (k := 2) rfl (by rw [ey_195]; rfl) (by decide) rfl (fun ls hl => ?_)
                              refine lv_goto (tgt := 73) hx hb dX9_look_178 (by decide) ?_
                              exact ih_186 (i + 1) y_195 y_194 _ _ _ (by omega) (by omega) (by rw [ey_195, ex_i]; exact nI_1 i) (by omega) (by rw [show smR (chF (fun t => gd (4096 * k.toNatClampNeg + t)) 16) j (smL (chF (fun t => gd (4096 * k.toNatClampNeg + t)) 16) W9 0 j) (i + 1) = (chF (fun t => gd (4096 * k.toNatClampNeg + t)) 16) j i z3 from congrArg ((chF (fun t => gd (4096 * k.toNatClampNeg + t)) 16) j i) eti.symm, ey_194, hr_193]; rfl) (hP.sub (ws' := [(m2, .inl (cI, 4, .inl gh)), (m3, .inl (cI, 16384, .inl gd)), (h0, .inr (9, [.ref m1, .ref m2, .ref m3, .int ik, .int wy, .int op, .int cl, .int cx0, .int cx1, .int cy0, .int cy1, .int ds, .ref m4, .ref m5, .ref m6, .ref m7, .ref m8, .ref m9, .int pn, .ref m10, .ref m11, .ref m12, .ref m13])), (m1, .inl (cI, 4, .inl gw))]) [0, 1, 2, 3] rfl) (hD.sub (ws' := [(m2, .inl (cI, 4, .inl gh)), (m3, .inl (cI, 16384, .inl gd)), (h0, .inr (9, [.ref m1, .ref m2, .ref m3, .int ik, .int wy, .int op, .int cl, .int cx0, .int cx1, .int cy0, .int cy1, .int ds, .ref m4, .ref m5, .ref m6, .ref m7, .ref m8, .ref m9, .int pn, .ref m10, .ref m11, .ref m12, .ref m13])), (m1, .inl (cI, 4, .inl gw))]) [0, 1, 2, 3] (by decide) rfl) hS (lv_sub hl [0, 3, 1, 4, 5, 6] rfl)
                      exact loop_185 (64 + 1) 0 0 x3 _ _ _ (by omega) (by omega) nI_0.symm (by omega) eto hP hD hS (lv_sub hl [0, 1, 2, 3, 4, 5] rfl)
                exact loop_181 (64 + 1) 0 0 0 _ _ _ (by omega) (by omega) nI_0.symm (by omega) rfl hP hD hS (lv_sub hl [0, 1, 2, 3, 4] rfl)
              · skip
                exact absurd c_179 (by decide)
            · skip
              exact absurd c_177 (by decide)
          · skip
            exact absurd c_175 (by decide)
        · skip
          have hl : lv_has ls 8 [(0, .ref h0), (1, .int k), (2, .int 8)] := hl
          refine lv_iload_n hx hb dX9_look_20 rfl (lv_at hl 2 rfl) ?_
          refine lv_iconst (v := 4) hx hb dX9_look_21 (by decide) ?_
          refine lv_icmp_ne (tgt := 32) hx hb dX9_look_22 (by decide) (fun c_196 => ?_) (fun c_196 => ?_)
          · skip
            refine lv_iload_n hx hb dX9_look_32 rfl (lv_at hl 2 rfl) ?_
            refine lv_iconst (v := 5) hx hb dX9_look_33 (by decide) ?_
            refine lv_icmp_ne (tgt := 44) hx hb dX9_look_34 (by decide) (fun c_198 => ?_) (fun c_198 => ?_)
            · skip
              refine lv_iload_n hx hb dX9_look_44 rfl (lv_at hl 2 rfl) ?_
              refine lv_bipush (v := 6) hx hb dX9_look_45 (by decide) ?_
              refine lv_icmp_ge (tgt := 54) hx hb dX9_look_47 (by decide) (fun c_200 => ?_) (fun c_200 => ?_)
              · skip
                refine lv_iconst (v := 0) hx hb dX9_look_54 (by decide) ?_
                refine lv_istore_n (lv' := [(3, .int 0), (0, .ref h0), (1, .int k), (2, .int 8)]) hx hb dX9_look_55 rfl hl (by decide) rfl (fun ls hl => ?_)
                refine lv_iconst (v := 0) hx hb dX9_look_56 (by decide) ?_
                refine lv_istore (lv' := [(4, .int 0), (3, .int 0), (0, .ref h0), (1, .int k), (2, .int 8)]) hx hb dX9_look_57 hl (by decide) rfl (fun ls hl => ?_)
                have loop_202 : ∀ (n : Nat) (j : Nat) (x4 : Int32) (x3 : Int32) (H : Heap) (locs : List Loc) (ls : Array Slot), (j ≤ 64) → (64 + 1 ≤ j + n) → (x4 = nI j) → (j ≤ H9) → (x3 = smL (chF (fun t => gd (4096 * k.toNatClampNeg + t)) 8) W9 0 j) → va_P D vwCl [(m2, .inl (cI, 4, .inl gh)), (m3, .inl (cI, 16384, .inl gd)), (h0, .inr (9, [.ref m1, .ref m2, .ref m3, .int ik, .int wy, .int op, .int cl, .int cx0, .int cx1, .int cy0, .int cy1, .int ds, .ref m4, .ref m5, .ref m6, .ref m7, .ref m8, .ref m9, .int pn, .ref m10, .ref m11, .ref m12, .ref m13])), (m1, .inl (cI, 4, .inl gw))] H → va_D A [(m2, .inl (cI, 4, .inl gh)), (m3, .inl (cI, 16384, .inl gd)), (h0, .inr (9, [.ref m1, .ref m2, .ref m3, .int ik, .int wy, .int op, .int cl, .int cx0, .int cx1, .int cy0, .int cy1, .int ds, .ref m4, .ref m5, .ref m6, .ref m7, .ref m8, .ref m9, .int pn, .ref m10, .ref m11, .ref m12, .ref m13])), (m1, .inl (cI, 4, .inl gw))] → va_S A s.heap H locs → lv_has ls 8 [(4, .int x4), (3, .int x3), (0, .ref h0), (1, .int k), (2, .int 8)] → W p l e R s m ([.ref h0, .int k, .int (nI 8)] : List Value).toArray below meth c H locs 0 0 Q (F0 m 59 ls []) := by
                  intro n
                  induction n with
                  | zero =>
                    intro j x4 x3 H locs ls hi_j hm_j ex_j hjo eto hP hD hS hl
                    exact absurd (show False by omega) not_false
                  | succ n ih_203 =>
                    intro j x4 x3 H locs ls hi_j hm_j ex_j hjo eto hP hD hS hl
                    have hx_j : x4.toInt = (j : Int) := by rw [ex_j]; exact nI_toInt (by omega)
                    have hc_j : x4.toNatClampNeg = j := by rw [ex_j]; exact nI_clamp (by omega)
                    refine lv_iload hx hb dX9_look_59 (lv_at hl 0 rfl) ?_
                    refine lv_aload_n hx hb dX9_look_61 rfl (lv_at hl 2 rfl) ?_
                    refine va_get (D := D) (ci := 9) (v := .ref m2) (C := RX9) (T := TX9) (N := 23) hx hb hts hi_X9 hown hK hP 2 rfl rfl 1 (by decide) (hts _ bw_397) (fun _ h9 => h9) rfl dX9_look_62 ?_
                    refine lv_iload_n hx hb dX9_look_65 rfl (lv_at hl 3 rfl) ?_
                    refine va_iald hx hb hK hP 0 0 rfl rfl (vp_in_iff.mpr ⟨by omega, by omega⟩) dX9_look_66 ?_
                    refine lv_icmp_ge (tgt := 187) hx hb dX9_look_67 (by decide) (fun c_204 => ?_) (fun c_204 => ?_)
                    · skip
                      have f_205 : (gh k.toNatClampNeg).toInt ≤ (j : Int) := f_le rfl hx_j c_204
                      refine lv_iload_n hx hb dX9_look_187 rfl (lv_at hl 1 rfl) ?_
                      have hP9 := hP.sub (ws' := [(h0, .inr (9, [.ref m1, .ref m2, .ref m3, .int ik, .int wy, .int op, .int cl, .int cx0, .int cx1, .int cy0, .int cy1, .int ds, .ref m4, .ref m5, .ref m6, .ref m7, .ref m8, .ref m9, .int pn, .ref m10, .ref m11, .ref m12, .ref m13])), (m1, .inl (cI, 4, .inl gw)), (m2, .inl (cI, 4, .inl gh)), (m3, .inl (cI, 16384, .inl gd))]) [2, 3, 0, 1] rfl
                      have hD9 := hD.sub (ws' := [(h0, .inr (9, [.ref m1, .ref m2, .ref m3, .int ik, .int wy, .int op, .int cl, .int cx0, .int cx1, .int cy0, .int cy1, .int ds, .ref m4, .ref m5, .ref m6, .ref m7, .ref m8, .ref m9, .int pn, .ref m10, .ref m11, .ref m12, .ref m13])), (m1, .inl (cI, 4, .inl gw)), (m2, .inl (cI, 4, .inl gh)), (m3, .inl (cI, 16384, .inl gd))]) [2, 3, 0, 1] (by decide) rfl
                      have hK9 := hK.sub (tys' := [(cI, .int)]) [0] rfl
                      refine hQ _ _ _ _ _ ?_
                      exact W.iret (v := x3) hx hb hr (fun t ht hW => ⟨⟨x3, (), rfl, (show _ = lkP (fun t => gd (4096 * k.toNatClampNeg + t)) (gw k.toNatClampNeg) (gh k.toNatClampNeg) (nI 8) from (show _ = smL (chF (fun t => gd (4096 * k.toNatClampNeg + t)) 8) (gw k.toNatClampNeg).toNatClampNeg 0 (gh k.toNatClampNeg).toNatClampNeg from (by rw [eW9n, eH9n, ← show j = H9 by omega]; exact eto)).trans (if_pos (by decide)).symm), ⟨by rw [ht]; exact hP9, va_K.moved hW.alike hK9, hD9⟩⟩, hS.F ht⟩) hS.2.2 dX9_look_188
                    · skip
                      have f_205 : ¬ ((gh k.toNatClampNeg).toInt ≤ (j : Int)) := fn_le rfl hx_j c_204
                      refine lv_iconst (v := 0) hx hb dX9_look_70 (by decide) ?_
                      refine lv_istore (lv' := [(5, .int 0), (4, .int x4), (3, .int x3), (0, .ref h0), (1, .int k), (2, .int 8)]) hx hb dX9_look_71 hl (by decide) rfl (fun ls hl => ?_)
                      have loop_206 : ∀ (n : Nat) (i : Nat) (x5 : Int32) (z3 : Int32) (H : Heap) (locs : List Loc) (ls : Array Slot), (i ≤ 64) → (64 + 1 ≤ i + n) → (x5 = nI i) → (i ≤ W9) → (z3 = smR (chF (fun t => gd (4096 * k.toNatClampNeg + t)) 8) j (smL (chF (fun t => gd (4096 * k.toNatClampNeg + t)) 8) W9 0 j) i) → va_P D vwCl [(m2, .inl (cI, 4, .inl gh)), (m3, .inl (cI, 16384, .inl gd)), (h0, .inr (9, [.ref m1, .ref m2, .ref m3, .int ik, .int wy, .int op, .int cl, .int cx0, .int cx1, .int cy0, .int cy1, .int ds, .ref m4, .ref m5, .ref m6, .ref m7, .ref m8, .ref m9, .int pn, .ref m10, .ref m11, .ref m12, .ref m13])), (m1, .inl (cI, 4, .inl gw))] H → va_D A [(m2, .inl (cI, 4, .inl gh)), (m3, .inl (cI, 16384, .inl gd)), (h0, .inr (9, [.ref m1, .ref m2, .ref m3, .int ik, .int wy, .int op, .int cl, .int cx0, .int cx1, .int cy0, .int cy1, .int ds, .ref m4, .ref m5, .ref m6, .ref m7, .ref m8, .ref m9, .int pn, .ref m10, .ref m11, .ref m12, .ref m13])), (m1, .inl (cI, 4, .inl gw))] → va_S A s.heap H locs → lv_has ls 8 [(5, .int x5), (4, .int x4), (3, .int z3), (0, .ref h0), (1, .int k), (2, .int 8)] → W p l e R s m ([.ref h0, .int k, .int (nI 8)] : List Value).toArray below meth c H locs 0 0 Q (F0 m 73 ls []) := by
                        intro n
                        induction n with
                        | zero =>
                          intro i x5 z3 H locs ls hi_i hm_i ex_i hio eti hP hD hS hl
                          exact absurd (show False by omega) not_false
                        | succ n ih_207 =>
                          intro i x5 z3 H locs ls hi_i hm_i ex_i hio eti hP hD hS hl
                          have hx_i : x5.toInt = (i : Int) := by rw [ex_i]; exact nI_toInt (by omega)
                          have hc_i : x5.toNatClampNeg = i := by rw [ex_i]; exact nI_clamp (by omega)
                          refine lv_iload hx hb dX9_look_73 (lv_at hl 0 rfl) ?_
                          refine lv_aload_n hx hb dX9_look_75 rfl (lv_at hl 3 rfl) ?_
                          refine va_get (D := D) (ci := 9) (v := .ref m1) (C := RX9) (T := TX9) (N := 23) hx hb hts hi_X9 hown hK hP 2 rfl rfl 0 (by decide) (hts _ bw_396) (fun _ h9 => h9) rfl dX9_look_76 ?_
                          refine lv_iload_n hx hb dX9_look_79 rfl (lv_at hl 4 rfl) ?_
                          refine va_iald hx hb hK hP 3 0 rfl rfl (vp_in_iff.mpr ⟨by omega, by omega⟩) dX9_look_80 ?_
                          refine lv_icmp_ge (tgt := 181) hx hb dX9_look_81 (by decide) (fun c_208 => ?_) (fun c_208 => ?_)
                          · skip
                            have f_209 : (gw k.toNatClampNeg).toInt ≤ (i : Int) := f_le rfl hx_i c_208
                            obtain ⟨y_210, ey_210⟩ : ∃ y : Int32, y = x4 + 1 := ⟨_, rfl⟩
                            refine lv_iinc (v := y_210) (lv' := [(4, .int y_210), (5, .int x5), (3, .int z3), (0, .ref h0), (1, .int k), (2, .int 8)]) hx hb dX9_look_181 hl (k := 1) rfl (by rw [ey_210]; rfl) (by decide) rfl (fun ls hl => ?_)
                            refine lv_goto (tgt := 59) hx hb dX9_look_184 (by decide) ?_
                            exact ih_203 (j + 1) y_210 z3 _ _ _ (by omega) (by omega) (by rw [ey_210, ex_j]; exact nI_1 j) (by omega) (sm_nx eti (by omega)) (hP.sub (ws' := [(m2, .inl (cI, 4, .inl gh)), (m3, .inl (cI, 16384, .inl gd)), (h0, .inr (9, [.ref m1, .ref m2, .ref m3, .int ik, .int wy, .int op, .int cl, .int cx0, .int cx1, .int cy0, .int cy1, .int ds, .ref m4, .ref m5, .ref m6, .ref m7, .ref m8, .ref m9, .int pn, .ref m10, .ref m11, .ref m12, .ref m13])), (m1, .inl (cI, 4, .inl gw))]) [0, 1, 2, 3] rfl) (hD.sub (ws' := [(m2, .inl (cI, 4, .inl gh)), (m3, .inl (cI, 16384, .inl gd)), (h0, .inr (9, [.ref m1, .ref m2, .ref m3, .int ik, .int wy, .int op, .int cl, .int cx0, .int cx1, .int cy0, .int cy1, .int ds, .ref m4, .ref m5, .ref m6, .ref m7, .ref m8, .ref m9, .int pn, .ref m10, .ref m11, .ref m12, .ref m13])), (m1, .inl (cI, 4, .inl gw))]) [0, 1, 2, 3] (by decide) rfl) hS (lv_sub hl [0, 2, 3, 4, 5] rfl)
                          · skip
                            have f_209 : ¬ ((gw k.toNatClampNeg).toInt ≤ (i : Int)) := fn_le rfl hx_i c_208
                            refine lv_aload_n hx hb dX9_look_84 rfl (lv_at hl 3 rfl) ?_
                            refine va_get (D := D) (ci := 9) (v := .ref m3) (C := RX9) (T := TX9) (N := 23) hx hb hts hi_X9 hown hK hP 2 rfl rfl 2 (by decide) (hts _ bw_398) (fun _ h9 => h9) rfl dX9_look_85 ?_
                            refine lv_iload_n hx hb dX9_look_88 rfl (lv_at hl 4 rfl) ?_
                            refine lv_iload hx hb dX9_look_89 (lv_at hl 0 rfl) ?_
                            refine lv_iload hx hb dX9_look_91 (lv_at hl 1 rfl) ?_
                            have hPc := hP.sub (ws' := []) [] rfl
                            have hDc := hD.sub (ws' := []) [] (by decide) rfl
                            have hKc := hK.sub (tys' := []) [] rfl
                            have hFc := va_free (wc := []) hD hS hA [] rfl
                            refine va_calli (va_runS (As := [.int k, .int x5, .int x4]) (rest := [.ref m3]) ⟨hx, hb, hml, hown, hts⟩ (k_X9_spot l D H.size k x5 x4) (va_cwS 3 hts (gS bw_551 bw_421 bw_391 bw_420) rfl rfl rfl (by decide +kernel) ⟨(by rw [hR]; exact Nat.le_of_ble_eq_true rfl), (by rw [hR]; exact Nat.le_of_ble_eq_true rfl)⟩) ⟨cP_blind, cP_at hPc hKc hDc hN⟩ rfl rfl hl.1 rfl (lv_room (Nat.le_of_ble_eq_true rfl)) dX9_look_93 ⟨(by rw [hR]; exact Nat.le_of_ble_eq_true rfl), (by rw [hR]; exact Nat.le_of_ble_eq_true rfl)⟩) hS (fun q _ h => hFc q h) hFc (fun r_211 u9 t9 H1 locs ht hvm hr_211 hB hz1 hk1 hS => ?_)
                            try dsimp only at hr_211
                            have hP1 : va_P D vwCl [] H1 := vP_nil
                            have hD1 : va_D (va_A [] H.size) [] := vD_nil
                            obtain ⟨hP, hD⟩ := va_join (wr := [(m2, .inl (cI, 4, .inl gh)), (m3, .inl (cI, 16384, .inl gd)), (h0, .inr (9, [.ref m1, .ref m2, .ref m3, .int ik, .int wy, .int op, .int cl, .int cx0, .int cx1, .int cy0, .int cy1, .int ds, .ref m4, .ref m5, .ref m6, .ref m7, .ref m8, .ref m9, .int pn, .ref m10, .ref m11, .ref m12, .ref m13])), (m1, .inl (cI, 4, .inl gw))]) (w1 := []) hP hD [] [0, 1, 2, 3] rfl rfl (by decide) (by decide) hk1 hFc hP1 hD1
                            clear hz1 hk1 hFc hKc hDc hPc
                            generalize H1 = H at hP hS ⊢
                            have hP : va_P D vwCl [(m2, .inl (cI, 4, .inl gh)), (m3, .inl (cI, 16384, .inl gd)), (h0, .inr (9, [.ref m1, .ref m2, .ref m3, .int ik, .int wy, .int op, .int cl, .int cx0, .int cx1, .int cy0, .int cy1, .int ds, .ref m4, .ref m5, .ref m6, .ref m7, .ref m8, .ref m9, .int pn, .ref m10, .ref m11, .ref m12, .ref m13])), (m1, .inl (cI, 4, .inl gw))] H := hP
                            have hD : va_D A [(m2, .inl (cI, 4, .inl gh)), (m3, .inl (cI, 16384, .inl gd)), (h0, .inr (9, [.ref m1, .ref m2, .ref m3, .int ik, .int wy, .int op, .int cl, .int cx0, .int cx1, .int cy0, .int cy1, .int ds, .ref m4, .ref m5, .ref m6, .ref m7, .ref m8, .ref m9, .int pn, .ref m10, .ref m11, .ref m12, .ref m13])), (m1, .inl (cI, 4, .inl gw))] := hD
                            refine va_iald hx hb hK hP 1 0 rfl rfl (by rw [hr_211]; exact sp_in (by omega) (by omega) (by omega) (by omega) (by omega) (by omega)) dX9_look_96 ?_
                            refine my_fold (v := gd (4096 * k.toNatClampNeg + ixP (nI i) (nI j))) (congrArg gd (by rw [hr_211, sp_cl (by omega) (by omega) (by omega) (by omega) (by omega) (by omega), ex_i, ex_j])) ?_
                            refine lv_istore (lv' := [(6, .int (gd (4096 * k.toNatClampNeg + ixP (nI i) (nI j)))), (5, .int x5), (4, .int x4), (3, .int z3), (0, .ref h0), (1, .int k), (2, .int 8)]) hx hb dX9_look_97 hl (by decide) rfl (fun ls hl => ?_)
                            refine lv_iload_n hx hb dX9_look_99 rfl (lv_at hl 6 rfl) ?_
                            refine lv_iconst (v := 5) hx hb dX9_look_100 (by decide) ?_
                            refine lv_icmp_le (tgt := 119) hx hb dX9_look_101 (by decide) (fun c_212 => ?_) (fun c_212 => ?_)
                            · skip
                              exact absurd c_212 (by decide)
                            · skip
                              refine lv_iload_n hx hb dX9_look_104 rfl (lv_at hl 3 rfl) ?_
                              refine lv_iload hx hb dX9_look_105 (lv_at hl 0 rfl) ?_
                              refine lv_iload_n hx hb dX9_look_107 rfl (lv_at hl 6 rfl) ?_
                              refine lv_bipush (v := 6) hx hb dX9_look_108 (by decide) ?_
                              refine lv_isub hx hb dX9_look_110 ?_
                              refine my_fold (v := 2) (by decide) ?_
                              have hPc := hP.sub (ws' := []) [] rfl
                              have hDc := hD.sub (ws' := []) [] (by decide) rfl
                              have hKc := hK.sub (tys' := []) [] rfl
                              have hFc := va_free (wc := []) hD hS hA [] rfl
                              refine va_calli (va_runS (As := [.int (gd (4096 * k.toNatClampNeg + ixP (nI i) (nI j))), .int 2]) (rest := [.int z3]) ⟨hx, hb, hml, hown, hts⟩ (k_X9_channel_2 l D H.size (gd (4096 * k.toNatClampNeg + ixP (nI i) (nI j)))) (va_cwS 2 hts (gS bw_441 bw_438 bw_391 bw_437) rfl rfl rfl (by decide +kernel) ⟨(by rw [hR]; exact Nat.le_of_ble_eq_true rfl), (by rw [hR]; exact Nat.le_of_ble_eq_true rfl)⟩) ⟨cP_blind, cP_at hPc hKc hDc hN⟩ rfl rfl hl.1 rfl (lv_room (Nat.le_of_ble_eq_true rfl)) dX9_look_111 ⟨(by rw [hR]; exact Nat.le_of_ble_eq_true rfl), (by rw [hR]; exact Nat.le_of_ble_eq_true rfl)⟩) hS (fun q _ h => hFc q h) hFc (fun r_214 u9 t9 H1 locs ht hvm hr_214 hB hz1 hk1 hS => ?_)
                              try dsimp only at hr_214
                              have hP1 : va_P D vwCl [] H1 := vP_nil
                              have hD1 : va_D (va_A [] H.size) [] := vD_nil
                              obtain ⟨hP, hD⟩ := va_join (wr := [(m2, .inl (cI, 4, .inl gh)), (m3, .inl (cI, 16384, .inl gd)), (h0, .inr (9, [.ref m1, .ref m2, .ref m3, .int ik, .int wy, .int op, .int cl, .int cx0, .int cx1, .int cy0, .int cy1, .int ds, .ref m4, .ref m5, .ref m6, .ref m7, .ref m8, .ref m9, .int pn, .ref m10, .ref m11, .ref m12, .ref m13])), (m1, .inl (cI, 4, .inl gw))]) (w1 := []) hP hD [] [0, 1, 2, 3] rfl rfl (by decide) (by decide) hk1 hFc hP1 hD1
                              clear hz1 hk1 hFc hKc hDc hPc
                              generalize H1 = H at hP hS ⊢
                              have hP : va_P D vwCl [(m2, .inl (cI, 4, .inl gh)), (m3, .inl (cI, 16384, .inl gd)), (h0, .inr (9, [.ref m1, .ref m2, .ref m3, .int ik, .int wy, .int op, .int cl, .int cx0, .int cx1, .int cy0, .int cy1, .int ds, .ref m4, .ref m5, .ref m6, .ref m7, .ref m8, .ref m9, .int pn, .ref m10, .ref m11, .ref m12, .ref m13])), (m1, .inl (cI, 4, .inl gw))] H := hP
                              have hD : va_D A [(m2, .inl (cI, 4, .inl gh)), (m3, .inl (cI, 16384, .inl gd)), (h0, .inr (9, [.ref m1, .ref m2, .ref m3, .int ik, .int wy, .int op, .int cl, .int cx0, .int cx1, .int cy0, .int cy1, .int ds, .ref m4, .ref m5, .ref m6, .ref m7, .ref m8, .ref m9, .int pn, .ref m10, .ref m11, .ref m12, .ref m13])), (m1, .inl (cI, 4, .inl gw))] := hD
                              refine lv_iadd hx hb dX9_look_114 ?_
                              refine lv_topi (fun y_215 ey_215 => ?_)
                              refine lv_istore_n (lv' := [(3, .int y_215), (6, .int (gd (4096 * k.toNatClampNeg + ixP (nI i) (nI j)))), (5, .int x5), (4, .int x4), (0, .ref h0), (1, .int k), (2, .int 8)]) hx hb dX9_look_115 rfl hl (by decide) rfl (fun ls hl => ?_)
                              refine lv_goto (tgt := 175) hx hb dX9_look_116 (by decide) ?_
                              obtain ⟨y_216, ey_216⟩ : ∃ y : Int32, y = x5 + 1 := ⟨_, rfl⟩
                              refine lv_iinc (v := y_216) (lv' := [(5, .int y_216), (3, .int y_215), (6, .int (gd (4096 * k.toNatClampNeg + ixP (nI i) (nI j)))), (4, .int x4), (0, .ref h0), (1, .int k), (2, .int 8)]) hx hb dX9_look_175 hl (k := 2) rfl (by rw [ey_216]; rfl) (by decide) rfl (fun ls hl => ?_)
                              refine lv_goto (tgt := 73) hx hb dX9_look_178 (by decide) ?_
                              exact ih_207 (i + 1) y_216 y_215 _ _ _ (by omega) (by omega) (by rw [ey_216, ex_i]; exact nI_1 i) (by omega) (by rw [show smR (chF (fun t => gd (4096 * k.toNatClampNeg + t)) 8) j (smL (chF (fun t => gd (4096 * k.toNatClampNeg + t)) 8) W9 0 j) (i + 1) = (chF (fun t => gd (4096 * k.toNatClampNeg + t)) 8) j i z3 from congrArg ((chF (fun t => gd (4096 * k.toNatClampNeg + t)) 8) j i) eti.symm, ey_215, hr_214]; rfl) (hP.sub (ws' := [(m2, .inl (cI, 4, .inl gh)), (m3, .inl (cI, 16384, .inl gd)), (h0, .inr (9, [.ref m1, .ref m2, .ref m3, .int ik, .int wy, .int op, .int cl, .int cx0, .int cx1, .int cy0, .int cy1, .int ds, .ref m4, .ref m5, .ref m6, .ref m7, .ref m8, .ref m9, .int pn, .ref m10, .ref m11, .ref m12, .ref m13])), (m1, .inl (cI, 4, .inl gw))]) [0, 1, 2, 3] rfl) (hD.sub (ws' := [(m2, .inl (cI, 4, .inl gh)), (m3, .inl (cI, 16384, .inl gd)), (h0, .inr (9, [.ref m1, .ref m2, .ref m3, .int ik, .int wy, .int op, .int cl, .int cx0, .int cx1, .int cy0, .int cy1, .int ds, .ref m4, .ref m5, .ref m6, .ref m7, .ref m8, .ref m9, .int pn, .ref m10, .ref m11, .ref m12, .ref m13])), (m1, .inl (cI, 4, .inl gw))]) [0, 1, 2, 3] (by decide) rfl) hS (lv_sub hl [0, 3, 1, 4, 5, 6] rfl)
                      exact loop_206 (64 + 1) 0 0 x3 _ _ _ (by omega) (by omega) nI_0.symm (by omega) eto hP hD hS (lv_sub hl [0, 1, 2, 3, 4, 5] rfl)
                exact loop_202 (64 + 1) 0 0 0 _ _ _ (by omega) (by omega) nI_0.symm (by omega) rfl hP hD hS (lv_sub hl [0, 1, 2, 3, 4] rfl)
              · skip
                exact absurd c_200 (by decide)
            · skip
              exact absurd c_198 (by decide)
          · skip
            exact absurd c_196 (by decide)
        · skip
          have hl : lv_has ls 8 [(0, .ref h0), (1, .int k), (2, .int 9)] := hl
          refine lv_iload_n hx hb dX9_look_20 rfl (lv_at hl 2 rfl) ?_
          refine lv_iconst (v := 4) hx hb dX9_look_21 (by decide) ?_
          refine lv_icmp_ne (tgt := 32) hx hb dX9_look_22 (by decide) (fun c_217 => ?_) (fun c_217 => ?_)
          · skip
            refine lv_iload_n hx hb dX9_look_32 rfl (lv_at hl 2 rfl) ?_
            refine lv_iconst (v := 5) hx hb dX9_look_33 (by decide) ?_
            refine lv_icmp_ne (tgt := 44) hx hb dX9_look_34 (by decide) (fun c_219 => ?_) (fun c_219 => ?_)
            · skip
              refine lv_iload_n hx hb dX9_look_44 rfl (lv_at hl 2 rfl) ?_
              refine lv_bipush (v := 6) hx hb dX9_look_45 (by decide) ?_
              refine lv_icmp_ge (tgt := 54) hx hb dX9_look_47 (by decide) (fun c_221 => ?_) (fun c_221 => ?_)
              · skip
                refine lv_iconst (v := 0) hx hb dX9_look_54 (by decide) ?_
                refine lv_istore_n (lv' := [(3, .int 0), (0, .ref h0), (1, .int k), (2, .int 9)]) hx hb dX9_look_55 rfl hl (by decide) rfl (fun ls hl => ?_)
                refine lv_iconst (v := 0) hx hb dX9_look_56 (by decide) ?_
                refine lv_istore (lv' := [(4, .int 0), (3, .int 0), (0, .ref h0), (1, .int k), (2, .int 9)]) hx hb dX9_look_57 hl (by decide) rfl (fun ls hl => ?_)
                have loop_223 : ∀ (n : Nat) (j : Nat) (x4 : Int32) (x3 : Int32) (H : Heap) (locs : List Loc) (ls : Array Slot), (j ≤ 64) → (64 + 1 ≤ j + n) → (x4 = nI j) → (j ≤ H9) → (x3 = smL (chF (fun t => gd (4096 * k.toNatClampNeg + t)) 0) W9 0 j) → va_P D vwCl [(m2, .inl (cI, 4, .inl gh)), (m3, .inl (cI, 16384, .inl gd)), (h0, .inr (9, [.ref m1, .ref m2, .ref m3, .int ik, .int wy, .int op, .int cl, .int cx0, .int cx1, .int cy0, .int cy1, .int ds, .ref m4, .ref m5, .ref m6, .ref m7, .ref m8, .ref m9, .int pn, .ref m10, .ref m11, .ref m12, .ref m13])), (m1, .inl (cI, 4, .inl gw))] H → va_D A [(m2, .inl (cI, 4, .inl gh)), (m3, .inl (cI, 16384, .inl gd)), (h0, .inr (9, [.ref m1, .ref m2, .ref m3, .int ik, .int wy, .int op, .int cl, .int cx0, .int cx1, .int cy0, .int cy1, .int ds, .ref m4, .ref m5, .ref m6, .ref m7, .ref m8, .ref m9, .int pn, .ref m10, .ref m11, .ref m12, .ref m13])), (m1, .inl (cI, 4, .inl gw))] → va_S A s.heap H locs → lv_has ls 8 [(4, .int x4), (3, .int x3), (0, .ref h0), (1, .int k), (2, .int 9)] → W p l e R s m ([.ref h0, .int k, .int (nI 9)] : List Value).toArray below meth c H locs 0 0 Q (F0 m 59 ls []) := by
                  intro n
                  induction n with
                  | zero =>
                    intro j x4 x3 H locs ls hi_j hm_j ex_j hjo eto hP hD hS hl
                    exact absurd (show False by omega) not_false
                  | succ n ih_224 =>
                    intro j x4 x3 H locs ls hi_j hm_j ex_j hjo eto hP hD hS hl
                    have hx_j : x4.toInt = (j : Int) := by rw [ex_j]; exact nI_toInt (by omega)
                    have hc_j : x4.toNatClampNeg = j := by rw [ex_j]; exact nI_clamp (by omega)
                    refine lv_iload hx hb dX9_look_59 (lv_at hl 0 rfl) ?_
                    refine lv_aload_n hx hb dX9_look_61 rfl (lv_at hl 2 rfl) ?_
                    refine va_get (D := D) (ci := 9) (v := .ref m2) (C := RX9) (T := TX9) (N := 23) hx hb hts hi_X9 hown hK hP 2 rfl rfl 1 (by decide) (hts _ bw_397) (fun _ h9 => h9) rfl dX9_look_62 ?_
                    refine lv_iload_n hx hb dX9_look_65 rfl (lv_at hl 3 rfl) ?_
                    refine va_iald hx hb hK hP 0 0 rfl rfl (vp_in_iff.mpr ⟨by omega, by omega⟩) dX9_look_66 ?_
                    refine lv_icmp_ge (tgt := 187) hx hb dX9_look_67 (by decide) (fun c_225 => ?_) (fun c_225 => ?_)
                    · skip
                      have f_226 : (gh k.toNatClampNeg).toInt ≤ (j : Int) := f_le rfl hx_j c_225
                      refine lv_iload_n hx hb dX9_look_187 rfl (lv_at hl 1 rfl) ?_
                      have hP9 := hP.sub (ws' := [(h0, .inr (9, [.ref m1, .ref m2, .ref m3, .int ik, .int wy, .int op, .int cl, .int cx0, .int cx1, .int cy0, .int cy1, .int ds, .ref m4, .ref m5, .ref m6, .ref m7, .ref m8, .ref m9, .int pn, .ref m10, .ref m11, .ref m12, .ref m13])), (m1, .inl (cI, 4, .inl gw)), (m2, .inl (cI, 4, .inl gh)), (m3, .inl (cI, 16384, .inl gd))]) [2, 3, 0, 1] rfl
                      have hD9 := hD.sub (ws' := [(h0, .inr (9, [.ref m1, .ref m2, .ref m3, .int ik, .int wy, .int op, .int cl, .int cx0, .int cx1, .int cy0, .int cy1, .int ds, .ref m4, .ref m5, .ref m6, .ref m7, .ref m8, .ref m9, .int pn, .ref m10, .ref m11, .ref m12, .ref m13])), (m1, .inl (cI, 4, .inl gw)), (m2, .inl (cI, 4, .inl gh)), (m3, .inl (cI, 16384, .inl gd))]) [2, 3, 0, 1] (by decide) rfl
                      have hK9 := hK.sub (tys' := [(cI, .int)]) [0] rfl
                      refine hQ _ _ _ _ _ ?_
                      exact W.iret (v := x3) hx hb hr (fun t ht hW => ⟨⟨x3, (), rfl, (show _ = lkP (fun t => gd (4096 * k.toNatClampNeg + t)) (gw k.toNatClampNeg) (gh k.toNatClampNeg) (nI 9) from (show _ = smL (chF (fun t => gd (4096 * k.toNatClampNeg + t)) 0) (gw k.toNatClampNeg).toNatClampNeg 0 (gh k.toNatClampNeg).toNatClampNeg from (by rw [eW9n, eH9n, ← show j = H9 by omega]; exact eto)).trans (if_pos (by decide)).symm), ⟨by rw [ht]; exact hP9, va_K.moved hW.alike hK9, hD9⟩⟩, hS.F ht⟩) hS.2.2 dX9_look_188
                    · skip
                      have f_226 : ¬ ((gh k.toNatClampNeg).toInt ≤ (j : Int)) := fn_le rfl hx_j c_225
                      refine lv_iconst (v := 0) hx hb dX9_look_70 (by decide) ?_
                      refine lv_istore (lv' := [(5, .int 0), (4, .int x4), (3, .int x3), (0, .ref h0), (1, .int k), (2, .int 9)]) hx hb dX9_look_71 hl (by decide) rfl (fun ls hl => ?_)
                      have loop_227 : ∀ (n : Nat) (i : Nat) (x5 : Int32) (z3 : Int32) (H : Heap) (locs : List Loc) (ls : Array Slot), (i ≤ 64) → (64 + 1 ≤ i + n) → (x5 = nI i) → (i ≤ W9) → (z3 = smR (chF (fun t => gd (4096 * k.toNatClampNeg + t)) 0) j (smL (chF (fun t => gd (4096 * k.toNatClampNeg + t)) 0) W9 0 j) i) → va_P D vwCl [(m2, .inl (cI, 4, .inl gh)), (m3, .inl (cI, 16384, .inl gd)), (h0, .inr (9, [.ref m1, .ref m2, .ref m3, .int ik, .int wy, .int op, .int cl, .int cx0, .int cx1, .int cy0, .int cy1, .int ds, .ref m4, .ref m5, .ref m6, .ref m7, .ref m8, .ref m9, .int pn, .ref m10, .ref m11, .ref m12, .ref m13])), (m1, .inl (cI, 4, .inl gw))] H → va_D A [(m2, .inl (cI, 4, .inl gh)), (m3, .inl (cI, 16384, .inl gd)), (h0, .inr (9, [.ref m1, .ref m2, .ref m3, .int ik, .int wy, .int op, .int cl, .int cx0, .int cx1, .int cy0, .int cy1, .int ds, .ref m4, .ref m5, .ref m6, .ref m7, .ref m8, .ref m9, .int pn, .ref m10, .ref m11, .ref m12, .ref m13])), (m1, .inl (cI, 4, .inl gw))] → va_S A s.heap H locs → lv_has ls 8 [(5, .int x5), (4, .int x4), (3, .int z3), (0, .ref h0), (1, .int k), (2, .int 9)] → W p l e R s m ([.ref h0, .int k, .int (nI 9)] : List Value).toArray below meth c H locs 0 0 Q (F0 m 73 ls []) := by
                        intro n
                        induction n with
                        | zero =>
                          intro i x5 z3 H locs ls hi_i hm_i ex_i hio eti hP hD hS hl
                          exact absurd (show False by omega) not_false
                        | succ n ih_228 =>
                          intro i x5 z3 H locs ls hi_i hm_i ex_i hio eti hP hD hS hl
                          have hx_i : x5.toInt = (i : Int) := by rw [ex_i]; exact nI_toInt (by omega)
                          have hc_i : x5.toNatClampNeg = i := by rw [ex_i]; exact nI_clamp (by omega)
                          refine lv_iload hx hb dX9_look_73 (lv_at hl 0 rfl) ?_
                          refine lv_aload_n hx hb dX9_look_75 rfl (lv_at hl 3 rfl) ?_
                          refine va_get (D := D) (ci := 9) (v := .ref m1) (C := RX9) (T := TX9) (N := 23) hx hb hts hi_X9 hown hK hP 2 rfl rfl 0 (by decide) (hts _ bw_396) (fun _ h9 => h9) rfl dX9_look_76 ?_
                          refine lv_iload_n hx hb dX9_look_79 rfl (lv_at hl 4 rfl) ?_
                          refine va_iald hx hb hK hP 3 0 rfl rfl (vp_in_iff.mpr ⟨by omega, by omega⟩) dX9_look_80 ?_
                          refine lv_icmp_ge (tgt := 181) hx hb dX9_look_81 (by decide) (fun c_229 => ?_) (fun c_229 => ?_)
                          · skip
                            have f_230 : (gw k.toNatClampNeg).toInt ≤ (i : Int) := f_le rfl hx_i c_229
                            obtain ⟨y_231, ey_231⟩ : ∃ y : Int32, y = x4 + 1 := ⟨_, rfl⟩
                            refine lv_iinc (v := y_231) (lv' := [(4, .int y_231), (5, .int x5), (3, .int z3), (0, .ref h0), (1, .int k), (2, .int 9)]) hx hb dX9_look_181 hl (k := 1) rfl (by rw [ey_231]; rfl) (by decide) rfl (fun ls hl => ?_)
                            refine lv_goto (tgt := 59) hx hb dX9_look_184 (by decide) ?_
                            exact ih_224 (j + 1) y_231 z3 _ _ _ (by omega) (by omega) (by rw [ey_231, ex_j]; exact nI_1 j) (by omega) (sm_nx eti (by omega)) (hP.sub (ws' := [(m2, .inl (cI, 4, .inl gh)), (m3, .inl (cI, 16384, .inl gd)), (h0, .inr (9, [.ref m1, .ref m2, .ref m3, .int ik, .int wy, .int op, .int cl, .int cx0, .int cx1, .int cy0, .int cy1, .int ds, .ref m4, .ref m5, .ref m6, .ref m7, .ref m8, .ref m9, .int pn, .ref m10, .ref m11, .ref m12, .ref m13])), (m1, .inl (cI, 4, .inl gw))]) [0, 1, 2, 3] rfl) (hD.sub (ws' := [(m2, .inl (cI, 4, .inl gh)), (m3, .inl (cI, 16384, .inl gd)), (h0, .inr (9, [.ref m1, .ref m2, .ref m3, .int ik, .int wy, .int op, .int cl, .int cx0, .int cx1, .int cy0, .int cy1, .int ds, .ref m4, .ref m5, .ref m6, .ref m7, .ref m8, .ref m9, .int pn, .ref m10, .ref m11, .ref m12, .ref m13])), (m1, .inl (cI, 4, .inl gw))]) [0, 1, 2, 3] (by decide) rfl) hS (lv_sub hl [0, 2, 3, 4, 5] rfl)
                          · skip
                            have f_230 : ¬ ((gw k.toNatClampNeg).toInt ≤ (i : Int)) := fn_le rfl hx_i c_229
                            refine lv_aload_n hx hb dX9_look_84 rfl (lv_at hl 3 rfl) ?_
                            refine va_get (D := D) (ci := 9) (v := .ref m3) (C := RX9) (T := TX9) (N := 23) hx hb hts hi_X9 hown hK hP 2 rfl rfl 2 (by decide) (hts _ bw_398) (fun _ h9 => h9) rfl dX9_look_85 ?_
                            refine lv_iload_n hx hb dX9_look_88 rfl (lv_at hl 4 rfl) ?_
                            refine lv_iload hx hb dX9_look_89 (lv_at hl 0 rfl) ?_
                            refine lv_iload hx hb dX9_look_91 (lv_at hl 1 rfl) ?_
                            have hPc := hP.sub (ws' := []) [] rfl
                            have hDc := hD.sub (ws' := []) [] (by decide) rfl
                            have hKc := hK.sub (tys' := []) [] rfl
                            have hFc := va_free (wc := []) hD hS hA [] rfl
                            refine va_calli (va_runS (As := [.int k, .int x5, .int x4]) (rest := [.ref m3]) ⟨hx, hb, hml, hown, hts⟩ (k_X9_spot l D H.size k x5 x4) (va_cwS 3 hts (gS bw_551 bw_421 bw_391 bw_420) rfl rfl rfl (by decide +kernel) ⟨(by rw [hR]; exact Nat.le_of_ble_eq_true rfl), (by rw [hR]; exact Nat.le_of_ble_eq_true rfl)⟩) ⟨cP_blind, cP_at hPc hKc hDc hN⟩ rfl rfl hl.1 rfl (lv_room (Nat.le_of_ble_eq_true rfl)) dX9_look_93 ⟨(by rw [hR]; exact Nat.le_of_ble_eq_true rfl), (by rw [hR]; exact Nat.le_of_ble_eq_true rfl)⟩) hS (fun q _ h => hFc q h) hFc (fun r_232 u9 t9 H1 locs ht hvm hr_232 hB hz1 hk1 hS => ?_)
                            try dsimp only at hr_232
                            have hP1 : va_P D vwCl [] H1 := vP_nil
                            have hD1 : va_D (va_A [] H.size) [] := vD_nil
                            obtain ⟨hP, hD⟩ := va_join (wr := [(m2, .inl (cI, 4, .inl gh)), (m3, .inl (cI, 16384, .inl gd)), (h0, .inr (9, [.ref m1, .ref m2, .ref m3, .int ik, .int wy, .int op, .int cl, .int cx0, .int cx1, .int cy0, .int cy1, .int ds, .ref m4, .ref m5, .ref m6, .ref m7, .ref m8, .ref m9, .int pn, .ref m10, .ref m11, .ref m12, .ref m13])), (m1, .inl (cI, 4, .inl gw))]) (w1 := []) hP hD [] [0, 1, 2, 3] rfl rfl (by decide) (by decide) hk1 hFc hP1 hD1
                            clear hz1 hk1 hFc hKc hDc hPc
                            generalize H1 = H at hP hS ⊢
                            have hP : va_P D vwCl [(m2, .inl (cI, 4, .inl gh)), (m3, .inl (cI, 16384, .inl gd)), (h0, .inr (9, [.ref m1, .ref m2, .ref m3, .int ik, .int wy, .int op, .int cl, .int cx0, .int cx1, .int cy0, .int cy1, .int ds, .ref m4, .ref m5, .ref m6, .ref m7, .ref m8, .ref m9, .int pn, .ref m10, .ref m11, .ref m12, .ref m13])), (m1, .inl (cI, 4, .inl gw))] H := hP
                            have hD : va_D A [(m2, .inl (cI, 4, .inl gh)), (m3, .inl (cI, 16384, .inl gd)), (h0, .inr (9, [.ref m1, .ref m2, .ref m3, .int ik, .int wy, .int op, .int cl, .int cx0, .int cx1, .int cy0, .int cy1, .int ds, .ref m4, .ref m5, .ref m6, .ref m7, .ref m8, .ref m9, .int pn, .ref m10, .ref m11, .ref m12, .ref m13])), (m1, .inl (cI, 4, .inl gw))] := hD
                            refine va_iald hx hb hK hP 1 0 rfl rfl (by rw [hr_232]; exact sp_in (by omega) (by omega) (by omega) (by omega) (by omega) (by omega)) dX9_look_96 ?_
                            refine my_fold (v := gd (4096 * k.toNatClampNeg + ixP (nI i) (nI j))) (congrArg gd (by rw [hr_232, sp_cl (by omega) (by omega) (by omega) (by omega) (by omega) (by omega), ex_i, ex_j])) ?_
                            refine lv_istore (lv' := [(6, .int (gd (4096 * k.toNatClampNeg + ixP (nI i) (nI j)))), (5, .int x5), (4, .int x4), (3, .int z3), (0, .ref h0), (1, .int k), (2, .int 9)]) hx hb dX9_look_97 hl (by decide) rfl (fun ls hl => ?_)
                            refine lv_iload_n hx hb dX9_look_99 rfl (lv_at hl 6 rfl) ?_
                            refine lv_iconst (v := 5) hx hb dX9_look_100 (by decide) ?_
                            refine lv_icmp_le (tgt := 119) hx hb dX9_look_101 (by decide) (fun c_233 => ?_) (fun c_233 => ?_)
                            · skip
                              exact absurd c_233 (by decide)
                            · skip
                              refine lv_iload_n hx hb dX9_look_104 rfl (lv_at hl 3 rfl) ?_
                              refine lv_iload hx hb dX9_look_105 (lv_at hl 0 rfl) ?_
                              refine lv_iload_n hx hb dX9_look_107 rfl (lv_at hl 6 rfl) ?_
                              refine lv_bipush (v := 6) hx hb dX9_look_108 (by decide) ?_
                              refine lv_isub hx hb dX9_look_110 ?_
                              refine my_fold (v := 3) (by decide) ?_
                              have hPc := hP.sub (ws' := []) [] rfl
                              have hDc := hD.sub (ws' := []) [] (by decide) rfl
                              have hKc := hK.sub (tys' := []) [] rfl
                              have hFc := va_free (wc := []) hD hS hA [] rfl
                              refine va_calli (va_runS (As := [.int (gd (4096 * k.toNatClampNeg + ixP (nI i) (nI j))), .int 3]) (rest := [.int z3]) ⟨hx, hb, hml, hown, hts⟩ (k_X9_channel_3 l D H.size (gd (4096 * k.toNatClampNeg + ixP (nI i) (nI j)))) (va_cwS 2 hts (gS bw_441 bw_438 bw_391 bw_437) rfl rfl rfl (by decide +kernel) ⟨(by rw [hR]; exact Nat.le_of_ble_eq_true rfl), (by rw [hR]; exact Nat.le_of_ble_eq_true rfl)⟩) ⟨cP_blind, cP_at hPc hKc hDc hN⟩ rfl rfl hl.1 rfl (lv_room (Nat.le_of_ble_eq_true rfl)) dX9_look_111 ⟨(by rw [hR]; exact Nat.le_of_ble_eq_true rfl), (by rw [hR]; exact Nat.le_of_ble_eq_true rfl)⟩) hS (fun q _ h => hFc q h) hFc (fun r_235 u9 t9 H1 locs ht hvm hr_235 hB hz1 hk1 hS => ?_)
                              try dsimp only at hr_235
                              have hP1 : va_P D vwCl [] H1 := vP_nil
                              have hD1 : va_D (va_A [] H.size) [] := vD_nil
                              obtain ⟨hP, hD⟩ := va_join (wr := [(m2, .inl (cI, 4, .inl gh)), (m3, .inl (cI, 16384, .inl gd)), (h0, .inr (9, [.ref m1, .ref m2, .ref m3, .int ik, .int wy, .int op, .int cl, .int cx0, .int cx1, .int cy0, .int cy1, .int ds, .ref m4, .ref m5, .ref m6, .ref m7, .ref m8, .ref m9, .int pn, .ref m10, .ref m11, .ref m12, .ref m13])), (m1, .inl (cI, 4, .inl gw))]) (w1 := []) hP hD [] [0, 1, 2, 3] rfl rfl (by decide) (by decide) hk1 hFc hP1 hD1
                              clear hz1 hk1 hFc hKc hDc hPc
                              generalize H1 = H at hP hS ⊢
                              have hP : va_P D vwCl [(m2, .inl (cI, 4, .inl gh)), (m3, .inl (cI, 16384, .inl gd)), (h0, .inr (9, [.ref m1, .ref m2, .ref m3, .int ik, .int wy, .int op, .int cl, .int cx0, .int cx1, .int cy0, .int cy1, .int ds, .ref m4, .ref m5, .ref m6, .ref m7, .ref m8, .ref m9, .int pn, .ref m10, .ref m11, .ref m12, .ref m13])), (m1, .inl (cI, 4, .inl gw))] H := hP
                              have hD : va_D A [(m2, .inl (cI, 4, .inl gh)), (m3, .inl (cI, 16384, .inl gd)), (h0, .inr (9, [.ref m1, .ref m2, .ref m3, .int ik, .int wy, .int op, .int cl, .int cx0, .int cx1, .int cy0, .int cy1, .int ds, .ref m4, .ref m5, .ref m6, .ref m7, .ref m8, .ref m9, .int pn, .ref m10, .ref m11, .ref m12, .ref m13])), (m1, .inl (cI, 4, .inl gw))] := hD
                              refine lv_iadd hx hb dX9_look_114 ?_
                              refine lv_topi (fun y_236 ey_236 => ?_)
                              refine lv_istore_n (lv' := [(3, .int y_236), (6, .int (gd (4096 * k.toNatClampNeg + ixP (nI i) (nI j)))), (5, .int x5), (4, .int x4), (0, .ref h0), (1, .int k), (2, .int 9)]) hx hb dX9_look_115 rfl hl (by decide) rfl (fun ls hl => ?_)
                              refine lv_goto (tgt := 175) hx hb dX9_look_116 (by decide) ?_
                              obtain ⟨y_237, ey_237⟩ : ∃ y : Int32, y = x5 + 1 := ⟨_, rfl⟩
                              refine lv_iinc (v := y_237) (lv' := [(5, .int y_237), (3, .int y_236), (6, .int (gd (4096 * k.toNatClampNeg + ixP (nI i) (nI j)))), (4, .int x4), (0, .ref h0), (1, .int k), (2, .int 9)]) hx hb dX9_look_175 hl (k := 2) rfl (by rw [ey_237]; rfl) (by decide) rfl (fun ls hl => ?_)
                              refine lv_goto (tgt := 73) hx hb dX9_look_178 (by decide) ?_
                              exact ih_228 (i + 1) y_237 y_236 _ _ _ (by omega) (by omega) (by rw [ey_237, ex_i]; exact nI_1 i) (by omega) (by rw [show smR (chF (fun t => gd (4096 * k.toNatClampNeg + t)) 0) j (smL (chF (fun t => gd (4096 * k.toNatClampNeg + t)) 0) W9 0 j) (i + 1) = (chF (fun t => gd (4096 * k.toNatClampNeg + t)) 0) j i z3 from congrArg ((chF (fun t => gd (4096 * k.toNatClampNeg + t)) 0) j i) eti.symm, ey_236, hr_235]; rfl) (hP.sub (ws' := [(m2, .inl (cI, 4, .inl gh)), (m3, .inl (cI, 16384, .inl gd)), (h0, .inr (9, [.ref m1, .ref m2, .ref m3, .int ik, .int wy, .int op, .int cl, .int cx0, .int cx1, .int cy0, .int cy1, .int ds, .ref m4, .ref m5, .ref m6, .ref m7, .ref m8, .ref m9, .int pn, .ref m10, .ref m11, .ref m12, .ref m13])), (m1, .inl (cI, 4, .inl gw))]) [0, 1, 2, 3] rfl) (hD.sub (ws' := [(m2, .inl (cI, 4, .inl gh)), (m3, .inl (cI, 16384, .inl gd)), (h0, .inr (9, [.ref m1, .ref m2, .ref m3, .int ik, .int wy, .int op, .int cl, .int cx0, .int cx1, .int cy0, .int cy1, .int ds, .ref m4, .ref m5, .ref m6, .ref m7, .ref m8, .ref m9, .int pn, .ref m10, .ref m11, .ref m12, .ref m13])), (m1, .inl (cI, 4, .inl gw))]) [0, 1, 2, 3] (by decide) rfl) hS (lv_sub hl [0, 3, 1, 4, 5, 6] rfl)
                      exact loop_227 (64 + 1) 0 0 x3 _ _ _ (by omega) (by omega) nI_0.symm (by omega) eto hP hD hS (lv_sub hl [0, 1, 2, 3, 4, 5] rfl)
                exact loop_223 (64 + 1) 0 0 0 _ _ _ (by omega) (by omega) nI_0.symm (by omega) rfl hP hD hS (lv_sub hl [0, 1, 2, 3, 4] rfl)
              · skip
                exact absurd c_221 (by decide)
            · skip
              exact absurd c_219 (by decide)
          · skip
            exact absurd c_217 (by decide)
      · skip
        have f_7 : ¬ (wh.toInt ≤ 9) := fn_le rfl (by decide) c_6
        exact False.elim (by omega)

set_option maxHeartbeats 4000000 in
set_option maxRecDepth 100000 in
theorem k_X9_look_ne (l : Launch) (D : va_G) (sz : Nat) (h0 m1 m2 m3 m4 m5 m6 m7 m8 m9 m10 m11 m12 m13 : Nat) (ik wy op cl cx0 cx1 cy0 cy1 ds pn : Int32) (gw : Nat → Int32) (k wh : Int32) (cI : ClassId) (hns : ¬ ((0 ≤ k.toInt ∧ k.toInt ≤ 3 ∧ 0 < (gw k.toNatClampNeg).toInt) ∧ (0 ≤ wh.toInt ∧ wh.toInt ≤ 9))) : Met l yX9_look (wB yX9_look cX9_look 8 (some .int)) ({ frames := 1, cells := 0, slots := 0, locals := 21 }) (cP D [(h0, .inr (9, [.ref m1, .ref m2, .ref m3, .int ik, .int wy, .int op, .int cl, .int cx0, .int cx1, .int cy0, .int cy1, .int ds, .ref m4, .ref m5, .ref m6, .ref m7, .ref m8, .ref m9, .int pn, .ref m10, .ref m11, .ref m12, .ref m13])), (m1, .inl (cI, 4, .inl gw))] [(cI, .int)] sz [.ref h0, .int k, .int wh]) (va_Qi (fun (r : Int32) (_ : Unit) => r = -1) (fun (_ : Unit) (t : State) => cB D (va_A [(h0, .inr (9, [.ref m1, .ref m2, .ref m3, .int ik, .int wy, .int op, .int cl, .int cx0, .int cx1, .int cy0, .int cy1, .int ds, .ref m4, .ref m5, .ref m6, .ref m7, .ref m8, .ref m9, .int pn, .ref m10, .ref m11, .ref m12, .ref m13])), (m1, .inl (cI, 4, .inl gw))] sz) [(h0, .inr (9, [.ref m1, .ref m2, .ref m3, .int ik, .int wy, .int op, .int cl, .int cx0, .int cx1, .int cy0, .int cy1, .int ds, .ref m4, .ref m5, .ref m6, .ref m7, .ref m8, .ref m9, .int pn, .ref m10, .ref m11, .ref m12, .ref m13])), (m1, .inl (cI, 4, .inl gw))] [(cI, .int)] t) (va_A [(h0, .inr (9, [.ref m1, .ref m2, .ref m3, .int ik, .int wy, .int op, .int cl, .int cx0, .int cx1, .int cy0, .int cy1, .int ds, .ref m4, .ref m5, .ref m6, .ref m7, .ref m8, .ref m9, .int pn, .ref m10, .ref m11, .ref m12, .ref m13])), (m1, .inl (cI, 4, .inl gw))] sz)) 0 0 (va_A [(h0, .inr (9, [.ref m1, .ref m2, .ref m3, .int ik, .int wy, .int op, .int cl, .int cx0, .int cx1, .int cy0, .int cy1, .int ds, .ref m4, .ref m5, .ref m6, .ref m7, .ref m8, .ref m9, .int pn, .ref m10, .ref m11, .ref m12, .ref m13])), (m1, .inl (cI, 4, .inl gw))] sz) := by
  refine Met.ofW (cc := cX9_look) (maxL := 8) (ret := (some .int)) (by decide) rfl ?_
  intro p e s m args below meth c s₁ B hml hv
  obtain ⟨rfl, hsz, hP, hK, hD0, hN⟩ := hv
  have hx := B.exec
  have hb := B.bytes
  have hr := B.returns
  have hts0 := atoms_spec (ws := (wB yX9_look cX9_look 8 (some .int))) B.pre
  have hts : ∀ w ∈ bigW, w.before _ s = true := fun w h => hts0 w (List.mem_cons_of_mem _ h)
  have hown : s.vm.findClass RX9 = some m.cls := findClass_of_methodNamed B.named
  have hlocks := B.notSynchronized
  subst hsz
  have hD := hD0.self (sz := s.heap.size)
  generalize hAe : va_A [(h0, .inr (9, [.ref m1, .ref m2, .ref m3, .int ik, .int wy, .int op, .int cl, .int cx0, .int cx1, .int cy0, .int cy1, .int ds, .ref m4, .ref m5, .ref m6, .ref m7, .ref m8, .ref m9, .int pn, .ref m10, .ref m11, .ref m12, .ref m13])), (m1, .inl (cI, 4, .inl gw))] s.heap.size = A at hD ⊢
  have hA : ∀ q : Nat, s.heap.size ≤ q → A q := fun q h => by rw [← hAe]; exact Or.inr h
  have hS : va_S A s.heap s.heap [] := va_S.rf
  have hP : va_P D vwCl [(h0, .inr (9, [.ref m1, .ref m2, .ref m3, .int ik, .int wy, .int op, .int cl, .int cx0, .int cx1, .int cy0, .int cy1, .int ds, .ref m4, .ref m5, .ref m6, .ref m7, .ref m8, .ref m9, .int pn, .ref m10, .ref m11, .ref m12, .ref m13])), (m1, .inl (cI, 4, .inl gw))] s.heap := hP
  have hl := lv_entry ([.ref h0, .int k, .int wh]) (n := 8) (Nat.le_of_ble_eq_true rfl)
  rw [lg_entry_eq]
  generalize (lg_sl ([.ref h0, .int k, .int wh]) ++ List.replicate (8 - (lg_sl ([.ref h0, .int k, .int wh])).length) Slot.unset).toArray = ls at hl ⊢
  have hl : lv_has ls 8 [(0, .ref h0), (1, .int k), (2, .int wh)] := hl
  clear hts0 hD0 hAe
  refine my_abs (fun R Q hR hQ => ?_)
  refine lv_aload_n hx hb dX9_look_0 rfl (lv_at hl 0 rfl) ?_
  refine lv_iload_n hx hb dX9_look_1 rfl (lv_at hl 1 rfl) ?_
  have hPc := hP.sub (ws' := [(h0, .inr (9, [.ref m1, .ref m2, .ref m3, .int ik, .int wy, .int op, .int cl, .int cx0, .int cx1, .int cy0, .int cy1, .int ds, .ref m4, .ref m5, .ref m6, .ref m7, .ref m8, .ref m9, .int pn, .ref m10, .ref m11, .ref m12, .ref m13])), (m1, .inl (cI, 4, .inl gw))]) [0, 1] rfl
  have hDc := hD.sub (ws' := [(h0, .inr (9, [.ref m1, .ref m2, .ref m3, .int ik, .int wy, .int op, .int cl, .int cx0, .int cx1, .int cy0, .int cy1, .int ds, .ref m4, .ref m5, .ref m6, .ref m7, .ref m8, .ref m9, .int pn, .ref m10, .ref m11, .ref m12, .ref m13])), (m1, .inl (cI, 4, .inl gw))]) [0, 1] (by decide) rfl
  have hKc := hK.sub (tys' := [(cI, .int)]) [0] rfl
  have hFc := va_free (wc := [(h0, .inr (9, [.ref m1, .ref m2, .ref m3, .int ik, .int wy, .int op, .int cl, .int cx0, .int cx1, .int cy0, .int cy1, .int ds, .ref m4, .ref m5, .ref m6, .ref m7, .ref m8, .ref m9, .int pn, .ref m10, .ref m11, .ref m12, .ref m13])), (m1, .inl (cI, 4, .inl gw))]) hD hS hA [0, 1] rfl
  refine va_calli (va_runV (As := [.int k]) (rest := []) ⟨hx, hb, hml, hown, hts⟩ (k_X9_isSheet l D s.heap.size h0 m1 m2 m3 m4 m5 m6 m7 m8 m9 m10 m11 m12 m13 ik wy op cl cx0 cx1 cy0 cy1 ds pn gw k cI) (cwV 1 hts (gV bw_490 bw_415 bw_416 bw_391 bw_414) rfl rfl rfl (by decide +kernel) ⟨(by rw [hR]; exact Nat.le_of_ble_eq_true rfl), (by rw [hR]; exact Nat.le_of_ble_eq_true rfl)⟩) ⟨cP_blind, va_recv hKc hPc (ci := 9) (q0 := 0) rfl rfl, cP_at hPc hKc hDc hN⟩ rfl rfl hl.1 rfl (lv_room (Nat.le_of_ble_eq_true rfl)) dX9_look_2 ⟨(by rw [hR]; exact Nat.le_of_ble_eq_true rfl), (by rw [hR]; exact Nat.le_of_ble_eq_true rfl)⟩) hS (fun q _ h => hFc q h) hFc (fun r_1 u9 t9 H1 locs ht hvm hr_1 hB hz1 hk1 hS => ?_)
  try dsimp only at hr_1
  obtain ⟨hP1, hK1, hD1⟩ := hB
  rw [ht] at hP1
  obtain ⟨hP, hD⟩ := va_join (wr := []) (w1 := [(h0, .inr (9, [.ref m1, .ref m2, .ref m3, .int ik, .int wy, .int op, .int cl, .int cx0, .int cx1, .int cy0, .int cy1, .int ds, .ref m4, .ref m5, .ref m6, .ref m7, .ref m8, .ref m9, .int pn, .ref m10, .ref m11, .ref m12, .ref m13])), (m1, .inl (cI, 4, .inl gw))]) hP hD [0, 1] [] rfl rfl (by decide) (by decide) hk1 hFc hP1 hD1
  clear hz1 hk1 hFc hKc hDc hPc
  generalize H1 = H at hP hS ⊢
  have hP : va_P D vwCl [(h0, .inr (9, [.ref m1, .ref m2, .ref m3, .int ik, .int wy, .int op, .int cl, .int cx0, .int cx1, .int cy0, .int cy1, .int ds, .ref m4, .ref m5, .ref m6, .ref m7, .ref m8, .ref m9, .int pn, .ref m10, .ref m11, .ref m12, .ref m13])), (m1, .inl (cI, 4, .inl gw))] H := hP
  have hD : va_D A [(h0, .inr (9, [.ref m1, .ref m2, .ref m3, .int ik, .int wy, .int op, .int cl, .int cx0, .int cx1, .int cy0, .int cy1, .int ds, .ref m4, .ref m5, .ref m6, .ref m7, .ref m8, .ref m9, .int pn, .ref m10, .ref m11, .ref m12, .ref m13])), (m1, .inl (cI, 4, .inl gw))] := hD
  refine lv_if_eq (tgt := 18) hx hb dX9_look_5 (by decide) (fun c_2 => ?_) (fun c_2 => ?_)
  · skip
    have f_3 := bz0 hr_1 c_2
    refine lv_iconst (v := (-1)) hx hb dX9_look_18 (by decide) ?_
    have hP9 := hP.sub (ws' := [(h0, .inr (9, [.ref m1, .ref m2, .ref m3, .int ik, .int wy, .int op, .int cl, .int cx0, .int cx1, .int cy0, .int cy1, .int ds, .ref m4, .ref m5, .ref m6, .ref m7, .ref m8, .ref m9, .int pn, .ref m10, .ref m11, .ref m12, .ref m13])), (m1, .inl (cI, 4, .inl gw))]) [0, 1] rfl
    have hD9 := hD.sub (ws' := [(h0, .inr (9, [.ref m1, .ref m2, .ref m3, .int ik, .int wy, .int op, .int cl, .int cx0, .int cx1, .int cy0, .int cy1, .int ds, .ref m4, .ref m5, .ref m6, .ref m7, .ref m8, .ref m9, .int pn, .ref m10, .ref m11, .ref m12, .ref m13])), (m1, .inl (cI, 4, .inl gw))]) [0, 1] (by decide) rfl
    have hK9 := hK.sub (tys' := [(cI, .int)]) [0] rfl
    refine hQ _ _ _ _ _ ?_
    exact W.iret (v := (-1)) hx hb hr (fun t ht hW => ⟨⟨(-1), (), rfl, rfl, ⟨by rw [ht]; exact hP9, va_K.moved hW.alike hK9, hD9⟩⟩, hS.F ht⟩) hS.2.2 dX9_look_19
  · skip
    have f_3 := bz1 hr_1 c_2
    refine lv_iload_n hx hb dX9_look_8 rfl (lv_at hl 2 rfl) ?_
    refine lv_if_lt (tgt := 18) hx hb dX9_look_9 (by decide) (fun c_4 => ?_) (fun c_4 => ?_)
    · skip
      have f_5 : wh.toInt < 0 := f_lt rfl (by decide) c_4
      refine lv_iconst (v := (-1)) hx hb dX9_look_18 (by decide) ?_
      have hP9 := hP.sub (ws' := [(h0, .inr (9, [.ref m1, .ref m2, .ref m3, .int ik, .int wy, .int op, .int cl, .int cx0, .int cx1, .int cy0, .int cy1, .int ds, .ref m4, .ref m5, .ref m6, .ref m7, .ref m8, .ref m9, .int pn, .ref m10, .ref m11, .ref m12, .ref m13])), (m1, .inl (cI, 4, .inl gw))]) [0, 1] rfl
      have hD9 := hD.sub (ws' := [(h0, .inr (9, [.ref m1, .ref m2, .ref m3, .int ik, .int wy, .int op, .int cl, .int cx0, .int cx1, .int cy0, .int cy1, .int ds, .ref m4, .ref m5, .ref m6, .ref m7, .ref m8, .ref m9, .int pn, .ref m10, .ref m11, .ref m12, .ref m13])), (m1, .inl (cI, 4, .inl gw))]) [0, 1] (by decide) rfl
      have hK9 := hK.sub (tys' := [(cI, .int)]) [0] rfl
      refine hQ _ _ _ _ _ ?_
      exact W.iret (v := (-1)) hx hb hr (fun t ht hW => ⟨⟨(-1), (), rfl, rfl, ⟨by rw [ht]; exact hP9, va_K.moved hW.alike hK9, hD9⟩⟩, hS.F ht⟩) hS.2.2 dX9_look_19
    · skip
      have f_5 : ¬ (wh.toInt < 0) := fn_lt rfl (by decide) c_4
      refine lv_iload_n hx hb dX9_look_12 rfl (lv_at hl 2 rfl) ?_
      refine lv_bipush (v := 9) hx hb dX9_look_13 (by decide) ?_
      refine lv_icmp_le (tgt := 20) hx hb dX9_look_15 (by decide) (fun c_6 => ?_) (fun c_6 => ?_)
      · skip
        have f_7 : wh.toInt ≤ 9 := f_le rfl (by decide) c_6
        exact False.elim (by omega)
      · skip
        have f_7 : ¬ (wh.toInt ≤ 9) := fn_le rfl (by decide) c_6
        refine lv_iconst (v := (-1)) hx hb dX9_look_18 (by decide) ?_
        have hP9 := hP.sub (ws' := [(h0, .inr (9, [.ref m1, .ref m2, .ref m3, .int ik, .int wy, .int op, .int cl, .int cx0, .int cx1, .int cy0, .int cy1, .int ds, .ref m4, .ref m5, .ref m6, .ref m7, .ref m8, .ref m9, .int pn, .ref m10, .ref m11, .ref m12, .ref m13])), (m1, .inl (cI, 4, .inl gw))]) [0, 1] rfl
        have hD9 := hD.sub (ws' := [(h0, .inr (9, [.ref m1, .ref m2, .ref m3, .int ik, .int wy, .int op, .int cl, .int cx0, .int cx1, .int cy0, .int cy1, .int ds, .ref m4, .ref m5, .ref m6, .ref m7, .ref m8, .ref m9, .int pn, .ref m10, .ref m11, .ref m12, .ref m13])), (m1, .inl (cI, 4, .inl gw))]) [0, 1] (by decide) rfl
        have hK9 := hK.sub (tys' := [(cI, .int)]) [0] rfl
        refine hQ _ _ _ _ _ ?_
        exact W.iret (v := (-1)) hx hb hr (fun t ht hW => ⟨⟨(-1), (), rfl, rfl, ⟨by rw [ht]; exact hP9, va_K.moved hW.alike hK9, hD9⟩⟩, hS.F ht⟩) hS.2.2 dX9_look_19
