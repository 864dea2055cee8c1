/-! the class's world: what always stands, SHEETS that are there or not, what floods and likenesses need -/
abbrev Sh : Type := Nat × Nat × Int32 × Int32 × (Nat → Int32)
abbrev Sp : Type := Nat × Nat × Nat × Int32 × (Nat → Int32) × (Nat → Int32)
def cFix (cI cO : ClassId) (ad : Nat → Nat) (n : Nat → Int32) (g : Nat → Nat → Int32) (f : Nat → Option Nat) (sp bt : Option Nat) : va_W :=
  [(ad 0, .inr (8, [.ref (ad 1), .ref (ad 2), .ref (ad 3), .ref (ad 4), .ref (ad 5), .ref (ad 6), .int (n 0), va_rf sp, va_rf bt])),
   (ad 1, .inl (cO, 4, .inr (.inr (.inr (.inr f))))),
   (ad 2, .inr (1, [.ref (ad 7), .int (n 1), .int (n 2), .int (n 3)])),
   (ad 7, .inr (0, [.int (n 4), .int (n 5), .int (n 6), .int (n 7)])),
   (ad 3, .inr (0, [.int (n 8), .int (n 9), .int (n 10), .int (n 11)])),
   (ad 4, .inr (3, [.ref (ad 8), .ref (ad 9), .ref (ad 10), .ref (ad 11), .int (n 12), .int (n 13), .int (n 14)])),
   (ad 8, .inl (cI, 48, .inl (g 0))),
   (ad 9, .inl (cI, 48, .inl (g 1))),
   (ad 10, .inl (cI, 48, .inl (g 2))),
   (ad 11, .inl (cI, 48, .inl (g 3))),
   (ad 5, .inr (7, [.ref (ad 12), .ref (ad 13), .ref (ad 14), .ref (ad 15)])),
   (ad 12, .inl (cI, 3, .inl (g 4))),
   (ad 13, .inl (cI, 3, .inl (g 5))),
   (ad 14, .inl (cI, 3, .inl (g 6))),
   (ad 15, .inr (3, [.ref (ad 16), .ref (ad 17), .ref (ad 18), .ref (ad 19), .int (n 15), .int (n 16), .int (n 17)])),
   (ad 16, .inl (cI, 48, .inl (g 7))),
   (ad 17, .inl (cI, 48, .inl (g 8))),
   (ad 18, .inl (cI, 48, .inl (g 9))),
   (ad 19, .inl (cI, 48, .inl (g 10))),
   (ad 6, .inr (4, [.ref (ad 20), .ref (ad 21)])),
   (ad 20, .inl (cI, 256, .inl (g 11))),
   (ad 21, .inl (cI, 64, .inl (g 12)))]
def shC (cI : ClassId) : Option Sh → va_W
  | none => []
  | some s => [(s.1, .inr (5, [.ref s.2.1, .int s.2.2.1, .int s.2.2.2.1])), (s.2.1, .inl (cI, 4096, .inl s.2.2.2.2))]
def spC (cI : ClassId) : Option Sp → va_W
  | none => []
  | some s => [(s.1, .inr (6, [.ref s.2.1, .ref s.2.2.1, .int s.2.2.2.1])), (s.2.1, .inl (cI, 4096, .inl s.2.2.2.2.1)), (s.2.2.1, .inl (cI, 4096, .inl s.2.2.2.2.2))]
def cTail (cI : ClassId) (sh : Nat → Option Sh) (sv : Option Sp) (bv : Option Sh) : va_W := shC cI (sh 0) ++ (shC cI (sh 1) ++ (shC cI (sh 2) ++ (shC cI (sh 3) ++ (spC cI sv ++ shC cI bv))))
def cWld (cI cO : ClassId) (ad : Nat → Nat) (n : Nat → Int32) (g : Nat → Nat → Int32) (f : Nat → Option Nat) (sh : Nat → Option Sh) (sv : Option Sp) (bv : Option Sh) : va_W := cFix cI cO ad n g f (sv.map (fun s => s.1)) (bv.map (fun s => s.1)) ++ cTail cI sh sv bv
theorem mvP {s x y z : va_W} (h : y.Perm (s ++ z)) : (x ++ y).Perm (s ++ (x ++ z)) := by
  refine (h.append_left x).trans ?_
  rw [← List.append_assoc, ← List.append_assoc]
  exact List.perm_append_comm.append_right z
section
variable {cI : ClassId} {sh : Nat → Option Sh} {sv : Option Sp} {bv : Option Sh} {k : Nat} {s s' : Sh}
theorem T_sh0 (hk : k < 4) : (cTail cI sh sv bv).Perm (shC cI (sh k) ++ cTail cI (va_up sh k none) sv bv) := by
  rcases (show k = 0 ∨ k = 1 ∨ k = 2 ∨ k = 3 by omega) with rfl | rfl | rfl | rfl
  · exact List.Perm.refl _
  · exact mvP (List.Perm.refl _)
  · exact mvP (mvP (List.Perm.refl _))
  · exact mvP (mvP (mvP (List.Perm.refl _)))
theorem T_sh (hk : k < 4) (hs : sh k = some s) : (cTail cI sh sv bv).Perm (shC cI (some s) ++ cTail cI (va_up sh k none) sv bv) := by
  rw [← hs]
  exact T_sh0 hk
theorem up_up {α : Type} (f : Nat → α) (k : Nat) (a b : α) : va_up (va_up f k a) k b = va_up f k b := by
  funext j
  by_cases q : j = k
  · rw [q, va_up_self, va_up_self]
  · rw [va_up_ne _ _ q, va_up_ne _ _ q, va_up_ne _ _ q]
theorem up_id {α : Type} {f : Nat → α} {k : Nat} {a : α} (h : f k = a) : va_up f k a = f := by
  funext j
  by_cases q : j = k
  · rw [q, va_up_self, h]
  · rw [va_up_ne _ _ q]
theorem T_new (hk : k < 4) : (shC cI (some s') ++ cTail cI (va_up sh k none) sv bv).Perm (cTail cI (va_up sh k (some s')) sv bv) := by
  have h := T_sh (cI := cI) (sh := va_up sh k (some s')) (sv := sv) (bv := bv) (k := k) (s := s') hk (va_up_self _ _ _)
  rw [up_up] at h
  exact h.symm
theorem T_mk (hk : k < 4) (hs : sh k = none) : (shC cI (some s') ++ cTail cI sh sv bv).Perm (cTail cI (va_up sh k (some s')) sv bv) := by
  have h := T_new (cI := cI) (sh := sh) (sv := sv) (bv := bv) (k := k) (s' := s') hk
  rw [up_id hs] at h
  exact h
theorem T_sp : (cTail cI sh sv bv).Perm (spC cI sv ++ cTail cI sh none bv) := mvP (mvP (mvP (mvP (List.Perm.refl _))))
theorem T_bt : (cTail cI sh sv bv).Perm (shC cI bv ++ cTail cI sh sv none) := mvP (mvP (mvP (mvP (by
  show (spC cI sv ++ shC cI bv).Perm (shC cI bv ++ (spC cI sv ++ []))
  rw [List.append_nil]
  exact List.perm_append_comm))))
end
def okC (n : Nat → Int32) (f : Nat → Option Nat) (sh : Nat → Option Sh) : Prop := (0 ≤ (n 2).toInt ∧ (n 2).toInt ≤ 12) ∧ (0 ≤ (n 12).toInt ∧ (n 12).toInt ≤ 48) ∧ (∀ k, k < 4 → f k = (sh k).map (fun s => s.1)) ∧ (∀ k s, k < 4 → sh k = some s → (1 ≤ s.2.2.1.toInt ∧ s.2.2.1.toInt ≤ 64) ∧ (1 ≤ s.2.2.2.1.toInt ∧ s.2.2.2.1.toInt ≤ 64))
theorem ok_sh {n : Nat → Int32} {f : Nat → Option Nat} {sh : Nat → Option Sh} {k : Nat} {s s' : Sh} (h : okC n f sh) (hs : sh k = some s) (h1 : s'.1 = s.1) (h2 : 1 ≤ s'.2.2.1.toInt ∧ s'.2.2.1.toInt ≤ 64) (h3 : 1 ≤ s'.2.2.2.1.toInt ∧ s'.2.2.2.1.toInt ≤ 64) : okC n f (va_up sh k (some s')) := by
  refine ⟨h.1, h.2.1, fun j hj => ?_, fun j t hj ht => ?_⟩
  · by_cases q : j = k
    · rw [q, va_up_self, ← q, h.2.2.1 j hj, q, hs]
      show some s.1 = some s'.1
      rw [h1]
    · rw [va_up_ne _ _ q]
      exact h.2.2.1 j hj
  · by_cases q : j = k
    · rw [q, va_up_self] at ht
      cases ht
      exact ⟨h2, h3⟩
    · rw [va_up_ne _ _ q] at ht
      exact h.2.2.2 j t hj ht
theorem ok_mk {n : Nat → Int32} {f : Nat → Option Nat} {sh : Nat → Option Sh} {k : Nat} {s' : Sh} (h : okC n f sh) (h2 : 1 ≤ s'.2.2.1.toInt ∧ s'.2.2.1.toInt ≤ 64) (h3 : 1 ≤ s'.2.2.2.1.toInt ∧ s'.2.2.2.1.toInt ≤ 64) : okC n (va_up f k (some s'.1)) (va_up sh k (some s')) := by
  refine ⟨h.1, h.2.1, fun j hj => ?_, fun j t hj ht => ?_⟩
  · by_cases q : j = k
    · rw [q, va_up_self, va_up_self]
      rfl
    · rw [va_up_ne _ _ q, va_up_ne _ _ q]
      exact h.2.2.1 j hj
  · by_cases q : j = k
    · rw [q, va_up_self] at ht
      cases ht
      exact ⟨h2, h3⟩
    · rw [va_up_ne _ _ q] at ht
      exact h.2.2.2 j t hj ht
theorem ok_f {n : Nat → Int32} {f : Nat → Option Nat} {sh : Nat → Option Sh} {k : Nat} {s : Sh} (h : okC n f sh) (hk : k < 4) (hs : sh k = some s) : f k = some s.1 := by
  rw [h.2.2.1 k hk, hs]
  rfl
theorem ok_n {n : Nat → Int32} {f : Nat → Option Nat} {sh : Nat → Option Sh} {k : Nat} (h : okC n f sh) (hk : k < 4) (hs : sh k = none) : f k = none := by
  rw [h.2.2.1 k hk, hs]
  rfl
def RlC (cI cO : ClassId) (ad : Nat → Nat) (rel : (Nat → Int32) → (Nat → Nat → Int32) → (Nat → Option Sh) → Prop) : va_W → Prop := fun w' => ∃ (n' : Nat → Int32) (g' : Nat → Nat → Int32) (f' : Nat → Option Nat) (sh' : Nat → Option Sh) (sv' : Option Sp) (bv' : Option Sh), okC n' f' sh' ∧ rel n' g' sh' ∧ w' = cWld cI cO ad n' g' f' sh' sv' bv'
/-! the reference's world -/
def mWld (cI cZ : ClassId) (am : Nat → Nat) (nm : Nat → Int32) (gm : Nat → Nat → Int32) : va_W :=
  [(am 0, .inr (9, [.ref (am 1), .ref (am 2), .ref (am 3), .int (nm 0), .int (nm 1), .int (nm 2), .int (nm 3), .int (nm 4), .int (nm 5), .int (nm 6), .int (nm 7), .int (nm 8), .ref (am 4), .ref (am 5), .ref (am 6), .ref (am 7), .ref (am 8), .ref (am 9), .int (nm 9), .ref (am 10), .ref (am 11), .ref (am 12), .ref (am 13)])),
   (am 1, .inl (cI, 4, .inl (gm 1))),
   (am 2, .inl (cI, 4, .inl (gm 2))),
   (am 3, .inl (cI, 16384, .inl (gm 3))),
   (am 4, .inl (cZ, 4096, .inl (gm 4))),
   (am 5, .inl (cI, 4096, .inl (gm 5))),
   (am 6, .inl (cI, 4096, .inl (gm 6))),
   (am 7, .inl (cI, 48, .inl (gm 7))),
   (am 8, .inl (cI, 48, .inl (gm 8))),
   (am 9, .inl (cZ, 48, .inl (gm 9))),
   (am 10, .inl (cI, 3, .inl (gm 10))),
   (am 11, .inl (cI, 3, .inl (gm 11))),
   (am 12, .inl (cI, 3, .inl (gm 12))),
   (am 13, .inl (cI, 4096, .inl (gm 13)))]
def okM (nm : Nat → Int32) (gm : Nat → Nat → Int32) : Prop := (0 ≤ (nm 1).toInt ∧ (nm 1).toInt ≤ 12) ∧ (0 ≤ (nm 9).toInt ∧ (nm 9).toInt ≤ 48) ∧ (∀ j : Nat, j < 4 → (0 ≤ (gm 1 j).toInt ∧ (gm 1 j).toInt ≤ 64) ∧ (0 ≤ (gm 2 j).toInt ∧ (gm 2 j).toInt ≤ 64)) ∧ (∀ j : Nat, j < 48 → (-8192 ≤ (gm 7 j).toInt ∧ (gm 7 j).toInt ≤ 8192) ∧ (-8192 ≤ (gm 8 j).toInt ∧ (gm 8 j).toInt ≤ 8192)) ∧ (∀ j : Nat, j < 3 → (-200 ≤ (gm 10 j).toInt ∧ (gm 10 j).toInt ≤ 200) ∧ (-200 ≤ (gm 11 j).toInt ∧ (gm 11 j).toInt ≤ 200))
def RlM (cI cZ : ClassId) (am : Nat → Nat) (rel : (Nat → Int32) → (Nat → Nat → Int32) → Prop) : va_W → Prop := fun w' => ∃ (nm' : Nat → Int32) (gm' : Nat → Nat → Int32), okM nm' gm' ∧ rel nm' gm' ∧ w' = mWld cI cZ am nm' gm'
theorem up_le {g : Nat → Int32} {k : Nat} {v : Int32} {P : Int32 → Prop} {N : Nat} (h : ∀ j : Nat, j < N → P (g j)) (hv : P v) : ∀ j : Nat, j < N → P (upd g k v j) := fun j hj => by
  by_cases q : j = k
  · rw [q, pk_us]; exact hv
  · rw [pk_un q]; exact h j hj
theorem two_ti {x : Int32} (h : -4096 ≤ x.toInt ∧ x.toInt ≤ 4096) : (2 * x).toInt = 2 * x.toInt := by
  rw [Int32.toInt_mul, show (2 : Int32).toInt = 2 by decide]
  exact Int.bmod_eq_of_le (by omega) (by omega)
theorem okM_sheet {nm : Nat → Int32} {gm : Nat → Nat → Int32} {k : Nat} {w h : Int32} {gd : Nat → Int32} (ho : okM nm gm) (hw : 1 ≤ w.toInt ∧ w.toInt ≤ 64) (hh : 1 ≤ h.toInt ∧ h.toInt ≤ 64) : okM nm (va_up (va_up (va_up gm 1 (upd (gm 1) k w)) 2 (upd (gm 2) k h)) 3 gd) := by
  refine ⟨ho.1, ho.2.1, fun j hj => ⟨?_, ?_⟩, ho.2.2.2⟩
  · exact up_le (g := gm 1) (P := fun v => 0 ≤ v.toInt ∧ v.toInt ≤ 64) (N := 4) (fun j hj => (ho.2.2.1 j hj).1) (by omega) j hj
  · exact up_le (g := gm 2) (P := fun v => 0 ≤ v.toInt ∧ v.toInt ≤ 64) (N := 4) (fun j hj => (ho.2.2.1 j hj).2) (by omega) j hj
theorem okM_point {nm : Nat → Int32} {gm : Nat → Nat → Int32} {k : Nat} {x y : Int32} {pf : Nat → Int32} {v : Int32} (ho : okM nm gm) (hv : 0 ≤ v.toInt ∧ v.toInt ≤ 48) (hx : -4096 ≤ x.toInt ∧ x.toInt ≤ 4096) (hy : -4096 ≤ y.toInt ∧ y.toInt ≤ 4096) : okM (va_up nm 9 v) (va_up (va_up (va_up gm 7 (upd (gm 7) k (2 * x))) 8 (upd (gm 8) k (2 * y))) 9 pf) := by
  have hx2 := two_ti hx
  have hy2 := two_ti hy
  refine ⟨ho.1, hv, ho.2.2.1, fun j hj => ⟨?_, ?_⟩, ho.2.2.2.2⟩
  · exact up_le (g := gm 7) (P := fun v => -8192 ≤ v.toInt ∧ v.toInt ≤ 8192) (N := 48) (fun j hj => (ho.2.2.2.1 j hj).1) (by omega) j hj
  · exact up_le (g := gm 8) (P := fun v => -8192 ≤ v.toInt ∧ v.toInt ≤ 8192) (N := 48) (fun j hj => (ho.2.2.2.1 j hj).2) (by omega) j hj
theorem okM_corner {nm : Nat → Int32} {gm : Nat → Nat → Int32} {i : Nat} {x y : Int32} {c : Nat → Int32} (ho : okM nm gm) (hx : -200 ≤ x.toInt ∧ x.toInt ≤ 200) (hy : -200 ≤ y.toInt ∧ y.toInt ≤ 200) : okM nm (va_up (va_up (va_up gm 10 (upd (gm 10) i x)) 11 (upd (gm 11) i y)) 12 c) := by
  refine ⟨ho.1, ho.2.1, ho.2.2.1, ho.2.2.2.1, fun j hj => ⟨?_, ?_⟩⟩
  · exact up_le (g := gm 10) (P := fun v => -200 ≤ v.toInt ∧ v.toInt ≤ 200) (N := 3) (fun j hj => (ho.2.2.2.2 j hj).1) hx j hj
  · exact up_le (g := gm 11) (P := fun v => -200 ≤ v.toInt ∧ v.toInt ≤ 200) (N := 3) (fun j hj => (ho.2.2.2.2 j hj).2) hy j hj
theorem way_ok {P : Prop} [Decidable P] {a b : Int32} (h : P → 0 ≤ a.toInt ∧ a.toInt ≤ 12) (hb : 0 ≤ b.toInt ∧ b.toInt ≤ 12) : 0 ≤ (if P then a else b).toInt ∧ (if P then a else b).toInt ≤ 12 := by
  split
  · rename_i q; exact h q
  · exact hb
/-! what the two sides have in common -/
abbrev Zv : Type := Int32 × Int32 × (Nat → Int32)
def vO (o : Option Sh) : Option Zv := o.map (fun s => (s.2.2.1, s.2.2.2.1, s.2.2.2.2))
def eqZ : Option Zv → Option Zv → Prop
  | none, none => True
  | some p, some q => p.1 = q.1 ∧ p.2.1 = q.2.1 ∧ ∀ j : Nat, j < 4096 → p.2.2 j = q.2.2 j
  | none, some _ => False
  | some _, none => False
theorem eqZ_refl : ∀ a : Option Zv, eqZ a a
  | none => trivial
  | some _ => ⟨rfl, rfl, fun _ _ => rfl⟩
theorem eqZ_of {a b : Option Zv} (h : a = b) : eqZ a b := h ▸ eqZ_refl a
def KC (v : Nat → Int32) (gv : Nat → Nat → Int32) (zv : Nat → Option Zv) (n' : Nat → Int32) (g' : Nat → Nat → Int32) (sh' : Nat → Option Sh) : Prop := (n' 0 = v 0 ∧ n' 1 = v 1 ∧ n' 2 = v 2 ∧ n' 3 = v 3 ∧ n' 4 = v 4 ∧ n' 5 = v 5 ∧ n' 6 = v 6 ∧ n' 7 = v 7 ∧ n' 8 = v 8 ∧ n' 9 = v 9 ∧ n' 10 = v 10 ∧ n' 11 = v 11 ∧ n' 12 = v 12 ∧ n' 13 = v 13 ∧ n' 14 = v 14) ∧ (g' 0 = gv 0 ∧ g' 1 = gv 1 ∧ g' 2 = gv 2 ∧ g' 3 = gv 3 ∧ g' 4 = gv 4 ∧ g' 5 = gv 5 ∧ g' 6 = gv 6) ∧ ∀ k : Nat, k < 4 → eqZ (vO (sh' k)) (zv k)
def MC (v : Nat → Int32) (gv : Nat → Nat → Int32) (nm' : Nat → Int32) (gm' : Nat → Nat → Int32) : Prop := (nm' 0 = v 0 ∧ nm' 1 = v 1 ∧ nm' 2 = v 2 ∧ nm' 3 = v 3 ∧ nm' 4 = v 4 ∧ nm' 5 = v 5 ∧ nm' 6 = v 6 ∧ nm' 7 = v 7 ∧ nm' 8 = v 8 ∧ nm' 9 = v 9) ∧ (gm' 1 = gv 1 ∧ gm' 2 = gv 2 ∧ gm' 3 = gv 3 ∧ gm' 7 = gv 7 ∧ gm' 8 = gv 8 ∧ gm' 9 = gv 9 ∧ gm' 10 = gv 10 ∧ gm' 11 = gv 11 ∧ gm' 12 = gv 12)
/-- by the SHEET k, if it is there -/
def dsC {α : Type} (zv : Nat → Option Zv) (k : Int32) (bad : α) (F : Zv → α) : α := if 0 ≤ k.toInt ∧ k.toInt ≤ 3 then (match zv k.toNatClampNeg with | none => bad | some p => F p) else bad
def dsG (zv : Nat → Option Zv) (k : Int32) (F : Zv → Nat → Int32) : Nat → Option Zv := dsC zv k zv (fun p => va_up zv k.toNatClampNeg (some (p.1, p.2.1, F p)))
section
variable {α : Type} {zv : Nat → Option Zv} {k : Int32} {bad : α} {F : Zv → α} {p : Zv}
theorem dsC_y (hk : 0 ≤ k.toInt ∧ k.toInt ≤ 3) (h : zv k.toNatClampNeg = some p) : dsC zv k bad F = F p := by
  unfold dsC
  rw [if_pos hk, h]
theorem dsC_n (hk : 0 ≤ k.toInt ∧ k.toInt ≤ 3) (h : zv k.toNatClampNeg = none) : dsC zv k bad F = bad := by
  unfold dsC
  rw [if_pos hk, h]
theorem dsC_k (hk : ¬ (0 ≤ k.toInt ∧ k.toInt ≤ 3)) : dsC zv k bad F = bad := if_neg hk
end
theorem vO_up {sh : Nat → Option Sh} {k : Nat} {s' : Sh} (j : Nat) : vO (va_up sh k (some s') j) = va_up (fun k => vO (sh k)) k (some (s'.2.2.1, s'.2.2.2.1, s'.2.2.2.2)) j := by
  by_cases q : j = k
  · rw [q, va_up_self, va_up_self]
    rfl
  · rw [va_up_ne _ _ q, va_up_ne _ _ q]
theorem szG_y {sh : Nat → Option Sh} {k : Int32} {t0 d0 : Nat} {w h : Int32} {g0 : Nat → Int32} {F : Zv → Nat → Int32} (hk : 0 ≤ k.toInt ∧ k.toInt ≤ 3) (hs : sh k.toNatClampNeg = some (t0, d0, w, h, g0)) : ∀ j : Nat, j < 4 → eqZ (vO (va_up sh k.toNatClampNeg (some (t0, d0, w, h, F (w, h, g0))) j)) (dsG (fun k => vO (sh k)) k F j) := fun j _ => by
  have e : dsG (fun k => vO (sh k)) k F = va_up (fun k => vO (sh k)) k.toNatClampNeg (some (w, h, F (w, h, g0))) := dsC_y (zv := fun k => vO (sh k)) hk (p := (w, h, g0)) (by show vO (sh k.toNatClampNeg) = _; rw [hs]; rfl)
  rw [e]
  exact eqZ_of (vO_up j)
theorem szG_n {sh : Nat → Option Sh} {k : Int32} {F : Zv → Nat → Int32} (hs : 0 ≤ k.toInt ∧ k.toInt ≤ 3 → sh k.toNatClampNeg = none) : ∀ j : Nat, j < 4 → eqZ (vO (sh j)) (dsG (fun k => vO (sh k)) k F j) := fun j _ => by
  have e : dsG (fun k => vO (sh k)) k F = fun k => vO (sh k) := by
    by_cases hk : 0 ≤ k.toInt ∧ k.toInt ≤ 3
    · exact dsC_n (zv := fun k => vO (sh k)) hk (by show vO (sh k.toNatClampNeg) = _; rw [hs hk]; rfl)
    · exact dsC_k hk
  rw [e]
  exact eqZ_refl _
theorem szG_s {sh : Nat → Option Sh} {k : Int32} {s : Sh} {F : Zv → Nat → Int32} (hk : 0 ≤ k.toInt ∧ k.toInt ≤ 3) (hs : sh k.toNatClampNeg = some s) (hF : F (s.2.2.1, s.2.2.2.1, s.2.2.2.2) = s.2.2.2.2) : ∀ j : Nat, j < 4 → eqZ (vO (sh j)) (dsG (fun k => vO (sh k)) k F j) := fun j _ => by
  have e : dsG (fun k => vO (sh k)) k F = va_up (fun k => vO (sh k)) k.toNatClampNeg (some (s.2.2.1, s.2.2.2.1, F (s.2.2.1, s.2.2.2.1, s.2.2.2.2))) := dsC_y (zv := fun k => vO (sh k)) hk (p := (s.2.2.1, s.2.2.2.1, s.2.2.2.2)) (by show vO (sh k.toNatClampNeg) = _; rw [hs]; rfl)
  rw [e, hF, up_id (show (fun k => vO (sh k)) k.toNatClampNeg = _ by show vO (sh k.toNatClampNeg) = _; rw [hs]; rfl)]
  exact eqZ_refl _
theorem sz_id {sh : Nat → Option Sh} : ∀ j : Nat, j < 4 → eqZ (vO (sh j)) ((fun k => vO (sh k)) j) := fun _ _ => eqZ_refl _
theorem sz_new {sh : Nat → Option Sh} {k : Nat} {s' : Sh} (hz : ∀ j : Nat, j < 4096 → s'.2.2.2.2 j = 0) : ∀ j : Nat, j < 4 → eqZ (vO (va_up sh k (some s') j)) (va_up (fun k => vO (sh k)) k (some (s'.2.2.1, s'.2.2.2.1, fun _ => 0)) j) := fun j _ => by
  rw [vO_up]
  by_cases q : j = k
  · rw [q, va_up_self, va_up_self]
    exact ⟨rfl, rfl, hz⟩
  · rw [va_up_ne _ _ q, va_up_ne _ _ q]
    exact eqZ_refl _
theorem isz {sh : Nat → Option Sh} {k : Nat} {t0 d0 : Nat} {w h : Int32} {g0 : Nat → Int32} (hs : sh k = some (t0, d0, w, h, g0)) : (fun k => vO (sh k)) k = some (w, h, g0) := by
  show vO (sh k) = _
  rw [hs]
  rfl
theorem isn {sh : Nat → Option Sh} {k : Nat} (hs : sh k = none) : (fun k => vO (sh k)) k = none := by
  show vO (sh k) = _
  rw [hs]
  rfl
theorem szG_e {sh : Nat → Option Sh} {k : Int32} {t0 d0 : Nat} {w h : Int32} {g0 g1 : Nat → Int32} {F : Zv → Nat → Int32} (hk : 0 ≤ k.toInt ∧ k.toInt ≤ 3) (hs : sh k.toNatClampNeg = some (t0, d0, w, h, g0)) (hF : F (w, h, g0) = g1) : ∀ j : Nat, j < 4 → eqZ (vO (va_up sh k.toNatClampNeg (some (t0, d0, w, h, g1)) j)) (dsG (fun k => vO (sh k)) k F j) := by
  rw [← hF]
  exact szG_y hk hs
theorem dsC_c {α : Type} {zv : Nat → Option Zv} {k : Int32} {bad : α} {F : Zv → α} (h : ∀ p, F p = bad) : dsC zv k bad F = bad := by
  unfold dsC
  split
  · split
    · rfl
    · exact h _
  · rfl
theorem szG_c {sh : Nat → Option Sh} {k : Int32} {F : Zv → Nat → Int32} (hF : ∀ p : Zv, F p = p.2.2) : ∀ j : Nat, j < 4 → eqZ (vO (sh j)) (dsG (fun k => vO (sh k)) k F j) := by
  by_cases hk : 0 ≤ k.toInt ∧ k.toInt ≤ 3
  · cases hs : sh k.toNatClampNeg with
    | none => exact szG_n (fun _ => hs)
    | some s => exact szG_s hk hs (hF _)
  · exact szG_n (fun h => absurd h hk)
def cpF {α : Type} (zv : Nat → Option Zv) (k : Int32) (sz near : Prop) [Decidable sz] [Decidable near] (B : Zv → α) (T : Zv → Zv → α) (p : Zv) : α := if sz then dsC zv k (B p) (fun u => if near then T u p else B p) else B p
theorem cpF_y {α : Type} {zv : Nat → Option Zv} {k : Int32} {sz near : Prop} [Decidable sz] [Decidable near] {B : Zv → α} {T : Zv → Zv → α} {p u : Zv} (h1 : sz) (h2 : near) (hk : 0 ≤ k.toInt ∧ k.toInt ≤ 3) (hz : zv k.toNatClampNeg = some u) : cpF zv k sz near B T p = T u p := by
  unfold cpF
  rw [if_pos h1, dsC_y hk hz, if_pos h2]
theorem cpF_z {α : Type} {zv : Nat → Option Zv} {k : Int32} {sz near : Prop} [Decidable sz] [Decidable near] {B : Zv → α} {T : Zv → Zv → α} {p : Zv} (h1 : ¬ sz) : cpF zv k sz near B T p = B p := if_neg h1
theorem cpF_r {α : Type} {zv : Nat → Option Zv} {k : Int32} {sz near : Prop} [Decidable sz] [Decidable near] {B : Zv → α} {T : Zv → Zv → α} {p : Zv} (h2 : ¬ near) : cpF zv k sz near B T p = B p := by
  unfold cpF
  by_cases s : sz
  · rw [if_pos s]
    exact dsC_c (F := fun u => if near then T u p else B p) (fun u => if_neg h2)
  · rw [if_neg s]
theorem cpF_n {α : Type} {zv : Nat → Option Zv} {k : Int32} {sz near : Prop} [Decidable sz] [Decidable near] {B : Zv → α} {T : Zv → Zv → α} {p : Zv} (hz : 0 ≤ k.toInt ∧ k.toInt ≤ 3 → zv k.toNatClampNeg = none) : cpF zv k sz near B T p = B p := by
  unfold cpF
  split
  · by_cases hk : 0 ≤ k.toInt ∧ k.toInt ≤ 3
    · exact dsC_n hk (hz hk)
    · exact dsC_k hk
  · rfl
abbrev isM (gm : Nat → Nat → Int32) (k : Int32) : Prop := 0 ≤ k.toInt ∧ k.toInt ≤ 3 ∧ 0 < (gm 1 k.toNatClampNeg).toInt
def mA (gm : Nat → Nat → Int32) (k : Int32) (a : Int32) : Int32 := if isM gm k then a else -1
def mX (gm : Nat → Nat → Int32) (k : Int32) (X : Nat → Int32) : Nat → Int32 := if isM gm k then X else gm 3
theorem mA_n {gm : Nat → Nat → Int32} {k a : Int32} {c : Prop} [Decidable c] (h : ¬ (isM gm k ∧ c)) : mA gm k (if c then a else -1) = -1 := by
  unfold mA
  by_cases h1 : isM gm k
  · rw [if_pos h1, if_neg (fun q => h ⟨h1, q⟩)]
  · rw [if_neg h1]
theorem mX_n {gm : Nat → Nat → Int32} {k : Int32} {X : Nat → Int32} {c : Prop} [Decidable c] (h : ¬ (isM gm k ∧ c)) : mX gm k (if c then X else gm 3) = gm 3 := by
  unfold mX
  by_cases h1 : isM gm k
  · rw [if_pos h1, if_neg (fun q => h ⟨h1, q⟩)]
  · rw [if_neg h1]
theorem mA_y {gm : Nat → Nat → Int32} {k a : Int32} {c : Prop} [Decidable c] (h1 : isM gm k) (h : c) : mA gm k (if c then a else -1) = a := by
  unfold mA
  rw [if_pos h1, if_pos h]
theorem mX_y {gm : Nat → Nat → Int32} {k : Int32} {X : Nat → Int32} {c : Prop} [Decidable c] (h1 : isM gm k) (h : c) : mX gm k (if c then X else gm 3) = X := by
  unfold mX
  rw [if_pos h1, if_pos h]
theorem cl_ne {k q : Int32} (hk : 0 ≤ k.toInt ∧ k.toInt ≤ 3) (hq : 0 ≤ q.toInt ∧ q.toInt ≤ 3) (h : ¬ k.toInt = q.toInt) : ¬ k.toNatClampNeg = q.toNatClampNeg := by
  obtain ⟨a, ha, rfl⟩ := i_of (x := k) (N := 4) hk.1 (by omega) (by decide)
  obtain ⟨b, hb, rfl⟩ := i_of (x := q) (N := 4) hq.1 (by omega) (by decide)
  rw [nI_toInt (by omega), nI_toInt (by omega)] at h
  rw [nI_clamp (by omega), nI_clamp (by omega)]
  omega

/-! requests in a list -/
theorem fG_take {σ : Type} {f : σ → Req → σ} {a : σ} (l : List Req) : ∀ i, fG f (fun i => l[i]?) a i = (l.take i).foldl f a
  | 0 => by simp [fG]
  | i + 1 => by
    have ih := fG_take (f := f) (a := a) l i
    cases h : l[i]? with
    | none =>
      rw [fG_none (rq := fun i => l[i]?) h, ih]
      have hl : l.length ≤ i := List.getElem?_eq_none_iff.mp h
      rw [List.take_of_length_le hl, List.take_of_length_le (Nat.le_succ_of_le hl)]
    | some q =>
      rw [fG_some (rq := fun i => l[i]?) h, ih, List.take_add_one, h, List.foldl_append]
      rfl
theorem fG_list {σ : Type} {f : σ → Req → σ} {a : σ} (l : List Req) : fG f (fun i => l[i]?) a l.length = l.foldl f a := by
  rw [fG_take, List.take_length]
/-- no open DOT twice -/
def ndL (w h bx0 by0 bx1 by1 : Int32) (l : List Req) : Prop := l.Pairwise (fun q q' => opnC w h bx0 by0 bx1 by1 q.1 q.2.1 → opnC w h bx0 by0 bx1 by1 q'.1 q'.2.1 → ixP q.1 q.2.1 ≠ ixP q'.1 q'.2.1)
theorem draw_list {w h bx0 by0 bx1 by1 wy cl cx0 cx1 cy0 cy1 : Int32} {l : List Req} {g gm ge gv : Nat → Int32} (hw : w.toInt ≤ 64) (hh : h.toInt ≤ 64) (hob : ∀ x y, opnC w h bx0 by0 bx1 by1 x y ↔ opnM w h cl cx0 cx1 cy0 cy1 x y) (hnd : ndL w h bx0 by0 bx1 by1 l) :
    (∀ j, j < 4096 → l.foldl (layG w h bx0 by0 bx1 by1 wy) g j = if (l.foldl (mkF w h cl cx0 cx1 cy0 cy1) (zrN gm 4096, ge, gv)).1 j = 0 then g j else laidP wy ((l.foldl (mkF w h cl cx0 cx1 cy0 cy1) (zrN gm 4096, ge, gv)).2.2 j) (g j) ((l.foldl (mkF w h cl cx0 cx1 cy0 cy1) (zrN gm 4096, ge, gv)).2.1 j)) ∧
      l.foldl (layT w h bx0 by0 bx1 by1) 0 = nI (cntP (l.foldl (mkF w h cl cx0 cx1 cy0 cy1) (zrN gm 4096, ge, gv)).1 4096) := by
  have h1 := (draw_same (wy := wy) (g := g) (gm := gm) (ge := ge) (gv := gv) (rq := fun i => l[i]?) (N := l.length) hw hh hob (fun i i' q q' hi hi' hq hq' => by
    obtain ⟨li, ei⟩ := List.getElem?_eq_some_iff.mp hq
    obtain ⟨li', ei'⟩ := List.getElem?_eq_some_iff.mp hq'
    have h2 := List.pairwise_iff_getElem.mp hnd i i' li li' hi
    rw [ei, ei'] at h2
    exact h2)) l.length (Nat.le_refl _)
  rw [fG_list, fG_list, fG_list] at h1
  exact ⟨h1.2.1, h1.2.2⟩
/-! the nearest root, from above and from below -/
theorem rt_all {N : Nat} (hN : N ≤ 250000) : ∀ k b : Nat, 500 ≤ b + k → (∀ c, c < b → c * c + c < N) → N ≤ rtF N k b * rtF N k b + rtF N k b ∧ ∀ c, c < rtF N k b → c * c + c < N
  | 0, b, hb, h => by
    have h2 : 500 * 500 ≤ b * b := Nat.mul_le_mul (by omega) (by omega)
    exact ⟨by show N ≤ b * b + b; omega, h⟩
  | k + 1, b, hb, h => by
    have e4 : (2 * b + 1) * (2 * b + 1) = 4 * (b * b) + 4 * b + 1 := by
      rw [Nat.add_mul, Nat.mul_add, Nat.one_mul, Nat.mul_one, show 2 * b * (2 * b) = 4 * (b * b) by rw [Nat.mul_mul_mul_comm]]
      omega
    show N ≤ (if (2 * b + 1) * (2 * b + 1) < 4 * N then rtF N k (b + 1) else b) * (if (2 * b + 1) * (2 * b + 1) < 4 * N then rtF N k (b + 1) else b) + (if (2 * b + 1) * (2 * b + 1) < 4 * N then rtF N k (b + 1) else b) ∧ ∀ c, c < (if (2 * b + 1) * (2 * b + 1) < 4 * N then rtF N k (b + 1) else b) → c * c + c < N
    by_cases q : (2 * b + 1) * (2 * b + 1) < 4 * N
    · rw [if_pos q]
      refine rt_all hN k (b + 1) (by omega) (fun c hc => ?_)
      by_cases e : c = b
      · subst e
        omega
      · exact h c (by omega)
    · rw [if_neg q]
      exact ⟨by omega, h⟩
theorem nr_all {N : Nat} : ∀ B : Nat, (nrN N B = 0 ∨ nrN N B * nrN N B - nrN N B < N) ∧ ∀ c, nrN N B < c → c ≤ B → N ≤ c * c - c
  | 0 => ⟨Or.inl rfl, fun c h1 h2 => absurd h1 (by show ¬ 0 < c; omega)⟩
  | b + 1 => by
    have ih := nr_all (N := N) b
    show ((if N ≤ (b + 1) * (b + 1) - (b + 1) then nrN N b else b + 1) = 0 ∨ (if N ≤ (b + 1) * (b + 1) - (b + 1) then nrN N b else b + 1) * (if N ≤ (b + 1) * (b + 1) - (b + 1) then nrN N b else b + 1) - (if N ≤ (b + 1) * (b + 1) - (b + 1) then nrN N b else b + 1) < N) ∧ ∀ c, (if N ≤ (b + 1) * (b + 1) - (b + 1) then nrN N b else b + 1) < c → c ≤ b + 1 → N ≤ c * c - c
    by_cases q : N ≤ (b + 1) * (b + 1) - (b + 1)
    · rw [if_pos q]
      refine ⟨ih.1, fun c h1 h2 => ?_⟩
      by_cases e : c = b + 1
      · rw [e]; exact q
      · exact ih.2 c h1 (by omega)
    · rw [if_neg q]
      exact ⟨Or.inr (by omega), fun c h1 h2 => absurd h1 (by omega)⟩
theorem sq_m1 (c : Nat) : (c + 1) * (c + 1) - (c + 1) = c * c + c := by
  rw [Nat.add_mul, Nat.one_mul, Nat.mul_add, Nat.mul_one]
  omega
def rt0 (N : Nat) : Nat := rtF N 501 0
theorem rt_spec {N : Nat} (hN : N ≤ 250000) : N ≤ rt0 N * rt0 N + rt0 N ∧ ∀ c, c < rt0 N → c * c + c < N := rt_all hN 501 0 (by omega) (fun c hc => absurd hc (by omega))
theorem nr_rt {N B : Nat} (hN : N ≤ 250000) (hB : rt0 N ≤ B) : nrN N B = rt0 N := by
  obtain ⟨h1, h2⟩ := rt_spec hN
  obtain ⟨h3, h4⟩ := nr_all (N := N) B
  rcases Nat.lt_trichotomy (nrN N B) (rt0 N) with c | c | c
  · have h5 := h4 (rt0 N) c hB
    obtain ⟨d, hd⟩ : ∃ d, rt0 N = d + 1 := ⟨rt0 N - 1, by omega⟩
    rw [hd, sq_m1] at h5
    have h6 := h2 d (by omega)
    omega
  · exact c
  · rcases h3 with h3 | h3
    · omega
    · obtain ⟨d, hd⟩ : ∃ d, nrN N B = d + 1 := ⟨nrN N B - 1, by omega⟩
      rw [hd, sq_m1] at h3
      have h6 : rt0 N * rt0 N ≤ d * d := Nat.mul_le_mul (by omega) (by omega)
      omega
theorem rt_mono {N N' : Nat} (hN : N ≤ 250000) (h : N' ≤ N) : rt0 N' ≤ rt0 N := by
  obtain ⟨h1, -⟩ := rt_spec hN
  obtain ⟨-, h2⟩ := rt_spec (N := N') (by omega)
  rcases Nat.lt_or_ge (rt0 N) (rt0 N') with c | c
  · have := h2 _ c
    omega
  · exact c
theorem ciB_rt {r : Nat} (hr : r ≤ 500) : ∀ i, i ≤ r → ciB r (i + 1) = rt0 (r * r - i * i)
  | 0, _ => by
    have h2 : r * r ≤ 500 * 500 := Nat.mul_le_mul hr hr
    show nrN (r * r - 0 * 0) r = rt0 (r * r - 0 * 0)
    refine nr_rt (by omega) ?_
    obtain ⟨-, h3⟩ := rt_spec (N := r * r - 0 * 0) (by omega)
    rcases Nat.lt_or_ge r (rt0 (r * r - 0 * 0)) with c | c
    · have := h3 _ c
      omega
    · exact c
  | i + 1, hi => by
    have h2 : r * r ≤ 500 * 500 := Nat.mul_le_mul hr hr
    have h3 : i * i ≤ (i + 1) * (i + 1) := Nat.mul_le_mul (by omega) (by omega)
    show nrN (r * r - (i + 1) * (i + 1)) (ciB r (i + 1)) = _
    rw [ciB_rt hr i (by omega)]
    exact nr_rt (by omega) (rt_mono (by omega) (by omega))
theorem ciM_mcM {r : Nat} (hr : r ≤ 500) : ∀ k i, ciM r k i = mcM r k i
  | 0, _ => rfl
  | k + 1, i => by
    show (if r < i ∨ ciB r (i + 1) < i then i else ciM r k (i + 1)) = (if r < i ∨ rtF (r * r - i * i) 501 0 < i then i else mcM r k (i + 1))
    by_cases c : r < i
    · rw [if_pos (Or.inl c), if_pos (Or.inl c)]
    · have e : ciB r (i + 1) = rtF (r * r - i * i) 501 0 := ciB_rt hr i (by omega)
      rw [e, ciM_mcM hr k (i + 1)]
theorem ciM_all {r : Nat} : ∀ k i j, i ≤ j → j < ciM r k i → ¬ (r < j ∨ ciB r (j + 1) < j)
  | 0, i, j, h1, h2 => absurd h2 (by show ¬ j < i; omega)
  | k + 1, i, j, h1, h2 => by
    have h3 : j < (if r < i ∨ ciB r (i + 1) < i then i else ciM r k (i + 1)) := h2
    by_cases c : r < i ∨ ciB r (i + 1) < i
    · rw [if_pos c] at h3
      omega
    · rw [if_neg c] at h3
      by_cases e : j = i
      · rw [e]; exact c
      · exact ciM_all k (i + 1) j (by omega) h3

/-! CIRCLE: the same DOTS on both sides, each once on the class's -/
def fr4 (x y a b ik op : Int32) (q : Req) : Prop := q = (x + a, y + b, ik, op) ∨ q = (x - a, y + b, ik, op) ∨ q = (x + a, y - b, ik, op) ∨ q = (x - a, y - b, ik, op)
theorem mem_prQ {x ax y ik op : Int32} {q : Req} : q ∈ prQ x ax y ik op ↔ (q = (x + ax, y, ik, op) ∨ q = (x - ax, y, ik, op)) := by
  unfold prQ
  by_cases h : ax = 0
  · rw [if_pos h, h, List.mem_singleton, show x - 0 = x + 0 by simp]
    exact ⟨Or.inl, fun h => h.elim id id⟩
  · rw [if_neg h]
    simp only [List.mem_cons, List.not_mem_nil, or_false]
theorem mem_miQ {x y ax bx ik op : Int32} {q : Req} : q ∈ miQ x y ax bx ik op ↔ fr4 x y ax bx ik op q := by
  have h1 : q ∈ miQ x y ax bx ik op ↔ (q ∈ prQ x ax (y + bx) ik op ∨ q ∈ prQ x ax (y - bx) ik op) := by
    unfold miQ
    by_cases h : bx = 0
    · rw [if_pos h, h, show y - 0 = y + 0 by simp]
      exact ⟨Or.inl, fun h => h.elim id id⟩
    · rw [if_neg h, List.mem_append]
  rw [h1, mem_prQ, mem_prQ]
  unfold fr4
  simp only [or_assoc]
theorem mem_mcQ {x y a b ik op : Int32} {q : Req} : q ∈ mcQ x y a b ik op ↔ (fr4 x y a b ik op q ∨ fr4 x y b a ik op q) := by
  have e1 : ∀ z : Int32, 1 * z = z := Int32.one_mul
  have e2 : ∀ z w : Int32, z + (-1) * w = z - w := fun z w => by rw [Int32.neg_mul, Int32.one_mul, ← Int32.sub_eq_add_neg]
  unfold mcQ fr4
  simp only [e1, e2, List.mem_cons, List.not_mem_nil, or_false]
  constructor
  · intro h
    rcases h with h | h | h | h | h | h | h | h <;> simp [h]
  · intro h
    rcases h with (h | h | h | h) | (h | h | h | h) <;> simp [h]
theorem mem_ciL {x y ik op : Int32} {r : Nat} {q : Req} : ∀ M, q ∈ ciL x y ik op r M ↔ ∃ i, i < M ∧ (fr4 x y (nI i) (nI (ciB r (i + 1))) ik op q ∨ fr4 x y (nI (ciB r (i + 1))) (nI i) ik op q)
  | 0 => ⟨fun h => absurd h (List.not_mem_nil), fun ⟨i, h, _⟩ => absurd h (by omega)⟩
  | M + 1 => by
    have ih := mem_ciL (x := x) (y := y) (ik := ik) (op := op) (r := r) (q := q) M
    show q ∈ ciL x y ik op r M ++ (miQ x y (nI M) (nI (ciB r (M + 1))) ik op ++ (if M = ciB r (M + 1) then [] else miQ x y (nI (ciB r (M + 1))) (nI M) ik op)) ↔ _
    rw [List.mem_append, List.mem_append, ih, mem_miQ]
    constructor
    · intro h
      rcases h with ⟨i, hi, h⟩ | h | h
      · exact ⟨i, by omega, h⟩
      · exact ⟨M, by omega, Or.inl h⟩
      · by_cases c : M = ciB r (M + 1)
        · rw [if_pos c] at h
          exact absurd h (List.not_mem_nil)
        · rw [if_neg c, mem_miQ] at h
          exact ⟨M, by omega, Or.inr h⟩
    · intro h
      obtain ⟨i, hi, h⟩ := h
      by_cases e : i = M
      · subst e
        rcases h with h | h
        · exact Or.inr (Or.inl h)
        · by_cases c : i = ciB r (i + 1)
          · rw [← c] at h ⊢
            exact Or.inr (Or.inl h)
          · rw [if_neg c, mem_miQ]
            exact Or.inr (Or.inr h)
      · exact Or.inl ⟨i, by omega, h⟩
theorem mem_mcL {x y ik op : Int32} {r : Nat} {q : Req} : ∀ M, q ∈ mcL x y ik op r M ↔ ∃ i, i < M ∧ (fr4 x y (nI i) (nI (rtF (r * r - i * i) 501 0)) ik op q ∨ fr4 x y (nI (rtF (r * r - i * i) 501 0)) (nI i) ik op q)
  | 0 => ⟨fun h => absurd h (List.not_mem_nil), fun ⟨i, h, _⟩ => absurd h (by omega)⟩
  | M + 1 => by
    have ih := mem_mcL (x := x) (y := y) (ik := ik) (op := op) (r := r) (q := q) M
    show q ∈ mcL x y ik op r M ++ mcQ x y (nI M) (nI (rtF (r * r - M * M) 501 0)) ik op ↔ _
    rw [List.mem_append, ih, mem_mcQ]
    constructor
    · intro h
      rcases h with ⟨i, hi, h⟩ | h
      · exact ⟨i, by omega, h⟩
      · exact ⟨M, by omega, h⟩
    · intro h
      obtain ⟨i, hi, h⟩ := h
      by_cases e : i = M
      · subst e
        exact Or.inr h
      · exact Or.inl ⟨i, by omega, h⟩
theorem ci_mc {x y ik op : Int32} {r : Nat} (hr : r ≤ 500) {q : Req} : q ∈ ciL x y ik op r (ciM r 502 0) ↔ q ∈ mcL x y ik op r (mcM r 502 0) := by
  rw [mem_ciL, mem_mcL, ← ciM_mcM hr]
  constructor
  · intro h
    obtain ⟨i, hi, h⟩ := h
    have h1 := ciM_all 502 0 i (by omega) hi
    have e : ciB r (i + 1) = rtF (r * r - i * i) 501 0 := ciB_rt hr i (by omega)
    rw [e] at h
    exact ⟨i, hi, h⟩
  · intro h
    obtain ⟨i, hi, h⟩ := h
    have h1 := ciM_all 502 0 i (by omega) hi
    have e : ciB r (i + 1) = rtF (r * r - i * i) 501 0 := ciB_rt hr i (by omega)
    rw [← e] at h
    exact ⟨i, hi, h⟩
section
variable {W H cl cx0 cx1 cy0 cy1 ik op : Int32}
theorem mk_out {j : Nat} : ∀ (l : List Req) (a : M3), (¬ ∃ q, q ∈ l ∧ opnM W H cl cx0 cx1 cy0 cy1 q.1 q.2.1 ∧ ixP q.1 q.2.1 = j) → (l.foldl (mkF W H cl cx0 cx1 cy0 cy1) a).1 j = a.1 j ∧ (l.foldl (mkF W H cl cx0 cx1 cy0 cy1) a).2.1 j = a.2.1 j ∧ (l.foldl (mkF W H cl cx0 cx1 cy0 cy1) a).2.2 j = a.2.2 j
  | [], a, _ => ⟨rfl, rfl, rfl⟩
  | q :: l, a, h => by
    have h1 := mk_out (j := j) l (mkF W H cl cx0 cx1 cy0 cy1 a q) (fun ⟨q', m, h2⟩ => h ⟨q', List.mem_cons_of_mem _ m, h2⟩)
    have h2 : ¬ (opnM W H cl cx0 cx1 cy0 cy1 q.1 q.2.1 ∧ ixP q.1 q.2.1 = j) := fun h3 => h ⟨q, List.mem_cons_self, h3⟩
    show (l.foldl (mkF W H cl cx0 cx1 cy0 cy1) (mkF W H cl cx0 cx1 cy0 cy1 a q)).1 j = _ ∧ (l.foldl (mkF W H cl cx0 cx1 cy0 cy1) (mkF W H cl cx0 cx1 cy0 cy1 a q)).2.1 j = _ ∧ (l.foldl (mkF W H cl cx0 cx1 cy0 cy1) (mkF W H cl cx0 cx1 cy0 cy1 a q)).2.2 j = _
    rw [h1.1, h1.2.1, h1.2.2]
    unfold mkF
    by_cases c : opnM W H cl cx0 cx1 cy0 cy1 q.1 q.2.1
    · have hj : j ≠ ixP q.1 q.2.1 := fun e => h2 ⟨c, e.symm⟩
      rw [if_pos c, if_pos c, if_pos c]
      exact ⟨pk_un hj, pk_un hj, pk_un hj⟩
    · rw [if_neg c, if_neg c, if_neg c]
      exact ⟨rfl, rfl, rfl⟩
theorem mk_in {j : Nat} : ∀ (l : List Req) (a : M3), (∀ q, q ∈ l → q.2.2 = (ik, op)) → (∃ q, q ∈ l ∧ opnM W H cl cx0 cx1 cy0 cy1 q.1 q.2.1 ∧ ixP q.1 q.2.1 = j) → (l.foldl (mkF W H cl cx0 cx1 cy0 cy1) a).1 j = 1 ∧ (l.foldl (mkF W H cl cx0 cx1 cy0 cy1) a).2.1 j = op ∧ (l.foldl (mkF W H cl cx0 cx1 cy0 cy1) a).2.2 j = ik
  | [], a, _, ⟨q, m, _⟩ => absurd m (List.not_mem_nil)
  | q :: l, a, hu, h => by
    show (l.foldl (mkF W H cl cx0 cx1 cy0 cy1) (mkF W H cl cx0 cx1 cy0 cy1 a q)).1 j = _ ∧ (l.foldl (mkF W H cl cx0 cx1 cy0 cy1) (mkF W H cl cx0 cx1 cy0 cy1 a q)).2.1 j = _ ∧ (l.foldl (mkF W H cl cx0 cx1 cy0 cy1) (mkF W H cl cx0 cx1 cy0 cy1 a q)).2.2 j = _
    by_cases c : ∃ q, q ∈ l ∧ opnM W H cl cx0 cx1 cy0 cy1 q.1 q.2.1 ∧ ixP q.1 q.2.1 = j
    · exact mk_in l _ (fun q m => hu q (List.mem_cons_of_mem _ m)) c
    · obtain ⟨q', m, h1, h2⟩ := h
      have e : q' = q := by
        rcases List.mem_cons.mp m with e | m
        · exact e
        · exact absurd ⟨q', m, h1, h2⟩ c
      subst e
      have h3 := mk_out (j := j) l (mkF W H cl cx0 cx1 cy0 cy1 a q') c
      have h4 := hu q' List.mem_cons_self
      rw [h3.1, h3.2.1, h3.2.2]
      unfold mkF
      rw [if_pos h1, if_pos h1, if_pos h1, ← h2, h4]
      exact ⟨pk_us, pk_us, pk_us⟩
theorem mk_same {l l' : List Req} (a : M3) (hu : ∀ q, q ∈ l → q.2.2 = (ik, op)) (hm : ∀ q, q ∈ l ↔ q ∈ l') : l.foldl (mkF W H cl cx0 cx1 cy0 cy1) a = l'.foldl (mkF W H cl cx0 cx1 cy0 cy1) a := by
  have hu' : ∀ q, q ∈ l' → q.2.2 = (ik, op) := fun q m => hu q ((hm q).mpr m)
  have key : ∀ j, (l.foldl (mkF W H cl cx0 cx1 cy0 cy1) a).1 j = (l'.foldl (mkF W H cl cx0 cx1 cy0 cy1) a).1 j ∧ (l.foldl (mkF W H cl cx0 cx1 cy0 cy1) a).2.1 j = (l'.foldl (mkF W H cl cx0 cx1 cy0 cy1) a).2.1 j ∧ (l.foldl (mkF W H cl cx0 cx1 cy0 cy1) a).2.2 j = (l'.foldl (mkF W H cl cx0 cx1 cy0 cy1) a).2.2 j := by
    intro j
    by_cases c : ∃ q, q ∈ l ∧ opnM W H cl cx0 cx1 cy0 cy1 q.1 q.2.1 ∧ ixP q.1 q.2.1 = j
    · have c' : ∃ q, q ∈ l' ∧ opnM W H cl cx0 cx1 cy0 cy1 q.1 q.2.1 ∧ ixP q.1 q.2.1 = j := by
        obtain ⟨q, m, h⟩ := c
        exact ⟨q, (hm q).mp m, h⟩
      have h1 := mk_in (j := j) l a hu c
      have h2 := mk_in (j := j) l' a hu' c'
      exact ⟨h1.1.trans h2.1.symm, h1.2.1.trans h2.2.1.symm, h1.2.2.trans h2.2.2.symm⟩
    · have c' : ¬ ∃ q, q ∈ l' ∧ opnM W H cl cx0 cx1 cy0 cy1 q.1 q.2.1 ∧ ixP q.1 q.2.1 = j := fun ⟨q, m, h⟩ => c ⟨q, (hm q).mpr m, h⟩
      have h1 := mk_out (j := j) l a c
      have h2 := mk_out (j := j) l' a c'
      exact ⟨h1.1.trans h2.1.symm, h1.2.1.trans h2.2.1.symm, h1.2.2.trans h2.2.2.symm⟩
  exact Prod.ext (funext fun j => (key j).1) (Prod.ext (funext fun j => (key j).2.1) (funext fun j => (key j).2.2))
end
/-- no two requests at one place -/
def dsL (l : List Req) : Prop := l.Pairwise (fun q q' => ¬ (q.1.toInt = q'.1.toInt ∧ q.2.1.toInt = q'.2.1.toInt))
theorem ds_nd {w h bx0 by0 bx1 by1 : Int32} (hw : w.toInt ≤ 64) {l : List Req} (hl : dsL l) : ndL w h bx0 by0 bx1 by1 l := List.Pairwise.imp (fun {q q'} hq ho ho' he => hq (by
  unfold ixP at he
  constructor <;> omega)) hl
theorem pl_ti {x : Int32} {a : Nat} (hx : -2000 ≤ x.toInt ∧ x.toInt ≤ 2000) (ha : a ≤ 500) : (x + nI a).toInt = x.toInt + a ∧ (x - nI a).toInt = x.toInt - a := by
  have e : (nI a).toInt = (a : Int) := nI_toInt (by omega)
  constructor
  · rw [Int32.toInt_add, e]
    exact Int.bmod_eq_of_le (by omega) (by omega)
  · rw [Int32.toInt_sub, e]
    exact Int.bmod_eq_of_le (by omega) (by omega)
theorem fr4_key {x y ik op : Int32} {a b : Nat} {q : Req} (hx : -2000 ≤ x.toInt ∧ x.toInt ≤ 2000) (hy : -2000 ≤ y.toInt ∧ y.toInt ≤ 2000) (ha : a ≤ 500) (hb : b ≤ 500) (h : fr4 x y (nI a) (nI b) ik op q) : (q.1.toInt - x.toInt).natAbs = a ∧ (q.2.1.toInt - y.toInt).natAbs = b ∧ q.2.2 = (ik, op) := by
  have e1 := pl_ti hx ha
  have e2 := pl_ti hy hb
  rcases h with h | h | h | h <;> subst h <;> refine ⟨?_, ?_, rfl⟩ <;> dsimp only <;> omega
theorem ds_pr {x y ik op : Int32} {a : Nat} (hx : -2000 ≤ x.toInt ∧ x.toInt ≤ 2000) (ha : a ≤ 500) : dsL (prQ x (nI a) y ik op) := by
  have e1 := pl_ti hx ha
  unfold prQ dsL
  by_cases c : nI a = 0
  · rw [if_pos c]
    exact List.pairwise_singleton _ _
  · rw [if_neg c]
    have hn : ¬ a = 0 := fun e => c (by rw [e]; rfl)
    refine List.pairwise_cons.mpr ⟨fun q hq => ?_, List.pairwise_singleton _ _⟩
    rw [List.mem_singleton.mp hq]
    dsimp only
    omega
theorem ds_mi {x y ik op : Int32} {a b : Nat} (hx : -2000 ≤ x.toInt ∧ x.toInt ≤ 2000) (hy : -2000 ≤ y.toInt ∧ y.toInt ≤ 2000) (ha : a ≤ 500) (hb : b ≤ 500) : dsL (miQ x y (nI a) (nI b) ik op) := by
  have e2 := pl_ti hy hb
  unfold miQ
  by_cases c : nI b = 0
  · rw [if_pos c]
    exact ds_pr hx ha
  · rw [if_neg c]
    have hn : ¬ b = 0 := fun e => c (by rw [e]; rfl)
    refine List.pairwise_append.mpr ⟨ds_pr hx ha, ds_pr hx ha, fun q hq q' hq' => ?_⟩
    rcases mem_prQ.mp hq with e | e <;> rcases mem_prQ.mp hq' with e' | e' <;> rw [e, e'] <;> dsimp only <;> omega
theorem ds_ci {x y ik op : Int32} {r : Nat} (hx : -2000 ≤ x.toInt ∧ x.toInt ≤ 2000) (hy : -2000 ≤ y.toInt ∧ y.toInt ≤ 2000) (hr : r ≤ 500) : ∀ M, (∀ j, j < M → ¬ (r < j ∨ ciB r (j + 1) < j)) → dsL (ciL x y ik op r M)
  | 0, _ => List.Pairwise.nil
  | M + 1, h => by
    have hM := h M (by omega)
    have hb := ciB_le r (M + 1)
    show dsL (ciL x y ik op r M ++ (miQ x y (nI M) (nI (ciB r (M + 1))) ik op ++ (if M = ciB r (M + 1) then [] else miQ x y (nI (ciB r (M + 1))) (nI M) ik op)))
    refine List.pairwise_append.mpr ⟨ds_ci hx hy hr M (fun j hj => h j (by omega)), List.pairwise_append.mpr ⟨ds_mi hx hy (by omega) (by omega), ?_, ?_⟩, ?_⟩
    · by_cases c : M = ciB r (M + 1)
      · rw [if_pos c]
        exact List.Pairwise.nil
      · rw [if_neg c]
        exact ds_mi hx hy (by omega) (by omega)
    · intro q hq q' hq'
      by_cases c : M = ciB r (M + 1)
      · rw [if_pos c] at hq'
        exact absurd hq' (List.not_mem_nil)
      · rw [if_neg c] at hq'
        have k1 := fr4_key hx hy (by omega) (by omega) (mem_miQ.mp hq)
        have k2 := fr4_key hx hy (by omega) (by omega) (mem_miQ.mp hq')
        omega
    · intro q hq q' hq'
      obtain ⟨i, hi, h1⟩ := (mem_ciL M).mp hq
      have hi2 := h i (by omega)
      have hbi := ciB_le r (i + 1)
      have k1 : ((q.1.toInt - x.toInt).natAbs = i ∧ (q.2.1.toInt - y.toInt).natAbs = ciB r (i + 1)) ∨ ((q.1.toInt - x.toInt).natAbs = ciB r (i + 1) ∧ (q.2.1.toInt - y.toInt).natAbs = i) := by
        rcases h1 with h1 | h1
        · have k := fr4_key hx hy (by omega) (by omega) h1
          exact Or.inl ⟨k.1, k.2.1⟩
        · have k := fr4_key hx hy (by omega) (by omega) h1
          exact Or.inr ⟨k.1, k.2.1⟩
      have k2 : ((q'.1.toInt - x.toInt).natAbs = M ∧ (q'.2.1.toInt - y.toInt).natAbs = ciB r (M + 1)) ∨ ((q'.1.toInt - x.toInt).natAbs = ciB r (M + 1) ∧ (q'.2.1.toInt - y.toInt).natAbs = M) := by
        rcases List.mem_append.mp hq' with m | m
        · have k := fr4_key hx hy (by omega) (by omega) (mem_miQ.mp m)
          exact Or.inl ⟨k.1, k.2.1⟩
        · by_cases c : M = ciB r (M + 1)
          · rw [if_pos c] at m
            exact absurd m (List.not_mem_nil)
          · rw [if_neg c] at m
            have k := fr4_key hx hy (by omega) (by omega) (mem_miQ.mp m)
            exact Or.inr ⟨k.1, k.2.1⟩
      omega
theorem ci_uni {x y ik op : Int32} {r : Nat} (q : Req) (M : Nat) (h : q ∈ ciL x y ik op r M) : q.2.2 = (ik, op) := by
  obtain ⟨i, -, h⟩ := (mem_ciL M).mp h
  rcases h with (h | h | h | h) | (h | h | h | h) <;> rw [h]

/-! what the two sides have in common, and that calls keep it -/
def CLP (b0 b1 b2 b3 cl cx0 cx1 cy0 cy1 : Int32) : Prop := (cl = 0 ∧ b0 = 0 ∧ b1 = 0 ∧ b2 = 63 ∧ b3 = 63) ∨ (cl = 1 ∧ b0 = cx0 ∧ b1 = cy0 ∧ b2 = cx1 ∧ b3 = cy1)
theorem clp_ob {b0 b1 b2 b3 cl cx0 cx1 cy0 cy1 w h : Int32} (hc : CLP b0 b1 b2 b3 cl cx0 cx1 cy0 cy1) (hw : w.toInt ≤ 64) (hh : h.toInt ≤ 64) : ∀ x y, opnC w h b0 b1 b2 b3 x y ↔ opnM w h cl cx0 cx1 cy0 cy1 x y := by
  intro x y
  rcases hc with ⟨e0, e1, e2, e3, e4⟩ | ⟨e0, e1, e2, e3, e4⟩
  · subst e0; subst e1; subst e2; subst e3; subst e4
    have h0 : (0 : Int32).toInt = 0 := by decide
    have h1 : (63 : Int32).toInt = 63 := by decide
    unfold opnC opnM
    rw [h0, h1]
    constructor
    · intro q; exact ⟨by omega, Or.inl rfl⟩
    · intro q; omega
  · subst e0; subst e1; subst e2; subst e3; subst e4
    have h0 : (1 : Int32).toInt = 1 := by decide
    unfold opnC opnM
    rw [h0]
    constructor
    · intro q; exact ⟨by omega, Or.inr (by omega)⟩
    · intro q; omega
def Mt (gm : Nat → Nat → Int32) (k : Nat) (p : Zv) : Prop := p.1 = gm 1 k ∧ p.2.1 = gm 2 k ∧ (1 ≤ p.1.toInt ∧ p.1.toInt ≤ 64) ∧ (1 ≤ p.2.1.toInt ∧ p.2.1.toInt ≤ 64) ∧ ∀ j : Nat, j < 4096 → p.2.2 j = gm 3 (4096 * k + j)
def SZ (zv : Nat → Option Zv) (gm : Nat → Nat → Int32) : Prop := ∀ k : Nat, k < 4 → (zv k = none → gm 1 k = 0) ∧ ∀ p, zv k = some p → Mt gm k p
def RW (v : Nat → Int32) (gv : Nat → Nat → Int32) (zv : Nat → Option Zv) (nm : Nat → Int32) (gm : Nat → Nat → Int32) : Prop := (v 0 = nm 8 ∧ v 1 = nm 0 ∧ v 2 = nm 1 ∧ v 3 = nm 2) ∧ CLP (v 4) (v 5) (v 6) (v 7) (nm 3) (nm 4) (nm 5) (nm 6) (nm 7) ∧ PR (v 12) (v 13) (v 14) (gv 0) (gv 1) (gv 2) (gv 3) (nm 9) (gm 7) (gm 8) (gm 9) ∧ (gv 4 = gm 10 ∧ gv 5 = gm 11 ∧ gv 6 = gm 12) ∧ (v 8 = 0 ∧ v 9 = 0 ∧ v 10 = 63 ∧ v 11 = 63) ∧ SZ zv gm
theorem SZ_c {zv zv' : Nat → Option Zv} {gm gm' : Nat → Nat → Int32} (h : SZ zv gm) (e : ∀ k : Nat, k < 4 → eqZ (zv' k) (zv k)) (h1 : gm' 1 = gm 1) (h2 : gm' 2 = gm 2) (h3 : gm' 3 = gm 3) : SZ zv' gm' := by
  intro k hk
  obtain ⟨a, b⟩ := h k hk
  have ek := e k hk
  refine ⟨fun hn => ?_, fun p hp => ?_⟩
  · rw [hn] at ek
    cases hz : zv k with
    | none => rw [h1]; exact a hz
    | some q => rw [hz] at ek; exact (ek : False).elim
  · rw [hp] at ek
    cases hz : zv k with
    | none => rw [hz] at ek; exact (ek : False).elim
    | some q =>
      rw [hz] at ek
      obtain ⟨e1, e2, e3⟩ : p.1 = q.1 ∧ p.2.1 = q.2.1 ∧ ∀ j : Nat, j < 4096 → p.2.2 j = q.2.2 j := ek
      obtain ⟨b1, b2, b3, b4, b5⟩ := b q hz
      unfold Mt
      rw [h1, h2, h3, e1, e2]
      exact ⟨b1, b2, b3, b4, fun j hj => (e3 j hj).trans (b5 j hj)⟩
theorem RW_c {v n' nv nm' : Nat → Int32} {gv g' gw gm' : Nat → Nat → Int32} {zv : Nat → Option Zv} {sh' : Nat → Option Sh} (h : RW v gv zv nv gw) (h1 : KC v gv zv n' g' sh') (h2 : MC nv gw nm' gm') : RW n' g' (fun k => vO (sh' k)) nm' gm' := by
  obtain ⟨⟨a0, a1, a2, a3, a4, a5, a6, a7, a8, a9, a10, a11, a12, a13, a14⟩, ⟨c0, c1, c2, c3, c4, c5, c6⟩, z⟩ := h1
  obtain ⟨⟨b0, b1, b2, b3, b4, b5, b6, b7, b8, b9⟩, d1, d2, d3, d7, d8, d9, d10, d11, d12⟩ := h2
  obtain ⟨r0, r1, r2, r3, r4, r5⟩ := h
  unfold RW
  rw [a0, a1, a2, a3, a4, a5, a6, a7, a8, a9, a10, a11, a12, a13, a14, c0, c1, c2, c3, c4, c5, c6, b0, b1, b2, b3, b4, b5, b6, b7, b8, b9, d7, d8, d9, d10, d11, d12]
  exact ⟨r0, r1, r2, r3, r4, SZ_c r5 z d1 d2 d3⟩
section
variable {v nm : Nat → Int32} {gv gm : Nat → Nat → Int32} {zv : Nat → Option Zv} {k : Int32}
theorem tw (h : RW v gv zv nm gm) (hk : 0 ≤ k.toInt ∧ k.toInt ≤ 3) : (zv k.toNatClampNeg = none ∧ ¬ isM gm k) ∨ ∃ p, zv k.toNatClampNeg = some p ∧ isM gm k ∧ Mt gm k.toNatClampNeg p := by
  obtain ⟨a, b⟩ := h.2.2.2.2.2 _ (cl_lt hk.1 hk.2)
  cases hz : zv k.toNatClampNeg with
  | none =>
    refine Or.inl ⟨rfl, fun q => ?_⟩
    have q2 := q.2.2
    rw [a hz] at q2
    exact absurd q2 (by decide)
  | some p =>
    have m := b p hz
    refine Or.inr ⟨p, rfl, ⟨hk.1, hk.2, ?_⟩, m⟩
    rw [← m.1]
    have := m.2.2.1.1
    omega
theorem read_ok {bad A : Int32} {F : Zv → Int32} (h : RW v gv zv nm gm) (hd : ∀ p, isM gm k → zv k.toNatClampNeg = some p → Mt gm k.toNatClampNeg p → F p = A) : dsC zv k bad F = if isM gm k then A else bad := by
  by_cases hk : 0 ≤ k.toInt ∧ k.toInt ≤ 3
  · rcases tw h hk with ⟨h1, h2⟩ | ⟨p, h1, h2, h3⟩
    · rw [dsC_n hk h1, if_neg h2]
    · rw [dsC_y hk h1, if_pos h2]
      exact hd p h2 h1 h3
  · rw [dsC_k hk, if_neg (fun q => hk ⟨q.1, q.2.1⟩)]
theorem draw_ok {A : Int32} {X : Nat → Int32} {F : Zv → Int32} {G : Zv → Nat → Int32} (h : RW v gv zv nm gm) (hd : ∀ p, isM gm k → zv k.toNatClampNeg = some p → Mt gm k.toNatClampNeg p → F p = A ∧ (∀ j : Nat, j < 4096 → G p j = X (4096 * k.toNatClampNeg + j)) ∧ (∀ k' j : Nat, k' ≠ k.toNatClampNeg → j < 4096 → X (4096 * k' + j) = gm 3 (4096 * k' + j))) : dsC zv k (-1) F = mA gm k A ∧ RW v gv (dsG zv k G) nm (va_up gm 3 (mX gm k X)) := by
  refine ⟨read_ok h (fun p a b c => (hd p a b c).1), h.1, h.2.1, h.2.2.1, h.2.2.2.1, h.2.2.2.2.1, ?_⟩
  by_cases hk : 0 ≤ k.toInt ∧ k.toInt ≤ 3
  · rcases tw h hk with ⟨h1, h2⟩ | ⟨p, h1, h2, h3⟩
    · have e1 : dsG zv k G = zv := dsC_n hk h1
      have e2 : mX gm k X = gm 3 := if_neg h2
      rw [e1, e2, up_id (f := gm) (k := 3) rfl]
      exact h.2.2.2.2.2
    · have e1 : dsG zv k G = va_up zv k.toNatClampNeg (some (p.1, p.2.1, G p)) := dsC_y hk h1
      have e2 : mX gm k X = X := if_pos h2
      rw [e1, e2]
      obtain ⟨d1, d2, d3⟩ := hd p h2 h1 h3
      intro j hj
      obtain ⟨a, b⟩ := h.2.2.2.2.2 j hj
      by_cases q : j = k.toNatClampNeg
      · subst q
        rw [va_up_self]
        refine ⟨fun hn => (by cases hn), fun p' hp' => ?_⟩
        cases hp'
        exact ⟨h3.1, h3.2.1, h3.2.2.1, h3.2.2.2.1, d2⟩
      · rw [va_up_ne _ _ q]
        refine ⟨a, fun p' hp' => ?_⟩
        obtain ⟨b1, b2, b3, b4, b5⟩ := b p' hp'
        exact ⟨b1, b2, b3, b4, fun t ht => (b5 t ht).trans (d3 j t q ht).symm⟩
  · have e1 : dsG zv k G = zv := dsC_k hk
    have e2 : mX gm k X = gm 3 := if_neg (fun q => hk ⟨q.1, q.2.1⟩)
    rw [e1, e2, up_id (f := gm) (k := 3) rfl]
    exact h.2.2.2.2.2
end
theorem dr_fin {T wy : Int32} {G d gd : Nat → Int32} {M : M3} {kk : Nat} (h1 : ∀ j : Nat, j < 4096 → G j = if M.1 j = 0 then d j else laidP wy (M.2.2 j) (d j) (M.2.1 j)) (h2 : T = nI (cntP M.1 4096)) (h3 : ∀ j : Nat, j < 4096 → d j = gd (4096 * kk + j)) : T = nI (cntP M.1 4096) ∧ (∀ j : Nat, j < 4096 → G j = lysN wy gd M.1 M.2.1 M.2.2 kk 4096 (4096 * kk + j)) ∧ (∀ k' j : Nat, k' ≠ kk → j < 4096 → lysN wy gd M.1 M.2.1 M.2.2 kk 4096 (4096 * k' + j) = gd (4096 * k' + j)) := by
  refine ⟨h2, fun j hj => ?_, fun k' j hne hj => ?_⟩
  · have e : 4096 * kk + j - 4096 * kk = j := by omega
    rw [h1 j hj]
    unfold lysN
    rw [e]
    by_cases c : M.1 j = 0
    · rw [if_pos c, if_neg (fun q => q.2.2 c)]
      exact h3 j hj
    · rw [if_neg c, if_pos ⟨by omega, by omega, c⟩, h3 j hj]
  · unfold lysN
    rw [if_neg]
    intro q
    omega
/-! the other calls -/
section
variable {n nm : Nat → Int32} {g gm : Nat → Nat → Int32} {z : Nat → Option Zv}
theorem RW_ink {a : Int32} (h : RW n g z nm gm) : RW (va_up n 1 a) g z (va_up nm 0 a) gm := ⟨⟨h.1.1, rfl, h.1.2.2⟩, h.2⟩
theorem RW_way {a b : Int32} (h : RW n g z nm gm) : RW (va_up (va_up n 2 a) 3 b) g z (va_up (va_up nm 1 a) 2 b) gm := ⟨⟨h.1.1, h.1.2.1, rfl, rfl⟩, h.2⟩
theorem RW_clip {x y z9 w9 : Int32} (h : RW n g z nm gm) : RW (va_up (va_up (va_up (va_up n 4 x) 5 y) 6 z9) 7 w9) g z (va_up (va_up (va_up (va_up (va_up nm 3 1) 4 x) 5 z9) 6 y) 7 w9) gm := ⟨h.1, Or.inr ⟨rfl, rfl, rfl, rfl, rfl⟩, h.2.2⟩
theorem RW_dash {a : Int32} (h : RW n g z nm gm) : RW (va_up n 0 a) g z (va_up nm 8 a) gm := ⟨⟨rfl, h.1.2⟩, h.2⟩
theorem RW_clear (h : RW n g z nm gm) : RW (va_up n 12 0) g z (va_up nm 9 0) gm := ⟨h.1, h.2.1, PR_0, h.2.2.2⟩
theorem RW_corner {i : Nat} {x y v : Int32} (h : RW n g z nm gm) : RW n (va_up (va_up (va_up g 4 (upd (g 4) i x)) 5 (upd (g 5) i y)) 6 (upd (g 6) i v)) z nm (va_up (va_up (va_up gm 10 (upd (gm 10) i x)) 11 (upd (gm 11) i y)) 12 (upd (gm 12) i v)) := by
  obtain ⟨r0, r1, r2, ⟨r6, r7, r8⟩, r4, r5⟩ := h
  refine ⟨r0, r1, r2, ⟨?_, ?_, ?_⟩, r4, SZ_c r5 (fun _ _ => eqZ_refl _) rfl rfl rfl⟩
  · show upd (g 4) i x = upd (gm 10) i x
    rw [r6]
  · show upd (g 5) i y = upd (gm 11) i y
    rw [r7]
  · show upd (g 6) i v = upd (gm 12) i v
    rw [r8]
theorem RW_point {u v b : Int32} (h : RW n g z nm gm) (hp : 0 ≤ (n 12).toInt ∧ (n 12).toInt < 48) : RW (va_up (va_up (va_up n 12 (n 12 + 1)) 13 (adF b (n 12) u (n 13))) 14 (adF b (n 12) v (n 14))) (va_up (va_up (va_up (va_up g 0 (upd (g 0) (n 12).toNatClampNeg u)) 1 (upd (g 1) (n 12).toNatClampNeg v)) 2 (adT b (n 12) u (n 13) (g 2))) 3 (adT b (n 12) v (n 14) (g 3))) z (va_up nm 9 (nm 9 + 1)) (va_up (va_up (va_up gm 7 (upd (gm 7) (nm 9).toNatClampNeg u)) 8 (upd (gm 8) (nm 9).toNatClampNeg v)) 9 (upd (gm 9) (nm 9).toNatClampNeg (pfP b (nm 9)))) := by
  obtain ⟨r0, r1, r2, r3, r4, r5⟩ := h
  refine ⟨r0, r1, ?_, r3, r4, SZ_c r5 (fun _ _ => eqZ_refl _) rfl rfl rfl⟩
  have e : n 12 = nm 9 := r2.1
  show PR (n 12 + 1) (adF b (n 12) u (n 13)) (adF b (n 12) v (n 14)) (upd (g 0) (n 12).toNatClampNeg u) (upd (g 1) (n 12).toNatClampNeg v) (adT b (n 12) u (n 13) (g 2)) (adT b (n 12) v (n 14) (g 3)) (nm 9 + 1) (upd (gm 7) (nm 9).toNatClampNeg u) (upd (gm 8) (nm 9).toNatClampNeg v) (upd (gm 9) (nm 9).toNatClampNeg (pfP b (nm 9)))
  rw [← e] at r2 ⊢
  exact PR_pt r2 hp
theorem RW_sheet {k : Nat} {w h : Int32} (hr : RW n g z nm gm) (hw : 1 ≤ w.toInt ∧ w.toInt ≤ 64) (hh : 1 ≤ h.toInt ∧ h.toInt ≤ 64) : RW n g (va_up z k (some (w, h, fun _ => 0))) nm (va_up (va_up (va_up gm 1 (upd (gm 1) k w)) 2 (upd (gm 2) k h)) 3 (zrK (gm 3) k 4096)) := by
  obtain ⟨r0, r1, r2, r3, r4, r5⟩ := hr
  refine ⟨r0, r1, r2, r3, r4, fun j hj => ?_⟩
  obtain ⟨a, b⟩ := r5 j hj
  by_cases q : j = k
  · subst q
    rw [va_up_self]
    refine ⟨fun hn => (by cases hn), fun p hp => ?_⟩
    cases hp
    refine ⟨?_, ?_, hw, hh, fun t ht => ?_⟩
    · show w = upd (gm 1) j w j
      rw [pk_us]
    · show h = upd (gm 2) j h j
      rw [pk_us]
    · show (0 : Int32) = zrK (gm 3) j 4096 (4096 * j + t)
      exact (if_pos (by omega)).symm
  · rw [va_up_ne _ _ q]
    refine ⟨fun hn => ?_, fun p hp => ?_⟩
    · show upd (gm 1) k w j = 0
      rw [pk_un q]
      exact a hn
    · obtain ⟨b1, b2, b3, b4, b5⟩ := b p hp
      refine ⟨?_, ?_, b3, b4, fun t ht => ?_⟩
      · show p.1 = upd (gm 1) k w j
        rw [pk_un q]
        exact b1
      · show p.2.1 = upd (gm 2) k h j
        rw [pk_un q]
        exact b2
      · show p.2.2 t = zrK (gm 3) k 4096 (4096 * j + t)
        rw [b5 t ht]
        exact (if_neg (by omega)).symm
end
section
variable {n nm n' nm' : Nat → Int32} {g gm g' gm' : Nat → Nat → Int32} {sh sh' : Nat → Option Sh} {f : Nat → Option Nat}
theorem RW_sheetc {k w h : Int32} (hr : RW n g (fun k => vO (sh k)) nm gm) (h1 : if (0 ≤ k.toInt ∧ k.toInt ≤ 3) ∧ (1 ≤ w.toInt ∧ w.toInt ≤ 64) ∧ (1 ≤ h.toInt ∧ h.toInt ≤ 64) then KC n g (va_up (fun k => vO (sh k)) k.toNatClampNeg (some (w, h, fun _ => 0))) n' g' sh' else KC n g (fun k => vO (sh k)) n' g' sh') (h2 : if (0 ≤ k.toInt ∧ k.toInt ≤ 3) ∧ (1 ≤ w.toInt ∧ w.toInt ≤ 64) ∧ (1 ≤ h.toInt ∧ h.toInt ≤ 64) then MC nm (va_up (va_up (va_up gm 1 (upd (gm 1) k.toNatClampNeg w)) 2 (upd (gm 2) k.toNatClampNeg h)) 3 (zrK (gm 3) k.toNatClampNeg 4096)) nm' gm' else MC nm gm nm' gm') : RW n' g' (fun k => vO (sh' k)) nm' gm' := by
  by_cases c : (0 ≤ k.toInt ∧ k.toInt ≤ 3) ∧ (1 ≤ w.toInt ∧ w.toInt ≤ 64) ∧ (1 ≤ h.toInt ∧ h.toInt ≤ 64)
  · rw [if_pos c] at h1 h2
    exact RW_c (RW_sheet hr c.2.1 c.2.2) h1 h2
  · rw [if_neg c] at h1 h2
    exact RW_c hr h1 h2
theorem RW_pointc {x y b : Int32} (hr : RW n g (fun k => vO (sh k)) nm gm) (hok : okC n f sh) (h1 : if (n 12).toInt < 48 ∧ ((-4096 ≤ x.toInt ∧ x.toInt ≤ 4096) ∧ (-4096 ≤ y.toInt ∧ y.toInt ≤ 4096)) then (KC (va_up (va_up (va_up n 12 (n 12 + 1)) 13 (adF b (n 12) (2 * x) (n 13))) 14 (adF b (n 12) (2 * y) (n 14))) (va_up (va_up (va_up (va_up g 0 (upd (g 0) (n 12).toNatClampNeg (2 * x))) 1 (upd (g 1) (n 12).toNatClampNeg (2 * y))) 2 (adT b (n 12) (2 * x) (n 13) (g 2))) 3 (adT b (n 12) (2 * y) (n 14) (g 3))) (fun k => vO (sh k))) n' g' sh' else KC n g (fun k => vO (sh k)) n' g' sh') (h2 : if (nm 9).toInt < 48 ∧ ((-4096 ≤ x.toInt ∧ x.toInt ≤ 4096) ∧ (-4096 ≤ y.toInt ∧ y.toInt ≤ 4096)) then MC (va_up nm 9 (nm 9 + 1)) (va_up (va_up (va_up gm 7 (upd (gm 7) (nm 9).toNatClampNeg (2 * x))) 8 (upd (gm 8) (nm 9).toNatClampNeg (2 * y))) 9 (upd (gm 9) (nm 9).toNatClampNeg (pfP b (nm 9)))) nm' gm' else MC nm gm nm' gm') : RW n' g' (fun k => vO (sh' k)) nm' gm' := by
  have e : n 12 = nm 9 := hr.2.2.1.1
  by_cases c : (n 12).toInt < 48 ∧ ((-4096 ≤ x.toInt ∧ x.toInt ≤ 4096) ∧ (-4096 ≤ y.toInt ∧ y.toInt ≤ 4096))
  · have c2 := c
    rw [e] at c2
    rw [if_pos c] at h1
    rw [if_pos c2] at h2
    exact RW_c (RW_point hr ⟨hok.2.1.1, c.1⟩) h1 h2
  · have c2 := c
    rw [e] at c2
    rw [if_neg c] at h1
    rw [if_neg c2] at h2
    exact RW_c hr h1 h2
theorem RW_cornerc {i x y v : Int32} (hr : RW n g (fun k => vO (sh k)) nm gm) (h1 : if (0 ≤ i.toInt ∧ i.toInt ≤ 2) ∧ (-200 ≤ x.toInt ∧ x.toInt ≤ 200) ∧ (-200 ≤ y.toInt ∧ y.toInt ≤ 200) then KC n (va_up (va_up (va_up g 4 (upd (g 4) i.toNatClampNeg x)) 5 (upd (g 5) i.toNatClampNeg y)) 6 (upd (g 6) i.toNatClampNeg (inkP v))) (fun k => vO (sh k)) n' g' sh' else KC n g (fun k => vO (sh k)) n' g' sh') (h2 : if (0 ≤ i.toInt ∧ i.toInt ≤ 2) ∧ (-200 ≤ x.toInt ∧ x.toInt ≤ 200) ∧ (-200 ≤ y.toInt ∧ y.toInt ≤ 200) then MC nm (va_up (va_up (va_up gm 10 (upd (gm 10) i.toNatClampNeg x)) 11 (upd (gm 11) i.toNatClampNeg y)) 12 (upd (gm 12) i.toNatClampNeg (inkP v))) nm' gm' else MC nm gm nm' gm') : RW n' g' (fun k => vO (sh' k)) nm' gm' := by
  by_cases c : (0 ≤ i.toInt ∧ i.toInt ≤ 2) ∧ (-200 ≤ x.toInt ∧ x.toInt ≤ 200) ∧ (-200 ≤ y.toInt ∧ y.toInt ≤ 200)
  · rw [if_pos c] at h1 h2
    exact RW_c (RW_corner hr) h1 h2
  · rw [if_neg c] at h1 h2
    exact RW_c hr h1 h2
theorem RW_wayc {P : Prop} [Decidable P] {a b : Int32} (hr : RW n g (fun k => vO (sh k)) nm gm) (h1 : KC (va_up (va_up n 2 (if P then a else n 2)) 3 (if P then b else n 3)) g (fun k => vO (sh k)) n' g' sh') (h2 : MC (va_up (va_up nm 1 (if P then a else nm 1)) 2 (if P then b else nm 2)) gm nm' gm') : RW n' g' (fun k => vO (sh' k)) nm' gm' := by
  rw [← hr.1.2.2.1, ← hr.1.2.2.2] at h2
  exact RW_c (RW_way hr) h1 h2
theorem wd_all (h : RW n g (fun k => vO (sh k)) nm gm) (hok : okC n f sh) (hom : okM nm gm) (u v : Int32) : wnN (g 0) (g 1) (g 2) (g 3) u v (n 12).toNatClampNeg = wdN (gm 7) (gm 8) (gm 9) (nm 9).toNatClampNeg u.toInt v.toInt (nm 9).toNatClampNeg := by
  have hp := h.2.2.1
  have e : n 12 = nm 9 := hp.1
  have hb : (n 12).toNatClampNeg ≤ 48 := by have := pn_ti hok.2.1; have := hok.2.1; omega
  rw [wn_wd hp hb hom.2.2.2.1 u v _ (Nat.le_refl _), e]
theorem rw_q8 (h : RW n g (fun k => vO (sh k)) nm gm) (hok : okC n f sh) (hom : okM nm gm) : ∀ j : Nat, j < (n 12).toNatClampNeg → c8 (g 0 j) ∧ c8 (g 1 j) ∧ c8 (g 2 j) ∧ c8 (g 3 j) := by
  intro j hj
  have hb : (n 12).toNatClampNeg ≤ 48 := by have := pn_ti hok.2.1; have := hok.2.1; omega
  obtain ⟨h1, h2, h3, h4⟩ := h.2.2.1.2.1 j hj
  have ht := toN_lt (pf := gm 9) hj
  rw [h1, h2, h3, h4]
  have b1 := hom.2.2.2.1 j (by omega)
  have b2 := hom.2.2.2.1 (toN (gm 9) (n 12).toNatClampNeg j) (by omega)
  exact ⟨b1.1, b1.2, b2.1, b2.2⟩
theorem rw_tb (h : RW n g (fun k => vO (sh k)) nm gm) (hom : okM nm gm) : ∀ j : Nat, j < 3 → (-200 ≤ (g 4 j).toInt ∧ (g 4 j).toInt ≤ 200) ∧ (-200 ≤ (g 5 j).toInt ∧ (g 5 j).toInt ≤ 200) := by
  rw [h.2.2.2.1.1, h.2.2.2.1.2.1]
  exact hom.2.2.2.2
end

/-! FILL: the same places -/
theorem vJ5 (y : Nat) : vJ 5 16 (nI y) 0 = nI (32 * y + 16) := by
  unfold vJ
  rw [show nI 0 <<< ((5 : Int32) &&& 31) = 0 by decide, Int32.add_zero, show (32 : Int32) = nI 32 from rfl, show (16 : Int32) = nI 16 from rfl, pk_mul, nI_add, Nat.mul_comm]
theorem shl3 : ∀ j : Nat, j < 4 → nI j <<< ((3 : Int32) &&& 31) = nI (8 * j) := by decide
theorem vJ3 (y j : Nat) (hj : j < 4) : vJ 3 4 (nI y) j = nI (32 * y + 8 * j + 4) := by
  unfold vJ
  rw [shl3 j hj, show (32 : Int32) = nI 32 from rfl, show (4 : Int32) = nI 4 from rfl, pk_mul, nI_add, nI_add, Nat.mul_comm]
theorem sN_4 {px py pf : Nat → Int32} {pn : Nat} {ru : Int32} {X Y j : Nat} : sN px py pf pn ru X Y (4 * j + 4) = sN px py pf pn ru X Y (4 * j) + iz ru (wdN px py pf pn (nI (32 * X + 8 * 0 + 4)).toInt (nI (32 * Y + 8 * j + 4)).toInt pn) + iz ru (wdN px py pf pn (nI (32 * X + 8 * 1 + 4)).toInt (nI (32 * Y + 8 * j + 4)).toInt pn) + iz ru (wdN px py pf pn (nI (32 * X + 8 * 2 + 4)).toInt (nI (32 * Y + 8 * j + 4)).toInt pn) + iz ru (wdN px py pf pn (nI (32 * X + 8 * 3 + 4)).toInt (nI (32 * Y + 8 * j + 4)).toInt pn) := by
  show sN px py pf pn ru X Y (4 * j) + iz ru (wdN px py pf pn (nI (32 * X + 8 * ((4 * j) % 4) + 4)).toInt (nI (32 * Y + 8 * ((4 * j) / 4) + 4)).toInt pn) + iz ru (wdN px py pf pn (nI (32 * X + 8 * ((4 * j + 1) % 4) + 4)).toInt (nI (32 * Y + 8 * ((4 * j + 1) / 4) + 4)).toInt pn) + iz ru (wdN px py pf pn (nI (32 * X + 8 * ((4 * j + 2) % 4) + 4)).toInt (nI (32 * Y + 8 * ((4 * j + 2) / 4) + 4)).toInt pn) + iz ru (wdN px py pf pn (nI (32 * X + 8 * ((4 * j + 3) % 4) + 4)).toInt (nI (32 * Y + 8 * ((4 * j + 3) / 4) + 4)).toInt pn) = _
  rw [show (4 * j) % 4 = 0 by omega, show (4 * j + 1) % 4 = 1 by omega, show (4 * j + 2) % 4 = 2 by omega, show (4 * j + 3) % 4 = 3 by omega, show (4 * j) / 4 = j by omega, show (4 * j + 1) / 4 = j by omega, show (4 * j + 2) / 4 = j by omega, show (4 * j + 3) / 4 = j by omega]
theorem cf_same {qa qb qc qd px py pf : Nat → Int32} {N M : Nat} (hw : ∀ u v : Int32, wnN qa qb qc qd u v N = wdN px py pf M u.toInt v.toInt M) {ru sm : Int32} {y x : Nat} : cfC qa qb qc qd N ru sm y x = cfM px py pf M ru sm y x := by
  unfold cfC cfM
  by_cases c : sm = 0
  · rw [if_pos c, if_pos c]
    show 0 + iz ru (wnN qa qb qc qd (nI ((x * 1 + 0) * 32 + 16)) (vJ 5 16 (nI y) 0) N) = _
    rw [Int32.zero_add, hw, vJ5, show (x * 1 + 0) * 32 + 16 = 32 * x + 16 by omega]
  · rw [if_neg c, if_neg c]
    have key : ∀ j i : Nat, j < 4 → wnN qa qb qc qd (nI ((x * 4 + i) * 8 + 4)) (vJ 3 4 (nI y) j) N = wdN px py pf M (nI (32 * x + 8 * i + 4)).toInt (nI (32 * y + 8 * j + 4)).toInt M := by
      intro j i hj
      rw [hw, vJ3 y j hj, show (x * 4 + i) * 8 + 4 = 32 * x + 8 * i + 4 by omega]
    have st : ∀ j : Nat, j ≤ 4 → cvN qa qb qc qd N ru 8 4 4 3 4 (nI y) x j = sN px py pf M ru x y (4 * j) := by
      intro j
      induction j with
      | zero => intro _; rfl
      | succ j ih =>
        intro hj
        show adR (fun t => wnN qa qb qc qd (nI (t * 8 + 4)) (vJ 3 4 (nI y) j) N) ru 4 x (cvN qa qb qc qd N ru 8 4 4 3 4 (nI y) x j) 4 = sN px py pf M ru x y (4 * j + 4)
        rw [ih (by omega), sN_4, ← key j 0 (by omega), ← key j 1 (by omega), ← key j 2 (by omega), ← key j 3 (by omega)]
        rfl
    exact st 4 (Nat.le_refl 4)
theorem flQ_eq {cf cf' : Nat → Nat → Int32} {sm ik op : Int32} {j i : Nat} (h : cf j i = cf' j i) : flQ cf sm ik op j i = flQ cf' sm ik op j i := by
  unfold flQ
  rw [h]
theorem gl_ds {Q : Nat → Nat → List Req} {X Y : Nat → Int32} {W H : Nat} (hQ : ∀ j i q, q ∈ Q j i → q.1 = X i ∧ q.2.1 = Y j) (h1 : ∀ j i, (Q j i).length ≤ 1) (hX : ∀ i i' : Nat, i < i' → i' < W → (X i).toInt ≠ (X i').toInt) (hY : ∀ j j' : Nat, j < j' → j' < H → (Y j).toInt ≠ (Y j').toInt) : dsL (gL Q W H) :=
  List.Pairwise.imp (fun {a b} h q => h.elim (fun h => h q.1) (fun h => h q.2)) (gL_pw (X := fun i => (X i).toInt) (Y := fun j => (Y j).toInt) (fun j i q hq => ⟨congrArg Int32.toInt (hQ j i q hq).1, congrArg Int32.toInt (hQ j i q hq).2⟩) h1 hX H hY)
theorem nI_ne {a b N : Nat} (h : a < b) (hb : b < N) (hN : N ≤ 64) : (nI a).toInt ≠ (nI b).toInt := by
  rw [nI_toInt (by omega), nI_toInt (by omega)]
  omega
theorem fl_ds {cf : Nat → Nat → Int32} {sm ik op : Int32} {W H : Nat} (hW : W ≤ 64) (hH : H ≤ 64) : dsL (gL (flQ cf sm ik op) W H) := by
  refine gl_ds (X := nI) (Y := nI) (fun j i q hq => ?_) (fun j i => ?_) (fun i i' a b => nI_ne a b hW) (fun i i' a b => nI_ne a b hH)
  · unfold flQ at hq
    split at hq
    · exact absurd hq (List.not_mem_nil)
    · rw [List.mem_singleton.mp hq]
      exact ⟨rfl, rfl⟩
  · unfold flQ
    split <;> simp
theorem sh_ds {ua ub uc : Nat → Int32} {op : Int32} {W H : Nat} (hW : W ≤ 64) (hH : H ≤ 64) : dsL (gL (shQ ua ub uc op) W H) := by
  refine gl_ds (X := nI) (Y := nI) (fun j i q hq => ?_) (fun j i => ?_) (fun i i' a b => nI_ne a b hW) (fun i i' a b => nI_ne a b hH)
  · unfold shQ at hq
    split at hq
    · exact absurd hq (List.not_mem_nil)
    · rw [List.mem_singleton.mp hq]
      exact ⟨rfl, rfl⟩
  · unfold shQ
    split <;> simp
theorem cy_ds {ax ay aw ah ox oy ow oh w2 h2 op : Int32} {gs : Nat → Int32} {W H : Nat} (hx : -200 ≤ ox.toInt ∧ ox.toInt ≤ 200) (hy : -200 ≤ oy.toInt ∧ oy.toInt ≤ 200) (hW : W ≤ 64) (hH : H ≤ 64) : dsL (gL (cyQ ax ay aw ah ox oy ow oh w2 h2 op gs) W H) := by
  have pl : ∀ (x : Int32) (a b : Nat), (-200 ≤ x.toInt ∧ x.toInt ≤ 200) → a < b → b < 64 → (x + nI a).toInt ≠ (x + nI b).toInt := fun x a b h1 h2 h3 => by
    rw [(pl_ti (a := a) (by omega) (by omega)).1, (pl_ti (a := b) (by omega) (by omega)).1]
    omega
  refine gl_ds (X := fun i => ox + nI i) (Y := fun j => oy + nI j) (fun j i q hq => ?_) (fun j i => ?_) (fun i i' a b => pl ox i i' hx a (by omega)) (fun i i' a b => pl oy i i' hy a (by omega))
  · unfold cyQ at hq
    split at hq
    · rw [List.mem_singleton.mp hq]
      exact ⟨rfl, rfl⟩
    · exact absurd hq (List.not_mem_nil)
  · unfold cyQ
    split <;> simp
theorem cy_eq {ax ay aw ah ox oy ow oh w2 h2 op : Int32} {gs gs' : Nat → Int32} {j i : Nat} (hw : w2.toInt ≤ 64) (hh : h2.toInt ≤ 64) (h : ∀ t : Nat, t < 4096 → gs t = gs' t) : cyQ ax ay aw ah ox oy ow oh w2 h2 op gs j i = cyQ ax ay aw ah ox oy ow oh w2 h2 op gs' j i := by
  unfold cyQ
  by_cases c : 0 ≤ (cyX ax aw ow i).toInt ∧ (cyX ax aw ow i).toInt < w2.toInt ∧ 0 ≤ (cyX ay ah oh j).toInt ∧ (cyX ay ah oh j).toInt < h2.toInt
  · rw [if_pos c, if_pos c, h _ (ix_lt (by omega) (by omega) (by omega) (by omega))]
  · rw [if_neg c, if_neg c]
/-! the triangle -/
theorem eg_sc {a b c d u v : Int} : egI (16 * a) (16 * b) (16 * c) (16 * d) (16 * u) (16 * v) = egI a b c d u v := by
  have e1 : (16 * v - 16 * b) * (16 * c - 16 * a) = 256 * ((v - b) * (c - a)) := by
    rw [← Int.mul_sub, ← Int.mul_sub, Int.mul_assoc, Int.mul_left_comm (v - b) 16]
    omega
  have e2 : (16 * u - 16 * a) * (16 * d - 16 * b) = 256 * ((u - a) * (d - b)) := by
    rw [← Int.mul_sub, ← Int.mul_sub, Int.mul_assoc, Int.mul_left_comm (u - a) 16]
    omega
  unfold egI
  rw [e1, e2]
  by_cases h1 : b ≤ v ∧ v < d
  · rw [if_pos (show 16 * b ≤ 16 * v ∧ 16 * v < 16 * d by omega), if_pos h1]
    by_cases k : (v - b) * (c - a) ≤ (u - a) * (d - b)
    · rw [if_pos k, if_pos (by omega)]
    · rw [if_neg k, if_neg (by omega)]
  · rw [if_neg (show ¬ (16 * b ≤ 16 * v ∧ 16 * v < 16 * d) by omega), if_neg h1]
    by_cases h2 : d ≤ v ∧ v < b
    · rw [if_pos (show 16 * d ≤ 16 * v ∧ 16 * v < 16 * b by omega), if_pos h2]
      by_cases k : (u - a) * (d - b) ≤ (v - b) * (c - a)
      · rw [if_pos k, if_pos (by omega)]
      · rw [if_neg k, if_neg (by omega)]
    · rw [if_neg (show ¬ (16 * d ≤ 16 * v ∧ 16 * v < 16 * b) by omega), if_neg h2]
theorem d2_ti {x : Int32} (h : -200 ≤ x.toInt ∧ x.toInt ≤ 200) : (2 * x).toInt = 2 * x.toInt := by
  rw [Int32.toInt_mul, show (2 : Int32).toInt = 2 by decide]
  exact Int.bmod_eq_of_le (by omega) (by omega)
theorem u2_nI (i : Nat) : (2 : Int32) * nI i + 1 = nI (2 * i + 1) := by
  rw [show (2 : Int32) = nI 2 from rfl, show (1 : Int32) = nI 1 from rfl, pk_mul, nI_add]
def cBd (kx ky : Nat → Int32) : Prop := ∀ j : Nat, j < 3 → (-200 ≤ (kx j).toInt ∧ (kx j).toInt ≤ 200) ∧ (-200 ≤ (ky j).toInt ∧ (ky j).toInt ≤ 200)
theorem wn_tg {kx ky : Nat → Int32} {i j : Nat} (hb : cBd kx ky) (hi : i < 64) (hj : j < 64) : wnN (tq kx) (tq ky) (tr kx) (tr ky) (nI (32 * i + 16)) (nI (32 * j + 16)) 3 = tgS kx ky (2 * nI i + 1) (2 * nI j + 1) := by
  have hu : (nI (32 * i + 16)).toInt = 16 * (2 * i + 1 : Int) := by rw [nI_toInt (by omega)]; omega
  have hv : (nI (32 * j + 16)).toInt = 16 * (2 * j + 1 : Int) := by rw [nI_toInt (by omega)]; omega
  have hu2 : ((2 : Int32) * nI i + 1).toInt = (2 * i + 1 : Int) := by rw [u2_nI, nI_toInt (by omega)]; omega
  have hv2 : ((2 : Int32) * nI j + 1).toInt = (2 * j + 1 : Int) := by rw [u2_nI, nI_toInt (by omega)]; omega
  have q8 : ∀ x : Int32, (-200 ≤ x.toInt ∧ x.toInt ≤ 200) → c8 (x * 32) := fun x hx => by
    have := t32_ti hx
    unfold c8
    omega
  have one : ∀ (a b : Nat) (s : Int32), a < 3 → b < 3 → (if tnP (ky a * 32) (ky b * 32) (nI (32 * j + 16)) = 0 then s else if (frP (kx a * 32) (ky a * 32) (kx b * 32) (ky b * 32) (nI (32 * j + 16))).toInt ≤ (nI (32 * i + 16)).toInt then s + tnP (ky a * 32) (ky b * 32) (nI (32 * j + 16)) else s) = s + tgE kx ky a b (2 * nI i + 1) (2 * nI j + 1) := by
    intro a b s ha hb9
    rw [eg_eq (q8 _ (hb a ha).1) (q8 _ (hb a ha).2) (q8 _ (hb b hb9).1) (q8 _ (hb b hb9).2)]
    unfold tgE
    rw [t32_ti (hb a ha).1, t32_ti (hb a ha).2, t32_ti (hb b hb9).1, t32_ti (hb b hb9).2, hu, hv, hu2, hv2, d2_ti (hb a ha).1, d2_ti (hb a ha).2, d2_ti (hb b hb9).1, d2_ti (hb b hb9).2]
    have e : ∀ t : Int, t * 32 = 16 * (2 * t) := fun t => by omega
    rw [e, e, e, e, eg_sc]
  have s0 : wnN (tq kx) (tq ky) (tr kx) (tr ky) (nI (32 * i + 16)) (nI (32 * j + 16)) 1 = 0 + tgE kx ky 0 1 (2 * nI i + 1) (2 * nI j + 1) := one 0 1 0 (by omega) (by omega)
  have s1 : wnN (tq kx) (tq ky) (tr kx) (tr ky) (nI (32 * i + 16)) (nI (32 * j + 16)) 2 = wnN (tq kx) (tq ky) (tr kx) (tr ky) (nI (32 * i + 16)) (nI (32 * j + 16)) 1 + tgE kx ky 1 2 (2 * nI i + 1) (2 * nI j + 1) := one 1 2 _ (by omega) (by omega)
  have s2 : wnN (tq kx) (tq ky) (tr kx) (tr ky) (nI (32 * i + 16)) (nI (32 * j + 16)) 3 = wnN (tq kx) (tq ky) (tr kx) (tr ky) (nI (32 * i + 16)) (nI (32 * j + 16)) 2 + tgE kx ky 2 0 (2 * nI i + 1) (2 * nI j + 1) := one 2 0 _ (by omega) (by omega)
  rw [s2, s1, s0]
  rfl
theorem cfT_0 {kx ky : Nat → Int32} {i j : Nat} (hb : cBd kx ky) (hi : i < 64) (hj : j < 64) : cfT kx ky j i = 0 ↔ tgS kx ky (2 * nI i + 1) (2 * nI j + 1) = 0 := by
  have e : cfT kx ky j i = iz 1 (tgS kx ky (2 * nI i + 1) (2 * nI j + 1)) := by
    show 0 + iz 1 (wnN (tq kx) (tq ky) (tr kx) (tr ky) (nI ((i * 1 + 0) * 32 + 16)) (vJ 5 16 (nI j) 0) 3) = _
    rw [Int32.zero_add, vJ5, show (i * 1 + 0) * 32 + 16 = 32 * i + 16 by omega, wn_tg hb hi hj]
  rw [e]
  unfold iz
  have P : (if (1 : Int32) = 0 then tgS kx ky (2 * nI i + 1) (2 * nI j + 1) &&& 1 = 1 else ¬ tgS kx ky (2 * nI i + 1) (2 * nI j + 1) = 0) ↔ ¬ tgS kx ky (2 * nI i + 1) (2 * nI j + 1) = 0 := by
    rw [if_neg (by decide)]
  by_cases c : tgS kx ky (2 * nI i + 1) (2 * nI j + 1) = 0
  · rw [if_neg (fun q => P.mp q c)]
    exact ⟨fun _ => c, fun _ => rfl⟩
  · rw [if_pos (P.mpr c)]
    exact ⟨fun q => absurd q (by decide), fun q => absurd q c⟩
theorem ar_aa {bx bY cx cy x y : Int32} : arP bx bY cx cy x y = aaP (2 * x + 1) (2 * y + 1) (2 * bx) (2 * bY) (2 * cx) (2 * cy) := by
  unfold arP aaP
  rw [Int32.mul_comm (2 * bY - (2 * y + 1)) (2 * cx - (2 * x + 1))]
  generalize (2 * bx - (2 * x + 1)) * (2 * cy - (2 * y + 1)) - (2 * cx - (2 * x + 1)) * (2 * bY - (2 * y + 1)) = d
  by_cases c : (0 : Int32) ≤ d
  · have c1 : 0 ≤ d.toInt := f_le (by decide) rfl c
    rw [if_pos c, if_neg (by omega)]
  · have c1 : ¬ 0 ≤ d.toInt := fn_le (by decide) rfl c
    rw [if_neg c, if_pos (by omega), Int32.zero_sub]
/-- twice the area, told in whole numbers -/
def crI (ax ay bx bY cx cy : Int) : Int := (bx - ax) * (cy - ay) - (cx - ax) * (bY - ay)
theorem mul_bd {a b M : Int} (hM : 0 ≤ M) (ha : -M ≤ a ∧ a ≤ M) (hb : -M ≤ b ∧ b ≤ M) : (a * b).natAbs ≤ (M * M).natAbs := by
  rw [Int.natAbs_mul, Int.natAbs_mul]
  exact Nat.mul_le_mul (by omega) (by omega)
theorem aa_ti {xa ya xb yb xc yc : Int32} (h1 : -1000 ≤ xa.toInt ∧ xa.toInt ≤ 1000) (h2 : -1000 ≤ ya.toInt ∧ ya.toInt ≤ 1000) (h3 : -1000 ≤ xb.toInt ∧ xb.toInt ≤ 1000) (h4 : -1000 ≤ yb.toInt ∧ yb.toInt ≤ 1000) (h5 : -1000 ≤ xc.toInt ∧ xc.toInt ≤ 1000) (h6 : -1000 ≤ yc.toInt ∧ yc.toInt ≤ 1000) : (aaP xa ya xb yb xc yc).toInt = ((crI xa.toInt ya.toInt xb.toInt yb.toInt xc.toInt yc.toInt).natAbs : Int) ∧ (crI xa.toInt ya.toInt xb.toInt yb.toInt xc.toInt yc.toInt).natAbs ≤ 8000000 := by
  have e1 : (xb - xa).toInt = xb.toInt - xa.toInt := sub8 (by omega) (by omega)
  have e2 : (yc - ya).toInt = yc.toInt - ya.toInt := sub8 (by omega) (by omega)
  have e3 : (xc - xa).toInt = xc.toInt - xa.toInt := sub8 (by omega) (by omega)
  have e4 : (yb - ya).toInt = yb.toInt - ya.toInt := sub8 (by omega) (by omega)
  have b1 := mul_bd (M := 2000) (by omega) (show -2000 ≤ xb.toInt - xa.toInt ∧ xb.toInt - xa.toInt ≤ 2000 by omega) (show -2000 ≤ yc.toInt - ya.toInt ∧ yc.toInt - ya.toInt ≤ 2000 by omega)
  have b2 := mul_bd (M := 2000) (by omega) (show -2000 ≤ xc.toInt - xa.toInt ∧ xc.toInt - xa.toInt ≤ 2000 by omega) (show -2000 ≤ yb.toInt - ya.toInt ∧ yb.toInt - ya.toInt ≤ 2000 by omega)
  have m1 : ((xb - xa) * (yc - ya)).toInt = (xb.toInt - xa.toInt) * (yc.toInt - ya.toInt) := by
    rw [Int32.toInt_mul, e1, e2]
    exact Int.bmod_eq_of_le (by omega) (by omega)
  have m2 : ((xc - xa) * (yb - ya)).toInt = (xc.toInt - xa.toInt) * (yb.toInt - ya.toInt) := by
    rw [Int32.toInt_mul, e3, e4]
    exact Int.bmod_eq_of_le (by omega) (by omega)
  have m3 : ((xb - xa) * (yc - ya) - (xc - xa) * (yb - ya)).toInt = crI xa.toInt ya.toInt xb.toInt yb.toInt xc.toInt yc.toInt := by
    rw [Int32.toInt_sub, m1, m2]
    exact Int.bmod_eq_of_le (by omega) (by omega)
  have bd : (crI xa.toInt ya.toInt xb.toInt yb.toInt xc.toInt yc.toInt).natAbs ≤ 8000000 := by
    unfold crI
    omega
  refine ⟨?_, bd⟩
  unfold aaP
  rw [m3]
  generalize crI xa.toInt ya.toInt xb.toInt yb.toInt xc.toInt yc.toInt = D at m3 bd
  by_cases c : D < 0
  · rw [if_pos c, Int32.toInt_neg, m3]
    rw [Int.bmod_eq_of_le (by omega) (by omega)]
    omega
  · rw [if_neg c, m3]
    omega
theorem sg_lo {ay bY cy K1 K2 K3 : Int} (id : ay * K1 + bY * K2 + cy * K3 = 0) (ha : ay ≤ 0) (hb : 0 < bY) (hc : 0 < cy) : (K3 ≤ 0 → K2 < 0 → K1 < 0) ∧ (0 < K3 → 0 ≤ K2 → 0 < K1) := by
  constructor
  · intro h3 h2
    have p1 : 0 < bY * -K2 := Int.mul_pos hb (by omega)
    have p2 : 0 ≤ cy * -K3 := Int.mul_nonneg (by omega) (by omega)
    rw [Int.mul_neg] at p1 p2
    apply Decidable.byContradiction
    intro q
    have p3 : 0 ≤ -ay * K1 := Int.mul_nonneg (by omega) (by omega)
    rw [Int.neg_mul] at p3
    omega
  · intro h3 h2
    have p1 : 0 ≤ bY * K2 := Int.mul_nonneg (by omega) h2
    have p2 : 0 < cy * K3 := Int.mul_pos hc h3
    apply Decidable.byContradiction
    intro q
    have p3 : 0 ≤ -ay * -K1 := Int.mul_nonneg (by omega) (by omega)
    rw [Int.neg_mul_neg] at p3
    omega
theorem sg_hi {ay bY cy K1 K2 K3 : Int} (id : ay * K1 + bY * K2 + cy * K3 = 0) (ha : 0 < ay) (hb : bY ≤ 0) (hc : cy ≤ 0) : (0 ≤ K3 → 0 < K2 → 0 ≤ K1) ∧ (K3 < 0 → K2 ≤ 0 → K1 ≤ 0) := by
  constructor
  · intro h3 h2
    have p1 : 0 ≤ -bY * K2 := Int.mul_nonneg (by omega) (by omega)
    have p2 : 0 ≤ -cy * K3 := Int.mul_nonneg (by omega) h3
    rw [Int.neg_mul] at p1 p2
    apply Decidable.byContradiction
    intro q
    have p3 : 0 < ay * -K1 := Int.mul_pos ha (by omega)
    rw [Int.mul_neg] at p3
    omega
  · intro h3 h2
    have p1 : 0 ≤ -bY * -K2 := Int.mul_nonneg (by omega) (by omega)
    have p2 : 0 ≤ -cy * -K3 := Int.mul_nonneg (by omega) (by omega)
    rw [Int.neg_mul_neg] at p1 p2
    apply Decidable.byContradiction
    intro q
    have p3 : 0 < ay * K1 := Int.mul_pos ha (by omega)
    omega
/-- an EDGE by the sign of its cross product with the place -/
def egK (ay bY K : Int) : Int32 := if ay ≤ 0 ∧ 0 < bY then (if K ≤ 0 then 1 else 0) else if bY ≤ 0 ∧ 0 < ay then (if 0 ≤ K then -1 else 0) else 0
theorem cr_eq (u v xa ya xb yb : Int) : (u - xa) * (yb - ya) - (v - ya) * (xb - xa) = -crI u v xa ya xb yb := by
  unfold crI
  have h1 := Int.mul_comm v xb
  have h2 := Int.mul_comm v xa
  have h3 := Int.mul_comm ya xb
  have h4 := Int.mul_comm ya xa
  have h5 := Int.mul_comm v u
  simp only [Int.sub_mul, Int.mul_sub]
  omega
theorem eg_K {u v xa ya xb yb : Int} : egI xa ya xb yb u v = egK (ya - v) (yb - v) (crI u v xa ya xb yb) := by
  have e := cr_eq u v xa ya xb yb
  unfold egI egK
  by_cases h1 : ya ≤ v ∧ v < yb
  · rw [if_pos h1, if_pos (show ya - v ≤ 0 ∧ 0 < yb - v by omega)]
    by_cases k : (v - ya) * (xb - xa) ≤ (u - xa) * (yb - ya)
    · rw [if_pos k, if_pos (by omega)]
    · rw [if_neg k, if_neg (by omega)]
  · rw [if_neg h1, if_neg (show ¬ (ya - v ≤ 0 ∧ 0 < yb - v) by omega)]
    by_cases h2 : yb ≤ v ∧ v < ya
    · rw [if_pos h2, if_pos (show yb - v ≤ 0 ∧ 0 < ya - v by omega)]
      by_cases k : (u - xa) * (yb - ya) ≤ (v - ya) * (xb - xa)
      · rw [if_pos k, if_pos (by omega)]
      · rw [if_neg k, if_neg (by omega)]
    · rw [if_neg h2, if_neg (show ¬ (yb - v ≤ 0 ∧ 0 < ya - v) by omega)]
def sgn3 (K1 K2 K3 : Int) : Prop := (K1 ≤ 0 ∧ K2 ≤ 0 ∧ K3 ≤ 0 ∧ K1 + K2 + K3 < 0) ∨ (0 ≤ K1 ∧ 0 ≤ K2 ∧ 0 ≤ K3 ∧ 0 < K1 + K2 + K3)
theorem ek_lo {a b K : Int} (ha : a ≤ 0) (hb : 0 < b) : egK a b K = if K ≤ 0 then 1 else 0 := if_pos ⟨ha, hb⟩
theorem ek_hi {a b K : Int} (ha : 0 < a) (hb : b ≤ 0) : egK a b K = if 0 ≤ K then -1 else 0 := (if_neg (by omega)).trans (if_pos ⟨hb, ha⟩)
theorem ek_ll {a b K : Int} (ha : a ≤ 0) (hb : b ≤ 0) : egK a b K = 0 := (if_neg (by omega)).trans (if_neg (by omega))
theorem ek_hh {a b K : Int} (ha : 0 < a) (hb : 0 < b) : egK a b K = 0 := (if_neg (by omega)).trans (if_neg (by omega))
/-- one corner on one side: up and down again -/
theorem ud {p q : Prop} [Decidable p] [Decidable q] (h : ¬ ((if p then (1 : Int32) else 0) + (if q then (-1 : Int32) else 0) = 0)) : (p ∧ ¬ q) ∨ (¬ p ∧ q) := by
  by_cases a : p <;> by_cases b : q
  · rw [if_pos a, if_pos b] at h
    exact absurd (by decide) h
  · exact Or.inl ⟨a, b⟩
  · exact Or.inr ⟨a, b⟩
  · rw [if_neg a, if_neg b] at h
    exact absurd (by decide) h
theorem tri_sgn {ay bY cy K1 K2 K3 : Int} (id : ay * K1 + bY * K2 + cy * K3 = 0) (h : ¬ (0 + egK ay bY K3 + egK bY cy K1 + egK cy ay K2 = 0)) : sgn3 K1 K2 K3 := by
  have id2 : bY * K2 + cy * K3 + ay * K1 = 0 := by omega
  have id3 : cy * K3 + ay * K1 + bY * K2 = 0 := by omega
  have z0 : ∀ x : Int32, 0 + x = x := Int32.zero_add
  have z1 : ∀ x : Int32, x + 0 = x := Int32.add_zero
  unfold sgn3
  rcases Int.lt_or_le 0 ay with a | a <;> rcases Int.lt_or_le 0 bY with b | b <;> rcases Int.lt_or_le 0 cy with c | c
  · rw [ek_hh a b, ek_hh b c, ek_hh c a] at h
    exact absurd (by decide) h
  · rw [ek_hh a b, ek_hi b c, ek_lo c a, z0, z0, Int32.add_comm] at h
    rcases ud h with ⟨p, q⟩ | ⟨p, q⟩
    · have := (sg_lo id3 c a b).1 (by omega) (by omega)
      omega
    · have := (sg_lo id3 c a b).2 (by omega) (by omega)
      omega
  · rw [ek_hi a b, ek_lo b c, ek_hh c a, z0, z1, Int32.add_comm] at h
    rcases ud h with ⟨p, q⟩ | ⟨p, q⟩
    · have := (sg_lo id2 b c a).1 (by omega) (by omega)
      omega
    · have := (sg_lo id2 b c a).2 (by omega) (by omega)
      omega
  · rw [ek_hi a b, ek_ll b c, ek_lo c a, z0, z1, Int32.add_comm] at h
    rcases ud h with ⟨p, q⟩ | ⟨p, q⟩
    · have := (sg_hi id a b c).2 (by omega) (by omega)
      omega
    · have := (sg_hi id a b c).1 (by omega) (by omega)
      omega
  · rw [ek_lo a b, ek_hh b c, ek_hi c a, z0, z1] at h
    rcases ud h with ⟨p, q⟩ | ⟨p, q⟩
    · have := (sg_lo id a b c).1 (by omega) (by omega)
      omega
    · have := (sg_lo id a b c).2 (by omega) (by omega)
      omega
  · rw [ek_lo a b, ek_hi b c, ek_ll c a, z0, z1] at h
    rcases ud h with ⟨p, q⟩ | ⟨p, q⟩
    · have := (sg_hi id2 b c a).2 (by omega) (by omega)
      omega
    · have := (sg_hi id2 b c a).1 (by omega) (by omega)
      omega
  · rw [ek_ll a b, ek_lo b c, ek_hi c a, z0, z0] at h
    rcases ud h with ⟨p, q⟩ | ⟨p, q⟩
    · have := (sg_hi id3 c a b).2 (by omega) (by omega)
      omega
    · have := (sg_hi id3 c a b).1 (by omega) (by omega)
      omega
  · rw [ek_ll a b, ek_ll b c, ek_ll c a] at h
    exact absurd (by decide) h
theorem cr_id (u v xa ya xb yb xc yc : Int) : (ya - v) * crI u v xb yb xc yc + (yb - v) * crI u v xc yc xa ya + (yc - v) * crI u v xa ya xb yb = 0 := by
  unfold crI
  generalize ya - v = a
  generalize yb - v = b
  generalize yc - v = c
  generalize xa - u = p
  generalize xb - u = q
  generalize xc - u = r
  simp only [Int.mul_sub]
  have h1 : a * (q * c) = c * (q * a) := by rw [Int.mul_left_comm, Int.mul_comm a c, Int.mul_left_comm]
  have h2 : a * (r * b) = b * (r * a) := by rw [Int.mul_left_comm, Int.mul_comm a b, Int.mul_left_comm]
  have h3 : b * (p * c) = c * (p * b) := by rw [Int.mul_left_comm, Int.mul_comm b c, Int.mul_left_comm]
  omega
theorem cr_sum (u v xa ya xb yb xc yc : Int) : crI u v xb yb xc yc + crI u v xc yc xa ya + crI u v xa ya xb yb = crI xa ya xb yb xc yc := by
  unfold crI
  have h1 := Int.mul_comm v xb
  have h2 := Int.mul_comm v xa
  have h3 := Int.mul_comm v xc
  simp only [Int.sub_mul, Int.mul_sub]
  have c1 := Int.mul_comm xa ya
  have c2 := Int.mul_comm xb ya
  have c3 := Int.mul_comm xc ya
  have c4 := Int.mul_comm xa yb
  have c5 := Int.mul_comm xc yb
  have c6 := Int.mul_comm xa yc
  have c7 := Int.mul_comm xb yc
  have c8 := Int.mul_comm u v
  have c9 := Int.mul_comm u ya
  have c10 := Int.mul_comm u yb
  have c11 := Int.mul_comm u yc
  omega
/-- INSIDE: the three parts make up the whole -/
theorem tri_key {kx ky ki : Nat → Int32} {i j : Nat} (hb : cBd kx ky) (hi : i < 64) (hj : j < 64) (h : ¬ tgS kx ky (2 * nI i + 1) (2 * nI j + 1) = 0) : ¬ wA kx ky = 0 ∧ inP kx ky ki (nI i) (nI j) = mdP kx ky ki (2 * nI i + 1) (2 * nI j + 1) (wA kx ky) := by
  have hu2 : ((2 : Int32) * nI i + 1).toInt = (2 * i + 1 : Int) := by rw [u2_nI, nI_toInt (by omega)]; omega
  have hv2 : ((2 : Int32) * nI j + 1).toInt = (2 * j + 1 : Int) := by rw [u2_nI, nI_toInt (by omega)]; omega
  obtain ⟨x0, y0⟩ := hb 0 (by omega)
  obtain ⟨x1, y1⟩ := hb 1 (by omega)
  obtain ⟨x2, y2⟩ := hb 2 (by omega)
  have dx0 := d2_ti x0
  have dx1 := d2_ti x1
  have dx2 := d2_ti x2
  have dy0 := d2_ti y0
  have dy1 := d2_ti y1
  have dy2 := d2_ti y2
  unfold tgS tgE at h
  rw [eg_K, eg_K, eg_K] at h
  have s := tri_sgn (cr_id ((2 : Int32) * nI i + 1).toInt ((2 : Int32) * nI j + 1).toInt (2 * kx 0).toInt (2 * ky 0).toInt (2 * kx 1).toInt (2 * ky 1).toInt (2 * kx 2).toInt (2 * ky 2).toInt) h
  have su := cr_sum ((2 : Int32) * nI i + 1).toInt ((2 : Int32) * nI j + 1).toInt (2 * kx 0).toInt (2 * ky 0).toInt (2 * kx 1).toInt (2 * ky 1).toInt (2 * kx 2).toInt (2 * ky 2).toInt
  have t1 := aa_ti (xa := 2 * nI i + 1) (ya := 2 * nI j + 1) (xb := 2 * kx 1) (yb := 2 * ky 1) (xc := 2 * kx 2) (yc := 2 * ky 2) (by omega) (by omega) (by omega) (by omega) (by omega) (by omega)
  have t2 := aa_ti (xa := 2 * nI i + 1) (ya := 2 * nI j + 1) (xb := 2 * kx 2) (yb := 2 * ky 2) (xc := 2 * kx 0) (yc := 2 * ky 0) (by omega) (by omega) (by omega) (by omega) (by omega) (by omega)
  have t3 := aa_ti (xa := 2 * nI i + 1) (ya := 2 * nI j + 1) (xb := 2 * kx 0) (yb := 2 * ky 0) (xc := 2 * kx 1) (yc := 2 * ky 1) (by omega) (by omega) (by omega) (by omega) (by omega) (by omega)
  have t0 := aa_ti (xa := 2 * kx 0) (ya := 2 * ky 0) (xb := 2 * kx 1) (yb := 2 * ky 1) (xc := 2 * kx 2) (yc := 2 * ky 2) (by omega) (by omega) (by omega) (by omega) (by omega) (by omega)
  rw [← su] at t0
  generalize crI ((2 : Int32) * nI i + 1).toInt ((2 : Int32) * nI j + 1).toInt (2 * kx 1).toInt (2 * ky 1).toInt (2 * kx 2).toInt (2 * ky 2).toInt = D1 at s t1 t0
  generalize crI ((2 : Int32) * nI i + 1).toInt ((2 : Int32) * nI j + 1).toInt (2 * kx 2).toInt (2 * ky 2).toInt (2 * kx 0).toInt (2 * ky 0).toInt = D2 at s t2 t0
  generalize crI ((2 : Int32) * nI i + 1).toInt ((2 : Int32) * nI j + 1).toInt (2 * kx 0).toInt (2 * ky 0).toInt (2 * kx 1).toInt (2 * ky 1).toInt = D3 at s t3 t0
  unfold sgn3 at s
  have hw : (wA kx ky).toInt = ((D1 + D2 + D3).natAbs : Int) := t0.1
  have hne : ¬ wA kx ky = 0 := fun q => by
    rw [q, show (0 : Int32).toInt = 0 by decide] at hw
    omega
  refine ⟨hne, ?_⟩
  unfold inP inS mdP
  rw [ar_aa, ar_aa, ar_aa]
  generalize aaP (2 * nI i + 1) (2 * nI j + 1) (2 * kx 1) (2 * ky 1) (2 * kx 2) (2 * ky 2) = A1 at t1 ⊢
  generalize aaP (2 * nI i + 1) (2 * nI j + 1) (2 * kx 2) (2 * ky 2) (2 * kx 0) (2 * ky 0) = A2 at t2 ⊢
  generalize aaP (2 * nI i + 1) (2 * nI j + 1) (2 * kx 0) (2 * ky 0) (2 * kx 1) (2 * ky 1) = A3 at t3 ⊢
  have a12 : (A1 + A2).toInt = A1.toInt + A2.toInt := by
    rw [Int32.toInt_add]
    exact Int.bmod_eq_of_le (by omega) (by omega)
  have a123 : (A1 + A2 + A3).toInt = A1.toInt + A2.toInt + A3.toInt := by
    rw [Int32.toInt_add, a12]
    exact Int.bmod_eq_of_le (by omega) (by omega)
  have ew : A1 + A2 + A3 = wA kx ky := Int32.toInt_inj.mp (by rw [a123, hw]; omega)
  rw [ew, if_neg hne]
theorem sh_eq {kx ky ki : Nat → Int32} {op : Int32} {W H : Nat} (hb : cBd kx ky) (hW : W ≤ 64) (hH : H ≤ 64) : gL (shQ kx ky ki op) W H = sjL kx ky ki op W H := by
  unfold sjL
  by_cases c : wA kx ky = 0
  · rw [if_pos c]
    refine gL_nil H (fun j i hj hi => ?_)
    refine if_pos ((cfT_0 hb (by omega) (by omega)).mpr (Decidable.byContradiction (fun q => ?_)))
    exact (tri_key (ki := ki) hb (show i < 64 by omega) (show j < 64 by omega) q).1 c
  · rw [if_neg c]
    refine gL_eq H (fun j i hj hi => ?_)
    unfold shQ sjQ
    by_cases q : tgS kx ky (2 * nI i + 1) (2 * nI j + 1) = 0
    · rw [if_pos q, if_pos ((cfT_0 hb (by omega) (by omega)).mpr q)]
    · rw [if_neg q, if_neg (fun e => q ((cfT_0 hb (by omega) (by omega)).mp e)), (tri_key (ki := ki) hb (show i < 64 by omega) (show j < 64 by omega) q).2]
/-! what hangs together: each place once -/
def ivS (C : Int32 → Int32 → Prop) (S : S3) : Prop := S.2.2 ≤ 4096 ∧ (∀ t : Nat, t < S.2.2 → ∃ x y, C x y ∧ S.2.1 t = nI (ixP x y)) ∧ (∀ j : Nat, j < 4096 → (¬ S.1 j = 0 ↔ ∃ t : Nat, t < S.2.2 ∧ S.2.1 t = nI j)) ∧ (∀ t t' : Nat, t < t' → t' < S.2.2 → S.2.1 t ≠ S.2.1 t') ∧ cntP S.1 4096 = S.2.2
theorem iv_z {C : Int32 → Int32 → Prop} : ivS C z3 := ⟨by show 0 ≤ 4096; omega, fun t ht => absurd ht (by show ¬ t < 0; omega), fun j _ => ⟨fun q => absurd rfl q, fun ⟨t, ht, _⟩ => absurd ht (by show ¬ t < 0; omega)⟩, fun t t' _ ht => absurd ht (by show ¬ t' < 0; omega), cnt_z 4096 (fun _ _ => rfl)⟩
theorem iv_S {C : Int32 → Int32 → Prop} [∀ x y, Decidable (C x y)] {g : Nat → Int32} {vl x y : Int32} {S : S3} (hb : ∀ x y, C x y → ixP x y < 4096) (h : ivS C S) : ivS C (rcS C g vl x y S) := by
  unfold rcS
  by_cases c : (C x y ∧ g (ixP x y) = vl) ∧ S.1 (ixP x y) = 0 ∧ S.2.2 < 4096
  · rw [if_pos c]
    obtain ⟨h1, h2, h3, h4, h5⟩ := h
    have hl := hb x y c.1.1
    refine ⟨c.2.2, fun t ht => ?_, fun j hj => ?_, fun t t' htt ht' => ?_, ?_⟩
    · have ht2 : t < S.2.2 + 1 := ht
      show ∃ x' y', C x' y' ∧ upd S.2.1 S.2.2 (nI (ixP x y)) t = nI (ixP x' y')
      by_cases q : t = S.2.2
      · rw [q, pk_us]
        exact ⟨x, y, c.1.1, rfl⟩
      · rw [pk_un q]
        exact h2 t (by omega)
    · show ¬ upd S.1 (ixP x y) 1 j = 0 ↔ ∃ t : Nat, t < S.2.2 + 1 ∧ upd S.2.1 S.2.2 (nI (ixP x y)) t = nI j
      by_cases q : j = ixP x y
      · rw [q, pk_us]
        exact ⟨fun _ => ⟨S.2.2, by omega, pk_us⟩, fun _ => by decide⟩
      · rw [pk_un q, h3 j hj]
        constructor
        · intro ⟨t, a, b⟩
          exact ⟨t, by omega, by rw [pk_un (by omega)]; exact b⟩
        · intro ⟨t, a, b⟩
          by_cases e : t = S.2.2
          · rw [e, pk_us] at b
            exact absurd ((nI_eq (by omega) (by omega)).mp b).symm q
          · rw [pk_un e] at b
            exact ⟨t, by omega, b⟩
    · have ht2 : t' < S.2.2 + 1 := ht'
      show upd S.2.1 S.2.2 (nI (ixP x y)) t ≠ upd S.2.1 S.2.2 (nI (ixP x y)) t'
      rw [pk_un (show t ≠ S.2.2 by omega)]
      by_cases q : t' = S.2.2
      · rw [q, pk_us]
        exact fun e => (h3 _ hl).mpr ⟨t, by omega, e⟩ c.2.1
      · rw [pk_un q]
        exact h4 t t' htt (by omega)
    · show cntP (upd S.1 (ixP x y) 1) 4096 = S.2.2 + 1
      rw [cnt_up1 hl c.2.1, h5]
  · rw [if_neg c]
    exact h
theorem iv_I {C : Int32 → Int32 → Prop} [∀ x y, Decidable (C x y)] {g : Nat → Int32} {vl co px py : Int32} {S : S3} (hb : ∀ x y, C x y → ixP x y < 4096) (h : ivS C S) : ∀ q, ivS C (rcI C g vl co px py S q)
  | 0 => h
  | q + 1 => by
    show ivS C (if ¬ co = 0 ∨ dX q = 0 ∨ dY q = 0 then rcS C g vl (px + dX q) (py + dY q) (rcI C g vl co px py S q) else rcI C g vl co px py S q)
    by_cases c : ¬ co = 0 ∨ dX q = 0 ∨ dY q = 0
    · rw [if_pos c]
      exact iv_S hb (iv_I hb h q)
    · rw [if_neg c]
      exact iv_I hb h q
theorem iv_O {C : Int32 → Int32 → Prop} [∀ x y, Decidable (C x y)] {g : Nat → Int32} {vl co : Int32} {S : S3} (hb : ∀ x y, C x y → ixP x y < 4096) (h : ivS C S) : ∀ i, ivS C (rcO C g vl co S i)
  | 0 => h
  | i + 1 => iv_I hb (iv_O hb h i) 9
theorem iv_sp {C : Int32 → Int32 → Prop} [∀ x y, Decidable (C x y)] {g : Nat → Int32} {x y co : Int32} (hb : ∀ x y, C x y → ixP x y < 4096) : ivS C (spS C g x y co) := iv_O hb (iv_S hb iv_z) _
theorem ed_all {C : Int32 → Int32 → Prop} [∀ x y, Decidable (C x y)] {g : Nat → Int32} {vl co : Int32} {st : S3} (hs : st.2.2 ≤ 4096) : ∀ k i : Nat, 4097 ≤ i + k → (∀ i', i' < i → i' < (rcO C g vl co st i').2.2) → (∀ i', i' < edN C g vl co st k i → i' < (rcO C g vl co st i').2.2) ∧ ¬ edN C g vl co st k i < (rcO C g vl co st (edN C g vl co st k i)).2.2
  | 0, i, hk, h => ⟨h, by have := rcO_le (C := C) (g := g) (vl := vl) (co := co) hs i; show ¬ i < (rcO C g vl co st i).2.2; omega⟩
  | k + 1, i, hk, h => by
    show (∀ i', i' < (if i < (rcO C g vl co st i).2.2 then edN C g vl co st k (i + 1) else i) → i' < (rcO C g vl co st i').2.2) ∧ ¬ (if i < (rcO C g vl co st i).2.2 then edN C g vl co st k (i + 1) else i) < (rcO C g vl co st (if i < (rcO C g vl co st i).2.2 then edN C g vl co st k (i + 1) else i)).2.2
    by_cases c : i < (rcO C g vl co st i).2.2
    · rw [if_pos c]
      refine ed_all hs k (i + 1) (by omega) (fun i' h' => ?_)
      by_cases q : i' = i
      · rw [q]; exact c
      · exact h i' (by omega)
    · rw [if_neg c]
      exact ⟨h, c⟩
theorem sp_eq {C C' : Int32 → Int32 → Prop} [∀ x y, Decidable (C x y)] [∀ x y, Decidable (C' x y)] {g g' : Nat → Int32} {x y co : Int32} (hC : ∀ x y, C x y ↔ C' x y) (hb : ∀ x y, C x y → ixP x y < 4096) (hg : ∀ j : Nat, j < 4096 → g j = g' j) (hx : ixP x y < 4096) : eqS (spS C g x y co) (spS C' g' x y co) := by
  unfold spS
  rw [← hg _ hx]
  have ha : (rcS C g (g (ixP x y)) x y z3).2.2 ≤ 4096 := (rcS_keep (Nat.zero_le _)).2.1
  obtain ⟨h1, h2⟩ := ed_all (C := C) (g := g) (vl := g (ixP x y)) (co := co) ha 4098 0 (by omega) (fun _ h => absurd h (by omega))
  exact sp_end hC hb hg (rcS_eq hC hb hg (eqS_refl _)) ha h1 h2
theorem px_ix {x y : Int32} (h1 : 0 ≤ x.toInt) (h2 : x.toInt < 64) (h3 : 0 ≤ y.toInt) (h4 : y.toInt < 64) : pX (nI (ixP x y)) = x ∧ pY (nI (ixP x y)) = y := by
  obtain ⟨a, ha, rfl⟩ := i_of (N := 64) h1 (by omega) (by decide)
  obtain ⟨b, hb, rfl⟩ := i_of (N := 64) h3 (by omega) (by decide)
  have e : ixP (nI a) (nI b) = b * 64 + a := by
    unfold ixP
    rw [nI_toInt (by omega), nI_toInt (by omega)]
    omega
  rw [e]
  unfold pX pY
  rw [show (64 : Int32) = nI 64 from rfl, pk_rem (by omega) (by omega) (by omega), pk_div (by omega) (by omega) (by omega), show (b * 64 + a) % 64 = a by omega, show (b * 64 + a) / 64 = b by omega]
  exact ⟨rfl, rfl⟩
theorem pl_mem {ga : Nat → Int32} {ik op : Int32} {q : Req} : ∀ n, q ∈ plL ga ik op n ↔ ∃ t, t < n ∧ q = (pX (ga t), pY (ga t), ik, op)
  | 0 => ⟨fun h => absurd h (List.not_mem_nil), fun ⟨t, h, _⟩ => absurd h (by omega)⟩
  | n + 1 => by
    show q ∈ plL ga ik op n ++ [(pX (ga n), pY (ga n), ik, op)] ↔ _
    rw [List.mem_append, pl_mem n, List.mem_singleton]
    constructor
    · intro h
      rcases h with ⟨t, a, b⟩ | h
      · exact ⟨t, by omega, b⟩
      · exact ⟨n, by omega, h⟩
    · intro ⟨t, a, b⟩
      by_cases e : t = n
      · subst e
        exact Or.inr b
      · exact Or.inl ⟨t, by omega, b⟩
section
variable {w h b0 b1 b2 b3 ik op : Int32}
theorem pl_at {S : S3} (hw : w.toInt ≤ 64) (hh : h.toInt ≤ 64) (hi : ivS (opnC w h b0 b1 b2 b3) S) {t : Nat} (ht : t < S.2.2) : ∃ x y, opnC w h b0 b1 b2 b3 x y ∧ S.2.1 t = nI (ixP x y) ∧ pX (S.2.1 t) = x ∧ pY (S.2.1 t) = y := by
  obtain ⟨x, y, hc, e⟩ := hi.2.1 t ht
  have p := px_ix (x := x) (y := y) (by omega) (by omega) (by omega) (by omega)
  exact ⟨x, y, hc, e, by rw [e]; exact p.1, by rw [e]; exact p.2⟩
theorem pl_ds {S : S3} (hw : w.toInt ≤ 64) (hh : h.toInt ≤ 64) (hi : ivS (opnC w h b0 b1 b2 b3) S) : ∀ n, n ≤ S.2.2 → dsL (plL S.2.1 ik op n)
  | 0, _ => List.Pairwise.nil
  | n + 1, hn => by
    show dsL (plL S.2.1 ik op n ++ [(pX (S.2.1 n), pY (S.2.1 n), ik, op)])
    refine List.pairwise_append.mpr ⟨pl_ds hw hh hi n (by omega), List.pairwise_singleton _ _, fun q hq q' hq' => ?_⟩
    obtain ⟨t, a, b⟩ := (pl_mem n).mp hq
    rw [b, List.mem_singleton.mp hq']
    obtain ⟨x, y, c1, c2, c3, c4⟩ := pl_at hw hh hi (t := t) (by omega)
    obtain ⟨x', y', d1, d2, d3, d4⟩ := pl_at hw hh hi (t := n) (by omega)
    dsimp only
    rw [c3, c4, d3, d4]
    intro e
    have := hi.2.2.2.1 t n a (by omega)
    rw [c2, d2] at this
    apply this
    unfold ixP
    rw [e.1, e.2]
theorem cnt_nz {a b : Nat → Int32} : ∀ n : Nat, (∀ j : Nat, j < n → (a j = 0 ↔ b j = 0)) → cntP a n = cntP b n
  | 0, _ => rfl
  | n + 1, h => by
    show cntP a n + (if a n = 0 then 0 else 1) = cntP b n + (if b n = 0 then 0 else 1)
    rw [cnt_nz n (fun j hj => h j (by omega))]
    by_cases c : a n = 0
    · rw [if_pos c, if_pos ((h n (by omega)).mp c)]
    · rw [if_neg c, if_neg (fun q => c ((h n (by omega)).mpr q))]
theorem fl_key {S : S3} {wy cl cx0 cx1 cy0 cy1 : Int32} {g : Nat → Int32} (hw : w.toInt ≤ 64) (hh : h.toInt ≤ 64) (hob : ∀ x y, opnC w h b0 b1 b2 b3 x y ↔ opnM w h cl cx0 cx1 cy0 cy1 x y) (hi : ivS (opnC w h b0 b1 b2 b3) S) : (∀ j : Nat, j < 4096 → (plL S.2.1 ik op S.2.2).foldl (layG w h b0 b1 b2 b3 wy) g j = if S.1 j = 0 then g j else laidP wy ik (g j) op) ∧ (plL S.2.1 ik op S.2.2).foldl (layT w h b0 b1 b2 b3) 0 = nI S.2.2 := by
  obtain ⟨d1, d2⟩ := draw_list (wy := wy) (g := g) (gm := fun _ => 0) (ge := fun _ => 0) (gv := fun _ => 0) hw hh hob (ds_nd hw (pl_ds (ik := ik) (op := op) hw hh hi S.2.2 (Nat.le_refl _)))
  have hin : ∀ j : Nat, j < 4096 → ¬ S.1 j = 0 → ∃ q, q ∈ plL S.2.1 ik op S.2.2 ∧ opnM w h cl cx0 cx1 cy0 cy1 q.1 q.2.1 ∧ ixP q.1 q.2.1 = j := by
    intro j hj hn
    obtain ⟨t, a, b⟩ := (hi.2.2.1 j hj).mp hn
    obtain ⟨x, y, c1, c2, c3, c4⟩ := pl_at hw hh hi a
    refine ⟨_, (pl_mem _).mpr ⟨t, a, rfl⟩, ?_, ?_⟩
    · dsimp only
      rw [c3, c4]
      exact (hob _ _).mp c1
    · dsimp only
      rw [c3, c4]
      rw [b] at c2
      exact ((nI_eq (by omega) (by have := opnC_lt hw hh c1; omega)).mp c2).symm
  have hout : ∀ j : Nat, j < 4096 → S.1 j = 0 → ¬ ∃ q, q ∈ plL S.2.1 ik op S.2.2 ∧ opnM w h cl cx0 cx1 cy0 cy1 q.1 q.2.1 ∧ ixP q.1 q.2.1 = j := by
    intro j hj h0 ⟨q, m, _, e⟩
    obtain ⟨t, a, b⟩ := (pl_mem _).mp m
    obtain ⟨x, y, c1, c2, c3, c4⟩ := pl_at hw hh hi a
    rw [b] at e
    dsimp only at e
    rw [c3, c4] at e
    exact (hi.2.2.1 j hj).mpr ⟨t, a, by rw [c2, e]⟩ h0
  have uni : ∀ q, q ∈ plL S.2.1 ik op S.2.2 → q.2.2 = (ik, op) := fun q m => by
    obtain ⟨t, a, b⟩ := (pl_mem _).mp m
    rw [b]
  refine ⟨fun j hj => ?_, ?_⟩
  · rw [d1 j hj]
    by_cases c : S.1 j = 0
    · have k := mk_out (W := w) (H := h) (cl := cl) (cx0 := cx0) (cx1 := cx1) (cy0 := cy0) (cy1 := cy1) (plL S.2.1 ik op S.2.2) (zrN (fun _ => 0) 4096, fun _ => 0, fun _ => 0) (hout j hj c)
      rw [k.1, if_pos c, if_pos (zr_at hj)]
    · have k := mk_in (W := w) (H := h) (cl := cl) (cx0 := cx0) (cx1 := cx1) (cy0 := cy0) (cy1 := cy1) (plL S.2.1 ik op S.2.2) (zrN (fun _ => 0) 4096, fun _ => 0, fun _ => 0) uni (hin j hj c)
      rw [k.1, k.2.1, k.2.2, if_neg c, if_neg (by decide)]
  · refine d2.trans (congrArg nI ((cnt_nz 4096 (fun j hj => ?_)).trans hi.2.2.2.2))
    by_cases c : S.1 j = 0
    · have k := mk_out (W := w) (H := h) (cl := cl) (cx0 := cx0) (cx1 := cx1) (cy0 := cy0) (cy1 := cy1) (plL S.2.1 ik op S.2.2) (zrN (fun _ => 0) 4096, fun _ => 0, fun _ => 0) (hout j hj c)
      rw [k.1]
      exact ⟨fun _ => c, fun _ => (show zrN (fun _ => 0) 4096 j = 0 from zr_at hj)⟩
    · have k := mk_in (W := w) (H := h) (cl := cl) (cx0 := cx0) (cx1 := cx1) (cy0 := cy0) (cy1 := cy1) (plL S.2.1 ik op S.2.2) (zrN (fun _ => 0) 4096, fun _ => 0, fun _ => 0) uni (hin j hj c)
      rw [k.1]
      exact ⟨fun q => absurd q (by decide), fun q => absurd q c⟩
end

theorem cl64 {x : Int32} (h : x.toInt ≤ 64) : x.toNatClampNeg ≤ 64 := by
  show x.toInt.toNat ≤ 64
  omega
theorem ixn {w h : Int32} {i j : Nat} (hw : w.toInt ≤ 64) (hh : h.toInt ≤ 64) (hi : i < w.toNatClampNeg) (hj : j < h.toNatClampNeg) : ixP (nI i) (nI j) < 4096 := by
  have a := cl64 hw
  have b := cl64 hh
  have e1 : (nI i).toInt = (i : Int) := nI_toInt (by omega)
  have e2 : (nI j).toInt = (j : Int) := nI_toInt (by omega)
  exact ix_lt (by omega) (by omega) (by omega) (by omega)
theorem if_if {p q : Prop} [Decidable p] [Decidable q] {a b : Int32} : (if p then (if q then a else b) else b) = if p ∧ q then a else b := by
  by_cases h1 : p <;> by_cases h2 : q <;> simp [h1, h2]
theorem if_if3 {p q r : Prop} [Decidable p] [Decidable q] [Decidable r] {a b : Int32} : (if p then (if q then (if r then a else b) else b) else b) = if (p ∧ q) ∧ r then a else b := by
  by_cases h1 : p <;> by_cases h2 : q <;> by_cases h3 : r <;> simp [h1, h2, h3]
theorem sp_no {C : Int32 → Int32 → Prop} [∀ x y, Decidable (C x y)] {g : Nat → Int32} {x y co : Int32} (h : ¬ C x y) : spS C g x y co = z3 := by
  have e : rcS C g (g (ixP x y)) x y z3 = z3 := if_neg (fun q => h q.1.1)
  unfold spS
  rw [e]
  have e2 : edN C g (g (ixP x y)) co z3 4098 0 = 0 := if_neg (by show ¬ 0 < 0; omega)
  unfold rcE
  rw [e2]
  rfl
theorem lkN_eq {w h : Int32} {g g' : Nat → Int32} (hw : w.toInt ≤ 64) (hh : h.toInt ≤ 64) (e : ∀ j : Nat, j < 4096 → g j = g' j) (t : Nat) : lkN g w h t = lkN g' w h t := by
  have c : ∀ sf a0, smL (chF g sf) w.toNatClampNeg a0 h.toNatClampNeg = smL (chF g' sf) w.toNatClampNeg a0 h.toNatClampNeg := fun sf a0 => smL_eq _ (fun j i a hj hi => by unfold chF; rw [e _ (ixn hw hh hi hj)])
  have l : ∀ al a0, smL (blF g al) w.toNatClampNeg a0 h.toNatClampNeg = smL (blF g' al) w.toNatClampNeg a0 h.toNatClampNeg := fun al a0 => smL_eq _ (fun j i a hj hi => by unfold blF; rw [e _ (ixn hw hh hi hj)])
  have u : ∀ al a0, smL (bhF g al) w.toNatClampNeg a0 h.toNatClampNeg = smL (bhF g' al) w.toNatClampNeg a0 h.toNatClampNeg := fun al a0 => smL_eq _ (fun j i a hj hi => by unfold bhF; rw [e _ (ixn hw hh hi hj)])
  match t with
  | 0 => exact l 1 (-1)
  | 1 => exact u 1 (-1)
  | 2 => exact l 0 (-1)
  | 3 => exact u 0 (-1)
  | 4 => rfl
  | 5 => rfl
  | 6 => exact c 24 0
  | 7 => exact c 16 0
  | 8 => exact c 8 0
  | 9 => exact c 0 0
  | t + 10 => rfl

set_option maxHeartbeats 1000000 in
theorem ln_ok {n nm : Nat → Int32} {g gm : Nat → Nat → Int32} {f : Nat → Option Nat} {sh : Nat → Option Sh} (h : RW n g (fun k => vO (sh k)) nm gm) (hok : okC n f sh) (hom : okM nm gm) {k x0 y0 x1 y1 : Int32} : dsC (fun k => vO (sh k)) k (-1) (fun p : Zv => if (-2000 ≤ x0.toInt ∧ x0.toInt ≤ 2000) ∧ (-2000 ≤ y0.toInt ∧ y0.toInt ≤ 2000) ∧ (-2000 ≤ x1.toInt ∧ x1.toInt ≤ 2000) ∧ (-2000 ≤ y1.toInt ∧ y1.toInt ≤ 2000) then fG (layT p.1 p.2.1 (n 4) (n 5) (n 6) (n 7)) (lnQ x0 y0 x1 y1 (n 0) (n 1) (n 3)) 0 (max (dN x0 x1) (dN y0 y1) + 1) else -1) = mA gm k (if (-2000 ≤ x0.toInt ∧ x0.toInt ≤ 2000) ∧ (-2000 ≤ y0.toInt ∧ y0.toInt ≤ 2000) ∧ (-2000 ≤ x1.toInt ∧ x1.toInt ≤ 2000) ∧ (-2000 ≤ y1.toInt ∧ y1.toInt ≤ 2000) then nI (cntP (fG (mkF ((gm 1) k.toNatClampNeg) ((gm 2) k.toNatClampNeg) (nm 3) (nm 4) (nm 5) (nm 6) (nm 7)) (lnQ x0 y0 x1 y1 (nm 8) (nm 0) (nm 2)) (zrN (gm 4) 4096, (gm 5), (gm 6)) (max (dN x0 x1) (dN y0 y1) + 1)).1 4096) else -1) ∧ RW n g (dsG (fun k => vO (sh k)) k (fun p : Zv => if (-2000 ≤ x0.toInt ∧ x0.toInt ≤ 2000) ∧ (-2000 ≤ y0.toInt ∧ y0.toInt ≤ 2000) ∧ (-2000 ≤ x1.toInt ∧ x1.toInt ≤ 2000) ∧ (-2000 ≤ y1.toInt ∧ y1.toInt ≤ 2000) then fG (layG p.1 p.2.1 (n 4) (n 5) (n 6) (n 7) (n 2)) (lnQ x0 y0 x1 y1 (n 0) (n 1) (n 3)) p.2.2 (max (dN x0 x1) (dN y0 y1) + 1) else p.2.2)) nm (va_up gm 3 (mX gm k (if (-2000 ≤ x0.toInt ∧ x0.toInt ≤ 2000) ∧ (-2000 ≤ y0.toInt ∧ y0.toInt ≤ 2000) ∧ (-2000 ≤ x1.toInt ∧ x1.toInt ≤ 2000) ∧ (-2000 ≤ y1.toInt ∧ y1.toInt ≤ 2000) then lysN (nm 1) (gm 3) (fG (mkF ((gm 1) k.toNatClampNeg) ((gm 2) k.toNatClampNeg) (nm 3) (nm 4) (nm 5) (nm 6) (nm 7)) (lnQ x0 y0 x1 y1 (nm 8) (nm 0) (nm 2)) (zrN (gm 4) 4096, (gm 5), (gm 6)) (max (dN x0 x1) (dN y0 y1) + 1)).1 (fG (mkF ((gm 1) k.toNatClampNeg) ((gm 2) k.toNatClampNeg) (nm 3) (nm 4) (nm 5) (nm 6) (nm 7)) (lnQ x0 y0 x1 y1 (nm 8) (nm 0) (nm 2)) (zrN (gm 4) 4096, (gm 5), (gm 6)) (max (dN x0 x1) (dN y0 y1) + 1)).2.1 (fG (mkF ((gm 1) k.toNatClampNeg) ((gm 2) k.toNatClampNeg) (nm 3) (nm 4) (nm 5) (nm 6) (nm 7)) (lnQ x0 y0 x1 y1 (nm 8) (nm 0) (nm 2)) (zrN (gm 4) 4096, (gm 5), (gm 6)) (max (dN x0 x1) (dN y0 y1) + 1)).2.2 k.toNatClampNeg 4096 else (gm 3)))) := by
  refine draw_ok h (fun p hM hz hm => ?_)
  have h9 := h
  obtain ⟨⟨r0, r1, r2, r3⟩, rc, rp, ⟨k1, k2, k3⟩, -, -⟩ := h
  obtain ⟨m1, m2, m3, m4, m5⟩ := hm
  try dsimp only
  by_cases c : (-2000 ≤ x0.toInt ∧ x0.toInt ≤ 2000) ∧ (-2000 ≤ y0.toInt ∧ y0.toInt ≤ 2000) ∧ (-2000 ≤ x1.toInt ∧ x1.toInt ≤ 2000) ∧ (-2000 ≤ y1.toInt ∧ y1.toInt ≤ 2000)
  · simp only [if_pos c]
    have d := draw_same (w := p.1) (h := p.2.1) (wy := n 2) (rq := lnQ x0 y0 x1 y1 (n 0) (n 1) (n 3)) (g := p.2.2) (gm := gm 4) (ge := gm 5) (gv := gm 6) m3.2 m4.2 (clp_ob rc m3.2 m4.2) (ln_dis m3.2 c.1 c.2.1 c.2.2.1 c.2.2.2) _ (Nat.le_refl _)
    simp only [← m1, ← m2, ← r0, ← r1, ← r2, ← r3]
    exact dr_fin d.2.1 d.2.2 m5
  · simp only [if_neg c]
    exact ⟨by trivial, fun j hj => m5 j hj, fun _ _ _ _ => by trivial⟩

set_option maxHeartbeats 1000000 in
theorem ci_ok {n nm : Nat → Int32} {g gm : Nat → Nat → Int32} {f : Nat → Option Nat} {sh : Nat → Option Sh} (h : RW n g (fun k => vO (sh k)) nm gm) (hok : okC n f sh) (hom : okM nm gm) {k x y rd : Int32} : dsC (fun k => vO (sh k)) k (-1) (fun p : Zv => if (-2000 ≤ x.toInt ∧ x.toInt ≤ 2000) ∧ (-2000 ≤ y.toInt ∧ y.toInt ≤ 2000) ∧ (0 ≤ rd.toInt ∧ rd.toInt ≤ 500) then (ciL x y (n 1) (n 3) rd.toNatClampNeg (ciM rd.toNatClampNeg 502 0)).foldl (layT p.1 p.2.1 (n 4) (n 5) (n 6) (n 7)) 0 else -1) = mA gm k (if (-2000 ≤ x.toInt ∧ x.toInt ≤ 2000) ∧ (-2000 ≤ y.toInt ∧ y.toInt ≤ 2000) ∧ (0 ≤ rd.toInt ∧ rd.toInt ≤ 500) then nI (cntP ((mcL x y (nm 0) (nm 2) rd.toNatClampNeg (mcM rd.toNatClampNeg 502 0)).foldl (mkF ((gm 1) k.toNatClampNeg) ((gm 2) k.toNatClampNeg) (nm 3) (nm 4) (nm 5) (nm 6) (nm 7)) (zrN (gm 4) 4096, (gm 5), (gm 6))).1 4096) else -1) ∧ RW n g (dsG (fun k => vO (sh k)) k (fun p : Zv => if (-2000 ≤ x.toInt ∧ x.toInt ≤ 2000) ∧ (-2000 ≤ y.toInt ∧ y.toInt ≤ 2000) ∧ (0 ≤ rd.toInt ∧ rd.toInt ≤ 500) then (ciL x y (n 1) (n 3) rd.toNatClampNeg (ciM rd.toNatClampNeg 502 0)).foldl (layG p.1 p.2.1 (n 4) (n 5) (n 6) (n 7) (n 2)) p.2.2 else p.2.2)) nm (va_up gm 3 (mX gm k (if (-2000 ≤ x.toInt ∧ x.toInt ≤ 2000) ∧ (-2000 ≤ y.toInt ∧ y.toInt ≤ 2000) ∧ (0 ≤ rd.toInt ∧ rd.toInt ≤ 500) then lysN (nm 1) (gm 3) ((mcL x y (nm 0) (nm 2) rd.toNatClampNeg (mcM rd.toNatClampNeg 502 0)).foldl (mkF ((gm 1) k.toNatClampNeg) ((gm 2) k.toNatClampNeg) (nm 3) (nm 4) (nm 5) (nm 6) (nm 7)) (zrN (gm 4) 4096, (gm 5), (gm 6))).1 ((mcL x y (nm 0) (nm 2) rd.toNatClampNeg (mcM rd.toNatClampNeg 502 0)).foldl (mkF ((gm 1) k.toNatClampNeg) ((gm 2) k.toNatClampNeg) (nm 3) (nm 4) (nm 5) (nm 6) (nm 7)) (zrN (gm 4) 4096, (gm 5), (gm 6))).2.1 ((mcL x y (nm 0) (nm 2) rd.toNatClampNeg (mcM rd.toNatClampNeg 502 0)).foldl (mkF ((gm 1) k.toNatClampNeg) ((gm 2) k.toNatClampNeg) (nm 3) (nm 4) (nm 5) (nm 6) (nm 7)) (zrN (gm 4) 4096, (gm 5), (gm 6))).2.2 k.toNatClampNeg 4096 else (gm 3)))) := by
  refine draw_ok h (fun p hM hz hm => ?_)
  have h9 := h
  obtain ⟨⟨r0, r1, r2, r3⟩, rc, rp, ⟨k1, k2, k3⟩, -, -⟩ := h
  obtain ⟨m1, m2, m3, m4, m5⟩ := hm
  try dsimp only
  by_cases c : (-2000 ≤ x.toInt ∧ x.toInt ≤ 2000) ∧ (-2000 ≤ y.toInt ∧ y.toInt ≤ 2000) ∧ (0 ≤ rd.toInt ∧ rd.toInt ≤ 500)
  · simp only [if_pos c]
    obtain ⟨r, hr, er⟩ := i_of (x := rd) (N := 501) c.2.2.1 (by omega) (by decide)
    have er2 : rd.toNatClampNeg = r := by rw [er]; exact nI_clamp (by omega)
    have d := draw_list (w := p.1) (h := p.2.1) (wy := n 2) (l := ciL x y (n 1) (n 3) r (ciM r 502 0)) (g := p.2.2) (gm := gm 4) (ge := gm 5) (gv := gm 6) m3.2 m4.2 (clp_ob rc m3.2 m4.2) (ds_nd m3.2 (ds_ci c.1 c.2.1 (by omega) _ (fun j hj => ciM_all 502 0 j (by omega) hj)))
    simp only [← m1, ← m2, ← r0, ← r1, ← r2, ← r3, er2]
    rw [← mk_same (ik := n 1) (op := n 3) (l := ciL x y (n 1) (n 3) r (ciM r 502 0)) _ (fun q m => ci_uni q _ m) (fun q => ci_mc (by omega))]
    exact dr_fin d.1 d.2 m5
  · simp only [if_neg c]
    exact ⟨by trivial, fun j hj => m5 j hj, fun _ _ _ _ => by trivial⟩

set_option maxHeartbeats 1000000 in
theorem fi_ok {n nm : Nat → Int32} {g gm : Nat → Nat → Int32} {f : Nat → Option Nat} {sh : Nat → Option Sh} (h : RW n g (fun k => vO (sh k)) nm gm) (hok : okC n f sh) (hom : okM nm gm) {k ru sm : Int32} : dsC (fun k => vO (sh k)) k (-1) (fun p : Zv => if (ru.toInt = 0 ∨ ru.toInt = 1) then (gL (flQ (cfC (g 0) (g 1) (g 2) (g 3) (n 12).toNatClampNeg ru sm) sm (n 1) (n 3)) p.1.toNatClampNeg p.2.1.toNatClampNeg).foldl (layT p.1 p.2.1 (n 4) (n 5) (n 6) (n 7)) 0 else -1) = mA gm k (if (ru.toInt = 0 ∨ ru.toInt = 1) then nI (cntP ((gL (flQ (cfM (gm 7) (gm 8) (gm 9) (nm 9).toNatClampNeg ru sm) sm (nm 0) (nm 2)) ((gm 1) k.toNatClampNeg).toNatClampNeg ((gm 2) k.toNatClampNeg).toNatClampNeg).foldl (mkF ((gm 1) k.toNatClampNeg) ((gm 2) k.toNatClampNeg) (nm 3) (nm 4) (nm 5) (nm 6) (nm 7)) (zrN (gm 4) 4096, (gm 5), (gm 6))).1 4096) else -1) ∧ RW n g (dsG (fun k => vO (sh k)) k (fun p : Zv => if (ru.toInt = 0 ∨ ru.toInt = 1) then (gL (flQ (cfC (g 0) (g 1) (g 2) (g 3) (n 12).toNatClampNeg ru sm) sm (n 1) (n 3)) p.1.toNatClampNeg p.2.1.toNatClampNeg).foldl (layG p.1 p.2.1 (n 4) (n 5) (n 6) (n 7) (n 2)) p.2.2 else p.2.2)) nm (va_up gm 3 (mX gm k (if (ru.toInt = 0 ∨ ru.toInt = 1) then lysN (nm 1) (gm 3) ((gL (flQ (cfM (gm 7) (gm 8) (gm 9) (nm 9).toNatClampNeg ru sm) sm (nm 0) (nm 2)) ((gm 1) k.toNatClampNeg).toNatClampNeg ((gm 2) k.toNatClampNeg).toNatClampNeg).foldl (mkF ((gm 1) k.toNatClampNeg) ((gm 2) k.toNatClampNeg) (nm 3) (nm 4) (nm 5) (nm 6) (nm 7)) (zrN (gm 4) 4096, (gm 5), (gm 6))).1 ((gL (flQ (cfM (gm 7) (gm 8) (gm 9) (nm 9).toNatClampNeg ru sm) sm (nm 0) (nm 2)) ((gm 1) k.toNatClampNeg).toNatClampNeg ((gm 2) k.toNatClampNeg).toNatClampNeg).foldl (mkF ((gm 1) k.toNatClampNeg) ((gm 2) k.toNatClampNeg) (nm 3) (nm 4) (nm 5) (nm 6) (nm 7)) (zrN (gm 4) 4096, (gm 5), (gm 6))).2.1 ((gL (flQ (cfM (gm 7) (gm 8) (gm 9) (nm 9).toNatClampNeg ru sm) sm (nm 0) (nm 2)) ((gm 1) k.toNatClampNeg).toNatClampNeg ((gm 2) k.toNatClampNeg).toNatClampNeg).foldl (mkF ((gm 1) k.toNatClampNeg) ((gm 2) k.toNatClampNeg) (nm 3) (nm 4) (nm 5) (nm 6) (nm 7)) (zrN (gm 4) 4096, (gm 5), (gm 6))).2.2 k.toNatClampNeg 4096 else gm 3))) := by
  refine draw_ok h (fun p hM hz hm => ?_)
  have h9 := h
  obtain ⟨⟨r0, r1, r2, r3⟩, rc, rp, ⟨k1, k2, k3⟩, -, -⟩ := h
  obtain ⟨m1, m2, m3, m4, m5⟩ := hm
  try dsimp only
  by_cases c : (ru.toInt = 0 ∨ ru.toInt = 1)
  · simp only [if_pos c]
    have e : gL (flQ (cfC (g 0) (g 1) (g 2) (g 3) (n 12).toNatClampNeg ru sm) sm (n 1) (n 3)) p.1.toNatClampNeg p.2.1.toNatClampNeg = gL (flQ (cfM (gm 7) (gm 8) (gm 9) (nm 9).toNatClampNeg ru sm) sm (n 1) (n 3)) p.1.toNatClampNeg p.2.1.toNatClampNeg := gL_eq _ (fun j i _ _ => flQ_eq (cf_same (wd_all h9 hok hom)))
    have d := draw_list (w := p.1) (h := p.2.1) (wy := n 2) (l := gL (flQ (cfC (g 0) (g 1) (g 2) (g 3) (n 12).toNatClampNeg ru sm) sm (n 1) (n 3)) p.1.toNatClampNeg p.2.1.toNatClampNeg) (g := p.2.2) (gm := gm 4) (ge := gm 5) (gv := gm 6) m3.2 m4.2 (clp_ob rc m3.2 m4.2) (ds_nd m3.2 (fl_ds (cl64 m3.2) (cl64 m4.2)))
    simp only [← m1, ← m2, ← r0, ← r1, ← r2, ← r3]
    rw [← e]
    exact dr_fin d.1 d.2 m5
  · simp only [if_neg c]
    exact ⟨by trivial, fun j hj => m5 j hj, fun _ _ _ _ => by trivial⟩

set_option maxHeartbeats 1000000 in
theorem sh_ok {n nm : Nat → Int32} {g gm : Nat → Nat → Int32} {f : Nat → Option Nat} {sh : Nat → Option Sh} (h : RW n g (fun k => vO (sh k)) nm gm) (hok : okC n f sh) (hom : okM nm gm) {k : Int32} : dsC (fun k => vO (sh k)) k (-1) (fun p : Zv => (gL (shQ (g 4) (g 5) (g 6) (n 3)) p.1.toNatClampNeg p.2.1.toNatClampNeg).foldl (layT p.1 p.2.1 (n 4) (n 5) (n 6) (n 7)) 0) = mA gm k (nI (cntP ((sjL (gm 10) (gm 11) (gm 12) (nm 2) ((gm 1) k.toNatClampNeg).toNatClampNeg ((gm 2) k.toNatClampNeg).toNatClampNeg).foldl (mkF ((gm 1) k.toNatClampNeg) ((gm 2) k.toNatClampNeg) (nm 3) (nm 4) (nm 5) (nm 6) (nm 7)) (zrN (gm 4) 4096, (gm 5), (gm 6))).1 4096)) ∧ RW n g (dsG (fun k => vO (sh k)) k (fun p : Zv => (gL (shQ (g 4) (g 5) (g 6) (n 3)) p.1.toNatClampNeg p.2.1.toNatClampNeg).foldl (layG p.1 p.2.1 (n 4) (n 5) (n 6) (n 7) (n 2)) p.2.2)) nm (va_up gm 3 (mX gm k (lysN (nm 1) (gm 3) ((sjL (gm 10) (gm 11) (gm 12) (nm 2) ((gm 1) k.toNatClampNeg).toNatClampNeg ((gm 2) k.toNatClampNeg).toNatClampNeg).foldl (mkF ((gm 1) k.toNatClampNeg) ((gm 2) k.toNatClampNeg) (nm 3) (nm 4) (nm 5) (nm 6) (nm 7)) (zrN (gm 4) 4096, (gm 5), (gm 6))).1 ((sjL (gm 10) (gm 11) (gm 12) (nm 2) ((gm 1) k.toNatClampNeg).toNatClampNeg ((gm 2) k.toNatClampNeg).toNatClampNeg).foldl (mkF ((gm 1) k.toNatClampNeg) ((gm 2) k.toNatClampNeg) (nm 3) (nm 4) (nm 5) (nm 6) (nm 7)) (zrN (gm 4) 4096, (gm 5), (gm 6))).2.1 ((sjL (gm 10) (gm 11) (gm 12) (nm 2) ((gm 1) k.toNatClampNeg).toNatClampNeg ((gm 2) k.toNatClampNeg).toNatClampNeg).foldl (mkF ((gm 1) k.toNatClampNeg) ((gm 2) k.toNatClampNeg) (nm 3) (nm 4) (nm 5) (nm 6) (nm 7)) (zrN (gm 4) 4096, (gm 5), (gm 6))).2.2 k.toNatClampNeg 4096))) := by
  refine draw_ok h (fun p hM hz hm => ?_)
  have h9 := h
  obtain ⟨⟨r0, r1, r2, r3⟩, rc, rp, ⟨k1, k2, k3⟩, -, -⟩ := h
  obtain ⟨m1, m2, m3, m4, m5⟩ := hm
  try dsimp only
  have d := draw_list (w := p.1) (h := p.2.1) (wy := n 2) (l := gL (shQ (g 4) (g 5) (g 6) (n 3)) p.1.toNatClampNeg p.2.1.toNatClampNeg) (g := p.2.2) (gm := gm 4) (ge := gm 5) (gv := gm 6) m3.2 m4.2 (clp_ob rc m3.2 m4.2) (ds_nd m3.2 (sh_ds (cl64 m3.2) (cl64 m4.2)))
  simp only [← m1, ← m2, ← r0, ← r1, ← r2, ← r3, ← k1, ← k2, ← k3]
  rw [← sh_eq (rw_tb h9 hom) (cl64 m3.2) (cl64 m4.2)]
  exact dr_fin d.1 d.2 m5

set_option maxHeartbeats 1000000 in
theorem fd_ok {n nm : Nat → Int32} {g gm : Nat → Nat → Int32} {f : Nat → Option Nat} {sh : Nat → Option Sh} (h : RW n g (fun k => vO (sh k)) nm gm) (hok : okC n f sh) (hom : okM nm gm) {k x y co : Int32} : dsC (fun k => vO (sh k)) k (-1) (fun p : Zv => if 0 ≤ x.toInt ∧ x.toInt < p.1.toInt ∧ 0 ≤ y.toInt ∧ y.toInt < p.2.1.toInt then (plL (spS (opnC p.1 p.2.1 (n 4) (n 5) (n 6) (n 7)) p.2.2 x y co).2.1 (n 1) (n 3) (spS (opnC p.1 p.2.1 (n 4) (n 5) (n 6) (n 7)) p.2.2 x y co).2.2).foldl (layT p.1 p.2.1 (n 4) (n 5) (n 6) (n 7)) 0 else -1) = mA gm k (if (0 ≤ x.toInt ∧ x.toInt < ((gm 1) k.toNatClampNeg).toInt ∧ 0 ≤ y.toInt ∧ y.toInt < ((gm 2) k.toNatClampNeg).toInt) then (if ((nm 3).toInt = 0 ∨ ((nm 4).toInt ≤ x.toInt ∧ x.toInt ≤ (nm 5).toInt ∧ (nm 6).toInt ≤ y.toInt ∧ y.toInt ≤ (nm 7).toInt)) then nI (spS (opnJ ((gm 1) k.toNatClampNeg) ((gm 2) k.toNatClampNeg) (nm 3) (nm 4) (nm 5) (nm 6) (nm 7) 1) (fun t => (gm 3) (4096 * k.toNatClampNeg + t)) x y co).2.2 else 0) else -1) ∧ RW n g (dsG (fun k => vO (sh k)) k (fun p : Zv => if 0 ≤ x.toInt ∧ x.toInt < p.1.toInt ∧ 0 ≤ y.toInt ∧ y.toInt < p.2.1.toInt then (plL (spS (opnC p.1 p.2.1 (n 4) (n 5) (n 6) (n 7)) p.2.2 x y co).2.1 (n 1) (n 3) (spS (opnC p.1 p.2.1 (n 4) (n 5) (n 6) (n 7)) p.2.2 x y co).2.2).foldl (layG p.1 p.2.1 (n 4) (n 5) (n 6) (n 7) (n 2)) p.2.2 else p.2.2)) nm (va_up gm 3 (mX gm k (if (0 ≤ x.toInt ∧ x.toInt < ((gm 1) k.toNatClampNeg).toInt ∧ 0 ≤ y.toInt ∧ y.toInt < ((gm 2) k.toNatClampNeg).toInt) then (if ((nm 3).toInt = 0 ∨ ((nm 4).toInt ≤ x.toInt ∧ x.toInt ≤ (nm 5).toInt ∧ (nm 6).toInt ≤ y.toInt ∧ y.toInt ≤ (nm 7).toInt)) then lysN (nm 1) (gm 3) (spS (opnJ ((gm 1) k.toNatClampNeg) ((gm 2) k.toNatClampNeg) (nm 3) (nm 4) (nm 5) (nm 6) (nm 7) 1) (fun t => (gm 3) (4096 * k.toNatClampNeg + t)) x y co).1 (fun _ => (nm 2)) (fun _ => (nm 0)) k.toNatClampNeg 4096 else gm 3) else gm 3))) := by
  refine draw_ok h (fun p hM hz hm => ?_)
  have h9 := h
  obtain ⟨⟨r0, r1, r2, r3⟩, rc, rp, ⟨k1, k2, k3⟩, -, -⟩ := h
  obtain ⟨m1, m2, m3, m4, m5⟩ := hm
  try dsimp only
  simp only [← m1, ← m2, ← r0, ← r1, ← r2, ← r3]
  have hob := clp_ob rc m3.2 m4.2
  by_cases c : 0 ≤ x.toInt ∧ x.toInt < p.1.toInt ∧ 0 ≤ y.toInt ∧ y.toInt < p.2.1.toInt
  · simp only [if_pos c]
    by_cases cm : ((nm 3).toInt = 0 ∨ ((nm 4).toInt ≤ x.toInt ∧ x.toInt ≤ (nm 5).toInt ∧ (nm 6).toInt ≤ y.toInt ∧ y.toInt ≤ (nm 7).toInt))
    · simp only [if_pos cm]
      have hE := sp_eq (C := opnC p.1 p.2.1 (n 4) (n 5) (n 6) (n 7)) (C' := opnJ p.1 p.2.1 (nm 3) (nm 4) (nm 5) (nm 6) (nm 7) 1) (g := p.2.2) (g' := fun t => gm 3 (4096 * k.toNatClampNeg + t)) (x := x) (y := y) (co := co) (fun a b => ⟨fun q => ⟨((hob a b).mp q).1, Or.inr ((hob a b).mp q).2⟩, fun q => (hob a b).mpr ⟨q.1, q.2.elim (fun e => absurd e (by decide)) id⟩⟩) (fun _ _ q => opnC_lt m3.2 m4.2 q) m5 (ix_lt (by omega) (by omega) (by omega) (by omega))
      have kk9 := fl_key (wy := n 2) (g := p.2.2) (ik := n 1) (op := n 3) m3.2 m4.2 hob (iv_sp (g := p.2.2) (x := x) (y := y) (co := co) (fun _ _ q => opnC_lt m3.2 m4.2 q))
      refine ⟨kk9.2.trans (congrArg nI hE.2.1), ?_⟩
      have d := dr_fin (T := nI (cntP (spS (opnJ p.1 p.2.1 (nm 3) (nm 4) (nm 5) (nm 6) (nm 7) 1) (fun t => gm 3 (4096 * k.toNatClampNeg + t)) x y co).1 4096)) (wy := n 2) (G := (plL (spS (opnC p.1 p.2.1 (n 4) (n 5) (n 6) (n 7)) p.2.2 x y co).2.1 (n 1) (n 3) (spS (opnC p.1 p.2.1 (n 4) (n 5) (n 6) (n 7)) p.2.2 x y co).2.2).foldl (layG p.1 p.2.1 (n 4) (n 5) (n 6) (n 7) (n 2)) p.2.2) (d := p.2.2) (gd := gm 3) (M := ((spS (opnJ p.1 p.2.1 (nm 3) (nm 4) (nm 5) (nm 6) (nm 7) 1) (fun t => gm 3 (4096 * k.toNatClampNeg + t)) x y co).1, fun _ => n 3, fun _ => n 1)) (kk := k.toNatClampNeg) (fun j hj => by rw [kk9.1 j hj, hE.1 j hj]) rfl m5
      exact d.2
    · simp only [if_neg cm]
      have hn : ¬ opnC p.1 p.2.1 (n 4) (n 5) (n 6) (n 7) x y := fun q => cm ((hob x y).mp q).2
      rw [sp_no hn]
      exact ⟨by trivial, fun j hj => m5 j hj, fun _ _ _ _ => by trivial⟩
  · simp only [if_neg c]
    exact ⟨by trivial, fun j hj => m5 j hj, fun _ _ _ _ => by trivial⟩

set_option maxHeartbeats 1000000 in
theorem cp_ok {n nm : Nat → Int32} {g gm : Nat → Nat → Int32} {f : Nat → Option Nat} {sh : Nat → Option Sh} (h : RW n g (fun k => vO (sh k)) nm gm) (hok : okC n f sh) (hom : okM nm gm) {k ax ay aw ah kq ox oy : Int32} : dsC (fun k => vO (sh k)) kq (-1) (cpF (fun k => vO (sh k)) k ((0 ≤ aw.toInt ∧ aw.toInt ≤ 64) ∧ (0 ≤ ah.toInt ∧ ah.toInt ≤ 64)) ((-200 ≤ ax.toInt ∧ ax.toInt ≤ 200) ∧ (-200 ≤ ay.toInt ∧ ay.toInt ≤ 200) ∧ (-200 ≤ ox.toInt ∧ ox.toInt ≤ 200) ∧ (-200 ≤ oy.toInt ∧ oy.toInt ≤ 200)) (fun _ => (-1 : Int32)) (fun u p : Zv => (gL (cyQ ax ay aw ah ox oy aw ah u.1 u.2.1 (n 3) u.2.2) aw.toNatClampNeg ah.toNatClampNeg).foldl (layT p.1 p.2.1 (n 4) (n 5) (n 6) (n 7)) 0)) = mA gm kq (if isM gm k ∧ ((0 ≤ aw.toInt ∧ aw.toInt ≤ 64) ∧ (0 ≤ ah.toInt ∧ ah.toInt ≤ 64)) ∧ ((-200 ≤ ax.toInt ∧ ax.toInt ≤ 200) ∧ (-200 ≤ ay.toInt ∧ ay.toInt ≤ 200) ∧ (-200 ≤ ox.toInt ∧ ox.toInt ≤ 200) ∧ (-200 ≤ oy.toInt ∧ oy.toInt ≤ 200)) then nI (cntP ((gL (cyQ ax ay aw ah ox oy aw ah ((gm 1) k.toNatClampNeg) ((gm 2) k.toNatClampNeg) (nm 2) (fun t => (gm 3) (4096 * k.toNatClampNeg + t))) aw.toNatClampNeg ah.toNatClampNeg).foldl (mkF ((gm 1) kq.toNatClampNeg) ((gm 2) kq.toNatClampNeg) (nm 3) (nm 4) (nm 5) (nm 6) (nm 7)) (zrN (gm 4) 4096, (gm 5), (gm 6))).1 4096) else -1) ∧ RW n g (dsG (fun k => vO (sh k)) kq (cpF (fun k => vO (sh k)) k ((0 ≤ aw.toInt ∧ aw.toInt ≤ 64) ∧ (0 ≤ ah.toInt ∧ ah.toInt ≤ 64)) ((-200 ≤ ax.toInt ∧ ax.toInt ≤ 200) ∧ (-200 ≤ ay.toInt ∧ ay.toInt ≤ 200) ∧ (-200 ≤ ox.toInt ∧ ox.toInt ≤ 200) ∧ (-200 ≤ oy.toInt ∧ oy.toInt ≤ 200)) (fun p => p.2.2) (fun u p : Zv => (gL (cyQ ax ay aw ah ox oy aw ah u.1 u.2.1 (n 3) u.2.2) aw.toNatClampNeg ah.toNatClampNeg).foldl (layG p.1 p.2.1 (n 4) (n 5) (n 6) (n 7) (n 2)) p.2.2))) nm (va_up gm 3 (mX gm kq (if isM gm k ∧ ((0 ≤ aw.toInt ∧ aw.toInt ≤ 64) ∧ (0 ≤ ah.toInt ∧ ah.toInt ≤ 64)) ∧ ((-200 ≤ ax.toInt ∧ ax.toInt ≤ 200) ∧ (-200 ≤ ay.toInt ∧ ay.toInt ≤ 200) ∧ (-200 ≤ ox.toInt ∧ ox.toInt ≤ 200) ∧ (-200 ≤ oy.toInt ∧ oy.toInt ≤ 200)) then lysN (nm 1) (gm 3) ((gL (cyQ ax ay aw ah ox oy aw ah ((gm 1) k.toNatClampNeg) ((gm 2) k.toNatClampNeg) (nm 2) (fun t => (gm 3) (4096 * k.toNatClampNeg + t))) aw.toNatClampNeg ah.toNatClampNeg).foldl (mkF ((gm 1) kq.toNatClampNeg) ((gm 2) kq.toNatClampNeg) (nm 3) (nm 4) (nm 5) (nm 6) (nm 7)) (zrN (gm 4) 4096, (gm 5), (gm 6))).1 ((gL (cyQ ax ay aw ah ox oy aw ah ((gm 1) k.toNatClampNeg) ((gm 2) k.toNatClampNeg) (nm 2) (fun t => (gm 3) (4096 * k.toNatClampNeg + t))) aw.toNatClampNeg ah.toNatClampNeg).foldl (mkF ((gm 1) kq.toNatClampNeg) ((gm 2) kq.toNatClampNeg) (nm 3) (nm 4) (nm 5) (nm 6) (nm 7)) (zrN (gm 4) 4096, (gm 5), (gm 6))).2.1 ((gL (cyQ ax ay aw ah ox oy aw ah ((gm 1) k.toNatClampNeg) ((gm 2) k.toNatClampNeg) (nm 2) (fun t => (gm 3) (4096 * k.toNatClampNeg + t))) aw.toNatClampNeg ah.toNatClampNeg).foldl (mkF ((gm 1) kq.toNatClampNeg) ((gm 2) kq.toNatClampNeg) (nm 3) (nm 4) (nm 5) (nm 6) (nm 7)) (zrN (gm 4) 4096, (gm 5), (gm 6))).2.2 kq.toNatClampNeg 4096 else gm 3))) := by
  refine draw_ok h (fun p hM hz hm => ?_)
  have h9 := h
  obtain ⟨⟨r0, r1, r2, r3⟩, rc, rp, ⟨k1, k2, k3⟩, -, -⟩ := h
  obtain ⟨m1, m2, m3, m4, m5⟩ := hm
  try dsimp only
  by_cases c : isM gm k ∧ ((0 ≤ aw.toInt ∧ aw.toInt ≤ 64) ∧ (0 ≤ ah.toInt ∧ ah.toInt ≤ 64)) ∧ ((-200 ≤ ax.toInt ∧ ax.toInt ≤ 200) ∧ (-200 ≤ ay.toInt ∧ ay.toInt ≤ 200) ∧ (-200 ≤ ox.toInt ∧ ox.toInt ≤ 200) ∧ (-200 ≤ oy.toInt ∧ oy.toInt ≤ 200))
  · rcases tw h9 (k := k) ⟨c.1.1, c.1.2.1⟩ with ⟨-, q⟩ | ⟨u, hu, -, mu⟩
    · exact absurd c.1 q
    rw [cpF_y c.2.1 c.2.2 ⟨c.1.1, c.1.2.1⟩ hu, cpF_y c.2.1 c.2.2 ⟨c.1.1, c.1.2.1⟩ hu]
    simp only [if_pos c]
    obtain ⟨u1, u2, u3, u4, u5⟩ := mu
    have e : gL (cyQ ax ay aw ah ox oy aw ah u.1 u.2.1 (n 3) u.2.2) aw.toNatClampNeg ah.toNatClampNeg = gL (cyQ ax ay aw ah ox oy aw ah u.1 u.2.1 (n 3) (fun t => gm 3 (4096 * k.toNatClampNeg + t))) aw.toNatClampNeg ah.toNatClampNeg := gL_eq _ (fun j i _ _ => cy_eq u3.2 u4.2 u5)
    have d := draw_list (w := p.1) (h := p.2.1) (wy := n 2) (l := gL (cyQ ax ay aw ah ox oy aw ah u.1 u.2.1 (n 3) u.2.2) aw.toNatClampNeg ah.toNatClampNeg) (g := p.2.2) (gm := gm 4) (ge := gm 5) (gv := gm 6) m3.2 m4.2 (clp_ob rc m3.2 m4.2) (ds_nd m3.2 (cy_ds c.2.2.2.2.1 c.2.2.2.2.2 (cl64 c.2.1.1.2) (cl64 c.2.1.2.2)))
    simp only [← u1, ← u2, ← m1, ← m2, ← r0, ← r1, ← r2, ← r3]
    rw [← e]
    exact dr_fin d.1 d.2 m5
  · have no : ∀ {α : Type} (B : Zv → α) (T : Zv → Zv → α), cpF (fun k => vO (sh k)) k ((0 ≤ aw.toInt ∧ aw.toInt ≤ 64) ∧ (0 ≤ ah.toInt ∧ ah.toInt ≤ 64)) ((-200 ≤ ax.toInt ∧ ax.toInt ≤ 200) ∧ (-200 ≤ ay.toInt ∧ ay.toInt ≤ 200) ∧ (-200 ≤ ox.toInt ∧ ox.toInt ≤ 200) ∧ (-200 ≤ oy.toInt ∧ oy.toInt ≤ 200)) B T p = B p := by
      intro α B T
      by_cases s : (0 ≤ aw.toInt ∧ aw.toInt ≤ 64) ∧ (0 ≤ ah.toInt ∧ ah.toInt ≤ 64)
      · by_cases nr : (-200 ≤ ax.toInt ∧ ax.toInt ≤ 200) ∧ (-200 ≤ ay.toInt ∧ ay.toInt ≤ 200) ∧ (-200 ≤ ox.toInt ∧ ox.toInt ≤ 200) ∧ (-200 ≤ oy.toInt ∧ oy.toInt ≤ 200)
        · refine cpF_n (fun hk => ?_)
          rcases tw h9 (k := k) hk with ⟨q, -⟩ | ⟨u, -, q, -⟩
          · exact q
          · exact absurd ⟨q, s, nr⟩ c
        · exact cpF_r nr
      · exact cpF_z s
    rw [no, no]
    simp only [if_neg c]
    exact ⟨by trivial, fun j hj => m5 j hj, fun _ _ _ _ => by trivial⟩

set_option maxHeartbeats 1000000 in
theorem st_ok {n nm : Nat → Int32} {g gm : Nat → Nat → Int32} {f : Nat → Option Nat} {sh : Nat → Option Sh} (h : RW n g (fun k => vO (sh k)) nm gm) (hok : okC n f sh) (hom : okM nm gm) {k ax ay aw ah kq ox oy ow oh : Int32} : dsC (fun k => vO (sh k)) kq (-1) (cpF (fun k => vO (sh k)) k ((1 ≤ aw.toInt ∧ aw.toInt ≤ 64) ∧ (1 ≤ ah.toInt ∧ ah.toInt ≤ 64) ∧ (1 ≤ ow.toInt ∧ ow.toInt ≤ 64) ∧ (1 ≤ oh.toInt ∧ oh.toInt ≤ 64)) ((-200 ≤ ax.toInt ∧ ax.toInt ≤ 200) ∧ (-200 ≤ ay.toInt ∧ ay.toInt ≤ 200) ∧ (-200 ≤ ox.toInt ∧ ox.toInt ≤ 200) ∧ (-200 ≤ oy.toInt ∧ oy.toInt ≤ 200)) (fun _ => (-1 : Int32)) (fun u p : Zv => (gL (cyQ ax ay aw ah ox oy ow oh u.1 u.2.1 (n 3) u.2.2) ow.toNatClampNeg oh.toNatClampNeg).foldl (layT p.1 p.2.1 (n 4) (n 5) (n 6) (n 7)) 0)) = mA gm kq (if isM gm k ∧ ((1 ≤ aw.toInt ∧ aw.toInt ≤ 64) ∧ (1 ≤ ah.toInt ∧ ah.toInt ≤ 64) ∧ (1 ≤ ow.toInt ∧ ow.toInt ≤ 64) ∧ (1 ≤ oh.toInt ∧ oh.toInt ≤ 64)) ∧ ((-200 ≤ ax.toInt ∧ ax.toInt ≤ 200) ∧ (-200 ≤ ay.toInt ∧ ay.toInt ≤ 200) ∧ (-200 ≤ ox.toInt ∧ ox.toInt ≤ 200) ∧ (-200 ≤ oy.toInt ∧ oy.toInt ≤ 200)) then nI (cntP ((gL (cyQ ax ay aw ah ox oy ow oh ((gm 1) k.toNatClampNeg) ((gm 2) k.toNatClampNeg) (nm 2) (fun t => (gm 3) (4096 * k.toNatClampNeg + t))) ow.toNatClampNeg oh.toNatClampNeg).foldl (mkF ((gm 1) kq.toNatClampNeg) ((gm 2) kq.toNatClampNeg) (nm 3) (nm 4) (nm 5) (nm 6) (nm 7)) (zrN (gm 4) 4096, (gm 5), (gm 6))).1 4096) else -1) ∧ RW n g (dsG (fun k => vO (sh k)) kq (cpF (fun k => vO (sh k)) k ((1 ≤ aw.toInt ∧ aw.toInt ≤ 64) ∧ (1 ≤ ah.toInt ∧ ah.toInt ≤ 64) ∧ (1 ≤ ow.toInt ∧ ow.toInt ≤ 64) ∧ (1 ≤ oh.toInt ∧ oh.toInt ≤ 64)) ((-200 ≤ ax.toInt ∧ ax.toInt ≤ 200) ∧ (-200 ≤ ay.toInt ∧ ay.toInt ≤ 200) ∧ (-200 ≤ ox.toInt ∧ ox.toInt ≤ 200) ∧ (-200 ≤ oy.toInt ∧ oy.toInt ≤ 200)) (fun p => p.2.2) (fun u p : Zv => (gL (cyQ ax ay aw ah ox oy ow oh u.1 u.2.1 (n 3) u.2.2) ow.toNatClampNeg oh.toNatClampNeg).foldl (layG p.1 p.2.1 (n 4) (n 5) (n 6) (n 7) (n 2)) p.2.2))) nm (va_up gm 3 (mX gm kq (if isM gm k ∧ ((1 ≤ aw.toInt ∧ aw.toInt ≤ 64) ∧ (1 ≤ ah.toInt ∧ ah.toInt ≤ 64) ∧ (1 ≤ ow.toInt ∧ ow.toInt ≤ 64) ∧ (1 ≤ oh.toInt ∧ oh.toInt ≤ 64)) ∧ ((-200 ≤ ax.toInt ∧ ax.toInt ≤ 200) ∧ (-200 ≤ ay.toInt ∧ ay.toInt ≤ 200) ∧ (-200 ≤ ox.toInt ∧ ox.toInt ≤ 200) ∧ (-200 ≤ oy.toInt ∧ oy.toInt ≤ 200)) then lysN (nm 1) (gm 3) ((gL (cyQ ax ay aw ah ox oy ow oh ((gm 1) k.toNatClampNeg) ((gm 2) k.toNatClampNeg) (nm 2) (fun t => (gm 3) (4096 * k.toNatClampNeg + t))) ow.toNatClampNeg oh.toNatClampNeg).foldl (mkF ((gm 1) kq.toNatClampNeg) ((gm 2) kq.toNatClampNeg) (nm 3) (nm 4) (nm 5) (nm 6) (nm 7)) (zrN (gm 4) 4096, (gm 5), (gm 6))).1 ((gL (cyQ ax ay aw ah ox oy ow oh ((gm 1) k.toNatClampNeg) ((gm 2) k.toNatClampNeg) (nm 2) (fun t => (gm 3) (4096 * k.toNatClampNeg + t))) ow.toNatClampNeg oh.toNatClampNeg).foldl (mkF ((gm 1) kq.toNatClampNeg) ((gm 2) kq.toNatClampNeg) (nm 3) (nm 4) (nm 5) (nm 6) (nm 7)) (zrN (gm 4) 4096, (gm 5), (gm 6))).2.1 ((gL (cyQ ax ay aw ah ox oy ow oh ((gm 1) k.toNatClampNeg) ((gm 2) k.toNatClampNeg) (nm 2) (fun t => (gm 3) (4096 * k.toNatClampNeg + t))) ow.toNatClampNeg oh.toNatClampNeg).foldl (mkF ((gm 1) kq.toNatClampNeg) ((gm 2) kq.toNatClampNeg) (nm 3) (nm 4) (nm 5) (nm 6) (nm 7)) (zrN (gm 4) 4096, (gm 5), (gm 6))).2.2 kq.toNatClampNeg 4096 else gm 3))) := by
  refine draw_ok h (fun p hM hz hm => ?_)
  have h9 := h
  obtain ⟨⟨r0, r1, r2, r3⟩, rc, rp, ⟨k1, k2, k3⟩, -, -⟩ := h
  obtain ⟨m1, m2, m3, m4, m5⟩ := hm
  try dsimp only
  by_cases c : isM gm k ∧ ((1 ≤ aw.toInt ∧ aw.toInt ≤ 64) ∧ (1 ≤ ah.toInt ∧ ah.toInt ≤ 64) ∧ (1 ≤ ow.toInt ∧ ow.toInt ≤ 64) ∧ (1 ≤ oh.toInt ∧ oh.toInt ≤ 64)) ∧ ((-200 ≤ ax.toInt ∧ ax.toInt ≤ 200) ∧ (-200 ≤ ay.toInt ∧ ay.toInt ≤ 200) ∧ (-200 ≤ ox.toInt ∧ ox.toInt ≤ 200) ∧ (-200 ≤ oy.toInt ∧ oy.toInt ≤ 200))
  · rcases tw h9 (k := k) ⟨c.1.1, c.1.2.1⟩ with ⟨-, q⟩ | ⟨u, hu, -, mu⟩
    · exact absurd c.1 q
    rw [cpF_y c.2.1 c.2.2 ⟨c.1.1, c.1.2.1⟩ hu, cpF_y c.2.1 c.2.2 ⟨c.1.1, c.1.2.1⟩ hu]
    simp only [if_pos c]
    obtain ⟨u1, u2, u3, u4, u5⟩ := mu
    have e : gL (cyQ ax ay aw ah ox oy ow oh u.1 u.2.1 (n 3) u.2.2) ow.toNatClampNeg oh.toNatClampNeg = gL (cyQ ax ay aw ah ox oy ow oh u.1 u.2.1 (n 3) (fun t => gm 3 (4096 * k.toNatClampNeg + t))) ow.toNatClampNeg oh.toNatClampNeg := gL_eq _ (fun j i _ _ => cy_eq u3.2 u4.2 u5)
    have d := draw_list (w := p.1) (h := p.2.1) (wy := n 2) (l := gL (cyQ ax ay aw ah ox oy ow oh u.1 u.2.1 (n 3) u.2.2) ow.toNatClampNeg oh.toNatClampNeg) (g := p.2.2) (gm := gm 4) (ge := gm 5) (gv := gm 6) m3.2 m4.2 (clp_ob rc m3.2 m4.2) (ds_nd m3.2 (cy_ds c.2.2.2.2.1 c.2.2.2.2.2 (cl64 c.2.1.2.2.1.2) (cl64 c.2.1.2.2.2.2)))
    simp only [← u1, ← u2, ← m1, ← m2, ← r0, ← r1, ← r2, ← r3]
    rw [← e]
    exact dr_fin d.1 d.2 m5
  · have no : ∀ {α : Type} (B : Zv → α) (T : Zv → Zv → α), cpF (fun k => vO (sh k)) k ((1 ≤ aw.toInt ∧ aw.toInt ≤ 64) ∧ (1 ≤ ah.toInt ∧ ah.toInt ≤ 64) ∧ (1 ≤ ow.toInt ∧ ow.toInt ≤ 64) ∧ (1 ≤ oh.toInt ∧ oh.toInt ≤ 64)) ((-200 ≤ ax.toInt ∧ ax.toInt ≤ 200) ∧ (-200 ≤ ay.toInt ∧ ay.toInt ≤ 200) ∧ (-200 ≤ ox.toInt ∧ ox.toInt ≤ 200) ∧ (-200 ≤ oy.toInt ∧ oy.toInt ≤ 200)) B T p = B p := by
      intro α B T
      by_cases s : (1 ≤ aw.toInt ∧ aw.toInt ≤ 64) ∧ (1 ≤ ah.toInt ∧ ah.toInt ≤ 64) ∧ (1 ≤ ow.toInt ∧ ow.toInt ≤ 64) ∧ (1 ≤ oh.toInt ∧ oh.toInt ≤ 64)
      · by_cases nr : (-200 ≤ ax.toInt ∧ ax.toInt ≤ 200) ∧ (-200 ≤ ay.toInt ∧ ay.toInt ≤ 200) ∧ (-200 ≤ ox.toInt ∧ ox.toInt ≤ 200) ∧ (-200 ≤ oy.toInt ∧ oy.toInt ≤ 200)
        · refine cpF_n (fun hk => ?_)
          rcases tw h9 (k := k) hk with ⟨q, -⟩ | ⟨u, -, q, -⟩
          · exact q
          · exact absurd ⟨q, s, nr⟩ c
        · exact cpF_r nr
      · exact cpF_z s
    rw [no, no]
    simp only [if_neg c]
    exact ⟨by trivial, fun j hj => m5 j hj, fun _ _ _ _ => by trivial⟩

set_option maxHeartbeats 1000000 in
theorem dt_ok {n nm : Nat → Int32} {g gm : Nat → Nat → Int32} {f : Nat → Option Nat} {sh : Nat → Option Sh} (h : RW n g (fun k => vO (sh k)) nm gm) (hok : okC n f sh) (hom : okM nm gm) {k x y : Int32} : dsC (fun k => vO (sh k)) k 0 (fun p : Zv => if 0 ≤ x.toInt ∧ x.toInt < p.1.toInt ∧ 0 ≤ y.toInt ∧ y.toInt < p.2.1.toInt then p.2.2 (ixP x y) else 0) = if (0 ≤ k.toInt ∧ k.toInt ≤ 3 ∧ 0 < ((gm 1) k.toNatClampNeg).toInt) ∧ (0 ≤ x.toInt ∧ x.toInt < ((gm 1) k.toNatClampNeg).toInt ∧ 0 ≤ y.toInt ∧ y.toInt < ((gm 2) k.toNatClampNeg).toInt) then (gm 3) (4096 * k.toNatClampNeg + ixP x y) else 0 := by
  rw [read_ok (A := if (0 ≤ x.toInt ∧ x.toInt < ((gm 1) k.toNatClampNeg).toInt ∧ 0 ≤ y.toInt ∧ y.toInt < ((gm 2) k.toNatClampNeg).toInt) then gm 3 (4096 * k.toNatClampNeg + ixP x y) else 0) h (fun p hM hz hm => by
    obtain ⟨m1, m2, m3, m4, m5⟩ := hm
    try dsimp only
    simp only [← m1, ← m2]
    by_cases c : 0 ≤ x.toInt ∧ x.toInt < p.1.toInt ∧ 0 ≤ y.toInt ∧ y.toInt < p.2.1.toInt
    · simp only [if_pos c]
      exact m5 _ (ix_lt (by omega) (by omega) (by omega) (by omega))
    · simp only [if_neg c])]
  exact if_if

set_option maxHeartbeats 1000000 in
theorem ct_ok {n nm : Nat → Int32} {g gm : Nat → Nat → Int32} {f : Nat → Option Nat} {sh : Nat → Option Sh} (h : RW n g (fun k => vO (sh k)) nm gm) (hok : okC n f sh) (hom : okM nm gm) {k vl : Int32} : dsC (fun k => vO (sh k)) k (-1) (fun p : Zv => smL (ctF p.2.2 vl) p.1.toNatClampNeg 0 p.2.1.toNatClampNeg) = mA gm k (smL (ctF (fun t => (gm 3) (4096 * k.toNatClampNeg + t)) vl) ((gm 1) k.toNatClampNeg).toNatClampNeg 0 ((gm 2) k.toNatClampNeg).toNatClampNeg) := by
  refine read_ok h (fun p hM hz hm => ?_)
  obtain ⟨m1, m2, m3, m4, m5⟩ := hm
  try dsimp only
  simp only [← m1, ← m2]
  exact smL_eq _ (fun j i a hj hi => by unfold ctF; rw [m5 _ (ixn m3.2 m4.2 hi hj)])

set_option maxHeartbeats 1000000 in
theorem lk_ok {n nm : Nat → Int32} {g gm : Nat → Nat → Int32} {f : Nat → Option Nat} {sh : Nat → Option Sh} (h : RW n g (fun k => vO (sh k)) nm gm) (hok : okC n f sh) (hom : okM nm gm) {k wh : Int32} : dsC (fun k => vO (sh k)) k (-1) (fun p : Zv => lkP p.2.2 p.1 p.2.1 wh) = mA gm k (if (0 ≤ wh.toInt ∧ wh.toInt ≤ 9) then lkP (fun t => (gm 3) (4096 * k.toNatClampNeg + t)) ((gm 1) k.toNatClampNeg) ((gm 2) k.toNatClampNeg) wh else -1) := by
  refine read_ok h (fun p hM hz hm => ?_)
  obtain ⟨m1, m2, m3, m4, m5⟩ := hm
  try dsimp only
  simp only [← m1, ← m2]
  unfold lkP
  by_cases c : 0 ≤ wh.toInt ∧ wh.toInt ≤ 9
  · simp only [if_pos c]
    exact lkN_eq m3.2 m4.2 m5 _
  · simp only [if_neg c]

set_option maxHeartbeats 1000000 in
theorem rg_ok {n nm : Nat → Int32} {g gm : Nat → Nat → Int32} {f : Nat → Option Nat} {sh : Nat → Option Sh} (h : RW n g (fun k => vO (sh k)) nm gm) (hok : okC n f sh) (hom : okM nm gm) {k x y co : Int32} : dsC (fun k => vO (sh k)) k (-1) (fun p : Zv => if 0 ≤ x.toInt ∧ x.toInt < p.1.toInt ∧ 0 ≤ y.toInt ∧ y.toInt < p.2.1.toInt then nI (spS (opnC p.1 p.2.1 (n 8) (n 9) (n 10) (n 11)) p.2.2 x y co).2.2 else -1) = mA gm k (if (0 ≤ x.toInt ∧ x.toInt < ((gm 1) k.toNatClampNeg).toInt ∧ 0 ≤ y.toInt ∧ y.toInt < ((gm 2) k.toNatClampNeg).toInt) then nI (spS (opnJ ((gm 1) k.toNatClampNeg) ((gm 2) k.toNatClampNeg) (nm 3) (nm 4) (nm 5) (nm 6) (nm 7) 0) (fun t => (gm 3) (4096 * k.toNatClampNeg + t)) x y co).2.2 else -1) := by
  refine read_ok h (fun p hM hz hm => ?_)
  obtain ⟨-, -, -, -, ⟨v8, v9, v10, v11⟩, -⟩ := h
  obtain ⟨m1, m2, m3, m4, m5⟩ := hm
  try dsimp only
  simp only [← m1, ← m2, v8, v9, v10, v11]
  by_cases c : 0 ≤ x.toInt ∧ x.toInt < p.1.toInt ∧ 0 ≤ y.toInt ∧ y.toInt < p.2.1.toInt
  · simp only [if_pos c]
    have h0 : (0 : Int32).toInt = 0 := by decide
    have h63 : (63 : Int32).toInt = 63 := by decide
    exact congrArg nI (sp_eq (fun a b => ⟨fun q => ⟨by omega, Or.inl rfl⟩, fun q => by have := q.1; omega⟩) (fun _ _ q => opnC_lt m3.2 m4.2 q) m5 (ix_lt (by omega) (by omega) (by omega) (by omega))).2.1
  · simp only [if_neg c]

set_option maxHeartbeats 1000000 in
theorem df_ok {n nm : Nat → Int32} {g gm : Nat → Nat → Int32} {f : Nat → Option Nat} {sh : Nat → Option Sh} (h : RW n g (fun k => vO (sh k)) nm gm) (hok : okC n f sh) (hom : okM nm gm) {k kq : Int32} : dsC (fun k => vO (sh k)) k (-1) (fun u : Zv => dsC (fun k => vO (sh k)) kq (-1) (fun p : Zv => if u.1.toInt = p.1.toInt ∧ u.2.1.toInt = p.2.1.toInt then smL (dfF u.2.2 p.2.2) u.1.toNatClampNeg 0 u.2.1.toNatClampNeg else -1)) = if (isM gm k ∧ isM gm kq) ∧ ((gm 1 k.toNatClampNeg).toInt = (gm 1 kq.toNatClampNeg).toInt ∧ (gm 2 k.toNatClampNeg).toInt = (gm 2 kq.toNatClampNeg).toInt) then smL (dfF (fun t => (gm 3) (4096 * k.toNatClampNeg + t)) (fun t => (gm 3) (4096 * kq.toNatClampNeg + t))) ((gm 1) k.toNatClampNeg).toNatClampNeg 0 ((gm 2) k.toNatClampNeg).toNatClampNeg else -1 := by
  rw [read_ok (A := if isM gm kq then (if (gm 1 k.toNatClampNeg).toInt = (gm 1 kq.toNatClampNeg).toInt ∧ (gm 2 k.toNatClampNeg).toInt = (gm 2 kq.toNatClampNeg).toInt then smL (dfF (fun t => (gm 3) (4096 * k.toNatClampNeg + t)) (fun t => (gm 3) (4096 * kq.toNatClampNeg + t))) ((gm 1) k.toNatClampNeg).toNatClampNeg 0 ((gm 2) k.toNatClampNeg).toNatClampNeg else -1) else -1) h (fun u hM hz hm => by
    obtain ⟨u1, u2, u3, u4, u5⟩ := hm
    refine read_ok h (fun p hM' hz' hm' => ?_)
    obtain ⟨m1, m2, m3, m4, m5⟩ := hm'
    try dsimp only
    simp only [← m1, ← m2, ← u1, ← u2]
    by_cases c : u.1.toInt = p.1.toInt ∧ u.2.1.toInt = p.2.1.toInt
    · simp only [if_pos c]
      exact smL_eq _ (fun j i a hj hi => by unfold dfF; rw [u5 _ (ixn u3.2 u4.2 hi hj), m5 _ (ixn u3.2 u4.2 hi hj)])
    · simp only [if_neg c])]
  exact if_if3
