/-! what hangs together: both sides go through the DOTS in one order -/
abbrev S3 : Type := (Nat → Int32) × (Nat → Int32) × Nat
def rcS (C : Int32 → Int32 → Prop) [∀ x y, Decidable (C x y)] (g : Nat → Int32) (vl x y : Int32) (st : S3) : S3 := if (C x y ∧ g (ixP x y) = vl) ∧ st.1 (ixP x y) = 0 ∧ st.2.2 < 4096 then (upd st.1 (ixP x y) 1, upd st.2.1 st.2.2 (nI (ixP x y)), st.2.2 + 1) else st
def dX (q : Nat) : Int32 := nI (q % 3) - 1
def dY (q : Nat) : Int32 := nI (q / 3) - 1
def rcI (C : Int32 → Int32 → Prop) [∀ x y, Decidable (C x y)] (g : Nat → Int32) (vl co px py : Int32) (st : S3) : Nat → S3
  | 0 => st
  | q + 1 => if ¬ co = 0 ∨ dX q = 0 ∨ dY q = 0 then rcS C g vl (px + dX q) (py + dY q) (rcI C g vl co px py st q) else rcI C g vl co px py st q
def pX (v : Int32) : Int32 := v - v / 64 * 64
def pY (v : Int32) : Int32 := v / 64
def rcO (C : Int32 → Int32 → Prop) [∀ x y, Decidable (C x y)] (g : Nat → Int32) (vl co : Int32) (st : S3) : Nat → S3
  | 0 => st
  | i + 1 => rcI C g vl co (pX ((rcO C g vl co st i).2.1 i)) (pY ((rcO C g vl co st i).2.1 i)) (rcO C g vl co st i) 9
/-- the same as far as it counts -/
def eqS (a b : S3) : Prop := (∀ j : Nat, j < 4096 → a.1 j = b.1 j) ∧ a.2.2 = b.2.2 ∧ ∀ t : Nat, t < a.2.2 → a.2.1 t = b.2.1 t
theorem rcS_eq {C C' : Int32 → Int32 → Prop} [∀ x y, Decidable (C x y)] [∀ x y, Decidable (C' x y)] {g g' : Nat → Int32} {vl : Int32} (hC : ∀ x y, C x y ↔ C' x y) (hb : ∀ x y, C x y → ixP x y < 4096) (hg : ∀ j : Nat, j < 4096 → g j = g' j) {x y : Int32} {a b : S3} (h : eqS a b) : eqS (rcS C g vl x y a) (rcS C' g' vl x y b) := by
  obtain ⟨h1, h2, h3⟩ := h
  unfold rcS
  by_cases c : (C x y ∧ g (ixP x y) = vl) ∧ a.1 (ixP x y) = 0 ∧ a.2.2 < 4096
  · have hl := hb x y c.1.1
    have c' : (C' x y ∧ g' (ixP x y) = vl) ∧ b.1 (ixP x y) = 0 ∧ b.2.2 < 4096 := ⟨⟨(hC x y).mp c.1.1, by rw [← hg _ hl]; exact c.1.2⟩, by rw [← h1 _ hl]; exact c.2.1, by rw [← h2]; exact c.2.2⟩
    rw [if_pos c, if_pos c']
    refine ⟨fun j hj => ?_, by show a.2.2 + 1 = b.2.2 + 1; rw [h2], fun t ht => ?_⟩
    · show upd a.1 (ixP x y) 1 j = upd b.1 (ixP x y) 1 j
      by_cases q : j = ixP x y
      · rw [q, pk_us, pk_us]
      · rw [pk_un q, pk_un q]; exact h1 j hj
    · have ht' : t < a.2.2 + 1 := ht
      show upd a.2.1 a.2.2 (nI (ixP x y)) t = upd b.2.1 b.2.2 (nI (ixP x y)) t
      rw [← h2]
      by_cases q : t = a.2.2
      · rw [q, pk_us, pk_us]
      · rw [pk_un q, pk_un q]; exact h3 t (by omega)
  · have c' : ¬ ((C' x y ∧ g' (ixP x y) = vl) ∧ b.1 (ixP x y) = 0 ∧ b.2.2 < 4096) := fun q => by
      have q1 : C x y := (hC x y).mpr q.1.1
      have hl := hb x y q1
      exact c ⟨⟨q1, by rw [hg _ hl]; exact q.1.2⟩, by rw [h1 _ hl]; exact q.2.1, by rw [h2]; exact q.2.2⟩
    rw [if_neg c, if_neg c']
    exact ⟨h1, h2, h3⟩
theorem rcI_eq {C C' : Int32 → Int32 → Prop} [∀ x y, Decidable (C x y)] [∀ x y, Decidable (C' x y)] {g g' : Nat → Int32} {vl co : Int32} (hC : ∀ x y, C x y ↔ C' x y) (hb : ∀ x y, C x y → ixP x y < 4096) (hg : ∀ j : Nat, j < 4096 → g j = g' j) {px py : Int32} {a b : S3} (h : eqS a b) : ∀ q, eqS (rcI C g vl co px py a q) (rcI C' g' vl co px py b q)
  | 0 => h
  | q + 1 => by
    show eqS (if ¬ co = 0 ∨ dX q = 0 ∨ dY q = 0 then rcS C g vl (px + dX q) (py + dY q) (rcI C g vl co px py a q) else rcI C g vl co px py a q) (if ¬ co = 0 ∨ dX q = 0 ∨ dY q = 0 then rcS C' g' vl (px + dX q) (py + dY q) (rcI C' g' vl co px py b q) else rcI C' g' vl co px py b q)
    by_cases c : ¬ co = 0 ∨ dX q = 0 ∨ dY q = 0
    · rw [if_pos c, if_pos c]
      exact rcS_eq hC hb hg (rcI_eq hC hb hg h q)
    · rw [if_neg c, if_neg c]
      exact rcI_eq hC hb hg h q
theorem rcO_eq {C C' : Int32 → Int32 → Prop} [∀ x y, Decidable (C x y)] [∀ x y, Decidable (C' x y)] {g g' : Nat → Int32} {vl co : Int32} (hC : ∀ x y, C x y ↔ C' x y) (hb : ∀ x y, C x y → ixP x y < 4096) (hg : ∀ j : Nat, j < 4096 → g j = g' j) {a b : S3} (h : eqS a b) : ∀ i, (∀ i', i' < i → i' < (rcO C g vl co a i').2.2) → eqS (rcO C g vl co a i) (rcO C' g' vl co b i)
  | 0, _ => h
  | i + 1, hi => by
    have ih := rcO_eq hC hb hg h i (fun i' h' => hi i' (by omega))
    show eqS (rcI C g vl co (pX ((rcO C g vl co a i).2.1 i)) (pY ((rcO C g vl co a i).2.1 i)) (rcO C g vl co a i) 9) (rcI C' g' vl co (pX ((rcO C' g' vl co b i).2.1 i)) (pY ((rcO C' g' vl co b i).2.1 i)) (rcO C' g' vl co b i) 9)
    rw [← ih.2.2 i (hi i (by omega))]
    exact rcI_eq hC hb hg ih 9
/-- the two ends are one -/
theorem rc_end {C C' : Int32 → Int32 → Prop} [∀ x y, Decidable (C x y)] [∀ x y, Decidable (C' x y)] {g g' : Nat → Int32} {vl co : Int32} (hC : ∀ x y, C x y ↔ C' x y) (hb : ∀ x y, C x y → ixP x y < 4096) (hg : ∀ j : Nat, j < 4096 → g j = g' j) {a b : S3} (h : eqS a b) {I J : Nat} (hI : ∀ i, i < I → i < (rcO C g vl co a i).2.2) (hI2 : ¬ I < (rcO C g vl co a I).2.2) (hJ : ∀ i, i < J → i < (rcO C' g' vl co b i).2.2) (hJ2 : ¬ J < (rcO C' g' vl co b J).2.2) : I = J ∧ eqS (rcO C g vl co a I) (rcO C' g' vl co b J) := by
  have e : I = J := by
    rcases Nat.lt_trichotomy I J with c | c | c
    · have h1 := rcO_eq (vl := vl) (co := co) hC hb hg h I hI
      have h2 := hJ I c
      rw [← h1.2.1] at h2
      exact absurd h2 hI2
    · exact c
    · have h1 := rcO_eq (vl := vl) (co := co) hC hb hg h J (fun i hi => hI i (by omega))
      have h2 := hI J c
      rw [h1.2.1] at h2
      exact absurd h2 hJ2
  subst e
  exact ⟨rfl, rcO_eq hC hb hg h I hI⟩
theorem rcS_keep {C : Int32 → Int32 → Prop} [∀ x y, Decidable (C x y)] {g : Nat → Int32} {vl x y : Int32} {st : S3} (h : st.2.2 ≤ 4096) : st.2.2 ≤ (rcS C g vl x y st).2.2 ∧ (rcS C g vl x y st).2.2 ≤ 4096 ∧ ∀ t : Nat, t < st.2.2 → (rcS C g vl x y st).2.1 t = st.2.1 t := by
  unfold rcS
  by_cases c : (C x y ∧ g (ixP x y) = vl) ∧ st.1 (ixP x y) = 0 ∧ st.2.2 < 4096
  · rw [if_pos c]
    exact ⟨Nat.le_succ _, c.2.2, fun t ht => pk_un (by omega)⟩
  · rw [if_neg c]
    exact ⟨Nat.le_refl _, h, fun _ _ => rfl⟩
theorem rcI_keep {C : Int32 → Int32 → Prop} [∀ x y, Decidable (C x y)] {g : Nat → Int32} {vl co px py : Int32} {st : S3} (h : st.2.2 ≤ 4096) : ∀ q, st.2.2 ≤ (rcI C g vl co px py st q).2.2 ∧ (rcI C g vl co px py st q).2.2 ≤ 4096 ∧ ∀ t : Nat, t < st.2.2 → (rcI C g vl co px py st q).2.1 t = st.2.1 t
  | 0 => ⟨Nat.le_refl _, h, fun _ _ => rfl⟩
  | q + 1 => by
    have ih := rcI_keep (C := C) (g := g) (vl := vl) (co := co) (px := px) (py := py) h q
    show st.2.2 ≤ (if ¬ co = 0 ∨ dX q = 0 ∨ dY q = 0 then rcS C g vl (px + dX q) (py + dY q) (rcI C g vl co px py st q) else rcI C g vl co px py st q).2.2 ∧ (if ¬ co = 0 ∨ dX q = 0 ∨ dY q = 0 then rcS C g vl (px + dX q) (py + dY q) (rcI C g vl co px py st q) else rcI C g vl co px py st q).2.2 ≤ 4096 ∧ ∀ t : Nat, t < st.2.2 → (if ¬ co = 0 ∨ dX q = 0 ∨ dY q = 0 then rcS C g vl (px + dX q) (py + dY q) (rcI C g vl co px py st q) else rcI C g vl co px py st q).2.1 t = st.2.1 t
    by_cases c : ¬ co = 0 ∨ dX q = 0 ∨ dY q = 0
    · rw [if_pos c]
      have k := rcS_keep (C := C) (g := g) (vl := vl) (x := px + dX q) (y := py + dY q) ih.2.1
      exact ⟨Nat.le_trans ih.1 k.1, k.2.1, fun t ht => (k.2.2 t (by omega)).trans (ih.2.2 t ht)⟩
    · rw [if_neg c]
      exact ih
theorem dX_eq : ∀ q : Nat, q < 9 → nI q - nI q / 3 * 3 - 1 = dX q := by decide
theorem dY_eq : ∀ q : Nat, q < 9 → nI q / 3 - 1 = dY q := by decide
theorem ix_nI {x y : Int32} (h1 : 0 ≤ x.toInt) (h2 : x.toInt < 64) (h3 : 0 ≤ y.toInt) (h4 : y.toInt < 64) : y * 64 + x = nI (ixP x y) := by
  obtain ⟨i, hi, e, -, e2, -⟩ := ix_all h1 h2 h3 h4
  rw [e, e2]
abbrev opnJ (W H cl cx0 cx1 cy0 cy1 ic x y : Int32) : Prop := (0 ≤ x.toInt ∧ x.toInt < W.toInt ∧ 0 ≤ y.toInt ∧ y.toInt < H.toInt) ∧ (ic = 0 ∨ cl.toInt = 0 ∨ (cx0.toInt ≤ x.toInt ∧ x.toInt ≤ cx1.toInt ∧ cy0.toInt ≤ y.toInt ∧ y.toInt ≤ cy1.toInt))
theorem ix_nI2 {x y : Int32} (h1 : 0 ≤ x.toInt) (h2 : x.toInt < 64) (h3 : 0 ≤ y.toInt) (h4 : y.toInt < 64) : 64 * y + x = nI (ixP x y) := by
  obtain ⟨i, hi, -, e, e2, -⟩ := ix_all h1 h2 h3 h4
  rw [e, e2]
theorem eqS_refl (a : S3) : eqS a a := ⟨fun _ _ => rfl, rfl, fun _ _ => rfl⟩
theorem eqS_tr {a b c : S3} (h : eqS a b) (k : eqS b c) : eqS a c := ⟨fun j hj => (h.1 j hj).trans (k.1 j hj), h.2.1.trans k.2.1, fun t ht => (h.2.2 t ht).trans (k.2.2 t (by rw [← h.2.1]; exact ht))⟩
theorem eqS_sy {a b : S3} (h : eqS a b) : eqS b a := ⟨fun j hj => (h.1 j hj).symm, h.2.1.symm, fun t ht => (h.2.2 t (by rw [h.2.1]; exact ht)).symm⟩
/-- where it ends -/
def edN (C : Int32 → Int32 → Prop) [∀ x y, Decidable (C x y)] (g : Nat → Int32) (vl co : Int32) (st : S3) : Nat → Nat → Nat
  | 0, i => i
  | k + 1, i => if i < (rcO C g vl co st i).2.2 then edN C g vl co st k (i + 1) else i
theorem ed_is {C : Int32 → Int32 → Prop} [∀ x y, Decidable (C x y)] {g : Nat → Int32} {vl co : Int32} {st : S3} {I : Nat} (h : ∀ i, i < I → i < (rcO C g vl co st i).2.2) (h2 : ¬ I < (rcO C g vl co st I).2.2) : ∀ k i : Nat, i ≤ I → I < i + k → edN C g vl co st k i = I
  | 0, i, h3, h4 => by omega
  | k + 1, i, h3, h4 => by
    show (if i < (rcO C g vl co st i).2.2 then edN C g vl co st k (i + 1) else i) = I
    by_cases c : i = I
    · subst c
      rw [if_neg h2]
    · rw [if_pos (h i (by omega))]
      exact ed_is h h2 k (i + 1) (by omega) (by omega)
def rcE (C : Int32 → Int32 → Prop) [∀ x y, Decidable (C x y)] (g : Nat → Int32) (vl co : Int32) (st : S3) : S3 := rcO C g vl co st (edN C g vl co st 4098 0)
def z3 : S3 := (fun _ => 0, fun _ => 0, 0)
/-- what hangs together with (x, y) -/
def spS (C : Int32 → Int32 → Prop) [∀ x y, Decidable (C x y)] (g : Nat → Int32) (x y co : Int32) : S3 := rcE C g (g (ixP x y)) co (rcS C g (g (ixP x y)) x y z3)
theorem rcO_le {C : Int32 → Int32 → Prop} [∀ x y, Decidable (C x y)] {g : Nat → Int32} {vl co : Int32} {st : S3} (h : st.2.2 ≤ 4096) : ∀ i : Nat, (rcO C g vl co st i).2.2 ≤ 4096
  | 0 => h
  | i + 1 => (rcI_keep (C := C) (g := g) (vl := vl) (co := co) (px := pX ((rcO C g vl co st i).2.1 i)) (py := pY ((rcO C g vl co st i).2.1 i)) (rcO_le h i) 9).2.1
/-- an end that was reached from a start that counts the same -/
theorem sp_end {C C' : Int32 → Int32 → Prop} [∀ x y, Decidable (C x y)] [∀ x y, Decidable (C' x y)] {g g' : Nat → Int32} {vl co : Int32} (hC : ∀ x y, C x y ↔ C' x y) (hb : ∀ x y, C x y → ixP x y < 4096) (hg : ∀ j : Nat, j < 4096 → g j = g' j) {a b : S3} (h : eqS a b) (ha : a.2.2 ≤ 4096) {I : Nat} (hI : ∀ i, i < I → i < (rcO C g vl co a i).2.2) (hI2 : ¬ I < (rcO C g vl co a I).2.2) : eqS (rcO C g vl co a I) (rcE C' g' vl co b) := by
  have hle : I ≤ 4096 := by
    rcases Nat.lt_or_ge 4096 I with c | c
    · have h1 := hI 4096 c
      have h2 := rcO_le (C := C) (g := g) (vl := vl) (co := co) ha 4096
      omega
    · exact c
  have e := rcO_eq (vl := vl) (co := co) hC hb hg h
  have hJ : ∀ i, i < I → i < (rcO C' g' vl co b i).2.2 := fun i hi => by
    rw [← (e i (fun i' h' => hI i' (by omega))).2.1]
    exact hI i hi
  have hJ2 : ¬ I < (rcO C' g' vl co b I).2.2 := by
    rw [← (e I hI).2.1]
    exact hI2
  unfold rcE
  rw [ed_is hJ hJ2 4098 0 (by omega) (by omega)]
  exact e I hI
theorem opnC_lt {w h b0 b1 b2 b3 x y : Int32} (hw : w.toInt ≤ 64) (hh : h.toInt ≤ 64) (h1 : opnC w h b0 b1 b2 b3 x y) : ixP x y < 4096 := ix_lt (by omega) (by omega) (by omega) (by omega)
theorem opnJ_lt {W H cl cx0 cx1 cy0 cy1 ic x y : Int32} (hw : W.toInt ≤ 64) (hh : H.toInt ≤ 64) (h1 : opnJ W H cl cx0 cx1 cy0 cy1 ic x y) : ixP x y < 4096 := ix_lt (by omega) (by omega) (by omega) (by omega)
def plL (ga : Nat → Int32) (ik op : Int32) : Nat → List Req
  | 0 => []
  | i + 1 => plL ga ik op i ++ [(pX (ga i), pY (ga i), ik, op)]
