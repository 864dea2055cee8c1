/-- the first i places are 0 -/
def zrN (g : Nat → Int32) (i : Nat) : Nat → Int32 := fun j => if j < i then 0 else g j
theorem zr_0 (g : Nat → Int32) : g = zrN g 0 := by
  funext j
  unfold zrN
  rw [if_neg (by omega)]
theorem zr_up {g : Nat → Int32} {i : Nat} {x : Int32} (hx : x.toNatClampNeg = i) : upd (zrN g i) x.toNatClampNeg (vp_nar .boolean 0) = zrN g (i + 1) := by
  rw [hx]
  funext j
  by_cases q : j = i
  · rw [q, pk_us]
    unfold zrN
    rw [if_pos (by omega)]
    rfl
  · rw [pk_un q]
    unfold zrN
    by_cases c : j < i
    · rw [if_pos c, if_pos (by omega)]
    · rw [if_neg c, if_neg (by omega)]
/-- how many of the first places are marked -/
def cntP (gm : Nat → Int32) : Nat → Nat
  | 0 => 0
  | i + 1 => cntP gm i + (if gm i = 0 then 0 else 1)
theorem cntP_le (gm : Nat → Int32) : ∀ i, cntP gm i ≤ i
  | 0 => Nat.le_refl 0
  | i + 1 => by
    have h := cntP_le gm i
    show cntP gm i + (if gm i = 0 then 0 else 1) ≤ i + 1
    split <;> omega
theorem cnt_skip {gm : Nat → Int32} {i : Nat} (h : gm i = 0) : cntP gm (i + 1) = cntP gm i := by
  show cntP gm i + (if gm i = 0 then 0 else 1) = _
  rw [if_pos h]
  rfl
theorem cnt_up {gm : Nat → Int32} {i : Nat} (h : ¬ gm i = 0) : cntP gm (i + 1) = cntP gm i + 1 := by
  show cntP gm i + (if gm i = 0 then 0 else 1) = _
  rw [if_neg h]
/-- SHEET kk's DOTS behind the laying of the first i places that are marked -/
def lysN (w : Int32) (gd gm ge gv : Nat → Int32) (kk i : Nat) : Nat → Int32 := fun j => if 4096 * kk ≤ j ∧ j < 4096 * kk + i ∧ ¬ gm (j - 4096 * kk) = 0 then laidP w (gv (j - 4096 * kk)) (gd j) (ge (j - 4096 * kk)) else gd j
theorem lys_0 (w : Int32) (gd gm ge gv : Nat → Int32) (kk : Nat) : gd = lysN w gd gm ge gv kk 0 := by
  funext j
  unfold lysN
  rw [if_neg (by omega)]
theorem lys_at (w : Int32) (gd gm ge gv : Nat → Int32) (kk i : Nat) : lysN w gd gm ge gv kk i (4096 * kk + i) = gd (4096 * kk + i) := by
  unfold lysN
  rw [if_neg (by omega)]
theorem lys_skip {w : Int32} {gd gm ge gv : Nat → Int32} {kk i : Nat} (h : gm i = 0) : lysN w gd gm ge gv kk i = lysN w gd gm ge gv kk (i + 1) := by
  funext j
  unfold lysN
  by_cases q : j = 4096 * kk + i
  · subst q
    rw [if_neg (by omega), if_neg]
    rw [show 4096 * kk + i - 4096 * kk = i by omega]
    exact fun hh => hh.2.2 h
  · by_cases c : 4096 * kk ≤ j ∧ j < 4096 * kk + i ∧ ¬ gm (j - 4096 * kk) = 0
    · rw [if_pos c, if_pos ⟨c.1, by omega, c.2.2⟩]
    · rw [if_neg c, if_neg (fun d => c ⟨d.1, by omega, d.2.2⟩)]
theorem lys_up {w : Int32} {gd gm ge gv : Nat → Int32} {kk i : Nat} (h : ¬ gm i = 0) : upd (lysN w gd gm ge gv kk i) (4096 * kk + i) (laidP w (gv i) (lysN w gd gm ge gv kk i (4096 * kk + i)) (ge i)) = lysN w gd gm ge gv kk (i + 1) := by
  funext j
  rw [lys_at]
  by_cases q : j = 4096 * kk + i
  · subst q
    rw [pk_us]
    unfold lysN
    rw [if_pos]
    · rw [show 4096 * kk + i - 4096 * kk = i by omega]
    · rw [show 4096 * kk + i - 4096 * kk = i by omega]
      exact ⟨by omega, by omega, h⟩
  · rw [pk_un q]
    unfold lysN
    by_cases c : 4096 * kk ≤ j ∧ j < 4096 * kk + i ∧ ¬ gm (j - 4096 * kk) = 0
    · rw [if_pos c, if_pos ⟨c.1, by omega, c.2.2⟩]
    · rw [if_neg c, if_neg (fun d => c ⟨d.1, by omega, d.2.2⟩)]
