theorem lnX_ti {a b : Int32} {n : Nat} (ha : -2000 ≤ a.toInt ∧ a.toInt ≤ 2000) (hn : n ≤ 4000) (hne : ¬ dN a b = 0) : (a.toInt < b.toInt → (lnX a b n).toInt = a.toInt + n) ∧ (¬ a.toInt < b.toInt → (lnX a b n).toInt = a.toInt - n) := by
  have en : (nI n).toInt = (n : Int) := nI_toInt (by omega)
  have e := tw_eq (a := a) (b := b) (n := n) (fun q => absurd q hne)
  refine ⟨fun q => ?_, fun q => ?_⟩
  · rw [← e, if_pos q, Int32.toInt_add, en]
    exact Int.bmod_eq_of_le (by omega) (by omega)
  · rw [← e, if_neg q, Int32.toInt_sub, en]
    exact Int.bmod_eq_of_le (by omega) (by omega)
theorem ix_inj {x y x' y' : Int32} (h1 : 0 ≤ x.toInt) (h2 : x.toInt < 64) (h3 : 0 ≤ y.toInt) (h1' : 0 ≤ x'.toInt) (h2' : x'.toInt < 64) (h3' : 0 ≤ y'.toInt) (e : ixP x y = ixP x' y') : x.toInt = x'.toInt ∧ y.toInt = y'.toInt := by
  unfold ixP at e
  omega
/-- a LINE draws no DOT twice -/
theorem ln_dis {x0 y0 x1 y1 ds ik op w h bx0 by0 bx1 by1 : Int32} (hw : w.toInt ≤ 64) (a0 : -2000 ≤ x0.toInt ∧ x0.toInt ≤ 2000) (a1 : -2000 ≤ y0.toInt ∧ y0.toInt ≤ 2000) (a2 : -2000 ≤ x1.toInt ∧ x1.toInt ≤ 2000) (a3 : -2000 ≤ y1.toInt ∧ y1.toInt ≤ 2000) :
    ∀ i i' q q', i < i' → i' < max (dN x0 x1) (dN y0 y1) + 1 → lnQ x0 y0 x1 y1 ds ik op i = some q → lnQ x0 y0 x1 y1 ds ik op i' = some q' → opnC w h bx0 by0 bx1 by1 q.1 q.2.1 → opnC w h bx0 by0 bx1 by1 q'.1 q'.2.1 → ixP q.1 q.2.1 ≠ ixP q'.1 q'.2.1 := by
  intro i i' q q' hlt hi' hq hq' ho ho' e
  have hdx := dN_le a0 a2
  have hdy := dN_le a1 a3
  unfold lnQ at hq hq'
  split at hq
  · split at hq'
    · cases hq
      cases hq'
      obtain ⟨ex, ey⟩ := ix_inj (by omega) (by omega) (by omega) (by omega) (by omega) (by omega) e
      dsimp only at ex ey
      rcases Nat.le_total (dN y0 y1) (dN x0 x1) with c | c
      · rw [Nat.max_eq_left c] at ex hi'
        rw [wa_full (by omega), wa_full (by omega)] at ex
        have k1 := lnX_ti (a := x0) (b := x1) (n := i) a0 (by omega) (by omega)
        have k2 := lnX_ti (a := x0) (b := x1) (n := i') a0 (by omega) (by omega)
        by_cases s : x0.toInt < x1.toInt
        · rw [k1.1 s, k2.1 s] at ex
          omega
        · rw [k1.2 s, k2.2 s] at ex
          omega
      · rw [Nat.max_eq_right c] at ey hi'
        rw [wa_full (by omega), wa_full (by omega)] at ey
        have k1 := lnX_ti (a := y0) (b := y1) (n := i) a1 (by omega) (by omega)
        have k2 := lnX_ti (a := y0) (b := y1) (n := i') a1 (by omega) (by omega)
        by_cases s : y0.toInt < y1.toInt
        · rw [k1.1 s, k2.1 s] at ey
          omega
        · rw [k1.2 s, k2.2 s] at ey
          omega
    · cases hq'
  · cases hq
