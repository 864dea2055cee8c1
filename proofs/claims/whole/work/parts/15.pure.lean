/-! laying at once and marking first come to the same, where no DOT is drawn twice -/
theorem cnt_upd {ga : Nat → Int32} {j0 : Nat} (h : ga j0 = 0) : ∀ n, cntP (upd ga j0 1) n = cntP ga n + (if j0 < n then 1 else 0)
  | 0 => by
    rw [if_neg (by omega)]
    rfl
  | n + 1 => by
    have ih := cnt_upd h n
    by_cases q : n = j0
    · subst q
      rw [cnt_up (by rw [pk_us]; decide), ih, cnt_skip h, if_neg (by omega), if_pos (by omega)]
    · have e : upd ga j0 1 n = ga n := pk_un q
      by_cases z : ga n = 0
      · rw [cnt_skip (e.trans z), ih, cnt_skip z]
        by_cases c : j0 < n
        · rw [if_pos c, if_pos (by omega)]
        · rw [if_neg c, if_neg (by omega)]
      · rw [cnt_up (fun hh => z (e.symm.trans hh)), ih, cnt_up z]
        by_cases c : j0 < n
        · rw [if_pos c, if_pos (by omega)]
        · rw [if_neg c, if_neg (by omega)]
theorem cnt_z {g : Nat → Int32} : ∀ n, (∀ j, j < n → g j = 0) → cntP g n = 0
  | 0, _ => rfl
  | n + 1, h => by
    rw [cnt_skip (h n (by omega))]
    exact cnt_z n (fun j hj => h j (by omega))
set_option maxHeartbeats 4000000 in
theorem draw_same {w h bx0 by0 bx1 by1 wy cl cx0 cx1 cy0 cy1 : Int32} {rq : Nat → Option Req} {g gm ge gv : Nat → Int32} {N : Nat} (hw : w.toInt ≤ 64) (hh : h.toInt ≤ 64)
    (hob : ∀ x y, opnC w h bx0 by0 bx1 by1 x y ↔ opnM w h cl cx0 cx1 cy0 cy1 x y)
    (hdis : ∀ i i' q q', i < i' → i' < N → rq i = some q → rq i' = some q' → opnC w h bx0 by0 bx1 by1 q.1 q.2.1 → opnC w h bx0 by0 bx1 by1 q'.1 q'.2.1 → ixP q.1 q.2.1 ≠ ixP q'.1 q'.2.1) :
    ∀ i, i ≤ N → (∀ j, j < 4096 → ¬ (fG (mkF w h cl cx0 cx1 cy0 cy1) rq (zrN gm 4096, ge, gv) i).1 j = 0 → ∃ i' q, i' < i ∧ rq i' = some q ∧ opnC w h bx0 by0 bx1 by1 q.1 q.2.1 ∧ ixP q.1 q.2.1 = j) ∧
      (∀ j, j < 4096 → fG (layG w h bx0 by0 bx1 by1 wy) rq g i j = if (fG (mkF w h cl cx0 cx1 cy0 cy1) rq (zrN gm 4096, ge, gv) i).1 j = 0 then g j else laidP wy ((fG (mkF w h cl cx0 cx1 cy0 cy1) rq (zrN gm 4096, ge, gv) i).2.2 j) (g j) ((fG (mkF w h cl cx0 cx1 cy0 cy1) rq (zrN gm 4096, ge, gv) i).2.1 j)) ∧
      fG (layT w h bx0 by0 bx1 by1) rq 0 i = nI (cntP (fG (mkF w h cl cx0 cx1 cy0 cy1) rq (zrN gm 4096, ge, gv) i).1 4096) := by
  intro i
  induction i with
  | zero =>
    intro _
    have hz : ∀ j, j < 4096 → zrN gm 4096 j = 0 := fun j hj => by unfold zrN; rw [if_pos hj]
    refine ⟨fun j hj hn => absurd (hz j hj) hn, fun j hj => ?_, ?_⟩
    · show g j = if zrN gm 4096 j = 0 then g j else _
      rw [if_pos (hz j hj)]
    · show (0 : Int32) = nI (cntP (zrN gm 4096) 4096)
      rw [cnt_z 4096 hz]
      rfl
  | succ i ih =>
    intro hi
    obtain ⟨h1, h2, h3⟩ := ih (by omega)
    cases hq : rq i with
    | none =>
      rw [fG_none hq, fG_none hq, fG_none hq]
      exact ⟨fun j hj hn => by obtain ⟨i', q, a, b⟩ := h1 j hj hn; exact ⟨i', q, by omega, b⟩, h2, h3⟩
    | some q =>
      rw [fG_some hq, fG_some hq, fG_some hq]
      generalize fG (mkF w h cl cx0 cx1 cy0 cy1) rq (zrN gm 4096, ge, gv) i = M at h1 h2 h3 ⊢
      generalize fG (layG w h bx0 by0 bx1 by1 wy) rq g i = G at h2 ⊢
      generalize fG (layT w h bx0 by0 bx1 by1) rq 0 i = t at h3 ⊢
      by_cases ho : opnC w h bx0 by0 bx1 by1 q.1 q.2.1
      · have hm : opnM w h cl cx0 cx1 cy0 cy1 q.1 q.2.1 := (hob _ _).mp ho
        have hlt : ixP q.1 q.2.1 < 4096 := ix_lt (by omega) (by omega) (by omega) (by omega)
        have h0 : M.1 (ixP q.1 q.2.1) = 0 := Decidable.byContradiction (fun hn => by
          obtain ⟨i', q', a, b, c, d⟩ := h1 _ hlt hn
          exact hdis i' i q' q a (by omega) b hq c ho d)
        unfold mkF layG layT
        rw [if_pos ho, if_pos ho, if_pos hm, if_pos hm, if_pos hm]
        refine ⟨fun j hj hn => ?_, fun j hj => ?_, ?_⟩
        · by_cases e : j = ixP q.1 q.2.1
          · exact ⟨i, q, by omega, hq, ho, e.symm⟩
          · have hn' : ¬ M.1 j = 0 := fun z => hn ((pk_un e).trans z)
            obtain ⟨i', q', a, b⟩ := h1 j hj hn'
            exact ⟨i', q', by omega, b⟩
        · show upd G (ixP q.1 q.2.1) _ j = if upd M.1 (ixP q.1 q.2.1) 1 j = 0 then g j else laidP wy (upd M.2.2 (ixP q.1 q.2.1) q.2.2.1 j) (g j) (upd M.2.1 (ixP q.1 q.2.1) q.2.2.2 j)
          by_cases e : j = ixP q.1 q.2.1
          · subst e
            rw [pk_us, pk_us, pk_us, pk_us, if_neg (by decide), h2 _ hlt, if_pos h0]
          · rw [pk_un e, pk_un e, pk_un e, pk_un e]
            exact h2 j hj
        · show t + 1 = nI (cntP (upd M.1 (ixP q.1 q.2.1) 1) 4096)
          rw [cnt_upd h0, if_pos hlt, h3]
          exact nI_1 _
      · have hm : ¬ opnM w h cl cx0 cx1 cy0 cy1 q.1 q.2.1 := fun z => ho ((hob _ _).mpr z)
        unfold mkF layG layT
        rw [if_neg ho, if_neg ho, if_neg hm, if_neg hm, if_neg hm]
        refine ⟨fun j hj hn => ?_, h2, ?_⟩
        · obtain ⟨i', q', a, b⟩ := h1 j hj hn
          exact ⟨i', q', by omega, b⟩
        · show t + 0 = _
          rw [Int32.add_zero]
          exact h3
