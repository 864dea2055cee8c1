/-! the reference: samples, triangle, what hangs together -/
def sN (px py pf : Nat → Int32) (pn : Nat) (ru : Int32) (X Y : Nat) : Nat → Int32
  | 0 => 0
  | q + 1 => sN px py pf pn ru X Y q + iz ru (wdN px py pf pn (nI (32 * X + 8 * (q % 4) + 4)).toInt (nI (32 * Y + 8 * (q / 4) + 4)).toInt pn)
theorem iz01 (ru w : Int32) : iz ru w = 0 ∨ iz ru w = 1 := by
  unfold iz
  by_cases h : (if ru = 0 then w &&& 1 = 1 else ¬ w = 0)
  · exact Or.inr (if_pos h)
  · exact Or.inl (if_neg h)
theorem sN_bd {px py pf : Nat → Int32} {pn : Nat} {ru : Int32} {X Y : Nat} : ∀ q : Nat, q ≤ 16 → 0 ≤ (sN px py pf pn ru X Y q).toInt ∧ (sN px py pf pn ru X Y q).toInt ≤ q
  | 0, _ => ⟨by show 0 ≤ (0 : Int32).toInt; decide, by show (0 : Int32).toInt ≤ 0; decide⟩
  | q + 1, h => by
    have ih := sN_bd (px := px) (py := py) (pf := pf) (pn := pn) (ru := ru) (X := X) (Y := Y) q (by omega)
    show 0 ≤ (sN px py pf pn ru X Y q + iz ru _).toInt ∧ (sN px py pf pn ru X Y q + iz ru _).toInt ≤ ((q + 1 : Nat) : Int)
    rcases iz01 ru (wdN px py pf pn (nI (32 * X + 8 * (q % 4) + 4)).toInt (nI (32 * Y + 8 * (q / 4) + 4)).toInt pn) with e | e
    · rw [e, Int32.add_zero]
      omega
    · rw [e, add1_ti (by omega) (by omega)]
      omega
theorem sn_0 {r : Int32} {px py pf : Nat → Int32} {pn : Nat} {ru : Int32} {X Y : Nat} (h : r = sN px py pf pn ru X Y 16) (f : ¬ 0 < r.toInt) : r = 0 := by
  have b := sN_bd (px := px) (py := py) (pf := pf) (pn := pn) (ru := ru) (X := X) (Y := Y) 16 (by omega)
  rw [← h] at b
  exact Int32.toInt_inj.mp (by rw [show (0 : Int32).toInt = 0 by decide]; omega)
theorem su_r (X i : Nat) (hi : i < 16) : 32 * nI X + 8 * (nI i - nI i / 4 * 4) + 4 = nI (32 * X + 8 * (i % 4) + 4) := by
  rw [show (32 : Int32) = nI 32 from rfl, show (8 : Int32) = nI 8 from rfl, show (4 : Int32) = nI 4 from rfl, pk_rem (by omega) (by omega) (by omega), pk_mul, pk_mul, nI_add, nI_add]
theorem su_d (X i : Nat) (hi : i < 16) : 32 * nI X + 8 * (nI i / 4) + 4 = nI (32 * X + 8 * (i / 4) + 4) := by
  rw [show (32 : Int32) = nI 32 from rfl, show (8 : Int32) = nI 8 from rfl, show (4 : Int32) = nI 4 from rfl, pk_div (by omega) (by omega) (by omega), pk_mul, pk_mul, nI_add, nI_add]
theorem su_16 (X : Nat) : 32 * nI X + 16 = nI (32 * X + 16) := by
  rw [show (32 : Int32) = nI 32 from rfl, show (16 : Int32) = nI 16 from rfl, pk_mul, nI_add]
def cfM (px py pf : Nat → Int32) (pn : Nat) (ru sm : Int32) (y x : Nat) : Int32 := if sm = 0 then iz ru (wdN px py pf pn (nI (32 * x + 16)).toInt (nI (32 * y + 16)).toInt pn) else sN px py pf pn ru x y 16
def aaP (xa ya xb yb xc yc : Int32) : Int32 := if ((xb - xa) * (yc - ya) - (xc - xa) * (yb - ya)).toInt < 0 then -((xb - xa) * (yc - ya) - (xc - xa) * (yb - ya)) else (xb - xa) * (yc - ya) - (xc - xa) * (yb - ya)
def tgE (kx ky : Nat → Int32) (a b : Nat) (u v : Int32) : Int32 := egI (2 * kx a).toInt (2 * ky a).toInt (2 * kx b).toInt (2 * ky b).toInt u.toInt v.toInt
def tgS (kx ky : Nat → Int32) (u v : Int32) : Int32 := 0 + tgE kx ky 0 1 u v + tgE kx ky 1 2 u v + tgE kx ky 2 0 u v
theorem c2_bd {x : Int32} (h : -200 ≤ x.toInt ∧ x.toInt ≤ 200) : -8192 ≤ (2 * x).toInt ∧ (2 * x).toInt ≤ 8192 := by
  have e : (2 * x).toInt = 2 * x.toInt := by
    rw [Int32.toInt_mul, show (2 : Int32).toInt = 2 by decide]
    exact Int.bmod_eq_of_le (by omega) (by omega)
  omega
def mdP (kx ky ki : Nat → Int32) (u v w : Int32) : Int32 := mxV (aaP u v (2 * kx 1) (2 * ky 1) (2 * kx 2) (2 * ky 2)) (aaP u v (2 * kx 2) (2 * ky 2) (2 * kx 0) (2 * ky 0)) (aaP u v (2 * kx 0) (2 * ky 0) (2 * kx 1) (2 * ky 1)) w (ki 0) (ki 1) (ki 2)
def wA (kx ky : Nat → Int32) : Int32 := aaP (2 * kx 0) (2 * ky 0) (2 * kx 1) (2 * ky 1) (2 * kx 2) (2 * ky 2)
def sjQ (kx ky ki : Nat → Int32) (op : Int32) (j i : Nat) : List Req := if tgS kx ky (2 * nI i + 1) (2 * nI j + 1) = 0 then [] else [(nI i, nI j, mdP kx ky ki (2 * nI i + 1) (2 * nI j + 1) (wA kx ky), op)]
def sjL (kx ky ki : Nat → Int32) (op : Int32) (W H : Nat) : List Req := if wA kx ky = 0 then [] else gL (sjQ kx ky ki op) W H
theorem lys_none {w : Int32} {gd gm ge gv : Nat → Int32} {kk : Nat} (h : ∀ j : Nat, j < 4096 → gm j = 0) : lysN w gd gm ge gv kk 4096 = gd := by
  funext j
  unfold lysN
  by_cases c : 4096 * kk ≤ j ∧ j < 4096 * kk + 4096 ∧ ¬ gm (j - 4096 * kk) = 0
  · exact absurd (h _ (by omega)) c.2.2
  · rw [if_neg c]
theorem lys_eq {w : Int32} {gd gm ge gv gm' ge' gv' : Nat → Int32} {kk : Nat} (h : ∀ j : Nat, j < 4096 → gm j = gm' j ∧ ge j = ge' j ∧ gv j = gv' j) : lysN w gd gm ge gv kk 4096 = lysN w gd gm' ge' gv' kk 4096 := by
  funext j
  unfold lysN
  by_cases c : 4096 * kk ≤ j ∧ j < 4096 * kk + 4096
  · obtain ⟨h1, h2, h3⟩ := h (j - 4096 * kk) (by omega)
    rw [h1, h2, h3]
  · rw [if_neg (fun q => c ⟨q.1, q.2.1⟩), if_neg (fun q => c ⟨q.1, q.2.1⟩)]
theorem j_start {C : Int32 → Int32 → Prop} [∀ x y, Decidable (C x y)] {g gm wt : Nat → Int32} {x y : Int32} (hC : C x y) : eqS (upd (zrN gm 4096) (ixP x y) 1, upd wt 0 (nI (ixP x y)), 1) (rcS C g (g (ixP x y)) x y z3) := by
  have e : rcS C g (g (ixP x y)) x y z3 = (upd (fun _ => 0) (ixP x y) 1, upd (fun _ => 0) 0 (nI (ixP x y)), 1) := if_pos ⟨⟨hC, rfl⟩, rfl, by show 0 < 4096; omega⟩
  rw [e]
  refine ⟨fun j hj => ?_, rfl, fun t ht => ?_⟩
  · show upd (zrN gm 4096) (ixP x y) 1 j = upd (fun _ => 0) (ixP x y) 1 j
    by_cases c : j = ixP x y
    · rw [c, pk_us, pk_us]
    · rw [pk_un c, pk_un c]
      exact zr_at hj
  · have : t = 0 := by
      have : t < 1 := ht
      omega
    subst this
    rfl
theorem cnt_up1 {g : Nat → Int32} {i n : Nat} (h : i < n) (h0 : g i = 0) : cntP (upd g i 1) n = cntP g n + 1 := cnt_new h h0
theorem dotx {kk : Nat} {gd : Nat → Int32} {y to k : Int32} (hkk : kk < 4) {ix : Nat} (hix : to = nI ix) (hl : ix < 4096) (hk : k = nI kk) : (4096 * k + to).toNatClampNeg = 4096 * k.toNatClampNeg + ix := by
  rw [hix, hk, lp_cl hkk hl, nI_clamp (by omega)]
theorem m1_lt {a p : Int32} (h : a = -1) (hp : 0 ≤ p.toInt) : a < p := by
  rw [h]
  exact Int32.lt_iff_toInt_lt.mpr (by rw [show (-1 : Int32).toInt = -1 by decide]; omega)
