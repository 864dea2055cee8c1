/-! exact: lists drawn row by row, sums row by row -/
theorem cl_ti {x : Int32} (h : 0 ≤ x.toInt) : (x.toNatClampNeg : Int) = x.toInt := by
  show ((x.toInt.toNat : Nat) : Int) = x.toInt
  omega
def gR (Q : Nat → Nat → List Req) (j : Nat) : Nat → List Req
  | 0 => []
  | i + 1 => gR Q j i ++ Q j i
def gL (Q : Nat → Nat → List Req) (W : Nat) : Nat → List Req
  | 0 => []
  | j + 1 => gL Q W j ++ gR Q j W
theorem gR_eq {Q Q' : Nat → Nat → List Req} {j : Nat} : ∀ W : Nat, (∀ i : Nat, i < W → Q j i = Q' j i) → gR Q j W = gR Q' j W
  | 0, _ => rfl
  | W + 1, h => by
    show gR Q j W ++ Q j W = gR Q' j W ++ Q' j W
    rw [gR_eq W (fun i hi => h i (by omega)), h W (by omega)]
theorem gL_eq {Q Q' : Nat → Nat → List Req} {W : Nat} : ∀ H : Nat, (∀ j i : Nat, j < H → i < W → Q j i = Q' j i) → gL Q W H = gL Q' W H
  | 0, _ => rfl
  | H + 1, h => by
    show gL Q W H ++ gR Q H W = gL Q' W H ++ gR Q' H W
    rw [gL_eq H (fun j i hj hi => h j i (by omega) hi), gR_eq W (fun i hi => h H i (by omega) hi)]
theorem gR_nil {Q : Nat → Nat → List Req} {j : Nat} : ∀ W : Nat, (∀ i : Nat, i < W → Q j i = []) → gR Q j W = []
  | 0, _ => rfl
  | W + 1, h => by
    show gR Q j W ++ Q j W = []
    rw [gR_nil W (fun i hi => h i (by omega)), h W (by omega)]
    rfl
theorem gL_nil {Q : Nat → Nat → List Req} {W : Nat} : ∀ H : Nat, (∀ j i : Nat, j < H → i < W → Q j i = []) → gL Q W H = []
  | 0, _ => rfl
  | H + 1, h => by
    show gL Q W H ++ gR Q H W = []
    rw [gL_nil H (fun j i hj hi => h j i (by omega) hi), gR_nil W (fun i hi => h H i (by omega) hi)]
    rfl
theorem gR_mem {Q : Nat → Nat → List Req} {j : Nat} {q : Req} : ∀ W : Nat, q ∈ gR Q j W → ∃ i, i < W ∧ q ∈ Q j i
  | 0, h => absurd h (List.not_mem_nil)
  | W + 1, h => by
    have h1 : q ∈ gR Q j W ++ Q j W := h
    rcases List.mem_append.mp h1 with h2 | h2
    · obtain ⟨i, hi, h3⟩ := gR_mem W h2
      exact ⟨i, by omega, h3⟩
    · exact ⟨W, by omega, h2⟩
theorem gL_mem {Q : Nat → Nat → List Req} {W : Nat} {q : Req} : ∀ H : Nat, q ∈ gL Q W H → ∃ j i, j < H ∧ i < W ∧ q ∈ Q j i
  | 0, h => absurd h (List.not_mem_nil)
  | H + 1, h => by
    have h1 : q ∈ gL Q W H ++ gR Q H W := h
    rcases List.mem_append.mp h1 with h2 | h2
    · obtain ⟨j, i, hj, hi, h3⟩ := gL_mem H h2
      exact ⟨j, i, by omega, hi, h3⟩
    · obtain ⟨i, hi, h3⟩ := gR_mem W h2
      exact ⟨H, i, by omega, hi, h3⟩
/-- places that differ from row to row and within a row -/
theorem gR_pw {Q : Nat → Nat → List Req} {X Y : Nat → Int} {j : Nat} (hQ : ∀ i q, q ∈ Q j i → q.1.toInt = X i ∧ q.2.1.toInt = Y j) (h1 : ∀ i, (Q j i).length ≤ 1) : ∀ W : Nat, (∀ i i' : Nat, i < i' → i' < W → X i ≠ X i') → (gR Q j W).Pairwise (fun q q' => q.1.toInt ≠ q'.1.toInt ∨ q.2.1.toInt ≠ q'.2.1.toInt)
  | 0, _ => List.Pairwise.nil
  | W + 1, hX => by
    show (gR Q j W ++ Q j W).Pairwise _
    refine List.pairwise_append.mpr ⟨gR_pw hQ h1 W (fun i i' a b => hX i i' a (by omega)), ?_, fun q hq q' hq' => ?_⟩
    · have h2 := h1 W
      cases hc : Q j W with
      | nil => exact List.Pairwise.nil
      | cons a t =>
        rw [hc] at h2
        have : t = [] := by
          cases t with
          | nil => rfl
          | cons b t' => simp at h2
        rw [this]
        exact List.pairwise_singleton _ _
    · obtain ⟨i, hi, h3⟩ := gR_mem W hq
      rw [(hQ i q h3).1, (hQ W q' hq').1]
      exact Or.inl (hX i W hi (by omega))
theorem gL_pw {Q : Nat → Nat → List Req} {X Y : Nat → Int} {W : Nat} (hQ : ∀ j i q, q ∈ Q j i → q.1.toInt = X i ∧ q.2.1.toInt = Y j) (h1 : ∀ j i, (Q j i).length ≤ 1) (hX : ∀ i i' : Nat, i < i' → i' < W → X i ≠ X i') : ∀ H : Nat, (∀ j j' : Nat, j < j' → j' < H → Y j ≠ Y j') → (gL Q W H).Pairwise (fun q q' => q.1.toInt ≠ q'.1.toInt ∨ q.2.1.toInt ≠ q'.2.1.toInt)
  | 0, _ => List.Pairwise.nil
  | H + 1, hY => by
    show (gL Q W H ++ gR Q H W).Pairwise _
    refine List.pairwise_append.mpr ⟨gL_pw hQ h1 hX H (fun j j' a b => hY j j' a (by omega)), gR_pw (hQ H) (h1 H) W hX, fun q hq q' hq' => ?_⟩
    obtain ⟨j, i, hj, hi, h3⟩ := gL_mem H hq
    obtain ⟨i', hi', h4⟩ := gR_mem W hq'
    rw [(hQ j i q h3).2, (hQ H i' q' h4).2]
    exact Or.inr (hY j H hj (by omega))
def smR (F : Nat → Nat → Int32 → Int32) (j : Nat) (a : Int32) : Nat → Int32
  | 0 => a
  | i + 1 => F j i (smR F j a i)
def smL (F : Nat → Nat → Int32 → Int32) (W : Nat) (a : Int32) : Nat → Int32
  | 0 => a
  | j + 1 => smR F j (smL F W a j) W
theorem smR_eq {F F' : Nat → Nat → Int32 → Int32} {j : Nat} {a : Int32} : ∀ W : Nat, (∀ i a, i < W → F j i a = F' j i a) → smR F j a W = smR F' j a W
  | 0, _ => rfl
  | W + 1, h => by
    show F j W (smR F j a W) = F' j W (smR F' j a W)
    rw [smR_eq W (fun i a hi => h i a (by omega)), h W _ (by omega)]
theorem smL_eq {F F' : Nat → Nat → Int32 → Int32} {W : Nat} {a : Int32} : ∀ H : Nat, (∀ j i a, j < H → i < W → F j i a = F' j i a) → smL F W a H = smL F' W a H
  | 0, _ => rfl
  | H + 1, h => by
    show smR F H (smL F W a H) W = smR F' H (smL F' W a H) W
    rw [smL_eq H (fun j i a hj hi => h j i a (by omega) hi), smR_eq W (fun i a hi => h H i a (by omega) hi)]
def chF (g : Nat → Int32) (sf : Int32) (j i : Nat) (a : Int32) : Int32 := a + chS (g (ixP (nI i) (nI j))) sf
def ctF (g : Nat → Int32) (vl : Int32) (j i : Nat) (a : Int32) : Int32 := a + (if g (ixP (nI i) (nI j)) = vl then 1 else 0)
theorem ct_y {g : Nat → Int32} {vl a : Int32} {j i : Nat} (h : g (ixP (nI i) (nI j)) = vl) : ctF g vl j i a = a + 1 := by
  unfold ctF
  rw [if_pos h]
theorem ct_n {g : Nat → Int32} {vl a : Int32} {j i : Nat} (h : ¬ g (ixP (nI i) (nI j)) = vl) : ctF g vl j i a = a := by
  unfold ctF
  rw [if_neg h, Int32.add_zero]
def dfF (g g' : Nat → Int32) (j i : Nat) (a : Int32) : Int32 := a + (if g (ixP (nI i) (nI j)) = g' (ixP (nI i) (nI j)) then 0 else 1)
theorem df_y {g g' : Nat → Int32} {a : Int32} {j i : Nat} (h : g (ixP (nI i) (nI j)) = g' (ixP (nI i) (nI j))) : dfF g g' j i a = a := by
  unfold dfF
  rw [if_pos h, Int32.add_zero]
theorem df_n {g g' : Nat → Int32} {a : Int32} {j i : Nat} (h : ¬ g (ixP (nI i) (nI j)) = g' (ixP (nI i) (nI j))) : dfF g g' j i a = a + 1 := by
  unfold dfF
  rw [if_neg h]
def plC (al : Int32) (j i : Nat) : Int32 := if al = 0 then nI j else nI i
def blF (g : Nat → Int32) (al : Int32) (j i : Nat) (a : Int32) : Int32 := if chS (g (ixP (nI i) (nI j))) 24 = 0 then a else if a = -1 then plC al j i else if plC al j i < a then plC al j i else a
def bhF (g : Nat → Int32) (al : Int32) (j i : Nat) (a : Int32) : Int32 := if chS (g (ixP (nI i) (nI j))) 24 = 0 then a else if a < plC al j i then plC al j i else a
def lkN (g : Nat → Int32) (w h : Int32) : Nat → Int32
  | 0 => smL (blF g 1) w.toNatClampNeg (-1) h.toNatClampNeg
  | 1 => smL (bhF g 1) w.toNatClampNeg (-1) h.toNatClampNeg
  | 2 => smL (blF g 0) w.toNatClampNeg (-1) h.toNatClampNeg
  | 3 => smL (bhF g 0) w.toNatClampNeg (-1) h.toNatClampNeg
  | 4 => w
  | 5 => h
  | 6 => smL (chF g 24) w.toNatClampNeg 0 h.toNatClampNeg
  | 7 => smL (chF g 16) w.toNatClampNeg 0 h.toNatClampNeg
  | 8 => smL (chF g 8) w.toNatClampNeg 0 h.toNatClampNeg
  | 9 => smL (chF g 0) w.toNatClampNeg 0 h.toNatClampNeg
  | _ => -1
def lkP (g : Nat → Int32) (w h wt : Int32) : Int32 := if 0 ≤ wt.toInt ∧ wt.toInt ≤ 9 then lkN g w h wt.toNatClampNeg else -1
/-! FILL: the WINDINGS of a row of places -/
def psR (g : Nat → Int32) : Nat → Int32
  | 0 => g 0
  | t + 1 => psR g t + g (t + 1)
theorem ps_upd {g : Nat → Int32} {f : Nat} {x : Int32} : ∀ t, psR (upd g f (g f + x)) t = psR g t + (if f ≤ t then x else 0)
  | 0 => by
    show upd g f (g f + x) 0 = g 0 + _
    by_cases c : f = 0
    · subst c
      rw [pk_us, if_pos (by omega)]
    · rw [pk_un (by omega), if_neg (by omega), Int32.add_zero]
  | t + 1 => by
    show psR (upd g f (g f + x)) t + upd g f (g f + x) (t + 1) = psR g t + g (t + 1) + _
    rw [ps_upd t]
    by_cases c : f = t + 1
    · subst c
      rw [pk_us, if_neg (by omega), if_pos (by omega), Int32.add_zero, Int32.add_assoc]
    · rw [pk_un (by omega)]
      by_cases d : f ≤ t
      · rw [if_pos d, if_pos (by omega), Int32.add_assoc, Int32.add_comm x, ← Int32.add_assoc]
      · rw [if_neg d, if_neg (by omega), Int32.add_zero, Int32.add_zero]
theorem ps_z {g : Nat → Int32} : ∀ t, (∀ j, j ≤ t → g j = 0) → psR g t = 0
  | 0, h => h 0 (by omega)
  | t + 1, h => by
    show psR g t + g (t + 1) = 0
    rw [ps_z t (fun j hj => h j (by omega)), h (t + 1) (by omega), Int32.add_zero]
theorem ps_next {gg gh : Nat → Int32} {k : Nat} {v : Int32} (hk : 1 ≤ k) (h : ∀ t : Nat, (t < k → gh t = psR gg t) ∧ (k ≤ t → gh t = gg t)) (hv : v = gh k + gh (k - 1)) : ∀ t : Nat, (t < k + 1 → upd gh k v t = psR gg t) ∧ (k + 1 ≤ t → upd gh k v t = gg t) := by
  intro t
  by_cases c : t = k
  · subst c
    refine ⟨fun _ => ?_, fun q => absurd q (by omega)⟩
    rw [pk_us, hv, (h t).2 (Nat.le_refl t), (h (t - 1)).1 (by omega)]
    obtain ⟨m, rfl⟩ : ∃ m, t = m + 1 := ⟨t - 1, by omega⟩
    show gg (m + 1) + psR gg m = psR gg m + gg (m + 1)
    exact Int32.add_comm _ _
  · rw [pk_un c]
    exact ⟨fun q => (h t).1 (by omega), fun q => (h t).2 (by omega)⟩
/-- the first place that an EDGE counts at, and that it is the first -/
theorem first_le {fr : Int32} {n m hN t : Nat} (hn : (n = 3 ∧ m = 8 ∧ hN = 4) ∨ (n = 5 ∧ m = 32 ∧ hN = 16)) (hf : -1000000000 ≤ fr.toInt ∧ fr.toInt ≤ 1000000000) (ht : t ≤ 256) {s half y : Int32} (hs : s = nI n) (hh : half = nI hN) (hy : y = (if (0 : Int32) < (fr + half - 1) >>> (s &&& 31) then (fr + half - 1) >>> (s &&& 31) else 0)) :
    0 ≤ y.toInt ∧ (y.toInt ≤ t ↔ fr.toInt ≤ (nI (t * m + hN)).toInt) := by
  have e1 : (fr + half - 1).toInt = fr.toInt + (hN : Int) - 1 := by
    have h1 : (fr + half).toInt = fr.toInt + (hN : Int) := by
      rw [Int32.toInt_add, hh, nI_toInt (by omega)]
      exact Int.bmod_eq_of_le (by omega) (by omega)
    rw [Int32.toInt_sub, h1, show (1 : Int32).toInt = 1 by decide]
    exact Int.bmod_eq_of_le (by omega) (by omega)
  have e2 : ((fr + half - 1) >>> (s &&& 31)).toInt = (fr + half - 1).toInt >>> n := by
    rw [hs]
    rcases hn with ⟨rfl, -, -⟩ | ⟨rfl, -, -⟩
    · exact pk_shr _ _ 3 (by decide)
    · exact pk_shr _ _ 5 (by decide)
  rw [e1, Int.shiftRight_eq_div_pow] at e2
  have e3 : (nI (t * m + hN)).toInt = ((t * m + hN : Nat) : Int) := nI_toInt (by rcases hn with ⟨-, rfl, rfl⟩ | ⟨-, rfl, rfl⟩ <;> omega)
  rw [e3, hy]
  obtain ⟨q, hq⟩ : ∃ q, q = (fr + half - 1) >>> (s &&& 31) := ⟨_, rfl⟩
  rw [← hq] at e2 ⊢
  have hpos : ((0 : Int32) < q) ↔ 0 < q.toInt := ⟨fun h => f_lt (by decide) rfl h, fun h => Int32.lt_iff_toInt_lt.mpr (by rw [show (0 : Int32).toInt = 0 by decide]; exact h)⟩
  by_cases c : (0 : Int32) < q
  · have c1 := hpos.mp c
    rw [if_pos c]
    rcases hn with ⟨rfl, rfl, rfl⟩ | ⟨rfl, rfl, rfl⟩
    · refine ⟨by omega, ?_⟩
      rw [e2]
      constructor <;> intro h <;> omega
    · refine ⟨by omega, ?_⟩
      rw [e2]
      constructor <;> intro h <;> omega
  · have c1 : ¬ 0 < q.toInt := fun h => c (hpos.mpr h)
    rw [if_neg c, show (0 : Int32).toInt = 0 by decide]
    rcases hn with ⟨rfl, rfl, rfl⟩ | ⟨rfl, rfl, rfl⟩
    · refine ⟨by omega, ?_⟩
      constructor <;> intro h <;> omega
    · refine ⟨by omega, ?_⟩
      constructor <;> intro h <;> omega
theorem fr_bd {a b c d v : Int32} (ha : c8 a) (hb : c8 b) (hc : c8 c) (hd : c8 d) (hv : ¬ tnP b d v = 0) : -1000000000 ≤ (frP a b c d v).toInt ∧ (frP a b c d v).toInt ≤ 1000000000 := by
  unfold c8 at ha hb hc hd
  have hv2 : (b.toInt ≤ v.toInt ∧ v.toInt < d.toInt) ∨ (d.toInt ≤ v.toInt ∧ v.toInt < b.toInt) := by
    apply Decidable.byContradiction
    intro q
    exact hv ((if_neg (fun h => q (Or.inl h))).trans (if_neg (fun h => q (Or.inr h))))
  have e1 : (d - b).toInt = d.toInt - b.toInt := sub8 (by omega) (by omega)
  have e2 : (a - c).toInt = a.toInt - c.toInt := sub8 (by omega) (by omega)
  have e3 : (v - b).toInt = v.toInt - b.toInt := sub8 (by omega) (by omega)
  have hne : ¬ d - b = 0 := fun h => by
    rw [h, show (0 : Int32).toInt = 0 by decide] at e1
    omega
  have hna : ((a.toInt - c.toInt) * (v.toInt - b.toInt)).natAbs ≤ 16384 * 16384 := by
    rw [Int.natAbs_mul]
    exact Nat.mul_le_mul (by omega) (by omega)
  have e4 : ((a - c) * (v - b)).toInt = (a.toInt - c.toInt) * (v.toInt - b.toInt) := by
    rw [Int32.toInt_mul, e2, e3]
    exact Int.bmod_eq_of_le (by omega) (by omega)
  have sp := fd_spec (x := (a - c) * (v - b)) (y := d - b) (by rw [e1]; omega) (by rw [e4]; omega)
  rw [e1, e4] at sp
  obtain ⟨r, hr⟩ : ∃ r, r = (fdP ((a - c) * (v - b)) (d - b)).toInt := ⟨_, rfl⟩
  rw [← hr] at sp
  have hrb : r.natAbs ≤ 16384 * 16384 + 1 := by
    rcases Int.lt_or_le 0 (d.toInt - b.toInt) with c1 | c1
    · obtain ⟨s1, s2⟩ := sp.1 c1
      have k1 := (fl_pos (m := 16384 * 16384 + 1) c1 s1 s2)
      have k2 := (fl_pos (m := -(16384 * 16384) - 1) c1 s1 s2)
      have h1 : ¬ (16384 * 16384 + 1 : Int) * (d.toInt - b.toInt) ≤ (a.toInt - c.toInt) * (v.toInt - b.toInt) := by omega
      have h2 : (-(16384 * 16384) - 1 : Int) * (d.toInt - b.toInt) ≤ (a.toInt - c.toInt) * (v.toInt - b.toInt) := by omega
      have := k2.mpr h2
      have := fun h => h1 (k1.mp h)
      omega
    · have c2 : d.toInt - b.toInt < 0 := by omega
      obtain ⟨s1, s2⟩ := sp.2 c2
      have k1 := (fl_neg (m := 16384 * 16384 + 1) c2 s1 s2)
      have k2 := (fl_neg (m := -(16384 * 16384) - 1) c2 s1 s2)
      have h1 : ¬ (a.toInt - c.toInt) * (v.toInt - b.toInt) ≤ (16384 * 16384 + 1 : Int) * (d.toInt - b.toInt) := by omega
      have h2 : (a.toInt - c.toInt) * (v.toInt - b.toInt) ≤ (-(16384 * 16384) - 1 : Int) * (d.toInt - b.toInt) := by omega
      have := k2.mpr h2
      have := fun h => h1 (k1.mp h)
      omega
  unfold frP
  rw [if_neg hne, Int32.toInt_sub, ← hr, Int.bmod_eq_of_le (by omega) (by omega)]
  omega
theorem wr_up {qa qb qc qd : Nat → Int32} {u v ps rt rf y : Int32} {i t f : Nat} (hps : ps = wnN qa qb qc qd u v i) (nz : ¬ tnP (qb i) (qd i) v = 0) (ht : rt = tnP (qb i) (qd i) v) (hf : rf = frP (qa i) (qb i) (qc i) (qd i) v) (hi : y.toInt ≤ t ↔ rf.toInt ≤ u.toInt) (hy : (f : Int) = y.toInt) : ps + (if f ≤ t then rt else 0) = wnN qa qb qc qd u v (i + 1) := by
  by_cases c : f ≤ t
  · rw [if_pos c, wn_a nz (by rw [← hf]; exact hi.mp (by omega)), hps, ht]
  · rw [if_neg c, wn_r nz (by rw [← hf]; exact fun q => c (by have := hi.mpr q; omega)), Int32.add_zero, hps]
theorem mn_nI {U : Nat} (h : U ≤ 256) : (if (256 : Int32) < nI U then (256 : Int32) else nI U) = nI U := by
  rw [if_neg]
  intro q
  have h1 : (256 : Int) < (nI U).toInt := f_lt (by decide) rfl q
  rw [nI_toInt (by omega)] at h1
  omega
def iz (ru w : Int32) : Int32 := if (if ru = 0 then w &&& 1 = 1 else ¬ w = 0) then 1 else 0
def adR (gw : Nat → Int32) (ru : Int32) (ps x : Nat) (a : Int32) : Nat → Int32
  | 0 => a
  | i + 1 => adR gw ru ps x a i + iz ru (gw (x * ps + i))
theorem adR_y {gw : Nat → Int32} {ru a : Int32} {ps x i : Nat} (h : if ru = 0 then gw (x * ps + i) &&& 1 = 1 else ¬ gw (x * ps + i) = 0) : adR gw ru ps x a (i + 1) = adR gw ru ps x a i + 1 := by
  show adR gw ru ps x a i + iz ru (gw (x * ps + i)) = _
  unfold iz
  rw [if_pos h]
theorem adR_n {gw : Nat → Int32} {ru a : Int32} {ps x i : Nat} (h : ¬ (if ru = 0 then gw (x * ps + i) &&& 1 = 1 else ¬ gw (x * ps + i) = 0)) : adR gw ru ps x a (i + 1) = adR gw ru ps x a i := by
  show adR gw ru ps x a i + iz ru (gw (x * ps + i)) = _
  unfold iz
  rw [if_neg h, Int32.add_zero]
theorem adR_eq {gw gw' : Nat → Int32} {ru a : Int32} {ps x : Nat} : ∀ n : Nat, (∀ i : Nat, i < n → gw (x * ps + i) = gw' (x * ps + i)) → adR gw ru ps x a n = adR gw' ru ps x a n
  | 0, _ => rfl
  | n + 1, h => by
    show adR gw ru ps x a n + iz ru (gw (x * ps + n)) = adR gw' ru ps x a n + iz ru (gw' (x * ps + n))
    rw [adR_eq n (fun i hi => h i (by omega)), h n (by omega)]
theorem ad_in0 {A ga gc : Nat → Int32} {j : Nat} (h1 : ∀ x : Nat, ga x = if x < j then A x else gc x) : ∀ x : Nat, ga x = if x = j then gc j else ga x := fun x => by
  by_cases c : x = j
  · rw [if_pos c, c, h1 j, if_neg (by omega)]
  · rw [if_neg c]
theorem ad_out {A ga gb gc : Nat → Int32} {j : Nat} (h1 : ∀ x : Nat, ga x = if x < j then A x else gc x) (h2 : ∀ x : Nat, gb x = if x = j then A j else ga x) : ∀ x : Nat, gb x = if x < j + 1 then A x else gc x := fun x => by
  rw [h2 x]
  by_cases c : x = j
  · rw [if_pos c, if_pos (by omega), c]
  · rw [if_neg c, h1 x]
    by_cases d : x < j
    · rw [if_pos d, if_pos (by omega)]
    · rw [if_neg d, if_neg (by omega)]
theorem ad_st {A ga gb : Nat → Int32} {j i : Nat} {v : Int32} (h : ∀ x : Nat, gb x = if x = j then A i else ga x) (hv : v = gb j + 1) (hA : A (i + 1) = A i + 1) : ∀ x : Nat, upd gb j v x = if x = j then A (i + 1) else ga x := fun x => by
  by_cases c : x = j
  · rw [if_pos c, c, pk_us, hv, h j, if_pos rfl, hA]
  · rw [if_neg c, pk_un c, h x, if_neg c]
theorem ad_no {A ga gb : Nat → Int32} {j i : Nat} (h : ∀ x : Nat, gb x = if x = j then A i else ga x) (hA : A (i + 1) = A i) : ∀ x : Nat, gb x = if x = j then A (i + 1) else ga x := fun x => by
  rw [hA]
  exact h x
def vJ (sp half y : Int32) (j : Nat) : Int32 := y * 32 + nI j <<< (sp &&& 31) + half
/-- how much of the DOT (x, y) is INSIDE, behind j rows of samples -/
def cvN (qa qb qc qd : Nat → Int32) (pn : Nat) (ru : Int32) (m hN ps : Nat) (sp half y : Int32) (x : Nat) : Nat → Int32
  | 0 => 0
  | j + 1 => adR (fun t => wnN qa qb qc qd (nI (t * m + hN)) (vJ sp half y j) pn) ru ps x (cvN qa qb qc qd pn ru m hN ps sp half y x j) ps
theorem wnN_eq {qa qb qc qd pa pb pc pd : Nat → Int32} {u v : Int32} : ∀ N : Nat, (∀ j : Nat, j < N → qa j = pa j ∧ qb j = pb j ∧ qc j = pc j ∧ qd j = pd j) → wnN qa qb qc qd u v N = wnN pa pb pc pd u v N
  | 0, _ => rfl
  | N + 1, h => by
    obtain ⟨h1, h2, h3, h4⟩ := h N (by omega)
    show (if tnP (qb N) (qd N) v = 0 then wnN qa qb qc qd u v N else if (frP (qa N) (qb N) (qc N) (qd N) v).toInt ≤ u.toInt then wnN qa qb qc qd u v N + tnP (qb N) (qd N) v else wnN qa qb qc qd u v N) = (if tnP (pb N) (pd N) v = 0 then wnN pa pb pc pd u v N else if (frP (pa N) (pb N) (pc N) (pd N) v).toInt ≤ u.toInt then wnN pa pb pc pd u v N + tnP (pb N) (pd N) v else wnN pa pb pc pd u v N)
    rw [h1, h2, h3, h4, wnN_eq N (fun j hj => h j (by omega))]
theorem cvN_eq {qa qb qc qd pa pb pc pd : Nat → Int32} {pn : Nat} {ru sp half y : Int32} {m hN ps x : Nat} (h : ∀ j : Nat, j < pn → qa j = pa j ∧ qb j = pb j ∧ qc j = pc j ∧ qd j = pd j) : ∀ j : Nat, cvN qa qb qc qd pn ru m hN ps sp half y x j = cvN pa pb pc pd pn ru m hN ps sp half y x j
  | 0 => rfl
  | j + 1 => by
    show adR (fun t => wnN qa qb qc qd (nI (t * m + hN)) (vJ sp half y j) pn) ru ps x (cvN qa qb qc qd pn ru m hN ps sp half y x j) ps = adR (fun t => wnN pa pb pc pd (nI (t * m + hN)) (vJ sp half y j) pn) ru ps x (cvN pa pb pc pd pn ru m hN ps sp half y x j) ps
    rw [cvN_eq h j]
    exact adR_eq ps (fun i _ => wnN_eq pn h)
def cfC (qa qb qc qd : Nat → Int32) (pn : Nat) (ru sm : Int32) (y x : Nat) : Int32 := if sm = 0 then cvN qa qb qc qd pn ru 32 16 1 5 16 (nI y) x 1 else cvN qa qb qc qd pn ru 8 4 4 3 4 (nI y) x 4
def flQ (cf : Nat → Nat → Int32) (sm ik op : Int32) (y x : Nat) : List Req := if cf y x = 0 then [] else [(nI x, nI y, ik, if sm = 0 then op else (2 * op * cf y x + 16) / 32)]
/-! the triangle -/
def tq (u : Nat → Int32) : Nat → Int32 := fun j => u j * 32
def tr (u : Nat → Int32) : Nat → Int32 := fun j => if j = 2 then u 0 * 32 else u (j + 1) * 32
theorem adF_0 {b u f : Int32} : adF b 0 u f = u := if_pos (Or.inr rfl)
theorem adF_1 {u f : Int32} : adF 0 1 u f = f := if_neg (by decide)
theorem adF_2 {u f : Int32} : adF 0 2 u f = f := if_neg (by decide)
theorem adT_0 {u f : Int32} {t : Nat → Int32} : adT 0 0 u f t = upd t 0 u := by
  unfold adT
  rw [adF_0, if_pos (Or.inr rfl)]
  rfl
theorem adT_1 {u f : Int32} {t : Nat → Int32} : adT 0 1 u f t = upd (upd t 0 u) 1 f := by
  unfold adT
  rw [adF_1, if_neg (by decide)]
  rfl
theorem adT_2 {u f : Int32} {t : Nat → Int32} : adT 0 2 u f t = upd (upd t 1 u) 2 f := by
  unfold adT
  rw [adF_2, if_neg (by decide)]
  rfl
theorem tri_to {u0 u1 u2 f : Int32} {t : Nat → Int32} : ∀ j : Nat, j < 3 → adT 0 2 u2 (adF 0 1 u1 (adF 0 0 u0 f)) (adT 0 1 u1 (adF 0 0 u0 f) (adT 0 0 u0 f t)) j = if j = 0 then u1 else if j = 1 then u2 else u0 := by
  intro j hj
  rw [adT_2, adT_1, adT_0, adF_1, adF_0]
  rcases (show j = 0 ∨ j = 1 ∨ j = 2 by omega) with rfl | rfl | rfl <;> rfl
theorem tri_fr {u0 u1 u2 : Int32} {t : Nat → Int32} : ∀ j : Nat, j < 3 → upd (upd (upd t (0 : Int32).toNatClampNeg u0) (1 : Int32).toNatClampNeg u1) (2 : Int32).toNatClampNeg u2 j = if j = 0 then u0 else if j = 1 then u1 else u2 := by
  intro j hj
  rcases (show j = 0 ∨ j = 1 ∨ j = 2 by omega) with rfl | rfl | rfl <;> rfl
theorem t32_ti {x : Int32} (h : -200 ≤ x.toInt ∧ x.toInt ≤ 200) : (x * 32).toInt = x.toInt * 32 := by
  rw [Int32.toInt_mul, show (32 : Int32).toInt = 32 by decide]
  exact Int.bmod_eq_of_le (by omega) (by omega)
theorem tri_c8 {pn : Int32} {ua ub g2 g3 g4 g5 : Nat → Int32} (hp : pn = 3) (hT : ∀ j : Nat, j < 3 → g2 j = tq ua j ∧ g3 j = tq ub j ∧ g4 j = tr ua j ∧ g5 j = tr ub j) (hb : ∀ j : Nat, j < 3 → (-200 ≤ (ua j).toInt ∧ (ua j).toInt ≤ 200) ∧ (-200 ≤ (ub j).toInt ∧ (ub j).toInt ≤ 200)) : ∀ j : Nat, j < pn.toNatClampNeg → c8 (g2 j) ∧ c8 (g3 j) ∧ c8 (g4 j) ∧ c8 (g5 j) := by
  intro j hj
  rw [hp, show (3 : Int32).toNatClampNeg = 3 by decide] at hj
  obtain ⟨h1, h2, h3, h4⟩ := hT j hj
  have q : ∀ x : Int32, (-200 ≤ x.toInt ∧ x.toInt ≤ 200) → c8 (x * 32) := fun x hx => by
    have := t32_ti hx
    unfold c8
    omega
  rw [h1, h2, h3, h4]
  unfold tq tr
  refine ⟨q _ (hb j hj).1, q _ (hb j hj).2, ?_, ?_⟩
  · split
    · exact q _ (hb 0 (by omega)).1
    · exact q _ (hb (j + 1) (by omega)).1
  · split
    · exact q _ (hb 0 (by omega)).2
    · exact q _ (hb (j + 1) (by omega)).2
theorem tri_cv {pn : Int32} {ua ub g2 g3 g4 g5 : Nat → Int32} (hp : pn = 3) (hT : ∀ j : Nat, j < 3 → g2 j = tq ua j ∧ g3 j = tq ub j ∧ g4 j = tr ua j ∧ g5 j = tr ub j) {ru sp half y : Int32} {m hN ps x j : Nat} : cvN g2 g3 g4 g5 pn.toNatClampNeg ru m hN ps sp half y x j = cvN (tq ua) (tq ub) (tr ua) (tr ub) 3 ru m hN ps sp half y x j := by
  rw [hp, show (3 : Int32).toNatClampNeg = 3 by decide]
  exact cvN_eq hT j
def mxC (wa wb wc w a b c sh : Int32) : Int32 := (wa * chS a sh + wb * chS b sh + wc * chS c sh) / w
def mxV (wa wb wc w a b c : Int32) : Int32 := (((((((0 : Int32) <<< ((8 : Int32) &&& 31) ||| mxC wa wb wc w a b c 24) <<< ((8 : Int32) &&& 31)) ||| mxC wa wb wc w a b c 16) <<< ((8 : Int32) &&& 31)) ||| mxC wa wb wc w a b c 8) <<< ((8 : Int32) &&& 31)) ||| mxC wa wb wc w a b c 0
def inS (wa wb wc a b c : Int32) : Int32 := if wa + wb + wc = 0 then 0 else mxV wa wb wc (wa + wb + wc) a b c
def inP (ua ub uc : Nat → Int32) (x y : Int32) : Int32 := inS (arP (ua 1) (ub 1) (ua 2) (ub 2) x y) (arP (ua 2) (ub 2) (ua 0) (ub 0) x y) (arP (ua 0) (ub 0) (ua 1) (ub 1) x y) (uc 0) (uc 1) (uc 2)
def cfT (ua ub : Nat → Int32) (y x : Nat) : Int32 := cvN (tq ua) (tq ub) (tr ua) (tr ub) 3 1 32 16 1 5 16 (nI y) x 1
def shQ (ua ub uc : Nat → Int32) (op : Int32) (y x : Nat) : List Req := if cfT ua ub y x = 0 then [] else [(nI x, nI y, inP ua ub uc (nI x) (nI y), op)]
/-! COPY and STRETCH: what is drawn -/
def cyX (ax aw ow : Int32) (i : Nat) : Int32 := ax + nI i * aw / ow
def cyQ (ax ay aw ah ox oy ow oh w2 h2 op : Int32) (gs : Nat → Int32) (j i : Nat) : List Req := if 0 ≤ (cyX ax aw ow i).toInt ∧ (cyX ax aw ow i).toInt < w2.toInt ∧ 0 ≤ (cyX ay ah oh j).toInt ∧ (cyX ay ah oh j).toInt < h2.toInt then [(ox + nI i, oy + nI j, gs (ixP (cyX ax aw ow i) (cyX ay ah oh j)), op)] else []
theorem cy_id {ax aw : Int32} {i W : Nat} (hW : aw = nI W) (h : 0 < W) (hi : i ≤ 64 ∧ W ≤ 64) : cyX ax aw aw i = ax + nI i := by
  unfold cyX
  rw [hW, pk_mul, pk_div (by have := Nat.mul_le_mul hi.1 hi.2; omega) (by omega) (by omega), Nat.mul_div_cancel _ h]
theorem gl_nx {σ : Type} {f : σ → Req → σ} {a b : σ} {Q : Nat → Nat → List Req} {W j i : Nat} (h : b = (gL Q W j ++ gR Q j i).foldl f a) (e : i = W) : b = (gL Q W (j + 1)).foldl f a := by
  subst e
  exact h
theorem tri_all {u0 u1 u2 v0 v1 v2 fx fy : Int32} {qa qb qc qd : Nat → Int32} {ua ub : Nat → Int32} (h0 : u0 = ua 0 * 32) (h1 : u1 = ua 1 * 32) (h2 : u2 = ua 2 * 32) (k0 : v0 = ub 0 * 32) (k1 : v1 = ub 1 * 32) (k2 : v2 = ub 2 * 32) : ∀ j : Nat, j < 3 → upd (upd (upd qa (0 : Int32).toNatClampNeg u0) (1 : Int32).toNatClampNeg u1) (2 : Int32).toNatClampNeg u2 j = tq ua j ∧ upd (upd (upd qb (0 : Int32).toNatClampNeg v0) (1 : Int32).toNatClampNeg v1) (2 : Int32).toNatClampNeg v2 j = tq ub j ∧ adT 0 2 u2 (adF 0 1 u1 (adF 0 0 u0 fx)) (adT 0 1 u1 (adF 0 0 u0 fx) (adT 0 0 u0 fx qc)) j = tr ua j ∧ adT 0 2 v2 (adF 0 1 v1 (adF 0 0 v0 fy)) (adT 0 1 v1 (adF 0 0 v0 fy) (adT 0 0 v0 fy qd)) j = tr ub j := by
  intro j hj
  rw [tri_fr j hj, tri_fr j hj, tri_to j hj, tri_to j hj]
  subst h0; subst h1; subst h2; subst k0; subst k1; subst k2
  rcases (show j = 0 ∨ j = 1 ∨ j = 2 by omega) with rfl | rfl | rfl <;> exact ⟨rfl, rfl, rfl, rfl⟩
theorem sm_nx {F : Nat → Nat → Int32 → Int32} {a b : Int32} {W j i : Nat} (h : b = smR F j (smL F W a j) i) (e : i = W) : b = smL F W a (j + 1) := by
  subst e
  exact h
