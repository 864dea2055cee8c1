-- ===== end of PART A; then your names; then what follows =====
/-! THE CLAIM OUT OF ONE WALK OF THE LAW'S BODY. Your part is whole_start (and what it stands on); all else here is the same for every law, but numbers. -/
def R_law : String := "DotBenchLaw"
def lw_P (b : Addr) (xs : List Int32) (args : Array Value) (s : State) : Prop := args = #[.ref b] ∧ s.IntsAt b xs ∧ xs.length ≤ 5632 ∧ (Jvm.Cond.and given_1 narrow_1).before args s = true
def lw_Q (_ : Array Value) (s : State) (o : Outcome) (t : State) : Prop := o = .returned (some (.int 1)) ∧ Framed s o t [] 70642 8890324
def lw_Z (below : List Frame) (a : Array Value) (s : State) : State → Prop := fun t => ∃ o, t.status = .running ∧ Ended t below o ∧ lw_Q a s o t
/-- the law's own end, with 1 on the stack, nothing written that was there before, its room as the claim has it -/
theorem lw_ret {p : Program} {l : Launch} {e : Env} {s : State} {m : MethodId} {below : List Frame} {meth : Method} {c : Code} {b : Nat} (hx : p.tables.exec = Jvm.exec) (hb : c.code = code) (hr : meth.sig.returnType = ret) (hlocks : meth.locks = false) {pc : Nat} {H : Heap} {ls : Array Slot} (hdg : decode code pc = .ok (.ireturn, 1)) : W p l e room_1 s m #[Value.ref b] below meth c H [] 70642 8890324 (lw_Z below #[Value.ref b] s) (F0 m pc ls [.int 1]) := by
  intro T hT X
  obtain ⟨fs, hret, hrun, hended, hW, hframe⟩ := X.leave (v := some (.int 1)) (hlocks := hlocks) (fun h => by rw [hr] at h; cases h)
  have hmeth' : T.vm.method? m = some meth := X.method'
  refine ⟨T.setFrames fs, ?_, .returned (some (.int 1)), hrun, hended, rfl, ⟨_, rfl⟩, hW, hframe⟩
  jvm_step X.here [X.here.top, hx, hb, hdg, hmeth', hr, ret, narrow_b1]
  (try refine ⟨rfl, ?_⟩); (try refine ⟨rfl, ?_⟩)
  first | (intro acts; rw [hret _ acts rfl rfl rfl]) | rw [hret _ _ rfl rfl rfl]
  exact Steps.refl _
/-- what holds at the law's entry: the machine, the code, the tables' words (any of lw_tbl by 'hts w (by decide +kernel)'), the script of L ints xs at the cell b, what the Statement gives of the start (any of its parts by flat_of_before) -/
def lw_At (p : Program) (s : State) (m : MethodId) (meth : Method) (c : Code) (b L : Nat) (xs : Nat → Int32) : Prop :=
  p.tables.exec = Jvm.exec ∧ c.code = code ∧ meth.sig.returnType = ret ∧ c.maxLocals = 4 ∧ s.vm.findClass R_law = some m.cls ∧ (∀ w ∈ lw_tbl, w.before #[Value.ref b] s = true) ∧ va_X b L xs s s.heap ∧ b < s.heap.size ∧ meth.locks = false ∧ (Jvm.Cond.and given_1 narrow_1).before #[Value.ref b] s = true
/-! the law: what holds between its calls -/
def PRs (n : Nat → Int32) (g : Nat → Nat → Int32) (nm : Nat → Int32) (gm : Nat → Nat → Int32) : Prop := PR (n 12) (n 13) (n 14) (g 0) (g 1) (g 2) (g 3) (nm 9) (gm 7) (gm 8) (gm 9)
theorem PR_same {n n' nm nm' : Nat → Int32} {g g' gm gm' : Nat → Nat → Int32} {sh' : Nat → Option Sh} (h : PRs n g nm gm) (h1 : PS n g n' g' sh') (h2 : MS nm gm nm' gm') : PRs n' g' nm' gm' := by
  obtain ⟨a1, a2, a3, a4, a5, a6, a7⟩ := h1
  obtain ⟨b1, b2, b3, b4⟩ := h2
  unfold PRs
  rw [a1, a2, a3, a4, a5, a6, a7, b1, b2, b3, b4]
  exact h
theorem PR_clear {n' nm' : Nat → Int32} {g' gm' : Nat → Nat → Int32} (h1 : n' 12 = 0) (h2 : nm' 9 = 0) : PRs n' g' nm' gm' := by
  unfold PRs
  rw [h1, h2]
  exact PR_0
theorem PR_point {n n' nm nm' : Nat → Int32} {g g' gm gm' : Nat → Nat → Int32} {f : Nat → Option Nat} {sh sh' : Nat → Option Sh} {x y b : Int32} (h : PRs n g nm gm) (hok : okC n f sh) (h1 : if (n 12).toInt < 48 ∧ ((-4096 ≤ x.toInt ∧ x.toInt ≤ 4096) ∧ (-4096 ≤ y.toInt ∧ y.toInt ≤ 4096)) then PT n g x y b n' g' sh' else PS n g n' g' sh') (h2 : if (nm 9).toInt < 48 ∧ ((-4096 ≤ x.toInt ∧ x.toInt ≤ 4096) ∧ (-4096 ≤ y.toInt ∧ y.toInt ≤ 4096)) then MT nm gm x y b nm' gm' else MS nm gm nm' gm') : PRs n' g' nm' gm' := by
  have e : n 12 = nm 9 := h.1
  rw [← e] at h2
  by_cases c : (n 12).toInt < 48 ∧ ((-4096 ≤ x.toInt ∧ x.toInt ≤ 4096) ∧ (-4096 ≤ y.toInt ∧ y.toInt ≤ 4096))
  · rw [if_pos c] at h1 h2
    obtain ⟨a1, a2, a3, a4, a5, a6, a7⟩ := h1
    obtain ⟨b1, b2, b3, b4⟩ := h2
    unfold PRs
    rw [← e] at b1 b2 b3 b4
    rw [a1, a2, a3, a4, a5, a6, a7, b1, b2, b3, b4]
    unfold PRs at h
    rw [← e] at h
    exact PR_pt h ⟨hok.2.1.1, c.1⟩
  · rw [if_neg c] at h1 h2
    exact PR_same h h1 h2
theorem in_same {n nm : Nat → Int32} {g gm : Nat → Nat → Int32} {f : Nat → Option Nat} {sh : Nat → Option Sh} (h : PRs n g nm gm) (hok : okC n f sh) (hom : okM nm gm) {u v : Int32} : wnN (g 0) (g 1) (g 2) (g 3) u v (n 12).toNatClampNeg = wdN (gm 7) (gm 8) (gm 9) (nm 9).toNatClampNeg u.toInt v.toInt (nm 9).toNatClampNeg := by
  have e : n 12 = nm 9 := h.1
  have hb : (n 12).toNatClampNeg ≤ 48 := by have := pn_ti hok.2.1; have := hok.2.1; omega
  rw [wn_wd h hb hom.2.2.2 u v _ (Nat.le_refl _), e]
theorem free_left {A0 : Nat → Prop} {wc wr : va_W} {H0 H : Heap} {locs : List Loc} (hD : va_D A0 (wc ++ wr)) (hS : va_S A0 H0 H locs) (hA : ∀ q, H0.size ≤ q → A0 q) : ∀ q, va_A wc H.size q → A0 q := fun q h => by
  rcases A_mem.mp h with ⟨c, hc, rfl⟩ | h1
  · exact (D_pw.mp hD).2 c (List.mem_append_left _ hc)
  · exact hA q (Nat.le_trans hS.1 h1)
theorem len_ti {L : Nat} (h : L ≤ 100000) : (Int32.ofNat L - 11).toInt = (L : Int) - 11 := by
  have e : (nI L).toInt = (L : Int) := nI_toInt (by omega)
  rw [Int32.toInt_sub, show (Int32.ofNat L).toInt = (L : Int) from e, show (11 : Int32).toInt = 11 by decide]
  exact Int.bmod_eq_of_le (by omega) (by omega)
