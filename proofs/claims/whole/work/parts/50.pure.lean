/-! worlds by what stands in them -/
theorem P_mem {D : va_G} {cl : List vw_C} {ws : va_W} {H : Heap} : va_P D cl ws H ↔ ∀ q ∈ ws, va_at D cl q H :=
  ⟨fun h q hq => (List.mem_iff_getElem?.mp hq).elim (fun k hk => h k q hk), fun h k q hk => h q (List.mem_of_getElem? hk)⟩
theorem D_pw {A : Nat → Prop} {ws : va_W} : va_D A ws ↔ ws.Pairwise (fun p q => p.1 ≠ q.1) ∧ ∀ q ∈ ws, A q.1 := by
  constructor
  · intro h
    refine ⟨List.pairwise_iff_getElem.mpr (fun i j hi hj hij he => ?_), fun q hq => (List.mem_iff_getElem?.mp hq).elim (fun k hk => h.2 k q hk)⟩
    have := h.1 i j _ _ (List.getElem?_eq_getElem hi) (List.getElem?_eq_getElem hj) he
    omega
  · intro h
    refine ⟨fun i j p q hi hj he => ?_, fun k q hk => h.2 q (List.mem_of_getElem? hk)⟩
    have h1 := List.pairwise_iff_getElem.mp h.1
    obtain ⟨li, ei⟩ := List.getElem?_eq_some_iff.mp hi
    obtain ⟨lj, ej⟩ := List.getElem?_eq_some_iff.mp hj
    rcases Nat.lt_trichotomy i j with c | c | c
    · exact absurd (by rw [ei, ej]; exact he) (h1 i j li lj c)
    · exact c
    · exact absurd (by rw [ei, ej]; exact he.symm) (h1 j i lj li c)
theorem P_perm {D : va_G} {cl : List vw_C} {ws ws' : va_W} {H : Heap} (h : ws.Perm ws') (hP : va_P D cl ws H) : va_P D cl ws' H := P_mem.mpr (fun q hq => P_mem.mp hP q (h.mem_iff.mpr hq))
theorem D_perm {A : Nat → Prop} {ws ws' : va_W} (h : ws.Perm ws') (hD : va_D A ws) : va_D A ws' := D_pw.mpr ⟨(h.pairwise_iff (fun h => h.symm)).mp (D_pw.mp hD).1, fun q hq => (D_pw.mp hD).2 q (h.mem_iff.mpr hq)⟩
theorem A_mem {ws : va_W} {sz q : Nat} : va_A ws sz q ↔ (∃ c ∈ ws, c.1 = q) ∨ sz ≤ q := by
  constructor
  · intro h
    rcases h with ⟨k, e, h⟩ | h
    · exact Or.inl ⟨_, List.mem_of_getElem? h, rfl⟩
    · exact Or.inr h
  · intro h
    rcases h with ⟨c, hc, rfl⟩ | h
    · obtain ⟨k, hk⟩ := List.mem_iff_getElem?.mp hc
      exact Or.inl ⟨k, c.2, hk⟩
    · exact Or.inr h
theorem A_perm {ws ws' : va_W} {sz q : Nat} (h : ws.Perm ws') (hA : va_A ws sz q) : va_A ws' sz q := by
  rcases A_mem.mp hA with ⟨c, hc, he⟩ | h1
  · exact A_mem.mpr (Or.inl ⟨c, h.mem_iff.mp hc, he⟩)
  · exact Or.inr h1
theorem A_left {wc wr : va_W} {sz q : Nat} (hA : va_A wc sz q) : va_A (wc ++ wr) sz q := by
  rcases A_mem.mp hA with ⟨c, hc, he⟩ | h1
  · exact A_mem.mpr (Or.inl ⟨c, List.mem_append_left _ hc, he⟩)
  · exact Or.inr h1
theorem P_left {D : va_G} {cl : List vw_C} {wc wr : va_W} {H : Heap} (h : va_P D cl (wc ++ wr) H) : va_P D cl wc H := P_mem.mpr (fun q hq => P_mem.mp h q (List.mem_append_left _ hq))
theorem D_left {A : Nat → Prop} {wc wr : va_W} (h : va_D A (wc ++ wr)) : va_D A wc := D_pw.mpr ⟨(List.pairwise_append.mp (D_pw.mp h).1).1, fun q hq => (D_pw.mp h).2 q (List.mem_append_left _ hq)⟩
/-- behind a call: the callee's new world, and the caller's other cells -/
theorem my_joinM {A0 : Nat → Prop} {D : va_G} {cl : List vw_C} {wc wr w1 : va_W} {H H1 : Heap} (hP : va_P D cl (wc ++ wr) H) (hD : va_D A0 (wc ++ wr)) (hk : ∀ q : Nat, q < H.size → ¬ va_A wc H.size q → H1[q]? = H[q]?) (hF : ∀ q, va_A wc H.size q → A0 q) (hP1 : va_P D cl w1 H1) (hD1 : va_D (va_A wc H.size) w1) : va_P D cl (w1 ++ wr) H1 ∧ va_D A0 (w1 ++ wr) := by
  have hP' := P_mem.mp hP
  obtain ⟨hD1', hD2'⟩ := D_pw.mp hD
  obtain ⟨pa, pb, pc⟩ := List.pairwise_append.mp hD1'
  have apart : ∀ q ∈ wr, ¬ va_A wc H.size q.1 := fun q hq h => by
    rcases A_mem.mp h with ⟨c, hc, he⟩ | h
    · exact pc c hc q hq he
    · have := (hP' q (List.mem_append_right _ hq)).lt
      omega
  refine ⟨P_mem.mpr (fun q hq => ?_), D_pw.mpr ⟨List.pairwise_append.mpr ⟨(D_pw.mp hD1).1, pb, fun a ha b hb he => ?_⟩, fun q hq => ?_⟩⟩
  · rcases List.mem_append.mp hq with h | h
    · exact P_mem.mp hP1 q h
    · have hq' := hP' q (List.mem_append_right _ h)
      exact hq'.kept (hk q.1 hq'.lt (apart q h))
  · exact apart b hb (by rw [← he]; exact (D_pw.mp hD1).2 a ha)
  · rcases List.mem_append.mp hq with h | h
    · exact hF _ ((D_pw.mp hD1).2 q h)
    · exact hD2' q (List.mem_append_right _ h)
def outA : List Nat → va_W → va_W
  | [], _ => []
  | i :: is, X => (X[i]?).toList ++ outA is (X.eraseIdx i)
def outB : List Nat → va_W → va_W
  | [], X => X
  | i :: is, X => outB is (X.eraseIdx i)
theorem out1 : ∀ (X : va_W) (i : Nat), X.Perm ((X[i]?).toList ++ X.eraseIdx i)
  | [], i => by simp
  | x :: X, 0 => by simp
  | x :: X, i + 1 => by
    have h := out1 X i
    simp only [List.getElem?_cons_succ, List.eraseIdx_cons_succ]
    exact (h.cons x).trans (List.perm_middle.symm)
theorem out_perm : ∀ (is : List Nat) (X : va_W), X.Perm (outA is X ++ outB is X)
  | [], X => List.Perm.refl _
  | i :: is, X => by
    show X.Perm (((X[i]?).toList ++ outA is (X.eraseIdx i)) ++ outB is (X.eraseIdx i))
    rw [List.append_assoc]
    exact (out1 X i).trans ((out_perm is (X.eraseIdx i)).append_left _)
/-! contracts: a weaker one, one over a wider world -/
theorem room_le {s : State} {pl : Platform} {r r' : Room} (h : s.hasRoom pl r' = true) (h1 : r.frames ≤ r'.frames) (h2 : r.cells ≤ r'.cells) (h3 : r.slots ≤ r'.slots) (h4 : r.locals ≤ r'.locals) : s.hasRoom pl r = true := by
  simp only [State.hasRoom, Bool.and_eq_true, decide_eq_true_eq] at h ⊢
  obtain ⟨⟨⟨⟨a, b1, b2, b3, b4, b5⟩, c⟩, d⟩, e⟩ := h
  exact ⟨⟨⟨⟨by omega, by omega, by omega, by omega, by omega, b5⟩, by omega⟩, by omega⟩, e⟩
theorem my_conseq {l : Launch} {y : MethodName} {ws : List Cond} {rm rm' : Room} {Pc Pc' : Array Value → State → Prop} {Qc Qc' : Array Value → State → Outcome → State → Prop} {mc ms mc' ms' : Nat} {free free' : Addr → Prop} (hM : Met l y ws rm Pc Qc mc ms free)
    (h1 : rm.frames ≤ rm'.frames) (h2 : rm.cells ≤ rm'.cells) (h3 : rm.slots ≤ rm'.slots) (h4 : rm.locals ≤ rm'.locals) (h5 : mc ≤ mc') (h6 : ms ≤ ms')
    (hp : ∀ a U, Pc' a U → Pc a U) (hq : ∀ a st o t, Pc' a st → Qc a st o t → Qc' a st o t) (hf : ∀ q, free q → free' q) : Met l y ws rm' Pc' Qc' mc' ms' free' := by
  intro p e ha hc1 hc2 s m args below hfr hS hP hK
  have hS' : (headSpec ws rm).appliesLoose y e.platform s = true := by
    rw [Spec.appliesLoose_iff hfr] at hS ⊢
    obtain ⟨a1, a2, a3, a4, a5, a6, a7, a8⟩ := hS
    exact ⟨a1, a2, a3, a4, a5, a6, room_le a7 h1 h2 h3 h4, a8⟩
  obtain ⟨n, o, b1, b2, b3, b4, L, ⟨b5, b6, b7⟩, b8⟩ := hM p e ha hc1 hc2 s m args below hfr hS' (hp _ _ hP) hK
  exact ⟨n, o, b1, b2, b3, hq _ _ _ _ hP b4, L, ⟨b5, b6, b7.mono h5 h6⟩, fun q h => hf _ (b8 q h)⟩
section
variable {l : Launch} {y : MethodName} {Ws : List Cond} {rm rm' : Room} {D : va_G} {wc wr ws : va_W} {T T' : List (ClassId × FieldType)} {sz : Nat} {as : List Value} {mc ms mc' ms' : Nat} {B : Unit → State → Prop} {Rl Rl' : va_W → Prop}
theorem fr_pre (hp : ws.Perm (wc ++ wr)) (is : List Nat) (hT : is.filterMap (fun i => T'[i]?) = T) : ∀ a U, cP D ws T' sz as a U → cP D wc T sz as a U := fun a U h => by
  obtain ⟨q0, q1, qP, qK, qD, qN⟩ := h
  exact ⟨q0, q1, P_left (P_perm hp qP), qK.sub is hT, D_left (D_perm hp qD), qN⟩
theorem fr_end {st t : State} {a : Array Value} (hp : ws.Perm (wc ++ wr)) (hR : ∀ w1, Rl w1 → ∃ w', Rl' w' ∧ (w1 ++ wr).Perm w') (hB : ∃ w1, Rl w1 ∧ va_P D vwCl w1 t.heap ∧ va_D (va_A wc sz) w1) (hc : cP D ws T' sz as a st) (hF : va_F (va_A wc sz) st t) : (∃ w', Rl' w' ∧ va_P D vwCl w' t.heap ∧ va_D (va_A ws sz) w') ∧ va_F (va_A ws sz) st t := by
  obtain ⟨q0, q1, qP, qK, qD, qN⟩ := hc
  obtain ⟨w1, h1, h2, h3⟩ := hB
  obtain ⟨w', h4, h5⟩ := hR w1 h1
  subst q1
  have hmono : ∀ q, va_A wc st.heap.size q → va_A ws st.heap.size q := fun q h => A_perm hp.symm (A_left h)
  obtain ⟨j1, j2⟩ := my_joinM (A0 := va_A ws st.heap.size) (P_perm hp qP) ((D_perm hp qD).weaken (fun k q hk _ => A_perm hp.symm (va_A.in hk))) hF.2 hmono h2 h3
  exact ⟨⟨w', h4, P_perm h5 j1, D_perm h5 j2⟩, hF.1, fun q h6 h7 => hF.2 q h6 (fun h8 => h7 (hmono q h8))⟩
theorem my_frI {post post' : Int32 → Unit → Prop} (hM : Met l y Ws rm (cP D wc T sz as) (va_Qi post B (va_A wc sz)) mc ms (va_A wc sz))
    (hp : ws.Perm (wc ++ wr)) (is : List Nat) (hT : is.filterMap (fun i => T'[i]?) = T) (hB : ∀ u t, B u t → ∃ w1, Rl w1 ∧ va_P D vwCl w1 t.heap ∧ va_D (va_A wc sz) w1) (hR : ∀ w1, Rl w1 → ∃ w', Rl' w' ∧ (w1 ++ wr).Perm w') (hpo : ∀ r u, post r u → post' r u)
    (h1 : rm.frames ≤ rm'.frames) (h2 : rm.cells ≤ rm'.cells) (h3 : rm.slots ≤ rm'.slots) (h4 : rm.locals ≤ rm'.locals) (h5 : mc ≤ mc') (h6 : ms ≤ ms') :
    Met l y Ws rm' (cP D ws T' sz as) (va_Qi post' (fun (_ : Unit) (t : State) => ∃ w', Rl' w' ∧ va_P D vwCl w' t.heap ∧ va_D (va_A ws sz) w') (va_A ws sz)) mc' ms' (va_A ws sz) :=
  my_conseq hM h1 h2 h3 h4 h5 h6 (fr_pre hp is hT) (fun a st o t hc h => by
    obtain ⟨⟨r, u, e1, e2, e3⟩, hF⟩ := h
    obtain ⟨k1, k2⟩ := fr_end hp hR (hB u t e3) hc hF
    exact ⟨⟨r, u, e1, hpo r u e2, k1⟩, k2⟩) (fun q h => A_perm hp.symm (A_left h))
theorem my_frV {post post' : Unit → Prop} (hM : Met l y Ws rm (cP D wc T sz as) (va_Qv post B (va_A wc sz)) mc ms (va_A wc sz))
    (hp : ws.Perm (wc ++ wr)) (is : List Nat) (hT : is.filterMap (fun i => T'[i]?) = T) (hB : ∀ u t, B u t → ∃ w1, Rl w1 ∧ va_P D vwCl w1 t.heap ∧ va_D (va_A wc sz) w1) (hR : ∀ w1, Rl w1 → ∃ w', Rl' w' ∧ (w1 ++ wr).Perm w') (hpo : ∀ u, post u → post' u)
    (h1 : rm.frames ≤ rm'.frames) (h2 : rm.cells ≤ rm'.cells) (h3 : rm.slots ≤ rm'.slots) (h4 : rm.locals ≤ rm'.locals) (h5 : mc ≤ mc') (h6 : ms ≤ ms') :
    Met l y Ws rm' (cP D ws T' sz as) (va_Qv post' (fun (_ : Unit) (t : State) => ∃ w', Rl' w' ∧ va_P D vwCl w' t.heap ∧ va_D (va_A ws sz) w') (va_A ws sz)) mc' ms' (va_A ws sz) :=
  my_conseq hM h1 h2 h3 h4 h5 h6 (fr_pre hp is hT) (fun a st o t hc h => by
    obtain ⟨⟨u, e1, e2, e3⟩, hF⟩ := h
    obtain ⟨k1, k2⟩ := fr_end hp hR (hB u t e3) hc hF
    exact ⟨⟨u, e1, hpo u e2, k1⟩, k2⟩) (fun q h => A_perm hp.symm (A_left h))
end
def sel (is : List Nat) (E : va_W) : va_W := is.filterMap (fun i => E[i]?)
theorem sel_range : ∀ E : va_W, sel (List.range E.length) E = E
  | [] => rfl
  | x :: E => by
    have h := sel_range E
    unfold sel at h ⊢
    rw [List.length_cons, List.range_succ_eq_map, List.filterMap_cons, List.filterMap_map]
    simp only [List.getElem?_cons_zero]
    exact congrArg (List.cons x) h
theorem sel_perm0 (is js : List Nat) (N : Nat) (E : va_W) (hN : E.length = N) (h : (is ++ js).Perm (List.range N)) : E.Perm (sel is E ++ sel js E) := by
  have h1 : (sel (is ++ js) E).Perm (sel (List.range N) E) := h.filterMap _
  rw [← hN, sel_range] at h1
  have h2 : sel (is ++ js) E = sel is E ++ sel js E := List.filterMap_append
  rw [h2] at h1
  exact h1.symm
theorem sel_perm (is js : List Nat) (N : Nat) (E tl : va_W) (hN : E.length = N) (h : (is ++ js).Perm (List.range N)) : (E ++ tl).Perm (sel is E ++ (sel js E ++ tl)) := by
  rw [← List.append_assoc]
  exact (sel_perm0 is js N E hN h).append_right tl
