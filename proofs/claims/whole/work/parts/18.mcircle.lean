set_option maxHeartbeats 4000000 in
set_option maxRecDepth 100000 in
theorem k_X9_root (l : Launch) (D : va_G) (sz : Nat) (n9 : Int32) (N9 : Nat) (hn9 : n9 = nI N9) (hNb : N9 ≤ 250000) : Met l yX9_root (wB yX9_root cX9_root 2 (some .int)) ({ frames := 0, cells := 0, slots := 0, locals := 0 }) (cP D [] [] sz [.int n9]) (va_Qi (fun (r : Int32) (_ : Unit) => r = nI (rtF N9 501 0) ∧ rtF N9 501 0 ≤ 500) (fun (_ : Unit) (_ : State) => True) (va_A [] sz)) 0 0 (va_A [] sz) := by
  refine Met.ofW (cc := cX9_root) (maxL := 2) (ret := (some .int)) (by decide) rfl ?_
  intro p e s m args below meth c s₁ B hml hv
  obtain ⟨rfl, hsz, hP, hK, hD0, hN⟩ := hv
  have hx := B.exec
  have hb := B.bytes
  have hr := B.returns
  have hts0 := atoms_spec (ws := (wB yX9_root cX9_root 2 (some .int))) B.pre
  have hts : ∀ w ∈ bigW, w.before _ s = true := fun w h => hts0 w (List.mem_cons_of_mem _ h)
  have hown : s.vm.findClass RX9 = some m.cls := findClass_of_methodNamed B.named
  have hlocks := B.notSynchronized
  subst hsz
  have hD := hD0.self (sz := s.heap.size)
  generalize hAe : va_A [] s.heap.size = A at hD ⊢
  have hA : ∀ q : Nat, s.heap.size ≤ q → A q := fun q h => by rw [← hAe]; exact Or.inr h
  have hS : va_S A s.heap s.heap [] := va_S.rf
  have hP : va_P D vwCl [] s.heap := hP
  have hl := lv_entry ([.int n9]) (n := 2) (Nat.le_of_ble_eq_true rfl)
  rw [lg_entry_eq]
  generalize (lg_sl ([.int n9]) ++ List.replicate (2 - (lg_sl ([.int n9])).length) Slot.unset).toArray = ls at hl ⊢
  have hl : lv_has ls 2 [(0, .int n9)] := hl
  clear hts0 hD0 hAe
  refine my_abs (fun R Q hR hQ => ?_)
  refine lv_iconst (v := 0) hx hb dX9_root_0 (by decide) ?_
  refine lv_istore_n (lv' := [(1, .int 0), (0, .int n9)]) hx hb dX9_root_1 rfl hl (by decide) rfl (fun ls hl => ?_)
  have loop_1 : ∀ (n : Nat) (i : Nat) (x1 : Int32) (H : Heap) (locs : List Loc) (ls : Array Slot), (i ≤ 500) → (502 ≤ i + n) → (x1 = nI i) → (rtF N9 (501 - i) i = rtF N9 501 0) → va_P D vwCl [] H → va_D A [] → va_S A s.heap H locs → lv_has ls 2 [(1, .int x1), (0, .int n9)] → W p l e R s m ([.int n9] : List Value).toArray below meth c H locs 0 0 Q (F0 m 2 ls []) := by
    intro n
    induction n with
    | zero =>
      intro i x1 H locs ls hi hm ex he hP hD hS hl
      exact absurd (show False by omega) not_false
    | succ n ih_2 =>
      intro i x1 H locs ls hi hm ex he hP hD hS hl
      refine lv_iconst (v := 2) hx hb dX9_root_2 (by decide) ?_
      refine lv_iload_n hx hb dX9_root_3 rfl (lv_at hl 0 rfl) ?_
      refine lv_imul hx hb dX9_root_4 ?_
      refine lv_topi (fun y_3 ey_3 => ?_)
      refine lv_iconst (v := 1) hx hb dX9_root_5 (by decide) ?_
      refine lv_iadd hx hb dX9_root_6 ?_
      refine lv_topi (fun y_4 ey_4 => ?_)
      refine lv_iconst (v := 2) hx hb dX9_root_7 (by decide) ?_
      refine lv_iload_n hx hb dX9_root_8 rfl (lv_at hl 0 rfl) ?_
      refine lv_imul hx hb dX9_root_9 ?_
      refine lv_topi (fun y_5 ey_5 => ?_)
      refine lv_iconst (v := 1) hx hb dX9_root_10 (by decide) ?_
      refine lv_iadd hx hb dX9_root_11 ?_
      refine lv_topi (fun y_6 ey_6 => ?_)
      refine lv_imul hx hb dX9_root_12 ?_
      refine lv_topi (fun y_7 ey_7 => ?_)
      have hsy_7 : y_7.toInt = (((2 * i + 1) * (2 * i + 1) : Nat) : Int) := by rw [ey_7, ey_4, ey_6, ey_3, ey_5, ex]; exact odd_ti hi
      refine lv_iconst (v := 4) hx hb dX9_root_13 (by decide) ?_
      refine lv_iload_n hx hb dX9_root_14 rfl (lv_at hl 1 rfl) ?_
      refine lv_imul hx hb dX9_root_15 ?_
      refine lv_topi (fun y_8 ey_8 => ?_)
      have hsy_8 : y_8.toInt = ((4 * N9 : Nat) : Int) := by rw [ey_8, hn9]; exact four_ti hNb
      refine lv_icmp_ge (tgt := 26) hx hb dX9_root_16 (by decide) (fun c_9 => ?_) (fun c_9 => ?_)
      · skip
        have f_10 : ((4 * N9 : Nat) : Int) ≤ (((2 * i + 1) * (2 * i + 1) : Nat) : Int) := f_le hsy_8 hsy_7 c_9
        refine lv_iload_n hx hb dX9_root_26 rfl (lv_at hl 0 rfl) ?_
        refine hQ _ _ _ _ _ ?_
        exact W.iret (v := x1) hx hb hr (fun t ht hW => ⟨⟨x1, (), rfl, (by have hst := rt_stop (N := N9) (k := 501 - i) (b := i) (by omega) (fun q => absurd (Int.ofNat_lt.mpr q) (by omega)); rw [he] at hst; rw [hst]; exact ⟨ex, hi⟩), trivial⟩, hS.F ht⟩) hS.2.2 dX9_root_27
      · skip
        have f_10 : ¬ (((4 * N9 : Nat) : Int) ≤ (((2 * i + 1) * (2 * i + 1) : Nat) : Int)) := fn_le hsy_8 hsy_7 c_9
        refine lv_iload_n hx hb dX9_root_19 rfl (lv_at hl 0 rfl) ?_
        refine lv_iconst (v := 1) hx hb dX9_root_20 (by decide) ?_
        refine lv_iadd hx hb dX9_root_21 ?_
        refine lv_topi (fun y_11 ey_11 => ?_)
        refine lv_istore_n (lv' := [(1, .int y_11), (0, .int n9)]) hx hb dX9_root_22 rfl hl (by decide) rfl (fun ls hl => ?_)
        refine lv_goto (tgt := 2) hx hb dX9_root_23 (by decide) ?_
        exact ih_2 (i + 1) y_11 _ _ _ (rt_lt hNb (Int.ofNat_lt.mp (by omega))) (by omega) (by rw [ey_11, ex]; exact nI_1 i) (rt_next he (by omega) (Int.ofNat_lt.mp (by omega))) (hP.sub (ws' := []) [] rfl) (hD.sub (ws' := []) [] (by decide) rfl) hS (lv_sub hl [0, 1] rfl)
  exact loop_1 502 0 0 _ _ _ (by omega) (by omega) nI_0.symm rfl hP hD hS (lv_sub hl [0, 1] rfl)
