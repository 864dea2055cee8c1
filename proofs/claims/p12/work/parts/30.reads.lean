set_option maxHeartbeats 4000000 in
set_option maxRecDepth 100000 in
theorem k_X5_channelSum (l : Launch) (D : va_G) (sz : Nat) (h0 d0 : Nat) (w h : Int32) (g : Nat → Int32) (sf : Int32) (cI : ClassId) (hw : w.toInt ≤ 64) (hh : h.toInt ≤ 64) : Met l yX5_channelSum (wB yX5_channelSum cX5_channelSum 5 (some .int)) ({ frames := 2, cells := 0, slots := 0, locals := 44 }) (cP D [(h0, .inr (5, [.ref d0, .int w, .int h])), (d0, .inl (cI, 4096, .inl g))] [(cI, .int)] sz [.ref h0, .int sf]) (va_Qi (fun (r : Int32) (_ : Unit) => True) (fun (_ : Unit) (t : State) => cB D (va_A [(h0, .inr (5, [.ref d0, .int w, .int h])), (d0, .inl (cI, 4096, .inl g))] sz) [(h0, .inr (5, [.ref d0, .int w, .int h])), (d0, .inl (cI, 4096, .inl g))] [(cI, .int)] t) (va_A [(h0, .inr (5, [.ref d0, .int w, .int h])), (d0, .inl (cI, 4096, .inl g))] sz)) 0 0 (va_A [(h0, .inr (5, [.ref d0, .int w, .int h])), (d0, .inl (cI, 4096, .inl g))] sz) := by
  refine Met.ofW (cc := cX5_channelSum) (maxL := 5) (ret := (some .int)) (by decide) rfl ?_
  intro p e s m args below meth c s₁ B hml hv
  obtain ⟨rfl, hsz, hP, hK, hD0, hN⟩ := hv
  have hx := B.exec
  have hb := B.bytes
  have hr := B.returns
  have hts0 := atoms_spec (ws := (wB yX5_channelSum cX5_channelSum 5 (some .int))) B.pre
  have hts : ∀ w ∈ bigW, w.before _ s = true := fun w h => hts0 w (List.mem_cons_of_mem _ h)
  have hown : s.vm.findClass RX5 = some m.cls := findClass_of_methodNamed B.named
  have hlocks := B.notSynchronized
  subst hsz
  have hD := hD0.self (sz := s.heap.size)
  generalize hAe : va_A [(h0, .inr (5, [.ref d0, .int w, .int h])), (d0, .inl (cI, 4096, .inl g))] s.heap.size = A at hD ⊢
  have hA : ∀ q : Nat, s.heap.size ≤ q → A q := fun q h => by rw [← hAe]; exact Or.inr h
  have hS : va_S A s.heap s.heap [] := va_S.rf
  have hP : va_P D vwCl [(h0, .inr (5, [.ref d0, .int w, .int h])), (d0, .inl (cI, 4096, .inl g))] s.heap := hP
  have hl := lv_entry ([.ref h0, .int sf]) (n := 5) (Nat.le_of_ble_eq_true rfl)
  rw [lg_entry_eq]
  generalize (lg_sl ([.ref h0, .int sf]) ++ List.replicate (5 - (lg_sl ([.ref h0, .int sf])).length) Slot.unset).toArray = ls at hl ⊢
  have hl : lv_has ls 5 [(0, .ref h0), (1, .int sf)] := hl
  clear hts0 hD0 hAe
  refine my_abs (fun R Q hR hQ => ?_)
  refine lv_iconst (v := 0) hx hb dX5_channelSum_0 (by decide) ?_
  refine lv_istore_n (lv' := [(2, .int 0), (0, .ref h0), (1, .int sf)]) hx hb dX5_channelSum_1 rfl hl (by decide) rfl (fun ls hl => ?_)
  refine lv_iconst (v := 0) hx hb dX5_channelSum_2 (by decide) ?_
  refine lv_istore_n (lv' := [(3, .int 0), (2, .int 0), (0, .ref h0), (1, .int sf)]) hx hb dX5_channelSum_3 rfl hl (by decide) rfl (fun ls hl => ?_)
  have loop_1 : ∀ (n : Nat) (j : Nat) (x3 : Int32) (x2 : Int32) (H : Heap) (locs : List Loc) (ls : Array Slot), (j ≤ 64) → (64 + 1 ≤ j + n) → (x3 = nI j) → va_P D vwCl [(h0, .inr (5, [.ref d0, .int w, .int h])), (d0, .inl (cI, 4096, .inl g))] H → va_D A [(h0, .inr (5, [.ref d0, .int w, .int h])), (d0, .inl (cI, 4096, .inl g))] → va_S A s.heap H locs → lv_has ls 5 [(3, .int x3), (2, .int x2), (0, .ref h0), (1, .int sf)] → W p l e R s m ([.ref h0, .int sf] : List Value).toArray below meth c H locs 0 0 Q (F0 m 4 ls []) := by
    intro n
    induction n with
    | zero =>
      intro j x3 x2 H locs ls hi_j hm_j ex_j hP hD hS hl
      exact absurd (show False by omega) not_false
    | succ n ih_2 =>
      intro j x3 x2 H locs ls hi_j hm_j ex_j hP hD hS hl
      have hx_j : x3.toInt = (j : Int) := by rw [ex_j]; exact nI_toInt (by omega)
      have hc_j : x3.toNatClampNeg = j := by rw [ex_j]; exact nI_clamp (by omega)
      refine lv_iload_n hx hb dX5_channelSum_4 rfl (lv_at hl 0 rfl) ?_
      refine lv_aload_n hx hb dX5_channelSum_5 rfl (lv_at hl 2 rfl) ?_
      refine va_get (D := D) (ci := 5) (v := .int h) (C := RX5) (T := TX5) (N := 3) hx hb hts hi_X5 hown hK hP 0 rfl rfl 2 (by decide) (hts _ bw_137) (fun _ h9 => h9) rfl dX5_channelSum_6 ?_
      refine lv_icmp_ge (tgt := 50) hx hb dX5_channelSum_9 (by decide) (fun c_3 => ?_) (fun c_3 => ?_)
      · skip
        have f_4 : h.toInt ≤ (j : Int) := f_le rfl hx_j c_3
        refine lv_iload_n hx hb dX5_channelSum_50 rfl (lv_at hl 1 rfl) ?_
        have hP9 := hP.sub (ws' := [(h0, .inr (5, [.ref d0, .int w, .int h])), (d0, .inl (cI, 4096, .inl g))]) [0, 1] rfl
        have hD9 := hD.sub (ws' := [(h0, .inr (5, [.ref d0, .int w, .int h])), (d0, .inl (cI, 4096, .inl g))]) [0, 1] (by decide) rfl
        have hK9 := hK.sub (tys' := [(cI, .int)]) [0] rfl
        refine hQ _ _ _ _ _ ?_
        exact W.iret (v := x2) hx hb hr (fun t ht hW => ⟨⟨x2, (), rfl, trivial, ⟨by rw [ht]; exact hP9, va_K.moved hW.alike hK9, hD9⟩⟩, hS.F ht⟩) hS.2.2 dX5_channelSum_51
      · skip
        have f_4 : ¬ (h.toInt ≤ (j : Int)) := fn_le rfl hx_j c_3
        refine lv_iconst (v := 0) hx hb dX5_channelSum_12 (by decide) ?_
        refine lv_istore (lv' := [(4, .int 0), (3, .int x3), (2, .int x2), (0, .ref h0), (1, .int sf)]) hx hb dX5_channelSum_13 hl (by decide) rfl (fun ls hl => ?_)
        have loop_5 : ∀ (n : Nat) (i : Nat) (x4 : Int32) (z2 : Int32) (H : Heap) (locs : List Loc) (ls : Array Slot), (i ≤ 64) → (64 + 1 ≤ i + n) → (x4 = nI i) → va_P D vwCl [(h0, .inr (5, [.ref d0, .int w, .int h])), (d0, .inl (cI, 4096, .inl g))] H → va_D A [(h0, .inr (5, [.ref d0, .int w, .int h])), (d0, .inl (cI, 4096, .inl g))] → va_S A s.heap H locs → lv_has ls 5 [(4, .int x4), (3, .int x3), (2, .int z2), (0, .ref h0), (1, .int sf)] → W p l e R s m ([.ref h0, .int sf] : List Value).toArray below meth c H locs 0 0 Q (F0 m 15 ls []) := by
          intro n
          induction n with
          | zero =>
            intro i x4 z2 H locs ls hi_i hm_i ex_i hP hD hS hl
            exact absurd (show False by omega) not_false
          | succ n ih_6 =>
            intro i x4 z2 H locs ls hi_i hm_i ex_i hP hD hS hl
            have hx_i : x4.toInt = (i : Int) := by rw [ex_i]; exact nI_toInt (by omega)
            have hc_i : x4.toNatClampNeg = i := by rw [ex_i]; exact nI_clamp (by omega)
            refine lv_iload hx hb dX5_channelSum_15 (lv_at hl 0 rfl) ?_
            refine lv_aload_n hx hb dX5_channelSum_17 rfl (lv_at hl 3 rfl) ?_
            refine va_get (D := D) (ci := 5) (v := .int w) (C := RX5) (T := TX5) (N := 3) hx hb hts hi_X5 hown hK hP 0 rfl rfl 1 (by decide) (hts _ bw_136) (fun _ h9 => h9) rfl dX5_channelSum_18 ?_
            refine lv_icmp_ge (tgt := 44) hx hb dX5_channelSum_21 (by decide) (fun c_7 => ?_) (fun c_7 => ?_)
            · skip
              have f_8 : w.toInt ≤ (i : Int) := f_le rfl hx_i c_7
              obtain ⟨y_9, ey_9⟩ : ∃ y : Int32, y = x3 + 1 := ⟨_, rfl⟩
              refine lv_iinc (v := y_9) (lv' := [(3, .int y_9), (4, .int x4), (2, .int z2), (0, .ref h0), (1, .int sf)]) hx hb dX5_channelSum_44 hl (k := 1) rfl (by rw [ey_9]; rfl) (by decide) rfl (fun ls hl => ?_)
              refine lv_goto (tgt := 4) hx hb dX5_channelSum_47 (by decide) ?_
              exact ih_2 (j + 1) y_9 z2 _ _ _ (by omega) (by omega) (by rw [ey_9, ex_j]; exact nI_1 j) (hP.sub (ws' := [(h0, .inr (5, [.ref d0, .int w, .int h])), (d0, .inl (cI, 4096, .inl g))]) [0, 1] rfl) (hD.sub (ws' := [(h0, .inr (5, [.ref d0, .int w, .int h])), (d0, .inl (cI, 4096, .inl g))]) [0, 1] (by decide) rfl) hS (lv_sub hl [0, 2, 3, 4] rfl)
            · skip
              have f_8 : ¬ (w.toInt ≤ (i : Int)) := fn_le rfl hx_i c_7
              refine lv_iload_n hx hb dX5_channelSum_24 rfl (lv_at hl 2 rfl) ?_
              refine lv_aload_n hx hb dX5_channelSum_25 rfl (lv_at hl 3 rfl) ?_
              refine lv_iload hx hb dX5_channelSum_26 (lv_at hl 0 rfl) ?_
              refine lv_iload_n hx hb dX5_channelSum_28 rfl (lv_at hl 1 rfl) ?_
              have hPc := hP.sub (ws' := [(h0, .inr (5, [.ref d0, .int w, .int h])), (d0, .inl (cI, 4096, .inl g))]) [0, 1] rfl
              have hDc := hD.sub (ws' := [(h0, .inr (5, [.ref d0, .int w, .int h])), (d0, .inl (cI, 4096, .inl g))]) [0, 1] (by decide) rfl
              have hKc := hK.sub (tys' := [(cI, .int)]) [0] rfl
              have hFc := va_free (wc := [(h0, .inr (5, [.ref d0, .int w, .int h])), (d0, .inl (cI, 4096, .inl g))]) hD hS hA [0, 1] rfl
              refine va_calli (va_runV (As := [.int x4, .int x3]) (rest := [.int z2]) ⟨hx, hb, hml, hown, hts⟩ (k_X5_at l D H.size h0 d0 w h g x4 x3 cI (by first | assumption | omega | decide) (by first | assumption | omega | decide)) (cwV 2 hts (gV bw_162 bw_153 bw_154 bw_130 bw_152) rfl rfl rfl (by decide +kernel) ⟨(by rw [hR]; exact Nat.le_of_ble_eq_true rfl), (by rw [hR]; exact Nat.le_of_ble_eq_true rfl)⟩) ⟨cP_blind, va_recv hKc hPc (ci := 5) (q0 := 0) rfl rfl, cP_at hPc hKc hDc hN⟩ rfl rfl hl.1 rfl (lv_room (Nat.le_of_ble_eq_true rfl)) dX5_channelSum_29 ⟨(by rw [hR]; exact Nat.le_of_ble_eq_true rfl), (by rw [hR]; exact Nat.le_of_ble_eq_true rfl)⟩) hS (fun q _ h => hFc q h) hFc (fun r_10 u9 t9 H1 locs ht hvm hr_10 hB hz1 hk1 hS => ?_)
              try dsimp only at hr_10
              obtain ⟨hP1, hK1, hD1⟩ := hB
              rw [ht] at hP1
              obtain ⟨hP, hD⟩ := va_join (wr := []) (w1 := [(h0, .inr (5, [.ref d0, .int w, .int h])), (d0, .inl (cI, 4096, .inl g))]) hP hD [0, 1] [] rfl rfl (by decide) (by decide) hk1 hFc hP1 hD1
              clear hz1 hk1 hFc hKc hDc hPc
              generalize H1 = H at hP hS ⊢
              have hP : va_P D vwCl [(h0, .inr (5, [.ref d0, .int w, .int h])), (d0, .inl (cI, 4096, .inl g))] H := hP
              have hD : va_D A [(h0, .inr (5, [.ref d0, .int w, .int h])), (d0, .inl (cI, 4096, .inl g))] := hD
              refine lv_iload_n hx hb dX5_channelSum_32 rfl (lv_at hl 4 rfl) ?_
              have hPc := hP.sub (ws' := []) [] rfl
              have hDc := hD.sub (ws' := []) [] (by decide) rfl
              have hKc := hK.sub (tys' := []) [] rfl
              have hFc := va_free (wc := []) hD hS hA [] rfl
              refine va_calli (va_runSN (host := RX8) (As := [.int r_10, .int sf]) (rest := [.int z2]) ⟨hx, hb, hml, hown, hts⟩ (k_X8_channel l D H.size r_10 sf) ⟨va_cnB 2 hts (gI bw_360) rfl rfl rfl (hN.2.1 (RX5, 42, yX8_channel, RX8) (by decide +kernel)) (hts _ bw_223) (by decide +kernel) ⟨(by rw [hR]; exact Nat.le_of_ble_eq_true rfl), (by rw [hR]; exact Nat.le_of_ble_eq_true rfl)⟩, (hts _ bw_361), trivial⟩ ⟨cP_blind, cP_at hPc hKc hDc hN⟩ rfl rfl hl.1 rfl (lv_room (Nat.le_of_ble_eq_true rfl)) dX5_channelSum_33 ⟨(by rw [hR]; exact Nat.le_of_ble_eq_true rfl), (by rw [hR]; exact Nat.le_of_ble_eq_true rfl)⟩) hS (fun q _ h => hFc q h) hFc (fun r_11 u9 t9 H1 locs ht hvm hr_11 hB hz1 hk1 hS => ?_)
              try dsimp only at hr_11
              have hP1 : va_P D vwCl [] H1 := vP_nil
              have hD1 : va_D (va_A [] H.size) [] := vD_nil
              obtain ⟨hP, hD⟩ := va_join (wr := [(h0, .inr (5, [.ref d0, .int w, .int h])), (d0, .inl (cI, 4096, .inl g))]) (w1 := []) hP hD [] [0, 1] rfl rfl (by decide) (by decide) hk1 hFc hP1 hD1
              clear hz1 hk1 hFc hKc hDc hPc
              generalize H1 = H at hP hS ⊢
              have hP : va_P D vwCl [(h0, .inr (5, [.ref d0, .int w, .int h])), (d0, .inl (cI, 4096, .inl g))] H := hP
              have hD : va_D A [(h0, .inr (5, [.ref d0, .int w, .int h])), (d0, .inl (cI, 4096, .inl g))] := hD
              refine lv_iadd hx hb dX5_channelSum_36 ?_
              refine lv_topi (fun y_12 ey_12 => ?_)
              refine lv_istore_n (lv' := [(2, .int y_12), (4, .int x4), (3, .int x3), (0, .ref h0), (1, .int sf)]) hx hb dX5_channelSum_37 rfl hl (by decide) rfl (fun ls hl => ?_)
              obtain ⟨y_13, ey_13⟩ : ∃ y : Int32, y = x4 + 1 := ⟨_, rfl⟩
              refine lv_iinc (v := y_13) (lv' := [(4, .int y_13), (2, .int y_12), (3, .int x3), (0, .ref h0), (1, .int sf)]) hx hb dX5_channelSum_38 hl (k := 1) rfl (by rw [ey_13]; rfl) (by decide) rfl (fun ls hl => ?_)
              refine lv_goto (tgt := 15) hx hb dX5_channelSum_41 (by decide) ?_
              exact ih_6 (i + 1) y_13 y_12 _ _ _ (by omega) (by omega) (by rw [ey_13, ex_i]; exact nI_1 i) (hP.sub (ws' := [(h0, .inr (5, [.ref d0, .int w, .int h])), (d0, .inl (cI, 4096, .inl g))]) [0, 1] rfl) (hD.sub (ws' := [(h0, .inr (5, [.ref d0, .int w, .int h])), (d0, .inl (cI, 4096, .inl g))]) [0, 1] (by decide) rfl) hS (lv_sub hl [0, 2, 1, 3, 4] rfl)
        exact loop_5 (64 + 1) 0 0 x2 _ _ _ (by omega) (by omega) nI_0.symm hP hD hS (lv_sub hl [0, 1, 2, 3, 4] rfl)
  exact loop_1 (64 + 1) 0 0 0 _ _ _ (by omega) (by omega) nI_0.symm hP hD hS (lv_sub hl [0, 1, 2, 3] rfl)

set_option maxHeartbeats 4000000 in
set_option maxRecDepth 100000 in
theorem k_X5_boxSide (l : Launch) (D : va_G) (sz : Nat) (h0 d0 : Nat) (w h : Int32) (g : Nat → Int32) (al hg : Int32) (cI : ClassId) (hw : w.toInt ≤ 64) (hh : h.toInt ≤ 64) : Met l yX5_boxSide (wB yX5_boxSide cX5_boxSide 8 (some .int)) ({ frames := 2, cells := 0, slots := 0, locals := 44 }) (cP D [(h0, .inr (5, [.ref d0, .int w, .int h])), (d0, .inl (cI, 4096, .inl g))] [(cI, .int)] sz [.ref h0, .int al, .int hg]) (va_Qi (fun (r : Int32) (_ : Unit) => True) (fun (_ : Unit) (t : State) => cB D (va_A [(h0, .inr (5, [.ref d0, .int w, .int h])), (d0, .inl (cI, 4096, .inl g))] sz) [(h0, .inr (5, [.ref d0, .int w, .int h])), (d0, .inl (cI, 4096, .inl g))] [(cI, .int)] t) (va_A [(h0, .inr (5, [.ref d0, .int w, .int h])), (d0, .inl (cI, 4096, .inl g))] sz)) 0 0 (va_A [(h0, .inr (5, [.ref d0, .int w, .int h])), (d0, .inl (cI, 4096, .inl g))] sz) := by
  refine Met.ofW (cc := cX5_boxSide) (maxL := 8) (ret := (some .int)) (by decide) rfl ?_
  intro p e s m args below meth c s₁ B hml hv
  obtain ⟨rfl, hsz, hP, hK, hD0, hN⟩ := hv
  have hx := B.exec
  have hb := B.bytes
  have hr := B.returns
  have hts0 := atoms_spec (ws := (wB yX5_boxSide cX5_boxSide 8 (some .int))) B.pre
  have hts : ∀ w ∈ bigW, w.before _ s = true := fun w h => hts0 w (List.mem_cons_of_mem _ h)
  have hown : s.vm.findClass RX5 = some m.cls := findClass_of_methodNamed B.named
  have hlocks := B.notSynchronized
  subst hsz
  have hD := hD0.self (sz := s.heap.size)
  generalize hAe : va_A [(h0, .inr (5, [.ref d0, .int w, .int h])), (d0, .inl (cI, 4096, .inl g))] s.heap.size = A at hD ⊢
  have hA : ∀ q : Nat, s.heap.size ≤ q → A q := fun q h => by rw [← hAe]; exact Or.inr h
  have hS : va_S A s.heap s.heap [] := va_S.rf
  have hP : va_P D vwCl [(h0, .inr (5, [.ref d0, .int w, .int h])), (d0, .inl (cI, 4096, .inl g))] s.heap := hP
  have hl := lv_entry ([.ref h0, .int al, .int hg]) (n := 8) (Nat.le_of_ble_eq_true rfl)
  rw [lg_entry_eq]
  generalize (lg_sl ([.ref h0, .int al, .int hg]) ++ List.replicate (8 - (lg_sl ([.ref h0, .int al, .int hg])).length) Slot.unset).toArray = ls at hl ⊢
  have hl : lv_has ls 8 [(0, .ref h0), (1, .int al), (2, .int hg)] := hl
  clear hts0 hD0 hAe
  refine my_abs (fun R Q hR hQ => ?_)
  refine lv_iconst (v := (-1)) hx hb dX5_boxSide_0 (by decide) ?_
  refine lv_istore_n (lv' := [(3, .int (-1)), (0, .ref h0), (1, .int al), (2, .int hg)]) hx hb dX5_boxSide_1 rfl hl (by decide) rfl (fun ls hl => ?_)
  refine lv_iconst (v := (-1)) hx hb dX5_boxSide_2 (by decide) ?_
  refine lv_istore (lv' := [(4, .int (-1)), (3, .int (-1)), (0, .ref h0), (1, .int al), (2, .int hg)]) hx hb dX5_boxSide_3 hl (by decide) rfl (fun ls hl => ?_)
  refine lv_iconst (v := 0) hx hb dX5_boxSide_5 (by decide) ?_
  refine lv_istore (lv' := [(5, .int 0), (4, .int (-1)), (3, .int (-1)), (0, .ref h0), (1, .int al), (2, .int hg)]) hx hb dX5_boxSide_6 hl (by decide) rfl (fun ls hl => ?_)
  have loop_1 : ∀ (n : Nat) (j : Nat) (x5 : Int32) (x3 : Int32) (x4 : Int32) (H : Heap) (locs : List Loc) (ls : Array Slot), (j ≤ 64) → (64 + 1 ≤ j + n) → (x5 = nI j) → va_P D vwCl [(h0, .inr (5, [.ref d0, .int w, .int h])), (d0, .inl (cI, 4096, .inl g))] H → va_D A [(h0, .inr (5, [.ref d0, .int w, .int h])), (d0, .inl (cI, 4096, .inl g))] → va_S A s.heap H locs → lv_has ls 8 [(5, .int x5), (4, .int x4), (3, .int x3), (0, .ref h0), (1, .int al), (2, .int hg)] → W p l e R s m ([.ref h0, .int al, .int hg] : List Value).toArray below meth c H locs 0 0 Q (F0 m 8 ls []) := by
    intro n
    induction n with
    | zero =>
      intro j x5 x3 x4 H locs ls hi_j hm_j ex_j hP hD hS hl
      exact absurd (show False by omega) not_false
    | succ n ih_2 =>
      intro j x5 x3 x4 H locs ls hi_j hm_j ex_j hP hD hS hl
      have hx_j : x5.toInt = (j : Int) := by rw [ex_j]; exact nI_toInt (by omega)
      have hc_j : x5.toNatClampNeg = j := by rw [ex_j]; exact nI_clamp (by omega)
      refine lv_iload hx hb dX5_boxSide_8 (lv_at hl 0 rfl) ?_
      refine lv_aload_n hx hb dX5_boxSide_10 rfl (lv_at hl 3 rfl) ?_
      refine va_get (D := D) (ci := 5) (v := .int h) (C := RX5) (T := TX5) (N := 3) hx hb hts hi_X5 hown hK hP 0 rfl rfl 2 (by decide) (hts _ bw_137) (fun _ h9 => h9) rfl dX5_boxSide_11 ?_
      refine lv_icmp_ge (tgt := 96) hx hb dX5_boxSide_14 (by decide) (fun c_3 => ?_) (fun c_3 => ?_)
      · skip
        have f_4 : h.toInt ≤ (j : Int) := f_le rfl hx_j c_3
        refine lv_iload_n hx hb dX5_boxSide_96 rfl (lv_at hl 5 rfl) ?_
        refine lv_if_eq (tgt := 105) hx hb dX5_boxSide_97 (by decide) (fun c_5 => ?_) (fun c_5 => ?_)
        · skip
          have f_6 : hg.toInt = 0 := f_eq rfl (by decide) c_5
          refine lv_iload_n hx hb dX5_boxSide_105 rfl (lv_at hl 2 rfl) ?_
          have hP9 := hP.sub (ws' := [(h0, .inr (5, [.ref d0, .int w, .int h])), (d0, .inl (cI, 4096, .inl g))]) [0, 1] rfl
          have hD9 := hD.sub (ws' := [(h0, .inr (5, [.ref d0, .int w, .int h])), (d0, .inl (cI, 4096, .inl g))]) [0, 1] (by decide) rfl
          have hK9 := hK.sub (tys' := [(cI, .int)]) [0] rfl
          refine hQ _ _ _ _ _ ?_
          exact W.iret (v := x3) hx hb hr (fun t ht hW => ⟨⟨x3, (), rfl, trivial, ⟨by rw [ht]; exact hP9, va_K.moved hW.alike hK9, hD9⟩⟩, hS.F ht⟩) hS.2.2 dX5_boxSide_106
        · skip
          have f_6 : ¬ (hg.toInt = 0) := fn_eq rfl (by decide) c_5
          refine lv_iload hx hb dX5_boxSide_100 (lv_at hl 1 rfl) ?_
          refine lv_goto (tgt := 106) hx hb dX5_boxSide_102 (by decide) ?_
          have hP9 := hP.sub (ws' := [(h0, .inr (5, [.ref d0, .int w, .int h])), (d0, .inl (cI, 4096, .inl g))]) [0, 1] rfl
          have hD9 := hD.sub (ws' := [(h0, .inr (5, [.ref d0, .int w, .int h])), (d0, .inl (cI, 4096, .inl g))]) [0, 1] (by decide) rfl
          have hK9 := hK.sub (tys' := [(cI, .int)]) [0] rfl
          refine hQ _ _ _ _ _ ?_
          exact W.iret (v := x4) hx hb hr (fun t ht hW => ⟨⟨x4, (), rfl, trivial, ⟨by rw [ht]; exact hP9, va_K.moved hW.alike hK9, hD9⟩⟩, hS.F ht⟩) hS.2.2 dX5_boxSide_106
      · skip
        have f_4 : ¬ (h.toInt ≤ (j : Int)) := fn_le rfl hx_j c_3
        refine lv_iconst (v := 0) hx hb dX5_boxSide_17 (by decide) ?_
        refine lv_istore (lv' := [(6, .int 0), (5, .int x5), (4, .int x4), (3, .int x3), (0, .ref h0), (1, .int al), (2, .int hg)]) hx hb dX5_boxSide_18 hl (by decide) rfl (fun ls hl => ?_)
        have loop_7 : ∀ (n : Nat) (i : Nat) (x6 : Int32) (z3 : Int32) (z4 : Int32) (H : Heap) (locs : List Loc) (ls : Array Slot), (i ≤ 64) → (64 + 1 ≤ i + n) → (x6 = nI i) → va_P D vwCl [(h0, .inr (5, [.ref d0, .int w, .int h])), (d0, .inl (cI, 4096, .inl g))] H → va_D A [(h0, .inr (5, [.ref d0, .int w, .int h])), (d0, .inl (cI, 4096, .inl g))] → va_S A s.heap H locs → lv_has ls 8 [(6, .int x6), (5, .int x5), (4, .int z4), (3, .int z3), (0, .ref h0), (1, .int al), (2, .int hg)] → W p l e R s m ([.ref h0, .int al, .int hg] : List Value).toArray below meth c H locs 0 0 Q (F0 m 20 ls []) := by
          intro n
          induction n with
          | zero =>
            intro i x6 z3 z4 H locs ls hi_i hm_i ex_i hP hD hS hl
            exact absurd (show False by omega) not_false
          | succ n ih_8 =>
            intro i x6 z3 z4 H locs ls hi_i hm_i ex_i hP hD hS hl
            have hx_i : x6.toInt = (i : Int) := by rw [ex_i]; exact nI_toInt (by omega)
            have hc_i : x6.toNatClampNeg = i := by rw [ex_i]; exact nI_clamp (by omega)
            refine lv_iload hx hb dX5_boxSide_20 (lv_at hl 0 rfl) ?_
            refine lv_aload_n hx hb dX5_boxSide_22 rfl (lv_at hl 4 rfl) ?_
            refine va_get (D := D) (ci := 5) (v := .int w) (C := RX5) (T := TX5) (N := 3) hx hb hts hi_X5 hown hK hP 0 rfl rfl 1 (by decide) (hts _ bw_136) (fun _ h9 => h9) rfl dX5_boxSide_23 ?_
            refine lv_icmp_ge (tgt := 90) hx hb dX5_boxSide_26 (by decide) (fun c_9 => ?_) (fun c_9 => ?_)
            · skip
              have f_10 : w.toInt ≤ (i : Int) := f_le rfl hx_i c_9
              obtain ⟨y_11, ey_11⟩ : ∃ y : Int32, y = x5 + 1 := ⟨_, rfl⟩
              refine lv_iinc (v := y_11) (lv' := [(5, .int y_11), (6, .int x6), (4, .int z4), (3, .int z3), (0, .ref h0), (1, .int al), (2, .int hg)]) hx hb dX5_boxSide_90 hl (k := 1) rfl (by rw [ey_11]; rfl) (by decide) rfl (fun ls hl => ?_)
              refine lv_goto (tgt := 8) hx hb dX5_boxSide_93 (by decide) ?_
              exact ih_2 (j + 1) y_11 z3 z4 _ _ _ (by omega) (by omega) (by rw [ey_11, ex_j]; exact nI_1 j) (hP.sub (ws' := [(h0, .inr (5, [.ref d0, .int w, .int h])), (d0, .inl (cI, 4096, .inl g))]) [0, 1] rfl) (hD.sub (ws' := [(h0, .inr (5, [.ref d0, .int w, .int h])), (d0, .inl (cI, 4096, .inl g))]) [0, 1] (by decide) rfl) hS (lv_sub hl [0, 2, 3, 4, 5, 6] rfl)
            · skip
              have f_10 : ¬ (w.toInt ≤ (i : Int)) := fn_le rfl hx_i c_9
              refine lv_aload_n hx hb dX5_boxSide_29 rfl (lv_at hl 4 rfl) ?_
              refine lv_iload hx hb dX5_boxSide_30 (lv_at hl 0 rfl) ?_
              refine lv_iload hx hb dX5_boxSide_32 (lv_at hl 1 rfl) ?_
              have hPc := hP.sub (ws' := [(h0, .inr (5, [.ref d0, .int w, .int h])), (d0, .inl (cI, 4096, .inl g))]) [0, 1] rfl
              have hDc := hD.sub (ws' := [(h0, .inr (5, [.ref d0, .int w, .int h])), (d0, .inl (cI, 4096, .inl g))]) [0, 1] (by decide) rfl
              have hKc := hK.sub (tys' := [(cI, .int)]) [0] rfl
              have hFc := va_free (wc := [(h0, .inr (5, [.ref d0, .int w, .int h])), (d0, .inl (cI, 4096, .inl g))]) hD hS hA [0, 1] rfl
              refine va_calli (va_runV (As := [.int x6, .int x5]) (rest := []) ⟨hx, hb, hml, hown, hts⟩ (k_X5_at l D H.size h0 d0 w h g x6 x5 cI (by first | assumption | omega | decide) (by first | assumption | omega | decide)) (cwV 2 hts (gV bw_162 bw_153 bw_154 bw_130 bw_152) rfl rfl rfl (by decide +kernel) ⟨(by rw [hR]; exact Nat.le_of_ble_eq_true rfl), (by rw [hR]; exact Nat.le_of_ble_eq_true rfl)⟩) ⟨cP_blind, va_recv hKc hPc (ci := 5) (q0 := 0) rfl rfl, cP_at hPc hKc hDc hN⟩ rfl rfl hl.1 rfl (lv_room (Nat.le_of_ble_eq_true rfl)) dX5_boxSide_34 ⟨(by rw [hR]; exact Nat.le_of_ble_eq_true rfl), (by rw [hR]; exact Nat.le_of_ble_eq_true rfl)⟩) hS (fun q _ h => hFc q h) hFc (fun r_12 u9 t9 H1 locs ht hvm hr_12 hB hz1 hk1 hS => ?_)
              try dsimp only at hr_12
              obtain ⟨hP1, hK1, hD1⟩ := hB
              rw [ht] at hP1
              obtain ⟨hP, hD⟩ := va_join (wr := []) (w1 := [(h0, .inr (5, [.ref d0, .int w, .int h])), (d0, .inl (cI, 4096, .inl g))]) hP hD [0, 1] [] rfl rfl (by decide) (by decide) hk1 hFc hP1 hD1
              clear hz1 hk1 hFc hKc hDc hPc
              generalize H1 = H at hP hS ⊢
              have hP : va_P D vwCl [(h0, .inr (5, [.ref d0, .int w, .int h])), (d0, .inl (cI, 4096, .inl g))] H := hP
              have hD : va_D A [(h0, .inr (5, [.ref d0, .int w, .int h])), (d0, .inl (cI, 4096, .inl g))] := hD
              refine lv_bipush (v := 24) hx hb dX5_boxSide_37 (by decide) ?_
              have hPc := hP.sub (ws' := []) [] rfl
              have hDc := hD.sub (ws' := []) [] (by decide) rfl
              have hKc := hK.sub (tys' := []) [] rfl
              have hFc := va_free (wc := []) hD hS hA [] rfl
              refine va_calli (va_runSN (host := RX8) (As := [.int r_12, .int 24]) (rest := []) ⟨hx, hb, hml, hown, hts⟩ (k_X8_channel l D H.size r_12 24) ⟨va_cnB 2 hts (gI bw_360) rfl rfl rfl (hN.2.1 (RX5, 42, yX8_channel, RX8) (by decide +kernel)) (hts _ bw_223) (by decide +kernel) ⟨(by rw [hR]; exact Nat.le_of_ble_eq_true rfl), (by rw [hR]; exact Nat.le_of_ble_eq_true rfl)⟩, (hts _ bw_361), trivial⟩ ⟨cP_blind, cP_at hPc hKc hDc hN⟩ rfl rfl hl.1 rfl (lv_room (Nat.le_of_ble_eq_true rfl)) dX5_boxSide_39 ⟨(by rw [hR]; exact Nat.le_of_ble_eq_true rfl), (by rw [hR]; exact Nat.le_of_ble_eq_true rfl)⟩) hS (fun q _ h => hFc q h) hFc (fun r_13 u9 t9 H1 locs ht hvm hr_13 hB hz1 hk1 hS => ?_)
              try dsimp only at hr_13
              have hP1 : va_P D vwCl [] H1 := vP_nil
              have hD1 : va_D (va_A [] H.size) [] := vD_nil
              obtain ⟨hP, hD⟩ := va_join (wr := [(h0, .inr (5, [.ref d0, .int w, .int h])), (d0, .inl (cI, 4096, .inl g))]) (w1 := []) hP hD [] [0, 1] rfl rfl (by decide) (by decide) hk1 hFc hP1 hD1
              clear hz1 hk1 hFc hKc hDc hPc
              generalize H1 = H at hP hS ⊢
              have hP : va_P D vwCl [(h0, .inr (5, [.ref d0, .int w, .int h])), (d0, .inl (cI, 4096, .inl g))] H := hP
              have hD : va_D A [(h0, .inr (5, [.ref d0, .int w, .int h])), (d0, .inl (cI, 4096, .inl g))] := hD
              refine lv_if_eq (tgt := 84) hx hb dX5_boxSide_42 (by decide) (fun c_14 => ?_) (fun c_14 => ?_)
              · skip
                have f_15 : r_13.toInt = 0 := f_eq rfl (by decide) c_14
                obtain ⟨y_16, ey_16⟩ : ∃ y : Int32, y = x6 + 1 := ⟨_, rfl⟩
                refine lv_iinc (v := y_16) (lv' := [(6, .int y_16), (5, .int x5), (4, .int z4), (3, .int z3), (0, .ref h0), (1, .int al), (2, .int hg)]) hx hb dX5_boxSide_84 hl (k := 0) rfl (by rw [ey_16]; rfl) (by decide) rfl (fun ls hl => ?_)
                refine lv_goto (tgt := 20) hx hb dX5_boxSide_87 (by decide) ?_
                exact ih_8 (i + 1) y_16 z3 z4 _ _ _ (by omega) (by omega) (by rw [ey_16, ex_i]; exact nI_1 i) (hP.sub (ws' := [(h0, .inr (5, [.ref d0, .int w, .int h])), (d0, .inl (cI, 4096, .inl g))]) [0, 1] rfl) (hD.sub (ws' := [(h0, .inr (5, [.ref d0, .int w, .int h])), (d0, .inl (cI, 4096, .inl g))]) [0, 1] (by decide) rfl) hS (lv_sub hl [0, 1, 2, 3, 4, 5, 6] rfl)
              · skip
                have f_15 : ¬ (r_13.toInt = 0) := fn_eq rfl (by decide) c_14
                refine lv_iload_n hx hb dX5_boxSide_45 rfl (lv_at hl 5 rfl) ?_
                refine lv_if_eq (tgt := 54) hx hb dX5_boxSide_46 (by decide) (fun c_17 => ?_) (fun c_17 => ?_)
                · skip
                  have f_18 : al.toInt = 0 := f_eq rfl (by decide) c_17
                  refine lv_iload hx hb dX5_boxSide_54 (lv_at hl 1 rfl) ?_
                  refine lv_istore (lv' := [(7, .int x5), (6, .int x6), (5, .int x5), (4, .int z4), (3, .int z3), (0, .ref h0), (1, .int al), (2, .int hg)]) hx hb dX5_boxSide_56 hl (by decide) rfl (fun ls hl => ?_)
                  refine lv_iload_n hx hb dX5_boxSide_58 rfl (lv_at hl 4 rfl) ?_
                  refine lv_iconst (v := (-1)) hx hb dX5_boxSide_59 (by decide) ?_
                  refine lv_icmp_ne (tgt := 68) hx hb dX5_boxSide_60 (by decide) (fun c_19 => ?_) (fun c_19 => ?_)
                  · skip
                    have f_20 : ¬ (z3.toInt = (-1)) := fn_eq rfl (by decide) c_19
                    refine lv_iload_n hx hb dX5_boxSide_68 rfl (lv_at hl 4 rfl) ?_
                    refine lv_iload hx hb dX5_boxSide_69 (lv_at hl 0 rfl) ?_
                    refine va_mmin hx hb (by rw [hml]; exact hl.1.symm) hown (hts _ bw_166) (hts _ bw_46) (hts _ bw_47) (hts _ bw_48) (by rw [hR]; exact Nat.le_of_ble_eq_true rfl) (by rw [hR]; exact Nat.le_of_ble_eq_true rfl) (by rw [hR]; exact Nat.le_of_ble_eq_true rfl) (by rw [hR]; exact Nat.le_of_ble_eq_true rfl) dX5_boxSide_71 ?_
                    refine lv_topi (fun y_21 ey_21 => ?_)
                    refine lv_istore_n (lv' := [(3, .int y_21), (7, .int x5), (6, .int x6), (5, .int x5), (4, .int z4), (0, .ref h0), (1, .int al), (2, .int hg)]) hx hb dX5_boxSide_74 rfl hl (by decide) rfl (fun ls hl => ?_)
                    refine lv_iload hx hb dX5_boxSide_75 (lv_at hl 4 rfl) ?_
                    refine lv_iload hx hb dX5_boxSide_77 (lv_at hl 1 rfl) ?_
                    refine va_mmax hx hb (by rw [hml]; exact hl.1.symm) hown (hts _ bw_167) (hts _ bw_99) (hts _ bw_47) (hts _ bw_100) (by rw [hR]; exact Nat.le_of_ble_eq_true rfl) (by rw [hR]; exact Nat.le_of_ble_eq_true rfl) (by rw [hR]; exact Nat.le_of_ble_eq_true rfl) (by rw [hR]; exact Nat.le_of_ble_eq_true rfl) dX5_boxSide_79 ?_
                    refine lv_topi (fun y_22 ey_22 => ?_)
                    refine lv_istore (lv' := [(4, .int y_22), (3, .int y_21), (7, .int x5), (6, .int x6), (5, .int x5), (0, .ref h0), (1, .int al), (2, .int hg)]) hx hb dX5_boxSide_82 hl (by decide) rfl (fun ls hl => ?_)
                    obtain ⟨y_23, ey_23⟩ : ∃ y : Int32, y = x6 + 1 := ⟨_, rfl⟩
                    refine lv_iinc (v := y_23) (lv' := [(6, .int y_23), (4, .int y_22), (3, .int y_21), (7, .int x5), (5, .int x5), (0, .ref h0), (1, .int al), (2, .int hg)]) hx hb dX5_boxSide_84 hl (k := 3) rfl (by rw [ey_23]; rfl) (by decide) rfl (fun ls hl => ?_)
                    refine lv_goto (tgt := 20) hx hb dX5_boxSide_87 (by decide) ?_
                    exact ih_8 (i + 1) y_23 y_21 y_22 _ _ _ (by omega) (by omega) (by rw [ey_23, ex_i]; exact nI_1 i) (hP.sub (ws' := [(h0, .inr (5, [.ref d0, .int w, .int h])), (d0, .inl (cI, 4096, .inl g))]) [0, 1] rfl) (hD.sub (ws' := [(h0, .inr (5, [.ref d0, .int w, .int h])), (d0, .inl (cI, 4096, .inl g))]) [0, 1] (by decide) rfl) hS (lv_sub hl [0, 4, 1, 2, 5, 6, 7] rfl)
                  · skip
                    have f_20 : z3.toInt = (-1) := f_eq rfl (by decide) c_19
                    refine lv_iload hx hb dX5_boxSide_63 (lv_at hl 0 rfl) ?_
                    refine lv_goto (tgt := 74) hx hb dX5_boxSide_65 (by decide) ?_
                    refine lv_istore_n (lv' := [(3, .int x5), (7, .int x5), (6, .int x6), (5, .int x5), (4, .int z4), (0, .ref h0), (1, .int al), (2, .int hg)]) hx hb dX5_boxSide_74 rfl hl (by decide) rfl (fun ls hl => ?_)
                    refine lv_iload hx hb dX5_boxSide_75 (lv_at hl 4 rfl) ?_
                    refine lv_iload hx hb dX5_boxSide_77 (lv_at hl 1 rfl) ?_
                    refine va_mmax hx hb (by rw [hml]; exact hl.1.symm) hown (hts _ bw_167) (hts _ bw_99) (hts _ bw_47) (hts _ bw_100) (by rw [hR]; exact Nat.le_of_ble_eq_true rfl) (by rw [hR]; exact Nat.le_of_ble_eq_true rfl) (by rw [hR]; exact Nat.le_of_ble_eq_true rfl) (by rw [hR]; exact Nat.le_of_ble_eq_true rfl) dX5_boxSide_79 ?_
                    refine lv_topi (fun y_24 ey_24 => ?_)
                    refine lv_istore (lv' := [(4, .int y_24), (3, .int x5), (7, .int x5), (6, .int x6), (5, .int x5), (0, .ref h0), (1, .int al), (2, .int hg)]) hx hb dX5_boxSide_82 hl (by decide) rfl (fun ls hl => ?_)
                    obtain ⟨y_25, ey_25⟩ : ∃ y : Int32, y = x6 + 1 := ⟨_, rfl⟩
                    refine lv_iinc (v := y_25) (lv' := [(6, .int y_25), (4, .int y_24), (3, .int x5), (7, .int x5), (5, .int x5), (0, .ref h0), (1, .int al), (2, .int hg)]) hx hb dX5_boxSide_84 hl (k := 3) rfl (by rw [ey_25]; rfl) (by decide) rfl (fun ls hl => ?_)
                    refine lv_goto (tgt := 20) hx hb dX5_boxSide_87 (by decide) ?_
                    exact ih_8 (i + 1) y_25 x5 y_24 _ _ _ (by omega) (by omega) (by rw [ey_25, ex_i]; exact nI_1 i) (hP.sub (ws' := [(h0, .inr (5, [.ref d0, .int w, .int h])), (d0, .inl (cI, 4096, .inl g))]) [0, 1] rfl) (hD.sub (ws' := [(h0, .inr (5, [.ref d0, .int w, .int h])), (d0, .inl (cI, 4096, .inl g))]) [0, 1] (by decide) rfl) hS (lv_sub hl [0, 4, 1, 2, 5, 6, 7] rfl)
                · skip
                  have f_18 : ¬ (al.toInt = 0) := fn_eq rfl (by decide) c_17
                  refine lv_iload hx hb dX5_boxSide_49 (lv_at hl 0 rfl) ?_
                  refine lv_goto (tgt := 56) hx hb dX5_boxSide_51 (by decide) ?_
                  refine lv_istore (lv' := [(7, .int x6), (6, .int x6), (5, .int x5), (4, .int z4), (3, .int z3), (0, .ref h0), (1, .int al), (2, .int hg)]) hx hb dX5_boxSide_56 hl (by decide) rfl (fun ls hl => ?_)
                  refine lv_iload_n hx hb dX5_boxSide_58 rfl (lv_at hl 4 rfl) ?_
                  refine lv_iconst (v := (-1)) hx hb dX5_boxSide_59 (by decide) ?_
                  refine lv_icmp_ne (tgt := 68) hx hb dX5_boxSide_60 (by decide) (fun c_26 => ?_) (fun c_26 => ?_)
                  · skip
                    have f_27 : ¬ (z3.toInt = (-1)) := fn_eq rfl (by decide) c_26
                    refine lv_iload_n hx hb dX5_boxSide_68 rfl (lv_at hl 4 rfl) ?_
                    refine lv_iload hx hb dX5_boxSide_69 (lv_at hl 0 rfl) ?_
                    refine va_mmin hx hb (by rw [hml]; exact hl.1.symm) hown (hts _ bw_166) (hts _ bw_46) (hts _ bw_47) (hts _ bw_48) (by rw [hR]; exact Nat.le_of_ble_eq_true rfl) (by rw [hR]; exact Nat.le_of_ble_eq_true rfl) (by rw [hR]; exact Nat.le_of_ble_eq_true rfl) (by rw [hR]; exact Nat.le_of_ble_eq_true rfl) dX5_boxSide_71 ?_
                    refine lv_topi (fun y_28 ey_28 => ?_)
                    refine lv_istore_n (lv' := [(3, .int y_28), (7, .int x6), (6, .int x6), (5, .int x5), (4, .int z4), (0, .ref h0), (1, .int al), (2, .int hg)]) hx hb dX5_boxSide_74 rfl hl (by decide) rfl (fun ls hl => ?_)
                    refine lv_iload hx hb dX5_boxSide_75 (lv_at hl 4 rfl) ?_
                    refine lv_iload hx hb dX5_boxSide_77 (lv_at hl 1 rfl) ?_
                    refine va_mmax hx hb (by rw [hml]; exact hl.1.symm) hown (hts _ bw_167) (hts _ bw_99) (hts _ bw_47) (hts _ bw_100) (by rw [hR]; exact Nat.le_of_ble_eq_true rfl) (by rw [hR]; exact Nat.le_of_ble_eq_true rfl) (by rw [hR]; exact Nat.le_of_ble_eq_true rfl) (by rw [hR]; exact Nat.le_of_ble_eq_true rfl) dX5_boxSide_79 ?_
                    refine lv_topi (fun y_29 ey_29 => ?_)
                    refine lv_istore (lv' := [(4, .int y_29), (3, .int y_28), (7, .int x6), (6, .int x6), (5, .int x5), (0, .ref h0), (1, .int al), (2, .int hg)]) hx hb dX5_boxSide_82 hl (by decide) rfl (fun ls hl => ?_)
                    obtain ⟨y_30, ey_30⟩ : ∃ y : Int32, y = x6 + 1 := ⟨_, rfl⟩
                    refine lv_iinc (v := y_30) (lv' := [(6, .int y_30), (4, .int y_29), (3, .int y_28), (7, .int x6), (5, .int x5), (0, .ref h0), (1, .int al), (2, .int hg)]) hx hb dX5_boxSide_84 hl (k := 3) rfl (by rw [ey_30]; rfl) (by decide) rfl (fun ls hl => ?_)
                    refine lv_goto (tgt := 20) hx hb dX5_boxSide_87 (by decide) ?_
                    exact ih_8 (i + 1) y_30 y_28 y_29 _ _ _ (by omega) (by omega) (by rw [ey_30, ex_i]; exact nI_1 i) (hP.sub (ws' := [(h0, .inr (5, [.ref d0, .int w, .int h])), (d0, .inl (cI, 4096, .inl g))]) [0, 1] rfl) (hD.sub (ws' := [(h0, .inr (5, [.ref d0, .int w, .int h])), (d0, .inl (cI, 4096, .inl g))]) [0, 1] (by decide) rfl) hS (lv_sub hl [0, 4, 1, 2, 5, 6, 7] rfl)
                  · skip
                    have f_27 : z3.toInt = (-1) := f_eq rfl (by decide) c_26
                    refine lv_iload hx hb dX5_boxSide_63 (lv_at hl 0 rfl) ?_
                    refine lv_goto (tgt := 74) hx hb dX5_boxSide_65 (by decide) ?_
                    refine lv_istore_n (lv' := [(3, .int x6), (7, .int x6), (6, .int x6), (5, .int x5), (4, .int z4), (0, .ref h0), (1, .int al), (2, .int hg)]) hx hb dX5_boxSide_74 rfl hl (by decide) rfl (fun ls hl => ?_)
                    refine lv_iload hx hb dX5_boxSide_75 (lv_at hl 4 rfl) ?_
                    refine lv_iload hx hb dX5_boxSide_77 (lv_at hl 1 rfl) ?_
                    refine va_mmax hx hb (by rw [hml]; exact hl.1.symm) hown (hts _ bw_167) (hts _ bw_99) (hts _ bw_47) (hts _ bw_100) (by rw [hR]; exact Nat.le_of_ble_eq_true rfl) (by rw [hR]; exact Nat.le_of_ble_eq_true rfl) (by rw [hR]; exact Nat.le_of_ble_eq_true rfl) (by rw [hR]; exact Nat.le_of_ble_eq_true rfl) dX5_boxSide_79 ?_
                    refine lv_topi (fun y_31 ey_31 => ?_)
                    refine lv_istore (lv' := [(4, .int y_31), (3, .int x6), (7, .int x6), (6, .int x6), (5, .int x5), (0, .ref h0), (1, .int al), (2, .int hg)]) hx hb dX5_boxSide_82 hl (by decide) rfl (fun ls hl => ?_)
                    obtain ⟨y_32, ey_32⟩ : ∃ y : Int32, y = x6 + 1 := ⟨_, rfl⟩
                    refine lv_iinc (v := y_32) (lv' := [(6, .int y_32), (4, .int y_31), (3, .int x6), (7, .int x6), (5, .int x5), (0, .ref h0), (1, .int al), (2, .int hg)]) hx hb dX5_boxSide_84 hl (k := 3) rfl (by rw [ey_32]; rfl) (by decide) rfl (fun ls hl => ?_)
                    refine lv_goto (tgt := 20) hx hb dX5_boxSide_87 (by decide) ?_
                    exact ih_8 (i + 1) y_32 x6 y_31 _ _ _ (by omega) (by omega) (by rw [ey_32, ex_i]; exact nI_1 i) (hP.sub (ws' := [(h0, .inr (5, [.ref d0, .int w, .int h])), (d0, .inl (cI, 4096, .inl g))]) [0, 1] rfl) (hD.sub (ws' := [(h0, .inr (5, [.ref d0, .int w, .int h])), (d0, .inl (cI, 4096, .inl g))]) [0, 1] (by decide) rfl) hS (lv_sub hl [0, 4, 1, 2, 5, 6, 7] rfl)
        exact loop_7 (64 + 1) 0 0 x3 x4 _ _ _ (by omega) (by omega) nI_0.symm hP hD hS (lv_sub hl [0, 1, 2, 3, 4, 5, 6] rfl)
  exact loop_1 (64 + 1) 0 0 (-1) (-1) _ _ _ (by omega) (by omega) nI_0.symm hP hD hS (lv_sub hl [0, 1, 2, 3, 4, 5] rfl)

set_option maxHeartbeats 4000000 in
set_option maxRecDepth 100000 in
theorem k_X8_dot_y (l : Launch) (D : va_G) (sz : Nat) (h0 s1 s2 s3 s4 s5 s6 : Nat) (ds : Int32) (sp bt : Option Nat) (f : Nat → Option Nat) (t0 d0 : Nat) (w h : Int32) (g : Nat → Int32) (k x y : Int32) (cO : ClassId) (cI : ClassId) (hk : 0 ≤ k.toInt ∧ k.toInt ≤ 3) (hf : f k.toNatClampNeg = some t0) (hw : w.toInt ≤ 64) (hh : h.toInt ≤ 64) : Met l yX8_dot (wB yX8_dot cX8_dot 5 (some .int)) ({ frames := 2, cells := 0, slots := 0, locals := 44 }) (cP D [(h0, .inr (8, [.ref s1, .ref s2, .ref s3, .ref s4, .ref s5, .ref s6, .int ds, va_rf sp, va_rf bt])), (s1, .inl (cO, 4, .inr (.inr (.inr (.inr f))))), (t0, .inr (5, [.ref d0, .int w, .int h])), (d0, .inl (cI, 4096, .inl g))] [(cO, .object "DotBench$Sheet"), (cI, .int)] sz [.ref h0, .int k, .int x, .int y]) (va_Qi (fun (r : Int32) (_ : Unit) => r = if 0 ≤ x.toInt ∧ x.toInt < w.toInt ∧ 0 ≤ y.toInt ∧ y.toInt < h.toInt then g (ixP x y) else 0) (fun (_ : Unit) (t : State) => cB D (va_A [(h0, .inr (8, [.ref s1, .ref s2, .ref s3, .ref s4, .ref s5, .ref s6, .int ds, va_rf sp, va_rf bt])), (s1, .inl (cO, 4, .inr (.inr (.inr (.inr f))))), (t0, .inr (5, [.ref d0, .int w, .int h])), (d0, .inl (cI, 4096, .inl g))] sz) [(h0, .inr (8, [.ref s1, .ref s2, .ref s3, .ref s4, .ref s5, .ref s6, .int ds, va_rf sp, va_rf bt])), (s1, .inl (cO, 4, .inr (.inr (.inr (.inr f))))), (t0, .inr (5, [.ref d0, .int w, .int h])), (d0, .inl (cI, 4096, .inl g))] [(cO, .object "DotBench$Sheet"), (cI, .int)] t) (va_A [(h0, .inr (8, [.ref s1, .ref s2, .ref s3, .ref s4, .ref s5, .ref s6, .int ds, va_rf sp, va_rf bt])), (s1, .inl (cO, 4, .inr (.inr (.inr (.inr f))))), (t0, .inr (5, [.ref d0, .int w, .int h])), (d0, .inl (cI, 4096, .inl g))] sz)) 0 0 (va_A [(h0, .inr (8, [.ref s1, .ref s2, .ref s3, .ref s4, .ref s5, .ref s6, .int ds, va_rf sp, va_rf bt])), (s1, .inl (cO, 4, .inr (.inr (.inr (.inr f))))), (t0, .inr (5, [.ref d0, .int w, .int h])), (d0, .inl (cI, 4096, .inl g))] sz) := by
  refine Met.ofW (cc := cX8_dot) (maxL := 5) (ret := (some .int)) (by decide) rfl ?_
  intro p e s m args below meth c s₁ B hml hv
  obtain ⟨rfl, hsz, hP, hK, hD0, hN⟩ := hv
  have hx := B.exec
  have hb := B.bytes
  have hr := B.returns
  have hts0 := atoms_spec (ws := (wB yX8_dot cX8_dot 5 (some .int))) B.pre
  have hts : ∀ w ∈ bigW, w.before _ s = true := fun w h => hts0 w (List.mem_cons_of_mem _ h)
  have hown : s.vm.findClass RX8 = some m.cls := findClass_of_methodNamed B.named
  have hlocks := B.notSynchronized
  subst hsz
  have hD := hD0.self (sz := s.heap.size)
  generalize hAe : va_A [(h0, .inr (8, [.ref s1, .ref s2, .ref s3, .ref s4, .ref s5, .ref s6, .int ds, va_rf sp, va_rf bt])), (s1, .inl (cO, 4, .inr (.inr (.inr (.inr f))))), (t0, .inr (5, [.ref d0, .int w, .int h])), (d0, .inl (cI, 4096, .inl g))] s.heap.size = A at hD ⊢
  have hA : ∀ q : Nat, s.heap.size ≤ q → A q := fun q h => by rw [← hAe]; exact Or.inr h
  have hS : va_S A s.heap s.heap [] := va_S.rf
  have hP : va_P D vwCl [(h0, .inr (8, [.ref s1, .ref s2, .ref s3, .ref s4, .ref s5, .ref s6, .int ds, va_rf sp, va_rf bt])), (s1, .inl (cO, 4, .inr (.inr (.inr (.inr f))))), (t0, .inr (5, [.ref d0, .int w, .int h])), (d0, .inl (cI, 4096, .inl g))] s.heap := hP
  have hl := lv_entry ([.ref h0, .int k, .int x, .int y]) (n := 5) (Nat.le_of_ble_eq_true rfl)
  rw [lg_entry_eq]
  generalize (lg_sl ([.ref h0, .int k, .int x, .int y]) ++ List.replicate (5 - (lg_sl ([.ref h0, .int k, .int x, .int y])).length) Slot.unset).toArray = ls at hl ⊢
  have hl : lv_has ls 5 [(0, .ref h0), (1, .int k), (2, .int x), (3, .int y)] := hl
  clear hts0 hD0 hAe
  refine my_abs (fun R Q hR hQ => ?_)
  refine lv_aload_n hx hb dX8_dot_0 rfl (lv_at hl 0 rfl) ?_
  refine lv_iload_n hx hb dX8_dot_1 rfl (lv_at hl 1 rfl) ?_
  have hPc := hP.sub (ws' := [(h0, .inr (8, [.ref s1, .ref s2, .ref s3, .ref s4, .ref s5, .ref s6, .int ds, va_rf sp, va_rf bt])), (s1, .inl (cO, 4, .inr (.inr (.inr (.inr f)))))]) [0, 1] rfl
  have hDc := hD.sub (ws' := [(h0, .inr (8, [.ref s1, .ref s2, .ref s3, .ref s4, .ref s5, .ref s6, .int ds, va_rf sp, va_rf bt])), (s1, .inl (cO, 4, .inr (.inr (.inr (.inr f)))))]) [0, 1] (by decide) rfl
  have hKc := hK.sub (tys' := [(cO, .object "DotBench$Sheet")]) [0] rfl
  have hFc := va_free (wc := [(h0, .inr (8, [.ref s1, .ref s2, .ref s3, .ref s4, .ref s5, .ref s6, .int ds, va_rf sp, va_rf bt])), (s1, .inl (cO, 4, .inr (.inr (.inr (.inr f)))))]) hD hS hA [0, 1] rfl
  refine va_callq (va_runV (As := [.int k]) (rest := []) ⟨hx, hb, hml, hown, hts⟩ (k_X8_sheetAt_y l D s.heap.size h0 s1 s2 s3 s4 s5 s6 ds sp bt f k t0 cO (by first | assumption | omega | decide) (by first | assumption | omega | decide)) (cwV 1 hts (gV bw_267 bw_346 bw_347 bw_223 bw_345) rfl rfl rfl (by decide +kernel) ⟨(by rw [hR]; exact Nat.le_of_ble_eq_true rfl), (by rw [hR]; exact Nat.le_of_ble_eq_true rfl)⟩) ⟨cP_blind, va_recv hKc hPc (ci := 8) (q0 := 0) rfl rfl, cP_at hPc hKc hDc hN⟩ rfl rfl hl.1 rfl (lv_room (Nat.le_of_ble_eq_true rfl)) dX8_dot_2 ⟨(by rw [hR]; exact Nat.le_of_ble_eq_true rfl), (by rw [hR]; exact Nat.le_of_ble_eq_true rfl)⟩) hS (fun q _ h => hFc q h) hFc (fun r_1 u9 t9 H1 locs ht hvm hr_1 hB hz1 hk1 hS => ?_)
  try dsimp only at hr_1
  obtain ⟨hP1, hK1, hD1⟩ := hB
  rw [ht] at hP1
  obtain ⟨hP, hD⟩ := va_join (wr := [(t0, .inr (5, [.ref d0, .int w, .int h])), (d0, .inl (cI, 4096, .inl g))]) (w1 := [(h0, .inr (8, [.ref s1, .ref s2, .ref s3, .ref s4, .ref s5, .ref s6, .int ds, va_rf sp, va_rf bt])), (s1, .inl (cO, 4, .inr (.inr (.inr (.inr f)))))]) hP hD [0, 1] [2, 3] rfl rfl (by decide) (by decide) hk1 hFc hP1 hD1
  clear hz1 hk1 hFc hKc hDc hPc
  generalize H1 = H at hP hS ⊢
  have hP : va_P D vwCl [(t0, .inr (5, [.ref d0, .int w, .int h])), (d0, .inl (cI, 4096, .inl g)), (h0, .inr (8, [.ref s1, .ref s2, .ref s3, .ref s4, .ref s5, .ref s6, .int ds, va_rf sp, va_rf bt])), (s1, .inl (cO, 4, .inr (.inr (.inr (.inr f)))))] H := hP
  have hD : va_D A [(t0, .inr (5, [.ref d0, .int w, .int h])), (d0, .inl (cI, 4096, .inl g)), (h0, .inr (8, [.ref s1, .ref s2, .ref s3, .ref s4, .ref s5, .ref s6, .int ds, va_rf sp, va_rf bt])), (s1, .inl (cO, 4, .inr (.inr (.inr (.inr f)))))] := hD
  subst hr_1
  refine my_topv (v := .ref t0) rfl ?_
  refine lv_astore (lv' := [(4, .ref t0), (0, .ref h0), (1, .int k), (2, .int x), (3, .int y)]) hx hb dX8_dot_5 hl (by decide) rfl (fun ls hl => ?_)
  refine lv_aload hx hb dX8_dot_7 (lv_at hl 0 rfl) ?_
  refine lv_ifnonnull (tgt := 16) hx hb dX8_dot_9 (by decide) ?_
  refine lv_aload hx hb dX8_dot_16 (lv_at hl 0 rfl) ?_
  refine lv_iload_n hx hb dX8_dot_18 rfl (lv_at hl 3 rfl) ?_
  refine lv_iload_n hx hb dX8_dot_19 rfl (lv_at hl 4 rfl) ?_
  have hPc := hP.sub (ws' := [(t0, .inr (5, [.ref d0, .int w, .int h])), (d0, .inl (cI, 4096, .inl g))]) [0, 1] rfl
  have hDc := hD.sub (ws' := [(t0, .inr (5, [.ref d0, .int w, .int h])), (d0, .inl (cI, 4096, .inl g))]) [0, 1] (by decide) rfl
  have hKc := hK.sub (tys' := [(cI, .int)]) [1] rfl
  have hFc := va_free (wc := [(t0, .inr (5, [.ref d0, .int w, .int h])), (d0, .inl (cI, 4096, .inl g))]) hD hS hA [0, 1] rfl
  refine va_calli (va_runV (As := [.int x, .int y]) (rest := []) ⟨hx, hb, hml, hown, hts⟩ (k_X5_at l D H.size t0 d0 w h g x y cI (by first | assumption | omega | decide) (by first | assumption | omega | decide)) (cwV 2 hts (gV bw_325 bw_153 bw_154 bw_130 bw_152) rfl rfl rfl (by decide +kernel) ⟨(by rw [hR]; exact Nat.le_of_ble_eq_true rfl), (by rw [hR]; exact Nat.le_of_ble_eq_true rfl)⟩) ⟨cP_blind, va_recv hKc hPc (ci := 5) (q0 := 0) rfl rfl, cP_at hPc hKc hDc hN⟩ rfl rfl hl.1 rfl (lv_room (Nat.le_of_ble_eq_true rfl)) dX8_dot_20 ⟨(by rw [hR]; exact Nat.le_of_ble_eq_true rfl), (by rw [hR]; exact Nat.le_of_ble_eq_true rfl)⟩) hS (fun q _ h => hFc q h) hFc (fun r_2 u9 t9 H1 locs ht hvm hr_2 hB hz1 hk1 hS => ?_)
  try dsimp only at hr_2
  obtain ⟨hP1, hK1, hD1⟩ := hB
  rw [ht] at hP1
  obtain ⟨hP, hD⟩ := va_join (wr := [(h0, .inr (8, [.ref s1, .ref s2, .ref s3, .ref s4, .ref s5, .ref s6, .int ds, va_rf sp, va_rf bt])), (s1, .inl (cO, 4, .inr (.inr (.inr (.inr f)))))]) (w1 := [(t0, .inr (5, [.ref d0, .int w, .int h])), (d0, .inl (cI, 4096, .inl g))]) hP hD [0, 1] [2, 3] rfl rfl (by decide) (by decide) hk1 hFc hP1 hD1
  clear hz1 hk1 hFc hKc hDc hPc
  generalize H1 = H at hP hS ⊢
  have hP : va_P D vwCl [(h0, .inr (8, [.ref s1, .ref s2, .ref s3, .ref s4, .ref s5, .ref s6, .int ds, va_rf sp, va_rf bt])), (s1, .inl (cO, 4, .inr (.inr (.inr (.inr f))))), (t0, .inr (5, [.ref d0, .int w, .int h])), (d0, .inl (cI, 4096, .inl g))] H := hP
  have hD : va_D A [(h0, .inr (8, [.ref s1, .ref s2, .ref s3, .ref s4, .ref s5, .ref s6, .int ds, va_rf sp, va_rf bt])), (s1, .inl (cO, 4, .inr (.inr (.inr (.inr f))))), (t0, .inr (5, [.ref d0, .int w, .int h])), (d0, .inl (cI, 4096, .inl g))] := hD
  have hP9 := hP.sub (ws' := [(h0, .inr (8, [.ref s1, .ref s2, .ref s3, .ref s4, .ref s5, .ref s6, .int ds, va_rf sp, va_rf bt])), (s1, .inl (cO, 4, .inr (.inr (.inr (.inr f))))), (t0, .inr (5, [.ref d0, .int w, .int h])), (d0, .inl (cI, 4096, .inl g))]) [0, 1, 2, 3] rfl
  have hD9 := hD.sub (ws' := [(h0, .inr (8, [.ref s1, .ref s2, .ref s3, .ref s4, .ref s5, .ref s6, .int ds, va_rf sp, va_rf bt])), (s1, .inl (cO, 4, .inr (.inr (.inr (.inr f))))), (t0, .inr (5, [.ref d0, .int w, .int h])), (d0, .inl (cI, 4096, .inl g))]) [0, 1, 2, 3] (by decide) rfl
  have hK9 := hK.sub (tys' := [(cO, .object "DotBench$Sheet"), (cI, .int)]) [0, 1] rfl
  refine hQ _ _ _ _ _ ?_
  exact W.iret (v := r_2) hx hb hr (fun t ht hW => ⟨⟨r_2, (), rfl, hr_2, ⟨by rw [ht]; exact hP9, va_K.moved hW.alike hK9, hD9⟩⟩, hS.F ht⟩) hS.2.2 dX8_dot_23

set_option maxHeartbeats 4000000 in
set_option maxRecDepth 100000 in
theorem k_X8_count_y (l : Launch) (D : va_G) (sz : Nat) (h0 s1 s2 s3 s4 s5 s6 : Nat) (ds : Int32) (sp bt : Option Nat) (f : Nat → Option Nat) (t0 d0 : Nat) (w h : Int32) (g : Nat → Int32) (k vl : Int32) (cO : ClassId) (cI : ClassId) (hk : 0 ≤ k.toInt ∧ k.toInt ≤ 3) (hf : f k.toNatClampNeg = some t0) (hw : w.toInt ≤ 64) (hh : h.toInt ≤ 64) : Met l yX8_count (wB yX8_count cX8_count 7 (some .int)) ({ frames := 2, cells := 0, slots := 0, locals := 44 }) (cP D [(h0, .inr (8, [.ref s1, .ref s2, .ref s3, .ref s4, .ref s5, .ref s6, .int ds, va_rf sp, va_rf bt])), (s1, .inl (cO, 4, .inr (.inr (.inr (.inr f))))), (t0, .inr (5, [.ref d0, .int w, .int h])), (d0, .inl (cI, 4096, .inl g))] [(cO, .object "DotBench$Sheet"), (cI, .int)] sz [.ref h0, .int k, .int vl]) (va_Qi (fun (r : Int32) (_ : Unit) => True) (fun (_ : Unit) (t : State) => cB D (va_A [(h0, .inr (8, [.ref s1, .ref s2, .ref s3, .ref s4, .ref s5, .ref s6, .int ds, va_rf sp, va_rf bt])), (s1, .inl (cO, 4, .inr (.inr (.inr (.inr f))))), (t0, .inr (5, [.ref d0, .int w, .int h])), (d0, .inl (cI, 4096, .inl g))] sz) [(h0, .inr (8, [.ref s1, .ref s2, .ref s3, .ref s4, .ref s5, .ref s6, .int ds, va_rf sp, va_rf bt])), (s1, .inl (cO, 4, .inr (.inr (.inr (.inr f))))), (t0, .inr (5, [.ref d0, .int w, .int h])), (d0, .inl (cI, 4096, .inl g))] [(cO, .object "DotBench$Sheet"), (cI, .int)] t) (va_A [(h0, .inr (8, [.ref s1, .ref s2, .ref s3, .ref s4, .ref s5, .ref s6, .int ds, va_rf sp, va_rf bt])), (s1, .inl (cO, 4, .inr (.inr (.inr (.inr f))))), (t0, .inr (5, [.ref d0, .int w, .int h])), (d0, .inl (cI, 4096, .inl g))] sz)) 0 0 (va_A [(h0, .inr (8, [.ref s1, .ref s2, .ref s3, .ref s4, .ref s5, .ref s6, .int ds, va_rf sp, va_rf bt])), (s1, .inl (cO, 4, .inr (.inr (.inr (.inr f))))), (t0, .inr (5, [.ref d0, .int w, .int h])), (d0, .inl (cI, 4096, .inl g))] sz) := by
  refine Met.ofW (cc := cX8_count) (maxL := 7) (ret := (some .int)) (by decide) rfl ?_
  intro p e s m args below meth c s₁ B hml hv
  obtain ⟨rfl, hsz, hP, hK, hD0, hN⟩ := hv
  have hx := B.exec
  have hb := B.bytes
  have hr := B.returns
  have hts0 := atoms_spec (ws := (wB yX8_count cX8_count 7 (some .int))) B.pre
  have hts : ∀ w ∈ bigW, w.before _ s = true := fun w h => hts0 w (List.mem_cons_of_mem _ h)
  have hown : s.vm.findClass RX8 = some m.cls := findClass_of_methodNamed B.named
  have hlocks := B.notSynchronized
  subst hsz
  have hD := hD0.self (sz := s.heap.size)
  generalize hAe : va_A [(h0, .inr (8, [.ref s1, .ref s2, .ref s3, .ref s4, .ref s5, .ref s6, .int ds, va_rf sp, va_rf bt])), (s1, .inl (cO, 4, .inr (.inr (.inr (.inr f))))), (t0, .inr (5, [.ref d0, .int w, .int h])), (d0, .inl (cI, 4096, .inl g))] s.heap.size = A at hD ⊢
  have hA : ∀ q : Nat, s.heap.size ≤ q → A q := fun q h => by rw [← hAe]; exact Or.inr h
  have hS : va_S A s.heap s.heap [] := va_S.rf
  have hP : va_P D vwCl [(h0, .inr (8, [.ref s1, .ref s2, .ref s3, .ref s4, .ref s5, .ref s6, .int ds, va_rf sp, va_rf bt])), (s1, .inl (cO, 4, .inr (.inr (.inr (.inr f))))), (t0, .inr (5, [.ref d0, .int w, .int h])), (d0, .inl (cI, 4096, .inl g))] s.heap := hP
  have hl := lv_entry ([.ref h0, .int k, .int vl]) (n := 7) (Nat.le_of_ble_eq_true rfl)
  rw [lg_entry_eq]
  generalize (lg_sl ([.ref h0, .int k, .int vl]) ++ List.replicate (7 - (lg_sl ([.ref h0, .int k, .int vl])).length) Slot.unset).toArray = ls at hl ⊢
  have hl : lv_has ls 7 [(0, .ref h0), (1, .int k), (2, .int vl)] := hl
  clear hts0 hD0 hAe
  refine my_abs (fun R Q hR hQ => ?_)
  refine lv_aload_n hx hb dX8_count_0 rfl (lv_at hl 0 rfl) ?_
  refine lv_iload_n hx hb dX8_count_1 rfl (lv_at hl 1 rfl) ?_
  have hPc := hP.sub (ws' := [(h0, .inr (8, [.ref s1, .ref s2, .ref s3, .ref s4, .ref s5, .ref s6, .int ds, va_rf sp, va_rf bt])), (s1, .inl (cO, 4, .inr (.inr (.inr (.inr f)))))]) [0, 1] rfl
  have hDc := hD.sub (ws' := [(h0, .inr (8, [.ref s1, .ref s2, .ref s3, .ref s4, .ref s5, .ref s6, .int ds, va_rf sp, va_rf bt])), (s1, .inl (cO, 4, .inr (.inr (.inr (.inr f)))))]) [0, 1] (by decide) rfl
  have hKc := hK.sub (tys' := [(cO, .object "DotBench$Sheet")]) [0] rfl
  have hFc := va_free (wc := [(h0, .inr (8, [.ref s1, .ref s2, .ref s3, .ref s4, .ref s5, .ref s6, .int ds, va_rf sp, va_rf bt])), (s1, .inl (cO, 4, .inr (.inr (.inr (.inr f)))))]) hD hS hA [0, 1] rfl
  refine va_callq (va_runV (As := [.int k]) (rest := []) ⟨hx, hb, hml, hown, hts⟩ (k_X8_sheetAt_y l D s.heap.size h0 s1 s2 s3 s4 s5 s6 ds sp bt f k t0 cO (by first | assumption | omega | decide) (by first | assumption | omega | decide)) (cwV 1 hts (gV bw_267 bw_346 bw_347 bw_223 bw_345) rfl rfl rfl (by decide +kernel) ⟨(by rw [hR]; exact Nat.le_of_ble_eq_true rfl), (by rw [hR]; exact Nat.le_of_ble_eq_true rfl)⟩) ⟨cP_blind, va_recv hKc hPc (ci := 8) (q0 := 0) rfl rfl, cP_at hPc hKc hDc hN⟩ rfl rfl hl.1 rfl (lv_room (Nat.le_of_ble_eq_true rfl)) dX8_count_2 ⟨(by rw [hR]; exact Nat.le_of_ble_eq_true rfl), (by rw [hR]; exact Nat.le_of_ble_eq_true rfl)⟩) hS (fun q _ h => hFc q h) hFc (fun r_1 u9 t9 H1 locs ht hvm hr_1 hB hz1 hk1 hS => ?_)
  try dsimp only at hr_1
  obtain ⟨hP1, hK1, hD1⟩ := hB
  rw [ht] at hP1
  obtain ⟨hP, hD⟩ := va_join (wr := [(t0, .inr (5, [.ref d0, .int w, .int h])), (d0, .inl (cI, 4096, .inl g))]) (w1 := [(h0, .inr (8, [.ref s1, .ref s2, .ref s3, .ref s4, .ref s5, .ref s6, .int ds, va_rf sp, va_rf bt])), (s1, .inl (cO, 4, .inr (.inr (.inr (.inr f)))))]) hP hD [0, 1] [2, 3] rfl rfl (by decide) (by decide) hk1 hFc hP1 hD1
  clear hz1 hk1 hFc hKc hDc hPc
  generalize H1 = H at hP hS ⊢
  have hP : va_P D vwCl [(t0, .inr (5, [.ref d0, .int w, .int h])), (d0, .inl (cI, 4096, .inl g)), (h0, .inr (8, [.ref s1, .ref s2, .ref s3, .ref s4, .ref s5, .ref s6, .int ds, va_rf sp, va_rf bt])), (s1, .inl (cO, 4, .inr (.inr (.inr (.inr f)))))] H := hP
  have hD : va_D A [(t0, .inr (5, [.ref d0, .int w, .int h])), (d0, .inl (cI, 4096, .inl g)), (h0, .inr (8, [.ref s1, .ref s2, .ref s3, .ref s4, .ref s5, .ref s6, .int ds, va_rf sp, va_rf bt])), (s1, .inl (cO, 4, .inr (.inr (.inr (.inr f)))))] := hD
  subst hr_1
  refine my_topv (v := .ref t0) rfl ?_
  refine lv_astore_n (lv' := [(3, .ref t0), (0, .ref h0), (1, .int k), (2, .int vl)]) hx hb dX8_count_5 rfl hl (by decide) rfl (fun ls hl => ?_)
  refine lv_aload_n hx hb dX8_count_6 rfl (lv_at hl 0 rfl) ?_
  refine lv_ifnonnull (tgt := 12) hx hb dX8_count_7 (by decide) ?_
  refine lv_iconst (v := 0) hx hb dX8_count_12 (by decide) ?_
  refine lv_istore (lv' := [(4, .int 0), (3, .ref t0), (0, .ref h0), (1, .int k), (2, .int vl)]) hx hb dX8_count_13 hl (by decide) rfl (fun ls hl => ?_)
  refine lv_iconst (v := 0) hx hb dX8_count_15 (by decide) ?_
  refine lv_istore (lv' := [(5, .int 0), (4, .int 0), (3, .ref t0), (0, .ref h0), (1, .int k), (2, .int vl)]) hx hb dX8_count_16 hl (by decide) rfl (fun ls hl => ?_)
  have loop_2 : ∀ (n : Nat) (j : Nat) (x5 : Int32) (x4 : Int32) (H : Heap) (locs : List Loc) (ls : Array Slot), (j ≤ 64) → (64 + 1 ≤ j + n) → (x5 = nI j) → va_P D vwCl [(t0, .inr (5, [.ref d0, .int w, .int h])), (d0, .inl (cI, 4096, .inl g)), (h0, .inr (8, [.ref s1, .ref s2, .ref s3, .ref s4, .ref s5, .ref s6, .int ds, va_rf sp, va_rf bt])), (s1, .inl (cO, 4, .inr (.inr (.inr (.inr f)))))] H → va_D A [(t0, .inr (5, [.ref d0, .int w, .int h])), (d0, .inl (cI, 4096, .inl g)), (h0, .inr (8, [.ref s1, .ref s2, .ref s3, .ref s4, .ref s5, .ref s6, .int ds, va_rf sp, va_rf bt])), (s1, .inl (cO, 4, .inr (.inr (.inr (.inr f)))))] → va_S A s.heap H locs → lv_has ls 7 [(5, .int x5), (4, .int x4), (3, .ref t0), (0, .ref h0), (1, .int k), (2, .int vl)] → W p l e R s m ([.ref h0, .int k, .int vl] : List Value).toArray below meth c H locs 0 0 Q (F0 m 18 ls []) := by
    intro n
    induction n with
    | zero =>
      intro j x5 x4 H locs ls hi_j hm_j ex_j hP hD hS hl
      exact absurd (show False by omega) not_false
    | succ n ih_3 =>
      intro j x5 x4 H locs ls hi_j hm_j ex_j hP hD hS hl
      have hx_j : x5.toInt = (j : Int) := by rw [ex_j]; exact nI_toInt (by omega)
      have hc_j : x5.toNatClampNeg = j := by rw [ex_j]; exact nI_clamp (by omega)
      refine lv_iload hx hb dX8_count_18 (lv_at hl 0 rfl) ?_
      refine lv_aload_n hx hb dX8_count_20 rfl (lv_at hl 2 rfl) ?_
      refine va_getN (host := RX8) (D := D) (ci := 5) (v := .int h) (C := RX5) (T := TX5) (N := 3) hx hb hts hi_X5 hown hK hP 0 rfl rfl 2 (by decide) ((hN.1 (RX8, 145, "DotBench$Sheet", "height", "I", RX8) (by decide +kernel)).use rfl) (fun _ h9 => h9) rfl dX8_count_21 ?_
      refine lv_icmp_ge (tgt := 66) hx hb dX8_count_24 (by decide) (fun c_4 => ?_) (fun c_4 => ?_)
      · skip
        have f_5 : h.toInt ≤ (j : Int) := f_le rfl hx_j c_4
        refine lv_iload hx hb dX8_count_66 (lv_at hl 1 rfl) ?_
        have hP9 := hP.sub (ws' := [(h0, .inr (8, [.ref s1, .ref s2, .ref s3, .ref s4, .ref s5, .ref s6, .int ds, va_rf sp, va_rf bt])), (s1, .inl (cO, 4, .inr (.inr (.inr (.inr f))))), (t0, .inr (5, [.ref d0, .int w, .int h])), (d0, .inl (cI, 4096, .inl g))]) [2, 3, 0, 1] rfl
        have hD9 := hD.sub (ws' := [(h0, .inr (8, [.ref s1, .ref s2, .ref s3, .ref s4, .ref s5, .ref s6, .int ds, va_rf sp, va_rf bt])), (s1, .inl (cO, 4, .inr (.inr (.inr (.inr f))))), (t0, .inr (5, [.ref d0, .int w, .int h])), (d0, .inl (cI, 4096, .inl g))]) [2, 3, 0, 1] (by decide) rfl
        have hK9 := hK.sub (tys' := [(cO, .object "DotBench$Sheet"), (cI, .int)]) [0, 1] rfl
        refine hQ _ _ _ _ _ ?_
        exact W.iret (v := x4) hx hb hr (fun t ht hW => ⟨⟨x4, (), rfl, trivial, ⟨by rw [ht]; exact hP9, va_K.moved hW.alike hK9, hD9⟩⟩, hS.F ht⟩) hS.2.2 dX8_count_68
      · skip
        have f_5 : ¬ (h.toInt ≤ (j : Int)) := fn_le rfl hx_j c_4
        refine lv_iconst (v := 0) hx hb dX8_count_27 (by decide) ?_
        refine lv_istore (lv' := [(6, .int 0), (5, .int x5), (4, .int x4), (3, .ref t0), (0, .ref h0), (1, .int k), (2, .int vl)]) hx hb dX8_count_28 hl (by decide) rfl (fun ls hl => ?_)
        have loop_6 : ∀ (n : Nat) (i : Nat) (x6 : Int32) (z4 : Int32) (H : Heap) (locs : List Loc) (ls : Array Slot), (i ≤ 64) → (64 + 1 ≤ i + n) → (x6 = nI i) → va_P D vwCl [(t0, .inr (5, [.ref d0, .int w, .int h])), (d0, .inl (cI, 4096, .inl g)), (h0, .inr (8, [.ref s1, .ref s2, .ref s3, .ref s4, .ref s5, .ref s6, .int ds, va_rf sp, va_rf bt])), (s1, .inl (cO, 4, .inr (.inr (.inr (.inr f)))))] H → va_D A [(t0, .inr (5, [.ref d0, .int w, .int h])), (d0, .inl (cI, 4096, .inl g)), (h0, .inr (8, [.ref s1, .ref s2, .ref s3, .ref s4, .ref s5, .ref s6, .int ds, va_rf sp, va_rf bt])), (s1, .inl (cO, 4, .inr (.inr (.inr (.inr f)))))] → va_S A s.heap H locs → lv_has ls 7 [(6, .int x6), (5, .int x5), (4, .int z4), (3, .ref t0), (0, .ref h0), (1, .int k), (2, .int vl)] → W p l e R s m ([.ref h0, .int k, .int vl] : List Value).toArray below meth c H locs 0 0 Q (F0 m 30 ls []) := by
          intro n
          induction n with
          | zero =>
            intro i x6 z4 H locs ls hi_i hm_i ex_i hP hD hS hl
            exact absurd (show False by omega) not_false
          | succ n ih_7 =>
            intro i x6 z4 H locs ls hi_i hm_i ex_i hP hD hS hl
            have hx_i : x6.toInt = (i : Int) := by rw [ex_i]; exact nI_toInt (by omega)
            have hc_i : x6.toNatClampNeg = i := by rw [ex_i]; exact nI_clamp (by omega)
            refine lv_iload hx hb dX8_count_30 (lv_at hl 0 rfl) ?_
            refine lv_aload_n hx hb dX8_count_32 rfl (lv_at hl 3 rfl) ?_
            refine va_getN (host := RX8) (D := D) (ci := 5) (v := .int w) (C := RX5) (T := TX5) (N := 3) hx hb hts hi_X5 hown hK hP 0 rfl rfl 1 (by decide) ((hN.1 (RX8, 148, "DotBench$Sheet", "width", "I", RX8) (by decide +kernel)).use rfl) (fun _ h9 => h9) rfl dX8_count_33 ?_
            refine lv_icmp_ge (tgt := 60) hx hb dX8_count_36 (by decide) (fun c_8 => ?_) (fun c_8 => ?_)
            · skip
              have f_9 : w.toInt ≤ (i : Int) := f_le rfl hx_i c_8
              obtain ⟨y_10, ey_10⟩ : ∃ y : Int32, y = x5 + 1 := ⟨_, rfl⟩
              refine lv_iinc (v := y_10) (lv' := [(5, .int y_10), (6, .int x6), (4, .int z4), (3, .ref t0), (0, .ref h0), (1, .int k), (2, .int vl)]) hx hb dX8_count_60 hl (k := 1) rfl (by rw [ey_10]; rfl) (by decide) rfl (fun ls hl => ?_)
              refine lv_goto (tgt := 18) hx hb dX8_count_63 (by decide) ?_
              exact ih_3 (j + 1) y_10 z4 _ _ _ (by omega) (by omega) (by rw [ey_10, ex_j]; exact nI_1 j) (hP.sub (ws' := [(t0, .inr (5, [.ref d0, .int w, .int h])), (d0, .inl (cI, 4096, .inl g)), (h0, .inr (8, [.ref s1, .ref s2, .ref s3, .ref s4, .ref s5, .ref s6, .int ds, va_rf sp, va_rf bt])), (s1, .inl (cO, 4, .inr (.inr (.inr (.inr f)))))]) [0, 1, 2, 3] rfl) (hD.sub (ws' := [(t0, .inr (5, [.ref d0, .int w, .int h])), (d0, .inl (cI, 4096, .inl g)), (h0, .inr (8, [.ref s1, .ref s2, .ref s3, .ref s4, .ref s5, .ref s6, .int ds, va_rf sp, va_rf bt])), (s1, .inl (cO, 4, .inr (.inr (.inr (.inr f)))))]) [0, 1, 2, 3] (by decide) rfl) hS (lv_sub hl [0, 2, 3, 4, 5, 6] rfl)
            · skip
              have f_9 : ¬ (w.toInt ≤ (i : Int)) := fn_le rfl hx_i c_8
              refine lv_aload_n hx hb dX8_count_39 rfl (lv_at hl 3 rfl) ?_
              refine lv_iload hx hb dX8_count_40 (lv_at hl 0 rfl) ?_
              refine lv_iload hx hb dX8_count_42 (lv_at hl 1 rfl) ?_
              have hPc := hP.sub (ws' := [(t0, .inr (5, [.ref d0, .int w, .int h])), (d0, .inl (cI, 4096, .inl g))]) [0, 1] rfl
              have hDc := hD.sub (ws' := [(t0, .inr (5, [.ref d0, .int w, .int h])), (d0, .inl (cI, 4096, .inl g))]) [0, 1] (by decide) rfl
              have hKc := hK.sub (tys' := [(cI, .int)]) [1] rfl
              have hFc := va_free (wc := [(t0, .inr (5, [.ref d0, .int w, .int h])), (d0, .inl (cI, 4096, .inl g))]) hD hS hA [0, 1] rfl
              refine va_calli (va_runV (As := [.int x6, .int x5]) (rest := []) ⟨hx, hb, hml, hown, hts⟩ (k_X5_at l D H.size t0 d0 w h g x6 x5 cI (by first | assumption | omega | decide) (by first | assumption | omega | decide)) (cwV 2 hts (gV bw_325 bw_153 bw_154 bw_130 bw_152) rfl rfl rfl (by decide +kernel) ⟨(by rw [hR]; exact Nat.le_of_ble_eq_true rfl), (by rw [hR]; exact Nat.le_of_ble_eq_true rfl)⟩) ⟨cP_blind, va_recv hKc hPc (ci := 5) (q0 := 0) rfl rfl, cP_at hPc hKc hDc hN⟩ rfl rfl hl.1 rfl (lv_room (Nat.le_of_ble_eq_true rfl)) dX8_count_44 ⟨(by rw [hR]; exact Nat.le_of_ble_eq_true rfl), (by rw [hR]; exact Nat.le_of_ble_eq_true rfl)⟩) hS (fun q _ h => hFc q h) hFc (fun r_11 u9 t9 H1 locs ht hvm hr_11 hB hz1 hk1 hS => ?_)
              try dsimp only at hr_11
              obtain ⟨hP1, hK1, hD1⟩ := hB
              rw [ht] at hP1
              obtain ⟨hP, hD⟩ := va_join (wr := [(h0, .inr (8, [.ref s1, .ref s2, .ref s3, .ref s4, .ref s5, .ref s6, .int ds, va_rf sp, va_rf bt])), (s1, .inl (cO, 4, .inr (.inr (.inr (.inr f)))))]) (w1 := [(t0, .inr (5, [.ref d0, .int w, .int h])), (d0, .inl (cI, 4096, .inl g))]) hP hD [0, 1] [2, 3] rfl rfl (by decide) (by decide) hk1 hFc hP1 hD1
              clear hz1 hk1 hFc hKc hDc hPc
              generalize H1 = H at hP hS ⊢
              have hP : va_P D vwCl [(h0, .inr (8, [.ref s1, .ref s2, .ref s3, .ref s4, .ref s5, .ref s6, .int ds, va_rf sp, va_rf bt])), (s1, .inl (cO, 4, .inr (.inr (.inr (.inr f))))), (t0, .inr (5, [.ref d0, .int w, .int h])), (d0, .inl (cI, 4096, .inl g))] H := hP
              have hD : va_D A [(h0, .inr (8, [.ref s1, .ref s2, .ref s3, .ref s4, .ref s5, .ref s6, .int ds, va_rf sp, va_rf bt])), (s1, .inl (cO, 4, .inr (.inr (.inr (.inr f))))), (t0, .inr (5, [.ref d0, .int w, .int h])), (d0, .inl (cI, 4096, .inl g))] := hD
              refine lv_iload_n hx hb dX8_count_47 rfl (lv_at hl 6 rfl) ?_
              refine lv_icmp_ne (tgt := 54) hx hb dX8_count_48 (by decide) (fun c_12 => ?_) (fun c_12 => ?_)
              · skip
                have f_13 : ¬ (r_11.toInt = vl.toInt) := fn_eq rfl rfl c_12
                obtain ⟨y_14, ey_14⟩ : ∃ y : Int32, y = x6 + 1 := ⟨_, rfl⟩
                refine lv_iinc (v := y_14) (lv' := [(6, .int y_14), (5, .int x5), (4, .int z4), (3, .ref t0), (0, .ref h0), (1, .int k), (2, .int vl)]) hx hb dX8_count_54 hl (k := 0) rfl (by rw [ey_14]; rfl) (by decide) rfl (fun ls hl => ?_)
                refine lv_goto (tgt := 30) hx hb dX8_count_57 (by decide) ?_
                exact ih_7 (i + 1) y_14 z4 _ _ _ (by omega) (by omega) (by rw [ey_14, ex_i]; exact nI_1 i) (hP.sub (ws' := [(t0, .inr (5, [.ref d0, .int w, .int h])), (d0, .inl (cI, 4096, .inl g)), (h0, .inr (8, [.ref s1, .ref s2, .ref s3, .ref s4, .ref s5, .ref s6, .int ds, va_rf sp, va_rf bt])), (s1, .inl (cO, 4, .inr (.inr (.inr (.inr f)))))]) [2, 3, 0, 1] rfl) (hD.sub (ws' := [(t0, .inr (5, [.ref d0, .int w, .int h])), (d0, .inl (cI, 4096, .inl g)), (h0, .inr (8, [.ref s1, .ref s2, .ref s3, .ref s4, .ref s5, .ref s6, .int ds, va_rf sp, va_rf bt])), (s1, .inl (cO, 4, .inr (.inr (.inr (.inr f)))))]) [2, 3, 0, 1] (by decide) rfl) hS (lv_sub hl [0, 1, 2, 3, 4, 5, 6] rfl)
              · skip
                have f_13 : r_11.toInt = vl.toInt := f_eq rfl rfl c_12
                obtain ⟨y_15, ey_15⟩ : ∃ y : Int32, y = z4 + 1 := ⟨_, rfl⟩
                refine lv_iinc (v := y_15) (lv' := [(4, .int y_15), (6, .int x6), (5, .int x5), (3, .ref t0), (0, .ref h0), (1, .int k), (2, .int vl)]) hx hb dX8_count_51 hl (k := 2) rfl (by rw [ey_15]; rfl) (by decide) rfl (fun ls hl => ?_)
                obtain ⟨y_16, ey_16⟩ : ∃ y : Int32, y = x6 + 1 := ⟨_, rfl⟩
                refine lv_iinc (v := y_16) (lv' := [(6, .int y_16), (4, .int y_15), (5, .int x5), (3, .ref t0), (0, .ref h0), (1, .int k), (2, .int vl)]) hx hb dX8_count_54 hl (k := 1) rfl (by rw [ey_16]; rfl) (by decide) rfl (fun ls hl => ?_)
                refine lv_goto (tgt := 30) hx hb dX8_count_57 (by decide) ?_
                exact ih_7 (i + 1) y_16 y_15 _ _ _ (by omega) (by omega) (by rw [ey_16, ex_i]; exact nI_1 i) (hP.sub (ws' := [(t0, .inr (5, [.ref d0, .int w, .int h])), (d0, .inl (cI, 4096, .inl g)), (h0, .inr (8, [.ref s1, .ref s2, .ref s3, .ref s4, .ref s5, .ref s6, .int ds, va_rf sp, va_rf bt])), (s1, .inl (cO, 4, .inr (.inr (.inr (.inr f)))))]) [2, 3, 0, 1] rfl) (hD.sub (ws' := [(t0, .inr (5, [.ref d0, .int w, .int h])), (d0, .inl (cI, 4096, .inl g)), (h0, .inr (8, [.ref s1, .ref s2, .ref s3, .ref s4, .ref s5, .ref s6, .int ds, va_rf sp, va_rf bt])), (s1, .inl (cO, 4, .inr (.inr (.inr (.inr f)))))]) [2, 3, 0, 1] (by decide) rfl) hS (lv_sub hl [0, 2, 1, 3, 4, 5, 6] rfl)
        exact loop_6 (64 + 1) 0 0 x4 _ _ _ (by omega) (by omega) nI_0.symm hP hD hS (lv_sub hl [0, 1, 2, 3, 4, 5, 6] rfl)
  exact loop_2 (64 + 1) 0 0 0 _ _ _ (by omega) (by omega) nI_0.symm hP hD hS (lv_sub hl [0, 1, 2, 3, 4, 5] rfl)

set_option maxHeartbeats 4000000 in
set_option maxRecDepth 100000 in
theorem k_X8_look_y (l : Launch) (D : va_G) (sz : Nat) (h0 s1 s2 s3 s4 s5 s6 : Nat) (ds : Int32) (sp bt : Option Nat) (f : Nat → Option Nat) (t0 d0 : Nat) (w h : Int32) (g : Nat → Int32) (k wt : Int32) (cO : ClassId) (cI : ClassId) (hk : 0 ≤ k.toInt ∧ k.toInt ≤ 3) (hf : f k.toNatClampNeg = some t0) (hw : w.toInt ≤ 64) (hh : h.toInt ≤ 64) : Met l yX8_look (wB yX8_look cX8_look 4 (some .int)) ({ frames := 3, cells := 0, slots := 0, locals := 71 }) (cP D [(h0, .inr (8, [.ref s1, .ref s2, .ref s3, .ref s4, .ref s5, .ref s6, .int ds, va_rf sp, va_rf bt])), (s1, .inl (cO, 4, .inr (.inr (.inr (.inr f))))), (t0, .inr (5, [.ref d0, .int w, .int h])), (d0, .inl (cI, 4096, .inl g))] [(cO, .object "DotBench$Sheet"), (cI, .int)] sz [.ref h0, .int k, .int wt]) (va_Qi (fun (r : Int32) (_ : Unit) => True) (fun (_ : Unit) (t : State) => cB D (va_A [(h0, .inr (8, [.ref s1, .ref s2, .ref s3, .ref s4, .ref s5, .ref s6, .int ds, va_rf sp, va_rf bt])), (s1, .inl (cO, 4, .inr (.inr (.inr (.inr f))))), (t0, .inr (5, [.ref d0, .int w, .int h])), (d0, .inl (cI, 4096, .inl g))] sz) [(h0, .inr (8, [.ref s1, .ref s2, .ref s3, .ref s4, .ref s5, .ref s6, .int ds, va_rf sp, va_rf bt])), (s1, .inl (cO, 4, .inr (.inr (.inr (.inr f))))), (t0, .inr (5, [.ref d0, .int w, .int h])), (d0, .inl (cI, 4096, .inl g))] [(cO, .object "DotBench$Sheet"), (cI, .int)] t) (va_A [(h0, .inr (8, [.ref s1, .ref s2, .ref s3, .ref s4, .ref s5, .ref s6, .int ds, va_rf sp, va_rf bt])), (s1, .inl (cO, 4, .inr (.inr (.inr (.inr f))))), (t0, .inr (5, [.ref d0, .int w, .int h])), (d0, .inl (cI, 4096, .inl g))] sz)) 0 0 (va_A [(h0, .inr (8, [.ref s1, .ref s2, .ref s3, .ref s4, .ref s5, .ref s6, .int ds, va_rf sp, va_rf bt])), (s1, .inl (cO, 4, .inr (.inr (.inr (.inr f))))), (t0, .inr (5, [.ref d0, .int w, .int h])), (d0, .inl (cI, 4096, .inl g))] sz) := by
  refine Met.ofW (cc := cX8_look) (maxL := 4) (ret := (some .int)) (by decide) rfl ?_
  intro p e s m args below meth c s₁ B hml hv
  obtain ⟨rfl, hsz, hP, hK, hD0, hN⟩ := hv
  have hx := B.exec
  have hb := B.bytes
  have hr := B.returns
  have hts0 := atoms_spec (ws := (wB yX8_look cX8_look 4 (some .int))) B.pre
  have hts : ∀ w ∈ bigW, w.before _ s = true := fun w h => hts0 w (List.mem_cons_of_mem _ h)
  have hown : s.vm.findClass RX8 = some m.cls := findClass_of_methodNamed B.named
  have hlocks := B.notSynchronized
  subst hsz
  have hD := hD0.self (sz := s.heap.size)
  generalize hAe : va_A [(h0, .inr (8, [.ref s1, .ref s2, .ref s3, .ref s4, .ref s5, .ref s6, .int ds, va_rf sp, va_rf bt])), (s1, .inl (cO, 4, .inr (.inr (.inr (.inr f))))), (t0, .inr (5, [.ref d0, .int w, .int h])), (d0, .inl (cI, 4096, .inl g))] s.heap.size = A at hD ⊢
  have hA : ∀ q : Nat, s.heap.size ≤ q → A q := fun q h => by rw [← hAe]; exact Or.inr h
  have hS : va_S A s.heap s.heap [] := va_S.rf
  have hP : va_P D vwCl [(h0, .inr (8, [.ref s1, .ref s2, .ref s3, .ref s4, .ref s5, .ref s6, .int ds, va_rf sp, va_rf bt])), (s1, .inl (cO, 4, .inr (.inr (.inr (.inr f))))), (t0, .inr (5, [.ref d0, .int w, .int h])), (d0, .inl (cI, 4096, .inl g))] s.heap := hP
  have hl := lv_entry ([.ref h0, .int k, .int wt]) (n := 4) (Nat.le_of_ble_eq_true rfl)
  rw [lg_entry_eq]
  generalize (lg_sl ([.ref h0, .int k, .int wt]) ++ List.replicate (4 - (lg_sl ([.ref h0, .int k, .int wt])).length) Slot.unset).toArray = ls at hl ⊢
  have hl : lv_has ls 4 [(0, .ref h0), (1, .int k), (2, .int wt)] := hl
  clear hts0 hD0 hAe
  refine my_abs (fun R Q hR hQ => ?_)
  refine lv_aload_n hx hb dX8_look_0 rfl (lv_at hl 0 rfl) ?_
  refine lv_iload_n hx hb dX8_look_1 rfl (lv_at hl 1 rfl) ?_
  have hPc := hP.sub (ws' := [(h0, .inr (8, [.ref s1, .ref s2, .ref s3, .ref s4, .ref s5, .ref s6, .int ds, va_rf sp, va_rf bt])), (s1, .inl (cO, 4, .inr (.inr (.inr (.inr f)))))]) [0, 1] rfl
  have hDc := hD.sub (ws' := [(h0, .inr (8, [.ref s1, .ref s2, .ref s3, .ref s4, .ref s5, .ref s6, .int ds, va_rf sp, va_rf bt])), (s1, .inl (cO, 4, .inr (.inr (.inr (.inr f)))))]) [0, 1] (by decide) rfl
  have hKc := hK.sub (tys' := [(cO, .object "DotBench$Sheet")]) [0] rfl
  have hFc := va_free (wc := [(h0, .inr (8, [.ref s1, .ref s2, .ref s3, .ref s4, .ref s5, .ref s6, .int ds, va_rf sp, va_rf bt])), (s1, .inl (cO, 4, .inr (.inr (.inr (.inr f)))))]) hD hS hA [0, 1] rfl
  refine va_callq (va_runV (As := [.int k]) (rest := []) ⟨hx, hb, hml, hown, hts⟩ (k_X8_sheetAt_y l D s.heap.size h0 s1 s2 s3 s4 s5 s6 ds sp bt f k t0 cO (by first | assumption | omega | decide) (by first | assumption | omega | decide)) (cwV 1 hts (gV bw_267 bw_346 bw_347 bw_223 bw_345) rfl rfl rfl (by decide +kernel) ⟨(by rw [hR]; exact Nat.le_of_ble_eq_true rfl), (by rw [hR]; exact Nat.le_of_ble_eq_true rfl)⟩) ⟨cP_blind, va_recv hKc hPc (ci := 8) (q0 := 0) rfl rfl, cP_at hPc hKc hDc hN⟩ rfl rfl hl.1 rfl (lv_room (Nat.le_of_ble_eq_true rfl)) dX8_look_2 ⟨(by rw [hR]; exact Nat.le_of_ble_eq_true rfl), (by rw [hR]; exact Nat.le_of_ble_eq_true rfl)⟩) hS (fun q _ h => hFc q h) hFc (fun r_1 u9 t9 H1 locs ht hvm hr_1 hB hz1 hk1 hS => ?_)
  try dsimp only at hr_1
  obtain ⟨hP1, hK1, hD1⟩ := hB
  rw [ht] at hP1
  obtain ⟨hP, hD⟩ := va_join (wr := [(t0, .inr (5, [.ref d0, .int w, .int h])), (d0, .inl (cI, 4096, .inl g))]) (w1 := [(h0, .inr (8, [.ref s1, .ref s2, .ref s3, .ref s4, .ref s5, .ref s6, .int ds, va_rf sp, va_rf bt])), (s1, .inl (cO, 4, .inr (.inr (.inr (.inr f)))))]) hP hD [0, 1] [2, 3] rfl rfl (by decide) (by decide) hk1 hFc hP1 hD1
  clear hz1 hk1 hFc hKc hDc hPc
  generalize H1 = H at hP hS ⊢
  have hP : va_P D vwCl [(t0, .inr (5, [.ref d0, .int w, .int h])), (d0, .inl (cI, 4096, .inl g)), (h0, .inr (8, [.ref s1, .ref s2, .ref s3, .ref s4, .ref s5, .ref s6, .int ds, va_rf sp, va_rf bt])), (s1, .inl (cO, 4, .inr (.inr (.inr (.inr f)))))] H := hP
  have hD : va_D A [(t0, .inr (5, [.ref d0, .int w, .int h])), (d0, .inl (cI, 4096, .inl g)), (h0, .inr (8, [.ref s1, .ref s2, .ref s3, .ref s4, .ref s5, .ref s6, .int ds, va_rf sp, va_rf bt])), (s1, .inl (cO, 4, .inr (.inr (.inr (.inr f)))))] := hD
  subst hr_1
  refine my_topv (v := .ref t0) rfl ?_
  refine lv_astore_n (lv' := [(3, .ref t0), (0, .ref h0), (1, .int k), (2, .int wt)]) hx hb dX8_look_5 rfl hl (by decide) rfl (fun ls hl => ?_)
  refine lv_aload_n hx hb dX8_look_6 rfl (lv_at hl 0 rfl) ?_
  refine lv_ifnonnull (tgt := 12) hx hb dX8_look_7 (by decide) ?_
  refine lv_iload_n hx hb dX8_look_12 rfl (lv_at hl 3 rfl) ?_
  by_cases hsw : 0 ≤ wt.toInt ∧ wt.toInt ≤ 9
  · skip
    obtain ⟨j9, hj9, ej9⟩ := i_of (x := wt) (N := 10) (by omega) (by omega) (by decide)
    subst ej9
    rcases (show j9 = 0 ∨ j9 = 1 ∨ j9 = 2 ∨ j9 = 3 ∨ j9 = 4 ∨ j9 = 5 ∨ j9 = 6 ∨ j9 = 7 ∨ j9 = 8 ∨ j9 = 9 by omega) with rfl | rfl | rfl | rfl | rfl | rfl | rfl | rfl | rfl | rfl
    · skip
      refine lv_tableIn (off := 55) (tgt := 68) hx hb dX8_look_13 (by decide) (by decide) rfl (by decide) ?_
      have hl : lv_has ls 4 [(3, .ref t0), (0, .ref h0), (1, .int k), (2, .int 0)] := hl
      refine lv_aload_n hx hb dX8_look_68 rfl (lv_at hl 0 rfl) ?_
      refine lv_iload_n hx hb dX8_look_69 rfl (lv_at hl 3 rfl) ?_
      refine lv_iconst (v := 2) hx hb dX8_look_70 (by decide) ?_
      refine lv_icmp_ge (tgt := 78) hx hb dX8_look_71 (by decide) (fun c_2 => ?_) (fun c_2 => ?_)
      · skip
        exact absurd c_2 (by decide)
      · skip
        refine lv_iconst (v := 1) hx hb dX8_look_74 (by decide) ?_
        refine lv_goto (tgt := 79) hx hb dX8_look_75 (by decide) ?_
        refine lv_iload_n hx hb dX8_look_79 rfl (lv_at hl 3 rfl) ?_
        refine lv_iconst (v := 2) hx hb dX8_look_80 (by decide) ?_
        refine lv_irem hx hb dX8_look_81 (by decide) ?_
        refine my_fold (v := 0) (by decide) ?_
        refine lv_iconst (v := 1) hx hb dX8_look_82 (by decide) ?_
        refine lv_icmp_ne (tgt := 90) hx hb dX8_look_83 (by decide) (fun c_4 => ?_) (fun c_4 => ?_)
        · skip
          refine lv_iconst (v := 0) hx hb dX8_look_90 (by decide) ?_
          have hPc := hP.sub (ws' := [(t0, .inr (5, [.ref d0, .int w, .int h])), (d0, .inl (cI, 4096, .inl g))]) [0, 1] rfl
          have hDc := hD.sub (ws' := [(t0, .inr (5, [.ref d0, .int w, .int h])), (d0, .inl (cI, 4096, .inl g))]) [0, 1] (by decide) rfl
          have hKc := hK.sub (tys' := [(cI, .int)]) [1] rfl
          have hFc := va_free (wc := [(t0, .inr (5, [.ref d0, .int w, .int h])), (d0, .inl (cI, 4096, .inl g))]) hD hS hA [0, 1] rfl
          refine va_calli (va_runV (As := [.int 1, .int 0]) (rest := []) ⟨hx, hb, hml, hown, hts⟩ (k_X5_boxSide l D H.size t0 d0 w h g 1 0 cI (by first | assumption | omega | decide) (by first | assumption | omega | decide)) (cwV 2 hts (gV bw_338 bw_164 bw_165 bw_130 bw_163) rfl rfl rfl (by decide +kernel) ⟨(by rw [hR]; exact Nat.le_of_ble_eq_true rfl), (by rw [hR]; exact Nat.le_of_ble_eq_true rfl)⟩) ⟨cP_blind, va_recv hKc hPc (ci := 5) (q0 := 0) rfl rfl, cP_at hPc hKc hDc hN⟩ rfl rfl hl.1 rfl (lv_room (Nat.le_of_ble_eq_true rfl)) dX8_look_91 ⟨(by rw [hR]; exact Nat.le_of_ble_eq_true rfl), (by rw [hR]; exact Nat.le_of_ble_eq_true rfl)⟩) hS (fun q _ h => hFc q h) hFc (fun r_6 u9 t9 H1 locs ht hvm hr_6 hB hz1 hk1 hS => ?_)
          try dsimp only at hr_6
          obtain ⟨hP1, hK1, hD1⟩ := hB
          rw [ht] at hP1
          obtain ⟨hP, hD⟩ := va_join (wr := [(h0, .inr (8, [.ref s1, .ref s2, .ref s3, .ref s4, .ref s5, .ref s6, .int ds, va_rf sp, va_rf bt])), (s1, .inl (cO, 4, .inr (.inr (.inr (.inr f)))))]) (w1 := [(t0, .inr (5, [.ref d0, .int w, .int h])), (d0, .inl (cI, 4096, .inl g))]) hP hD [0, 1] [2, 3] rfl rfl (by decide) (by decide) hk1 hFc hP1 hD1
          clear hz1 hk1 hFc hKc hDc hPc
          generalize H1 = H at hP hS ⊢
          have hP : va_P D vwCl [(h0, .inr (8, [.ref s1, .ref s2, .ref s3, .ref s4, .ref s5, .ref s6, .int ds, va_rf sp, va_rf bt])), (s1, .inl (cO, 4, .inr (.inr (.inr (.inr f))))), (t0, .inr (5, [.ref d0, .int w, .int h])), (d0, .inl (cI, 4096, .inl g))] H := hP
          have hD : va_D A [(h0, .inr (8, [.ref s1, .ref s2, .ref s3, .ref s4, .ref s5, .ref s6, .int ds, va_rf sp, va_rf bt])), (s1, .inl (cO, 4, .inr (.inr (.inr (.inr f))))), (t0, .inr (5, [.ref d0, .int w, .int h])), (d0, .inl (cI, 4096, .inl g))] := hD
          have hP9 := hP.sub (ws' := [(h0, .inr (8, [.ref s1, .ref s2, .ref s3, .ref s4, .ref s5, .ref s6, .int ds, va_rf sp, va_rf bt])), (s1, .inl (cO, 4, .inr (.inr (.inr (.inr f))))), (t0, .inr (5, [.ref d0, .int w, .int h])), (d0, .inl (cI, 4096, .inl g))]) [0, 1, 2, 3] rfl
          have hD9 := hD.sub (ws' := [(h0, .inr (8, [.ref s1, .ref s2, .ref s3, .ref s4, .ref s5, .ref s6, .int ds, va_rf sp, va_rf bt])), (s1, .inl (cO, 4, .inr (.inr (.inr (.inr f))))), (t0, .inr (5, [.ref d0, .int w, .int h])), (d0, .inl (cI, 4096, .inl g))]) [0, 1, 2, 3] (by decide) rfl
          have hK9 := hK.sub (tys' := [(cO, .object "DotBench$Sheet"), (cI, .int)]) [0, 1] rfl
          refine hQ _ _ _ _ _ ?_
          exact W.iret (v := r_6) hx hb hr (fun t ht hW => ⟨⟨r_6, (), rfl, trivial, ⟨by rw [ht]; exact hP9, va_K.moved hW.alike hK9, hD9⟩⟩, hS.F ht⟩) hS.2.2 dX8_look_94
        · skip
          exact absurd c_4 (by decide)
    · skip
      refine lv_tableIn (off := 55) (tgt := 68) hx hb dX8_look_13 (by decide) (by decide) rfl (by decide) ?_
      have hl : lv_has ls 4 [(3, .ref t0), (0, .ref h0), (1, .int k), (2, .int 1)] := hl
      refine lv_aload_n hx hb dX8_look_68 rfl (lv_at hl 0 rfl) ?_
      refine lv_iload_n hx hb dX8_look_69 rfl (lv_at hl 3 rfl) ?_
      refine lv_iconst (v := 2) hx hb dX8_look_70 (by decide) ?_
      refine lv_icmp_ge (tgt := 78) hx hb dX8_look_71 (by decide) (fun c_7 => ?_) (fun c_7 => ?_)
      · skip
        exact absurd c_7 (by decide)
      · skip
        refine lv_iconst (v := 1) hx hb dX8_look_74 (by decide) ?_
        refine lv_goto (tgt := 79) hx hb dX8_look_75 (by decide) ?_
        refine lv_iload_n hx hb dX8_look_79 rfl (lv_at hl 3 rfl) ?_
        refine lv_iconst (v := 2) hx hb dX8_look_80 (by decide) ?_
        refine lv_irem hx hb dX8_look_81 (by decide) ?_
        refine my_fold (v := 1) (by decide) ?_
        refine lv_iconst (v := 1) hx hb dX8_look_82 (by decide) ?_
        refine lv_icmp_ne (tgt := 90) hx hb dX8_look_83 (by decide) (fun c_9 => ?_) (fun c_9 => ?_)
        · skip
          exact absurd c_9 (by decide)
        · skip
          refine lv_iconst (v := 1) hx hb dX8_look_86 (by decide) ?_
          refine lv_goto (tgt := 91) hx hb dX8_look_87 (by decide) ?_
          have hPc := hP.sub (ws' := [(t0, .inr (5, [.ref d0, .int w, .int h])), (d0, .inl (cI, 4096, .inl g))]) [0, 1] rfl
          have hDc := hD.sub (ws' := [(t0, .inr (5, [.ref d0, .int w, .int h])), (d0, .inl (cI, 4096, .inl g))]) [0, 1] (by decide) rfl
          have hKc := hK.sub (tys' := [(cI, .int)]) [1] rfl
          have hFc := va_free (wc := [(t0, .inr (5, [.ref d0, .int w, .int h])), (d0, .inl (cI, 4096, .inl g))]) hD hS hA [0, 1] rfl
          refine va_calli (va_runV (As := [.int 1, .int 1]) (rest := []) ⟨hx, hb, hml, hown, hts⟩ (k_X5_boxSide l D H.size t0 d0 w h g 1 1 cI (by first | assumption | omega | decide) (by first | assumption | omega | decide)) (cwV 2 hts (gV bw_338 bw_164 bw_165 bw_130 bw_163) rfl rfl rfl (by decide +kernel) ⟨(by rw [hR]; exact Nat.le_of_ble_eq_true rfl), (by rw [hR]; exact Nat.le_of_ble_eq_true rfl)⟩) ⟨cP_blind, va_recv hKc hPc (ci := 5) (q0 := 0) rfl rfl, cP_at hPc hKc hDc hN⟩ rfl rfl hl.1 rfl (lv_room (Nat.le_of_ble_eq_true rfl)) dX8_look_91 ⟨(by rw [hR]; exact Nat.le_of_ble_eq_true rfl), (by rw [hR]; exact Nat.le_of_ble_eq_true rfl)⟩) hS (fun q _ h => hFc q h) hFc (fun r_11 u9 t9 H1 locs ht hvm hr_11 hB hz1 hk1 hS => ?_)
          try dsimp only at hr_11
          obtain ⟨hP1, hK1, hD1⟩ := hB
          rw [ht] at hP1
          obtain ⟨hP, hD⟩ := va_join (wr := [(h0, .inr (8, [.ref s1, .ref s2, .ref s3, .ref s4, .ref s5, .ref s6, .int ds, va_rf sp, va_rf bt])), (s1, .inl (cO, 4, .inr (.inr (.inr (.inr f)))))]) (w1 := [(t0, .inr (5, [.ref d0, .int w, .int h])), (d0, .inl (cI, 4096, .inl g))]) hP hD [0, 1] [2, 3] rfl rfl (by decide) (by decide) hk1 hFc hP1 hD1
          clear hz1 hk1 hFc hKc hDc hPc
          generalize H1 = H at hP hS ⊢
          have hP : va_P D vwCl [(h0, .inr (8, [.ref s1, .ref s2, .ref s3, .ref s4, .ref s5, .ref s6, .int ds, va_rf sp, va_rf bt])), (s1, .inl (cO, 4, .inr (.inr (.inr (.inr f))))), (t0, .inr (5, [.ref d0, .int w, .int h])), (d0, .inl (cI, 4096, .inl g))] H := hP
          have hD : va_D A [(h0, .inr (8, [.ref s1, .ref s2, .ref s3, .ref s4, .ref s5, .ref s6, .int ds, va_rf sp, va_rf bt])), (s1, .inl (cO, 4, .inr (.inr (.inr (.inr f))))), (t0, .inr (5, [.ref d0, .int w, .int h])), (d0, .inl (cI, 4096, .inl g))] := hD
          have hP9 := hP.sub (ws' := [(h0, .inr (8, [.ref s1, .ref s2, .ref s3, .ref s4, .ref s5, .ref s6, .int ds, va_rf sp, va_rf bt])), (s1, .inl (cO, 4, .inr (.inr (.inr (.inr f))))), (t0, .inr (5, [.ref d0, .int w, .int h])), (d0, .inl (cI, 4096, .inl g))]) [0, 1, 2, 3] rfl
          have hD9 := hD.sub (ws' := [(h0, .inr (8, [.ref s1, .ref s2, .ref s3, .ref s4, .ref s5, .ref s6, .int ds, va_rf sp, va_rf bt])), (s1, .inl (cO, 4, .inr (.inr (.inr (.inr f))))), (t0, .inr (5, [.ref d0, .int w, .int h])), (d0, .inl (cI, 4096, .inl g))]) [0, 1, 2, 3] (by decide) rfl
          have hK9 := hK.sub (tys' := [(cO, .object "DotBench$Sheet"), (cI, .int)]) [0, 1] rfl
          refine hQ _ _ _ _ _ ?_
          exact W.iret (v := r_11) hx hb hr (fun t ht hW => ⟨⟨r_11, (), rfl, trivial, ⟨by rw [ht]; exact hP9, va_K.moved hW.alike hK9, hD9⟩⟩, hS.F ht⟩) hS.2.2 dX8_look_94
    · skip
      refine lv_tableIn (off := 55) (tgt := 68) hx hb dX8_look_13 (by decide) (by decide) rfl (by decide) ?_
      have hl : lv_has ls 4 [(3, .ref t0), (0, .ref h0), (1, .int k), (2, .int 2)] := hl
      refine lv_aload_n hx hb dX8_look_68 rfl (lv_at hl 0 rfl) ?_
      refine lv_iload_n hx hb dX8_look_69 rfl (lv_at hl 3 rfl) ?_
      refine lv_iconst (v := 2) hx hb dX8_look_70 (by decide) ?_
      refine lv_icmp_ge (tgt := 78) hx hb dX8_look_71 (by decide) (fun c_12 => ?_) (fun c_12 => ?_)
      · skip
        refine lv_iconst (v := 0) hx hb dX8_look_78 (by decide) ?_
        refine lv_iload_n hx hb dX8_look_79 rfl (lv_at hl 3 rfl) ?_
        refine lv_iconst (v := 2) hx hb dX8_look_80 (by decide) ?_
        refine lv_irem hx hb dX8_look_81 (by decide) ?_
        refine my_fold (v := 0) (by decide) ?_
        refine lv_iconst (v := 1) hx hb dX8_look_82 (by decide) ?_
        refine lv_icmp_ne (tgt := 90) hx hb dX8_look_83 (by decide) (fun c_14 => ?_) (fun c_14 => ?_)
        · skip
          refine lv_iconst (v := 0) hx hb dX8_look_90 (by decide) ?_
          have hPc := hP.sub (ws' := [(t0, .inr (5, [.ref d0, .int w, .int h])), (d0, .inl (cI, 4096, .inl g))]) [0, 1] rfl
          have hDc := hD.sub (ws' := [(t0, .inr (5, [.ref d0, .int w, .int h])), (d0, .inl (cI, 4096, .inl g))]) [0, 1] (by decide) rfl
          have hKc := hK.sub (tys' := [(cI, .int)]) [1] rfl
          have hFc := va_free (wc := [(t0, .inr (5, [.ref d0, .int w, .int h])), (d0, .inl (cI, 4096, .inl g))]) hD hS hA [0, 1] rfl
          refine va_calli (va_runV (As := [.int 0, .int 0]) (rest := []) ⟨hx, hb, hml, hown, hts⟩ (k_X5_boxSide l D H.size t0 d0 w h g 0 0 cI (by first | assumption | omega | decide) (by first | assumption | omega | decide)) (cwV 2 hts (gV bw_338 bw_164 bw_165 bw_130 bw_163) rfl rfl rfl (by decide +kernel) ⟨(by rw [hR]; exact Nat.le_of_ble_eq_true rfl), (by rw [hR]; exact Nat.le_of_ble_eq_true rfl)⟩) ⟨cP_blind, va_recv hKc hPc (ci := 5) (q0 := 0) rfl rfl, cP_at hPc hKc hDc hN⟩ rfl rfl hl.1 rfl (lv_room (Nat.le_of_ble_eq_true rfl)) dX8_look_91 ⟨(by rw [hR]; exact Nat.le_of_ble_eq_true rfl), (by rw [hR]; exact Nat.le_of_ble_eq_true rfl)⟩) hS (fun q _ h => hFc q h) hFc (fun r_16 u9 t9 H1 locs ht hvm hr_16 hB hz1 hk1 hS => ?_)
          try dsimp only at hr_16
          obtain ⟨hP1, hK1, hD1⟩ := hB
          rw [ht] at hP1
          obtain ⟨hP, hD⟩ := va_join (wr := [(h0, .inr (8, [.ref s1, .ref s2, .ref s3, .ref s4, .ref s5, .ref s6, .int ds, va_rf sp, va_rf bt])), (s1, .inl (cO, 4, .inr (.inr (.inr (.inr f)))))]) (w1 := [(t0, .inr (5, [.ref d0, .int w, .int h])), (d0, .inl (cI, 4096, .inl g))]) hP hD [0, 1] [2, 3] rfl rfl (by decide) (by decide) hk1 hFc hP1 hD1
          clear hz1 hk1 hFc hKc hDc hPc
          generalize H1 = H at hP hS ⊢
          have hP : va_P D vwCl [(h0, .inr (8, [.ref s1, .ref s2, .ref s3, .ref s4, .ref s5, .ref s6, .int ds, va_rf sp, va_rf bt])), (s1, .inl (cO, 4, .inr (.inr (.inr (.inr f))))), (t0, .inr (5, [.ref d0, .int w, .int h])), (d0, .inl (cI, 4096, .inl g))] H := hP
          have hD : va_D A [(h0, .inr (8, [.ref s1, .ref s2, .ref s3, .ref s4, .ref s5, .ref s6, .int ds, va_rf sp, va_rf bt])), (s1, .inl (cO, 4, .inr (.inr (.inr (.inr f))))), (t0, .inr (5, [.ref d0, .int w, .int h])), (d0, .inl (cI, 4096, .inl g))] := hD
          have hP9 := hP.sub (ws' := [(h0, .inr (8, [.ref s1, .ref s2, .ref s3, .ref s4, .ref s5, .ref s6, .int ds, va_rf sp, va_rf bt])), (s1, .inl (cO, 4, .inr (.inr (.inr (.inr f))))), (t0, .inr (5, [.ref d0, .int w, .int h])), (d0, .inl (cI, 4096, .inl g))]) [0, 1, 2, 3] rfl
          have hD9 := hD.sub (ws' := [(h0, .inr (8, [.ref s1, .ref s2, .ref s3, .ref s4, .ref s5, .ref s6, .int ds, va_rf sp, va_rf bt])), (s1, .inl (cO, 4, .inr (.inr (.inr (.inr f))))), (t0, .inr (5, [.ref d0, .int w, .int h])), (d0, .inl (cI, 4096, .inl g))]) [0, 1, 2, 3] (by decide) rfl
          have hK9 := hK.sub (tys' := [(cO, .object "DotBench$Sheet"), (cI, .int)]) [0, 1] rfl
          refine hQ _ _ _ _ _ ?_
          exact W.iret (v := r_16) hx hb hr (fun t ht hW => ⟨⟨r_16, (), rfl, trivial, ⟨by rw [ht]; exact hP9, va_K.moved hW.alike hK9, hD9⟩⟩, hS.F ht⟩) hS.2.2 dX8_look_94
        · skip
          exact absurd c_14 (by decide)
      · skip
        exact absurd c_12 (by decide)
    · skip
      refine lv_tableIn (off := 55) (tgt := 68) hx hb dX8_look_13 (by decide) (by decide) rfl (by decide) ?_
      have hl : lv_has ls 4 [(3, .ref t0), (0, .ref h0), (1, .int k), (2, .int 3)] := hl
      refine lv_aload_n hx hb dX8_look_68 rfl (lv_at hl 0 rfl) ?_
      refine lv_iload_n hx hb dX8_look_69 rfl (lv_at hl 3 rfl) ?_
      refine lv_iconst (v := 2) hx hb dX8_look_70 (by decide) ?_
      refine lv_icmp_ge (tgt := 78) hx hb dX8_look_71 (by decide) (fun c_17 => ?_) (fun c_17 => ?_)
      · skip
        refine lv_iconst (v := 0) hx hb dX8_look_78 (by decide) ?_
        refine lv_iload_n hx hb dX8_look_79 rfl (lv_at hl 3 rfl) ?_
        refine lv_iconst (v := 2) hx hb dX8_look_80 (by decide) ?_
        refine lv_irem hx hb dX8_look_81 (by decide) ?_
        refine my_fold (v := 1) (by decide) ?_
        refine lv_iconst (v := 1) hx hb dX8_look_82 (by decide) ?_
        refine lv_icmp_ne (tgt := 90) hx hb dX8_look_83 (by decide) (fun c_19 => ?_) (fun c_19 => ?_)
        · skip
          exact absurd c_19 (by decide)
        · skip
          refine lv_iconst (v := 1) hx hb dX8_look_86 (by decide) ?_
          refine lv_goto (tgt := 91) hx hb dX8_look_87 (by decide) ?_
          have hPc := hP.sub (ws' := [(t0, .inr (5, [.ref d0, .int w, .int h])), (d0, .inl (cI, 4096, .inl g))]) [0, 1] rfl
          have hDc := hD.sub (ws' := [(t0, .inr (5, [.ref d0, .int w, .int h])), (d0, .inl (cI, 4096, .inl g))]) [0, 1] (by decide) rfl
          have hKc := hK.sub (tys' := [(cI, .int)]) [1] rfl
          have hFc := va_free (wc := [(t0, .inr (5, [.ref d0, .int w, .int h])), (d0, .inl (cI, 4096, .inl g))]) hD hS hA [0, 1] rfl
          refine va_calli (va_runV (As := [.int 0, .int 1]) (rest := []) ⟨hx, hb, hml, hown, hts⟩ (k_X5_boxSide l D H.size t0 d0 w h g 0 1 cI (by first | assumption | omega | decide) (by first | assumption | omega | decide)) (cwV 2 hts (gV bw_338 bw_164 bw_165 bw_130 bw_163) rfl rfl rfl (by decide +kernel) ⟨(by rw [hR]; exact Nat.le_of_ble_eq_true rfl), (by rw [hR]; exact Nat.le_of_ble_eq_true rfl)⟩) ⟨cP_blind, va_recv hKc hPc (ci := 5) (q0 := 0) rfl rfl, cP_at hPc hKc hDc hN⟩ rfl rfl hl.1 rfl (lv_room (Nat.le_of_ble_eq_true rfl)) dX8_look_91 ⟨(by rw [hR]; exact Nat.le_of_ble_eq_true rfl), (by rw [hR]; exact Nat.le_of_ble_eq_true rfl)⟩) hS (fun q _ h => hFc q h) hFc (fun r_21 u9 t9 H1 locs ht hvm hr_21 hB hz1 hk1 hS => ?_)
          try dsimp only at hr_21
          obtain ⟨hP1, hK1, hD1⟩ := hB
          rw [ht] at hP1
          obtain ⟨hP, hD⟩ := va_join (wr := [(h0, .inr (8, [.ref s1, .ref s2, .ref s3, .ref s4, .ref s5, .ref s6, .int ds, va_rf sp, va_rf bt])), (s1, .inl (cO, 4, .inr (.inr (.inr (.inr f)))))]) (w1 := [(t0, .inr (5, [.ref d0, .int w, .int h])), (d0, .inl (cI, 4096, .inl g))]) hP hD [0, 1] [2, 3] rfl rfl (by decide) (by decide) hk1 hFc hP1 hD1
          clear hz1 hk1 hFc hKc hDc hPc
          generalize H1 = H at hP hS ⊢
          have hP : va_P D vwCl [(h0, .inr (8, [.ref s1, .ref s2, .ref s3, .ref s4, .ref s5, .ref s6, .int ds, va_rf sp, va_rf bt])), (s1, .inl (cO, 4, .inr (.inr (.inr (.inr f))))), (t0, .inr (5, [.ref d0, .int w, .int h])), (d0, .inl (cI, 4096, .inl g))] H := hP
          have hD : va_D A [(h0, .inr (8, [.ref s1, .ref s2, .ref s3, .ref s4, .ref s5, .ref s6, .int ds, va_rf sp, va_rf bt])), (s1, .inl (cO, 4, .inr (.inr (.inr (.inr f))))), (t0, .inr (5, [.ref d0, .int w, .int h])), (d0, .inl (cI, 4096, .inl g))] := hD
          have hP9 := hP.sub (ws' := [(h0, .inr (8, [.ref s1, .ref s2, .ref s3, .ref s4, .ref s5, .ref s6, .int ds, va_rf sp, va_rf bt])), (s1, .inl (cO, 4, .inr (.inr (.inr (.inr f))))), (t0, .inr (5, [.ref d0, .int w, .int h])), (d0, .inl (cI, 4096, .inl g))]) [0, 1, 2, 3] rfl
          have hD9 := hD.sub (ws' := [(h0, .inr (8, [.ref s1, .ref s2, .ref s3, .ref s4, .ref s5, .ref s6, .int ds, va_rf sp, va_rf bt])), (s1, .inl (cO, 4, .inr (.inr (.inr (.inr f))))), (t0, .inr (5, [.ref d0, .int w, .int h])), (d0, .inl (cI, 4096, .inl g))]) [0, 1, 2, 3] (by decide) rfl
          have hK9 := hK.sub (tys' := [(cO, .object "DotBench$Sheet"), (cI, .int)]) [0, 1] rfl
          refine hQ _ _ _ _ _ ?_
          exact W.iret (v := r_21) hx hb hr (fun t ht hW => ⟨⟨r_21, (), rfl, trivial, ⟨by rw [ht]; exact hP9, va_K.moved hW.alike hK9, hD9⟩⟩, hS.F ht⟩) hS.2.2 dX8_look_94
      · skip
        exact absurd c_17 (by decide)
    · skip
      refine lv_tableIn (off := 82) (tgt := 95) hx hb dX8_look_13 (by decide) (by decide) rfl (by decide) ?_
      have hl : lv_has ls 4 [(3, .ref t0), (0, .ref h0), (1, .int k), (2, .int 4)] := hl
      refine lv_aload_n hx hb dX8_look_95 rfl (lv_at hl 0 rfl) ?_
      refine va_getN (host := RX8) (D := D) (ci := 5) (v := .int w) (C := RX5) (T := TX5) (N := 3) hx hb hts hi_X5 hown hK hP 0 rfl rfl 1 (by decide) ((hN.1 (RX8, 148, "DotBench$Sheet", "width", "I", RX8) (by decide +kernel)).use rfl) (fun _ h9 => h9) rfl dX8_look_96 ?_
      have hP9 := hP.sub (ws' := [(h0, .inr (8, [.ref s1, .ref s2, .ref s3, .ref s4, .ref s5, .ref s6, .int ds, va_rf sp, va_rf bt])), (s1, .inl (cO, 4, .inr (.inr (.inr (.inr f))))), (t0, .inr (5, [.ref d0, .int w, .int h])), (d0, .inl (cI, 4096, .inl g))]) [2, 3, 0, 1] rfl
      have hD9 := hD.sub (ws' := [(h0, .inr (8, [.ref s1, .ref s2, .ref s3, .ref s4, .ref s5, .ref s6, .int ds, va_rf sp, va_rf bt])), (s1, .inl (cO, 4, .inr (.inr (.inr (.inr f))))), (t0, .inr (5, [.ref d0, .int w, .int h])), (d0, .inl (cI, 4096, .inl g))]) [2, 3, 0, 1] (by decide) rfl
      have hK9 := hK.sub (tys' := [(cO, .object "DotBench$Sheet"), (cI, .int)]) [0, 1] rfl
      refine hQ _ _ _ _ _ ?_
      exact W.iret (v := w) hx hb hr (fun t ht hW => ⟨⟨w, (), rfl, trivial, ⟨by rw [ht]; exact hP9, va_K.moved hW.alike hK9, hD9⟩⟩, hS.F ht⟩) hS.2.2 dX8_look_99
    · skip
      refine lv_tableIn (off := 87) (tgt := 100) hx hb dX8_look_13 (by decide) (by decide) rfl (by decide) ?_
      have hl : lv_has ls 4 [(3, .ref t0), (0, .ref h0), (1, .int k), (2, .int 5)] := hl
      refine lv_aload_n hx hb dX8_look_100 rfl (lv_at hl 0 rfl) ?_
      refine va_getN (host := RX8) (D := D) (ci := 5) (v := .int h) (C := RX5) (T := TX5) (N := 3) hx hb hts hi_X5 hown hK hP 0 rfl rfl 2 (by decide) ((hN.1 (RX8, 145, "DotBench$Sheet", "height", "I", RX8) (by decide +kernel)).use rfl) (fun _ h9 => h9) rfl dX8_look_101 ?_
      have hP9 := hP.sub (ws' := [(h0, .inr (8, [.ref s1, .ref s2, .ref s3, .ref s4, .ref s5, .ref s6, .int ds, va_rf sp, va_rf bt])), (s1, .inl (cO, 4, .inr (.inr (.inr (.inr f))))), (t0, .inr (5, [.ref d0, .int w, .int h])), (d0, .inl (cI, 4096, .inl g))]) [2, 3, 0, 1] rfl
      have hD9 := hD.sub (ws' := [(h0, .inr (8, [.ref s1, .ref s2, .ref s3, .ref s4, .ref s5, .ref s6, .int ds, va_rf sp, va_rf bt])), (s1, .inl (cO, 4, .inr (.inr (.inr (.inr f))))), (t0, .inr (5, [.ref d0, .int w, .int h])), (d0, .inl (cI, 4096, .inl g))]) [2, 3, 0, 1] (by decide) rfl
      have hK9 := hK.sub (tys' := [(cO, .object "DotBench$Sheet"), (cI, .int)]) [0, 1] rfl
      refine hQ _ _ _ _ _ ?_
      exact W.iret (v := h) hx hb hr (fun t ht hW => ⟨⟨h, (), rfl, trivial, ⟨by rw [ht]; exact hP9, va_K.moved hW.alike hK9, hD9⟩⟩, hS.F ht⟩) hS.2.2 dX8_look_104
    · skip
      refine lv_tableIn (off := 92) (tgt := 105) hx hb dX8_look_13 (by decide) (by decide) rfl (by decide) ?_
      have hl : lv_has ls 4 [(3, .ref t0), (0, .ref h0), (1, .int k), (2, .int 6)] := hl
      refine lv_aload_n hx hb dX8_look_105 rfl (lv_at hl 0 rfl) ?_
      refine lv_bipush (v := 24) hx hb dX8_look_106 (by decide) ?_
      refine lv_bipush (v := 8) hx hb dX8_look_108 (by decide) ?_
      refine lv_iload_n hx hb dX8_look_110 rfl (lv_at hl 3 rfl) ?_
      refine lv_bipush (v := 6) hx hb dX8_look_111 (by decide) ?_
      refine lv_isub hx hb dX8_look_113 ?_
      refine my_fold (v := 0) (by decide) ?_
      refine lv_imul hx hb dX8_look_114 ?_
      refine my_fold (v := 0) (by decide) ?_
      refine lv_isub hx hb dX8_look_115 ?_
      refine my_fold (v := 24) (by decide) ?_
      have hPc := hP.sub (ws' := [(t0, .inr (5, [.ref d0, .int w, .int h])), (d0, .inl (cI, 4096, .inl g))]) [0, 1] rfl
      have hDc := hD.sub (ws' := [(t0, .inr (5, [.ref d0, .int w, .int h])), (d0, .inl (cI, 4096, .inl g))]) [0, 1] (by decide) rfl
      have hKc := hK.sub (tys' := [(cI, .int)]) [1] rfl
      have hFc := va_free (wc := [(t0, .inr (5, [.ref d0, .int w, .int h])), (d0, .inl (cI, 4096, .inl g))]) hD hS hA [0, 1] rfl
      refine va_calli (va_runV (As := [.int 24]) (rest := []) ⟨hx, hb, hml, hown, hts⟩ (k_X5_channelSum l D H.size t0 d0 w h g 24 cI (by first | assumption | omega | decide) (by first | assumption | omega | decide)) (cwV 1 hts (gV bw_339 bw_160 bw_161 bw_130 bw_159) rfl rfl rfl (by decide +kernel) ⟨(by rw [hR]; exact Nat.le_of_ble_eq_true rfl), (by rw [hR]; exact Nat.le_of_ble_eq_true rfl)⟩) ⟨cP_blind, va_recv hKc hPc (ci := 5) (q0 := 0) rfl rfl, cP_at hPc hKc hDc hN⟩ rfl rfl hl.1 rfl (lv_room (Nat.le_of_ble_eq_true rfl)) dX8_look_116 ⟨(by rw [hR]; exact Nat.le_of_ble_eq_true rfl), (by rw [hR]; exact Nat.le_of_ble_eq_true rfl)⟩) hS (fun q _ h => hFc q h) hFc (fun r_22 u9 t9 H1 locs ht hvm hr_22 hB hz1 hk1 hS => ?_)
      try dsimp only at hr_22
      obtain ⟨hP1, hK1, hD1⟩ := hB
      rw [ht] at hP1
      obtain ⟨hP, hD⟩ := va_join (wr := [(h0, .inr (8, [.ref s1, .ref s2, .ref s3, .ref s4, .ref s5, .ref s6, .int ds, va_rf sp, va_rf bt])), (s1, .inl (cO, 4, .inr (.inr (.inr (.inr f)))))]) (w1 := [(t0, .inr (5, [.ref d0, .int w, .int h])), (d0, .inl (cI, 4096, .inl g))]) hP hD [0, 1] [2, 3] rfl rfl (by decide) (by decide) hk1 hFc hP1 hD1
      clear hz1 hk1 hFc hKc hDc hPc
      generalize H1 = H at hP hS ⊢
      have hP : va_P D vwCl [(h0, .inr (8, [.ref s1, .ref s2, .ref s3, .ref s4, .ref s5, .ref s6, .int ds, va_rf sp, va_rf bt])), (s1, .inl (cO, 4, .inr (.inr (.inr (.inr f))))), (t0, .inr (5, [.ref d0, .int w, .int h])), (d0, .inl (cI, 4096, .inl g))] H := hP
      have hD : va_D A [(h0, .inr (8, [.ref s1, .ref s2, .ref s3, .ref s4, .ref s5, .ref s6, .int ds, va_rf sp, va_rf bt])), (s1, .inl (cO, 4, .inr (.inr (.inr (.inr f))))), (t0, .inr (5, [.ref d0, .int w, .int h])), (d0, .inl (cI, 4096, .inl g))] := hD
      have hP9 := hP.sub (ws' := [(h0, .inr (8, [.ref s1, .ref s2, .ref s3, .ref s4, .ref s5, .ref s6, .int ds, va_rf sp, va_rf bt])), (s1, .inl (cO, 4, .inr (.inr (.inr (.inr f))))), (t0, .inr (5, [.ref d0, .int w, .int h])), (d0, .inl (cI, 4096, .inl g))]) [0, 1, 2, 3] rfl
      have hD9 := hD.sub (ws' := [(h0, .inr (8, [.ref s1, .ref s2, .ref s3, .ref s4, .ref s5, .ref s6, .int ds, va_rf sp, va_rf bt])), (s1, .inl (cO, 4, .inr (.inr (.inr (.inr f))))), (t0, .inr (5, [.ref d0, .int w, .int h])), (d0, .inl (cI, 4096, .inl g))]) [0, 1, 2, 3] (by decide) rfl
      have hK9 := hK.sub (tys' := [(cO, .object "DotBench$Sheet"), (cI, .int)]) [0, 1] rfl
      refine hQ _ _ _ _ _ ?_
      exact W.iret (v := r_22) hx hb hr (fun t ht hW => ⟨⟨r_22, (), rfl, trivial, ⟨by rw [ht]; exact hP9, va_K.moved hW.alike hK9, hD9⟩⟩, hS.F ht⟩) hS.2.2 dX8_look_119
    · skip
      refine lv_tableIn (off := 92) (tgt := 105) hx hb dX8_look_13 (by decide) (by decide) rfl (by decide) ?_
      have hl : lv_has ls 4 [(3, .ref t0), (0, .ref h0), (1, .int k), (2, .int 7)] := hl
      refine lv_aload_n hx hb dX8_look_105 rfl (lv_at hl 0 rfl) ?_
      refine lv_bipush (v := 24) hx hb dX8_look_106 (by decide) ?_
      refine lv_bipush (v := 8) hx hb dX8_look_108 (by decide) ?_
      refine lv_iload_n hx hb dX8_look_110 rfl (lv_at hl 3 rfl) ?_
      refine lv_bipush (v := 6) hx hb dX8_look_111 (by decide) ?_
      refine lv_isub hx hb dX8_look_113 ?_
      refine my_fold (v := 1) (by decide) ?_
      refine lv_imul hx hb dX8_look_114 ?_
      refine my_fold (v := 8) (by decide) ?_
      refine lv_isub hx hb dX8_look_115 ?_
      refine my_fold (v := 16) (by decide) ?_
      have hPc := hP.sub (ws' := [(t0, .inr (5, [.ref d0, .int w, .int h])), (d0, .inl (cI, 4096, .inl g))]) [0, 1] rfl
      have hDc := hD.sub (ws' := [(t0, .inr (5, [.ref d0, .int w, .int h])), (d0, .inl (cI, 4096, .inl g))]) [0, 1] (by decide) rfl
      have hKc := hK.sub (tys' := [(cI, .int)]) [1] rfl
      have hFc := va_free (wc := [(t0, .inr (5, [.ref d0, .int w, .int h])), (d0, .inl (cI, 4096, .inl g))]) hD hS hA [0, 1] rfl
      refine va_calli (va_runV (As := [.int 16]) (rest := []) ⟨hx, hb, hml, hown, hts⟩ (k_X5_channelSum l D H.size t0 d0 w h g 16 cI (by first | assumption | omega | decide) (by first | assumption | omega | decide)) (cwV 1 hts (gV bw_339 bw_160 bw_161 bw_130 bw_159) rfl rfl rfl (by decide +kernel) ⟨(by rw [hR]; exact Nat.le_of_ble_eq_true rfl), (by rw [hR]; exact Nat.le_of_ble_eq_true rfl)⟩) ⟨cP_blind, va_recv hKc hPc (ci := 5) (q0 := 0) rfl rfl, cP_at hPc hKc hDc hN⟩ rfl rfl hl.1 rfl (lv_room (Nat.le_of_ble_eq_true rfl)) dX8_look_116 ⟨(by rw [hR]; exact Nat.le_of_ble_eq_true rfl), (by rw [hR]; exact Nat.le_of_ble_eq_true rfl)⟩) hS (fun q _ h => hFc q h) hFc (fun r_23 u9 t9 H1 locs ht hvm hr_23 hB hz1 hk1 hS => ?_)
      try dsimp only at hr_23
      obtain ⟨hP1, hK1, hD1⟩ := hB
      rw [ht] at hP1
      obtain ⟨hP, hD⟩ := va_join (wr := [(h0, .inr (8, [.ref s1, .ref s2, .ref s3, .ref s4, .ref s5, .ref s6, .int ds, va_rf sp, va_rf bt])), (s1, .inl (cO, 4, .inr (.inr (.inr (.inr f)))))]) (w1 := [(t0, .inr (5, [.ref d0, .int w, .int h])), (d0, .inl (cI, 4096, .inl g))]) hP hD [0, 1] [2, 3] rfl rfl (by decide) (by decide) hk1 hFc hP1 hD1
      clear hz1 hk1 hFc hKc hDc hPc
      generalize H1 = H at hP hS ⊢
      have hP : va_P D vwCl [(h0, .inr (8, [.ref s1, .ref s2, .ref s3, .ref s4, .ref s5, .ref s6, .int ds, va_rf sp, va_rf bt])), (s1, .inl (cO, 4, .inr (.inr (.inr (.inr f))))), (t0, .inr (5, [.ref d0, .int w, .int h])), (d0, .inl (cI, 4096, .inl g))] H := hP
      have hD : va_D A [(h0, .inr (8, [.ref s1, .ref s2, .ref s3, .ref s4, .ref s5, .ref s6, .int ds, va_rf sp, va_rf bt])), (s1, .inl (cO, 4, .inr (.inr (.inr (.inr f))))), (t0, .inr (5, [.ref d0, .int w, .int h])), (d0, .inl (cI, 4096, .inl g))] := hD
      have hP9 := hP.sub (ws' := [(h0, .inr (8, [.ref s1, .ref s2, .ref s3, .ref s4, .ref s5, .ref s6, .int ds, va_rf sp, va_rf bt])), (s1, .inl (cO, 4, .inr (.inr (.inr (.inr f))))), (t0, .inr (5, [.ref d0, .int w, .int h])), (d0, .inl (cI, 4096, .inl g))]) [0, 1, 2, 3] rfl
      have hD9 := hD.sub (ws' := [(h0, .inr (8, [.ref s1, .ref s2, .ref s3, .ref s4, .ref s5, .ref s6, .int ds, va_rf sp, va_rf bt])), (s1, .inl (cO, 4, .inr (.inr (.inr (.inr f))))), (t0, .inr (5, [.ref d0, .int w, .int h])), (d0, .inl (cI, 4096, .inl g))]) [0, 1, 2, 3] (by decide) rfl
      have hK9 := hK.sub (tys' := [(cO, .object "DotBench$Sheet"), (cI, .int)]) [0, 1] rfl
      refine hQ _ _ _ _ _ ?_
      exact W.iret (v := r_23) hx hb hr (fun t ht hW => ⟨⟨r_23, (), rfl, trivial, ⟨by rw [ht]; exact hP9, va_K.moved hW.alike hK9, hD9⟩⟩, hS.F ht⟩) hS.2.2 dX8_look_119
    · skip
      refine lv_tableIn (off := 92) (tgt := 105) hx hb dX8_look_13 (by decide) (by decide) rfl (by decide) ?_
      have hl : lv_has ls 4 [(3, .ref t0), (0, .ref h0), (1, .int k), (2, .int 8)] := hl
      refine lv_aload_n hx hb dX8_look_105 rfl (lv_at hl 0 rfl) ?_
      refine lv_bipush (v := 24) hx hb dX8_look_106 (by decide) ?_
      refine lv_bipush (v := 8) hx hb dX8_look_108 (by decide) ?_
      refine lv_iload_n hx hb dX8_look_110 rfl (lv_at hl 3 rfl) ?_
      refine lv_bipush (v := 6) hx hb dX8_look_111 (by decide) ?_
      refine lv_isub hx hb dX8_look_113 ?_
      refine my_fold (v := 2) (by decide) ?_
      refine lv_imul hx hb dX8_look_114 ?_
      refine my_fold (v := 16) (by decide) ?_
      refine lv_isub hx hb dX8_look_115 ?_
      refine my_fold (v := 8) (by decide) ?_
      have hPc := hP.sub (ws' := [(t0, .inr (5, [.ref d0, .int w, .int h])), (d0, .inl (cI, 4096, .inl g))]) [0, 1] rfl
      have hDc := hD.sub (ws' := [(t0, .inr (5, [.ref d0, .int w, .int h])), (d0, .inl (cI, 4096, .inl g))]) [0, 1] (by decide) rfl
      have hKc := hK.sub (tys' := [(cI, .int)]) [1] rfl
      have hFc := va_free (wc := [(t0, .inr (5, [.ref d0, .int w, .int h])), (d0, .inl (cI, 4096, .inl g))]) hD hS hA [0, 1] rfl
      refine va_calli (va_runV (As := [.int 8]) (rest := []) ⟨hx, hb, hml, hown, hts⟩ (k_X5_channelSum l D H.size t0 d0 w h g 8 cI (by first | assumption | omega | decide) (by first | assumption | omega | decide)) (cwV 1 hts (gV bw_339 bw_160 bw_161 bw_130 bw_159) rfl rfl rfl (by decide +kernel) ⟨(by rw [hR]; exact Nat.le_of_ble_eq_true rfl), (by rw [hR]; exact Nat.le_of_ble_eq_true rfl)⟩) ⟨cP_blind, va_recv hKc hPc (ci := 5) (q0 := 0) rfl rfl, cP_at hPc hKc hDc hN⟩ rfl rfl hl.1 rfl (lv_room (Nat.le_of_ble_eq_true rfl)) dX8_look_116 ⟨(by rw [hR]; exact Nat.le_of_ble_eq_true rfl), (by rw [hR]; exact Nat.le_of_ble_eq_true rfl)⟩) hS (fun q _ h => hFc q h) hFc (fun r_24 u9 t9 H1 locs ht hvm hr_24 hB hz1 hk1 hS => ?_)
      try dsimp only at hr_24
      obtain ⟨hP1, hK1, hD1⟩ := hB
      rw [ht] at hP1
      obtain ⟨hP, hD⟩ := va_join (wr := [(h0, .inr (8, [.ref s1, .ref s2, .ref s3, .ref s4, .ref s5, .ref s6, .int ds, va_rf sp, va_rf bt])), (s1, .inl (cO, 4, .inr (.inr (.inr (.inr f)))))]) (w1 := [(t0, .inr (5, [.ref d0, .int w, .int h])), (d0, .inl (cI, 4096, .inl g))]) hP hD [0, 1] [2, 3] rfl rfl (by decide) (by decide) hk1 hFc hP1 hD1
      clear hz1 hk1 hFc hKc hDc hPc
      generalize H1 = H at hP hS ⊢
      have hP : va_P D vwCl [(h0, .inr (8, [.ref s1, .ref s2, .ref s3, .ref s4, .ref s5, .ref s6, .int ds, va_rf sp, va_rf bt])), (s1, .inl (cO, 4, .inr (.inr (.inr (.inr f))))), (t0, .inr (5, [.ref d0, .int w, .int h])), (d0, .inl (cI, 4096, .inl g))] H := hP
      have hD : va_D A [(h0, .inr (8, [.ref s1, .ref s2, .ref s3, .ref s4, .ref s5, .ref s6, .int ds, va_rf sp, va_rf bt])), (s1, .inl (cO, 4, .inr (.inr (.inr (.inr f))))), (t0, .inr (5, [.ref d0, .int w, .int h])), (d0, .inl (cI, 4096, .inl g))] := hD
      have hP9 := hP.sub (ws' := [(h0, .inr (8, [.ref s1, .ref s2, .ref s3, .ref s4, .ref s5, .ref s6, .int ds, va_rf sp, va_rf bt])), (s1, .inl (cO, 4, .inr (.inr (.inr (.inr f))))), (t0, .inr (5, [.ref d0, .int w, .int h])), (d0, .inl (cI, 4096, .inl g))]) [0, 1, 2, 3] rfl
      have hD9 := hD.sub (ws' := [(h0, .inr (8, [.ref s1, .ref s2, .ref s3, .ref s4, .ref s5, .ref s6, .int ds, va_rf sp, va_rf bt])), (s1, .inl (cO, 4, .inr (.inr (.inr (.inr f))))), (t0, .inr (5, [.ref d0, .int w, .int h])), (d0, .inl (cI, 4096, .inl g))]) [0, 1, 2, 3] (by decide) rfl
      have hK9 := hK.sub (tys' := [(cO, .object "DotBench$Sheet"), (cI, .int)]) [0, 1] rfl
      refine hQ _ _ _ _ _ ?_
      exact W.iret (v := r_24) hx hb hr (fun t ht hW => ⟨⟨r_24, (), rfl, trivial, ⟨by rw [ht]; exact hP9, va_K.moved hW.alike hK9, hD9⟩⟩, hS.F ht⟩) hS.2.2 dX8_look_119
    · skip
      refine lv_tableIn (off := 92) (tgt := 105) hx hb dX8_look_13 (by decide) (by decide) rfl (by decide) ?_
      have hl : lv_has ls 4 [(3, .ref t0), (0, .ref h0), (1, .int k), (2, .int 9)] := hl
      refine lv_aload_n hx hb dX8_look_105 rfl (lv_at hl 0 rfl) ?_
      refine lv_bipush (v := 24) hx hb dX8_look_106 (by decide) ?_
      refine lv_bipush (v := 8) hx hb dX8_look_108 (by decide) ?_
      refine lv_iload_n hx hb dX8_look_110 rfl (lv_at hl 3 rfl) ?_
      refine lv_bipush (v := 6) hx hb dX8_look_111 (by decide) ?_
      refine lv_isub hx hb dX8_look_113 ?_
      refine my_fold (v := 3) (by decide) ?_
      refine lv_imul hx hb dX8_look_114 ?_
      refine my_fold (v := 24) (by decide) ?_
      refine lv_isub hx hb dX8_look_115 ?_
      refine my_fold (v := 0) (by decide) ?_
      have hPc := hP.sub (ws' := [(t0, .inr (5, [.ref d0, .int w, .int h])), (d0, .inl (cI, 4096, .inl g))]) [0, 1] rfl
      have hDc := hD.sub (ws' := [(t0, .inr (5, [.ref d0, .int w, .int h])), (d0, .inl (cI, 4096, .inl g))]) [0, 1] (by decide) rfl
      have hKc := hK.sub (tys' := [(cI, .int)]) [1] rfl
      have hFc := va_free (wc := [(t0, .inr (5, [.ref d0, .int w, .int h])), (d0, .inl (cI, 4096, .inl g))]) hD hS hA [0, 1] rfl
      refine va_calli (va_runV (As := [.int 0]) (rest := []) ⟨hx, hb, hml, hown, hts⟩ (k_X5_channelSum l D H.size t0 d0 w h g 0 cI (by first | assumption | omega | decide) (by first | assumption | omega | decide)) (cwV 1 hts (gV bw_339 bw_160 bw_161 bw_130 bw_159) rfl rfl rfl (by decide +kernel) ⟨(by rw [hR]; exact Nat.le_of_ble_eq_true rfl), (by rw [hR]; exact Nat.le_of_ble_eq_true rfl)⟩) ⟨cP_blind, va_recv hKc hPc (ci := 5) (q0 := 0) rfl rfl, cP_at hPc hKc hDc hN⟩ rfl rfl hl.1 rfl (lv_room (Nat.le_of_ble_eq_true rfl)) dX8_look_116 ⟨(by rw [hR]; exact Nat.le_of_ble_eq_true rfl), (by rw [hR]; exact Nat.le_of_ble_eq_true rfl)⟩) hS (fun q _ h => hFc q h) hFc (fun r_25 u9 t9 H1 locs ht hvm hr_25 hB hz1 hk1 hS => ?_)
      try dsimp only at hr_25
      obtain ⟨hP1, hK1, hD1⟩ := hB
      rw [ht] at hP1
      obtain ⟨hP, hD⟩ := va_join (wr := [(h0, .inr (8, [.ref s1, .ref s2, .ref s3, .ref s4, .ref s5, .ref s6, .int ds, va_rf sp, va_rf bt])), (s1, .inl (cO, 4, .inr (.inr (.inr (.inr f)))))]) (w1 := [(t0, .inr (5, [.ref d0, .int w, .int h])), (d0, .inl (cI, 4096, .inl g))]) hP hD [0, 1] [2, 3] rfl rfl (by decide) (by decide) hk1 hFc hP1 hD1
      clear hz1 hk1 hFc hKc hDc hPc
      generalize H1 = H at hP hS ⊢
      have hP : va_P D vwCl [(h0, .inr (8, [.ref s1, .ref s2, .ref s3, .ref s4, .ref s5, .ref s6, .int ds, va_rf sp, va_rf bt])), (s1, .inl (cO, 4, .inr (.inr (.inr (.inr f))))), (t0, .inr (5, [.ref d0, .int w, .int h])), (d0, .inl (cI, 4096, .inl g))] H := hP
      have hD : va_D A [(h0, .inr (8, [.ref s1, .ref s2, .ref s3, .ref s4, .ref s5, .ref s6, .int ds, va_rf sp, va_rf bt])), (s1, .inl (cO, 4, .inr (.inr (.inr (.inr f))))), (t0, .inr (5, [.ref d0, .int w, .int h])), (d0, .inl (cI, 4096, .inl g))] := hD
      have hP9 := hP.sub (ws' := [(h0, .inr (8, [.ref s1, .ref s2, .ref s3, .ref s4, .ref s5, .ref s6, .int ds, va_rf sp, va_rf bt])), (s1, .inl (cO, 4, .inr (.inr (.inr (.inr f))))), (t0, .inr (5, [.ref d0, .int w, .int h])), (d0, .inl (cI, 4096, .inl g))]) [0, 1, 2, 3] rfl
      have hD9 := hD.sub (ws' := [(h0, .inr (8, [.ref s1, .ref s2, .ref s3, .ref s4, .ref s5, .ref s6, .int ds, va_rf sp, va_rf bt])), (s1, .inl (cO, 4, .inr (.inr (.inr (.inr f))))), (t0, .inr (5, [.ref d0, .int w, .int h])), (d0, .inl (cI, 4096, .inl g))]) [0, 1, 2, 3] (by decide) rfl
      have hK9 := hK.sub (tys' := [(cO, .object "DotBench$Sheet"), (cI, .int)]) [0, 1] rfl
      refine hQ _ _ _ _ _ ?_
      exact W.iret (v := r_25) hx hb hr (fun t ht hW => ⟨⟨r_25, (), rfl, trivial, ⟨by rw [ht]; exact hP9, va_K.moved hW.alike hK9, hD9⟩⟩, hS.F ht⟩) hS.2.2 dX8_look_119
  · skip
    refine lv_tableOut (tgt := 120) hx hb dX8_look_13 (by omega) (by decide) ?_
    refine lv_iconst (v := (-1)) hx hb dX8_look_120 (by decide) ?_
    have hP9 := hP.sub (ws' := [(h0, .inr (8, [.ref s1, .ref s2, .ref s3, .ref s4, .ref s5, .ref s6, .int ds, va_rf sp, va_rf bt])), (s1, .inl (cO, 4, .inr (.inr (.inr (.inr f))))), (t0, .inr (5, [.ref d0, .int w, .int h])), (d0, .inl (cI, 4096, .inl g))]) [2, 3, 0, 1] rfl
    have hD9 := hD.sub (ws' := [(h0, .inr (8, [.ref s1, .ref s2, .ref s3, .ref s4, .ref s5, .ref s6, .int ds, va_rf sp, va_rf bt])), (s1, .inl (cO, 4, .inr (.inr (.inr (.inr f))))), (t0, .inr (5, [.ref d0, .int w, .int h])), (d0, .inl (cI, 4096, .inl g))]) [2, 3, 0, 1] (by decide) rfl
    have hK9 := hK.sub (tys' := [(cO, .object "DotBench$Sheet"), (cI, .int)]) [0, 1] rfl
    refine hQ _ _ _ _ _ ?_
    exact W.iret (v := (-1)) hx hb hr (fun t ht hW => ⟨⟨(-1), (), rfl, trivial, ⟨by rw [ht]; exact hP9, va_K.moved hW.alike hK9, hD9⟩⟩, hS.F ht⟩) hS.2.2 dX8_look_121

set_option maxHeartbeats 4000000 in
set_option maxRecDepth 100000 in
theorem k_X8_differ_d (l : Launch) (D : va_G) (sz : Nat) (h0 s1 s2 s3 s4 s5 s6 : Nat) (ds : Int32) (sp bt : Option Nat) (f : Nat → Option Nat) (t0 d0 : Nat) (w h : Int32) (g : Nat → Int32) (u0 e0 : Nat) (w2 h2 : Int32) (gs : Nat → Int32) (k kq : Int32) (cO : ClassId) (cI : ClassId) (hak : 0 ≤ k.toInt ∧ k.toInt ≤ 3) (haf : f k.toNatClampNeg = some u0) (hb0k : 0 ≤ kq.toInt ∧ kq.toInt ≤ 3) (hb0f : f kq.toNatClampNeg = some t0) (hw : w.toInt ≤ 64) (hh : h.toInt ≤ 64) (hw2 : w2.toInt ≤ 64) (hh2 : h2.toInt ≤ 64) : Met l yX8_differ (wB yX8_differ cX8_differ 8 (some .int)) ({ frames := 2, cells := 0, slots := 0, locals := 44 }) (cP D [(h0, .inr (8, [.ref s1, .ref s2, .ref s3, .ref s4, .ref s5, .ref s6, .int ds, va_rf sp, va_rf bt])), (s1, .inl (cO, 4, .inr (.inr (.inr (.inr f))))), (t0, .inr (5, [.ref d0, .int w, .int h])), (d0, .inl (cI, 4096, .inl g)), (u0, .inr (5, [.ref e0, .int w2, .int h2])), (e0, .inl (cI, 4096, .inl gs))] [(cO, .object "DotBench$Sheet"), (cI, .int)] sz [.ref h0, .int k, .int kq]) (va_Qi (fun (r : Int32) (_ : Unit) => True) (fun (_ : Unit) (t : State) => cB D (va_A [(h0, .inr (8, [.ref s1, .ref s2, .ref s3, .ref s4, .ref s5, .ref s6, .int ds, va_rf sp, va_rf bt])), (s1, .inl (cO, 4, .inr (.inr (.inr (.inr f))))), (t0, .inr (5, [.ref d0, .int w, .int h])), (d0, .inl (cI, 4096, .inl g)), (u0, .inr (5, [.ref e0, .int w2, .int h2])), (e0, .inl (cI, 4096, .inl gs))] sz) [(h0, .inr (8, [.ref s1, .ref s2, .ref s3, .ref s4, .ref s5, .ref s6, .int ds, va_rf sp, va_rf bt])), (s1, .inl (cO, 4, .inr (.inr (.inr (.inr f))))), (t0, .inr (5, [.ref d0, .int w, .int h])), (d0, .inl (cI, 4096, .inl g)), (u0, .inr (5, [.ref e0, .int w2, .int h2])), (e0, .inl (cI, 4096, .inl gs))] [(cO, .object "DotBench$Sheet"), (cI, .int)] t) (va_A [(h0, .inr (8, [.ref s1, .ref s2, .ref s3, .ref s4, .ref s5, .ref s6, .int ds, va_rf sp, va_rf bt])), (s1, .inl (cO, 4, .inr (.inr (.inr (.inr f))))), (t0, .inr (5, [.ref d0, .int w, .int h])), (d0, .inl (cI, 4096, .inl g)), (u0, .inr (5, [.ref e0, .int w2, .int h2])), (e0, .inl (cI, 4096, .inl gs))] sz)) 0 0 (va_A [(h0, .inr (8, [.ref s1, .ref s2, .ref s3, .ref s4, .ref s5, .ref s6, .int ds, va_rf sp, va_rf bt])), (s1, .inl (cO, 4, .inr (.inr (.inr (.inr f))))), (t0, .inr (5, [.ref d0, .int w, .int h])), (d0, .inl (cI, 4096, .inl g)), (u0, .inr (5, [.ref e0, .int w2, .int h2])), (e0, .inl (cI, 4096, .inl gs))] sz) := by
  refine Met.ofW (cc := cX8_differ) (maxL := 8) (ret := (some .int)) (by decide) rfl ?_
  intro p e s m args below meth c s₁ B hml hv
  obtain ⟨rfl, hsz, hP, hK, hD0, hN⟩ := hv
  have hx := B.exec
  have hb := B.bytes
  have hr := B.returns
  have hts0 := atoms_spec (ws := (wB yX8_differ cX8_differ 8 (some .int))) B.pre
  have hts : ∀ w ∈ bigW, w.before _ s = true := fun w h => hts0 w (List.mem_cons_of_mem _ h)
  have hown : s.vm.findClass RX8 = some m.cls := findClass_of_methodNamed B.named
  have hlocks := B.notSynchronized
  subst hsz
  have hD := hD0.self (sz := s.heap.size)
  generalize hAe : va_A [(h0, .inr (8, [.ref s1, .ref s2, .ref s3, .ref s4, .ref s5, .ref s6, .int ds, va_rf sp, va_rf bt])), (s1, .inl (cO, 4, .inr (.inr (.inr (.inr f))))), (t0, .inr (5, [.ref d0, .int w, .int h])), (d0, .inl (cI, 4096, .inl g)), (u0, .inr (5, [.ref e0, .int w2, .int h2])), (e0, .inl (cI, 4096, .inl gs))] s.heap.size = A at hD ⊢
  have hA : ∀ q : Nat, s.heap.size ≤ q → A q := fun q h => by rw [← hAe]; exact Or.inr h
  have hS : va_S A s.heap s.heap [] := va_S.rf
  have hP : va_P D vwCl [(h0, .inr (8, [.ref s1, .ref s2, .ref s3, .ref s4, .ref s5, .ref s6, .int ds, va_rf sp, va_rf bt])), (s1, .inl (cO, 4, .inr (.inr (.inr (.inr f))))), (t0, .inr (5, [.ref d0, .int w, .int h])), (d0, .inl (cI, 4096, .inl g)), (u0, .inr (5, [.ref e0, .int w2, .int h2])), (e0, .inl (cI, 4096, .inl gs))] s.heap := hP
  have hl := lv_entry ([.ref h0, .int k, .int kq]) (n := 8) (Nat.le_of_ble_eq_true rfl)
  rw [lg_entry_eq]
  generalize (lg_sl ([.ref h0, .int k, .int kq]) ++ List.replicate (8 - (lg_sl ([.ref h0, .int k, .int kq])).length) Slot.unset).toArray = ls at hl ⊢
  have hl : lv_has ls 8 [(0, .ref h0), (1, .int k), (2, .int kq)] := hl
  clear hts0 hD0 hAe
  refine my_abs (fun R Q hR hQ => ?_)
  refine lv_aload_n hx hb dX8_differ_0 rfl (lv_at hl 0 rfl) ?_
  refine lv_iload_n hx hb dX8_differ_1 rfl (lv_at hl 1 rfl) ?_
  have hPc := hP.sub (ws' := [(h0, .inr (8, [.ref s1, .ref s2, .ref s3, .ref s4, .ref s5, .ref s6, .int ds, va_rf sp, va_rf bt])), (s1, .inl (cO, 4, .inr (.inr (.inr (.inr f)))))]) [0, 1] rfl
  have hDc := hD.sub (ws' := [(h0, .inr (8, [.ref s1, .ref s2, .ref s3, .ref s4, .ref s5, .ref s6, .int ds, va_rf sp, va_rf bt])), (s1, .inl (cO, 4, .inr (.inr (.inr (.inr f)))))]) [0, 1] (by decide) rfl
  have hKc := hK.sub (tys' := [(cO, .object "DotBench$Sheet")]) [0] rfl
  have hFc := va_free (wc := [(h0, .inr (8, [.ref s1, .ref s2, .ref s3, .ref s4, .ref s5, .ref s6, .int ds, va_rf sp, va_rf bt])), (s1, .inl (cO, 4, .inr (.inr (.inr (.inr f)))))]) hD hS hA [0, 1] rfl
  refine va_callq (va_runV (As := [.int k]) (rest := []) ⟨hx, hb, hml, hown, hts⟩ (k_X8_sheetAt_y l D s.heap.size h0 s1 s2 s3 s4 s5 s6 ds sp bt f k u0 cO (by first | assumption | omega | decide) (by first | assumption | omega | decide)) (cwV 1 hts (gV bw_267 bw_346 bw_347 bw_223 bw_345) rfl rfl rfl (by decide +kernel) ⟨(by rw [hR]; exact Nat.le_of_ble_eq_true rfl), (by rw [hR]; exact Nat.le_of_ble_eq_true rfl)⟩) ⟨cP_blind, va_recv hKc hPc (ci := 8) (q0 := 0) rfl rfl, cP_at hPc hKc hDc hN⟩ rfl rfl hl.1 rfl (lv_room (Nat.le_of_ble_eq_true rfl)) dX8_differ_2 ⟨(by rw [hR]; exact Nat.le_of_ble_eq_true rfl), (by rw [hR]; exact Nat.le_of_ble_eq_true rfl)⟩) hS (fun q _ h => hFc q h) hFc (fun r_1 u9 t9 H1 locs ht hvm hr_1 hB hz1 hk1 hS => ?_)
  try dsimp only at hr_1
  obtain ⟨hP1, hK1, hD1⟩ := hB
  rw [ht] at hP1
  obtain ⟨hP, hD⟩ := va_join (wr := [(t0, .inr (5, [.ref d0, .int w, .int h])), (d0, .inl (cI, 4096, .inl g)), (u0, .inr (5, [.ref e0, .int w2, .int h2])), (e0, .inl (cI, 4096, .inl gs))]) (w1 := [(h0, .inr (8, [.ref s1, .ref s2, .ref s3, .ref s4, .ref s5, .ref s6, .int ds, va_rf sp, va_rf bt])), (s1, .inl (cO, 4, .inr (.inr (.inr (.inr f)))))]) hP hD [0, 1] [2, 3, 4, 5] rfl rfl (by decide) (by decide) hk1 hFc hP1 hD1
  clear hz1 hk1 hFc hKc hDc hPc
  generalize H1 = H at hP hS ⊢
  have hP : va_P D vwCl [(t0, .inr (5, [.ref d0, .int w, .int h])), (d0, .inl (cI, 4096, .inl g)), (u0, .inr (5, [.ref e0, .int w2, .int h2])), (e0, .inl (cI, 4096, .inl gs)), (h0, .inr (8, [.ref s1, .ref s2, .ref s3, .ref s4, .ref s5, .ref s6, .int ds, va_rf sp, va_rf bt])), (s1, .inl (cO, 4, .inr (.inr (.inr (.inr f)))))] H := hP
  have hD : va_D A [(t0, .inr (5, [.ref d0, .int w, .int h])), (d0, .inl (cI, 4096, .inl g)), (u0, .inr (5, [.ref e0, .int w2, .int h2])), (e0, .inl (cI, 4096, .inl gs)), (h0, .inr (8, [.ref s1, .ref s2, .ref s3, .ref s4, .ref s5, .ref s6, .int ds, va_rf sp, va_rf bt])), (s1, .inl (cO, 4, .inr (.inr (.inr (.inr f)))))] := hD
  subst hr_1
  refine my_topv (v := .ref u0) rfl ?_
  refine lv_astore_n (lv' := [(3, .ref u0), (0, .ref h0), (1, .int k), (2, .int kq)]) hx hb dX8_differ_5 rfl hl (by decide) rfl (fun ls hl => ?_)
  refine lv_aload_n hx hb dX8_differ_6 rfl (lv_at hl 1 rfl) ?_
  refine lv_iload_n hx hb dX8_differ_7 rfl (lv_at hl 3 rfl) ?_
  have hPc := hP.sub (ws' := [(h0, .inr (8, [.ref s1, .ref s2, .ref s3, .ref s4, .ref s5, .ref s6, .int ds, va_rf sp, va_rf bt])), (s1, .inl (cO, 4, .inr (.inr (.inr (.inr f)))))]) [4, 5] rfl
  have hDc := hD.sub (ws' := [(h0, .inr (8, [.ref s1, .ref s2, .ref s3, .ref s4, .ref s5, .ref s6, .int ds, va_rf sp, va_rf bt])), (s1, .inl (cO, 4, .inr (.inr (.inr (.inr f)))))]) [4, 5] (by decide) rfl
  have hKc := hK.sub (tys' := [(cO, .object "DotBench$Sheet")]) [0] rfl
  have hFc := va_free (wc := [(h0, .inr (8, [.ref s1, .ref s2, .ref s3, .ref s4, .ref s5, .ref s6, .int ds, va_rf sp, va_rf bt])), (s1, .inl (cO, 4, .inr (.inr (.inr (.inr f)))))]) hD hS hA [4, 5] rfl
  refine va_callq (va_runV (As := [.int kq]) (rest := []) ⟨hx, hb, hml, hown, hts⟩ (k_X8_sheetAt_y l D H.size h0 s1 s2 s3 s4 s5 s6 ds sp bt f kq t0 cO (by first | assumption | omega | decide) (by first | assumption | omega | decide)) (cwV 1 hts (gV bw_267 bw_346 bw_347 bw_223 bw_345) rfl rfl rfl (by decide +kernel) ⟨(by rw [hR]; exact Nat.le_of_ble_eq_true rfl), (by rw [hR]; exact Nat.le_of_ble_eq_true rfl)⟩) ⟨cP_blind, va_recv hKc hPc (ci := 8) (q0 := 0) rfl rfl, cP_at hPc hKc hDc hN⟩ rfl rfl hl.1 rfl (lv_room (Nat.le_of_ble_eq_true rfl)) dX8_differ_8 ⟨(by rw [hR]; exact Nat.le_of_ble_eq_true rfl), (by rw [hR]; exact Nat.le_of_ble_eq_true rfl)⟩) hS (fun q _ h => hFc q h) hFc (fun r_2 u9 t9 H1 locs ht hvm hr_2 hB hz1 hk1 hS => ?_)
  try dsimp only at hr_2
  obtain ⟨hP1, hK1, hD1⟩ := hB
  rw [ht] at hP1
  obtain ⟨hP, hD⟩ := va_join (wr := [(t0, .inr (5, [.ref d0, .int w, .int h])), (d0, .inl (cI, 4096, .inl g)), (u0, .inr (5, [.ref e0, .int w2, .int h2])), (e0, .inl (cI, 4096, .inl gs))]) (w1 := [(h0, .inr (8, [.ref s1, .ref s2, .ref s3, .ref s4, .ref s5, .ref s6, .int ds, va_rf sp, va_rf bt])), (s1, .inl (cO, 4, .inr (.inr (.inr (.inr f)))))]) hP hD [4, 5] [0, 1, 2, 3] rfl rfl (by decide) (by decide) hk1 hFc hP1 hD1
  clear hz1 hk1 hFc hKc hDc hPc
  generalize H1 = H at hP hS ⊢
  have hP : va_P D vwCl [(t0, .inr (5, [.ref d0, .int w, .int h])), (d0, .inl (cI, 4096, .inl g)), (u0, .inr (5, [.ref e0, .int w2, .int h2])), (e0, .inl (cI, 4096, .inl gs)), (h0, .inr (8, [.ref s1, .ref s2, .ref s3, .ref s4, .ref s5, .ref s6, .int ds, va_rf sp, va_rf bt])), (s1, .inl (cO, 4, .inr (.inr (.inr (.inr f)))))] H := hP
  have hD : va_D A [(t0, .inr (5, [.ref d0, .int w, .int h])), (d0, .inl (cI, 4096, .inl g)), (u0, .inr (5, [.ref e0, .int w2, .int h2])), (e0, .inl (cI, 4096, .inl gs)), (h0, .inr (8, [.ref s1, .ref s2, .ref s3, .ref s4, .ref s5, .ref s6, .int ds, va_rf sp, va_rf bt])), (s1, .inl (cO, 4, .inr (.inr (.inr (.inr f)))))] := hD
  subst hr_2
  refine my_topv (v := .ref t0) rfl ?_
  refine lv_astore (lv' := [(4, .ref t0), (3, .ref u0), (0, .ref h0), (1, .int k), (2, .int kq)]) hx hb dX8_differ_11 hl (by decide) rfl (fun ls hl => ?_)
  refine lv_aload_n hx hb dX8_differ_13 rfl (lv_at hl 1 rfl) ?_
  refine lv_ifnull hx hb dX8_differ_14 ?_
  refine lv_aload hx hb dX8_differ_17 (lv_at hl 0 rfl) ?_
  refine lv_ifnull hx hb dX8_differ_19 ?_
  refine lv_aload_n hx hb dX8_differ_22 rfl (lv_at hl 1 rfl) ?_
  refine va_getN (host := RX8) (D := D) (ci := 5) (v := .int w2) (C := RX5) (T := TX5) (N := 3) hx hb hts hi_X5 hown hK hP 2 rfl rfl 1 (by decide) ((hN.1 (RX8, 148, "DotBench$Sheet", "width", "I", RX8) (by decide +kernel)).use rfl) (fun _ h9 => h9) rfl dX8_differ_23 ?_
  refine lv_aload hx hb dX8_differ_26 (lv_at hl 0 rfl) ?_
  refine va_getN (host := RX8) (D := D) (ci := 5) (v := .int w) (C := RX5) (T := TX5) (N := 3) hx hb hts hi_X5 hown hK hP 0 rfl rfl 1 (by decide) ((hN.1 (RX8, 148, "DotBench$Sheet", "width", "I", RX8) (by decide +kernel)).use rfl) (fun _ h9 => h9) rfl dX8_differ_28 ?_
  refine lv_icmp_ne (tgt := 46) hx hb dX8_differ_31 (by decide) (fun c_3 => ?_) (fun c_3 => ?_)
  · skip
    have f_4 : ¬ (w2.toInt = w.toInt) := fn_eq rfl rfl c_3
    refine lv_iconst (v := (-1)) hx hb dX8_differ_46 (by decide) ?_
    have hP9 := hP.sub (ws' := [(h0, .inr (8, [.ref s1, .ref s2, .ref s3, .ref s4, .ref s5, .ref s6, .int ds, va_rf sp, va_rf bt])), (s1, .inl (cO, 4, .inr (.inr (.inr (.inr f))))), (t0, .inr (5, [.ref d0, .int w, .int h])), (d0, .inl (cI, 4096, .inl g)), (u0, .inr (5, [.ref e0, .int w2, .int h2])), (e0, .inl (cI, 4096, .inl gs))]) [4, 5, 0, 1, 2, 3] rfl
    have hD9 := hD.sub (ws' := [(h0, .inr (8, [.ref s1, .ref s2, .ref s3, .ref s4, .ref s5, .ref s6, .int ds, va_rf sp, va_rf bt])), (s1, .inl (cO, 4, .inr (.inr (.inr (.inr f))))), (t0, .inr (5, [.ref d0, .int w, .int h])), (d0, .inl (cI, 4096, .inl g)), (u0, .inr (5, [.ref e0, .int w2, .int h2])), (e0, .inl (cI, 4096, .inl gs))]) [4, 5, 0, 1, 2, 3] (by decide) rfl
    have hK9 := hK.sub (tys' := [(cO, .object "DotBench$Sheet"), (cI, .int)]) [0, 1] rfl
    refine hQ _ _ _ _ _ ?_
    exact W.iret (v := (-1)) hx hb hr (fun t ht hW => ⟨⟨(-1), (), rfl, trivial, ⟨by rw [ht]; exact hP9, va_K.moved hW.alike hK9, hD9⟩⟩, hS.F ht⟩) hS.2.2 dX8_differ_47
  · skip
    have f_4 : w2.toInt = w.toInt := f_eq rfl rfl c_3
    refine lv_aload_n hx hb dX8_differ_34 rfl (lv_at hl 1 rfl) ?_
    refine va_getN (host := RX8) (D := D) (ci := 5) (v := .int h2) (C := RX5) (T := TX5) (N := 3) hx hb hts hi_X5 hown hK hP 2 rfl rfl 2 (by decide) ((hN.1 (RX8, 145, "DotBench$Sheet", "height", "I", RX8) (by decide +kernel)).use rfl) (fun _ h9 => h9) rfl dX8_differ_35 ?_
    refine lv_aload hx hb dX8_differ_38 (lv_at hl 0 rfl) ?_
    refine va_getN (host := RX8) (D := D) (ci := 5) (v := .int h) (C := RX5) (T := TX5) (N := 3) hx hb hts hi_X5 hown hK hP 0 rfl rfl 2 (by decide) ((hN.1 (RX8, 145, "DotBench$Sheet", "height", "I", RX8) (by decide +kernel)).use rfl) (fun _ h9 => h9) rfl dX8_differ_40 ?_
    refine lv_icmp_eq (tgt := 48) hx hb dX8_differ_43 (by decide) (fun c_5 => ?_) (fun c_5 => ?_)
    · skip
      have f_6 : h2.toInt = h.toInt := f_eq rfl rfl c_5
      refine lv_iconst (v := 0) hx hb dX8_differ_48 (by decide) ?_
      refine lv_istore (lv' := [(5, .int 0), (4, .ref t0), (3, .ref u0), (0, .ref h0), (1, .int k), (2, .int kq)]) hx hb dX8_differ_49 hl (by decide) rfl (fun ls hl => ?_)
      refine lv_iconst (v := 0) hx hb dX8_differ_51 (by decide) ?_
      refine lv_istore (lv' := [(6, .int 0), (5, .int 0), (4, .ref t0), (3, .ref u0), (0, .ref h0), (1, .int k), (2, .int kq)]) hx hb dX8_differ_52 hl (by decide) rfl (fun ls hl => ?_)
      have loop_7 : ∀ (n : Nat) (j : Nat) (x6 : Int32) (x5 : Int32) (H : Heap) (locs : List Loc) (ls : Array Slot), (j ≤ 64) → (64 + 1 ≤ j + n) → (x6 = nI j) → va_P D vwCl [(t0, .inr (5, [.ref d0, .int w, .int h])), (d0, .inl (cI, 4096, .inl g)), (u0, .inr (5, [.ref e0, .int w2, .int h2])), (e0, .inl (cI, 4096, .inl gs)), (h0, .inr (8, [.ref s1, .ref s2, .ref s3, .ref s4, .ref s5, .ref s6, .int ds, va_rf sp, va_rf bt])), (s1, .inl (cO, 4, .inr (.inr (.inr (.inr f)))))] H → va_D A [(t0, .inr (5, [.ref d0, .int w, .int h])), (d0, .inl (cI, 4096, .inl g)), (u0, .inr (5, [.ref e0, .int w2, .int h2])), (e0, .inl (cI, 4096, .inl gs)), (h0, .inr (8, [.ref s1, .ref s2, .ref s3, .ref s4, .ref s5, .ref s6, .int ds, va_rf sp, va_rf bt])), (s1, .inl (cO, 4, .inr (.inr (.inr (.inr f)))))] → va_S A s.heap H locs → lv_has ls 8 [(6, .int x6), (5, .int x5), (4, .ref t0), (3, .ref u0), (0, .ref h0), (1, .int k), (2, .int kq)] → W p l e R s m ([.ref h0, .int k, .int kq] : List Value).toArray below meth c H locs 0 0 Q (F0 m 54 ls []) := by
        intro n
        induction n with
        | zero =>
          intro j x6 x5 H locs ls hi_j hm_j ex_j hP hD hS hl
          exact absurd (show False by omega) not_false
        | succ n ih_8 =>
          intro j x6 x5 H locs ls hi_j hm_j ex_j hP hD hS hl
          have hx_j : x6.toInt = (j : Int) := by rw [ex_j]; exact nI_toInt (by omega)
          have hc_j : x6.toNatClampNeg = j := by rw [ex_j]; exact nI_clamp (by omega)
          refine lv_iload hx hb dX8_differ_54 (lv_at hl 0 rfl) ?_
          refine lv_aload_n hx hb dX8_differ_56 rfl (lv_at hl 3 rfl) ?_
          refine va_getN (host := RX8) (D := D) (ci := 5) (v := .int h2) (C := RX5) (T := TX5) (N := 3) hx hb hts hi_X5 hown hK hP 2 rfl rfl 2 (by decide) ((hN.1 (RX8, 145, "DotBench$Sheet", "height", "I", RX8) (by decide +kernel)).use rfl) (fun _ h9 => h9) rfl dX8_differ_57 ?_
          refine lv_icmp_ge (tgt := 110) hx hb dX8_differ_60 (by decide) (fun c_9 => ?_) (fun c_9 => ?_)
          · skip
            have f_10 : h2.toInt ≤ (j : Int) := f_le rfl hx_j c_9
            refine lv_iload hx hb dX8_differ_110 (lv_at hl 1 rfl) ?_
            have hP9 := hP.sub (ws' := [(h0, .inr (8, [.ref s1, .ref s2, .ref s3, .ref s4, .ref s5, .ref s6, .int ds, va_rf sp, va_rf bt])), (s1, .inl (cO, 4, .inr (.inr (.inr (.inr f))))), (t0, .inr (5, [.ref d0, .int w, .int h])), (d0, .inl (cI, 4096, .inl g)), (u0, .inr (5, [.ref e0, .int w2, .int h2])), (e0, .inl (cI, 4096, .inl gs))]) [4, 5, 0, 1, 2, 3] rfl
            have hD9 := hD.sub (ws' := [(h0, .inr (8, [.ref s1, .ref s2, .ref s3, .ref s4, .ref s5, .ref s6, .int ds, va_rf sp, va_rf bt])), (s1, .inl (cO, 4, .inr (.inr (.inr (.inr f))))), (t0, .inr (5, [.ref d0, .int w, .int h])), (d0, .inl (cI, 4096, .inl g)), (u0, .inr (5, [.ref e0, .int w2, .int h2])), (e0, .inl (cI, 4096, .inl gs))]) [4, 5, 0, 1, 2, 3] (by decide) rfl
            have hK9 := hK.sub (tys' := [(cO, .object "DotBench$Sheet"), (cI, .int)]) [0, 1] rfl
            refine hQ _ _ _ _ _ ?_
            exact W.iret (v := x5) hx hb hr (fun t ht hW => ⟨⟨x5, (), rfl, trivial, ⟨by rw [ht]; exact hP9, va_K.moved hW.alike hK9, hD9⟩⟩, hS.F ht⟩) hS.2.2 dX8_differ_112
          · skip
            have f_10 : ¬ (h2.toInt ≤ (j : Int)) := fn_le rfl hx_j c_9
            refine lv_iconst (v := 0) hx hb dX8_differ_63 (by decide) ?_
            refine lv_istore (lv' := [(7, .int 0), (6, .int x6), (5, .int x5), (4, .ref t0), (3, .ref u0), (0, .ref h0), (1, .int k), (2, .int kq)]) hx hb dX8_differ_64 hl (by decide) rfl (fun ls hl => ?_)
            have loop_11 : ∀ (n : Nat) (i : Nat) (x7 : Int32) (z5 : Int32) (H : Heap) (locs : List Loc) (ls : Array Slot), (i ≤ 64) → (64 + 1 ≤ i + n) → (x7 = nI i) → va_P D vwCl [(t0, .inr (5, [.ref d0, .int w, .int h])), (d0, .inl (cI, 4096, .inl g)), (u0, .inr (5, [.ref e0, .int w2, .int h2])), (e0, .inl (cI, 4096, .inl gs)), (h0, .inr (8, [.ref s1, .ref s2, .ref s3, .ref s4, .ref s5, .ref s6, .int ds, va_rf sp, va_rf bt])), (s1, .inl (cO, 4, .inr (.inr (.inr (.inr f)))))] H → va_D A [(t0, .inr (5, [.ref d0, .int w, .int h])), (d0, .inl (cI, 4096, .inl g)), (u0, .inr (5, [.ref e0, .int w2, .int h2])), (e0, .inl (cI, 4096, .inl gs)), (h0, .inr (8, [.ref s1, .ref s2, .ref s3, .ref s4, .ref s5, .ref s6, .int ds, va_rf sp, va_rf bt])), (s1, .inl (cO, 4, .inr (.inr (.inr (.inr f)))))] → va_S A s.heap H locs → lv_has ls 8 [(7, .int x7), (6, .int x6), (5, .int z5), (4, .ref t0), (3, .ref u0), (0, .ref h0), (1, .int k), (2, .int kq)] → W p l e R s m ([.ref h0, .int k, .int kq] : List Value).toArray below meth c H locs 0 0 Q (F0 m 66 ls []) := by
              intro n
              induction n with
              | zero =>
                intro i x7 z5 H locs ls hi_i hm_i ex_i hP hD hS hl
                exact absurd (show False by omega) not_false
              | succ n ih_12 =>
                intro i x7 z5 H locs ls hi_i hm_i ex_i hP hD hS hl
                have hx_i : x7.toInt = (i : Int) := by rw [ex_i]; exact nI_toInt (by omega)
                have hc_i : x7.toNatClampNeg = i := by rw [ex_i]; exact nI_clamp (by omega)
                refine lv_iload hx hb dX8_differ_66 (lv_at hl 0 rfl) ?_
                refine lv_aload_n hx hb dX8_differ_68 rfl (lv_at hl 4 rfl) ?_
                refine va_getN (host := RX8) (D := D) (ci := 5) (v := .int w2) (C := RX5) (T := TX5) (N := 3) hx hb hts hi_X5 hown hK hP 2 rfl rfl 1 (by decide) ((hN.1 (RX8, 148, "DotBench$Sheet", "width", "I", RX8) (by decide +kernel)).use rfl) (fun _ h9 => h9) rfl dX8_differ_69 ?_
                refine lv_icmp_ge (tgt := 104) hx hb dX8_differ_72 (by decide) (fun c_13 => ?_) (fun c_13 => ?_)
                · skip
                  have f_14 : w2.toInt ≤ (i : Int) := f_le rfl hx_i c_13
                  obtain ⟨y_15, ey_15⟩ : ∃ y : Int32, y = x6 + 1 := ⟨_, rfl⟩
                  refine lv_iinc (v := y_15) (lv' := [(6, .int y_15), (7, .int x7), (5, .int z5), (4, .ref t0), (3, .ref u0), (0, .ref h0), (1, .int k), (2, .int kq)]) hx hb dX8_differ_104 hl (k := 1) rfl (by rw [ey_15]; rfl) (by decide) rfl (fun ls hl => ?_)
                  refine lv_goto (tgt := 54) hx hb dX8_differ_107 (by decide) ?_
                  exact ih_8 (j + 1) y_15 z5 _ _ _ (by omega) (by omega) (by rw [ey_15, ex_j]; exact nI_1 j) (hP.sub (ws' := [(t0, .inr (5, [.ref d0, .int w, .int h])), (d0, .inl (cI, 4096, .inl g)), (u0, .inr (5, [.ref e0, .int w2, .int h2])), (e0, .inl (cI, 4096, .inl gs)), (h0, .inr (8, [.ref s1, .ref s2, .ref s3, .ref s4, .ref s5, .ref s6, .int ds, va_rf sp, va_rf bt])), (s1, .inl (cO, 4, .inr (.inr (.inr (.inr f)))))]) [0, 1, 2, 3, 4, 5] rfl) (hD.sub (ws' := [(t0, .inr (5, [.ref d0, .int w, .int h])), (d0, .inl (cI, 4096, .inl g)), (u0, .inr (5, [.ref e0, .int w2, .int h2])), (e0, .inl (cI, 4096, .inl gs)), (h0, .inr (8, [.ref s1, .ref s2, .ref s3, .ref s4, .ref s5, .ref s6, .int ds, va_rf sp, va_rf bt])), (s1, .inl (cO, 4, .inr (.inr (.inr (.inr f)))))]) [0, 1, 2, 3, 4, 5] (by decide) rfl) hS (lv_sub hl [0, 2, 3, 4, 5, 6, 7] rfl)
                · skip
                  have f_14 : ¬ (w2.toInt ≤ (i : Int)) := fn_le rfl hx_i c_13
                  refine lv_aload_n hx hb dX8_differ_75 rfl (lv_at hl 4 rfl) ?_
                  refine lv_iload hx hb dX8_differ_76 (lv_at hl 0 rfl) ?_
                  refine lv_iload hx hb dX8_differ_78 (lv_at hl 1 rfl) ?_
                  have hPc := hP.sub (ws' := [(u0, .inr (5, [.ref e0, .int w2, .int h2])), (e0, .inl (cI, 4096, .inl gs))]) [2, 3] rfl
                  have hDc := hD.sub (ws' := [(u0, .inr (5, [.ref e0, .int w2, .int h2])), (e0, .inl (cI, 4096, .inl gs))]) [2, 3] (by decide) rfl
                  have hKc := hK.sub (tys' := [(cI, .int)]) [1] rfl
                  have hFc := va_free (wc := [(u0, .inr (5, [.ref e0, .int w2, .int h2])), (e0, .inl (cI, 4096, .inl gs))]) hD hS hA [2, 3] rfl
                  refine va_calli (va_runV (As := [.int x7, .int x6]) (rest := []) ⟨hx, hb, hml, hown, hts⟩ (k_X5_at l D H.size u0 e0 w2 h2 gs x7 x6 cI (by first | assumption | omega | decide) (by first | assumption | omega | decide)) (cwV 2 hts (gV bw_325 bw_153 bw_154 bw_130 bw_152) rfl rfl rfl (by decide +kernel) ⟨(by rw [hR]; exact Nat.le_of_ble_eq_true rfl), (by rw [hR]; exact Nat.le_of_ble_eq_true rfl)⟩) ⟨cP_blind, va_recv hKc hPc (ci := 5) (q0 := 0) rfl rfl, cP_at hPc hKc hDc hN⟩ rfl rfl hl.1 rfl (lv_room (Nat.le_of_ble_eq_true rfl)) dX8_differ_80 ⟨(by rw [hR]; exact Nat.le_of_ble_eq_true rfl), (by rw [hR]; exact Nat.le_of_ble_eq_true rfl)⟩) hS (fun q _ h => hFc q h) hFc (fun r_16 u9 t9 H1 locs ht hvm hr_16 hB hz1 hk1 hS => ?_)
                  try dsimp only at hr_16
                  obtain ⟨hP1, hK1, hD1⟩ := hB
                  rw [ht] at hP1
                  obtain ⟨hP, hD⟩ := va_join (wr := [(t0, .inr (5, [.ref d0, .int w, .int h])), (d0, .inl (cI, 4096, .inl g)), (h0, .inr (8, [.ref s1, .ref s2, .ref s3, .ref s4, .ref s5, .ref s6, .int ds, va_rf sp, va_rf bt])), (s1, .inl (cO, 4, .inr (.inr (.inr (.inr f)))))]) (w1 := [(u0, .inr (5, [.ref e0, .int w2, .int h2])), (e0, .inl (cI, 4096, .inl gs))]) hP hD [2, 3] [0, 1, 4, 5] rfl rfl (by decide) (by decide) hk1 hFc hP1 hD1
                  clear hz1 hk1 hFc hKc hDc hPc
                  generalize H1 = H at hP hS ⊢
                  have hP : va_P D vwCl [(t0, .inr (5, [.ref d0, .int w, .int h])), (d0, .inl (cI, 4096, .inl g)), (h0, .inr (8, [.ref s1, .ref s2, .ref s3, .ref s4, .ref s5, .ref s6, .int ds, va_rf sp, va_rf bt])), (s1, .inl (cO, 4, .inr (.inr (.inr (.inr f))))), (u0, .inr (5, [.ref e0, .int w2, .int h2])), (e0, .inl (cI, 4096, .inl gs))] H := hP
                  have hD : va_D A [(t0, .inr (5, [.ref d0, .int w, .int h])), (d0, .inl (cI, 4096, .inl g)), (h0, .inr (8, [.ref s1, .ref s2, .ref s3, .ref s4, .ref s5, .ref s6, .int ds, va_rf sp, va_rf bt])), (s1, .inl (cO, 4, .inr (.inr (.inr (.inr f))))), (u0, .inr (5, [.ref e0, .int w2, .int h2])), (e0, .inl (cI, 4096, .inl gs))] := hD
                  refine lv_aload hx hb dX8_differ_83 (lv_at hl 3 rfl) ?_
                  refine lv_iload hx hb dX8_differ_85 (lv_at hl 0 rfl) ?_
                  refine lv_iload hx hb dX8_differ_87 (lv_at hl 1 rfl) ?_
                  have hPc := hP.sub (ws' := [(t0, .inr (5, [.ref d0, .int w, .int h])), (d0, .inl (cI, 4096, .inl g))]) [0, 1] rfl
                  have hDc := hD.sub (ws' := [(t0, .inr (5, [.ref d0, .int w, .int h])), (d0, .inl (cI, 4096, .inl g))]) [0, 1] (by decide) rfl
                  have hKc := hK.sub (tys' := [(cI, .int)]) [1] rfl
                  have hFc := va_free (wc := [(t0, .inr (5, [.ref d0, .int w, .int h])), (d0, .inl (cI, 4096, .inl g))]) hD hS hA [0, 1] rfl
                  refine va_calli (va_runV (As := [.int x7, .int x6]) (rest := [.int r_16]) ⟨hx, hb, hml, hown, hts⟩ (k_X5_at l D H.size t0 d0 w h g x7 x6 cI (by first | assumption | omega | decide) (by first | assumption | omega | decide)) (cwV 2 hts (gV bw_325 bw_153 bw_154 bw_130 bw_152) rfl rfl rfl (by decide +kernel) ⟨(by rw [hR]; exact Nat.le_of_ble_eq_true rfl), (by rw [hR]; exact Nat.le_of_ble_eq_true rfl)⟩) ⟨cP_blind, va_recv hKc hPc (ci := 5) (q0 := 0) rfl rfl, cP_at hPc hKc hDc hN⟩ rfl rfl hl.1 rfl (lv_room (Nat.le_of_ble_eq_true rfl)) dX8_differ_89 ⟨(by rw [hR]; exact Nat.le_of_ble_eq_true rfl), (by rw [hR]; exact Nat.le_of_ble_eq_true rfl)⟩) hS (fun q _ h => hFc q h) hFc (fun r_17 u9 t9 H1 locs ht hvm hr_17 hB hz1 hk1 hS => ?_)
                  try dsimp only at hr_17
                  obtain ⟨hP1, hK1, hD1⟩ := hB
                  rw [ht] at hP1
                  obtain ⟨hP, hD⟩ := va_join (wr := [(h0, .inr (8, [.ref s1, .ref s2, .ref s3, .ref s4, .ref s5, .ref s6, .int ds, va_rf sp, va_rf bt])), (s1, .inl (cO, 4, .inr (.inr (.inr (.inr f))))), (u0, .inr (5, [.ref e0, .int w2, .int h2])), (e0, .inl (cI, 4096, .inl gs))]) (w1 := [(t0, .inr (5, [.ref d0, .int w, .int h])), (d0, .inl (cI, 4096, .inl g))]) hP hD [0, 1] [2, 3, 4, 5] rfl rfl (by decide) (by decide) hk1 hFc hP1 hD1
                  clear hz1 hk1 hFc hKc hDc hPc
                  generalize H1 = H at hP hS ⊢
                  have hP : va_P D vwCl [(h0, .inr (8, [.ref s1, .ref s2, .ref s3, .ref s4, .ref s5, .ref s6, .int ds, va_rf sp, va_rf bt])), (s1, .inl (cO, 4, .inr (.inr (.inr (.inr f))))), (u0, .inr (5, [.ref e0, .int w2, .int h2])), (e0, .inl (cI, 4096, .inl gs)), (t0, .inr (5, [.ref d0, .int w, .int h])), (d0, .inl (cI, 4096, .inl g))] H := hP
                  have hD : va_D A [(h0, .inr (8, [.ref s1, .ref s2, .ref s3, .ref s4, .ref s5, .ref s6, .int ds, va_rf sp, va_rf bt])), (s1, .inl (cO, 4, .inr (.inr (.inr (.inr f))))), (u0, .inr (5, [.ref e0, .int w2, .int h2])), (e0, .inl (cI, 4096, .inl gs)), (t0, .inr (5, [.ref d0, .int w, .int h])), (d0, .inl (cI, 4096, .inl g))] := hD
                  refine lv_icmp_eq (tgt := 98) hx hb dX8_differ_92 (by decide) (fun c_18 => ?_) (fun c_18 => ?_)
                  · skip
                    have f_19 : r_16.toInt = r_17.toInt := f_eq rfl rfl c_18
                    obtain ⟨y_20, ey_20⟩ : ∃ y : Int32, y = x7 + 1 := ⟨_, rfl⟩
                    refine lv_iinc (v := y_20) (lv' := [(7, .int y_20), (6, .int x6), (5, .int z5), (4, .ref t0), (3, .ref u0), (0, .ref h0), (1, .int k), (2, .int kq)]) hx hb dX8_differ_98 hl (k := 0) rfl (by rw [ey_20]; rfl) (by decide) rfl (fun ls hl => ?_)
                    refine lv_goto (tgt := 66) hx hb dX8_differ_101 (by decide) ?_
                    exact ih_12 (i + 1) y_20 z5 _ _ _ (by omega) (by omega) (by rw [ey_20, ex_i]; exact nI_1 i) (hP.sub (ws' := [(t0, .inr (5, [.ref d0, .int w, .int h])), (d0, .inl (cI, 4096, .inl g)), (u0, .inr (5, [.ref e0, .int w2, .int h2])), (e0, .inl (cI, 4096, .inl gs)), (h0, .inr (8, [.ref s1, .ref s2, .ref s3, .ref s4, .ref s5, .ref s6, .int ds, va_rf sp, va_rf bt])), (s1, .inl (cO, 4, .inr (.inr (.inr (.inr f)))))]) [4, 5, 2, 3, 0, 1] rfl) (hD.sub (ws' := [(t0, .inr (5, [.ref d0, .int w, .int h])), (d0, .inl (cI, 4096, .inl g)), (u0, .inr (5, [.ref e0, .int w2, .int h2])), (e0, .inl (cI, 4096, .inl gs)), (h0, .inr (8, [.ref s1, .ref s2, .ref s3, .ref s4, .ref s5, .ref s6, .int ds, va_rf sp, va_rf bt])), (s1, .inl (cO, 4, .inr (.inr (.inr (.inr f)))))]) [4, 5, 2, 3, 0, 1] (by decide) rfl) hS (lv_sub hl [0, 1, 2, 3, 4, 5, 6, 7] rfl)
                  · skip
                    have f_19 : ¬ (r_16.toInt = r_17.toInt) := fn_eq rfl rfl c_18
                    obtain ⟨y_21, ey_21⟩ : ∃ y : Int32, y = z5 + 1 := ⟨_, rfl⟩
                    refine lv_iinc (v := y_21) (lv' := [(5, .int y_21), (7, .int x7), (6, .int x6), (4, .ref t0), (3, .ref u0), (0, .ref h0), (1, .int k), (2, .int kq)]) hx hb dX8_differ_95 hl (k := 2) rfl (by rw [ey_21]; rfl) (by decide) rfl (fun ls hl => ?_)
                    obtain ⟨y_22, ey_22⟩ : ∃ y : Int32, y = x7 + 1 := ⟨_, rfl⟩
                    refine lv_iinc (v := y_22) (lv' := [(7, .int y_22), (5, .int y_21), (6, .int x6), (4, .ref t0), (3, .ref u0), (0, .ref h0), (1, .int k), (2, .int kq)]) hx hb dX8_differ_98 hl (k := 1) rfl (by rw [ey_22]; rfl) (by decide) rfl (fun ls hl => ?_)
                    refine lv_goto (tgt := 66) hx hb dX8_differ_101 (by decide) ?_
                    exact ih_12 (i + 1) y_22 y_21 _ _ _ (by omega) (by omega) (by rw [ey_22, ex_i]; exact nI_1 i) (hP.sub (ws' := [(t0, .inr (5, [.ref d0, .int w, .int h])), (d0, .inl (cI, 4096, .inl g)), (u0, .inr (5, [.ref e0, .int w2, .int h2])), (e0, .inl (cI, 4096, .inl gs)), (h0, .inr (8, [.ref s1, .ref s2, .ref s3, .ref s4, .ref s5, .ref s6, .int ds, va_rf sp, va_rf bt])), (s1, .inl (cO, 4, .inr (.inr (.inr (.inr f)))))]) [4, 5, 2, 3, 0, 1] rfl) (hD.sub (ws' := [(t0, .inr (5, [.ref d0, .int w, .int h])), (d0, .inl (cI, 4096, .inl g)), (u0, .inr (5, [.ref e0, .int w2, .int h2])), (e0, .inl (cI, 4096, .inl gs)), (h0, .inr (8, [.ref s1, .ref s2, .ref s3, .ref s4, .ref s5, .ref s6, .int ds, va_rf sp, va_rf bt])), (s1, .inl (cO, 4, .inr (.inr (.inr (.inr f)))))]) [4, 5, 2, 3, 0, 1] (by decide) rfl) hS (lv_sub hl [0, 2, 1, 3, 4, 5, 6, 7] rfl)
            exact loop_11 (64 + 1) 0 0 x5 _ _ _ (by omega) (by omega) nI_0.symm hP hD hS (lv_sub hl [0, 1, 2, 3, 4, 5, 6, 7] rfl)
      exact loop_7 (64 + 1) 0 0 0 _ _ _ (by omega) (by omega) nI_0.symm hP hD hS (lv_sub hl [0, 1, 2, 3, 4, 5, 6] rfl)
    · skip
      have f_6 : ¬ (h2.toInt = h.toInt) := fn_eq rfl rfl c_5
      refine lv_iconst (v := (-1)) hx hb dX8_differ_46 (by decide) ?_
      have hP9 := hP.sub (ws' := [(h0, .inr (8, [.ref s1, .ref s2, .ref s3, .ref s4, .ref s5, .ref s6, .int ds, va_rf sp, va_rf bt])), (s1, .inl (cO, 4, .inr (.inr (.inr (.inr f))))), (t0, .inr (5, [.ref d0, .int w, .int h])), (d0, .inl (cI, 4096, .inl g)), (u0, .inr (5, [.ref e0, .int w2, .int h2])), (e0, .inl (cI, 4096, .inl gs))]) [4, 5, 0, 1, 2, 3] rfl
      have hD9 := hD.sub (ws' := [(h0, .inr (8, [.ref s1, .ref s2, .ref s3, .ref s4, .ref s5, .ref s6, .int ds, va_rf sp, va_rf bt])), (s1, .inl (cO, 4, .inr (.inr (.inr (.inr f))))), (t0, .inr (5, [.ref d0, .int w, .int h])), (d0, .inl (cI, 4096, .inl g)), (u0, .inr (5, [.ref e0, .int w2, .int h2])), (e0, .inl (cI, 4096, .inl gs))]) [4, 5, 0, 1, 2, 3] (by decide) rfl
      have hK9 := hK.sub (tys' := [(cO, .object "DotBench$Sheet"), (cI, .int)]) [0, 1] rfl
      refine hQ _ _ _ _ _ ?_
      exact W.iret (v := (-1)) hx hb hr (fun t ht hW => ⟨⟨(-1), (), rfl, trivial, ⟨by rw [ht]; exact hP9, va_K.moved hW.alike hK9, hD9⟩⟩, hS.F ht⟩) hS.2.2 dX8_differ_47

set_option maxHeartbeats 4000000 in
set_option maxRecDepth 100000 in
theorem k_X8_differ_s (l : Launch) (D : va_G) (sz : Nat) (h0 s1 s2 s3 s4 s5 s6 : Nat) (ds : Int32) (sp bt : Option Nat) (f : Nat → Option Nat) (t0 d0 : Nat) (w h : Int32) (g : Nat → Int32) (k kq : Int32) (cO : ClassId) (cI : ClassId) (hak : 0 ≤ k.toInt ∧ k.toInt ≤ 3) (haf : f k.toNatClampNeg = some t0) (hb0k : 0 ≤ kq.toInt ∧ kq.toInt ≤ 3) (hb0f : f kq.toNatClampNeg = some t0) (hw : w.toInt ≤ 64) (hh : h.toInt ≤ 64) : Met l yX8_differ (wB yX8_differ cX8_differ 8 (some .int)) ({ frames := 2, cells := 0, slots := 0, locals := 44 }) (cP D [(h0, .inr (8, [.ref s1, .ref s2, .ref s3, .ref s4, .ref s5, .ref s6, .int ds, va_rf sp, va_rf bt])), (s1, .inl (cO, 4, .inr (.inr (.inr (.inr f))))), (t0, .inr (5, [.ref d0, .int w, .int h])), (d0, .inl (cI, 4096, .inl g))] [(cO, .object "DotBench$Sheet"), (cI, .int)] sz [.ref h0, .int k, .int kq]) (va_Qi (fun (r : Int32) (_ : Unit) => True) (fun (_ : Unit) (t : State) => cB D (va_A [(h0, .inr (8, [.ref s1, .ref s2, .ref s3, .ref s4, .ref s5, .ref s6, .int ds, va_rf sp, va_rf bt])), (s1, .inl (cO, 4, .inr (.inr (.inr (.inr f))))), (t0, .inr (5, [.ref d0, .int w, .int h])), (d0, .inl (cI, 4096, .inl g))] sz) [(h0, .inr (8, [.ref s1, .ref s2, .ref s3, .ref s4, .ref s5, .ref s6, .int ds, va_rf sp, va_rf bt])), (s1, .inl (cO, 4, .inr (.inr (.inr (.inr f))))), (t0, .inr (5, [.ref d0, .int w, .int h])), (d0, .inl (cI, 4096, .inl g))] [(cO, .object "DotBench$Sheet"), (cI, .int)] t) (va_A [(h0, .inr (8, [.ref s1, .ref s2, .ref s3, .ref s4, .ref s5, .ref s6, .int ds, va_rf sp, va_rf bt])), (s1, .inl (cO, 4, .inr (.inr (.inr (.inr f))))), (t0, .inr (5, [.ref d0, .int w, .int h])), (d0, .inl (cI, 4096, .inl g))] sz)) 0 0 (va_A [(h0, .inr (8, [.ref s1, .ref s2, .ref s3, .ref s4, .ref s5, .ref s6, .int ds, va_rf sp, va_rf bt])), (s1, .inl (cO, 4, .inr (.inr (.inr (.inr f))))), (t0, .inr (5, [.ref d0, .int w, .int h])), (d0, .inl (cI, 4096, .inl g))] sz) := by
  refine Met.ofW (cc := cX8_differ) (maxL := 8) (ret := (some .int)) (by decide) rfl ?_
  intro p e s m args below meth c s₁ B hml hv
  obtain ⟨rfl, hsz, hP, hK, hD0, hN⟩ := hv
  have hx := B.exec
  have hb := B.bytes
  have hr := B.returns
  have hts0 := atoms_spec (ws := (wB yX8_differ cX8_differ 8 (some .int))) B.pre
  have hts : ∀ w ∈ bigW, w.before _ s = true := fun w h => hts0 w (List.mem_cons_of_mem _ h)
  have hown : s.vm.findClass RX8 = some m.cls := findClass_of_methodNamed B.named
  have hlocks := B.notSynchronized
  subst hsz
  have hD := hD0.self (sz := s.heap.size)
  generalize hAe : va_A [(h0, .inr (8, [.ref s1, .ref s2, .ref s3, .ref s4, .ref s5, .ref s6, .int ds, va_rf sp, va_rf bt])), (s1, .inl (cO, 4, .inr (.inr (.inr (.inr f))))), (t0, .inr (5, [.ref d0, .int w, .int h])), (d0, .inl (cI, 4096, .inl g))] s.heap.size = A at hD ⊢
  have hA : ∀ q : Nat, s.heap.size ≤ q → A q := fun q h => by rw [← hAe]; exact Or.inr h
  have hS : va_S A s.heap s.heap [] := va_S.rf
  have hP : va_P D vwCl [(h0, .inr (8, [.ref s1, .ref s2, .ref s3, .ref s4, .ref s5, .ref s6, .int ds, va_rf sp, va_rf bt])), (s1, .inl (cO, 4, .inr (.inr (.inr (.inr f))))), (t0, .inr (5, [.ref d0, .int w, .int h])), (d0, .inl (cI, 4096, .inl g))] s.heap := hP
  have hl := lv_entry ([.ref h0, .int k, .int kq]) (n := 8) (Nat.le_of_ble_eq_true rfl)
  rw [lg_entry_eq]
  generalize (lg_sl ([.ref h0, .int k, .int kq]) ++ List.replicate (8 - (lg_sl ([.ref h0, .int k, .int kq])).length) Slot.unset).toArray = ls at hl ⊢
  have hl : lv_has ls 8 [(0, .ref h0), (1, .int k), (2, .int kq)] := hl
  clear hts0 hD0 hAe
  refine my_abs (fun R Q hR hQ => ?_)
  refine lv_aload_n hx hb dX8_differ_0 rfl (lv_at hl 0 rfl) ?_
  refine lv_iload_n hx hb dX8_differ_1 rfl (lv_at hl 1 rfl) ?_
  have hPc := hP.sub (ws' := [(h0, .inr (8, [.ref s1, .ref s2, .ref s3, .ref s4, .ref s5, .ref s6, .int ds, va_rf sp, va_rf bt])), (s1, .inl (cO, 4, .inr (.inr (.inr (.inr f)))))]) [0, 1] rfl
  have hDc := hD.sub (ws' := [(h0, .inr (8, [.ref s1, .ref s2, .ref s3, .ref s4, .ref s5, .ref s6, .int ds, va_rf sp, va_rf bt])), (s1, .inl (cO, 4, .inr (.inr (.inr (.inr f)))))]) [0, 1] (by decide) rfl
  have hKc := hK.sub (tys' := [(cO, .object "DotBench$Sheet")]) [0] rfl
  have hFc := va_free (wc := [(h0, .inr (8, [.ref s1, .ref s2, .ref s3, .ref s4, .ref s5, .ref s6, .int ds, va_rf sp, va_rf bt])), (s1, .inl (cO, 4, .inr (.inr (.inr (.inr f)))))]) hD hS hA [0, 1] rfl
  refine va_callq (va_runV (As := [.int k]) (rest := []) ⟨hx, hb, hml, hown, hts⟩ (k_X8_sheetAt_y l D s.heap.size h0 s1 s2 s3 s4 s5 s6 ds sp bt f k t0 cO (by first | assumption | omega | decide) (by first | assumption | omega | decide)) (cwV 1 hts (gV bw_267 bw_346 bw_347 bw_223 bw_345) rfl rfl rfl (by decide +kernel) ⟨(by rw [hR]; exact Nat.le_of_ble_eq_true rfl), (by rw [hR]; exact Nat.le_of_ble_eq_true rfl)⟩) ⟨cP_blind, va_recv hKc hPc (ci := 8) (q0 := 0) rfl rfl, cP_at hPc hKc hDc hN⟩ rfl rfl hl.1 rfl (lv_room (Nat.le_of_ble_eq_true rfl)) dX8_differ_2 ⟨(by rw [hR]; exact Nat.le_of_ble_eq_true rfl), (by rw [hR]; exact Nat.le_of_ble_eq_true rfl)⟩) hS (fun q _ h => hFc q h) hFc (fun r_1 u9 t9 H1 locs ht hvm hr_1 hB hz1 hk1 hS => ?_)
  try dsimp only at hr_1
  obtain ⟨hP1, hK1, hD1⟩ := hB
  rw [ht] at hP1
  obtain ⟨hP, hD⟩ := va_join (wr := [(t0, .inr (5, [.ref d0, .int w, .int h])), (d0, .inl (cI, 4096, .inl g))]) (w1 := [(h0, .inr (8, [.ref s1, .ref s2, .ref s3, .ref s4, .ref s5, .ref s6, .int ds, va_rf sp, va_rf bt])), (s1, .inl (cO, 4, .inr (.inr (.inr (.inr f)))))]) hP hD [0, 1] [2, 3] rfl rfl (by decide) (by decide) hk1 hFc hP1 hD1
  clear hz1 hk1 hFc hKc hDc hPc
  generalize H1 = H at hP hS ⊢
  have hP : va_P D vwCl [(t0, .inr (5, [.ref d0, .int w, .int h])), (d0, .inl (cI, 4096, .inl g)), (h0, .inr (8, [.ref s1, .ref s2, .ref s3, .ref s4, .ref s5, .ref s6, .int ds, va_rf sp, va_rf bt])), (s1, .inl (cO, 4, .inr (.inr (.inr (.inr f)))))] H := hP
  have hD : va_D A [(t0, .inr (5, [.ref d0, .int w, .int h])), (d0, .inl (cI, 4096, .inl g)), (h0, .inr (8, [.ref s1, .ref s2, .ref s3, .ref s4, .ref s5, .ref s6, .int ds, va_rf sp, va_rf bt])), (s1, .inl (cO, 4, .inr (.inr (.inr (.inr f)))))] := hD
  subst hr_1
  refine my_topv (v := .ref t0) rfl ?_
  refine lv_astore_n (lv' := [(3, .ref t0), (0, .ref h0), (1, .int k), (2, .int kq)]) hx hb dX8_differ_5 rfl hl (by decide) rfl (fun ls hl => ?_)
  refine lv_aload_n hx hb dX8_differ_6 rfl (lv_at hl 1 rfl) ?_
  refine lv_iload_n hx hb dX8_differ_7 rfl (lv_at hl 3 rfl) ?_
  have hPc := hP.sub (ws' := [(h0, .inr (8, [.ref s1, .ref s2, .ref s3, .ref s4, .ref s5, .ref s6, .int ds, va_rf sp, va_rf bt])), (s1, .inl (cO, 4, .inr (.inr (.inr (.inr f)))))]) [2, 3] rfl
  have hDc := hD.sub (ws' := [(h0, .inr (8, [.ref s1, .ref s2, .ref s3, .ref s4, .ref s5, .ref s6, .int ds, va_rf sp, va_rf bt])), (s1, .inl (cO, 4, .inr (.inr (.inr (.inr f)))))]) [2, 3] (by decide) rfl
  have hKc := hK.sub (tys' := [(cO, .object "DotBench$Sheet")]) [0] rfl
  have hFc := va_free (wc := [(h0, .inr (8, [.ref s1, .ref s2, .ref s3, .ref s4, .ref s5, .ref s6, .int ds, va_rf sp, va_rf bt])), (s1, .inl (cO, 4, .inr (.inr (.inr (.inr f)))))]) hD hS hA [2, 3] rfl
  refine va_callq (va_runV (As := [.int kq]) (rest := []) ⟨hx, hb, hml, hown, hts⟩ (k_X8_sheetAt_y l D H.size h0 s1 s2 s3 s4 s5 s6 ds sp bt f kq t0 cO (by first | assumption | omega | decide) (by first | assumption | omega | decide)) (cwV 1 hts (gV bw_267 bw_346 bw_347 bw_223 bw_345) rfl rfl rfl (by decide +kernel) ⟨(by rw [hR]; exact Nat.le_of_ble_eq_true rfl), (by rw [hR]; exact Nat.le_of_ble_eq_true rfl)⟩) ⟨cP_blind, va_recv hKc hPc (ci := 8) (q0 := 0) rfl rfl, cP_at hPc hKc hDc hN⟩ rfl rfl hl.1 rfl (lv_room (Nat.le_of_ble_eq_true rfl)) dX8_differ_8 ⟨(by rw [hR]; exact Nat.le_of_ble_eq_true rfl), (by rw [hR]; exact Nat.le_of_ble_eq_true rfl)⟩) hS (fun q _ h => hFc q h) hFc (fun r_2 u9 t9 H1 locs ht hvm hr_2 hB hz1 hk1 hS => ?_)
  try dsimp only at hr_2
  obtain ⟨hP1, hK1, hD1⟩ := hB
  rw [ht] at hP1
  obtain ⟨hP, hD⟩ := va_join (wr := [(t0, .inr (5, [.ref d0, .int w, .int h])), (d0, .inl (cI, 4096, .inl g))]) (w1 := [(h0, .inr (8, [.ref s1, .ref s2, .ref s3, .ref s4, .ref s5, .ref s6, .int ds, va_rf sp, va_rf bt])), (s1, .inl (cO, 4, .inr (.inr (.inr (.inr f)))))]) hP hD [2, 3] [0, 1] rfl rfl (by decide) (by decide) hk1 hFc hP1 hD1
  clear hz1 hk1 hFc hKc hDc hPc
  generalize H1 = H at hP hS ⊢
  have hP : va_P D vwCl [(t0, .inr (5, [.ref d0, .int w, .int h])), (d0, .inl (cI, 4096, .inl g)), (h0, .inr (8, [.ref s1, .ref s2, .ref s3, .ref s4, .ref s5, .ref s6, .int ds, va_rf sp, va_rf bt])), (s1, .inl (cO, 4, .inr (.inr (.inr (.inr f)))))] H := hP
  have hD : va_D A [(t0, .inr (5, [.ref d0, .int w, .int h])), (d0, .inl (cI, 4096, .inl g)), (h0, .inr (8, [.ref s1, .ref s2, .ref s3, .ref s4, .ref s5, .ref s6, .int ds, va_rf sp, va_rf bt])), (s1, .inl (cO, 4, .inr (.inr (.inr (.inr f)))))] := hD
  subst hr_2
  refine my_topv (v := .ref t0) rfl ?_
  refine lv_astore (lv' := [(4, .ref t0), (3, .ref t0), (0, .ref h0), (1, .int k), (2, .int kq)]) hx hb dX8_differ_11 hl (by decide) rfl (fun ls hl => ?_)
  refine lv_aload_n hx hb dX8_differ_13 rfl (lv_at hl 1 rfl) ?_
  refine lv_ifnull hx hb dX8_differ_14 ?_
  refine lv_aload hx hb dX8_differ_17 (lv_at hl 0 rfl) ?_
  refine lv_ifnull hx hb dX8_differ_19 ?_
  refine lv_aload_n hx hb dX8_differ_22 rfl (lv_at hl 1 rfl) ?_
  refine va_getN (host := RX8) (D := D) (ci := 5) (v := .int w) (C := RX5) (T := TX5) (N := 3) hx hb hts hi_X5 hown hK hP 0 rfl rfl 1 (by decide) ((hN.1 (RX8, 148, "DotBench$Sheet", "width", "I", RX8) (by decide +kernel)).use rfl) (fun _ h9 => h9) rfl dX8_differ_23 ?_
  refine lv_aload hx hb dX8_differ_26 (lv_at hl 0 rfl) ?_
  refine va_getN (host := RX8) (D := D) (ci := 5) (v := .int w) (C := RX5) (T := TX5) (N := 3) hx hb hts hi_X5 hown hK hP 0 rfl rfl 1 (by decide) ((hN.1 (RX8, 148, "DotBench$Sheet", "width", "I", RX8) (by decide +kernel)).use rfl) (fun _ h9 => h9) rfl dX8_differ_28 ?_
  refine lv_icmp_ne (tgt := 46) hx hb dX8_differ_31 (by decide) (fun c_3 => ?_) (fun c_3 => ?_)
  · skip
    exact absurd rfl c_3
  · skip
    have f_4 : w.toInt = w.toInt := f_eq rfl rfl c_3
    refine lv_aload_n hx hb dX8_differ_34 rfl (lv_at hl 1 rfl) ?_
    refine va_getN (host := RX8) (D := D) (ci := 5) (v := .int h) (C := RX5) (T := TX5) (N := 3) hx hb hts hi_X5 hown hK hP 0 rfl rfl 2 (by decide) ((hN.1 (RX8, 145, "DotBench$Sheet", "height", "I", RX8) (by decide +kernel)).use rfl) (fun _ h9 => h9) rfl dX8_differ_35 ?_
    refine lv_aload hx hb dX8_differ_38 (lv_at hl 0 rfl) ?_
    refine va_getN (host := RX8) (D := D) (ci := 5) (v := .int h) (C := RX5) (T := TX5) (N := 3) hx hb hts hi_X5 hown hK hP 0 rfl rfl 2 (by decide) ((hN.1 (RX8, 145, "DotBench$Sheet", "height", "I", RX8) (by decide +kernel)).use rfl) (fun _ h9 => h9) rfl dX8_differ_40 ?_
    refine lv_icmp_eq (tgt := 48) hx hb dX8_differ_43 (by decide) (fun c_5 => ?_) (fun c_5 => ?_)
    · skip
      have f_6 : h.toInt = h.toInt := f_eq rfl rfl c_5
      refine lv_iconst (v := 0) hx hb dX8_differ_48 (by decide) ?_
      refine lv_istore (lv' := [(5, .int 0), (4, .ref t0), (3, .ref t0), (0, .ref h0), (1, .int k), (2, .int kq)]) hx hb dX8_differ_49 hl (by decide) rfl (fun ls hl => ?_)
      refine lv_iconst (v := 0) hx hb dX8_differ_51 (by decide) ?_
      refine lv_istore (lv' := [(6, .int 0), (5, .int 0), (4, .ref t0), (3, .ref t0), (0, .ref h0), (1, .int k), (2, .int kq)]) hx hb dX8_differ_52 hl (by decide) rfl (fun ls hl => ?_)
      have loop_7 : ∀ (n : Nat) (j : Nat) (x6 : Int32) (x5 : Int32) (H : Heap) (locs : List Loc) (ls : Array Slot), (j ≤ 64) → (64 + 1 ≤ j + n) → (x6 = nI j) → va_P D vwCl [(t0, .inr (5, [.ref d0, .int w, .int h])), (d0, .inl (cI, 4096, .inl g)), (h0, .inr (8, [.ref s1, .ref s2, .ref s3, .ref s4, .ref s5, .ref s6, .int ds, va_rf sp, va_rf bt])), (s1, .inl (cO, 4, .inr (.inr (.inr (.inr f)))))] H → va_D A [(t0, .inr (5, [.ref d0, .int w, .int h])), (d0, .inl (cI, 4096, .inl g)), (h0, .inr (8, [.ref s1, .ref s2, .ref s3, .ref s4, .ref s5, .ref s6, .int ds, va_rf sp, va_rf bt])), (s1, .inl (cO, 4, .inr (.inr (.inr (.inr f)))))] → va_S A s.heap H locs → lv_has ls 8 [(6, .int x6), (5, .int x5), (4, .ref t0), (3, .ref t0), (0, .ref h0), (1, .int k), (2, .int kq)] → W p l e R s m ([.ref h0, .int k, .int kq] : List Value).toArray below meth c H locs 0 0 Q (F0 m 54 ls []) := by
        intro n
        induction n with
        | zero =>
          intro j x6 x5 H locs ls hi_j hm_j ex_j hP hD hS hl
          exact absurd (show False by omega) not_false
        | succ n ih_8 =>
          intro j x6 x5 H locs ls hi_j hm_j ex_j hP hD hS hl
          have hx_j : x6.toInt = (j : Int) := by rw [ex_j]; exact nI_toInt (by omega)
          have hc_j : x6.toNatClampNeg = j := by rw [ex_j]; exact nI_clamp (by omega)
          refine lv_iload hx hb dX8_differ_54 (lv_at hl 0 rfl) ?_
          refine lv_aload_n hx hb dX8_differ_56 rfl (lv_at hl 3 rfl) ?_
          refine va_getN (host := RX8) (D := D) (ci := 5) (v := .int h) (C := RX5) (T := TX5) (N := 3) hx hb hts hi_X5 hown hK hP 0 rfl rfl 2 (by decide) ((hN.1 (RX8, 145, "DotBench$Sheet", "height", "I", RX8) (by decide +kernel)).use rfl) (fun _ h9 => h9) rfl dX8_differ_57 ?_
          refine lv_icmp_ge (tgt := 110) hx hb dX8_differ_60 (by decide) (fun c_9 => ?_) (fun c_9 => ?_)
          · skip
            have f_10 : h.toInt ≤ (j : Int) := f_le rfl hx_j c_9
            refine lv_iload hx hb dX8_differ_110 (lv_at hl 1 rfl) ?_
            have hP9 := hP.sub (ws' := [(h0, .inr (8, [.ref s1, .ref s2, .ref s3, .ref s4, .ref s5, .ref s6, .int ds, va_rf sp, va_rf bt])), (s1, .inl (cO, 4, .inr (.inr (.inr (.inr f))))), (t0, .inr (5, [.ref d0, .int w, .int h])), (d0, .inl (cI, 4096, .inl g))]) [2, 3, 0, 1] rfl
            have hD9 := hD.sub (ws' := [(h0, .inr (8, [.ref s1, .ref s2, .ref s3, .ref s4, .ref s5, .ref s6, .int ds, va_rf sp, va_rf bt])), (s1, .inl (cO, 4, .inr (.inr (.inr (.inr f))))), (t0, .inr (5, [.ref d0, .int w, .int h])), (d0, .inl (cI, 4096, .inl g))]) [2, 3, 0, 1] (by decide) rfl
            have hK9 := hK.sub (tys' := [(cO, .object "DotBench$Sheet"), (cI, .int)]) [0, 1] rfl
            refine hQ _ _ _ _ _ ?_
            exact W.iret (v := x5) hx hb hr (fun t ht hW => ⟨⟨x5, (), rfl, trivial, ⟨by rw [ht]; exact hP9, va_K.moved hW.alike hK9, hD9⟩⟩, hS.F ht⟩) hS.2.2 dX8_differ_112
          · skip
            have f_10 : ¬ (h.toInt ≤ (j : Int)) := fn_le rfl hx_j c_9
            refine lv_iconst (v := 0) hx hb dX8_differ_63 (by decide) ?_
            refine lv_istore (lv' := [(7, .int 0), (6, .int x6), (5, .int x5), (4, .ref t0), (3, .ref t0), (0, .ref h0), (1, .int k), (2, .int kq)]) hx hb dX8_differ_64 hl (by decide) rfl (fun ls hl => ?_)
            have loop_11 : ∀ (n : Nat) (i : Nat) (x7 : Int32) (z5 : Int32) (H : Heap) (locs : List Loc) (ls : Array Slot), (i ≤ 64) → (64 + 1 ≤ i + n) → (x7 = nI i) → va_P D vwCl [(t0, .inr (5, [.ref d0, .int w, .int h])), (d0, .inl (cI, 4096, .inl g)), (h0, .inr (8, [.ref s1, .ref s2, .ref s3, .ref s4, .ref s5, .ref s6, .int ds, va_rf sp, va_rf bt])), (s1, .inl (cO, 4, .inr (.inr (.inr (.inr f)))))] H → va_D A [(t0, .inr (5, [.ref d0, .int w, .int h])), (d0, .inl (cI, 4096, .inl g)), (h0, .inr (8, [.ref s1, .ref s2, .ref s3, .ref s4, .ref s5, .ref s6, .int ds, va_rf sp, va_rf bt])), (s1, .inl (cO, 4, .inr (.inr (.inr (.inr f)))))] → va_S A s.heap H locs → lv_has ls 8 [(7, .int x7), (6, .int x6), (5, .int z5), (4, .ref t0), (3, .ref t0), (0, .ref h0), (1, .int k), (2, .int kq)] → W p l e R s m ([.ref h0, .int k, .int kq] : List Value).toArray below meth c H locs 0 0 Q (F0 m 66 ls []) := by
              intro n
              induction n with
              | zero =>
                intro i x7 z5 H locs ls hi_i hm_i ex_i hP hD hS hl
                exact absurd (show False by omega) not_false
              | succ n ih_12 =>
                intro i x7 z5 H locs ls hi_i hm_i ex_i hP hD hS hl
                have hx_i : x7.toInt = (i : Int) := by rw [ex_i]; exact nI_toInt (by omega)
                have hc_i : x7.toNatClampNeg = i := by rw [ex_i]; exact nI_clamp (by omega)
                refine lv_iload hx hb dX8_differ_66 (lv_at hl 0 rfl) ?_
                refine lv_aload_n hx hb dX8_differ_68 rfl (lv_at hl 4 rfl) ?_
                refine va_getN (host := RX8) (D := D) (ci := 5) (v := .int w) (C := RX5) (T := TX5) (N := 3) hx hb hts hi_X5 hown hK hP 0 rfl rfl 1 (by decide) ((hN.1 (RX8, 148, "DotBench$Sheet", "width", "I", RX8) (by decide +kernel)).use rfl) (fun _ h9 => h9) rfl dX8_differ_69 ?_
                refine lv_icmp_ge (tgt := 104) hx hb dX8_differ_72 (by decide) (fun c_13 => ?_) (fun c_13 => ?_)
                · skip
                  have f_14 : w.toInt ≤ (i : Int) := f_le rfl hx_i c_13
                  obtain ⟨y_15, ey_15⟩ : ∃ y : Int32, y = x6 + 1 := ⟨_, rfl⟩
                  refine lv_iinc (v := y_15) (lv' := [(6, .int y_15), (7, .int x7), (5, .int z5), (4, .ref t0), (3, .ref t0), (0, .ref h0), (1, .int k), (2, .int kq)]) hx hb dX8_differ_104 hl (k := 1) rfl (by rw [ey_15]; rfl) (by decide) rfl (fun ls hl => ?_)
                  refine lv_goto (tgt := 54) hx hb dX8_differ_107 (by decide) ?_
                  exact ih_8 (j + 1) y_15 z5 _ _ _ (by omega) (by omega) (by rw [ey_15, ex_j]; exact nI_1 j) (hP.sub (ws' := [(t0, .inr (5, [.ref d0, .int w, .int h])), (d0, .inl (cI, 4096, .inl g)), (h0, .inr (8, [.ref s1, .ref s2, .ref s3, .ref s4, .ref s5, .ref s6, .int ds, va_rf sp, va_rf bt])), (s1, .inl (cO, 4, .inr (.inr (.inr (.inr f)))))]) [0, 1, 2, 3] rfl) (hD.sub (ws' := [(t0, .inr (5, [.ref d0, .int w, .int h])), (d0, .inl (cI, 4096, .inl g)), (h0, .inr (8, [.ref s1, .ref s2, .ref s3, .ref s4, .ref s5, .ref s6, .int ds, va_rf sp, va_rf bt])), (s1, .inl (cO, 4, .inr (.inr (.inr (.inr f)))))]) [0, 1, 2, 3] (by decide) rfl) hS (lv_sub hl [0, 2, 3, 4, 5, 6, 7] rfl)
                · skip
                  have f_14 : ¬ (w.toInt ≤ (i : Int)) := fn_le rfl hx_i c_13
                  refine lv_aload_n hx hb dX8_differ_75 rfl (lv_at hl 4 rfl) ?_
                  refine lv_iload hx hb dX8_differ_76 (lv_at hl 0 rfl) ?_
                  refine lv_iload hx hb dX8_differ_78 (lv_at hl 1 rfl) ?_
                  have hPc := hP.sub (ws' := [(t0, .inr (5, [.ref d0, .int w, .int h])), (d0, .inl (cI, 4096, .inl g))]) [0, 1] rfl
                  have hDc := hD.sub (ws' := [(t0, .inr (5, [.ref d0, .int w, .int h])), (d0, .inl (cI, 4096, .inl g))]) [0, 1] (by decide) rfl
                  have hKc := hK.sub (tys' := [(cI, .int)]) [1] rfl
                  have hFc := va_free (wc := [(t0, .inr (5, [.ref d0, .int w, .int h])), (d0, .inl (cI, 4096, .inl g))]) hD hS hA [0, 1] rfl
                  refine va_calli (va_runV (As := [.int x7, .int x6]) (rest := []) ⟨hx, hb, hml, hown, hts⟩ (k_X5_at l D H.size t0 d0 w h g x7 x6 cI (by first | assumption | omega | decide) (by first | assumption | omega | decide)) (cwV 2 hts (gV bw_325 bw_153 bw_154 bw_130 bw_152) rfl rfl rfl (by decide +kernel) ⟨(by rw [hR]; exact Nat.le_of_ble_eq_true rfl), (by rw [hR]; exact Nat.le_of_ble_eq_true rfl)⟩) ⟨cP_blind, va_recv hKc hPc (ci := 5) (q0 := 0) rfl rfl, cP_at hPc hKc hDc hN⟩ rfl rfl hl.1 rfl (lv_room (Nat.le_of_ble_eq_true rfl)) dX8_differ_80 ⟨(by rw [hR]; exact Nat.le_of_ble_eq_true rfl), (by rw [hR]; exact Nat.le_of_ble_eq_true rfl)⟩) hS (fun q _ h => hFc q h) hFc (fun r_16 u9 t9 H1 locs ht hvm hr_16 hB hz1 hk1 hS => ?_)
                  try dsimp only at hr_16
                  obtain ⟨hP1, hK1, hD1⟩ := hB
                  rw [ht] at hP1
                  obtain ⟨hP, hD⟩ := va_join (wr := [(h0, .inr (8, [.ref s1, .ref s2, .ref s3, .ref s4, .ref s5, .ref s6, .int ds, va_rf sp, va_rf bt])), (s1, .inl (cO, 4, .inr (.inr (.inr (.inr f)))))]) (w1 := [(t0, .inr (5, [.ref d0, .int w, .int h])), (d0, .inl (cI, 4096, .inl g))]) hP hD [0, 1] [2, 3] rfl rfl (by decide) (by decide) hk1 hFc hP1 hD1
                  clear hz1 hk1 hFc hKc hDc hPc
                  generalize H1 = H at hP hS ⊢
                  have hP : va_P D vwCl [(h0, .inr (8, [.ref s1, .ref s2, .ref s3, .ref s4, .ref s5, .ref s6, .int ds, va_rf sp, va_rf bt])), (s1, .inl (cO, 4, .inr (.inr (.inr (.inr f))))), (t0, .inr (5, [.ref d0, .int w, .int h])), (d0, .inl (cI, 4096, .inl g))] H := hP
                  have hD : va_D A [(h0, .inr (8, [.ref s1, .ref s2, .ref s3, .ref s4, .ref s5, .ref s6, .int ds, va_rf sp, va_rf bt])), (s1, .inl (cO, 4, .inr (.inr (.inr (.inr f))))), (t0, .inr (5, [.ref d0, .int w, .int h])), (d0, .inl (cI, 4096, .inl g))] := hD
                  refine lv_aload hx hb dX8_differ_83 (lv_at hl 3 rfl) ?_
                  refine lv_iload hx hb dX8_differ_85 (lv_at hl 0 rfl) ?_
                  refine lv_iload hx hb dX8_differ_87 (lv_at hl 1 rfl) ?_
                  have hPc := hP.sub (ws' := [(t0, .inr (5, [.ref d0, .int w, .int h])), (d0, .inl (cI, 4096, .inl g))]) [2, 3] rfl
                  have hDc := hD.sub (ws' := [(t0, .inr (5, [.ref d0, .int w, .int h])), (d0, .inl (cI, 4096, .inl g))]) [2, 3] (by decide) rfl
                  have hKc := hK.sub (tys' := [(cI, .int)]) [1] rfl
                  have hFc := va_free (wc := [(t0, .inr (5, [.ref d0, .int w, .int h])), (d0, .inl (cI, 4096, .inl g))]) hD hS hA [2, 3] rfl
                  refine va_calli (va_runV (As := [.int x7, .int x6]) (rest := [.int r_16]) ⟨hx, hb, hml, hown, hts⟩ (k_X5_at l D H.size t0 d0 w h g x7 x6 cI (by first | assumption | omega | decide) (by first | assumption | omega | decide)) (cwV 2 hts (gV bw_325 bw_153 bw_154 bw_130 bw_152) rfl rfl rfl (by decide +kernel) ⟨(by rw [hR]; exact Nat.le_of_ble_eq_true rfl), (by rw [hR]; exact Nat.le_of_ble_eq_true rfl)⟩) ⟨cP_blind, va_recv hKc hPc (ci := 5) (q0 := 0) rfl rfl, cP_at hPc hKc hDc hN⟩ rfl rfl hl.1 rfl (lv_room (Nat.le_of_ble_eq_true rfl)) dX8_differ_89 ⟨(by rw [hR]; exact Nat.le_of_ble_eq_true rfl), (by rw [hR]; exact Nat.le_of_ble_eq_true rfl)⟩) hS (fun q _ h => hFc q h) hFc (fun r_17 u9 t9 H1 locs ht hvm hr_17 hB hz1 hk1 hS => ?_)
                  try dsimp only at hr_17
                  obtain ⟨hP1, hK1, hD1⟩ := hB
                  rw [ht] at hP1
                  obtain ⟨hP, hD⟩ := va_join (wr := [(h0, .inr (8, [.ref s1, .ref s2, .ref s3, .ref s4, .ref s5, .ref s6, .int ds, va_rf sp, va_rf bt])), (s1, .inl (cO, 4, .inr (.inr (.inr (.inr f)))))]) (w1 := [(t0, .inr (5, [.ref d0, .int w, .int h])), (d0, .inl (cI, 4096, .inl g))]) hP hD [2, 3] [0, 1] rfl rfl (by decide) (by decide) hk1 hFc hP1 hD1
                  clear hz1 hk1 hFc hKc hDc hPc
                  generalize H1 = H at hP hS ⊢
                  have hP : va_P D vwCl [(h0, .inr (8, [.ref s1, .ref s2, .ref s3, .ref s4, .ref s5, .ref s6, .int ds, va_rf sp, va_rf bt])), (s1, .inl (cO, 4, .inr (.inr (.inr (.inr f))))), (t0, .inr (5, [.ref d0, .int w, .int h])), (d0, .inl (cI, 4096, .inl g))] H := hP
                  have hD : va_D A [(h0, .inr (8, [.ref s1, .ref s2, .ref s3, .ref s4, .ref s5, .ref s6, .int ds, va_rf sp, va_rf bt])), (s1, .inl (cO, 4, .inr (.inr (.inr (.inr f))))), (t0, .inr (5, [.ref d0, .int w, .int h])), (d0, .inl (cI, 4096, .inl g))] := hD
                  refine lv_icmp_eq (tgt := 98) hx hb dX8_differ_92 (by decide) (fun c_18 => ?_) (fun c_18 => ?_)
                  · skip
                    have f_19 : r_16.toInt = r_17.toInt := f_eq rfl rfl c_18
                    obtain ⟨y_20, ey_20⟩ : ∃ y : Int32, y = x7 + 1 := ⟨_, rfl⟩
                    refine lv_iinc (v := y_20) (lv' := [(7, .int y_20), (6, .int x6), (5, .int z5), (4, .ref t0), (3, .ref t0), (0, .ref h0), (1, .int k), (2, .int kq)]) hx hb dX8_differ_98 hl (k := 0) rfl (by rw [ey_20]; rfl) (by decide) rfl (fun ls hl => ?_)
                    refine lv_goto (tgt := 66) hx hb dX8_differ_101 (by decide) ?_
                    exact ih_12 (i + 1) y_20 z5 _ _ _ (by omega) (by omega) (by rw [ey_20, ex_i]; exact nI_1 i) (hP.sub (ws' := [(t0, .inr (5, [.ref d0, .int w, .int h])), (d0, .inl (cI, 4096, .inl g)), (h0, .inr (8, [.ref s1, .ref s2, .ref s3, .ref s4, .ref s5, .ref s6, .int ds, va_rf sp, va_rf bt])), (s1, .inl (cO, 4, .inr (.inr (.inr (.inr f)))))]) [2, 3, 0, 1] rfl) (hD.sub (ws' := [(t0, .inr (5, [.ref d0, .int w, .int h])), (d0, .inl (cI, 4096, .inl g)), (h0, .inr (8, [.ref s1, .ref s2, .ref s3, .ref s4, .ref s5, .ref s6, .int ds, va_rf sp, va_rf bt])), (s1, .inl (cO, 4, .inr (.inr (.inr (.inr f)))))]) [2, 3, 0, 1] (by decide) rfl) hS (lv_sub hl [0, 1, 2, 3, 4, 5, 6, 7] rfl)
                  · skip
                    have f_19 : ¬ (r_16.toInt = r_17.toInt) := fn_eq rfl rfl c_18
                    obtain ⟨y_21, ey_21⟩ : ∃ y : Int32, y = z5 + 1 := ⟨_, rfl⟩
                    refine lv_iinc (v := y_21) (lv' := [(5, .int y_21), (7, .int x7), (6, .int x6), (4, .ref t0), (3, .ref t0), (0, .ref h0), (1, .int k), (2, .int kq)]) hx hb dX8_differ_95 hl (k := 2) rfl (by rw [ey_21]; rfl) (by decide) rfl (fun ls hl => ?_)
                    obtain ⟨y_22, ey_22⟩ : ∃ y : Int32, y = x7 + 1 := ⟨_, rfl⟩
                    refine lv_iinc (v := y_22) (lv' := [(7, .int y_22), (5, .int y_21), (6, .int x6), (4, .ref t0), (3, .ref t0), (0, .ref h0), (1, .int k), (2, .int kq)]) hx hb dX8_differ_98 hl (k := 1) rfl (by rw [ey_22]; rfl) (by decide) rfl (fun ls hl => ?_)
                    refine lv_goto (tgt := 66) hx hb dX8_differ_101 (by decide) ?_
                    exact ih_12 (i + 1) y_22 y_21 _ _ _ (by omega) (by omega) (by rw [ey_22, ex_i]; exact nI_1 i) (hP.sub (ws' := [(t0, .inr (5, [.ref d0, .int w, .int h])), (d0, .inl (cI, 4096, .inl g)), (h0, .inr (8, [.ref s1, .ref s2, .ref s3, .ref s4, .ref s5, .ref s6, .int ds, va_rf sp, va_rf bt])), (s1, .inl (cO, 4, .inr (.inr (.inr (.inr f)))))]) [2, 3, 0, 1] rfl) (hD.sub (ws' := [(t0, .inr (5, [.ref d0, .int w, .int h])), (d0, .inl (cI, 4096, .inl g)), (h0, .inr (8, [.ref s1, .ref s2, .ref s3, .ref s4, .ref s5, .ref s6, .int ds, va_rf sp, va_rf bt])), (s1, .inl (cO, 4, .inr (.inr (.inr (.inr f)))))]) [2, 3, 0, 1] (by decide) rfl) hS (lv_sub hl [0, 2, 1, 3, 4, 5, 6, 7] rfl)
            exact loop_11 (64 + 1) 0 0 x5 _ _ _ (by omega) (by omega) nI_0.symm hP hD hS (lv_sub hl [0, 1, 2, 3, 4, 5, 6, 7] rfl)
      exact loop_7 (64 + 1) 0 0 0 _ _ _ (by omega) (by omega) nI_0.symm hP hD hS (lv_sub hl [0, 1, 2, 3, 4, 5, 6] rfl)
    · skip
      exact absurd rfl c_5

set_option maxHeartbeats 4000000 in
set_option maxRecDepth 100000 in
theorem k_X8_differ_nn (l : Launch) (D : va_G) (sz : Nat) (h0 s1 s2 s3 s4 s5 s6 : Nat) (ds : Int32) (sp bt : Option Nat) (f : Nat → Option Nat) (k kq : Int32) (cO : ClassId) (haf : 0 ≤ k.toInt ∧ k.toInt ≤ 3 → f k.toNatClampNeg = none) (hb0f : 0 ≤ kq.toInt ∧ kq.toInt ≤ 3 → f kq.toNatClampNeg = none) : Met l yX8_differ (wB yX8_differ cX8_differ 8 (some .int)) ({ frames := 1, cells := 0, slots := 0, locals := 21 }) (cP D [(h0, .inr (8, [.ref s1, .ref s2, .ref s3, .ref s4, .ref s5, .ref s6, .int ds, va_rf sp, va_rf bt])), (s1, .inl (cO, 4, .inr (.inr (.inr (.inr f)))))] [(cO, .object "DotBench$Sheet")] sz [.ref h0, .int k, .int kq]) (va_Qi (fun (r : Int32) (_ : Unit) => r = -1) (fun (_ : Unit) (t : State) => cB D (va_A [(h0, .inr (8, [.ref s1, .ref s2, .ref s3, .ref s4, .ref s5, .ref s6, .int ds, va_rf sp, va_rf bt])), (s1, .inl (cO, 4, .inr (.inr (.inr (.inr f)))))] sz) [(h0, .inr (8, [.ref s1, .ref s2, .ref s3, .ref s4, .ref s5, .ref s6, .int ds, va_rf sp, va_rf bt])), (s1, .inl (cO, 4, .inr (.inr (.inr (.inr f)))))] [(cO, .object "DotBench$Sheet")] t) (va_A [(h0, .inr (8, [.ref s1, .ref s2, .ref s3, .ref s4, .ref s5, .ref s6, .int ds, va_rf sp, va_rf bt])), (s1, .inl (cO, 4, .inr (.inr (.inr (.inr f)))))] sz)) 0 0 (va_A [(h0, .inr (8, [.ref s1, .ref s2, .ref s3, .ref s4, .ref s5, .ref s6, .int ds, va_rf sp, va_rf bt])), (s1, .inl (cO, 4, .inr (.inr (.inr (.inr f)))))] sz) := by
  refine Met.ofW (cc := cX8_differ) (maxL := 8) (ret := (some .int)) (by decide) rfl ?_
  intro p e s m args below meth c s₁ B hml hv
  obtain ⟨rfl, hsz, hP, hK, hD0, hN⟩ := hv
  have hx := B.exec
  have hb := B.bytes
  have hr := B.returns
  have hts0 := atoms_spec (ws := (wB yX8_differ cX8_differ 8 (some .int))) B.pre
  have hts : ∀ w ∈ bigW, w.before _ s = true := fun w h => hts0 w (List.mem_cons_of_mem _ h)
  have hown : s.vm.findClass RX8 = some m.cls := findClass_of_methodNamed B.named
  have hlocks := B.notSynchronized
  subst hsz
  have hD := hD0.self (sz := s.heap.size)
  generalize hAe : va_A [(h0, .inr (8, [.ref s1, .ref s2, .ref s3, .ref s4, .ref s5, .ref s6, .int ds, va_rf sp, va_rf bt])), (s1, .inl (cO, 4, .inr (.inr (.inr (.inr f)))))] s.heap.size = A at hD ⊢
  have hA : ∀ q : Nat, s.heap.size ≤ q → A q := fun q h => by rw [← hAe]; exact Or.inr h
  have hS : va_S A s.heap s.heap [] := va_S.rf
  have hP : va_P D vwCl [(h0, .inr (8, [.ref s1, .ref s2, .ref s3, .ref s4, .ref s5, .ref s6, .int ds, va_rf sp, va_rf bt])), (s1, .inl (cO, 4, .inr (.inr (.inr (.inr f)))))] s.heap := hP
  have hl := lv_entry ([.ref h0, .int k, .int kq]) (n := 8) (Nat.le_of_ble_eq_true rfl)
  rw [lg_entry_eq]
  generalize (lg_sl ([.ref h0, .int k, .int kq]) ++ List.replicate (8 - (lg_sl ([.ref h0, .int k, .int kq])).length) Slot.unset).toArray = ls at hl ⊢
  have hl : lv_has ls 8 [(0, .ref h0), (1, .int k), (2, .int kq)] := hl
  clear hts0 hD0 hAe
  refine my_abs (fun R Q hR hQ => ?_)
  refine lv_aload_n hx hb dX8_differ_0 rfl (lv_at hl 0 rfl) ?_
  refine lv_iload_n hx hb dX8_differ_1 rfl (lv_at hl 1 rfl) ?_
  have hPc := hP.sub (ws' := [(h0, .inr (8, [.ref s1, .ref s2, .ref s3, .ref s4, .ref s5, .ref s6, .int ds, va_rf sp, va_rf bt])), (s1, .inl (cO, 4, .inr (.inr (.inr (.inr f)))))]) [0, 1] rfl
  have hDc := hD.sub (ws' := [(h0, .inr (8, [.ref s1, .ref s2, .ref s3, .ref s4, .ref s5, .ref s6, .int ds, va_rf sp, va_rf bt])), (s1, .inl (cO, 4, .inr (.inr (.inr (.inr f)))))]) [0, 1] (by decide) rfl
  have hKc := hK.sub (tys' := [(cO, .object "DotBench$Sheet")]) [0] rfl
  have hFc := va_free (wc := [(h0, .inr (8, [.ref s1, .ref s2, .ref s3, .ref s4, .ref s5, .ref s6, .int ds, va_rf sp, va_rf bt])), (s1, .inl (cO, 4, .inr (.inr (.inr (.inr f)))))]) hD hS hA [0, 1] rfl
  refine va_callq (va_runV (As := [.int k]) (rest := []) ⟨hx, hb, hml, hown, hts⟩ (k_X8_sheetAt_n l D s.heap.size h0 s1 s2 s3 s4 s5 s6 ds sp bt f k cO (by first | assumption | omega | decide)) (cwV 1 hts (gV bw_267 bw_346 bw_347 bw_223 bw_345) rfl rfl rfl (by decide +kernel) ⟨(by rw [hR]; exact Nat.le_of_ble_eq_true rfl), (by rw [hR]; exact Nat.le_of_ble_eq_true rfl)⟩) ⟨cP_blind, va_recv hKc hPc (ci := 8) (q0 := 0) rfl rfl, cP_at hPc hKc hDc hN⟩ rfl rfl hl.1 rfl (lv_room (Nat.le_of_ble_eq_true rfl)) dX8_differ_2 ⟨(by rw [hR]; exact Nat.le_of_ble_eq_true rfl), (by rw [hR]; exact Nat.le_of_ble_eq_true rfl)⟩) hS (fun q _ h => hFc q h) hFc (fun r_1 u9 t9 H1 locs ht hvm hr_1 hB hz1 hk1 hS => ?_)
  try dsimp only at hr_1
  obtain ⟨hP1, hK1, hD1⟩ := hB
  rw [ht] at hP1
  obtain ⟨hP, hD⟩ := va_join (wr := []) (w1 := [(h0, .inr (8, [.ref s1, .ref s2, .ref s3, .ref s4, .ref s5, .ref s6, .int ds, va_rf sp, va_rf bt])), (s1, .inl (cO, 4, .inr (.inr (.inr (.inr f)))))]) hP hD [0, 1] [] rfl rfl (by decide) (by decide) hk1 hFc hP1 hD1
  clear hz1 hk1 hFc hKc hDc hPc
  generalize H1 = H at hP hS ⊢
  have hP : va_P D vwCl [(h0, .inr (8, [.ref s1, .ref s2, .ref s3, .ref s4, .ref s5, .ref s6, .int ds, va_rf sp, va_rf bt])), (s1, .inl (cO, 4, .inr (.inr (.inr (.inr f)))))] H := hP
  have hD : va_D A [(h0, .inr (8, [.ref s1, .ref s2, .ref s3, .ref s4, .ref s5, .ref s6, .int ds, va_rf sp, va_rf bt])), (s1, .inl (cO, 4, .inr (.inr (.inr (.inr f)))))] := hD
  subst hr_1
  refine my_topv (v := .null) rfl ?_
  refine lv_astore_nN (lv' := [(3, .null), (0, .ref h0), (1, .int k), (2, .int kq)]) hx hb dX8_differ_5 rfl hl (by decide) rfl (fun ls hl => ?_)
  refine lv_aload_n hx hb dX8_differ_6 rfl (lv_at hl 1 rfl) ?_
  refine lv_iload_n hx hb dX8_differ_7 rfl (lv_at hl 3 rfl) ?_
  have hPc := hP.sub (ws' := [(h0, .inr (8, [.ref s1, .ref s2, .ref s3, .ref s4, .ref s5, .ref s6, .int ds, va_rf sp, va_rf bt])), (s1, .inl (cO, 4, .inr (.inr (.inr (.inr f)))))]) [0, 1] rfl
  have hDc := hD.sub (ws' := [(h0, .inr (8, [.ref s1, .ref s2, .ref s3, .ref s4, .ref s5, .ref s6, .int ds, va_rf sp, va_rf bt])), (s1, .inl (cO, 4, .inr (.inr (.inr (.inr f)))))]) [0, 1] (by decide) rfl
  have hKc := hK.sub (tys' := [(cO, .object "DotBench$Sheet")]) [0] rfl
  have hFc := va_free (wc := [(h0, .inr (8, [.ref s1, .ref s2, .ref s3, .ref s4, .ref s5, .ref s6, .int ds, va_rf sp, va_rf bt])), (s1, .inl (cO, 4, .inr (.inr (.inr (.inr f)))))]) hD hS hA [0, 1] rfl
  refine va_callq (va_runV (As := [.int kq]) (rest := []) ⟨hx, hb, hml, hown, hts⟩ (k_X8_sheetAt_n l D H.size h0 s1 s2 s3 s4 s5 s6 ds sp bt f kq cO (by first | assumption | omega | decide)) (cwV 1 hts (gV bw_267 bw_346 bw_347 bw_223 bw_345) rfl rfl rfl (by decide +kernel) ⟨(by rw [hR]; exact Nat.le_of_ble_eq_true rfl), (by rw [hR]; exact Nat.le_of_ble_eq_true rfl)⟩) ⟨cP_blind, va_recv hKc hPc (ci := 8) (q0 := 0) rfl rfl, cP_at hPc hKc hDc hN⟩ rfl rfl hl.1 rfl (lv_room (Nat.le_of_ble_eq_true rfl)) dX8_differ_8 ⟨(by rw [hR]; exact Nat.le_of_ble_eq_true rfl), (by rw [hR]; exact Nat.le_of_ble_eq_true rfl)⟩) hS (fun q _ h => hFc q h) hFc (fun r_2 u9 t9 H1 locs ht hvm hr_2 hB hz1 hk1 hS => ?_)
  try dsimp only at hr_2
  obtain ⟨hP1, hK1, hD1⟩ := hB
  rw [ht] at hP1
  obtain ⟨hP, hD⟩ := va_join (wr := []) (w1 := [(h0, .inr (8, [.ref s1, .ref s2, .ref s3, .ref s4, .ref s5, .ref s6, .int ds, va_rf sp, va_rf bt])), (s1, .inl (cO, 4, .inr (.inr (.inr (.inr f)))))]) hP hD [0, 1] [] rfl rfl (by decide) (by decide) hk1 hFc hP1 hD1
  clear hz1 hk1 hFc hKc hDc hPc
  generalize H1 = H at hP hS ⊢
  have hP : va_P D vwCl [(h0, .inr (8, [.ref s1, .ref s2, .ref s3, .ref s4, .ref s5, .ref s6, .int ds, va_rf sp, va_rf bt])), (s1, .inl (cO, 4, .inr (.inr (.inr (.inr f)))))] H := hP
  have hD : va_D A [(h0, .inr (8, [.ref s1, .ref s2, .ref s3, .ref s4, .ref s5, .ref s6, .int ds, va_rf sp, va_rf bt])), (s1, .inl (cO, 4, .inr (.inr (.inr (.inr f)))))] := hD
  subst hr_2
  refine my_topv (v := .null) rfl ?_
  refine lv_astoreN (lv' := [(4, .null), (3, .null), (0, .ref h0), (1, .int k), (2, .int kq)]) hx hb dX8_differ_11 hl (by decide) rfl (fun ls hl => ?_)
  refine lv_aload_nN hx hb dX8_differ_13 rfl (lv_at hl 1 rfl) ?_
  refine lv_ifnullN (tgt := 46) hx hb dX8_differ_14 (by decide) ?_
  refine lv_iconst (v := (-1)) hx hb dX8_differ_46 (by decide) ?_
  have hP9 := hP.sub (ws' := [(h0, .inr (8, [.ref s1, .ref s2, .ref s3, .ref s4, .ref s5, .ref s6, .int ds, va_rf sp, va_rf bt])), (s1, .inl (cO, 4, .inr (.inr (.inr (.inr f)))))]) [0, 1] rfl
  have hD9 := hD.sub (ws' := [(h0, .inr (8, [.ref s1, .ref s2, .ref s3, .ref s4, .ref s5, .ref s6, .int ds, va_rf sp, va_rf bt])), (s1, .inl (cO, 4, .inr (.inr (.inr (.inr f)))))]) [0, 1] (by decide) rfl
  have hK9 := hK.sub (tys' := [(cO, .object "DotBench$Sheet")]) [0] rfl
  refine hQ _ _ _ _ _ ?_
  exact W.iret (v := (-1)) hx hb hr (fun t ht hW => ⟨⟨(-1), (), rfl, rfl, ⟨by rw [ht]; exact hP9, va_K.moved hW.alike hK9, hD9⟩⟩, hS.F ht⟩) hS.2.2 dX8_differ_47

set_option maxHeartbeats 4000000 in
set_option maxRecDepth 100000 in
theorem k_X8_differ_ny (l : Launch) (D : va_G) (sz : Nat) (h0 s1 s2 s3 s4 s5 s6 : Nat) (ds : Int32) (sp bt : Option Nat) (f : Nat → Option Nat) (t0 : Nat) (k kq : Int32) (cO : ClassId) (haf : 0 ≤ k.toInt ∧ k.toInt ≤ 3 → f k.toNatClampNeg = none) (hb0k : 0 ≤ kq.toInt ∧ kq.toInt ≤ 3) (hb0f : f kq.toNatClampNeg = some t0) : Met l yX8_differ (wB yX8_differ cX8_differ 8 (some .int)) ({ frames := 1, cells := 0, slots := 0, locals := 21 }) (cP D [(h0, .inr (8, [.ref s1, .ref s2, .ref s3, .ref s4, .ref s5, .ref s6, .int ds, va_rf sp, va_rf bt])), (s1, .inl (cO, 4, .inr (.inr (.inr (.inr f)))))] [(cO, .object "DotBench$Sheet")] sz [.ref h0, .int k, .int kq]) (va_Qi (fun (r : Int32) (_ : Unit) => r = -1) (fun (_ : Unit) (t : State) => cB D (va_A [(h0, .inr (8, [.ref s1, .ref s2, .ref s3, .ref s4, .ref s5, .ref s6, .int ds, va_rf sp, va_rf bt])), (s1, .inl (cO, 4, .inr (.inr (.inr (.inr f)))))] sz) [(h0, .inr (8, [.ref s1, .ref s2, .ref s3, .ref s4, .ref s5, .ref s6, .int ds, va_rf sp, va_rf bt])), (s1, .inl (cO, 4, .inr (.inr (.inr (.inr f)))))] [(cO, .object "DotBench$Sheet")] t) (va_A [(h0, .inr (8, [.ref s1, .ref s2, .ref s3, .ref s4, .ref s5, .ref s6, .int ds, va_rf sp, va_rf bt])), (s1, .inl (cO, 4, .inr (.inr (.inr (.inr f)))))] sz)) 0 0 (va_A [(h0, .inr (8, [.ref s1, .ref s2, .ref s3, .ref s4, .ref s5, .ref s6, .int ds, va_rf sp, va_rf bt])), (s1, .inl (cO, 4, .inr (.inr (.inr (.inr f)))))] sz) := by
  refine Met.ofW (cc := cX8_differ) (maxL := 8) (ret := (some .int)) (by decide) rfl ?_
  intro p e s m args below meth c s₁ B hml hv
  obtain ⟨rfl, hsz, hP, hK, hD0, hN⟩ := hv
  have hx := B.exec
  have hb := B.bytes
  have hr := B.returns
  have hts0 := atoms_spec (ws := (wB yX8_differ cX8_differ 8 (some .int))) B.pre
  have hts : ∀ w ∈ bigW, w.before _ s = true := fun w h => hts0 w (List.mem_cons_of_mem _ h)
  have hown : s.vm.findClass RX8 = some m.cls := findClass_of_methodNamed B.named
  have hlocks := B.notSynchronized
  subst hsz
  have hD := hD0.self (sz := s.heap.size)
  generalize hAe : va_A [(h0, .inr (8, [.ref s1, .ref s2, .ref s3, .ref s4, .ref s5, .ref s6, .int ds, va_rf sp, va_rf bt])), (s1, .inl (cO, 4, .inr (.inr (.inr (.inr f)))))] s.heap.size = A at hD ⊢
  have hA : ∀ q : Nat, s.heap.size ≤ q → A q := fun q h => by rw [← hAe]; exact Or.inr h
  have hS : va_S A s.heap s.heap [] := va_S.rf
  have hP : va_P D vwCl [(h0, .inr (8, [.ref s1, .ref s2, .ref s3, .ref s4, .ref s5, .ref s6, .int ds, va_rf sp, va_rf bt])), (s1, .inl (cO, 4, .inr (.inr (.inr (.inr f)))))] s.heap := hP
  have hl := lv_entry ([.ref h0, .int k, .int kq]) (n := 8) (Nat.le_of_ble_eq_true rfl)
  rw [lg_entry_eq]
  generalize (lg_sl ([.ref h0, .int k, .int kq]) ++ List.replicate (8 - (lg_sl ([.ref h0, .int k, .int kq])).length) Slot.unset).toArray = ls at hl ⊢
  have hl : lv_has ls 8 [(0, .ref h0), (1, .int k), (2, .int kq)] := hl
  clear hts0 hD0 hAe
  refine my_abs (fun R Q hR hQ => ?_)
  refine lv_aload_n hx hb dX8_differ_0 rfl (lv_at hl 0 rfl) ?_
  refine lv_iload_n hx hb dX8_differ_1 rfl (lv_at hl 1 rfl) ?_
  have hPc := hP.sub (ws' := [(h0, .inr (8, [.ref s1, .ref s2, .ref s3, .ref s4, .ref s5, .ref s6, .int ds, va_rf sp, va_rf bt])), (s1, .inl (cO, 4, .inr (.inr (.inr (.inr f)))))]) [0, 1] rfl
  have hDc := hD.sub (ws' := [(h0, .inr (8, [.ref s1, .ref s2, .ref s3, .ref s4, .ref s5, .ref s6, .int ds, va_rf sp, va_rf bt])), (s1, .inl (cO, 4, .inr (.inr (.inr (.inr f)))))]) [0, 1] (by decide) rfl
  have hKc := hK.sub (tys' := [(cO, .object "DotBench$Sheet")]) [0] rfl
  have hFc := va_free (wc := [(h0, .inr (8, [.ref s1, .ref s2, .ref s3, .ref s4, .ref s5, .ref s6, .int ds, va_rf sp, va_rf bt])), (s1, .inl (cO, 4, .inr (.inr (.inr (.inr f)))))]) hD hS hA [0, 1] rfl
  refine va_callq (va_runV (As := [.int k]) (rest := []) ⟨hx, hb, hml, hown, hts⟩ (k_X8_sheetAt_n l D s.heap.size h0 s1 s2 s3 s4 s5 s6 ds sp bt f k cO (by first | assumption | omega | decide)) (cwV 1 hts (gV bw_267 bw_346 bw_347 bw_223 bw_345) rfl rfl rfl (by decide +kernel) ⟨(by rw [hR]; exact Nat.le_of_ble_eq_true rfl), (by rw [hR]; exact Nat.le_of_ble_eq_true rfl)⟩) ⟨cP_blind, va_recv hKc hPc (ci := 8) (q0 := 0) rfl rfl, cP_at hPc hKc hDc hN⟩ rfl rfl hl.1 rfl (lv_room (Nat.le_of_ble_eq_true rfl)) dX8_differ_2 ⟨(by rw [hR]; exact Nat.le_of_ble_eq_true rfl), (by rw [hR]; exact Nat.le_of_ble_eq_true rfl)⟩) hS (fun q _ h => hFc q h) hFc (fun r_1 u9 t9 H1 locs ht hvm hr_1 hB hz1 hk1 hS => ?_)
  try dsimp only at hr_1
  obtain ⟨hP1, hK1, hD1⟩ := hB
  rw [ht] at hP1
  obtain ⟨hP, hD⟩ := va_join (wr := []) (w1 := [(h0, .inr (8, [.ref s1, .ref s2, .ref s3, .ref s4, .ref s5, .ref s6, .int ds, va_rf sp, va_rf bt])), (s1, .inl (cO, 4, .inr (.inr (.inr (.inr f)))))]) hP hD [0, 1] [] rfl rfl (by decide) (by decide) hk1 hFc hP1 hD1
  clear hz1 hk1 hFc hKc hDc hPc
  generalize H1 = H at hP hS ⊢
  have hP : va_P D vwCl [(h0, .inr (8, [.ref s1, .ref s2, .ref s3, .ref s4, .ref s5, .ref s6, .int ds, va_rf sp, va_rf bt])), (s1, .inl (cO, 4, .inr (.inr (.inr (.inr f)))))] H := hP
  have hD : va_D A [(h0, .inr (8, [.ref s1, .ref s2, .ref s3, .ref s4, .ref s5, .ref s6, .int ds, va_rf sp, va_rf bt])), (s1, .inl (cO, 4, .inr (.inr (.inr (.inr f)))))] := hD
  subst hr_1
  refine my_topv (v := .null) rfl ?_
  refine lv_astore_nN (lv' := [(3, .null), (0, .ref h0), (1, .int k), (2, .int kq)]) hx hb dX8_differ_5 rfl hl (by decide) rfl (fun ls hl => ?_)
  refine lv_aload_n hx hb dX8_differ_6 rfl (lv_at hl 1 rfl) ?_
  refine lv_iload_n hx hb dX8_differ_7 rfl (lv_at hl 3 rfl) ?_
  have hPc := hP.sub (ws' := [(h0, .inr (8, [.ref s1, .ref s2, .ref s3, .ref s4, .ref s5, .ref s6, .int ds, va_rf sp, va_rf bt])), (s1, .inl (cO, 4, .inr (.inr (.inr (.inr f)))))]) [0, 1] rfl
  have hDc := hD.sub (ws' := [(h0, .inr (8, [.ref s1, .ref s2, .ref s3, .ref s4, .ref s5, .ref s6, .int ds, va_rf sp, va_rf bt])), (s1, .inl (cO, 4, .inr (.inr (.inr (.inr f)))))]) [0, 1] (by decide) rfl
  have hKc := hK.sub (tys' := [(cO, .object "DotBench$Sheet")]) [0] rfl
  have hFc := va_free (wc := [(h0, .inr (8, [.ref s1, .ref s2, .ref s3, .ref s4, .ref s5, .ref s6, .int ds, va_rf sp, va_rf bt])), (s1, .inl (cO, 4, .inr (.inr (.inr (.inr f)))))]) hD hS hA [0, 1] rfl
  refine va_callq (va_runV (As := [.int kq]) (rest := []) ⟨hx, hb, hml, hown, hts⟩ (k_X8_sheetAt_y l D H.size h0 s1 s2 s3 s4 s5 s6 ds sp bt f kq t0 cO (by first | assumption | omega | decide) (by first | assumption | omega | decide)) (cwV 1 hts (gV bw_267 bw_346 bw_347 bw_223 bw_345) rfl rfl rfl (by decide +kernel) ⟨(by rw [hR]; exact Nat.le_of_ble_eq_true rfl), (by rw [hR]; exact Nat.le_of_ble_eq_true rfl)⟩) ⟨cP_blind, va_recv hKc hPc (ci := 8) (q0 := 0) rfl rfl, cP_at hPc hKc hDc hN⟩ rfl rfl hl.1 rfl (lv_room (Nat.le_of_ble_eq_true rfl)) dX8_differ_8 ⟨(by rw [hR]; exact Nat.le_of_ble_eq_true rfl), (by rw [hR]; exact Nat.le_of_ble_eq_true rfl)⟩) hS (fun q _ h => hFc q h) hFc (fun r_2 u9 t9 H1 locs ht hvm hr_2 hB hz1 hk1 hS => ?_)
  try dsimp only at hr_2
  obtain ⟨hP1, hK1, hD1⟩ := hB
  rw [ht] at hP1
  obtain ⟨hP, hD⟩ := va_join (wr := []) (w1 := [(h0, .inr (8, [.ref s1, .ref s2, .ref s3, .ref s4, .ref s5, .ref s6, .int ds, va_rf sp, va_rf bt])), (s1, .inl (cO, 4, .inr (.inr (.inr (.inr f)))))]) hP hD [0, 1] [] rfl rfl (by decide) (by decide) hk1 hFc hP1 hD1
  clear hz1 hk1 hFc hKc hDc hPc
  generalize H1 = H at hP hS ⊢
  have hP : va_P D vwCl [(h0, .inr (8, [.ref s1, .ref s2, .ref s3, .ref s4, .ref s5, .ref s6, .int ds, va_rf sp, va_rf bt])), (s1, .inl (cO, 4, .inr (.inr (.inr (.inr f)))))] H := hP
  have hD : va_D A [(h0, .inr (8, [.ref s1, .ref s2, .ref s3, .ref s4, .ref s5, .ref s6, .int ds, va_rf sp, va_rf bt])), (s1, .inl (cO, 4, .inr (.inr (.inr (.inr f)))))] := hD
  subst hr_2
  refine my_topv (v := .ref t0) rfl ?_
  refine lv_astore (lv' := [(4, .ref t0), (3, .null), (0, .ref h0), (1, .int k), (2, .int kq)]) hx hb dX8_differ_11 hl (by decide) rfl (fun ls hl => ?_)
  refine lv_aload_nN hx hb dX8_differ_13 rfl (lv_at hl 1 rfl) ?_
  refine lv_ifnullN (tgt := 46) hx hb dX8_differ_14 (by decide) ?_
  refine lv_iconst (v := (-1)) hx hb dX8_differ_46 (by decide) ?_
  have hP9 := hP.sub (ws' := [(h0, .inr (8, [.ref s1, .ref s2, .ref s3, .ref s4, .ref s5, .ref s6, .int ds, va_rf sp, va_rf bt])), (s1, .inl (cO, 4, .inr (.inr (.inr (.inr f)))))]) [0, 1] rfl
  have hD9 := hD.sub (ws' := [(h0, .inr (8, [.ref s1, .ref s2, .ref s3, .ref s4, .ref s5, .ref s6, .int ds, va_rf sp, va_rf bt])), (s1, .inl (cO, 4, .inr (.inr (.inr (.inr f)))))]) [0, 1] (by decide) rfl
  have hK9 := hK.sub (tys' := [(cO, .object "DotBench$Sheet")]) [0] rfl
  refine hQ _ _ _ _ _ ?_
  exact W.iret (v := (-1)) hx hb hr (fun t ht hW => ⟨⟨(-1), (), rfl, rfl, ⟨by rw [ht]; exact hP9, va_K.moved hW.alike hK9, hD9⟩⟩, hS.F ht⟩) hS.2.2 dX8_differ_47

set_option maxHeartbeats 4000000 in
set_option maxRecDepth 100000 in
theorem k_X8_differ_yn (l : Launch) (D : va_G) (sz : Nat) (h0 s1 s2 s3 s4 s5 s6 : Nat) (ds : Int32) (sp bt : Option Nat) (f : Nat → Option Nat) (u0 : Nat) (k kq : Int32) (cO : ClassId) (hak : 0 ≤ k.toInt ∧ k.toInt ≤ 3) (haf : f k.toNatClampNeg = some u0) (hb0f : 0 ≤ kq.toInt ∧ kq.toInt ≤ 3 → f kq.toNatClampNeg = none) : Met l yX8_differ (wB yX8_differ cX8_differ 8 (some .int)) ({ frames := 1, cells := 0, slots := 0, locals := 21 }) (cP D [(h0, .inr (8, [.ref s1, .ref s2, .ref s3, .ref s4, .ref s5, .ref s6, .int ds, va_rf sp, va_rf bt])), (s1, .inl (cO, 4, .inr (.inr (.inr (.inr f)))))] [(cO, .object "DotBench$Sheet")] sz [.ref h0, .int k, .int kq]) (va_Qi (fun (r : Int32) (_ : Unit) => r = -1) (fun (_ : Unit) (t : State) => cB D (va_A [(h0, .inr (8, [.ref s1, .ref s2, .ref s3, .ref s4, .ref s5, .ref s6, .int ds, va_rf sp, va_rf bt])), (s1, .inl (cO, 4, .inr (.inr (.inr (.inr f)))))] sz) [(h0, .inr (8, [.ref s1, .ref s2, .ref s3, .ref s4, .ref s5, .ref s6, .int ds, va_rf sp, va_rf bt])), (s1, .inl (cO, 4, .inr (.inr (.inr (.inr f)))))] [(cO, .object "DotBench$Sheet")] t) (va_A [(h0, .inr (8, [.ref s1, .ref s2, .ref s3, .ref s4, .ref s5, .ref s6, .int ds, va_rf sp, va_rf bt])), (s1, .inl (cO, 4, .inr (.inr (.inr (.inr f)))))] sz)) 0 0 (va_A [(h0, .inr (8, [.ref s1, .ref s2, .ref s3, .ref s4, .ref s5, .ref s6, .int ds, va_rf sp, va_rf bt])), (s1, .inl (cO, 4, .inr (.inr (.inr (.inr f)))))] sz) := by
  refine Met.ofW (cc := cX8_differ) (maxL := 8) (ret := (some .int)) (by decide) rfl ?_
  intro p e s m args below meth c s₁ B hml hv
  obtain ⟨rfl, hsz, hP, hK, hD0, hN⟩ := hv
  have hx := B.exec
  have hb := B.bytes
  have hr := B.returns
  have hts0 := atoms_spec (ws := (wB yX8_differ cX8_differ 8 (some .int))) B.pre
  have hts : ∀ w ∈ bigW, w.before _ s = true := fun w h => hts0 w (List.mem_cons_of_mem _ h)
  have hown : s.vm.findClass RX8 = some m.cls := findClass_of_methodNamed B.named
  have hlocks := B.notSynchronized
  subst hsz
  have hD := hD0.self (sz := s.heap.size)
  generalize hAe : va_A [(h0, .inr (8, [.ref s1, .ref s2, .ref s3, .ref s4, .ref s5, .ref s6, .int ds, va_rf sp, va_rf bt])), (s1, .inl (cO, 4, .inr (.inr (.inr (.inr f)))))] s.heap.size = A at hD ⊢
  have hA : ∀ q : Nat, s.heap.size ≤ q → A q := fun q h => by rw [← hAe]; exact Or.inr h
  have hS : va_S A s.heap s.heap [] := va_S.rf
  have hP : va_P D vwCl [(h0, .inr (8, [.ref s1, .ref s2, .ref s3, .ref s4, .ref s5, .ref s6, .int ds, va_rf sp, va_rf bt])), (s1, .inl (cO, 4, .inr (.inr (.inr (.inr f)))))] s.heap := hP
  have hl := lv_entry ([.ref h0, .int k, .int kq]) (n := 8) (Nat.le_of_ble_eq_true rfl)
  rw [lg_entry_eq]
  generalize (lg_sl ([.ref h0, .int k, .int kq]) ++ List.replicate (8 - (lg_sl ([.ref h0, .int k, .int kq])).length) Slot.unset).toArray = ls at hl ⊢
  have hl : lv_has ls 8 [(0, .ref h0), (1, .int k), (2, .int kq)] := hl
  clear hts0 hD0 hAe
  refine my_abs (fun R Q hR hQ => ?_)
  refine lv_aload_n hx hb dX8_differ_0 rfl (lv_at hl 0 rfl) ?_
  refine lv_iload_n hx hb dX8_differ_1 rfl (lv_at hl 1 rfl) ?_
  have hPc := hP.sub (ws' := [(h0, .inr (8, [.ref s1, .ref s2, .ref s3, .ref s4, .ref s5, .ref s6, .int ds, va_rf sp, va_rf bt])), (s1, .inl (cO, 4, .inr (.inr (.inr (.inr f)))))]) [0, 1] rfl
  have hDc := hD.sub (ws' := [(h0, .inr (8, [.ref s1, .ref s2, .ref s3, .ref s4, .ref s5, .ref s6, .int ds, va_rf sp, va_rf bt])), (s1, .inl (cO, 4, .inr (.inr (.inr (.inr f)))))]) [0, 1] (by decide) rfl
  have hKc := hK.sub (tys' := [(cO, .object "DotBench$Sheet")]) [0] rfl
  have hFc := va_free (wc := [(h0, .inr (8, [.ref s1, .ref s2, .ref s3, .ref s4, .ref s5, .ref s6, .int ds, va_rf sp, va_rf bt])), (s1, .inl (cO, 4, .inr (.inr (.inr (.inr f)))))]) hD hS hA [0, 1] rfl
  refine va_callq (va_runV (As := [.int k]) (rest := []) ⟨hx, hb, hml, hown, hts⟩ (k_X8_sheetAt_y l D s.heap.size h0 s1 s2 s3 s4 s5 s6 ds sp bt f k u0 cO (by first | assumption | omega | decide) (by first | assumption | omega | decide)) (cwV 1 hts (gV bw_267 bw_346 bw_347 bw_223 bw_345) rfl rfl rfl (by decide +kernel) ⟨(by rw [hR]; exact Nat.le_of_ble_eq_true rfl), (by rw [hR]; exact Nat.le_of_ble_eq_true rfl)⟩) ⟨cP_blind, va_recv hKc hPc (ci := 8) (q0 := 0) rfl rfl, cP_at hPc hKc hDc hN⟩ rfl rfl hl.1 rfl (lv_room (Nat.le_of_ble_eq_true rfl)) dX8_differ_2 ⟨(by rw [hR]; exact Nat.le_of_ble_eq_true rfl), (by rw [hR]; exact Nat.le_of_ble_eq_true rfl)⟩) hS (fun q _ h => hFc q h) hFc (fun r_1 u9 t9 H1 locs ht hvm hr_1 hB hz1 hk1 hS => ?_)
  try dsimp only at hr_1
  obtain ⟨hP1, hK1, hD1⟩ := hB
  rw [ht] at hP1
  obtain ⟨hP, hD⟩ := va_join (wr := []) (w1 := [(h0, .inr (8, [.ref s1, .ref s2, .ref s3, .ref s4, .ref s5, .ref s6, .int ds, va_rf sp, va_rf bt])), (s1, .inl (cO, 4, .inr (.inr (.inr (.inr f)))))]) hP hD [0, 1] [] rfl rfl (by decide) (by decide) hk1 hFc hP1 hD1
  clear hz1 hk1 hFc hKc hDc hPc
  generalize H1 = H at hP hS ⊢
  have hP : va_P D vwCl [(h0, .inr (8, [.ref s1, .ref s2, .ref s3, .ref s4, .ref s5, .ref s6, .int ds, va_rf sp, va_rf bt])), (s1, .inl (cO, 4, .inr (.inr (.inr (.inr f)))))] H := hP
  have hD : va_D A [(h0, .inr (8, [.ref s1, .ref s2, .ref s3, .ref s4, .ref s5, .ref s6, .int ds, va_rf sp, va_rf bt])), (s1, .inl (cO, 4, .inr (.inr (.inr (.inr f)))))] := hD
  subst hr_1
  refine my_topv (v := .ref u0) rfl ?_
  refine lv_astore_n (lv' := [(3, .ref u0), (0, .ref h0), (1, .int k), (2, .int kq)]) hx hb dX8_differ_5 rfl hl (by decide) rfl (fun ls hl => ?_)
  refine lv_aload_n hx hb dX8_differ_6 rfl (lv_at hl 1 rfl) ?_
  refine lv_iload_n hx hb dX8_differ_7 rfl (lv_at hl 3 rfl) ?_
  have hPc := hP.sub (ws' := [(h0, .inr (8, [.ref s1, .ref s2, .ref s3, .ref s4, .ref s5, .ref s6, .int ds, va_rf sp, va_rf bt])), (s1, .inl (cO, 4, .inr (.inr (.inr (.inr f)))))]) [0, 1] rfl
  have hDc := hD.sub (ws' := [(h0, .inr (8, [.ref s1, .ref s2, .ref s3, .ref s4, .ref s5, .ref s6, .int ds, va_rf sp, va_rf bt])), (s1, .inl (cO, 4, .inr (.inr (.inr (.inr f)))))]) [0, 1] (by decide) rfl
  have hKc := hK.sub (tys' := [(cO, .object "DotBench$Sheet")]) [0] rfl
  have hFc := va_free (wc := [(h0, .inr (8, [.ref s1, .ref s2, .ref s3, .ref s4, .ref s5, .ref s6, .int ds, va_rf sp, va_rf bt])), (s1, .inl (cO, 4, .inr (.inr (.inr (.inr f)))))]) hD hS hA [0, 1] rfl
  refine va_callq (va_runV (As := [.int kq]) (rest := []) ⟨hx, hb, hml, hown, hts⟩ (k_X8_sheetAt_n l D H.size h0 s1 s2 s3 s4 s5 s6 ds sp bt f kq cO (by first | assumption | omega | decide)) (cwV 1 hts (gV bw_267 bw_346 bw_347 bw_223 bw_345) rfl rfl rfl (by decide +kernel) ⟨(by rw [hR]; exact Nat.le_of_ble_eq_true rfl), (by rw [hR]; exact Nat.le_of_ble_eq_true rfl)⟩) ⟨cP_blind, va_recv hKc hPc (ci := 8) (q0 := 0) rfl rfl, cP_at hPc hKc hDc hN⟩ rfl rfl hl.1 rfl (lv_room (Nat.le_of_ble_eq_true rfl)) dX8_differ_8 ⟨(by rw [hR]; exact Nat.le_of_ble_eq_true rfl), (by rw [hR]; exact Nat.le_of_ble_eq_true rfl)⟩) hS (fun q _ h => hFc q h) hFc (fun r_2 u9 t9 H1 locs ht hvm hr_2 hB hz1 hk1 hS => ?_)
  try dsimp only at hr_2
  obtain ⟨hP1, hK1, hD1⟩ := hB
  rw [ht] at hP1
  obtain ⟨hP, hD⟩ := va_join (wr := []) (w1 := [(h0, .inr (8, [.ref s1, .ref s2, .ref s3, .ref s4, .ref s5, .ref s6, .int ds, va_rf sp, va_rf bt])), (s1, .inl (cO, 4, .inr (.inr (.inr (.inr f)))))]) hP hD [0, 1] [] rfl rfl (by decide) (by decide) hk1 hFc hP1 hD1
  clear hz1 hk1 hFc hKc hDc hPc
  generalize H1 = H at hP hS ⊢
  have hP : va_P D vwCl [(h0, .inr (8, [.ref s1, .ref s2, .ref s3, .ref s4, .ref s5, .ref s6, .int ds, va_rf sp, va_rf bt])), (s1, .inl (cO, 4, .inr (.inr (.inr (.inr f)))))] H := hP
  have hD : va_D A [(h0, .inr (8, [.ref s1, .ref s2, .ref s3, .ref s4, .ref s5, .ref s6, .int ds, va_rf sp, va_rf bt])), (s1, .inl (cO, 4, .inr (.inr (.inr (.inr f)))))] := hD
  subst hr_2
  refine my_topv (v := .null) rfl ?_
  refine lv_astoreN (lv' := [(4, .null), (3, .ref u0), (0, .ref h0), (1, .int k), (2, .int kq)]) hx hb dX8_differ_11 hl (by decide) rfl (fun ls hl => ?_)
  refine lv_aload_n hx hb dX8_differ_13 rfl (lv_at hl 1 rfl) ?_
  refine lv_ifnull hx hb dX8_differ_14 ?_
  refine lv_aloadN hx hb dX8_differ_17 (lv_at hl 0 rfl) ?_
  refine lv_ifnullN (tgt := 46) hx hb dX8_differ_19 (by decide) ?_
  refine lv_iconst (v := (-1)) hx hb dX8_differ_46 (by decide) ?_
  have hP9 := hP.sub (ws' := [(h0, .inr (8, [.ref s1, .ref s2, .ref s3, .ref s4, .ref s5, .ref s6, .int ds, va_rf sp, va_rf bt])), (s1, .inl (cO, 4, .inr (.inr (.inr (.inr f)))))]) [0, 1] rfl
  have hD9 := hD.sub (ws' := [(h0, .inr (8, [.ref s1, .ref s2, .ref s3, .ref s4, .ref s5, .ref s6, .int ds, va_rf sp, va_rf bt])), (s1, .inl (cO, 4, .inr (.inr (.inr (.inr f)))))]) [0, 1] (by decide) rfl
  have hK9 := hK.sub (tys' := [(cO, .object "DotBench$Sheet")]) [0] rfl
  refine hQ _ _ _ _ _ ?_
  exact W.iret (v := (-1)) hx hb hr (fun t ht hW => ⟨⟨(-1), (), rfl, rfl, ⟨by rw [ht]; exact hP9, va_K.moved hW.alike hK9, hD9⟩⟩, hS.F ht⟩) hS.2.2 dX8_differ_47

set_option maxHeartbeats 4000000 in
set_option maxRecDepth 100000 in
theorem k_X8_inside (l : Launch) (D : va_G) (sz : Nat) (h0 s1 s2 s3 s4 s5 s6 : Nat) (ds : Int32) (sp bt : Option Nat) (p1 p2 p3 p4 : Nat) (pn fx fy : Int32) (qa : Nat → Int32) (qb : Nat → Int32) (qc : Nat → Int32) (qd : Nat → Int32) (u v ru : Int32) (cI : ClassId) (hpn : 0 ≤ pn.toInt ∧ pn.toInt ≤ 48) : Met l yX8_inside (wB yX8_inside cX8_inside 4 (some .int)) ({ frames := 3, cells := 0, slots := 0, locals := 70 }) (cP D [(h0, .inr (8, [.ref s1, .ref s2, .ref s3, .ref s4, .ref s5, .ref s6, .int ds, va_rf sp, va_rf bt])), (s4, .inr (3, [.ref p1, .ref p2, .ref p3, .ref p4, .int pn, .int fx, .int fy])), (p1, .inl (cI, 48, .inl qa)), (p2, .inl (cI, 48, .inl qb)), (p3, .inl (cI, 48, .inl qc)), (p4, .inl (cI, 48, .inl qd))] [(cI, .int)] sz [.ref h0, .int u, .int v, .int ru]) (va_Qi (fun (r : Int32) (_ : Unit) => r = if ru.toInt = 0 ∨ ru.toInt = 1 then (if (if ru = 0 then (wnN qa qb qc qd u v pn.toNatClampNeg) &&& 1 = 1 else ¬ (wnN qa qb qc qd u v pn.toNatClampNeg) = 0) then 1 else 0) else -1) (fun (_ : Unit) (t : State) => cB D (va_A [(h0, .inr (8, [.ref s1, .ref s2, .ref s3, .ref s4, .ref s5, .ref s6, .int ds, va_rf sp, va_rf bt])), (s4, .inr (3, [.ref p1, .ref p2, .ref p3, .ref p4, .int pn, .int fx, .int fy])), (p1, .inl (cI, 48, .inl qa)), (p2, .inl (cI, 48, .inl qb)), (p3, .inl (cI, 48, .inl qc)), (p4, .inl (cI, 48, .inl qd))] sz) [(h0, .inr (8, [.ref s1, .ref s2, .ref s3, .ref s4, .ref s5, .ref s6, .int ds, va_rf sp, va_rf bt])), (s4, .inr (3, [.ref p1, .ref p2, .ref p3, .ref p4, .int pn, .int fx, .int fy])), (p1, .inl (cI, 48, .inl qa)), (p2, .inl (cI, 48, .inl qb)), (p3, .inl (cI, 48, .inl qc)), (p4, .inl (cI, 48, .inl qd))] [(cI, .int)] t) (va_A [(h0, .inr (8, [.ref s1, .ref s2, .ref s3, .ref s4, .ref s5, .ref s6, .int ds, va_rf sp, va_rf bt])), (s4, .inr (3, [.ref p1, .ref p2, .ref p3, .ref p4, .int pn, .int fx, .int fy])), (p1, .inl (cI, 48, .inl qa)), (p2, .inl (cI, 48, .inl qb)), (p3, .inl (cI, 48, .inl qc)), (p4, .inl (cI, 48, .inl qd))] sz)) 0 0 (va_A [(h0, .inr (8, [.ref s1, .ref s2, .ref s3, .ref s4, .ref s5, .ref s6, .int ds, va_rf sp, va_rf bt])), (s4, .inr (3, [.ref p1, .ref p2, .ref p3, .ref p4, .int pn, .int fx, .int fy])), (p1, .inl (cI, 48, .inl qa)), (p2, .inl (cI, 48, .inl qb)), (p3, .inl (cI, 48, .inl qc)), (p4, .inl (cI, 48, .inl qd))] sz) := by
  refine Met.ofW (cc := cX8_inside) (maxL := 4) (ret := (some .int)) (by decide) rfl ?_
  intro p e s m args below meth c s₁ B hml hv
  obtain ⟨rfl, hsz, hP, hK, hD0, hN⟩ := hv
  have hx := B.exec
  have hb := B.bytes
  have hr := B.returns
  have hts0 := atoms_spec (ws := (wB yX8_inside cX8_inside 4 (some .int))) B.pre
  have hts : ∀ w ∈ bigW, w.before _ s = true := fun w h => hts0 w (List.mem_cons_of_mem _ h)
  have hown : s.vm.findClass RX8 = some m.cls := findClass_of_methodNamed B.named
  have hlocks := B.notSynchronized
  subst hsz
  have hD := hD0.self (sz := s.heap.size)
  generalize hAe : va_A [(h0, .inr (8, [.ref s1, .ref s2, .ref s3, .ref s4, .ref s5, .ref s6, .int ds, va_rf sp, va_rf bt])), (s4, .inr (3, [.ref p1, .ref p2, .ref p3, .ref p4, .int pn, .int fx, .int fy])), (p1, .inl (cI, 48, .inl qa)), (p2, .inl (cI, 48, .inl qb)), (p3, .inl (cI, 48, .inl qc)), (p4, .inl (cI, 48, .inl qd))] s.heap.size = A at hD ⊢
  have hA : ∀ q : Nat, s.heap.size ≤ q → A q := fun q h => by rw [← hAe]; exact Or.inr h
  have hS : va_S A s.heap s.heap [] := va_S.rf
  have hP : va_P D vwCl [(h0, .inr (8, [.ref s1, .ref s2, .ref s3, .ref s4, .ref s5, .ref s6, .int ds, va_rf sp, va_rf bt])), (s4, .inr (3, [.ref p1, .ref p2, .ref p3, .ref p4, .int pn, .int fx, .int fy])), (p1, .inl (cI, 48, .inl qa)), (p2, .inl (cI, 48, .inl qb)), (p3, .inl (cI, 48, .inl qc)), (p4, .inl (cI, 48, .inl qd))] s.heap := hP
  have hl := lv_entry ([.ref h0, .int u, .int v, .int ru]) (n := 4) (Nat.le_of_ble_eq_true rfl)
  rw [lg_entry_eq]
  generalize (lg_sl ([.ref h0, .int u, .int v, .int ru]) ++ List.replicate (4 - (lg_sl ([.ref h0, .int u, .int v, .int ru])).length) Slot.unset).toArray = ls at hl ⊢
  have hl : lv_has ls 4 [(0, .ref h0), (1, .int u), (2, .int v), (3, .int ru)] := hl
  clear hts0 hD0 hAe
  refine my_abs (fun R Q hR hQ => ?_)
  refine lv_iload_n hx hb dX8_inside_0 rfl (lv_at hl 3 rfl) ?_
  have hPc := hP.sub (ws' := []) [] rfl
  have hDc := hD.sub (ws' := []) [] (by decide) rfl
  have hKc := hK.sub (tys' := []) [] rfl
  have hFc := va_free (wc := []) hD hS hA [] rfl
  refine va_calli (va_runS (As := [.int ru]) (rest := []) ⟨hx, hb, hml, hown, hts⟩ (k_X8_isRule l D s.heap.size ru) (va_cwS 1 hts (gS bw_293 bw_355 bw_223 bw_354) rfl rfl rfl (by decide +kernel) ⟨(by rw [hR]; exact Nat.le_of_ble_eq_true rfl), (by rw [hR]; exact Nat.le_of_ble_eq_true rfl)⟩) ⟨cP_blind, cP_at hPc hKc hDc hN⟩ rfl rfl hl.1 rfl (lv_room (Nat.le_of_ble_eq_true rfl)) dX8_inside_1 ⟨(by rw [hR]; exact Nat.le_of_ble_eq_true rfl), (by rw [hR]; exact Nat.le_of_ble_eq_true rfl)⟩) hS (fun q _ h => hFc q h) hFc (fun r_1 u9 t9 H1 locs ht hvm hr_1 hB hz1 hk1 hS => ?_)
  try dsimp only at hr_1
  have hP1 : va_P D vwCl [] H1 := vP_nil
  have hD1 : va_D (va_A [] s.heap.size) [] := vD_nil
  obtain ⟨hP, hD⟩ := va_join (wr := [(h0, .inr (8, [.ref s1, .ref s2, .ref s3, .ref s4, .ref s5, .ref s6, .int ds, va_rf sp, va_rf bt])), (s4, .inr (3, [.ref p1, .ref p2, .ref p3, .ref p4, .int pn, .int fx, .int fy])), (p1, .inl (cI, 48, .inl qa)), (p2, .inl (cI, 48, .inl qb)), (p3, .inl (cI, 48, .inl qc)), (p4, .inl (cI, 48, .inl qd))]) (w1 := []) hP hD [] [0, 1, 2, 3, 4, 5] rfl rfl (by decide) (by decide) hk1 hFc hP1 hD1
  clear hz1 hk1 hFc hKc hDc hPc
  generalize H1 = H at hP hS ⊢
  have hP : va_P D vwCl [(h0, .inr (8, [.ref s1, .ref s2, .ref s3, .ref s4, .ref s5, .ref s6, .int ds, va_rf sp, va_rf bt])), (s4, .inr (3, [.ref p1, .ref p2, .ref p3, .ref p4, .int pn, .int fx, .int fy])), (p1, .inl (cI, 48, .inl qa)), (p2, .inl (cI, 48, .inl qb)), (p3, .inl (cI, 48, .inl qc)), (p4, .inl (cI, 48, .inl qd))] H := hP
  have hD : va_D A [(h0, .inr (8, [.ref s1, .ref s2, .ref s3, .ref s4, .ref s5, .ref s6, .int ds, va_rf sp, va_rf bt])), (s4, .inr (3, [.ref p1, .ref p2, .ref p3, .ref p4, .int pn, .int fx, .int fy])), (p1, .inl (cI, 48, .inl qa)), (p2, .inl (cI, 48, .inl qb)), (p3, .inl (cI, 48, .inl qc)), (p4, .inl (cI, 48, .inl qd))] := hD
  refine lv_if_ne (tgt := 9) hx hb dX8_inside_4 (by decide) (fun c_2 => ?_) (fun c_2 => ?_)
  · skip
    have f_3 := bz1 hr_1 c_2
    refine lv_aload_n hx hb dX8_inside_9 rfl (lv_at hl 0 rfl) ?_
    refine va_get (D := D) (ci := 8) (v := .ref s4) (C := RX8) (T := TX8) (N := 9) hx hb hts hi_X8 hown hK hP 0 rfl rfl 3 (by decide) (hts _ bw_235) (fun _ h9 => h9) rfl dX8_inside_10 ?_
    refine lv_iload_n hx hb dX8_inside_13 rfl (lv_at hl 1 rfl) ?_
    refine lv_iload_n hx hb dX8_inside_14 rfl (lv_at hl 2 rfl) ?_
    have hPc := hP.sub (ws' := [(s4, .inr (3, [.ref p1, .ref p2, .ref p3, .ref p4, .int pn, .int fx, .int fy])), (p1, .inl (cI, 48, .inl qa)), (p2, .inl (cI, 48, .inl qb)), (p3, .inl (cI, 48, .inl qc)), (p4, .inl (cI, 48, .inl qd))]) [1, 2, 3, 4, 5] rfl
    have hDc := hD.sub (ws' := [(s4, .inr (3, [.ref p1, .ref p2, .ref p3, .ref p4, .int pn, .int fx, .int fy])), (p1, .inl (cI, 48, .inl qa)), (p2, .inl (cI, 48, .inl qb)), (p3, .inl (cI, 48, .inl qc)), (p4, .inl (cI, 48, .inl qd))]) [1, 2, 3, 4, 5] (by decide) rfl
    have hKc := hK.sub (tys' := [(cI, .int)]) [0] rfl
    have hFc := va_free (wc := [(s4, .inr (3, [.ref p1, .ref p2, .ref p3, .ref p4, .int pn, .int fx, .int fy])), (p1, .inl (cI, 48, .inl qa)), (p2, .inl (cI, 48, .inl qb)), (p3, .inl (cI, 48, .inl qc)), (p4, .inl (cI, 48, .inl qd))]) hD hS hA [1, 2, 3, 4, 5] rfl
    refine va_calli (va_runV (As := [.int u, .int v]) (rest := []) ⟨hx, hb, hml, hown, hts⟩ (k_X3_windingAt l D H.size s4 p1 p2 p3 p4 pn fx fy qa qb qc qd u v cI (by first | assumption | omega | decide)) (cwV 2 hts (gV bw_343 bw_86 bw_87 bw_67 bw_85) rfl rfl rfl (by decide +kernel) ⟨(by rw [hR]; exact Nat.le_of_ble_eq_true rfl), (by rw [hR]; exact Nat.le_of_ble_eq_true rfl)⟩) ⟨cP_blind, va_recv hKc hPc (ci := 3) (q0 := 0) rfl rfl, cP_at hPc hKc hDc hN⟩ rfl rfl hl.1 rfl (lv_room (Nat.le_of_ble_eq_true rfl)) dX8_inside_15 ⟨(by rw [hR]; exact Nat.le_of_ble_eq_true rfl), (by rw [hR]; exact Nat.le_of_ble_eq_true rfl)⟩) hS (fun q _ h => hFc q h) hFc (fun r_4 u9 t9 H1 locs ht hvm hr_4 hB hz1 hk1 hS => ?_)
    try dsimp only at hr_4
    obtain ⟨hP1, hK1, hD1⟩ := hB
    rw [ht] at hP1
    obtain ⟨hP, hD⟩ := va_join (wr := [(h0, .inr (8, [.ref s1, .ref s2, .ref s3, .ref s4, .ref s5, .ref s6, .int ds, va_rf sp, va_rf bt]))]) (w1 := [(s4, .inr (3, [.ref p1, .ref p2, .ref p3, .ref p4, .int pn, .int fx, .int fy])), (p1, .inl (cI, 48, .inl qa)), (p2, .inl (cI, 48, .inl qb)), (p3, .inl (cI, 48, .inl qc)), (p4, .inl (cI, 48, .inl qd))]) hP hD [1, 2, 3, 4, 5] [0] rfl rfl (by decide) (by decide) hk1 hFc hP1 hD1
    clear hz1 hk1 hFc hKc hDc hPc
    generalize H1 = H at hP hS ⊢
    have hP : va_P D vwCl [(h0, .inr (8, [.ref s1, .ref s2, .ref s3, .ref s4, .ref s5, .ref s6, .int ds, va_rf sp, va_rf bt])), (s4, .inr (3, [.ref p1, .ref p2, .ref p3, .ref p4, .int pn, .int fx, .int fy])), (p1, .inl (cI, 48, .inl qa)), (p2, .inl (cI, 48, .inl qb)), (p3, .inl (cI, 48, .inl qc)), (p4, .inl (cI, 48, .inl qd))] H := hP
    have hD : va_D A [(h0, .inr (8, [.ref s1, .ref s2, .ref s3, .ref s4, .ref s5, .ref s6, .int ds, va_rf sp, va_rf bt])), (s4, .inr (3, [.ref p1, .ref p2, .ref p3, .ref p4, .int pn, .int fx, .int fy])), (p1, .inl (cI, 48, .inl qa)), (p2, .inl (cI, 48, .inl qb)), (p3, .inl (cI, 48, .inl qc)), (p4, .inl (cI, 48, .inl qd))] := hD
    refine lv_iload_n hx hb dX8_inside_18 rfl (lv_at hl 3 rfl) ?_
    have hPc := hP.sub (ws' := []) [] rfl
    have hDc := hD.sub (ws' := []) [] (by decide) rfl
    have hKc := hK.sub (tys' := []) [] rfl
    have hFc := va_free (wc := []) hD hS hA [] rfl
    refine va_calli (va_runS (As := [.int r_4, .int ru]) (rest := []) ⟨hx, hb, hml, hown, hts⟩ (k_X8_isIn l D H.size r_4 ru) (va_cwS 2 hts (gS bw_344 bw_357 bw_223 bw_356) rfl rfl rfl (by decide +kernel) ⟨(by rw [hR]; exact Nat.le_of_ble_eq_true rfl), (by rw [hR]; exact Nat.le_of_ble_eq_true rfl)⟩) ⟨cP_blind, cP_at hPc hKc hDc hN⟩ rfl rfl hl.1 rfl (lv_room (Nat.le_of_ble_eq_true rfl)) dX8_inside_19 ⟨(by rw [hR]; exact Nat.le_of_ble_eq_true rfl), (by rw [hR]; exact Nat.le_of_ble_eq_true rfl)⟩) hS (fun q _ h => hFc q h) hFc (fun r_5 u9 t9 H1 locs ht hvm hr_5 hB hz1 hk1 hS => ?_)
    try dsimp only at hr_5
    have hP1 : va_P D vwCl [] H1 := vP_nil
    have hD1 : va_D (va_A [] H.size) [] := vD_nil
    obtain ⟨hP, hD⟩ := va_join (wr := [(h0, .inr (8, [.ref s1, .ref s2, .ref s3, .ref s4, .ref s5, .ref s6, .int ds, va_rf sp, va_rf bt])), (s4, .inr (3, [.ref p1, .ref p2, .ref p3, .ref p4, .int pn, .int fx, .int fy])), (p1, .inl (cI, 48, .inl qa)), (p2, .inl (cI, 48, .inl qb)), (p3, .inl (cI, 48, .inl qc)), (p4, .inl (cI, 48, .inl qd))]) (w1 := []) hP hD [] [0, 1, 2, 3, 4, 5] rfl rfl (by decide) (by decide) hk1 hFc hP1 hD1
    clear hz1 hk1 hFc hKc hDc hPc
    generalize H1 = H at hP hS ⊢
    have hP : va_P D vwCl [(h0, .inr (8, [.ref s1, .ref s2, .ref s3, .ref s4, .ref s5, .ref s6, .int ds, va_rf sp, va_rf bt])), (s4, .inr (3, [.ref p1, .ref p2, .ref p3, .ref p4, .int pn, .int fx, .int fy])), (p1, .inl (cI, 48, .inl qa)), (p2, .inl (cI, 48, .inl qb)), (p3, .inl (cI, 48, .inl qc)), (p4, .inl (cI, 48, .inl qd))] H := hP
    have hD : va_D A [(h0, .inr (8, [.ref s1, .ref s2, .ref s3, .ref s4, .ref s5, .ref s6, .int ds, va_rf sp, va_rf bt])), (s4, .inr (3, [.ref p1, .ref p2, .ref p3, .ref p4, .int pn, .int fx, .int fy])), (p1, .inl (cI, 48, .inl qa)), (p2, .inl (cI, 48, .inl qb)), (p3, .inl (cI, 48, .inl qc)), (p4, .inl (cI, 48, .inl qd))] := hD
    rw [hr_4] at hr_5
    refine lv_if_eq (tgt := 29) hx hb dX8_inside_22 (by decide) (fun c_6 => ?_) (fun c_6 => ?_)
    · skip
      have f_7 := bz0 hr_5 c_6
      refine lv_iconst (v := 0) hx hb dX8_inside_29 (by decide) ?_
      have hP9 := hP.sub (ws' := [(h0, .inr (8, [.ref s1, .ref s2, .ref s3, .ref s4, .ref s5, .ref s6, .int ds, va_rf sp, va_rf bt])), (s4, .inr (3, [.ref p1, .ref p2, .ref p3, .ref p4, .int pn, .int fx, .int fy])), (p1, .inl (cI, 48, .inl qa)), (p2, .inl (cI, 48, .inl qb)), (p3, .inl (cI, 48, .inl qc)), (p4, .inl (cI, 48, .inl qd))]) [0, 1, 2, 3, 4, 5] rfl
      have hD9 := hD.sub (ws' := [(h0, .inr (8, [.ref s1, .ref s2, .ref s3, .ref s4, .ref s5, .ref s6, .int ds, va_rf sp, va_rf bt])), (s4, .inr (3, [.ref p1, .ref p2, .ref p3, .ref p4, .int pn, .int fx, .int fy])), (p1, .inl (cI, 48, .inl qa)), (p2, .inl (cI, 48, .inl qb)), (p3, .inl (cI, 48, .inl qc)), (p4, .inl (cI, 48, .inl qd))]) [0, 1, 2, 3, 4, 5] (by decide) rfl
      have hK9 := hK.sub (tys' := [(cI, .int)]) [0] rfl
      refine hQ _ _ _ _ _ ?_
      exact W.iret (v := 0) hx hb hr (fun t ht hW => ⟨⟨0, (), rfl, (by rw [if_pos (by omega), if_neg (by assumption)]), ⟨by rw [ht]; exact hP9, va_K.moved hW.alike hK9, hD9⟩⟩, hS.F ht⟩) hS.2.2 dX8_inside_30
    · skip
      have f_7 := bz1 hr_5 c_6
      refine lv_iconst (v := 1) hx hb dX8_inside_25 (by decide) ?_
      refine lv_goto (tgt := 30) hx hb dX8_inside_26 (by decide) ?_
      have hP9 := hP.sub (ws' := [(h0, .inr (8, [.ref s1, .ref s2, .ref s3, .ref s4, .ref s5, .ref s6, .int ds, va_rf sp, va_rf bt])), (s4, .inr (3, [.ref p1, .ref p2, .ref p3, .ref p4, .int pn, .int fx, .int fy])), (p1, .inl (cI, 48, .inl qa)), (p2, .inl (cI, 48, .inl qb)), (p3, .inl (cI, 48, .inl qc)), (p4, .inl (cI, 48, .inl qd))]) [0, 1, 2, 3, 4, 5] rfl
      have hD9 := hD.sub (ws' := [(h0, .inr (8, [.ref s1, .ref s2, .ref s3, .ref s4, .ref s5, .ref s6, .int ds, va_rf sp, va_rf bt])), (s4, .inr (3, [.ref p1, .ref p2, .ref p3, .ref p4, .int pn, .int fx, .int fy])), (p1, .inl (cI, 48, .inl qa)), (p2, .inl (cI, 48, .inl qb)), (p3, .inl (cI, 48, .inl qc)), (p4, .inl (cI, 48, .inl qd))]) [0, 1, 2, 3, 4, 5] (by decide) rfl
      have hK9 := hK.sub (tys' := [(cI, .int)]) [0] rfl
      refine hQ _ _ _ _ _ ?_
      exact W.iret (v := 1) hx hb hr (fun t ht hW => ⟨⟨1, (), rfl, (by rw [if_pos (by omega), if_pos (by assumption)]), ⟨by rw [ht]; exact hP9, va_K.moved hW.alike hK9, hD9⟩⟩, hS.F ht⟩) hS.2.2 dX8_inside_30
  · skip
    have f_3 := bz0 hr_1 c_2
    refine lv_iconst (v := (-1)) hx hb dX8_inside_7 (by decide) ?_
    have hP9 := hP.sub (ws' := [(h0, .inr (8, [.ref s1, .ref s2, .ref s3, .ref s4, .ref s5, .ref s6, .int ds, va_rf sp, va_rf bt])), (s4, .inr (3, [.ref p1, .ref p2, .ref p3, .ref p4, .int pn, .int fx, .int fy])), (p1, .inl (cI, 48, .inl qa)), (p2, .inl (cI, 48, .inl qb)), (p3, .inl (cI, 48, .inl qc)), (p4, .inl (cI, 48, .inl qd))]) [0, 1, 2, 3, 4, 5] rfl
    have hD9 := hD.sub (ws' := [(h0, .inr (8, [.ref s1, .ref s2, .ref s3, .ref s4, .ref s5, .ref s6, .int ds, va_rf sp, va_rf bt])), (s4, .inr (3, [.ref p1, .ref p2, .ref p3, .ref p4, .int pn, .int fx, .int fy])), (p1, .inl (cI, 48, .inl qa)), (p2, .inl (cI, 48, .inl qb)), (p3, .inl (cI, 48, .inl qc)), (p4, .inl (cI, 48, .inl qd))]) [0, 1, 2, 3, 4, 5] (by decide) rfl
    have hK9 := hK.sub (tys' := [(cI, .int)]) [0] rfl
    refine hQ _ _ _ _ _ ?_
    exact W.iret (v := (-1)) hx hb hr (fun t ht hW => ⟨⟨(-1), (), rfl, (if_neg (by omega)).symm, ⟨by rw [ht]; exact hP9, va_K.moved hW.alike hK9, hD9⟩⟩, hS.F ht⟩) hS.2.2 dX8_inside_8
