section
-- ===== PART A: goes FIRST, ahead of the names: the tables' words, and 'selects' of the private methods out of them =====
/-- a private method of a class that the tables say can be made, by its rows of tables_1 -/
def lw_okq (q : MethodName × Nat) : Prop := (q.1.cls ≠ "java/lang/invoke/MethodHandle" ∧ q.1.cls ≠ "java/lang/invoke/VarHandle") ∧ Cond.instantiable q.1.cls q.2 ∈ tables_1 ∧ Cond.privateMethod q.1 ∈ tables_1 ∧ Cond.instanceMethod q.1 ∈ tables_1
theorem lw_p0 : lw_okq (⟨"DotBench", "sheetAt", "(I)LDotBench$Sheet;"⟩, 9) := ⟨⟨by decide +kernel, by decide +kernel⟩, List.mem_of_getElem? (i := 16) (by decide +kernel), List.mem_of_getElem? (i := 231) (by decide +kernel), List.mem_of_getElem? (i := 232) (by decide +kernel)⟩
theorem lw_p1 : lw_okq (⟨"DotBench$Brush", "laid", "(III)I"⟩, 4) := ⟨⟨by decide +kernel, by decide +kernel⟩, List.mem_of_getElem? (i := 26) (by decide +kernel), List.mem_of_getElem? (i := 267) (by decide +kernel), List.mem_of_getElem? (i := 268) (by decide +kernel)⟩
theorem lw_p2 : lw_okq (⟨"DotBench$Brush", "weightOfSource", "(I)I"⟩, 4) := ⟨⟨by decide +kernel, by decide +kernel⟩, List.mem_of_getElem? (i := 26) (by decide +kernel), List.mem_of_getElem? (i := 272) (by decide +kernel), List.mem_of_getElem? (i := 273) (by decide +kernel)⟩
theorem lw_p3 : lw_okq (⟨"DotBench$Brush", "weightOfThere", "(I)I"⟩, 4) := ⟨⟨by decide +kernel, by decide +kernel⟩, List.mem_of_getElem? (i := 26) (by decide +kernel), List.mem_of_getElem? (i := 276) (by decide +kernel), List.mem_of_getElem? (i := 277) (by decide +kernel)⟩
theorem lw_p4 : lw_okq (⟨"DotBench", "layMirrored", "(LDotBench$Sheet;IIII)I"⟩, 9) := ⟨⟨by decide +kernel, by decide +kernel⟩, List.mem_of_getElem? (i := 16) (by decide +kernel), List.mem_of_getElem? (i := 295) (by decide +kernel), List.mem_of_getElem? (i := 296) (by decide +kernel)⟩
theorem lw_p5 : lw_okq (⟨"DotBench", "layPair", "(LDotBench$Sheet;III)I"⟩, 9) := ⟨⟨by decide +kernel, by decide +kernel⟩, List.mem_of_getElem? (i := 16) (by decide +kernel), List.mem_of_getElem? (i := 299) (by decide +kernel), List.mem_of_getElem? (i := 300) (by decide +kernel)⟩
theorem lw_p6 : lw_okq (⟨"DotBench$Path", "turnOf", "(II)I"⟩, 7) := ⟨⟨by decide +kernel, by decide +kernel⟩, List.mem_of_getElem? (i := 70) (by decide +kernel), List.mem_of_getElem? (i := 337) (by decide +kernel), List.mem_of_getElem? (i := 338) (by decide +kernel)⟩
theorem lw_p7 : lw_okq (⟨"DotBench$Path", "firstRightOf", "(II)I"⟩, 7) := ⟨⟨by decide +kernel, by decide +kernel⟩, List.mem_of_getElem? (i := 70) (by decide +kernel), List.mem_of_getElem? (i := 341) (by decide +kernel), List.mem_of_getElem? (i := 342) (by decide +kernel)⟩
theorem lw_p8 : lw_okq (⟨"DotBench$Scan", "addRow", "(III)V"⟩, 2) := ⟨⟨by decide +kernel, by decide +kernel⟩, List.mem_of_getElem? (i := 122) (by decide +kernel), List.mem_of_getElem? (i := 349) (by decide +kernel), List.mem_of_getElem? (i := 350) (by decide +kernel)⟩
theorem lw_p9 : lw_okq (⟨"DotBench$Triangle", "areaFrom", "(IIII)I"⟩, 4) := ⟨⟨by decide +kernel, by decide +kernel⟩, List.mem_of_getElem? (i := 100) (by decide +kernel), List.mem_of_getElem? (i := 386) (by decide +kernel), List.mem_of_getElem? (i := 387) (by decide +kernel)⟩
theorem lw_p10 : lw_okq (⟨"DotBench", "gathered", "(LDotBench$Sheet;LDotBench$Box;IIZ)LDotBench$Spread;"⟩, 9) := ⟨⟨by decide +kernel, by decide +kernel⟩, List.mem_of_getElem? (i := 16) (by decide +kernel), List.mem_of_getElem? (i := 397) (by decide +kernel), List.mem_of_getElem? (i := 398) (by decide +kernel)⟩
theorem lw_p11 : lw_okq (⟨"DotBench$Spread", "reach", "(LDotBench$Sheet;LDotBench$Box;III)V"⟩, 3) := ⟨⟨by decide +kernel, by decide +kernel⟩, List.mem_of_getElem? (i := 401) (by decide +kernel), List.mem_of_getElem? (i := 424) (by decide +kernel), List.mem_of_getElem? (i := 425) (by decide +kernel)⟩
theorem lw_p12 : lw_okq (⟨"DotBench", "carry", "(ILDotBench$Frame;ILDotBench$Frame;)I"⟩, 9) := ⟨⟨by decide +kernel, by decide +kernel⟩, List.mem_of_getElem? (i := 16) (by decide +kernel), List.mem_of_getElem? (i := 467) (by decide +kernel), List.mem_of_getElem? (i := 468) (by decide +kernel)⟩
theorem lw_p13 : lw_okq (⟨"DotBench", "likenessOf", "(LDotBench$Sheet;)LDotBench$Sheet;"⟩, 9) := ⟨⟨by decide +kernel, by decide +kernel⟩, List.mem_of_getElem? (i := 16) (by decide +kernel), List.mem_of_getElem? (i := 476) (by decide +kernel), List.mem_of_getElem? (i := 477) (by decide +kernel)⟩
theorem lw_p14 : lw_okq (⟨"DotBenchModel", "isSheet", "(I)Z"⟩, 23) := ⟨⟨by decide +kernel, by decide +kernel⟩, List.mem_of_getElem? (i := 533) (by decide +kernel), List.mem_of_getElem? (i := 644) (by decide +kernel), List.mem_of_getElem? (i := 645) (by decide +kernel)⟩
theorem lw_p15 : lw_okq (⟨"DotBenchModel", "begins", "()V"⟩, 23) := ⟨⟨by decide +kernel, by decide +kernel⟩, List.mem_of_getElem? (i := 533) (by decide +kernel), List.mem_of_getElem? (i := 654) (by decide +kernel), List.mem_of_getElem? (i := 655) (by decide +kernel)⟩
def lw_privs_1 : List (MethodName × Nat) := [(⟨"DotBench", "sheetAt", "(I)LDotBench$Sheet;"⟩, 9), (⟨"DotBench$Brush", "laid", "(III)I"⟩, 4), (⟨"DotBench$Brush", "weightOfSource", "(I)I"⟩, 4), (⟨"DotBench$Brush", "weightOfThere", "(I)I"⟩, 4), (⟨"DotBench", "layMirrored", "(LDotBench$Sheet;IIII)I"⟩, 9), (⟨"DotBench", "layPair", "(LDotBench$Sheet;III)I"⟩, 9), (⟨"DotBench$Path", "turnOf", "(II)I"⟩, 7), (⟨"DotBench$Path", "firstRightOf", "(II)I"⟩, 7), (⟨"DotBench$Scan", "addRow", "(III)V"⟩, 2), (⟨"DotBench$Triangle", "areaFrom", "(IIII)I"⟩, 4), (⟨"DotBench", "gathered", "(LDotBench$Sheet;LDotBench$Box;IIZ)LDotBench$Spread;"⟩, 9), (⟨"DotBench$Spread", "reach", "(LDotBench$Sheet;LDotBench$Box;III)V"⟩, 3), (⟨"DotBench", "carry", "(ILDotBench$Frame;ILDotBench$Frame;)I"⟩, 9), (⟨"DotBench", "likenessOf", "(LDotBench$Sheet;)LDotBench$Sheet;"⟩, 9), (⟨"DotBenchModel", "isSheet", "(I)Z"⟩, 23), (⟨"DotBenchModel", "begins", "()V"⟩, 23)]
theorem lw_r1 : ∀ q ∈ lw_privs_1, lw_okq q := List.forall_mem_cons.mpr ⟨lw_p0, List.forall_mem_cons.mpr ⟨lw_p1, List.forall_mem_cons.mpr ⟨lw_p2, List.forall_mem_cons.mpr ⟨lw_p3, List.forall_mem_cons.mpr ⟨lw_p4, List.forall_mem_cons.mpr ⟨lw_p5, List.forall_mem_cons.mpr ⟨lw_p6, List.forall_mem_cons.mpr ⟨lw_p7, List.forall_mem_cons.mpr ⟨lw_p8, List.forall_mem_cons.mpr ⟨lw_p9, List.forall_mem_cons.mpr ⟨lw_p10, List.forall_mem_cons.mpr ⟨lw_p11, List.forall_mem_cons.mpr ⟨lw_p12, List.forall_mem_cons.mpr ⟨lw_p13, List.forall_mem_cons.mpr ⟨lw_p14, List.forall_mem_cons.mpr ⟨lw_p15, fun _ h => absurd h List.not_mem_nil⟩⟩⟩⟩⟩⟩⟩⟩⟩⟩⟩⟩⟩⟩⟩⟩
theorem lw_p16 : lw_okq (⟨"DotBenchModel", "marks", "(IIIII)V"⟩, 23) := ⟨⟨by decide +kernel, by decide +kernel⟩, List.mem_of_getElem? (i := 533) (by decide +kernel), List.mem_of_getElem? (i := 661) (by decide +kernel), List.mem_of_getElem? (i := 662) (by decide +kernel)⟩
theorem lw_p17 : lw_okq (⟨"DotBenchModel", "isOpen", "(III)Z"⟩, 23) := ⟨⟨by decide +kernel, by decide +kernel⟩, List.mem_of_getElem? (i := 533) (by decide +kernel), List.mem_of_getElem? (i := 665) (by decide +kernel), List.mem_of_getElem? (i := 666) (by decide +kernel)⟩
theorem lw_p18 : lw_okq (⟨"DotBenchModel", "isOn", "(III)Z"⟩, 23) := ⟨⟨by decide +kernel, by decide +kernel⟩, List.mem_of_getElem? (i := 533) (by decide +kernel), List.mem_of_getElem? (i := 669) (by decide +kernel), List.mem_of_getElem? (i := 670) (by decide +kernel)⟩
theorem lw_p19 : lw_okq (⟨"DotBenchModel", "isInClip", "(II)Z"⟩, 23) := ⟨⟨by decide +kernel, by decide +kernel⟩, List.mem_of_getElem? (i := 533) (by decide +kernel), List.mem_of_getElem? (i := 673) (by decide +kernel), List.mem_of_getElem? (i := 674) (by decide +kernel)⟩
theorem lw_p20 : lw_okq (⟨"DotBenchModel", "lays", "(I)I"⟩, 23) := ⟨⟨by decide +kernel, by decide +kernel⟩, List.mem_of_getElem? (i := 533) (by decide +kernel), List.mem_of_getElem? (i := 677) (by decide +kernel), List.mem_of_getElem? (i := 678) (by decide +kernel)⟩
theorem lw_p21 : lw_okq (⟨"DotBenchModel", "laid", "(III)I"⟩, 23) := ⟨⟨by decide +kernel, by decide +kernel⟩, List.mem_of_getElem? (i := 533) (by decide +kernel), List.mem_of_getElem? (i := 681) (by decide +kernel), List.mem_of_getElem? (i := 682) (by decide +kernel)⟩
theorem lw_p22 : lw_okq (⟨"DotBenchModel", "sourcePart", "(II)I"⟩, 23) := ⟨⟨by decide +kernel, by decide +kernel⟩, List.mem_of_getElem? (i := 533) (by decide +kernel), List.mem_of_getElem? (i := 685) (by decide +kernel), List.mem_of_getElem? (i := 686) (by decide +kernel)⟩
theorem lw_p23 : lw_okq (⟨"DotBenchModel", "otherPart", "(II)I"⟩, 23) := ⟨⟨by decide +kernel, by decide +kernel⟩, List.mem_of_getElem? (i := 533) (by decide +kernel), List.mem_of_getElem? (i := 689) (by decide +kernel), List.mem_of_getElem? (i := 690) (by decide +kernel)⟩
theorem lw_p24 : lw_okq (⟨"DotBenchModel", "isInside", "(JJI)Z"⟩, 23) := ⟨⟨by decide +kernel, by decide +kernel⟩, List.mem_of_getElem? (i := 533) (by decide +kernel), List.mem_of_getElem? (i := 712) (by decide +kernel), List.mem_of_getElem? (i := 713) (by decide +kernel)⟩
theorem lw_p25 : lw_okq (⟨"DotBenchModel", "winding", "(JJ)I"⟩, 23) := ⟨⟨by decide +kernel, by decide +kernel⟩, List.mem_of_getElem? (i := 533) (by decide +kernel), List.mem_of_getElem? (i := 716) (by decide +kernel), List.mem_of_getElem? (i := 717) (by decide +kernel)⟩
theorem lw_p26 : lw_okq (⟨"DotBenchModel", "samples", "(III)I"⟩, 23) := ⟨⟨by decide +kernel, by decide +kernel⟩, List.mem_of_getElem? (i := 533) (by decide +kernel), List.mem_of_getElem? (i := 727) (by decide +kernel), List.mem_of_getElem? (i := 728) (by decide +kernel)⟩
theorem lw_p27 : lw_okq (⟨"DotBenchModel", "isInTriangle", "(II)Z"⟩, 23) := ⟨⟨by decide +kernel, by decide +kernel⟩, List.mem_of_getElem? (i := 533) (by decide +kernel), List.mem_of_getElem? (i := 742) (by decide +kernel), List.mem_of_getElem? (i := 743) (by decide +kernel)⟩
theorem lw_p28 : lw_okq (⟨"DotBenchModel", "mixed", "(III)I"⟩, 23) := ⟨⟨by decide +kernel, by decide +kernel⟩, List.mem_of_getElem? (i := 533) (by decide +kernel), List.mem_of_getElem? (i := 746) (by decide +kernel), List.mem_of_getElem? (i := 747) (by decide +kernel)⟩
theorem lw_p29 : lw_okq (⟨"DotBenchModel", "joins", "(IIIZZ)V"⟩, 23) := ⟨⟨by decide +kernel, by decide +kernel⟩, List.mem_of_getElem? (i := 533) (by decide +kernel), List.mem_of_getElem? (i := 754) (by decide +kernel), List.mem_of_getElem? (i := 755) (by decide +kernel)⟩
def lw_privs_2 : List (MethodName × Nat) := [(⟨"DotBenchModel", "marks", "(IIIII)V"⟩, 23), (⟨"DotBenchModel", "isOpen", "(III)Z"⟩, 23), (⟨"DotBenchModel", "isOn", "(III)Z"⟩, 23), (⟨"DotBenchModel", "isInClip", "(II)Z"⟩, 23), (⟨"DotBenchModel", "lays", "(I)I"⟩, 23), (⟨"DotBenchModel", "laid", "(III)I"⟩, 23), (⟨"DotBenchModel", "sourcePart", "(II)I"⟩, 23), (⟨"DotBenchModel", "otherPart", "(II)I"⟩, 23), (⟨"DotBenchModel", "isInside", "(JJI)Z"⟩, 23), (⟨"DotBenchModel", "winding", "(JJ)I"⟩, 23), (⟨"DotBenchModel", "samples", "(III)I"⟩, 23), (⟨"DotBenchModel", "isInTriangle", "(II)Z"⟩, 23), (⟨"DotBenchModel", "mixed", "(III)I"⟩, 23), (⟨"DotBenchModel", "joins", "(IIIZZ)V"⟩, 23)]
theorem lw_r2 : ∀ q ∈ lw_privs_2, lw_okq q := List.forall_mem_cons.mpr ⟨lw_p16, List.forall_mem_cons.mpr ⟨lw_p17, List.forall_mem_cons.mpr ⟨lw_p18, List.forall_mem_cons.mpr ⟨lw_p19, List.forall_mem_cons.mpr ⟨lw_p20, List.forall_mem_cons.mpr ⟨lw_p21, List.forall_mem_cons.mpr ⟨lw_p22, List.forall_mem_cons.mpr ⟨lw_p23, List.forall_mem_cons.mpr ⟨lw_p24, List.forall_mem_cons.mpr ⟨lw_p25, List.forall_mem_cons.mpr ⟨lw_p26, List.forall_mem_cons.mpr ⟨lw_p27, List.forall_mem_cons.mpr ⟨lw_p28, List.forall_mem_cons.mpr ⟨lw_p29, fun _ h => absurd h List.not_mem_nil⟩⟩⟩⟩⟩⟩⟩⟩⟩⟩⟩⟩⟩⟩
def lw_privs : List (MethodName × Nat) := lw_privs_1 ++ (lw_privs_2)
def lw_tbl : List Cond := k2_sels lw_privs ++ tables_1
theorem lw_privs_ok : ∀ q ∈ lw_privs, lw_okq q := by
  show ∀ q ∈ lw_privs_1 ++ (lw_privs_2), lw_okq q
  exact List.forall_mem_append.mpr ⟨lw_r1, lw_r2⟩
end
section
/-! ===== BEGIN words of one list among another's, by their places ===== -/
theorem goodIn_r {big : List Cond} (ws : List Cond) (ps : List Nat) (hp : ws = ps.filterMap (fun i => big[i]?)) (h : ws.all goodWord = true) : GoodIn big ws := by
  intro w hw
  have h1 := List.all_eq_true.mp h w hw
  rw [hp] at hw
  obtain ⟨i, -, hi⟩ := List.mem_filterMap.mp hw
  have hm : w ∈ big := by first | exact List.mem_of_getElem? hi | exact List.getElem?_mem hi
  exact ⟨hm, good_of_word h1⟩
theorem goodIn_app {big a b : List Cond} (ha : GoodIn big a) (hb : GoodIn big b) : GoodIn big (a ++ b) := fun w h => (List.mem_append.mp h).elim (ha w) (hb w)
theorem goodIn_ca {big a b : List Cond} {c : Cond} (ha : GoodIn big (c :: a)) (hb : GoodIn big b) : GoodIn big (c :: (a ++ b)) := fun w h => (List.mem_cons.mp h).elim (fun e => ha w (List.mem_cons.mpr (Or.inl e))) (fun h => (List.mem_append.mp h).elim (fun h => ha w (List.mem_cons.mpr (Or.inr h))) (hb w))
theorem goodIn_sub {big ws : List Cond} (hm : ∀ w ∈ ws, w ∈ big) (h : ws.all goodWord = true) : GoodIn big ws := fun w hw => ⟨hm w hw, good_of_word (List.all_eq_true.mp h w hw)⟩
/-! ===== END ===== -/

/-! ===== BEGIN printed: names, fields, word lists, decode rows ===== -/
def RX0 : String := "DotBench$Box"
def TX0 : u_T := fun k => match k with
  | 0 => ("DotBench$Box", "x0", "I", false)
  | 1 => ("DotBench$Box", "y0", "I", false)
  | 2 => ("DotBench$Box", "x1", "I", false)
  | _ => ("DotBench$Box", "y1", "I", false)
def tyX0 : Nat → FieldType := fun k => match k with
  | 0 => .int
  | 1 => .int
  | 2 => .int
  | _ => .int
abbrev wsX00 : List Cond := u_ws RX0 TX0 4
theorem nmX0 : ∀ a, a < 4 → ∀ b, b < 4 → a ≠ b → (TX0 a).2.1 ≠ (TX0 b).2.1 := by decide +kernel
theorem tyX0_ok : ∀ k, k < 4 → parseFieldDescriptor (TX0 k).2.2.1 = some (tyX0 k) := by decide +kernel
abbrev cX0_init : ByteArray := prog_2_method_1_code
def yX0_init : MethodName := ⟨RX0, "<init>", "()V"⟩
abbrev cX0_bound : ByteArray := prog_2_method_2_code
def yX0_bound : MethodName := ⟨RX0, "bound", "(IIII)V"⟩
abbrev cX0_holds : ByteArray := prog_2_method_3_code
def yX0_holds : MethodName := ⟨RX0, "holds", "(II)Z"⟩
def RX1 : String := "DotBench$Brush"
def TX1 : u_T := fun k => match k with
  | 0 => ("DotBench$Brush", "clip", "LDotBench$Box;", true)
  | 1 => ("DotBench$Brush", "ink", "I", false)
  | 2 => ("DotBench$Brush", "way", "I", false)
  | _ => ("DotBench$Brush", "opacity", "I", false)
def tyX1 : Nat → FieldType := fun k => match k with
  | 0 => .object "DotBench$Box"
  | 1 => .int
  | 2 => .int
  | _ => .int
abbrev wsX10 : List Cond := u_ws RX1 TX1 4
theorem nmX1 : ∀ a, a < 4 → ∀ b, b < 4 → a ≠ b → (TX1 a).2.1 ≠ (TX1 b).2.1 := by decide +kernel
theorem tyX1_ok : ∀ k, k < 4 → parseFieldDescriptor (TX1 k).2.2.1 = some (tyX1 k) := by decide +kernel
abbrev cX1_init : ByteArray := prog_3_method_1_code
def yX1_init : MethodName := ⟨RX1, "<init>", "()V"⟩
abbrev cX1_measureOf : ByteArray := prog_3_method_2_code
def yX1_measureOf : MethodName := ⟨RX1, "measureOf", "(I)I"⟩
abbrev cX1_lay : ByteArray := prog_3_method_3_code
def yX1_lay : MethodName := ⟨RX1, "lay", "(LDotBench$Sheet;IIII)I"⟩
abbrev cX1_laid : ByteArray := prog_3_method_4_code
def yX1_laid : MethodName := ⟨RX1, "laid", "(III)I"⟩
abbrev cX1_weightOfSource : ByteArray := prog_3_method_5_code
def yX1_weightOfSource : MethodName := ⟨RX1, "weightOfSource", "(I)I"⟩
abbrev cX1_weightOfThere : ByteArray := prog_3_method_6_code
def yX1_weightOfThere : MethodName := ⟨RX1, "weightOfThere", "(I)I"⟩
def RX2 : String := "DotBench$Frame"
def TX2 : u_T := fun k => match k with
  | 0 => ("DotBench$Frame", "x", "I", true)
  | 1 => ("DotBench$Frame", "y", "I", true)
  | 2 => ("DotBench$Frame", "w", "I", true)
  | _ => ("DotBench$Frame", "h", "I", true)
def tyX2 : Nat → FieldType := fun k => match k with
  | 0 => .int
  | 1 => .int
  | 2 => .int
  | _ => .int
abbrev wsX20 : List Cond := u_ws RX2 TX2 4
theorem nmX2 : ∀ a, a < 4 → ∀ b, b < 4 → a ≠ b → (TX2 a).2.1 ≠ (TX2 b).2.1 := by decide +kernel
theorem tyX2_ok : ∀ k, k < 4 → parseFieldDescriptor (TX2 k).2.2.1 = some (tyX2 k) := by decide +kernel
abbrev cX2_init : ByteArray := prog_4_method_1_code
def yX2_init : MethodName := ⟨RX2, "<init>", "(IIII)V"⟩
abbrev cX2_isNearby : ByteArray := prog_4_method_2_code
def yX2_isNearby : MethodName := ⟨RX2, "isNearby", "()Z"⟩
def RX3 : String := "DotBench$Path"
def TX3 : u_T := fun k => match k with
  | 0 => ("DotBench$Path", "fromX", "[I", true)
  | 1 => ("DotBench$Path", "fromY", "[I", true)
  | 2 => ("DotBench$Path", "toX", "[I", true)
  | 3 => ("DotBench$Path", "toY", "[I", true)
  | 4 => ("DotBench$Path", "points", "I", false)
  | 5 => ("DotBench$Path", "firstX", "I", false)
  | _ => ("DotBench$Path", "firstY", "I", false)
def tyX3 : Nat → FieldType := fun k => match k with
  | 0 => .array .int
  | 1 => .array .int
  | 2 => .array .int
  | 3 => .array .int
  | 4 => .int
  | 5 => .int
  | _ => .int
abbrev wsX30 : List Cond := u_ws RX3 TX3 7
theorem nmX3 : ∀ a, a < 7 → ∀ b, b < 7 → a ≠ b → (TX3 a).2.1 ≠ (TX3 b).2.1 := by decide +kernel
theorem tyX3_ok : ∀ k, k < 7 → parseFieldDescriptor (TX3 k).2.2.1 = some (tyX3 k) := by decide +kernel
abbrev cX3_init : ByteArray := prog_5_method_1_code
def yX3_init : MethodName := ⟨RX3, "<init>", "()V"⟩
abbrev cX3_empty : ByteArray := prog_5_method_2_code
def yX3_empty : MethodName := ⟨RX3, "empty", "()V"⟩
abbrev cX3_add : ByteArray := prog_5_method_3_code
def yX3_add : MethodName := ⟨RX3, "add", "(IIZ)Z"⟩
abbrev cX3_windingAt : ByteArray := prog_5_method_4_code
def yX3_windingAt : MethodName := ⟨RX3, "windingAt", "(II)I"⟩
abbrev cX3_windRow : ByteArray := prog_5_method_5_code
def yX3_windRow : MethodName := ⟨RX3, "windRow", "(II[II)V"⟩
abbrev cX3_turnOf : ByteArray := prog_5_method_6_code
def yX3_turnOf : MethodName := ⟨RX3, "turnOf", "(II)I"⟩
abbrev cX3_firstRightOf : ByteArray := prog_5_method_7_code
def yX3_firstRightOf : MethodName := ⟨RX3, "firstRightOf", "(II)I"⟩
def RX4 : String := "DotBench$Scan"
def TX4 : u_T := fun k => match k with
  | 0 => ("DotBench$Scan", "windings", "[I", true)
  | _ => ("DotBench$Scan", "covered", "[I", true)
def tyX4 : Nat → FieldType := fun k => match k with
  | 0 => .array .int
  | _ => .array .int
abbrev wsX40 : List Cond := u_ws RX4 TX4 2
theorem nmX4 : ∀ a, a < 2 → ∀ b, b < 2 → a ≠ b → (TX4 a).2.1 ≠ (TX4 b).2.1 := by decide +kernel
theorem tyX4_ok : ∀ k, k < 2 → parseFieldDescriptor (TX4 k).2.2.1 = some (tyX4 k) := by decide +kernel
abbrev cX4_init : ByteArray := prog_6_method_1_code
def yX4_init : MethodName := ⟨RX4, "<init>", "()V"⟩
abbrev cX4_read : ByteArray := prog_6_method_2_code
def yX4_read : MethodName := ⟨RX4, "read", "(LDotBench$Path;IIII)V"⟩
abbrev cX4_coveredAt : ByteArray := prog_6_method_3_code
def yX4_coveredAt : MethodName := ⟨RX4, "coveredAt", "(I)I"⟩
abbrev cX4_addRow : ByteArray := prog_6_method_4_code
def yX4_addRow : MethodName := ⟨RX4, "addRow", "(III)V"⟩
def RX5 : String := "DotBench$Sheet"
def TX5 : u_T := fun k => match k with
  | 0 => ("DotBench$Sheet", "dots", "[I", true)
  | 1 => ("DotBench$Sheet", "width", "I", false)
  | _ => ("DotBench$Sheet", "height", "I", false)
def tyX5 : Nat → FieldType := fun k => match k with
  | 0 => .array .int
  | 1 => .int
  | _ => .int
abbrev wsX50 : List Cond := u_ws RX5 TX5 3
theorem nmX5 : ∀ a, a < 3 → ∀ b, b < 3 → a ≠ b → (TX5 a).2.1 ≠ (TX5 b).2.1 := by decide +kernel
theorem tyX5_ok : ∀ k, k < 3 → parseFieldDescriptor (TX5 k).2.2.1 = some (tyX5 k) := by decide +kernel
abbrev cX5_init : ByteArray := prog_7_method_1_code
def yX5_init : MethodName := ⟨RX5, "<init>", "()V"⟩
abbrev cX5_begin : ByteArray := prog_7_method_2_code
def yX5_begin : MethodName := ⟨RX5, "begin", "(II)V"⟩
abbrev cX5_become : ByteArray := prog_7_method_3_code
def yX5_become : MethodName := ⟨RX5, "become", "(LDotBench$Sheet;)V"⟩
abbrev cX5_has : ByteArray := prog_7_method_4_code
def yX5_has : MethodName := ⟨RX5, "has", "(II)Z"⟩
abbrev cX5_at : ByteArray := prog_7_method_5_code
def yX5_at : MethodName := ⟨RX5, "at", "(II)I"⟩
abbrev cX5_put : ByteArray := prog_7_method_6_code
def yX5_put : MethodName := ⟨RX5, "put", "(III)V"⟩
abbrev cX5_channelSum : ByteArray := prog_7_method_7_code
def yX5_channelSum : MethodName := ⟨RX5, "channelSum", "(I)I"⟩
abbrev cX5_boxSide : ByteArray := prog_7_method_8_code
def yX5_boxSide : MethodName := ⟨RX5, "boxSide", "(ZZ)I"⟩
def RX6 : String := "DotBench$Spread"
def TX6 : u_T := fun k => match k with
  | 0 => ("DotBench$Spread", "places", "[I", true)
  | 1 => ("DotBench$Spread", "seen", "[I", true)
  | _ => ("DotBench$Spread", "size", "I", false)
def tyX6 : Nat → FieldType := fun k => match k with
  | 0 => .array .int
  | 1 => .array .int
  | _ => .int
abbrev wsX60 : List Cond := u_ws RX6 TX6 3
theorem nmX6 : ∀ a, a < 3 → ∀ b, b < 3 → a ≠ b → (TX6 a).2.1 ≠ (TX6 b).2.1 := by decide +kernel
theorem tyX6_ok : ∀ k, k < 3 → parseFieldDescriptor (TX6 k).2.2.1 = some (tyX6 k) := by decide +kernel
abbrev cX6_init : ByteArray := prog_8_method_1_code
def yX6_init : MethodName := ⟨RX6, "<init>", "()V"⟩
abbrev cX6_gather : ByteArray := prog_8_method_2_code
def yX6_gather : MethodName := ⟨RX6, "gather", "(LDotBench$Sheet;LDotBench$Box;IIZ)V"⟩
abbrev cX6_xAt : ByteArray := prog_8_method_3_code
def yX6_xAt : MethodName := ⟨RX6, "xAt", "(I)I"⟩
abbrev cX6_yAt : ByteArray := prog_8_method_4_code
def yX6_yAt : MethodName := ⟨RX6, "yAt", "(I)I"⟩
abbrev cX6_reach : ByteArray := prog_8_method_5_code
def yX6_reach : MethodName := ⟨RX6, "reach", "(LDotBench$Sheet;LDotBench$Box;III)V"⟩
def RX7 : String := "DotBench$Triangle"
def TX7 : u_T := fun k => match k with
  | 0 => ("DotBench$Triangle", "xs", "[I", true)
  | 1 => ("DotBench$Triangle", "ys", "[I", true)
  | 2 => ("DotBench$Triangle", "inks", "[I", true)
  | _ => ("DotBench$Triangle", "outline", "LDotBench$Path;", true)
def tyX7 : Nat → FieldType := fun k => match k with
  | 0 => .array .int
  | 1 => .array .int
  | 2 => .array .int
  | _ => .object "DotBench$Path"
abbrev wsX70 : List Cond := u_ws RX7 TX7 4
theorem nmX7 : ∀ a, a < 4 → ∀ b, b < 4 → a ≠ b → (TX7 a).2.1 ≠ (TX7 b).2.1 := by decide +kernel
theorem tyX7_ok : ∀ k, k < 4 → parseFieldDescriptor (TX7 k).2.2.1 = some (tyX7 k) := by decide +kernel
abbrev cX7_init : ByteArray := prog_9_method_1_code
def yX7_init : MethodName := ⟨RX7, "<init>", "()V"⟩
abbrev cX7_place : ByteArray := prog_9_method_2_code
def yX7_place : MethodName := ⟨RX7, "place", "(IIII)V"⟩
abbrev cX7_draw : ByteArray := prog_9_method_3_code
def yX7_draw : MethodName := ⟨RX7, "draw", "()V"⟩
abbrev cX7_inkAt : ByteArray := prog_9_method_4_code
def yX7_inkAt : MethodName := ⟨RX7, "inkAt", "(II)I"⟩
abbrev cX7_areaFrom : ByteArray := prog_9_method_5_code
def yX7_areaFrom : MethodName := ⟨RX7, "areaFrom", "(IIII)I"⟩
def RX8 : String := "DotBench"
def TX8 : u_T := fun k => match k with
  | 0 => ("DotBench", "sheets", "[LDotBench$Sheet;", true)
  | 1 => ("DotBench", "brush", "LDotBench$Brush;", true)
  | 2 => ("DotBench", "everywhere", "LDotBench$Box;", true)
  | 3 => ("DotBench", "path", "LDotBench$Path;", true)
  | 4 => ("DotBench", "triangle", "LDotBench$Triangle;", true)
  | 5 => ("DotBench", "scan", "LDotBench$Scan;", true)
  | 6 => ("DotBench", "dashes", "I", false)
  | 7 => ("DotBench", "spread", "LDotBench$Spread;", false)
  | _ => ("DotBench", "between", "LDotBench$Sheet;", false)
def tyX8 : Nat → FieldType := fun k => match k with
  | 0 => .array (.object "DotBench$Sheet")
  | 1 => .object "DotBench$Brush"
  | 2 => .object "DotBench$Box"
  | 3 => .object "DotBench$Path"
  | 4 => .object "DotBench$Triangle"
  | 5 => .object "DotBench$Scan"
  | 6 => .int
  | 7 => .object "DotBench$Spread"
  | _ => .object "DotBench$Sheet"
abbrev wsX80 : List Cond := u_ws RX8 TX8 9
theorem nmX8 : ∀ a, a < 9 → ∀ b, b < 9 → a ≠ b → (TX8 a).2.1 ≠ (TX8 b).2.1 := by decide +kernel
theorem tyX8_ok : ∀ k, k < 9 → parseFieldDescriptor (TX8 k).2.2.1 = some (tyX8 k) := by decide +kernel
abbrev cX8_init : ByteArray := prog_1_method_1_code
def yX8_init : MethodName := ⟨RX8, "<init>", "()V"⟩
abbrev cX8_sheet : ByteArray := prog_1_method_2_code
def yX8_sheet : MethodName := ⟨RX8, "sheet", "(III)Z"⟩
abbrev cX8_ink : ByteArray := prog_1_method_3_code
def yX8_ink : MethodName := ⟨RX8, "ink", "(I)V"⟩
abbrev cX8_way : ByteArray := prog_1_method_4_code
def yX8_way : MethodName := ⟨RX8, "way", "(II)Z"⟩
abbrev cX8_clip : ByteArray := prog_1_method_5_code
def yX8_clip : MethodName := ⟨RX8, "clip", "(IIII)V"⟩
abbrev cX8_dashes : ByteArray := prog_1_method_6_code
def yX8_dashes : MethodName := ⟨RX8, "dashes", "(I)V"⟩
abbrev cX8_line : ByteArray := prog_1_method_7_code
def yX8_line : MethodName := ⟨RX8, "line", "(IIIII)I"⟩
abbrev cX8_circle : ByteArray := prog_1_method_8_code
def yX8_circle : MethodName := ⟨RX8, "circle", "(IIII)I"⟩
abbrev cX8_point : ByteArray := prog_1_method_9_code
def yX8_point : MethodName := ⟨RX8, "point", "(IIZ)I"⟩
abbrev cX8_clear : ByteArray := prog_1_method_10_code
def yX8_clear : MethodName := ⟨RX8, "clear", "()V"⟩
abbrev cX8_fill : ByteArray := prog_1_method_11_code
def yX8_fill : MethodName := ⟨RX8, "fill", "(IIZ)I"⟩
abbrev cX8_corner : ByteArray := prog_1_method_12_code
def yX8_corner : MethodName := ⟨RX8, "corner", "(IIII)Z"⟩
abbrev cX8_shade : ByteArray := prog_1_method_13_code
def yX8_shade : MethodName := ⟨RX8, "shade", "(I)I"⟩
abbrev cX8_flood : ByteArray := prog_1_method_14_code
def yX8_flood : MethodName := ⟨RX8, "flood", "(IIIZ)I"⟩
abbrev cX8_copy : ByteArray := prog_1_method_15_code
def yX8_copy : MethodName := ⟨RX8, "copy", "(IIIIIIII)I"⟩
abbrev cX8_stretch : ByteArray := prog_1_method_16_code
def yX8_stretch : MethodName := ⟨RX8, "stretch", "(IIIIIIIIII)I"⟩
abbrev cX8_dot : ByteArray := prog_1_method_17_code
def yX8_dot : MethodName := ⟨RX8, "dot", "(III)I"⟩
abbrev cX8_count : ByteArray := prog_1_method_18_code
def yX8_count : MethodName := ⟨RX8, "count", "(II)I"⟩
abbrev cX8_region : ByteArray := prog_1_method_19_code
def yX8_region : MethodName := ⟨RX8, "region", "(IIIZ)I"⟩
abbrev cX8_differ : ByteArray := prog_1_method_20_code
def yX8_differ : MethodName := ⟨RX8, "differ", "(II)I"⟩
abbrev cX8_look : ByteArray := prog_1_method_21_code
def yX8_look : MethodName := ⟨RX8, "look", "(II)I"⟩
abbrev cX8_inside : ByteArray := prog_1_method_22_code
def yX8_inside : MethodName := ⟨RX8, "inside", "(III)I"⟩
abbrev cX8_sheetAt : ByteArray := prog_1_method_23_code
def yX8_sheetAt : MethodName := ⟨RX8, "sheetAt", "(I)LDotBench$Sheet;"⟩
abbrev cX8_isWithin : ByteArray := prog_1_method_24_code
def yX8_isWithin : MethodName := ⟨RX8, "isWithin", "(III)Z"⟩
abbrev cX8_isNear : ByteArray := prog_1_method_25_code
def yX8_isNear : MethodName := ⟨RX8, "isNear", "(II)Z"⟩
abbrev cX8_isSide : ByteArray := prog_1_method_26_code
def yX8_isSide : MethodName := ⟨RX8, "isSide", "(I)Z"⟩
abbrev cX8_isRule : ByteArray := prog_1_method_27_code
def yX8_isRule : MethodName := ⟨RX8, "isRule", "(I)Z"⟩
abbrev cX8_isIn : ByteArray := prog_1_method_28_code
def yX8_isIn : MethodName := ⟨RX8, "isIn", "(II)Z"⟩
abbrev cX8_shareOfFull : ByteArray := prog_1_method_29_code
def yX8_shareOfFull : MethodName := ⟨RX8, "shareOfFull", "(I)I"⟩
abbrev cX8_channel : ByteArray := prog_1_method_30_code
def yX8_channel : MethodName := ⟨RX8, "channel", "(II)I"⟩
abbrev cX8_inkOf : ByteArray := prog_1_method_31_code
def yX8_inkOf : MethodName := ⟨RX8, "inkOf", "(I)I"⟩
abbrev cX8_wayAlong : ByteArray := prog_1_method_32_code
def yX8_wayAlong : MethodName := ⟨RX8, "wayAlong", "(III)I"⟩
abbrev cX8_nearestRoot : ByteArray := prog_1_method_33_code
def yX8_nearestRoot : MethodName := ⟨RX8, "nearestRoot", "(II)I"⟩
abbrev cX8_layMirrored : ByteArray := prog_1_method_34_code
def yX8_layMirrored : MethodName := ⟨RX8, "layMirrored", "(LDotBench$Sheet;IIII)I"⟩
abbrev cX8_layPair : ByteArray := prog_1_method_35_code
def yX8_layPair : MethodName := ⟨RX8, "layPair", "(LDotBench$Sheet;III)I"⟩
abbrev cX8_gathered : ByteArray := prog_1_method_36_code
def yX8_gathered : MethodName := ⟨RX8, "gathered", "(LDotBench$Sheet;LDotBench$Box;IIZ)LDotBench$Spread;"⟩
abbrev cX8_carry : ByteArray := prog_1_method_37_code
def yX8_carry : MethodName := ⟨RX8, "carry", "(ILDotBench$Frame;ILDotBench$Frame;)I"⟩
abbrev cX8_likenessOf : ByteArray := prog_1_method_38_code
def yX8_likenessOf : MethodName := ⟨RX8, "likenessOf", "(LDotBench$Sheet;)LDotBench$Sheet;"⟩
def RX9 : String := "DotBenchModel"
def TX9 : u_T := fun k => match k with
  | 0 => ("DotBenchModel", "wide", "[I", true)
  | 1 => ("DotBenchModel", "high", "[I", true)
  | 2 => ("DotBenchModel", "dots", "[I", true)
  | 3 => ("DotBenchModel", "ink", "I", false)
  | 4 => ("DotBenchModel", "way", "I", false)
  | 5 => ("DotBenchModel", "opacity", "I", false)
  | 6 => ("DotBenchModel", "isClipped", "Z", false)
  | 7 => ("DotBenchModel", "clipX0", "I", false)
  | 8 => ("DotBenchModel", "clipX1", "I", false)
  | 9 => ("DotBenchModel", "clipY0", "I", false)
  | 10 => ("DotBenchModel", "clipY1", "I", false)
  | 11 => ("DotBenchModel", "dash", "I", false)
  | 12 => ("DotBenchModel", "marked", "[Z", true)
  | 13 => ("DotBenchModel", "measure", "[I", true)
  | 14 => ("DotBenchModel", "value", "[I", true)
  | 15 => ("DotBenchModel", "pathX", "[I", true)
  | 16 => ("DotBenchModel", "pathY", "[I", true)
  | 17 => ("DotBenchModel", "pathFirst", "[Z", true)
  | 18 => ("DotBenchModel", "points", "I", false)
  | 19 => ("DotBenchModel", "cornerX", "[I", true)
  | 20 => ("DotBenchModel", "cornerY", "[I", true)
  | 21 => ("DotBenchModel", "cornerInk", "[I", true)
  | _ => ("DotBenchModel", "wait", "[I", true)
def tyX9 : Nat → FieldType := fun k => match k with
  | 0 => .array .int
  | 1 => .array .int
  | 2 => .array .int
  | 3 => .int
  | 4 => .int
  | 5 => .int
  | 6 => .boolean
  | 7 => .int
  | 8 => .int
  | 9 => .int
  | 10 => .int
  | 11 => .int
  | 12 => .array .boolean
  | 13 => .array .int
  | 14 => .array .int
  | 15 => .array .int
  | 16 => .array .int
  | 17 => .array .boolean
  | 18 => .int
  | 19 => .array .int
  | 20 => .array .int
  | 21 => .array .int
  | _ => .array .int
abbrev wsX90 : List Cond := u_ws RX9 TX9 23
theorem nmX9 : ∀ a, a < 23 → ∀ b, b < 23 → a ≠ b → (TX9 a).2.1 ≠ (TX9 b).2.1 := by decide +kernel
theorem tyX9_ok : ∀ k, k < 23 → parseFieldDescriptor (TX9 k).2.2.1 = some (tyX9 k) := by decide +kernel
abbrev cX9_init : ByteArray := prog_11_method_1_code
def yX9_init : MethodName := ⟨RX9, "<init>", "()V"⟩
abbrev cX9_isSheet : ByteArray := prog_11_method_2_code
def yX9_isSheet : MethodName := ⟨RX9, "isSheet", "(I)Z"⟩
abbrev cX9_isOn : ByteArray := prog_11_method_3_code
def yX9_isOn : MethodName := ⟨RX9, "isOn", "(III)Z"⟩
abbrev cX9_spot : ByteArray := prog_11_method_4_code
def yX9_spot : MethodName := ⟨RX9, "spot", "(III)I"⟩
abbrev cX9_isInClip : ByteArray := prog_11_method_5_code
def yX9_isInClip : MethodName := ⟨RX9, "isInClip", "(II)Z"⟩
abbrev cX9_isOpen : ByteArray := prog_11_method_6_code
def yX9_isOpen : MethodName := ⟨RX9, "isOpen", "(III)Z"⟩
abbrev cX9_nearest : ByteArray := prog_11_method_7_code
def yX9_nearest : MethodName := ⟨RX9, "nearest", "(II)I"⟩
abbrev cX9_channel : ByteArray := prog_11_method_8_code
def yX9_channel : MethodName := ⟨RX9, "channel", "(II)I"⟩
abbrev cX9_inkOf : ByteArray := prog_11_method_9_code
def yX9_inkOf : MethodName := ⟨RX9, "inkOf", "(I)I"⟩
abbrev cX9_sourcePart : ByteArray := prog_11_method_10_code
def yX9_sourcePart : MethodName := ⟨RX9, "sourcePart", "(II)I"⟩
abbrev cX9_otherPart : ByteArray := prog_11_method_11_code
def yX9_otherPart : MethodName := ⟨RX9, "otherPart", "(II)I"⟩
abbrev cX9_laid : ByteArray := prog_11_method_12_code
def yX9_laid : MethodName := ⟨RX9, "laid", "(III)I"⟩
abbrev cX9_begins : ByteArray := prog_11_method_13_code
def yX9_begins : MethodName := ⟨RX9, "begins", "()V"⟩
abbrev cX9_marks : ByteArray := prog_11_method_14_code
def yX9_marks : MethodName := ⟨RX9, "marks", "(IIIII)V"⟩
abbrev cX9_lays : ByteArray := prog_11_method_15_code
def yX9_lays : MethodName := ⟨RX9, "lays", "(I)I"⟩
abbrev cX9_sheet : ByteArray := prog_11_method_16_code
def yX9_sheet : MethodName := ⟨RX9, "sheet", "(III)Z"⟩
abbrev cX9_ink : ByteArray := prog_11_method_17_code
def yX9_ink : MethodName := ⟨RX9, "ink", "(I)V"⟩
abbrev cX9_way : ByteArray := prog_11_method_18_code
def yX9_way : MethodName := ⟨RX9, "way", "(II)Z"⟩
abbrev cX9_clip : ByteArray := prog_11_method_19_code
def yX9_clip : MethodName := ⟨RX9, "clip", "(IIII)V"⟩
abbrev cX9_dashes : ByteArray := prog_11_method_20_code
def yX9_dashes : MethodName := ⟨RX9, "dashes", "(I)V"⟩
abbrev cX9_isNear : ByteArray := prog_11_method_21_code
def yX9_isNear : MethodName := ⟨RX9, "isNear", "(II)Z"⟩
abbrev cX9_away : ByteArray := prog_11_method_22_code
def yX9_away : MethodName := ⟨RX9, "away", "(II)I"⟩
abbrev cX9_toward : ByteArray := prog_11_method_23_code
def yX9_toward : MethodName := ⟨RX9, "toward", "(III)I"⟩
abbrev cX9_line : ByteArray := prog_11_method_24_code
def yX9_line : MethodName := ⟨RX9, "line", "(IIIII)I"⟩
abbrev cX9_root : ByteArray := prog_11_method_25_code
def yX9_root : MethodName := ⟨RX9, "root", "(I)I"⟩
abbrev cX9_circle : ByteArray := prog_11_method_26_code
def yX9_circle : MethodName := ⟨RX9, "circle", "(IIII)I"⟩
abbrev cX9_point : ByteArray := prog_11_method_27_code
def yX9_point : MethodName := ⟨RX9, "point", "(IIZ)I"⟩
abbrev cX9_clear : ByteArray := prog_11_method_28_code
def yX9_clear : MethodName := ⟨RX9, "clear", "()V"⟩
abbrev cX9_edge : ByteArray := prog_11_method_29_code
def yX9_edge : MethodName := ⟨RX9, "edge", "(JJJJJJ)I"⟩
abbrev cX9_winding : ByteArray := prog_11_method_30_code
def yX9_winding : MethodName := ⟨RX9, "winding", "(JJ)I"⟩
abbrev cX9_isInside : ByteArray := prog_11_method_31_code
def yX9_isInside : MethodName := ⟨RX9, "isInside", "(JJI)Z"⟩
abbrev cX9_inside : ByteArray := prog_11_method_32_code
def yX9_inside : MethodName := ⟨RX9, "inside", "(III)I"⟩
abbrev cX9_samples : ByteArray := prog_11_method_33_code
def yX9_samples : MethodName := ⟨RX9, "samples", "(III)I"⟩
abbrev cX9_fill : ByteArray := prog_11_method_34_code
def yX9_fill : MethodName := ⟨RX9, "fill", "(IIZ)I"⟩
abbrev cX9_corner : ByteArray := prog_11_method_35_code
def yX9_corner : MethodName := ⟨RX9, "corner", "(IIII)Z"⟩
abbrev cX9_area : ByteArray := prog_11_method_36_code
def yX9_area : MethodName := ⟨RX9, "area", "(IIIIII)I"⟩
abbrev cX9_isInTriangle : ByteArray := prog_11_method_37_code
def yX9_isInTriangle : MethodName := ⟨RX9, "isInTriangle", "(II)Z"⟩
abbrev cX9_shade : ByteArray := prog_11_method_38_code
def yX9_shade : MethodName := ⟨RX9, "shade", "(I)I"⟩
abbrev cX9_mixed : ByteArray := prog_11_method_39_code
def yX9_mixed : MethodName := ⟨RX9, "mixed", "(III)I"⟩
abbrev cX9_joins : ByteArray := prog_11_method_40_code
def yX9_joins : MethodName := ⟨RX9, "joins", "(IIIZZ)V"⟩
abbrev cX9_flood : ByteArray := prog_11_method_41_code
def yX9_flood : MethodName := ⟨RX9, "flood", "(IIIZ)I"⟩
abbrev cX9_region : ByteArray := prog_11_method_42_code
def yX9_region : MethodName := ⟨RX9, "region", "(IIIZ)I"⟩
abbrev cX9_isPlace : ByteArray := prog_11_method_43_code
def yX9_isPlace : MethodName := ⟨RX9, "isPlace", "(II)Z"⟩
abbrev cX9_copy : ByteArray := prog_11_method_44_code
def yX9_copy : MethodName := ⟨RX9, "copy", "(IIIIIIII)I"⟩
abbrev cX9_stretch : ByteArray := prog_11_method_45_code
def yX9_stretch : MethodName := ⟨RX9, "stretch", "(IIIIIIIIII)I"⟩
abbrev cX9_dot : ByteArray := prog_11_method_46_code
def yX9_dot : MethodName := ⟨RX9, "dot", "(III)I"⟩
abbrev cX9_count : ByteArray := prog_11_method_47_code
def yX9_count : MethodName := ⟨RX9, "count", "(II)I"⟩
abbrev cX9_differ : ByteArray := prog_11_method_48_code
def yX9_differ : MethodName := ⟨RX9, "differ", "(II)I"⟩
abbrev cX9_look : ByteArray := prog_11_method_49_code
def yX9_look : MethodName := ⟨RX9, "look", "(II)I"⟩
def RJ6 : String := "java/lang/Integer"
def TJ6 : u_T := fun k => match k with
  | _ => ("", "", "", false)
def tyJ6 : Nat → FieldType := fun k => match k with
  | _ => .int
abbrev wsJ60 : List Cond := u_ws RJ6 TJ6 0
theorem nmJ6 : ∀ a, a < 0 → ∀ b, b < 0 → a ≠ b → (TJ6 a).2.1 ≠ (TJ6 b).2.1 := by decide +kernel
theorem tyJ6_ok : ∀ k, k < 0 → parseFieldDescriptor (TJ6 k).2.2.1 = some (tyJ6 k) := by decide +kernel
abbrev cJ6_compare_7cf53 : ByteArray := prog_12_method_40_code
def yJ6_compare_7cf53 : MethodName := ⟨RJ6, "compare", "(II)I"⟩
def RJ9 : String := "java/lang/Math"
def TJ9 : u_T := fun k => match k with
  | _ => ("", "", "", false)
def tyJ9 : Nat → FieldType := fun k => match k with
  | _ => .int
abbrev wsJ90 : List Cond := u_ws RJ9 TJ9 0
theorem nmJ9 : ∀ a, a < 0 → ∀ b, b < 0 → a ≠ b → (TJ9 a).2.1 ≠ (TJ9 b).2.1 := by decide +kernel
theorem tyJ9_ok : ∀ k, k < 0 → parseFieldDescriptor (TJ9 k).2.2.1 = some (tyJ9 k) := by decide +kernel
abbrev cJ9_floorDiv_7cf53 : ByteArray := prog_13_method_47_code
def yJ9_floorDiv_7cf53 : MethodName := ⟨RJ9, "floorDiv", "(II)I"⟩
abbrev cJ9_abs_0f7a4 : ByteArray := prog_13_method_59_code
def yJ9_abs_0f7a4 : MethodName := ⟨RJ9, "abs", "(I)I"⟩
abbrev cJ9_max_7cf53 : ByteArray := prog_13_method_65_code
def yJ9_max_7cf53 : MethodName := ⟨RJ9, "max", "(II)I"⟩
abbrev cJ9_min_7cf53 : ByteArray := prog_13_method_69_code
def yJ9_min_7cf53 : MethodName := ⟨RJ9, "min", "(II)I"⟩
def RJ10 : String := "java/lang/System"
def TJ10 : u_T := fun k => match k with
  | _ => ("", "", "", false)
def tyJ10 : Nat → FieldType := fun k => match k with
  | _ => .int
abbrev wsJ100 : List Cond := u_ws RJ10 TJ10 0
theorem nmJ10 : ∀ a, a < 0 → ∀ b, b < 0 → a ≠ b → (TJ10 a).2.1 ≠ (TJ10 b).2.1 := by decide +kernel
theorem tyJ10_ok : ∀ k, k < 0 → parseFieldDescriptor (TJ10 k).2.2.1 = some (tyJ10 k) := by decide +kernel
def RJ7 : String := "java/util/Arrays"
def TJ7 : u_T := fun k => match k with
  | _ => ("", "", "", false)
def tyJ7 : Nat → FieldType := fun k => match k with
  | _ => .int
abbrev wsJ70 : List Cond := u_ws RJ7 TJ7 0
theorem nmJ7 : ∀ a, a < 0 → ∀ b, b < 0 → a ≠ b → (TJ7 a).2.1 ≠ (TJ7 b).2.1 := by decide +kernel
theorem tyJ7_ok : ∀ k, k < 0 → parseFieldDescriptor (TJ7 k).2.2.1 = some (tyJ7 k) := by decide +kernel
abbrev cJ7_fill_53178 : ByteArray := prog_15_method_103_code
def yJ7_fill_53178 : MethodName := ⟨RJ7, "fill", "([II)V"⟩
def RL : String := "DotBenchLaw"
abbrev cL_law : ByteArray := code
def yL_law : MethodName := ⟨RL, "law", "([I)Z"⟩
abbrev vwCl : List vw_C := [(RX0, TX0, 4), (RX1, TX1, 4), (RX2, TX2, 4), (RX3, TX3, 7), (RX4, TX4, 2), (RX5, TX5, 3), (RX6, TX6, 3), (RX7, TX7, 4), (RX8, TX8, 9), (RX9, TX9, 23)]
end
section
theorem dX8_isWithin_0 : decode cX8_isWithin 0 = .ok (.iload_n 0, 1) := by decide +kernel
theorem dX8_isWithin_1 : decode cX8_isWithin 1 = .ok (.iload_n 1, 1) := by decide +kernel
theorem dX8_isWithin_2 : decode cX8_isWithin 2 = .ok (.if_icmp .lt 12, 3) := by decide +kernel
theorem dX8_isWithin_14 : decode cX8_isWithin 14 = .ok (.iconst 0, 1) := by decide +kernel
theorem dX8_isWithin_15 : decode cX8_isWithin 15 = .ok (.ireturn, 1) := by decide +kernel
theorem dX8_isWithin_5 : decode cX8_isWithin 5 = .ok (.iload_n 0, 1) := by decide +kernel
theorem dX8_isWithin_6 : decode cX8_isWithin 6 = .ok (.iload_n 2, 1) := by decide +kernel
theorem dX8_isWithin_7 : decode cX8_isWithin 7 = .ok (.if_icmp .gt 7, 3) := by decide +kernel
theorem dX8_isWithin_10 : decode cX8_isWithin 10 = .ok (.iconst 1, 1) := by decide +kernel
theorem dX8_isWithin_11 : decode cX8_isWithin 11 = .ok (.goto 4, 3) := by decide +kernel
theorem dX8_isNear_0 : decode cX8_isNear 0 = .ok (.iload_n 0, 1) := by decide +kernel
theorem dX8_isNear_1 : decode cX8_isNear 1 = .ok (.iload_n 1, 1) := by decide +kernel
theorem dX8_isNear_2 : decode cX8_isNear 2 = .ok (.ineg, 1) := by decide +kernel
theorem dX8_isNear_3 : decode cX8_isNear 3 = .ok (.iload_n 1, 1) := by decide +kernel
theorem dX8_isNear_4 : decode cX8_isNear 4 = .ok (.invokestatic 79, 3) := by decide +kernel
theorem dX8_isNear_7 : decode cX8_isNear 7 = .ok (.ireturn, 1) := by decide +kernel
theorem dX8_isSide_0 : decode cX8_isSide 0 = .ok (.iload_n 0, 1) := by decide +kernel
theorem dX8_isSide_1 : decode cX8_isSide 1 = .ok (.iconst 1, 1) := by decide +kernel
theorem dX8_isSide_2 : decode cX8_isSide 2 = .ok (.bipush 64, 2) := by decide +kernel
theorem dX8_isSide_4 : decode cX8_isSide 4 = .ok (.invokestatic 79, 3) := by decide +kernel
theorem dX8_isSide_7 : decode cX8_isSide 7 = .ok (.ireturn, 1) := by decide +kernel
theorem dX8_isRule_0 : decode cX8_isRule 0 = .ok (.iload_n 0, 1) := by decide +kernel
theorem dX8_isRule_1 : decode cX8_isRule 1 = .ok (.ifCond .eq 8, 3) := by decide +kernel
theorem dX8_isRule_9 : decode cX8_isRule 9 = .ok (.iconst 1, 1) := by decide +kernel
theorem dX8_isRule_10 : decode cX8_isRule 10 = .ok (.goto 4, 3) := by decide +kernel
theorem dX8_isRule_14 : decode cX8_isRule 14 = .ok (.ireturn, 1) := by decide +kernel
theorem dX8_isRule_4 : decode cX8_isRule 4 = .ok (.iload_n 0, 1) := by decide +kernel
theorem dX8_isRule_5 : decode cX8_isRule 5 = .ok (.iconst 1, 1) := by decide +kernel
theorem dX8_isRule_6 : decode cX8_isRule 6 = .ok (.if_icmp .ne 7, 3) := by decide +kernel
theorem dX8_isRule_13 : decode cX8_isRule 13 = .ok (.iconst 0, 1) := by decide +kernel
theorem dX8_shareOfFull_0 : decode cX8_shareOfFull 0 = .ok (.iconst 2, 1) := by decide +kernel
theorem dX8_shareOfFull_1 : decode cX8_shareOfFull 1 = .ok (.iload_n 0, 1) := by decide +kernel
theorem dX8_shareOfFull_2 : decode cX8_shareOfFull 2 = .ok (.imul, 1) := by decide +kernel
theorem dX8_shareOfFull_3 : decode cX8_shareOfFull 3 = .ok (.sipush 255, 3) := by decide +kernel
theorem dX8_shareOfFull_6 : decode cX8_shareOfFull 6 = .ok (.iadd, 1) := by decide +kernel
theorem dX8_shareOfFull_7 : decode cX8_shareOfFull 7 = .ok (.sipush 510, 3) := by decide +kernel
theorem dX8_shareOfFull_10 : decode cX8_shareOfFull 10 = .ok (.idiv, 1) := by decide +kernel
theorem dX8_shareOfFull_11 : decode cX8_shareOfFull 11 = .ok (.ireturn, 1) := by decide +kernel
theorem dX8_channel_0 : decode cX8_channel 0 = .ok (.iload_n 0, 1) := by decide +kernel
theorem dX8_channel_1 : decode cX8_channel 1 = .ok (.iload_n 1, 1) := by decide +kernel
theorem dX8_channel_2 : decode cX8_channel 2 = .ok (.iushr, 1) := by decide +kernel
theorem dX8_channel_3 : decode cX8_channel 3 = .ok (.sipush 255, 3) := by decide +kernel
theorem dX8_channel_6 : decode cX8_channel 6 = .ok (.iand, 1) := by decide +kernel
theorem dX8_channel_7 : decode cX8_channel 7 = .ok (.ireturn, 1) := by decide +kernel
theorem dX8_inkOf_0 : decode cX8_inkOf 0 = .ok (.iload_n 0, 1) := by decide +kernel
theorem dX8_inkOf_1 : decode cX8_inkOf 1 = .ok (.bipush 24, 2) := by decide +kernel
theorem dX8_inkOf_3 : decode cX8_inkOf 3 = .ok (.invokestatic 215, 3) := by decide +kernel
theorem dX8_inkOf_6 : decode cX8_inkOf 6 = .ok (.istore_n 1, 1) := by decide +kernel
theorem dX8_inkOf_7 : decode cX8_inkOf 7 = .ok (.iload_n 1, 1) := by decide +kernel
theorem dX8_inkOf_8 : decode cX8_inkOf 8 = .ok (.istore_n 2, 1) := by decide +kernel
theorem dX8_inkOf_9 : decode cX8_inkOf 9 = .ok (.bipush 16, 2) := by decide +kernel
theorem dX8_inkOf_11 : decode cX8_inkOf 11 = .ok (.istore_n 3, 1) := by decide +kernel
theorem dX8_inkOf_12 : decode cX8_inkOf 12 = .ok (.iload_n 3, 1) := by decide +kernel
theorem dX8_inkOf_13 : decode cX8_inkOf 13 = .ok (.ifCond .lt 25, 3) := by decide +kernel
theorem dX8_inkOf_16 : decode cX8_inkOf 16 = .ok (.iload_n 2, 1) := by decide +kernel
theorem dX8_inkOf_17 : decode cX8_inkOf 17 = .ok (.bipush 8, 2) := by decide +kernel
theorem dX8_inkOf_19 : decode cX8_inkOf 19 = .ok (.ishl, 1) := by decide +kernel
theorem dX8_inkOf_20 : decode cX8_inkOf 20 = .ok (.iload_n 0, 1) := by decide +kernel
theorem dX8_inkOf_21 : decode cX8_inkOf 21 = .ok (.iload_n 3, 1) := by decide +kernel
theorem dX8_inkOf_22 : decode cX8_inkOf 22 = .ok (.invokestatic 215, 3) := by decide +kernel
theorem dX8_inkOf_25 : decode cX8_inkOf 25 = .ok (.iload_n 1, 1) := by decide +kernel
theorem dX8_inkOf_26 : decode cX8_inkOf 26 = .ok (.imul, 1) := by decide +kernel
theorem dX8_inkOf_27 : decode cX8_inkOf 27 = .ok (.invokestatic 218, 3) := by decide +kernel
theorem dX8_inkOf_30 : decode cX8_inkOf 30 = .ok (.ior, 1) := by decide +kernel
theorem dX8_inkOf_31 : decode cX8_inkOf 31 = .ok (.istore_n 2, 1) := by decide +kernel
theorem dX8_inkOf_32 : decode cX8_inkOf 32 = .ok (.iinc 3 (-8), 3) := by decide +kernel
theorem dX8_inkOf_35 : decode cX8_inkOf 35 = .ok (.goto (-23), 3) := by decide +kernel
theorem dX8_inkOf_38 : decode cX8_inkOf 38 = .ok (.iload_n 2, 1) := by decide +kernel
theorem dX8_inkOf_39 : decode cX8_inkOf 39 = .ok (.ireturn, 1) := by decide +kernel
theorem dX5_has_0 : decode cX5_has 0 = .ok (.iload_n 1, 1) := by decide +kernel
theorem dX5_has_1 : decode cX5_has 1 = .ok (.ifCond .lt 27, 3) := by decide +kernel
theorem dX5_has_28 : decode cX5_has 28 = .ok (.iconst 0, 1) := by decide +kernel
theorem dX5_has_29 : decode cX5_has 29 = .ok (.ireturn, 1) := by decide +kernel
theorem dX5_has_4 : decode cX5_has 4 = .ok (.iload_n 1, 1) := by decide +kernel
theorem dX5_has_5 : decode cX5_has 5 = .ok (.aload_n 0, 1) := by decide +kernel
theorem dX5_has_6 : decode cX5_has 6 = .ok (.getfield 15, 3) := by decide +kernel
theorem dX5_has_9 : decode cX5_has 9 = .ok (.if_icmp .ge 19, 3) := by decide +kernel
theorem dX5_has_12 : decode cX5_has 12 = .ok (.iload_n 2, 1) := by decide +kernel
theorem dX5_has_13 : decode cX5_has 13 = .ok (.ifCond .lt 15, 3) := by decide +kernel
theorem dX5_has_16 : decode cX5_has 16 = .ok (.iload_n 2, 1) := by decide +kernel
theorem dX5_has_17 : decode cX5_has 17 = .ok (.aload_n 0, 1) := by decide +kernel
theorem dX5_has_18 : decode cX5_has 18 = .ok (.getfield 19, 3) := by decide +kernel
theorem dX5_has_21 : decode cX5_has 21 = .ok (.if_icmp .ge 7, 3) := by decide +kernel
theorem dX5_has_24 : decode cX5_has 24 = .ok (.iconst 1, 1) := by decide +kernel
theorem dX5_has_25 : decode cX5_has 25 = .ok (.goto 4, 3) := by decide +kernel
theorem dX5_at_0 : decode cX5_at 0 = .ok (.aload_n 0, 1) := by decide +kernel
theorem dX5_at_1 : decode cX5_at 1 = .ok (.iload_n 1, 1) := by decide +kernel
theorem dX5_at_2 : decode cX5_at 2 = .ok (.iload_n 2, 1) := by decide +kernel
theorem dX5_at_3 : decode cX5_at 3 = .ok (.invokevirtual 34, 3) := by decide +kernel
theorem dX5_at_6 : decode cX5_at 6 = .ok (.ifCond .eq 17, 3) := by decide +kernel
theorem dX5_at_23 : decode cX5_at 23 = .ok (.iconst 0, 1) := by decide +kernel
theorem dX5_at_24 : decode cX5_at 24 = .ok (.ireturn, 1) := by decide +kernel
theorem dX5_at_9 : decode cX5_at 9 = .ok (.aload_n 0, 1) := by decide +kernel
theorem dX5_at_10 : decode cX5_at 10 = .ok (.getfield 9, 3) := by decide +kernel
theorem dX5_at_13 : decode cX5_at 13 = .ok (.iload_n 2, 1) := by decide +kernel
theorem dX5_at_14 : decode cX5_at 14 = .ok (.bipush 64, 2) := by decide +kernel
theorem dX5_at_16 : decode cX5_at 16 = .ok (.imul, 1) := by decide +kernel
theorem dX5_at_17 : decode cX5_at 17 = .ok (.iload_n 1, 1) := by decide +kernel
theorem dX5_at_18 : decode cX5_at 18 = .ok (.iadd, 1) := by decide +kernel
theorem dX5_at_19 : decode cX5_at 19 = .ok (.iaload, 1) := by decide +kernel
theorem dX5_at_20 : decode cX5_at 20 = .ok (.goto 4, 3) := by decide +kernel
theorem dX5_put_0 : decode cX5_put 0 = .ok (.aload_n 0, 1) := by decide +kernel
theorem dX5_put_1 : decode cX5_put 1 = .ok (.iload_n 1, 1) := by decide +kernel
theorem dX5_put_2 : decode cX5_put 2 = .ok (.iload_n 2, 1) := by decide +kernel
theorem dX5_put_3 : decode cX5_put 3 = .ok (.invokevirtual 34, 3) := by decide +kernel
theorem dX5_put_6 : decode cX5_put 6 = .ok (.ifCond .eq 15, 3) := by decide +kernel
theorem dX5_put_21 : decode cX5_put 21 = .ok (.return_, 1) := by decide +kernel
theorem dX5_put_9 : decode cX5_put 9 = .ok (.aload_n 0, 1) := by decide +kernel
theorem dX5_put_10 : decode cX5_put 10 = .ok (.getfield 9, 3) := by decide +kernel
theorem dX5_put_13 : decode cX5_put 13 = .ok (.iload_n 2, 1) := by decide +kernel
theorem dX5_put_14 : decode cX5_put 14 = .ok (.bipush 64, 2) := by decide +kernel
theorem dX5_put_16 : decode cX5_put 16 = .ok (.imul, 1) := by decide +kernel
theorem dX5_put_17 : decode cX5_put 17 = .ok (.iload_n 1, 1) := by decide +kernel
theorem dX5_put_18 : decode cX5_put 18 = .ok (.iadd, 1) := by decide +kernel
theorem dX5_put_19 : decode cX5_put 19 = .ok (.iload_n 3, 1) := by decide +kernel
theorem dX5_put_20 : decode cX5_put 20 = .ok (.iastore, 1) := by decide +kernel
theorem dJ7_fill_53178_0 : decode cJ7_fill_53178 0 = .ok (.iconst 0, 1) := by decide +kernel
theorem dJ7_fill_53178_1 : decode cJ7_fill_53178 1 = .ok (.istore_n 2, 1) := by decide +kernel
theorem dJ7_fill_53178_2 : decode cJ7_fill_53178 2 = .ok (.aload_n 0, 1) := by decide +kernel
theorem dJ7_fill_53178_3 : decode cJ7_fill_53178 3 = .ok (.arraylength, 1) := by decide +kernel
theorem dJ7_fill_53178_4 : decode cJ7_fill_53178 4 = .ok (.istore_n 3, 1) := by decide +kernel
theorem dJ7_fill_53178_5 : decode cJ7_fill_53178 5 = .ok (.iload_n 2, 1) := by decide +kernel
theorem dJ7_fill_53178_6 : decode cJ7_fill_53178 6 = .ok (.iload_n 3, 1) := by decide +kernel
theorem dJ7_fill_53178_7 : decode cJ7_fill_53178 7 = .ok (.if_icmp .ge 13, 3) := by decide +kernel
theorem dJ7_fill_53178_20 : decode cJ7_fill_53178 20 = .ok (.return_, 1) := by decide +kernel
theorem dJ7_fill_53178_10 : decode cJ7_fill_53178 10 = .ok (.aload_n 0, 1) := by decide +kernel
theorem dJ7_fill_53178_11 : decode cJ7_fill_53178 11 = .ok (.iload_n 2, 1) := by decide +kernel
theorem dJ7_fill_53178_12 : decode cJ7_fill_53178 12 = .ok (.iload_n 1, 1) := by decide +kernel
theorem dJ7_fill_53178_13 : decode cJ7_fill_53178 13 = .ok (.iastore, 1) := by decide +kernel
theorem dJ7_fill_53178_14 : decode cJ7_fill_53178 14 = .ok (.iinc 2 1, 3) := by decide +kernel
theorem dJ7_fill_53178_17 : decode cJ7_fill_53178 17 = .ok (.goto (-12), 3) := by decide +kernel
theorem dX5_begin_0 : decode cX5_begin 0 = .ok (.aload_n 0, 1) := by decide +kernel
theorem dX5_begin_1 : decode cX5_begin 1 = .ok (.iload_n 1, 1) := by decide +kernel
theorem dX5_begin_2 : decode cX5_begin 2 = .ok (.putfield 15, 3) := by decide +kernel
theorem dX5_begin_5 : decode cX5_begin 5 = .ok (.aload_n 0, 1) := by decide +kernel
theorem dX5_begin_6 : decode cX5_begin 6 = .ok (.iload_n 2, 1) := by decide +kernel
theorem dX5_begin_7 : decode cX5_begin 7 = .ok (.putfield 19, 3) := by decide +kernel
theorem dX5_begin_10 : decode cX5_begin 10 = .ok (.aload_n 0, 1) := by decide +kernel
theorem dX5_begin_11 : decode cX5_begin 11 = .ok (.getfield 9, 3) := by decide +kernel
theorem dX5_begin_14 : decode cX5_begin 14 = .ok (.iconst 0, 1) := by decide +kernel
theorem dX5_begin_15 : decode cX5_begin 15 = .ok (.invokestatic 22, 3) := by decide +kernel
theorem dX5_begin_18 : decode cX5_begin 18 = .ok (.return_, 1) := by decide +kernel
theorem dX0_holds_0 : decode cX0_holds 0 = .ok (.iload_n 1, 1) := by decide +kernel
theorem dX0_holds_1 : decode cX0_holds 1 = .ok (.aload_n 0, 1) := by decide +kernel
theorem dX0_holds_2 : decode cX0_holds 2 = .ok (.getfield 9, 3) := by decide +kernel
theorem dX0_holds_5 : decode cX0_holds 5 = .ok (.if_icmp .lt 31, 3) := by decide +kernel
theorem dX0_holds_36 : decode cX0_holds 36 = .ok (.iconst 0, 1) := by decide +kernel
theorem dX0_holds_37 : decode cX0_holds 37 = .ok (.ireturn, 1) := by decide +kernel
theorem dX0_holds_8 : decode cX0_holds 8 = .ok (.iload_n 1, 1) := by decide +kernel
theorem dX0_holds_9 : decode cX0_holds 9 = .ok (.aload_n 0, 1) := by decide +kernel
theorem dX0_holds_10 : decode cX0_holds 10 = .ok (.getfield 18, 3) := by decide +kernel
theorem dX0_holds_13 : decode cX0_holds 13 = .ok (.if_icmp .gt 23, 3) := by decide +kernel
theorem dX0_holds_16 : decode cX0_holds 16 = .ok (.iload_n 2, 1) := by decide +kernel
theorem dX0_holds_17 : decode cX0_holds 17 = .ok (.aload_n 0, 1) := by decide +kernel
theorem dX0_holds_18 : decode cX0_holds 18 = .ok (.getfield 15, 3) := by decide +kernel
theorem dX0_holds_21 : decode cX0_holds 21 = .ok (.if_icmp .lt 15, 3) := by decide +kernel
theorem dX0_holds_24 : decode cX0_holds 24 = .ok (.iload_n 2, 1) := by decide +kernel
theorem dX0_holds_25 : decode cX0_holds 25 = .ok (.aload_n 0, 1) := by decide +kernel
theorem dX0_holds_26 : decode cX0_holds 26 = .ok (.getfield 21, 3) := by decide +kernel
theorem dX0_holds_29 : decode cX0_holds 29 = .ok (.if_icmp .gt 7, 3) := by decide +kernel
theorem dX0_holds_32 : decode cX0_holds 32 = .ok (.iconst 1, 1) := by decide +kernel
theorem dX0_holds_33 : decode cX0_holds 33 = .ok (.goto 4, 3) := by decide +kernel
theorem dX0_bound_0 : decode cX0_bound 0 = .ok (.aload_n 0, 1) := by decide +kernel
theorem dX0_bound_1 : decode cX0_bound 1 = .ok (.iload_n 1, 1) := by decide +kernel
theorem dX0_bound_2 : decode cX0_bound 2 = .ok (.putfield 9, 3) := by decide +kernel
theorem dX0_bound_5 : decode cX0_bound 5 = .ok (.aload_n 0, 1) := by decide +kernel
theorem dX0_bound_6 : decode cX0_bound 6 = .ok (.iload_n 2, 1) := by decide +kernel
theorem dX0_bound_7 : decode cX0_bound 7 = .ok (.putfield 15, 3) := by decide +kernel
theorem dX0_bound_10 : decode cX0_bound 10 = .ok (.aload_n 0, 1) := by decide +kernel
theorem dX0_bound_11 : decode cX0_bound 11 = .ok (.iload_n 3, 1) := by decide +kernel
theorem dX0_bound_12 : decode cX0_bound 12 = .ok (.putfield 18, 3) := by decide +kernel
theorem dX0_bound_15 : decode cX0_bound 15 = .ok (.aload_n 0, 1) := by decide +kernel
theorem dX0_bound_16 : decode cX0_bound 16 = .ok (.iload 4, 2) := by decide +kernel
theorem dX0_bound_18 : decode cX0_bound 18 = .ok (.putfield 21, 3) := by decide +kernel
theorem dX0_bound_21 : decode cX0_bound 21 = .ok (.return_, 1) := by decide +kernel
theorem dX1_weightOfSource_0 : decode cX1_weightOfSource 0 = .ok (.aload_n 0, 1) := by decide +kernel
theorem dX1_weightOfSource_1 : decode cX1_weightOfSource 1 = .ok (.getfield 22, 3) := by decide +kernel
theorem dX1_weightOfSource_4 : decode cX1_weightOfSource 4 = .ok (.tableswitch 76 1 12 #[64, 76, 64, 70, 68, 76, 70, 76, 68, 70, 70, 64], 64) := by decide +kernel
theorem dX1_weightOfSource_80 : decode cX1_weightOfSource 80 = .ok (.iconst 0, 1) := by decide +kernel
theorem dX1_weightOfSource_81 : decode cX1_weightOfSource 81 = .ok (.ireturn, 1) := by decide +kernel
theorem dX1_weightOfSource_68 : decode cX1_weightOfSource 68 = .ok (.sipush 255, 3) := by decide +kernel
theorem dX1_weightOfSource_71 : decode cX1_weightOfSource 71 = .ok (.ireturn, 1) := by decide +kernel
theorem dX1_weightOfSource_74 : decode cX1_weightOfSource 74 = .ok (.sipush 255, 3) := by decide +kernel
theorem dX1_weightOfSource_77 : decode cX1_weightOfSource 77 = .ok (.iload_n 1, 1) := by decide +kernel
theorem dX1_weightOfSource_78 : decode cX1_weightOfSource 78 = .ok (.isub, 1) := by decide +kernel
theorem dX1_weightOfSource_79 : decode cX1_weightOfSource 79 = .ok (.ireturn, 1) := by decide +kernel
theorem dX1_weightOfSource_72 : decode cX1_weightOfSource 72 = .ok (.iload_n 1, 1) := by decide +kernel
theorem dX1_weightOfSource_73 : decode cX1_weightOfSource 73 = .ok (.ireturn, 1) := by decide +kernel
theorem dX1_weightOfThere_0 : decode cX1_weightOfThere 0 = .ok (.aload_n 0, 1) := by decide +kernel
theorem dX1_weightOfThere_1 : decode cX1_weightOfThere 1 = .ok (.getfield 22, 3) := by decide +kernel
theorem dX1_weightOfThere_4 : decode cX1_weightOfThere 4 = .ok (.tableswitch 72 2 12 #[60, 66, 60, 72, 64, 72, 66, 66, 64, 66, 60], 60) := by decide +kernel
theorem dX1_weightOfThere_76 : decode cX1_weightOfThere 76 = .ok (.iconst 0, 1) := by decide +kernel
theorem dX1_weightOfThere_77 : decode cX1_weightOfThere 77 = .ok (.ireturn, 1) := by decide +kernel
theorem dX1_weightOfThere_64 : decode cX1_weightOfThere 64 = .ok (.sipush 255, 3) := by decide +kernel
theorem dX1_weightOfThere_67 : decode cX1_weightOfThere 67 = .ok (.ireturn, 1) := by decide +kernel
theorem dX1_weightOfThere_70 : decode cX1_weightOfThere 70 = .ok (.sipush 255, 3) := by decide +kernel
theorem dX1_weightOfThere_73 : decode cX1_weightOfThere 73 = .ok (.iload_n 1, 1) := by decide +kernel
theorem dX1_weightOfThere_74 : decode cX1_weightOfThere 74 = .ok (.isub, 1) := by decide +kernel
theorem dX1_weightOfThere_75 : decode cX1_weightOfThere 75 = .ok (.ireturn, 1) := by decide +kernel
theorem dX1_weightOfThere_68 : decode cX1_weightOfThere 68 = .ok (.iload_n 1, 1) := by decide +kernel
theorem dX1_weightOfThere_69 : decode cX1_weightOfThere 69 = .ok (.ireturn, 1) := by decide +kernel
theorem dX1_measureOf_0 : decode cX1_measureOf 0 = .ok (.iconst 2, 1) := by decide +kernel
theorem dX1_measureOf_1 : decode cX1_measureOf 1 = .ok (.aload_n 0, 1) := by decide +kernel
theorem dX1_measureOf_2 : decode cX1_measureOf 2 = .ok (.getfield 25, 3) := by decide +kernel
theorem dX1_measureOf_5 : decode cX1_measureOf 5 = .ok (.imul, 1) := by decide +kernel
theorem dX1_measureOf_6 : decode cX1_measureOf 6 = .ok (.iload_n 1, 1) := by decide +kernel
theorem dX1_measureOf_7 : decode cX1_measureOf 7 = .ok (.imul, 1) := by decide +kernel
theorem dX1_measureOf_8 : decode cX1_measureOf 8 = .ok (.bipush 16, 2) := by decide +kernel
theorem dX1_measureOf_10 : decode cX1_measureOf 10 = .ok (.iadd, 1) := by decide +kernel
theorem dX1_measureOf_11 : decode cX1_measureOf 11 = .ok (.bipush 32, 2) := by decide +kernel
theorem dX1_measureOf_13 : decode cX1_measureOf 13 = .ok (.idiv, 1) := by decide +kernel
theorem dX1_measureOf_14 : decode cX1_measureOf 14 = .ok (.ireturn, 1) := by decide +kernel
theorem dX1_laid_0 : decode cX1_laid 0 = .ok (.aload_n 0, 1) := by decide +kernel
theorem dX1_laid_1 : decode cX1_laid 1 = .ok (.iload_n 2, 1) := by decide +kernel
theorem dX1_laid_2 : decode cX1_laid 2 = .ok (.bipush 24, 2) := by decide +kernel
theorem dX1_laid_4 : decode cX1_laid 4 = .ok (.invokestatic 49, 3) := by decide +kernel
theorem dX1_laid_7 : decode cX1_laid 7 = .ok (.invokevirtual 52, 3) := by decide +kernel
theorem dX1_laid_10 : decode cX1_laid 10 = .ok (.istore 4, 2) := by decide +kernel
theorem dX1_laid_12 : decode cX1_laid 12 = .ok (.aload_n 0, 1) := by decide +kernel
theorem dX1_laid_13 : decode cX1_laid 13 = .ok (.iload_n 1, 1) := by decide +kernel
theorem dX1_laid_14 : decode cX1_laid 14 = .ok (.bipush 24, 2) := by decide +kernel
theorem dX1_laid_16 : decode cX1_laid 16 = .ok (.invokestatic 49, 3) := by decide +kernel
theorem dX1_laid_19 : decode cX1_laid 19 = .ok (.invokevirtual 56, 3) := by decide +kernel
theorem dX1_laid_22 : decode cX1_laid 22 = .ok (.istore 5, 2) := by decide +kernel
theorem dX1_laid_24 : decode cX1_laid 24 = .ok (.iconst 0, 1) := by decide +kernel
theorem dX1_laid_25 : decode cX1_laid 25 = .ok (.istore 6, 2) := by decide +kernel
theorem dX1_laid_27 : decode cX1_laid 27 = .ok (.bipush 24, 2) := by decide +kernel
theorem dX1_laid_29 : decode cX1_laid 29 = .ok (.istore 7, 2) := by decide +kernel
theorem dX1_laid_31 : decode cX1_laid 31 = .ok (.iload 7, 2) := by decide +kernel
theorem dX1_laid_33 : decode cX1_laid 33 = .ok (.ifCond .lt 67, 3) := by decide +kernel
theorem dX1_laid_36 : decode cX1_laid 36 = .ok (.iload_n 2, 1) := by decide +kernel
theorem dX1_laid_37 : decode cX1_laid 37 = .ok (.iload 7, 2) := by decide +kernel
theorem dX1_laid_39 : decode cX1_laid 39 = .ok (.invokestatic 49, 3) := by decide +kernel
theorem dX1_laid_42 : decode cX1_laid 42 = .ok (.istore 8, 2) := by decide +kernel
theorem dX1_laid_44 : decode cX1_laid 44 = .ok (.sipush 255, 3) := by decide +kernel
theorem dX1_laid_47 : decode cX1_laid 47 = .ok (.iload_n 1, 1) := by decide +kernel
theorem dX1_laid_48 : decode cX1_laid 48 = .ok (.iload 7, 2) := by decide +kernel
theorem dX1_laid_50 : decode cX1_laid 50 = .ok (.invokestatic 49, 3) := by decide +kernel
theorem dX1_laid_53 : decode cX1_laid 53 = .ok (.iload 4, 2) := by decide +kernel
theorem dX1_laid_55 : decode cX1_laid 55 = .ok (.imul, 1) := by decide +kernel
theorem dX1_laid_56 : decode cX1_laid 56 = .ok (.iload 8, 2) := by decide +kernel
theorem dX1_laid_58 : decode cX1_laid 58 = .ok (.iload 5, 2) := by decide +kernel
theorem dX1_laid_60 : decode cX1_laid 60 = .ok (.imul, 1) := by decide +kernel
theorem dX1_laid_61 : decode cX1_laid 61 = .ok (.iadd, 1) := by decide +kernel
theorem dX1_laid_62 : decode cX1_laid 62 = .ok (.invokestatic 59, 3) := by decide +kernel
theorem dX1_laid_65 : decode cX1_laid 65 = .ok (.invokestatic 62, 3) := by decide +kernel
theorem dX1_laid_68 : decode cX1_laid 68 = .ok (.istore 9, 2) := by decide +kernel
theorem dX1_laid_70 : decode cX1_laid 70 = .ok (.iload 6, 2) := by decide +kernel
theorem dX1_laid_72 : decode cX1_laid 72 = .ok (.bipush 8, 2) := by decide +kernel
theorem dX1_laid_74 : decode cX1_laid 74 = .ok (.ishl, 1) := by decide +kernel
theorem dX1_laid_75 : decode cX1_laid 75 = .ok (.iload 9, 2) := by decide +kernel
theorem dX1_laid_77 : decode cX1_laid 77 = .ok (.iload_n 3, 1) := by decide +kernel
theorem dX1_laid_78 : decode cX1_laid 78 = .ok (.imul, 1) := by decide +kernel
theorem dX1_laid_79 : decode cX1_laid 79 = .ok (.iload 8, 2) := by decide +kernel
theorem dX1_laid_81 : decode cX1_laid 81 = .ok (.sipush 255, 3) := by decide +kernel
theorem dX1_laid_84 : decode cX1_laid 84 = .ok (.iload_n 3, 1) := by decide +kernel
theorem dX1_laid_85 : decode cX1_laid 85 = .ok (.isub, 1) := by decide +kernel
theorem dX1_laid_86 : decode cX1_laid 86 = .ok (.imul, 1) := by decide +kernel
theorem dX1_laid_87 : decode cX1_laid 87 = .ok (.iadd, 1) := by decide +kernel
theorem dX1_laid_88 : decode cX1_laid 88 = .ok (.invokestatic 59, 3) := by decide +kernel
theorem dX1_laid_91 : decode cX1_laid 91 = .ok (.ior, 1) := by decide +kernel
theorem dX1_laid_92 : decode cX1_laid 92 = .ok (.istore 6, 2) := by decide +kernel
theorem dX1_laid_94 : decode cX1_laid 94 = .ok (.iinc 7 (-8), 3) := by decide +kernel
theorem dX1_laid_97 : decode cX1_laid 97 = .ok (.goto (-66), 3) := by decide +kernel
theorem dX1_laid_100 : decode cX1_laid 100 = .ok (.iload 6, 2) := by decide +kernel
theorem dX1_laid_102 : decode cX1_laid 102 = .ok (.ireturn, 1) := by decide +kernel
theorem dX1_lay_0 : decode cX1_lay 0 = .ok (.aload_n 1, 1) := by decide +kernel
theorem dX1_lay_1 : decode cX1_lay 1 = .ok (.iload_n 2, 1) := by decide +kernel
theorem dX1_lay_2 : decode cX1_lay 2 = .ok (.iload_n 3, 1) := by decide +kernel
theorem dX1_lay_3 : decode cX1_lay 3 = .ok (.invokevirtual 28, 3) := by decide +kernel
theorem dX1_lay_6 : decode cX1_lay 6 = .ok (.ifCond .eq 15, 3) := by decide +kernel
theorem dX1_lay_21 : decode cX1_lay 21 = .ok (.iconst 0, 1) := by decide +kernel
theorem dX1_lay_22 : decode cX1_lay 22 = .ok (.ireturn, 1) := by decide +kernel
theorem dX1_lay_9 : decode cX1_lay 9 = .ok (.aload_n 0, 1) := by decide +kernel
theorem dX1_lay_10 : decode cX1_lay 10 = .ok (.getfield 12, 3) := by decide +kernel
theorem dX1_lay_13 : decode cX1_lay 13 = .ok (.iload_n 2, 1) := by decide +kernel
theorem dX1_lay_14 : decode cX1_lay 14 = .ok (.iload_n 3, 1) := by decide +kernel
theorem dX1_lay_15 : decode cX1_lay 15 = .ok (.invokevirtual 34, 3) := by decide +kernel
theorem dX1_lay_18 : decode cX1_lay 18 = .ok (.ifCond .ne 5, 3) := by decide +kernel
theorem dX1_lay_23 : decode cX1_lay 23 = .ok (.aload_n 1, 1) := by decide +kernel
theorem dX1_lay_24 : decode cX1_lay 24 = .ok (.iload_n 2, 1) := by decide +kernel
theorem dX1_lay_25 : decode cX1_lay 25 = .ok (.iload_n 3, 1) := by decide +kernel
theorem dX1_lay_26 : decode cX1_lay 26 = .ok (.aload_n 0, 1) := by decide +kernel
theorem dX1_lay_27 : decode cX1_lay 27 = .ok (.iload 4, 2) := by decide +kernel
theorem dX1_lay_29 : decode cX1_lay 29 = .ok (.aload_n 1, 1) := by decide +kernel
theorem dX1_lay_30 : decode cX1_lay 30 = .ok (.iload_n 2, 1) := by decide +kernel
theorem dX1_lay_31 : decode cX1_lay 31 = .ok (.iload_n 3, 1) := by decide +kernel
theorem dX1_lay_32 : decode cX1_lay 32 = .ok (.invokevirtual 37, 3) := by decide +kernel
theorem dX1_lay_35 : decode cX1_lay 35 = .ok (.iload 5, 2) := by decide +kernel
theorem dX1_lay_37 : decode cX1_lay 37 = .ok (.invokevirtual 41, 3) := by decide +kernel
theorem dX1_lay_40 : decode cX1_lay 40 = .ok (.invokevirtual 45, 3) := by decide +kernel
theorem dX1_lay_43 : decode cX1_lay 43 = .ok (.iconst 1, 1) := by decide +kernel
theorem dX1_lay_44 : decode cX1_lay 44 = .ok (.ireturn, 1) := by decide +kernel
theorem dX9_channel_0 : decode cX9_channel 0 = .ok (.iload_n 0, 1) := by decide +kernel
theorem dX9_channel_1 : decode cX9_channel 1 = .ok (.bipush 24, 2) := by decide +kernel
theorem dX9_channel_3 : decode cX9_channel 3 = .ok (.bipush 8, 2) := by decide +kernel
theorem dX9_channel_5 : decode cX9_channel 5 = .ok (.iload_n 1, 1) := by decide +kernel
theorem dX9_channel_6 : decode cX9_channel 6 = .ok (.imul, 1) := by decide +kernel
theorem dX9_channel_7 : decode cX9_channel 7 = .ok (.isub, 1) := by decide +kernel
theorem dX9_channel_8 : decode cX9_channel 8 = .ok (.ishr, 1) := by decide +kernel
theorem dX9_channel_9 : decode cX9_channel 9 = .ok (.sipush 255, 3) := by decide +kernel
theorem dX9_channel_12 : decode cX9_channel 12 = .ok (.iand, 1) := by decide +kernel
theorem dX9_channel_13 : decode cX9_channel 13 = .ok (.ireturn, 1) := by decide +kernel
theorem dX9_nearest_0 : decode cX9_nearest 0 = .ok (.iconst 2, 1) := by decide +kernel
theorem dX9_nearest_1 : decode cX9_nearest 1 = .ok (.iload_n 0, 1) := by decide +kernel
theorem dX9_nearest_2 : decode cX9_nearest 2 = .ok (.imul, 1) := by decide +kernel
theorem dX9_nearest_3 : decode cX9_nearest 3 = .ok (.iload_n 1, 1) := by decide +kernel
theorem dX9_nearest_4 : decode cX9_nearest 4 = .ok (.iadd, 1) := by decide +kernel
theorem dX9_nearest_5 : decode cX9_nearest 5 = .ok (.iconst 2, 1) := by decide +kernel
theorem dX9_nearest_6 : decode cX9_nearest 6 = .ok (.iload_n 1, 1) := by decide +kernel
theorem dX9_nearest_7 : decode cX9_nearest 7 = .ok (.imul, 1) := by decide +kernel
theorem dX9_nearest_8 : decode cX9_nearest 8 = .ok (.idiv, 1) := by decide +kernel
theorem dX9_nearest_9 : decode cX9_nearest 9 = .ok (.ireturn, 1) := by decide +kernel
theorem dX9_inkOf_0 : decode cX9_inkOf 0 = .ok (.iload_n 0, 1) := by decide +kernel
theorem dX9_inkOf_1 : decode cX9_inkOf 1 = .ok (.iconst 0, 1) := by decide +kernel
theorem dX9_inkOf_2 : decode cX9_inkOf 2 = .ok (.invokestatic 88, 3) := by decide +kernel
theorem dX9_inkOf_5 : decode cX9_inkOf 5 = .ok (.istore_n 1, 1) := by decide +kernel
theorem dX9_inkOf_6 : decode cX9_inkOf 6 = .ok (.iload_n 1, 1) := by decide +kernel
theorem dX9_inkOf_7 : decode cX9_inkOf 7 = .ok (.istore_n 2, 1) := by decide +kernel
theorem dX9_inkOf_8 : decode cX9_inkOf 8 = .ok (.iconst 1, 1) := by decide +kernel
theorem dX9_inkOf_9 : decode cX9_inkOf 9 = .ok (.istore_n 3, 1) := by decide +kernel
theorem dX9_inkOf_10 : decode cX9_inkOf 10 = .ok (.iload_n 3, 1) := by decide +kernel
theorem dX9_inkOf_11 : decode cX9_inkOf 11 = .ok (.iconst 4, 1) := by decide +kernel
theorem dX9_inkOf_12 : decode cX9_inkOf 12 = .ok (.if_icmp .ge 28, 3) := by decide +kernel
theorem dX9_inkOf_15 : decode cX9_inkOf 15 = .ok (.iload_n 2, 1) := by decide +kernel
theorem dX9_inkOf_16 : decode cX9_inkOf 16 = .ok (.bipush 8, 2) := by decide +kernel
theorem dX9_inkOf_18 : decode cX9_inkOf 18 = .ok (.ishl, 1) := by decide +kernel
theorem dX9_inkOf_19 : decode cX9_inkOf 19 = .ok (.iload_n 0, 1) := by decide +kernel
theorem dX9_inkOf_20 : decode cX9_inkOf 20 = .ok (.iload_n 3, 1) := by decide +kernel
theorem dX9_inkOf_21 : decode cX9_inkOf 21 = .ok (.invokestatic 88, 3) := by decide +kernel
theorem dX9_inkOf_24 : decode cX9_inkOf 24 = .ok (.iload_n 1, 1) := by decide +kernel
theorem dX9_inkOf_25 : decode cX9_inkOf 25 = .ok (.imul, 1) := by decide +kernel
theorem dX9_inkOf_26 : decode cX9_inkOf 26 = .ok (.sipush 255, 3) := by decide +kernel
theorem dX9_inkOf_29 : decode cX9_inkOf 29 = .ok (.invokestatic 92, 3) := by decide +kernel
theorem dX9_inkOf_32 : decode cX9_inkOf 32 = .ok (.ior, 1) := by decide +kernel
theorem dX9_inkOf_33 : decode cX9_inkOf 33 = .ok (.istore_n 2, 1) := by decide +kernel
theorem dX9_inkOf_34 : decode cX9_inkOf 34 = .ok (.iinc 3 1, 3) := by decide +kernel
theorem dX9_inkOf_37 : decode cX9_inkOf 37 = .ok (.goto (-27), 3) := by decide +kernel
theorem dX9_inkOf_40 : decode cX9_inkOf 40 = .ok (.iload_n 2, 1) := by decide +kernel
theorem dX9_inkOf_41 : decode cX9_inkOf 41 = .ok (.ireturn, 1) := by decide +kernel
theorem dX9_isNear_0 : decode cX9_isNear 0 = .ok (.iload_n 0, 1) := by decide +kernel
theorem dX9_isNear_1 : decode cX9_isNear 1 = .ok (.iload_n 1, 1) := by decide +kernel
theorem dX9_isNear_2 : decode cX9_isNear 2 = .ok (.ineg, 1) := by decide +kernel
theorem dX9_isNear_3 : decode cX9_isNear 3 = .ok (.if_icmp .lt 12, 3) := by decide +kernel
theorem dX9_isNear_15 : decode cX9_isNear 15 = .ok (.iconst 0, 1) := by decide +kernel
theorem dX9_isNear_16 : decode cX9_isNear 16 = .ok (.ireturn, 1) := by decide +kernel
theorem dX9_isNear_6 : decode cX9_isNear 6 = .ok (.iload_n 0, 1) := by decide +kernel
theorem dX9_isNear_7 : decode cX9_isNear 7 = .ok (.iload_n 1, 1) := by decide +kernel
theorem dX9_isNear_8 : decode cX9_isNear 8 = .ok (.if_icmp .gt 7, 3) := by decide +kernel
theorem dX9_isNear_11 : decode cX9_isNear 11 = .ok (.iconst 1, 1) := by decide +kernel
theorem dX9_isNear_12 : decode cX9_isNear 12 = .ok (.goto 4, 3) := by decide +kernel
theorem dX9_isSheet_0 : decode cX9_isSheet 0 = .ok (.iload_n 1, 1) := by decide +kernel
theorem dX9_isSheet_1 : decode cX9_isSheet 1 = .ok (.ifCond .lt 21, 3) := by decide +kernel
theorem dX9_isSheet_22 : decode cX9_isSheet 22 = .ok (.iconst 0, 1) := by decide +kernel
theorem dX9_isSheet_23 : decode cX9_isSheet 23 = .ok (.ireturn, 1) := by decide +kernel
theorem dX9_isSheet_4 : decode cX9_isSheet 4 = .ok (.iload_n 1, 1) := by decide +kernel
theorem dX9_isSheet_5 : decode cX9_isSheet 5 = .ok (.iconst 4, 1) := by decide +kernel
theorem dX9_isSheet_6 : decode cX9_isSheet 6 = .ok (.if_icmp .ge 16, 3) := by decide +kernel
theorem dX9_isSheet_9 : decode cX9_isSheet 9 = .ok (.aload_n 0, 1) := by decide +kernel
theorem dX9_isSheet_10 : decode cX9_isSheet 10 = .ok (.getfield 7, 3) := by decide +kernel
theorem dX9_isSheet_13 : decode cX9_isSheet 13 = .ok (.iload_n 1, 1) := by decide +kernel
theorem dX9_isSheet_14 : decode cX9_isSheet 14 = .ok (.iaload, 1) := by decide +kernel
theorem dX9_isSheet_15 : decode cX9_isSheet 15 = .ok (.ifCond .le 7, 3) := by decide +kernel
theorem dX9_isSheet_18 : decode cX9_isSheet 18 = .ok (.iconst 1, 1) := by decide +kernel
theorem dX9_isSheet_19 : decode cX9_isSheet 19 = .ok (.goto 4, 3) := by decide +kernel
theorem dX9_isOn_0 : decode cX9_isOn 0 = .ok (.iload_n 2, 1) := by decide +kernel
theorem dX9_isOn_1 : decode cX9_isOn 1 = .ok (.ifCond .lt 31, 3) := by decide +kernel
theorem dX9_isOn_32 : decode cX9_isOn 32 = .ok (.iconst 0, 1) := by decide +kernel
theorem dX9_isOn_33 : decode cX9_isOn 33 = .ok (.ireturn, 1) := by decide +kernel
theorem dX9_isOn_4 : decode cX9_isOn 4 = .ok (.iload_n 2, 1) := by decide +kernel
theorem dX9_isOn_5 : decode cX9_isOn 5 = .ok (.aload_n 0, 1) := by decide +kernel
theorem dX9_isOn_6 : decode cX9_isOn 6 = .ok (.getfield 7, 3) := by decide +kernel
theorem dX9_isOn_9 : decode cX9_isOn 9 = .ok (.iload_n 1, 1) := by decide +kernel
theorem dX9_isOn_10 : decode cX9_isOn 10 = .ok (.iaload, 1) := by decide +kernel
theorem dX9_isOn_11 : decode cX9_isOn 11 = .ok (.if_icmp .ge 21, 3) := by decide +kernel
theorem dX9_isOn_14 : decode cX9_isOn 14 = .ok (.iload_n 3, 1) := by decide +kernel
theorem dX9_isOn_15 : decode cX9_isOn 15 = .ok (.ifCond .lt 17, 3) := by decide +kernel
theorem dX9_isOn_18 : decode cX9_isOn 18 = .ok (.iload_n 3, 1) := by decide +kernel
theorem dX9_isOn_19 : decode cX9_isOn 19 = .ok (.aload_n 0, 1) := by decide +kernel
theorem dX9_isOn_20 : decode cX9_isOn 20 = .ok (.getfield 13, 3) := by decide +kernel
theorem dX9_isOn_23 : decode cX9_isOn 23 = .ok (.iload_n 1, 1) := by decide +kernel
theorem dX9_isOn_24 : decode cX9_isOn 24 = .ok (.iaload, 1) := by decide +kernel
theorem dX9_isOn_25 : decode cX9_isOn 25 = .ok (.if_icmp .ge 7, 3) := by decide +kernel
theorem dX9_isOn_28 : decode cX9_isOn 28 = .ok (.iconst 1, 1) := by decide +kernel
theorem dX9_isOn_29 : decode cX9_isOn 29 = .ok (.goto 4, 3) := by decide +kernel
theorem dX9_isInClip_0 : decode cX9_isInClip 0 = .ok (.aload_n 0, 1) := by decide +kernel
theorem dX9_isInClip_1 : decode cX9_isInClip 1 = .ok (.getfield 64, 3) := by decide +kernel
theorem dX9_isInClip_4 : decode cX9_isInClip 4 = .ok (.ifCond .eq 35, 3) := by decide +kernel
theorem dX9_isInClip_39 : decode cX9_isInClip 39 = .ok (.iconst 1, 1) := by decide +kernel
theorem dX9_isInClip_40 : decode cX9_isInClip 40 = .ok (.goto 4, 3) := by decide +kernel
theorem dX9_isInClip_44 : decode cX9_isInClip 44 = .ok (.ireturn, 1) := by decide +kernel
theorem dX9_isInClip_7 : decode cX9_isInClip 7 = .ok (.iload_n 1, 1) := by decide +kernel
theorem dX9_isInClip_8 : decode cX9_isInClip 8 = .ok (.aload_n 0, 1) := by decide +kernel
theorem dX9_isInClip_9 : decode cX9_isInClip 9 = .ok (.getfield 68, 3) := by decide +kernel
theorem dX9_isInClip_12 : decode cX9_isInClip 12 = .ok (.if_icmp .lt 31, 3) := by decide +kernel
theorem dX9_isInClip_43 : decode cX9_isInClip 43 = .ok (.iconst 0, 1) := by decide +kernel
theorem dX9_isInClip_15 : decode cX9_isInClip 15 = .ok (.iload_n 1, 1) := by decide +kernel
theorem dX9_isInClip_16 : decode cX9_isInClip 16 = .ok (.aload_n 0, 1) := by decide +kernel
theorem dX9_isInClip_17 : decode cX9_isInClip 17 = .ok (.getfield 71, 3) := by decide +kernel
theorem dX9_isInClip_20 : decode cX9_isInClip 20 = .ok (.if_icmp .gt 23, 3) := by decide +kernel
theorem dX9_isInClip_23 : decode cX9_isInClip 23 = .ok (.iload_n 2, 1) := by decide +kernel
theorem dX9_isInClip_24 : decode cX9_isInClip 24 = .ok (.aload_n 0, 1) := by decide +kernel
theorem dX9_isInClip_25 : decode cX9_isInClip 25 = .ok (.getfield 74, 3) := by decide +kernel
theorem dX9_isInClip_28 : decode cX9_isInClip 28 = .ok (.if_icmp .lt 15, 3) := by decide +kernel
theorem dX9_isInClip_31 : decode cX9_isInClip 31 = .ok (.iload_n 2, 1) := by decide +kernel
theorem dX9_isInClip_32 : decode cX9_isInClip 32 = .ok (.aload_n 0, 1) := by decide +kernel
theorem dX9_isInClip_33 : decode cX9_isInClip 33 = .ok (.getfield 77, 3) := by decide +kernel
theorem dX9_isInClip_36 : decode cX9_isInClip 36 = .ok (.if_icmp .gt 7, 3) := by decide +kernel
theorem dX9_isOpen_0 : decode cX9_isOpen 0 = .ok (.aload_n 0, 1) := by decide +kernel
theorem dX9_isOpen_1 : decode cX9_isOpen 1 = .ok (.iload_n 1, 1) := by decide +kernel
theorem dX9_isOpen_2 : decode cX9_isOpen 2 = .ok (.iload_n 2, 1) := by decide +kernel
theorem dX9_isOpen_3 : decode cX9_isOpen 3 = .ok (.iload_n 3, 1) := by decide +kernel
theorem dX9_isOpen_4 : decode cX9_isOpen 4 = .ok (.invokevirtual 80, 3) := by decide +kernel
theorem dX9_isOpen_7 : decode cX9_isOpen 7 = .ok (.ifCond .eq 16, 3) := by decide +kernel
theorem dX9_isOpen_23 : decode cX9_isOpen 23 = .ok (.iconst 0, 1) := by decide +kernel
theorem dX9_isOpen_24 : decode cX9_isOpen 24 = .ok (.ireturn, 1) := by decide +kernel
theorem dX9_isOpen_10 : decode cX9_isOpen 10 = .ok (.aload_n 0, 1) := by decide +kernel
theorem dX9_isOpen_11 : decode cX9_isOpen 11 = .ok (.iload_n 2, 1) := by decide +kernel
theorem dX9_isOpen_12 : decode cX9_isOpen 12 = .ok (.iload_n 3, 1) := by decide +kernel
theorem dX9_isOpen_13 : decode cX9_isOpen 13 = .ok (.invokevirtual 84, 3) := by decide +kernel
theorem dX9_isOpen_16 : decode cX9_isOpen 16 = .ok (.ifCond .eq 7, 3) := by decide +kernel
theorem dX9_isOpen_19 : decode cX9_isOpen 19 = .ok (.iconst 1, 1) := by decide +kernel
theorem dX9_isOpen_20 : decode cX9_isOpen 20 = .ok (.goto 4, 3) := by decide +kernel
theorem dX9_sourcePart_0 : decode cX9_sourcePart 0 = .ok (.aload_n 0, 1) := by decide +kernel
theorem dX9_sourcePart_1 : decode cX9_sourcePart 1 = .ok (.getfield 23, 3) := by decide +kernel
theorem dX9_sourcePart_4 : decode cX9_sourcePart 4 = .ok (.tableswitch 76 1 12 #[64, 76, 64, 68, 74, 76, 68, 76, 74, 68, 68, 64], 64) := by decide +kernel
theorem dX9_sourcePart_80 : decode cX9_sourcePart 80 = .ok (.iconst 0, 1) := by decide +kernel
theorem dX9_sourcePart_81 : decode cX9_sourcePart 81 = .ok (.ireturn, 1) := by decide +kernel
theorem dX9_sourcePart_68 : decode cX9_sourcePart 68 = .ok (.sipush 255, 3) := by decide +kernel
theorem dX9_sourcePart_71 : decode cX9_sourcePart 71 = .ok (.ireturn, 1) := by decide +kernel
theorem dX9_sourcePart_72 : decode cX9_sourcePart 72 = .ok (.sipush 255, 3) := by decide +kernel
theorem dX9_sourcePart_75 : decode cX9_sourcePart 75 = .ok (.iload_n 2, 1) := by decide +kernel
theorem dX9_sourcePart_76 : decode cX9_sourcePart 76 = .ok (.isub, 1) := by decide +kernel
theorem dX9_sourcePart_77 : decode cX9_sourcePart 77 = .ok (.ireturn, 1) := by decide +kernel
theorem dX9_sourcePart_78 : decode cX9_sourcePart 78 = .ok (.iload_n 2, 1) := by decide +kernel
theorem dX9_sourcePart_79 : decode cX9_sourcePart 79 = .ok (.ireturn, 1) := by decide +kernel
theorem dX9_otherPart_0 : decode cX9_otherPart 0 = .ok (.aload_n 0, 1) := by decide +kernel
theorem dX9_otherPart_1 : decode cX9_otherPart 1 = .ok (.getfield 23, 3) := by decide +kernel
theorem dX9_otherPart_4 : decode cX9_otherPart 4 = .ok (.tableswitch 72 2 12 #[60, 64, 60, 72, 70, 72, 64, 64, 70, 64, 60], 60) := by decide +kernel
theorem dX9_otherPart_76 : decode cX9_otherPart 76 = .ok (.iconst 0, 1) := by decide +kernel
theorem dX9_otherPart_77 : decode cX9_otherPart 77 = .ok (.ireturn, 1) := by decide +kernel
theorem dX9_otherPart_64 : decode cX9_otherPart 64 = .ok (.sipush 255, 3) := by decide +kernel
theorem dX9_otherPart_67 : decode cX9_otherPart 67 = .ok (.ireturn, 1) := by decide +kernel
theorem dX9_otherPart_68 : decode cX9_otherPart 68 = .ok (.sipush 255, 3) := by decide +kernel
theorem dX9_otherPart_71 : decode cX9_otherPart 71 = .ok (.iload_n 1, 1) := by decide +kernel
theorem dX9_otherPart_72 : decode cX9_otherPart 72 = .ok (.isub, 1) := by decide +kernel
theorem dX9_otherPart_73 : decode cX9_otherPart 73 = .ok (.ireturn, 1) := by decide +kernel
theorem dX9_otherPart_74 : decode cX9_otherPart 74 = .ok (.iload_n 1, 1) := by decide +kernel
theorem dX9_otherPart_75 : decode cX9_otherPart 75 = .ok (.ireturn, 1) := by decide +kernel
theorem dX9_laid_0 : decode cX9_laid 0 = .ok (.aload_n 0, 1) := by decide +kernel
theorem dX9_laid_1 : decode cX9_laid 1 = .ok (.iload_n 1, 1) := by decide +kernel
theorem dX9_laid_2 : decode cX9_laid 2 = .ok (.iconst 0, 1) := by decide +kernel
theorem dX9_laid_3 : decode cX9_laid 3 = .ok (.invokestatic 88, 3) := by decide +kernel
theorem dX9_laid_6 : decode cX9_laid 6 = .ok (.iload_n 2, 1) := by decide +kernel
theorem dX9_laid_7 : decode cX9_laid 7 = .ok (.iconst 0, 1) := by decide +kernel
theorem dX9_laid_8 : decode cX9_laid 8 = .ok (.invokestatic 88, 3) := by decide +kernel
theorem dX9_laid_11 : decode cX9_laid 11 = .ok (.invokevirtual 95, 3) := by decide +kernel
theorem dX9_laid_14 : decode cX9_laid 14 = .ok (.istore 4, 2) := by decide +kernel
theorem dX9_laid_16 : decode cX9_laid 16 = .ok (.aload_n 0, 1) := by decide +kernel
theorem dX9_laid_17 : decode cX9_laid 17 = .ok (.iload_n 1, 1) := by decide +kernel
theorem dX9_laid_18 : decode cX9_laid 18 = .ok (.iconst 0, 1) := by decide +kernel
theorem dX9_laid_19 : decode cX9_laid 19 = .ok (.invokestatic 88, 3) := by decide +kernel
theorem dX9_laid_22 : decode cX9_laid 22 = .ok (.iload_n 2, 1) := by decide +kernel
theorem dX9_laid_23 : decode cX9_laid 23 = .ok (.iconst 0, 1) := by decide +kernel
theorem dX9_laid_24 : decode cX9_laid 24 = .ok (.invokestatic 88, 3) := by decide +kernel
theorem dX9_laid_27 : decode cX9_laid 27 = .ok (.invokevirtual 98, 3) := by decide +kernel
theorem dX9_laid_30 : decode cX9_laid 30 = .ok (.istore 5, 2) := by decide +kernel
theorem dX9_laid_32 : decode cX9_laid 32 = .ok (.iconst 0, 1) := by decide +kernel
theorem dX9_laid_33 : decode cX9_laid 33 = .ok (.istore 6, 2) := by decide +kernel
theorem dX9_laid_35 : decode cX9_laid 35 = .ok (.iconst 0, 1) := by decide +kernel
theorem dX9_laid_36 : decode cX9_laid 36 = .ok (.istore 7, 2) := by decide +kernel
theorem dX9_laid_38 : decode cX9_laid 38 = .ok (.iload 7, 2) := by decide +kernel
theorem dX9_laid_40 : decode cX9_laid 40 = .ok (.iconst 4, 1) := by decide +kernel
theorem dX9_laid_41 : decode cX9_laid 41 = .ok (.if_icmp .ge 80, 3) := by decide +kernel
theorem dX9_laid_44 : decode cX9_laid 44 = .ok (.iload_n 1, 1) := by decide +kernel
theorem dX9_laid_45 : decode cX9_laid 45 = .ok (.iload 7, 2) := by decide +kernel
theorem dX9_laid_47 : decode cX9_laid 47 = .ok (.invokestatic 88, 3) := by decide +kernel
theorem dX9_laid_50 : decode cX9_laid 50 = .ok (.iload 4, 2) := by decide +kernel
theorem dX9_laid_52 : decode cX9_laid 52 = .ok (.imul, 1) := by decide +kernel
theorem dX9_laid_53 : decode cX9_laid 53 = .ok (.iload_n 2, 1) := by decide +kernel
theorem dX9_laid_54 : decode cX9_laid 54 = .ok (.iload 7, 2) := by decide +kernel
theorem dX9_laid_56 : decode cX9_laid 56 = .ok (.invokestatic 88, 3) := by decide +kernel
theorem dX9_laid_59 : decode cX9_laid 59 = .ok (.iload 5, 2) := by decide +kernel
theorem dX9_laid_61 : decode cX9_laid 61 = .ok (.imul, 1) := by decide +kernel
theorem dX9_laid_62 : decode cX9_laid 62 = .ok (.iadd, 1) := by decide +kernel
theorem dX9_laid_63 : decode cX9_laid 63 = .ok (.sipush 255, 3) := by decide +kernel
theorem dX9_laid_66 : decode cX9_laid 66 = .ok (.invokestatic 92, 3) := by decide +kernel
theorem dX9_laid_69 : decode cX9_laid 69 = .ok (.istore 8, 2) := by decide +kernel
theorem dX9_laid_84 : decode cX9_laid 84 = .ok (.iload 6, 2) := by decide +kernel
theorem dX9_laid_86 : decode cX9_laid 86 = .ok (.bipush 8, 2) := by decide +kernel
theorem dX9_laid_88 : decode cX9_laid 88 = .ok (.ishl, 1) := by decide +kernel
theorem dX9_laid_89 : decode cX9_laid 89 = .ok (.iload 8, 2) := by decide +kernel
theorem dX9_laid_91 : decode cX9_laid 91 = .ok (.iload_n 3, 1) := by decide +kernel
theorem dX9_laid_92 : decode cX9_laid 92 = .ok (.imul, 1) := by decide +kernel
theorem dX9_laid_93 : decode cX9_laid 93 = .ok (.iload_n 2, 1) := by decide +kernel
theorem dX9_laid_94 : decode cX9_laid 94 = .ok (.iload 7, 2) := by decide +kernel
theorem dX9_laid_96 : decode cX9_laid 96 = .ok (.invokestatic 88, 3) := by decide +kernel
theorem dX9_laid_99 : decode cX9_laid 99 = .ok (.sipush 255, 3) := by decide +kernel
theorem dX9_laid_102 : decode cX9_laid 102 = .ok (.iload_n 3, 1) := by decide +kernel
theorem dX9_laid_103 : decode cX9_laid 103 = .ok (.isub, 1) := by decide +kernel
theorem dX9_laid_104 : decode cX9_laid 104 = .ok (.imul, 1) := by decide +kernel
theorem dX9_laid_105 : decode cX9_laid 105 = .ok (.iadd, 1) := by decide +kernel
theorem dX9_laid_106 : decode cX9_laid 106 = .ok (.sipush 255, 3) := by decide +kernel
theorem dX9_laid_109 : decode cX9_laid 109 = .ok (.invokestatic 92, 3) := by decide +kernel
theorem dX9_laid_112 : decode cX9_laid 112 = .ok (.ior, 1) := by decide +kernel
theorem dX9_laid_113 : decode cX9_laid 113 = .ok (.istore 6, 2) := by decide +kernel
theorem dX9_laid_115 : decode cX9_laid 115 = .ok (.iinc 7 1, 3) := by decide +kernel
theorem dX9_laid_118 : decode cX9_laid 118 = .ok (.goto (-80), 3) := by decide +kernel
theorem dX9_laid_121 : decode cX9_laid 121 = .ok (.iload 6, 2) := by decide +kernel
theorem dX9_laid_123 : decode cX9_laid 123 = .ok (.ireturn, 1) := by decide +kernel
theorem dX9_laid_71 : decode cX9_laid 71 = .ok (.iload 8, 2) := by decide +kernel
theorem dX9_laid_73 : decode cX9_laid 73 = .ok (.sipush 255, 3) := by decide +kernel
theorem dX9_laid_76 : decode cX9_laid 76 = .ok (.if_icmp .le 8, 3) := by decide +kernel
theorem dX9_laid_79 : decode cX9_laid 79 = .ok (.sipush 255, 3) := by decide +kernel
theorem dX9_laid_82 : decode cX9_laid 82 = .ok (.istore 8, 2) := by decide +kernel
theorem dX9_begins_0 : decode cX9_begins 0 = .ok (.iconst 0, 1) := by decide +kernel
theorem dX9_begins_1 : decode cX9_begins 1 = .ok (.istore_n 1, 1) := by decide +kernel
theorem dX9_begins_2 : decode cX9_begins 2 = .ok (.iload_n 1, 1) := by decide +kernel
theorem dX9_begins_3 : decode cX9_begins 3 = .ok (.sipush 4096, 3) := by decide +kernel
theorem dX9_begins_6 : decode cX9_begins 6 = .ok (.if_icmp .ge 16, 3) := by decide +kernel
theorem dX9_begins_22 : decode cX9_begins 22 = .ok (.return_, 1) := by decide +kernel
theorem dX9_begins_9 : decode cX9_begins 9 = .ok (.aload_n 0, 1) := by decide +kernel
theorem dX9_begins_10 : decode cX9_begins 10 = .ok (.getfield 33, 3) := by decide +kernel
theorem dX9_begins_13 : decode cX9_begins 13 = .ok (.iload_n 1, 1) := by decide +kernel
theorem dX9_begins_14 : decode cX9_begins 14 = .ok (.iconst 0, 1) := by decide +kernel
theorem dX9_begins_15 : decode cX9_begins 15 = .ok (.bastore, 1) := by decide +kernel
theorem dX9_begins_16 : decode cX9_begins 16 = .ok (.iinc 1 1, 3) := by decide +kernel
theorem dX9_begins_19 : decode cX9_begins 19 = .ok (.goto (-17), 3) := by decide +kernel
theorem dX9_marks_0 : decode cX9_marks 0 = .ok (.aload_n 0, 1) := by decide +kernel
theorem dX9_marks_1 : decode cX9_marks 1 = .ok (.iload_n 1, 1) := by decide +kernel
theorem dX9_marks_2 : decode cX9_marks 2 = .ok (.iload_n 2, 1) := by decide +kernel
theorem dX9_marks_3 : decode cX9_marks 3 = .ok (.iload_n 3, 1) := by decide +kernel
theorem dX9_marks_4 : decode cX9_marks 4 = .ok (.invokevirtual 101, 3) := by decide +kernel
theorem dX9_marks_7 : decode cX9_marks 7 = .ok (.ifCond .ne 4, 3) := by decide +kernel
theorem dX9_marks_11 : decode cX9_marks 11 = .ok (.bipush 64, 2) := by decide +kernel
theorem dX9_marks_13 : decode cX9_marks 13 = .ok (.iload_n 3, 1) := by decide +kernel
theorem dX9_marks_14 : decode cX9_marks 14 = .ok (.imul, 1) := by decide +kernel
theorem dX9_marks_15 : decode cX9_marks 15 = .ok (.iload_n 2, 1) := by decide +kernel
theorem dX9_marks_16 : decode cX9_marks 16 = .ok (.iadd, 1) := by decide +kernel
theorem dX9_marks_17 : decode cX9_marks 17 = .ok (.istore 6, 2) := by decide +kernel
theorem dX9_marks_19 : decode cX9_marks 19 = .ok (.aload_n 0, 1) := by decide +kernel
theorem dX9_marks_20 : decode cX9_marks 20 = .ok (.getfield 33, 3) := by decide +kernel
theorem dX9_marks_23 : decode cX9_marks 23 = .ok (.iload 6, 2) := by decide +kernel
theorem dX9_marks_25 : decode cX9_marks 25 = .ok (.iconst 1, 1) := by decide +kernel
theorem dX9_marks_26 : decode cX9_marks 26 = .ok (.bastore, 1) := by decide +kernel
theorem dX9_marks_27 : decode cX9_marks 27 = .ok (.aload_n 0, 1) := by decide +kernel
theorem dX9_marks_28 : decode cX9_marks 28 = .ok (.getfield 37, 3) := by decide +kernel
theorem dX9_marks_31 : decode cX9_marks 31 = .ok (.iload 6, 2) := by decide +kernel
theorem dX9_marks_33 : decode cX9_marks 33 = .ok (.iload 5, 2) := by decide +kernel
theorem dX9_marks_35 : decode cX9_marks 35 = .ok (.iastore, 1) := by decide +kernel
theorem dX9_marks_36 : decode cX9_marks 36 = .ok (.aload_n 0, 1) := by decide +kernel
theorem dX9_marks_37 : decode cX9_marks 37 = .ok (.getfield 40, 3) := by decide +kernel
theorem dX9_marks_40 : decode cX9_marks 40 = .ok (.iload 6, 2) := by decide +kernel
theorem dX9_marks_42 : decode cX9_marks 42 = .ok (.iload 4, 2) := by decide +kernel
theorem dX9_marks_44 : decode cX9_marks 44 = .ok (.iastore, 1) := by decide +kernel
theorem dX9_marks_45 : decode cX9_marks 45 = .ok (.return_, 1) := by decide +kernel
theorem dX9_marks_10 : decode cX9_marks 10 = .ok (.return_, 1) := by decide +kernel
theorem dX9_lays_0 : decode cX9_lays 0 = .ok (.iconst 0, 1) := by decide +kernel
theorem dX9_lays_1 : decode cX9_lays 1 = .ok (.istore_n 2, 1) := by decide +kernel
theorem dX9_lays_2 : decode cX9_lays 2 = .ok (.iconst 0, 1) := by decide +kernel
theorem dX9_lays_3 : decode cX9_lays 3 = .ok (.istore_n 3, 1) := by decide +kernel
theorem dX9_lays_4 : decode cX9_lays 4 = .ok (.iload_n 3, 1) := by decide +kernel
theorem dX9_lays_5 : decode cX9_lays 5 = .ok (.sipush 4096, 3) := by decide +kernel
theorem dX9_lays_8 : decode cX9_lays 8 = .ok (.if_icmp .ge 65, 3) := by decide +kernel
theorem dX9_lays_73 : decode cX9_lays 73 = .ok (.iload_n 2, 1) := by decide +kernel
theorem dX9_lays_74 : decode cX9_lays 74 = .ok (.ireturn, 1) := by decide +kernel
theorem dX9_lays_11 : decode cX9_lays 11 = .ok (.aload_n 0, 1) := by decide +kernel
theorem dX9_lays_12 : decode cX9_lays 12 = .ok (.getfield 33, 3) := by decide +kernel
theorem dX9_lays_15 : decode cX9_lays 15 = .ok (.iload_n 3, 1) := by decide +kernel
theorem dX9_lays_16 : decode cX9_lays 16 = .ok (.baload, 1) := by decide +kernel
theorem dX9_lays_17 : decode cX9_lays 17 = .ok (.ifCond .ne 6, 3) := by decide +kernel
theorem dX9_lays_23 : decode cX9_lays 23 = .ok (.aload_n 0, 1) := by decide +kernel
theorem dX9_lays_24 : decode cX9_lays 24 = .ok (.getfield 16, 3) := by decide +kernel
theorem dX9_lays_27 : decode cX9_lays 27 = .ok (.sipush 4096, 3) := by decide +kernel
theorem dX9_lays_30 : decode cX9_lays 30 = .ok (.iload_n 1, 1) := by decide +kernel
theorem dX9_lays_31 : decode cX9_lays 31 = .ok (.imul, 1) := by decide +kernel
theorem dX9_lays_32 : decode cX9_lays 32 = .ok (.iload_n 3, 1) := by decide +kernel
theorem dX9_lays_33 : decode cX9_lays 33 = .ok (.iadd, 1) := by decide +kernel
theorem dX9_lays_34 : decode cX9_lays 34 = .ok (.aload_n 0, 1) := by decide +kernel
theorem dX9_lays_35 : decode cX9_lays 35 = .ok (.aload_n 0, 1) := by decide +kernel
theorem dX9_lays_36 : decode cX9_lays 36 = .ok (.getfield 40, 3) := by decide +kernel
theorem dX9_lays_39 : decode cX9_lays 39 = .ok (.iload_n 3, 1) := by decide +kernel
theorem dX9_lays_40 : decode cX9_lays 40 = .ok (.iaload, 1) := by decide +kernel
theorem dX9_lays_41 : decode cX9_lays 41 = .ok (.aload_n 0, 1) := by decide +kernel
theorem dX9_lays_42 : decode cX9_lays 42 = .ok (.getfield 16, 3) := by decide +kernel
theorem dX9_lays_45 : decode cX9_lays 45 = .ok (.sipush 4096, 3) := by decide +kernel
theorem dX9_lays_48 : decode cX9_lays 48 = .ok (.iload_n 1, 1) := by decide +kernel
theorem dX9_lays_49 : decode cX9_lays 49 = .ok (.imul, 1) := by decide +kernel
theorem dX9_lays_50 : decode cX9_lays 50 = .ok (.iload_n 3, 1) := by decide +kernel
theorem dX9_lays_51 : decode cX9_lays 51 = .ok (.iadd, 1) := by decide +kernel
theorem dX9_lays_52 : decode cX9_lays 52 = .ok (.iaload, 1) := by decide +kernel
theorem dX9_lays_53 : decode cX9_lays 53 = .ok (.aload_n 0, 1) := by decide +kernel
theorem dX9_lays_54 : decode cX9_lays 54 = .ok (.getfield 37, 3) := by decide +kernel
theorem dX9_lays_57 : decode cX9_lays 57 = .ok (.iload_n 3, 1) := by decide +kernel
theorem dX9_lays_58 : decode cX9_lays 58 = .ok (.iaload, 1) := by decide +kernel
theorem dX9_lays_59 : decode cX9_lays 59 = .ok (.invokevirtual 104, 3) := by decide +kernel
theorem dX9_lays_62 : decode cX9_lays 62 = .ok (.iastore, 1) := by decide +kernel
theorem dX9_lays_63 : decode cX9_lays 63 = .ok (.iload_n 2, 1) := by decide +kernel
theorem dX9_lays_64 : decode cX9_lays 64 = .ok (.iconst 1, 1) := by decide +kernel
theorem dX9_lays_65 : decode cX9_lays 65 = .ok (.iadd, 1) := by decide +kernel
theorem dX9_lays_66 : decode cX9_lays 66 = .ok (.istore_n 2, 1) := by decide +kernel
theorem dX9_lays_67 : decode cX9_lays 67 = .ok (.iinc 3 1, 3) := by decide +kernel
theorem dX9_lays_70 : decode cX9_lays 70 = .ok (.goto (-66), 3) := by decide +kernel
theorem dX9_lays_20 : decode cX9_lays 20 = .ok (.goto 47, 3) := by decide +kernel
end
section
def bigW_1 : List Cond := [Cond.code yX8_isWithin cX8_isWithin 3 (some .boolean), Cond.initialized RX8, Cond.methodLink RX8 79 yX8_isWithin, Cond.static yX8_isWithin, Cond.code yX8_channel cX8_channel 2 (some .int), Cond.methodLink RX8 215 yX8_channel, Cond.static yX8_channel, Cond.code yX8_shareOfFull cX8_shareOfFull 1 (some .int), Cond.methodLink RX8 218 yX8_shareOfFull, Cond.static yX8_shareOfFull, Cond.fieldLink RX5 15 "DotBench$Sheet" "width" "I", Cond.fieldLink RX5 19 "DotBench$Sheet" "height" "I", Cond.code yX5_has cX5_has 3 (some .boolean), Cond.initialized RX5, Cond.methodLink RX5 34 yX5_has, Cond.instanceMethod yX5_has, Cond.selects RX5 yX5_has yX5_has, Cond.fieldLink RX5 9 "DotBench$Sheet" "dots" "[I", Cond.code yJ7_fill_53178 cJ7_fill_53178 4 none, Cond.initialized RJ7, Cond.methodLink RX5 22 yJ7_fill_53178, Cond.static yJ7_fill_53178, Cond.fieldLink RX0 9 "DotBench$Box" "x0" "I", Cond.fieldLink RX0 18 "DotBench$Box" "x1" "I", Cond.fieldLink RX0 15 "DotBench$Box" "y0" "I", Cond.fieldLink RX0 21 "DotBench$Box" "y1" "I", Cond.fieldLink RX1 22 "DotBench$Brush" "way" "I", Cond.fieldLink RX1 25 "DotBench$Brush" "opacity" "I", Cond.code yX1_weightOfSource cX1_weightOfSource 2 (some .int), Cond.initialized RX1, Cond.methodLink RX1 52 yX1_weightOfSource, Cond.instanceMethod yX1_weightOfSource, Cond.selects RX1 yX1_weightOfSource yX1_weightOfSource, Cond.code yX1_weightOfThere cX1_weightOfThere 2 (some .int), Cond.methodLink RX1 56 yX1_weightOfThere, Cond.instanceMethod yX1_weightOfThere, Cond.selects RX1 yX1_weightOfThere yX1_weightOfThere, Cond.methodLink RX1 62 Lib.Math.min.name, Cond.static Lib.Math.min.name, Cond.initialized "java/lang/Math"]
theorem bigW_1_in : GoodIn lw_tbl bigW_1 := goodIn_r _ [202, 31, 200, 201, 236, 234, 235, 239, 237, 238, 209, 211, 286, 38, 295, 284, 285, 208, 226, 39, 224, 225, 67, 69, 68, 70, 84, 86, 304, 32, 301, 303, 2, 308, 305, 307, 3, 310, 311, 40] (by decide +kernel) (by decide +kernel)
def bigW_2 : List Cond := [Cond.code Lib.Math.min.name Lib.Math.min.code 2 (some .int), Cond.methodLink RX1 28 yX5_has, Cond.fieldLink RX1 12 "DotBench$Brush" "clip" "LDotBench$Box;", Cond.code yX0_holds cX0_holds 3 (some .boolean), Cond.initialized RX0, Cond.methodLink RX1 34 yX0_holds, Cond.instanceMethod yX0_holds, Cond.selects RX0 yX0_holds yX0_holds, Cond.code yX5_at cX5_at 3 (some .int), Cond.methodLink RX1 37 yX5_at, Cond.instanceMethod yX5_at, Cond.selects RX5 yX5_at yX5_at, Cond.code yX1_laid cX1_laid 10 (some .int), Cond.methodLink RX1 41 yX1_laid, Cond.instanceMethod yX1_laid, Cond.selects RX1 yX1_laid yX1_laid, Cond.code yX5_put cX5_put 4 none, Cond.methodLink RX1 45 yX5_put, Cond.instanceMethod yX5_put, Cond.selects RX5 yX5_put yX5_put, Cond.code yX9_channel cX9_channel 2 (some .int), Cond.initialized RX9, Cond.methodLink RX9 88 yX9_channel, Cond.static yX9_channel, Cond.code yX9_nearest cX9_nearest 2 (some .int), Cond.methodLink RX9 92 yX9_nearest, Cond.static yX9_nearest, Cond.fieldLink RX9 7 "DotBenchModel" "wide" "[I", Cond.fieldLink RX9 13 "DotBenchModel" "high" "[I", Cond.fieldLink RX9 64 "DotBenchModel" "isClipped" "Z", Cond.fieldLink RX9 68 "DotBenchModel" "clipX0" "I", Cond.fieldLink RX9 71 "DotBenchModel" "clipX1" "I", Cond.fieldLink RX9 74 "DotBenchModel" "clipY0" "I", Cond.fieldLink RX9 77 "DotBenchModel" "clipY1" "I", Cond.code yX9_isOn cX9_isOn 4 (some .boolean), Cond.methodLink RX9 80 yX9_isOn, Cond.instanceMethod yX9_isOn, Cond.selects RX9 yX9_isOn yX9_isOn, Cond.code yX9_isInClip cX9_isInClip 3 (some .boolean), Cond.methodLink RX9 84 yX9_isInClip]
theorem bigW_2_in : GoodIn lw_tbl bigW_2 := goodIn_r _ [312, 283, 80, 290, 33, 287, 288, 289, 294, 291, 292, 293, 299, 296, 298, 1, 316, 313, 314, 315, 653, 37, 651, 652, 656, 654, 655, 569, 570, 575, 576, 577, 578, 579, 701, 698, 700, 18, 705, 702] (by decide +kernel) (by decide +kernel)
def bigW_3 : List Cond := [Cond.instanceMethod yX9_isInClip, Cond.selects RX9 yX9_isInClip yX9_isInClip, Cond.fieldLink RX9 23 "DotBenchModel" "way" "I", Cond.code yX9_sourcePart cX9_sourcePart 3 (some .int), Cond.methodLink RX9 95 yX9_sourcePart, Cond.instanceMethod yX9_sourcePart, Cond.selects RX9 yX9_sourcePart yX9_sourcePart, Cond.code yX9_otherPart cX9_otherPart 3 (some .int), Cond.methodLink RX9 98 yX9_otherPart, Cond.instanceMethod yX9_otherPart, Cond.selects RX9 yX9_otherPart yX9_otherPart, Cond.fieldLink RX9 33 "DotBenchModel" "marked" "[Z", Cond.code yX9_isOpen cX9_isOpen 4 (some .boolean), Cond.methodLink RX9 101 yX9_isOpen, Cond.instanceMethod yX9_isOpen, Cond.selects RX9 yX9_isOpen yX9_isOpen, Cond.fieldLink RX9 37 "DotBenchModel" "measure" "[I", Cond.fieldLink RX9 40 "DotBenchModel" "value" "[I", Cond.fieldLink RX9 16 "DotBenchModel" "dots" "[I", Cond.code yX9_laid cX9_laid 9 (some .int), Cond.methodLink RX9 104 yX9_laid, Cond.instanceMethod yX9_laid, Cond.selects RX9 yX9_laid yX9_laid, Cond.lays "DotBench$Box" "DotBench$Box" "x0" "I", Cond.lays "DotBench$Box" "DotBench$Box" "y0" "I", Cond.lays "DotBench$Box" "DotBench$Box" "x1" "I", Cond.lays "DotBench$Box" "DotBench$Box" "y1" "I", Cond.laysFinal "DotBench$Brush" "DotBench$Brush" "clip" "LDotBench$Box;", Cond.lays "DotBench$Brush" "DotBench$Brush" "ink" "I", Cond.lays "DotBench$Brush" "DotBench$Brush" "way" "I", Cond.lays "DotBench$Brush" "DotBench$Brush" "opacity" "I", Cond.laysFinal "DotBench$Sheet" "DotBench$Sheet" "dots" "[I", Cond.lays "DotBench$Sheet" "DotBench$Sheet" "width" "I", Cond.lays "DotBench$Sheet" "DotBench$Sheet" "height" "I", Cond.laysFinal "DotBenchModel" "DotBenchModel" "wide" "[I", Cond.laysFinal "DotBenchModel" "DotBenchModel" "high" "[I", Cond.laysFinal "DotBenchModel" "DotBenchModel" "dots" "[I", Cond.lays "DotBenchModel" "DotBenchModel" "ink" "I", Cond.lays "DotBenchModel" "DotBenchModel" "way" "I", Cond.lays "DotBenchModel" "DotBenchModel" "opacity" "I"]
theorem bigW_3_in : GoodIn lw_tbl bigW_3 := goodIn_r _ [704, 19, 573, 717, 714, 716, 22, 721, 718, 720, 23, 581, 697, 694, 696, 17, 582, 583, 571, 713, 710, 712, 21, 71, 73, 75, 77, 88, 90, 92, 94, 213, 215, 217, 592, 594, 596, 598, 600, 602] (by decide +kernel) (by decide +kernel)
def bigW_4 : List Cond := [Cond.lays "DotBenchModel" "DotBenchModel" "isClipped" "Z", Cond.lays "DotBenchModel" "DotBenchModel" "clipX0" "I", Cond.lays "DotBenchModel" "DotBenchModel" "clipX1" "I", Cond.lays "DotBenchModel" "DotBenchModel" "clipY0" "I", Cond.lays "DotBenchModel" "DotBenchModel" "clipY1" "I", Cond.lays "DotBenchModel" "DotBenchModel" "dash" "I", Cond.laysFinal "DotBenchModel" "DotBenchModel" "marked" "[Z", Cond.laysFinal "DotBenchModel" "DotBenchModel" "measure" "[I", Cond.laysFinal "DotBenchModel" "DotBenchModel" "value" "[I", Cond.laysFinal "DotBenchModel" "DotBenchModel" "pathX" "[I", Cond.laysFinal "DotBenchModel" "DotBenchModel" "pathY" "[I", Cond.laysFinal "DotBenchModel" "DotBenchModel" "pathFirst" "[Z", Cond.lays "DotBenchModel" "DotBenchModel" "points" "I", Cond.laysFinal "DotBenchModel" "DotBenchModel" "cornerX" "[I", Cond.laysFinal "DotBenchModel" "DotBenchModel" "cornerY" "[I", Cond.laysFinal "DotBenchModel" "DotBenchModel" "cornerInk" "[I", Cond.laysFinal "DotBenchModel" "DotBenchModel" "wait" "[I"]
theorem bigW_4_in : GoodIn lw_tbl bigW_4 := goodIn_r _ [604, 606, 608, 610, 612, 614, 616, 618, 620, 622, 624, 626, 628, 630, 632, 634, 636] (by decide +kernel) (by decide +kernel)
def bigW : List Cond := bigW_1 ++ (bigW_2 ++ (bigW_3 ++ (bigW_4)))
theorem bigW_in : GoodIn lw_tbl bigW := goodIn_app bigW_1_in (goodIn_app bigW_2_in (goodIn_app bigW_3_in (bigW_4_in)))
theorem bigW_good : bigW.all goodWord = true := by decide +kernel
theorem bw_0 : Cond.code yX8_isWithin cX8_isWithin 3 (some .boolean) ∈ bigW := List.mem_append_left _ (List.mem_of_getElem? (i := 0) rfl)
theorem bw_1 : Cond.initialized RX8 ∈ bigW := List.mem_append_left _ (List.mem_of_getElem? (i := 1) rfl)
theorem bw_2 : Cond.methodLink RX8 79 yX8_isWithin ∈ bigW := List.mem_append_left _ (List.mem_of_getElem? (i := 2) rfl)
theorem bw_3 : Cond.static yX8_isWithin ∈ bigW := List.mem_append_left _ (List.mem_of_getElem? (i := 3) rfl)
theorem bw_4 : Cond.code yX8_channel cX8_channel 2 (some .int) ∈ bigW := List.mem_append_left _ (List.mem_of_getElem? (i := 4) rfl)
theorem bw_5 : Cond.methodLink RX8 215 yX8_channel ∈ bigW := List.mem_append_left _ (List.mem_of_getElem? (i := 5) rfl)
theorem bw_6 : Cond.static yX8_channel ∈ bigW := List.mem_append_left _ (List.mem_of_getElem? (i := 6) rfl)
theorem bw_7 : Cond.code yX8_shareOfFull cX8_shareOfFull 1 (some .int) ∈ bigW := List.mem_append_left _ (List.mem_of_getElem? (i := 7) rfl)
theorem bw_8 : Cond.methodLink RX8 218 yX8_shareOfFull ∈ bigW := List.mem_append_left _ (List.mem_of_getElem? (i := 8) rfl)
theorem bw_9 : Cond.static yX8_shareOfFull ∈ bigW := List.mem_append_left _ (List.mem_of_getElem? (i := 9) rfl)
theorem bw_10 : Cond.fieldLink RX5 15 "DotBench$Sheet" "width" "I" ∈ bigW := List.mem_append_left _ (List.mem_of_getElem? (i := 10) rfl)
theorem bw_11 : Cond.fieldLink RX5 19 "DotBench$Sheet" "height" "I" ∈ bigW := List.mem_append_left _ (List.mem_of_getElem? (i := 11) rfl)
theorem bw_12 : Cond.code yX5_has cX5_has 3 (some .boolean) ∈ bigW := List.mem_append_left _ (List.mem_of_getElem? (i := 12) rfl)
theorem bw_13 : Cond.initialized RX5 ∈ bigW := List.mem_append_left _ (List.mem_of_getElem? (i := 13) rfl)
theorem bw_14 : Cond.methodLink RX5 34 yX5_has ∈ bigW := List.mem_append_left _ (List.mem_of_getElem? (i := 14) rfl)
theorem bw_15 : Cond.instanceMethod yX5_has ∈ bigW := List.mem_append_left _ (List.mem_of_getElem? (i := 15) rfl)
theorem bw_16 : Cond.selects RX5 yX5_has yX5_has ∈ bigW := List.mem_append_left _ (List.mem_of_getElem? (i := 16) rfl)
theorem bw_17 : Cond.fieldLink RX5 9 "DotBench$Sheet" "dots" "[I" ∈ bigW := List.mem_append_left _ (List.mem_of_getElem? (i := 17) rfl)
theorem bw_18 : Cond.code yJ7_fill_53178 cJ7_fill_53178 4 none ∈ bigW := List.mem_append_left _ (List.mem_of_getElem? (i := 18) rfl)
theorem bw_19 : Cond.initialized RJ7 ∈ bigW := List.mem_append_left _ (List.mem_of_getElem? (i := 19) rfl)
theorem bw_20 : Cond.methodLink RX5 22 yJ7_fill_53178 ∈ bigW := List.mem_append_left _ (List.mem_of_getElem? (i := 20) rfl)
theorem bw_21 : Cond.static yJ7_fill_53178 ∈ bigW := List.mem_append_left _ (List.mem_of_getElem? (i := 21) rfl)
theorem bw_22 : Cond.fieldLink RX0 9 "DotBench$Box" "x0" "I" ∈ bigW := List.mem_append_left _ (List.mem_of_getElem? (i := 22) rfl)
theorem bw_23 : Cond.fieldLink RX0 18 "DotBench$Box" "x1" "I" ∈ bigW := List.mem_append_left _ (List.mem_of_getElem? (i := 23) rfl)
theorem bw_24 : Cond.fieldLink RX0 15 "DotBench$Box" "y0" "I" ∈ bigW := List.mem_append_left _ (List.mem_of_getElem? (i := 24) rfl)
theorem bw_25 : Cond.fieldLink RX0 21 "DotBench$Box" "y1" "I" ∈ bigW := List.mem_append_left _ (List.mem_of_getElem? (i := 25) rfl)
theorem bw_26 : Cond.fieldLink RX1 22 "DotBench$Brush" "way" "I" ∈ bigW := List.mem_append_left _ (List.mem_of_getElem? (i := 26) rfl)
theorem bw_27 : Cond.fieldLink RX1 25 "DotBench$Brush" "opacity" "I" ∈ bigW := List.mem_append_left _ (List.mem_of_getElem? (i := 27) rfl)
theorem bw_28 : Cond.code yX1_weightOfSource cX1_weightOfSource 2 (some .int) ∈ bigW := List.mem_append_left _ (List.mem_of_getElem? (i := 28) rfl)
theorem bw_29 : Cond.initialized RX1 ∈ bigW := List.mem_append_left _ (List.mem_of_getElem? (i := 29) rfl)
theorem bw_30 : Cond.methodLink RX1 52 yX1_weightOfSource ∈ bigW := List.mem_append_left _ (List.mem_of_getElem? (i := 30) rfl)
theorem bw_31 : Cond.instanceMethod yX1_weightOfSource ∈ bigW := List.mem_append_left _ (List.mem_of_getElem? (i := 31) rfl)
theorem bw_32 : Cond.selects RX1 yX1_weightOfSource yX1_weightOfSource ∈ bigW := List.mem_append_left _ (List.mem_of_getElem? (i := 32) rfl)
theorem bw_33 : Cond.code yX1_weightOfThere cX1_weightOfThere 2 (some .int) ∈ bigW := List.mem_append_left _ (List.mem_of_getElem? (i := 33) rfl)
theorem bw_34 : Cond.methodLink RX1 56 yX1_weightOfThere ∈ bigW := List.mem_append_left _ (List.mem_of_getElem? (i := 34) rfl)
theorem bw_35 : Cond.instanceMethod yX1_weightOfThere ∈ bigW := List.mem_append_left _ (List.mem_of_getElem? (i := 35) rfl)
theorem bw_36 : Cond.selects RX1 yX1_weightOfThere yX1_weightOfThere ∈ bigW := List.mem_append_left _ (List.mem_of_getElem? (i := 36) rfl)
theorem bw_37 : Cond.methodLink RX1 62 Lib.Math.min.name ∈ bigW := List.mem_append_left _ (List.mem_of_getElem? (i := 37) rfl)
theorem bw_38 : Cond.static Lib.Math.min.name ∈ bigW := List.mem_append_left _ (List.mem_of_getElem? (i := 38) rfl)
theorem bw_39 : Cond.initialized "java/lang/Math" ∈ bigW := List.mem_append_left _ (List.mem_of_getElem? (i := 39) rfl)
theorem bw_40 : Cond.code Lib.Math.min.name Lib.Math.min.code 2 (some .int) ∈ bigW := List.mem_append_right _ (List.mem_append_left _ (List.mem_of_getElem? (i := 0) rfl))
theorem bw_41 : Cond.methodLink RX1 28 yX5_has ∈ bigW := List.mem_append_right _ (List.mem_append_left _ (List.mem_of_getElem? (i := 1) rfl))
theorem bw_42 : Cond.fieldLink RX1 12 "DotBench$Brush" "clip" "LDotBench$Box;" ∈ bigW := List.mem_append_right _ (List.mem_append_left _ (List.mem_of_getElem? (i := 2) rfl))
theorem bw_43 : Cond.code yX0_holds cX0_holds 3 (some .boolean) ∈ bigW := List.mem_append_right _ (List.mem_append_left _ (List.mem_of_getElem? (i := 3) rfl))
theorem bw_44 : Cond.initialized RX0 ∈ bigW := List.mem_append_right _ (List.mem_append_left _ (List.mem_of_getElem? (i := 4) rfl))
theorem bw_45 : Cond.methodLink RX1 34 yX0_holds ∈ bigW := List.mem_append_right _ (List.mem_append_left _ (List.mem_of_getElem? (i := 5) rfl))
theorem bw_46 : Cond.instanceMethod yX0_holds ∈ bigW := List.mem_append_right _ (List.mem_append_left _ (List.mem_of_getElem? (i := 6) rfl))
theorem bw_47 : Cond.selects RX0 yX0_holds yX0_holds ∈ bigW := List.mem_append_right _ (List.mem_append_left _ (List.mem_of_getElem? (i := 7) rfl))
theorem bw_48 : Cond.code yX5_at cX5_at 3 (some .int) ∈ bigW := List.mem_append_right _ (List.mem_append_left _ (List.mem_of_getElem? (i := 8) rfl))
theorem bw_49 : Cond.methodLink RX1 37 yX5_at ∈ bigW := List.mem_append_right _ (List.mem_append_left _ (List.mem_of_getElem? (i := 9) rfl))
theorem bw_50 : Cond.instanceMethod yX5_at ∈ bigW := List.mem_append_right _ (List.mem_append_left _ (List.mem_of_getElem? (i := 10) rfl))
theorem bw_51 : Cond.selects RX5 yX5_at yX5_at ∈ bigW := List.mem_append_right _ (List.mem_append_left _ (List.mem_of_getElem? (i := 11) rfl))
theorem bw_52 : Cond.code yX1_laid cX1_laid 10 (some .int) ∈ bigW := List.mem_append_right _ (List.mem_append_left _ (List.mem_of_getElem? (i := 12) rfl))
theorem bw_53 : Cond.methodLink RX1 41 yX1_laid ∈ bigW := List.mem_append_right _ (List.mem_append_left _ (List.mem_of_getElem? (i := 13) rfl))
theorem bw_54 : Cond.instanceMethod yX1_laid ∈ bigW := List.mem_append_right _ (List.mem_append_left _ (List.mem_of_getElem? (i := 14) rfl))
theorem bw_55 : Cond.selects RX1 yX1_laid yX1_laid ∈ bigW := List.mem_append_right _ (List.mem_append_left _ (List.mem_of_getElem? (i := 15) rfl))
theorem bw_56 : Cond.code yX5_put cX5_put 4 none ∈ bigW := List.mem_append_right _ (List.mem_append_left _ (List.mem_of_getElem? (i := 16) rfl))
theorem bw_57 : Cond.methodLink RX1 45 yX5_put ∈ bigW := List.mem_append_right _ (List.mem_append_left _ (List.mem_of_getElem? (i := 17) rfl))
theorem bw_58 : Cond.instanceMethod yX5_put ∈ bigW := List.mem_append_right _ (List.mem_append_left _ (List.mem_of_getElem? (i := 18) rfl))
theorem bw_59 : Cond.selects RX5 yX5_put yX5_put ∈ bigW := List.mem_append_right _ (List.mem_append_left _ (List.mem_of_getElem? (i := 19) rfl))
theorem bw_60 : Cond.code yX9_channel cX9_channel 2 (some .int) ∈ bigW := List.mem_append_right _ (List.mem_append_left _ (List.mem_of_getElem? (i := 20) rfl))
theorem bw_61 : Cond.initialized RX9 ∈ bigW := List.mem_append_right _ (List.mem_append_left _ (List.mem_of_getElem? (i := 21) rfl))
theorem bw_62 : Cond.methodLink RX9 88 yX9_channel ∈ bigW := List.mem_append_right _ (List.mem_append_left _ (List.mem_of_getElem? (i := 22) rfl))
theorem bw_63 : Cond.static yX9_channel ∈ bigW := List.mem_append_right _ (List.mem_append_left _ (List.mem_of_getElem? (i := 23) rfl))
theorem bw_64 : Cond.code yX9_nearest cX9_nearest 2 (some .int) ∈ bigW := List.mem_append_right _ (List.mem_append_left _ (List.mem_of_getElem? (i := 24) rfl))
theorem bw_65 : Cond.methodLink RX9 92 yX9_nearest ∈ bigW := List.mem_append_right _ (List.mem_append_left _ (List.mem_of_getElem? (i := 25) rfl))
theorem bw_66 : Cond.static yX9_nearest ∈ bigW := List.mem_append_right _ (List.mem_append_left _ (List.mem_of_getElem? (i := 26) rfl))
theorem bw_67 : Cond.fieldLink RX9 7 "DotBenchModel" "wide" "[I" ∈ bigW := List.mem_append_right _ (List.mem_append_left _ (List.mem_of_getElem? (i := 27) rfl))
theorem bw_68 : Cond.fieldLink RX9 13 "DotBenchModel" "high" "[I" ∈ bigW := List.mem_append_right _ (List.mem_append_left _ (List.mem_of_getElem? (i := 28) rfl))
theorem bw_69 : Cond.fieldLink RX9 64 "DotBenchModel" "isClipped" "Z" ∈ bigW := List.mem_append_right _ (List.mem_append_left _ (List.mem_of_getElem? (i := 29) rfl))
theorem bw_70 : Cond.fieldLink RX9 68 "DotBenchModel" "clipX0" "I" ∈ bigW := List.mem_append_right _ (List.mem_append_left _ (List.mem_of_getElem? (i := 30) rfl))
theorem bw_71 : Cond.fieldLink RX9 71 "DotBenchModel" "clipX1" "I" ∈ bigW := List.mem_append_right _ (List.mem_append_left _ (List.mem_of_getElem? (i := 31) rfl))
theorem bw_72 : Cond.fieldLink RX9 74 "DotBenchModel" "clipY0" "I" ∈ bigW := List.mem_append_right _ (List.mem_append_left _ (List.mem_of_getElem? (i := 32) rfl))
theorem bw_73 : Cond.fieldLink RX9 77 "DotBenchModel" "clipY1" "I" ∈ bigW := List.mem_append_right _ (List.mem_append_left _ (List.mem_of_getElem? (i := 33) rfl))
theorem bw_74 : Cond.code yX9_isOn cX9_isOn 4 (some .boolean) ∈ bigW := List.mem_append_right _ (List.mem_append_left _ (List.mem_of_getElem? (i := 34) rfl))
theorem bw_75 : Cond.methodLink RX9 80 yX9_isOn ∈ bigW := List.mem_append_right _ (List.mem_append_left _ (List.mem_of_getElem? (i := 35) rfl))
theorem bw_76 : Cond.instanceMethod yX9_isOn ∈ bigW := List.mem_append_right _ (List.mem_append_left _ (List.mem_of_getElem? (i := 36) rfl))
theorem bw_77 : Cond.selects RX9 yX9_isOn yX9_isOn ∈ bigW := List.mem_append_right _ (List.mem_append_left _ (List.mem_of_getElem? (i := 37) rfl))
theorem bw_78 : Cond.code yX9_isInClip cX9_isInClip 3 (some .boolean) ∈ bigW := List.mem_append_right _ (List.mem_append_left _ (List.mem_of_getElem? (i := 38) rfl))
theorem bw_79 : Cond.methodLink RX9 84 yX9_isInClip ∈ bigW := List.mem_append_right _ (List.mem_append_left _ (List.mem_of_getElem? (i := 39) rfl))
theorem bw_80 : Cond.instanceMethod yX9_isInClip ∈ bigW := List.mem_append_right _ (List.mem_append_right _ (List.mem_append_left _ (List.mem_of_getElem? (i := 0) rfl)))
theorem bw_81 : Cond.selects RX9 yX9_isInClip yX9_isInClip ∈ bigW := List.mem_append_right _ (List.mem_append_right _ (List.mem_append_left _ (List.mem_of_getElem? (i := 1) rfl)))
theorem bw_82 : Cond.fieldLink RX9 23 "DotBenchModel" "way" "I" ∈ bigW := List.mem_append_right _ (List.mem_append_right _ (List.mem_append_left _ (List.mem_of_getElem? (i := 2) rfl)))
theorem bw_83 : Cond.code yX9_sourcePart cX9_sourcePart 3 (some .int) ∈ bigW := List.mem_append_right _ (List.mem_append_right _ (List.mem_append_left _ (List.mem_of_getElem? (i := 3) rfl)))
theorem bw_84 : Cond.methodLink RX9 95 yX9_sourcePart ∈ bigW := List.mem_append_right _ (List.mem_append_right _ (List.mem_append_left _ (List.mem_of_getElem? (i := 4) rfl)))
theorem bw_85 : Cond.instanceMethod yX9_sourcePart ∈ bigW := List.mem_append_right _ (List.mem_append_right _ (List.mem_append_left _ (List.mem_of_getElem? (i := 5) rfl)))
theorem bw_86 : Cond.selects RX9 yX9_sourcePart yX9_sourcePart ∈ bigW := List.mem_append_right _ (List.mem_append_right _ (List.mem_append_left _ (List.mem_of_getElem? (i := 6) rfl)))
theorem bw_87 : Cond.code yX9_otherPart cX9_otherPart 3 (some .int) ∈ bigW := List.mem_append_right _ (List.mem_append_right _ (List.mem_append_left _ (List.mem_of_getElem? (i := 7) rfl)))
theorem bw_88 : Cond.methodLink RX9 98 yX9_otherPart ∈ bigW := List.mem_append_right _ (List.mem_append_right _ (List.mem_append_left _ (List.mem_of_getElem? (i := 8) rfl)))
theorem bw_89 : Cond.instanceMethod yX9_otherPart ∈ bigW := List.mem_append_right _ (List.mem_append_right _ (List.mem_append_left _ (List.mem_of_getElem? (i := 9) rfl)))
theorem bw_90 : Cond.selects RX9 yX9_otherPart yX9_otherPart ∈ bigW := List.mem_append_right _ (List.mem_append_right _ (List.mem_append_left _ (List.mem_of_getElem? (i := 10) rfl)))
theorem bw_91 : Cond.fieldLink RX9 33 "DotBenchModel" "marked" "[Z" ∈ bigW := List.mem_append_right _ (List.mem_append_right _ (List.mem_append_left _ (List.mem_of_getElem? (i := 11) rfl)))
theorem bw_92 : Cond.code yX9_isOpen cX9_isOpen 4 (some .boolean) ∈ bigW := List.mem_append_right _ (List.mem_append_right _ (List.mem_append_left _ (List.mem_of_getElem? (i := 12) rfl)))
theorem bw_93 : Cond.methodLink RX9 101 yX9_isOpen ∈ bigW := List.mem_append_right _ (List.mem_append_right _ (List.mem_append_left _ (List.mem_of_getElem? (i := 13) rfl)))
theorem bw_94 : Cond.instanceMethod yX9_isOpen ∈ bigW := List.mem_append_right _ (List.mem_append_right _ (List.mem_append_left _ (List.mem_of_getElem? (i := 14) rfl)))
theorem bw_95 : Cond.selects RX9 yX9_isOpen yX9_isOpen ∈ bigW := List.mem_append_right _ (List.mem_append_right _ (List.mem_append_left _ (List.mem_of_getElem? (i := 15) rfl)))
theorem bw_96 : Cond.fieldLink RX9 37 "DotBenchModel" "measure" "[I" ∈ bigW := List.mem_append_right _ (List.mem_append_right _ (List.mem_append_left _ (List.mem_of_getElem? (i := 16) rfl)))
theorem bw_97 : Cond.fieldLink RX9 40 "DotBenchModel" "value" "[I" ∈ bigW := List.mem_append_right _ (List.mem_append_right _ (List.mem_append_left _ (List.mem_of_getElem? (i := 17) rfl)))
theorem bw_98 : Cond.fieldLink RX9 16 "DotBenchModel" "dots" "[I" ∈ bigW := List.mem_append_right _ (List.mem_append_right _ (List.mem_append_left _ (List.mem_of_getElem? (i := 18) rfl)))
theorem bw_99 : Cond.code yX9_laid cX9_laid 9 (some .int) ∈ bigW := List.mem_append_right _ (List.mem_append_right _ (List.mem_append_left _ (List.mem_of_getElem? (i := 19) rfl)))
theorem bw_100 : Cond.methodLink RX9 104 yX9_laid ∈ bigW := List.mem_append_right _ (List.mem_append_right _ (List.mem_append_left _ (List.mem_of_getElem? (i := 20) rfl)))
theorem bw_101 : Cond.instanceMethod yX9_laid ∈ bigW := List.mem_append_right _ (List.mem_append_right _ (List.mem_append_left _ (List.mem_of_getElem? (i := 21) rfl)))
theorem bw_102 : Cond.selects RX9 yX9_laid yX9_laid ∈ bigW := List.mem_append_right _ (List.mem_append_right _ (List.mem_append_left _ (List.mem_of_getElem? (i := 22) rfl)))
theorem hi_X0 : ∀ w ∈ u_ws RX0 TX0 4, w ∈ bigW := by decide +kernel
theorem hi_X1 : ∀ w ∈ u_ws RX1 TX1 4, w ∈ bigW := by decide +kernel
theorem hi_X5 : ∀ w ∈ u_ws RX5 TX5 3, w ∈ bigW := by decide +kernel
theorem hi_X9 : ∀ w ∈ u_ws RX9 TX9 23, w ∈ bigW := by decide +kernel
end
section
/-! ===== Int32 by its bits: bt x i ===== -/
def bt (x : Int32) (i : Nat) : Bool := x.toBitVec.getLsbD i
theorem b_ext {x y : Int32} (h : ∀ i, i < 32 → bt x i = bt y i) : x = y := Int32.toBitVec_inj.mp (BitVec.eq_of_getLsbD_eq (fun i hi => h i hi))
theorem b_or (x y : Int32) (i : Nat) : bt (x ||| y) i = (bt x i || bt y i) := by unfold bt; rw [Int32.toBitVec_or, BitVec.getLsbD_or]
theorem b_and (x y : Int32) (i : Nat) : bt (x &&& y) i = (bt x i && bt y i) := by unfold bt; rw [Int32.toBitVec_and, BitVec.getLsbD_and]
theorem b_xor (x y : Int32) (i : Nat) : bt (x ^^^ y) i = (bt x i ^^ bt y i) := by unfold bt; rw [Int32.toBitVec_xor, BitVec.getLsbD_xor]
theorem b_big {x : Int32} {i : Nat} (h : 32 ≤ i) : bt x i = false := BitVec.getLsbD_of_ge _ _ h
theorem b_255 (i : Nat) : bt 255 i = decide (i < 8) := by
  rcases Nat.lt_or_ge i 32 with h | h
  · exact (by decide +kernel : ∀ i, i < 32 → bt 255 i = decide (i < 8)) i h
  · rw [b_big h, decide_eq_false (by omega)]
theorem b_65535 (i : Nat) : bt 65535 i = decide (i < 16) := by
  rcases Nat.lt_or_ge i 32 with h | h
  · exact (by decide +kernel : ∀ i, i < 32 → bt 65535 i = decide (i < 16)) i h
  · rw [b_big h, decide_eq_false (by omega)]
theorem b_m1 : ∀ i, i < 32 → bt (-1) i = true := by decide +kernel
theorem b_0 (i : Nat) : bt 0 i = false := BitVec.getLsbD_zero
theorem s_l : ∀ n, n < 32 → ((nI n &&& 31).toBitVec.smod 32).toNat = n := by decide +kernel
theorem s_u : ∀ n, n < 32 → (((nI n).toUInt32 &&& Int32.toUInt32 31).toBitVec % 32).toNat = n := by decide +kernel
theorem b_shl (n : Nat) (hn : n < 32) (x : Int32) {i : Nat} (hi : i < 32) : bt (x <<< (nI n &&& 31)) i = (decide (n ≤ i) && bt x (i - n)) := by
  unfold bt
  rw [Int32.toBitVec_shiftLeft]
  show (x.toBitVec <<< ((nI n &&& 31).toBitVec.smod 32).toNat).getLsbD i = _
  rw [s_l n hn, BitVec.getLsbD_shiftLeft]
  rcases Nat.lt_or_ge i n with h | h
  · simp [h, Nat.not_le.mpr h]
  · simp [hi, h, Nat.not_lt.mpr h]
theorem b_ushr (n : Nat) (hn : n < 32) (x : Int32) (i : Nat) : bt ((x.toUInt32 >>> ((nI n).toUInt32 &&& Int32.toUInt32 31)).toInt32) i = bt x (n + i) := by
  show (x.toUInt32 >>> ((nI n).toUInt32 &&& Int32.toUInt32 31)).toBitVec.getLsbD i = x.toUInt32.toBitVec.getLsbD (n + i)
  rw [UInt32.toBitVec_shiftRight]
  show (x.toUInt32.toBitVec >>> (((nI n).toUInt32 &&& Int32.toUInt32 31).toBitVec % 32).toNat).getLsbD i = _
  rw [s_u n hn, BitVec.getLsbD_ushiftRight]
theorem b_sshr (n : Nat) (hn : n < 32) (x : Int32) {i : Nat} (hi : i < 32) : bt (x >>> (nI n &&& 31)) i = if n + i < 32 then bt x (n + i) else bt x 31 := by
  unfold bt
  rw [Int32.toBitVec_shiftRight]
  show (x.toBitVec.sshiftRight ((nI n &&& 31).toBitVec.smod 32).toNat).getLsbD i = _
  rw [s_l n hn, BitVec.getLsbD_sshiftRight, BitVec.msb_eq_getLsbD_last]
  simp [hi]
theorem b_shl8 (x : Int32) {i : Nat} (hi : i < 32) : bt (x <<< ((8 : Int32) &&& 31)) i = (decide (8 ≤ i) && bt x (i - 8)) := b_shl 8 (by omega) x hi
theorem b_shl16 (x : Int32) {i : Nat} (hi : i < 32) : bt (x <<< ((16 : Int32) &&& 31)) i = (decide (16 ≤ i) && bt x (i - 16)) := b_shl 16 (by omega) x hi
theorem b_shl24 (x : Int32) {i : Nat} (hi : i < 32) : bt (x <<< ((24 : Int32) &&& 31)) i = (decide (24 ≤ i) && bt x (i - 24)) := b_shl 24 (by omega) x hi
theorem b_sshr8 (x : Int32) {i : Nat} (hi : i < 32) : bt (x >>> ((8 : Int32) &&& 31)) i = if 8 + i < 32 then bt x (8 + i) else bt x 31 := b_sshr 8 (by omega) x hi
end
section
abbrev wB (y : MethodName) (b : ByteArray) (n : Nat) (r : Option FieldType) : List Cond := Cond.code y b n r :: bigW
theorem bigG : ∀ w ∈ bigW, (w.onTables && w.keeps) = true ∨ ∃ ty, w = .arrayClass ty := fun w h => good_of_word (List.all_eq_true.mp bigW_good w h)
theorem gI {y : MethodName} {b : ByteArray} {n : Nat} {r : Option FieldType} (h : Cond.code y b n r ∈ bigW) : GoodIn bigW (wB y b n r) := fun w hw => (List.mem_cons.mp hw).elim (fun e => e ▸ ⟨h, bigG _ h⟩) (fun h1 => ⟨h1, bigG _ h1⟩)
theorem gS {own : String} {i : Nat} {y : MethodName} {b : ByteArray} {n : Nat} {r : Option FieldType} (h1 : Cond.methodLink own i y ∈ bigW) (h2 : Cond.static y ∈ bigW) (h3 : Cond.initialized y.cls ∈ bigW) (h4 : Cond.code y b n r ∈ bigW) : GoodIn bigW (va_wsS own i y (wB y b n r)) := by
  intro w hw
  rcases List.mem_append.mp hw with h | h
  · simp only [List.mem_cons, List.not_mem_nil, or_false] at h
    rcases h with rfl | rfl | rfl
    · exact ⟨h1, bigG _ h1⟩
    · exact ⟨h2, bigG _ h2⟩
    · exact ⟨h3, bigG _ h3⟩
  · exact gI h4 w h
theorem gV {own C : String} {i : Nat} {y : MethodName} {b : ByteArray} {n : Nat} {r : Option FieldType} (h1 : Cond.methodLink own i y ∈ bigW) (h2 : Cond.instanceMethod y ∈ bigW) (h3 : Cond.selects C y y ∈ bigW) (h5 : Cond.initialized C ∈ bigW) (h4 : Cond.code y b n r ∈ bigW) : GoodIn bigW (wsV own i C y (wB y b n r)) := by
  intro w hw
  rcases List.mem_append.mp hw with h | h
  · simp only [List.mem_cons, List.not_mem_nil, or_false] at h
    rcases h with rfl | rfl | rfl | rfl
    · exact ⟨h1, bigG _ h1⟩
    · exact ⟨h2, bigG _ h2⟩
    · exact ⟨h3, bigG _ h3⟩
    · exact ⟨h5, bigG _ h5⟩
  · exact gI h4 w h
/-! what every contract here speaks of: the words between nest mates, the start, the end -/
def nF : List (String × Nat × String × String × String × String) := []
def nM : List (String × Nat × MethodName × String) := [(RX1, 49, yX8_channel, RX8), (RX1, 59, yX8_shareOfFull, RX8)]
def nW (U : State) : Prop := (∀ q ∈ nF, va_Nw (.fieldLinkNest q.1 q.2.1 q.2.2.1 q.2.2.2.1 q.2.2.2.2.1 q.2.2.2.2.2) U) ∧ (∀ q ∈ nM, va_Nw (.methodLinkNest q.1 q.2.1 q.2.2.1 q.2.2.2) U) ∧ va_AO RX5 U
theorem nW_warm {s U : State} (hW : s.WarmedH U.vm) (h : nW s) : nW U := ⟨fun q hq => (h.1 q hq).warmF hW, fun q hq => (h.2.1 q hq).warmM hW, va_AO.moved hW.alike h.2.2⟩
theorem nW_call {U : State} (g : JFrame) (mk : MethodId) (a : Array Value) (h : nW U) : nW (U.calling g mk a) := ⟨fun q hq => va_Nw.same (u := U) (U := U.calling g mk a) rfl rfl (h.1 q hq), fun q hq => va_Nw.same (u := U) (U := U.calling g mk a) rfl rfl (h.2.1 q hq), va_AO.moved (u := U) (U := U.calling g mk a) (Vm.Alike.refl U.vm) h.2.2⟩
def cP (D : va_G) (W : va_W) (T : List (ClassId × FieldType)) (sz : Nat) (as : List Value) : Array Value → State → Prop := va_Pc as (fun U => U.heap.size = sz ∧ va_P D vwCl W U.heap ∧ va_K D vwCl T U ∧ va_D (fun _ => True) W ∧ nW U)
def cB (D : va_G) (A : Nat → Prop) (W : va_W) (T : List (ClassId × FieldType)) (t : State) : Prop := va_P D vwCl W t.heap ∧ va_K D vwCl T t ∧ va_D A W
theorem cP_blind {D : va_G} {W : va_W} {T : List (ClassId × FieldType)} {sz : Nat} {as : List Value} : FrameBlind (cP D W T sz as) := fun a U g mk q => by
  obtain ⟨q0, q1, qP, qK, qD, qN⟩ := q
  exact ⟨q0, q1, qP, va_K.moved (u := U) (U := U.calling g mk a) (Vm.Alike.refl U.vm) qK, qD, nW_call g mk a qN⟩
theorem cP_at {D : va_G} {W : va_W} {T : List (ClassId × FieldType)} {as : List Value} {H : Heap} {s : State} {A : Nat → Prop} (hP : va_P D vwCl W H) (hK : va_K D vwCl T s) (hD : va_D A W) (hN : nW s) : ∀ U : State, U.heap = H → s.WarmedH U.vm → cP D W T H.size as as.toArray U :=
  fun U hU hW => ⟨rfl, by rw [hU], by rw [hU]; exact hP, va_K.moved hW.alike hK, hD.weaken (fun _ _ _ _ => trivial), nW_warm hW hN⟩
theorem vP_nil {D : va_G} {H : Heap} : va_P D vwCl [] H := fun k q h => by simp at h
theorem vD_nil {A : Nat → Prop} : va_D A [] := ⟨fun i j p q h => by simp at h, fun k q h => by simp at h⟩
section MyRows
variable {p : Program} {l : Launch} {e : Env} {R : Room} {s : State} {m : MethodId} {args : Array Value} {below : List Frame} {meth : Method} {c : Code} {H : Heap} {locs : List Loc} {cells slots : Nat} {Q : State → Prop} {pc : Nat} {ls : Array Slot} {rest : List Value}
theorem my_fold {x v : Int32} (h : x = v) (k : W p l e R s m args below meth c H locs cells slots Q (F0 m pc ls (.int v :: rest))) : W p l e R s m args below meth c H locs cells slots Q (F0 m pc ls (.int x :: rest)) := by
  rw [h]
  exact k
theorem my_topv {x v : Value} (h : x = v) (k : W p l e R s m args below meth c H locs cells slots Q (F0 m pc ls (v :: rest))) : W p l e R s m args below meth c H locs cells slots Q (F0 m pc ls (x :: rest)) := by
  rw [h]
  exact k
end MyRows
theorem my_abs {p : Program} {l : Launch} {e : Env} {R0 : Room} {s : State} {m : MethodId} {args : Array Value} {below : List Frame} {meth : Method} {c : Code} {H : Heap} {locs : List Loc} {cells slots : Nat} {Q0 : State → Prop} {g : JFrame} (h : ∀ (R : Room) (Q : State → Prop), R = R0 → (∀ (H : Heap) (locs : List Loc) (cells slots : Nat) (g : JFrame), W p l e R s m args below meth c H locs cells slots Q0 g → W p l e R s m args below meth c H locs cells slots Q g) → W p l e R s m args below meth c H locs cells slots Q g) : W p l e R0 s m args below meth c H locs cells slots Q0 g := h R0 Q0 rfl (fun _ _ _ _ _ k => k)
theorem my_sameI {D : va_G} {cl : List vw_C} {tys : List (ClassId × FieldType)} {s : State} {a b : ClassId} (hK : va_K D cl tys s) (i j : Nat) (hi : tys[i]? = some (a, .int)) (hj : tys[j]? = some (b, .int)) : a = b := by
  have h1 : va_RA s a .int := (hK.2 i _ hi).2
  have h2 : va_RA s b .int := (hK.2 j _ hj).2
  exact Option.some.inj (h1.symm.trans h2)
theorem my_sameZ {D : va_G} {cl : List vw_C} {tys : List (ClassId × FieldType)} {s : State} {a b : ClassId} (hK : va_K D cl tys s) (i j : Nat) (hi : tys[i]? = some (a, .boolean)) (hj : tys[j]? = some (b, .boolean)) : a = b := by
  have h1 : va_RA s a .boolean := (hK.2 i _ hi).2
  have h2 : va_RA s b .boolean := (hK.2 j _ hj).2
  exact Option.some.inj (h1.symm.trans h2)
theorem my_in {i : Int32} {n : Nat} (h1 : ¬ i < 0) (h2 : ¬ n ≤ i.toNatClampNeg) : vp_in i n := fun h => h.elim h1 h2
theorem f_eq {x y : Int32} {a b : Int} (hx : x.toInt = a) (hy : y.toInt = b) (h : x = y) : a = b := by rw [← hx, ← hy, h]
theorem fn_eq {x y : Int32} {a b : Int} (hx : x.toInt = a) (hy : y.toInt = b) (h : ¬ x = y) : ¬ a = b := fun q => h (Int32.toInt_inj.mp (by rw [hx, hy, q]))
theorem f_lt {x y : Int32} {a b : Int} (hx : x.toInt = a) (hy : y.toInt = b) (h : x < y) : a < b := by rw [← hx, ← hy]; exact Int32.lt_iff_toInt_lt.mp h
theorem f_le {x y : Int32} {a b : Int} (hx : x.toInt = a) (hy : y.toInt = b) (h : x ≤ y) : a ≤ b := by rw [← hx, ← hy]; exact Int32.le_iff_toInt_le.mp h
theorem fn_lt {x y : Int32} {a b : Int} (hx : x.toInt = a) (hy : y.toInt = b) (h : ¬ x < y) : ¬ a < b := by rw [← hx, ← hy]; exact fun q => h (Int32.lt_iff_toInt_lt.mpr q)
theorem fn_le {x y : Int32} {a b : Int} (hx : x.toInt = a) (hy : y.toInt = b) (h : ¬ x ≤ y) : ¬ a ≤ b := by rw [← hx, ← hy]; exact fun q => h (Int32.le_iff_toInt_le.mpr q)
theorem bz0 {r : Int32} {P : Prop} [Decidable P] (h : r = if P then 1 else 0) (h0 : r = 0) : ¬ P := fun hp => by
  rw [if_pos hp] at h
  rw [h] at h0
  exact absurd h0 (by decide)
theorem bz1 {r : Int32} {P : Prop} [Decidable P] (h : r = if P then 1 else 0) (h0 : ¬ r = 0) : P := Decidable.byContradiction (fun hp => by
  rw [if_neg hp] at h
  exact h0 h)
theorem nz_if {r : Int32} {P : Prop} [Decidable P] (h : r = if P then 1 else 0) : narrow .boolean (.int r) = .int r := by
  rw [h]
  split <;> rfl
/-! numbers and colours -/
theorem i_of {x : Int32} {N : Nat} (h0 : 0 ≤ x.toInt) (h1 : x.toInt < N) (hN : N < 2 ^ 31) : ∃ j : Nat, j < N ∧ x = nI j := vp_in_of (vp_in_iff.mpr ⟨h0, h1⟩) hN
/-- the place of a DOT in its row of 4096 -/
def ixP (x y : Int32) : Nat := (y.toInt * 64 + x.toInt).toNat
theorem ix_all {x y : Int32} (h1 : 0 ≤ x.toInt) (h2 : x.toInt < 64) (h3 : 0 ≤ y.toInt) (h4 : y.toInt < 64) : ∃ i : Nat, i < 4096 ∧ y * 64 + x = nI i ∧ 64 * y + x = nI i ∧ ixP x y = i ∧ (i : Int) = y.toInt * 64 + x.toInt := by
  obtain ⟨a, ha, rfl⟩ := i_of (N := 64) h1 (by omega) (by decide)
  obtain ⟨b, hb, rfl⟩ := i_of (N := 64) h3 (by omega) (by decide)
  have ea : (nI a).toInt = (a : Int) := nI_toInt (by omega)
  have eb : (nI b).toInt = (b : Int) := nI_toInt (by omega)
  refine ⟨b * 64 + a, by omega, ?_, ?_, ?_, ?_⟩
  · rw [show (64 : Int32) = nI 64 from rfl, pk_mul, nI_add]
  · rw [show (64 : Int32) = nI 64 from rfl, pk_mul, nI_add, Nat.mul_comm]
  · unfold ixP
    rw [ea, eb]
    omega
  · rw [ea, eb]
    omega
theorem ix_in {x y : Int32} (h1 : 0 ≤ x.toInt) (h2 : x.toInt < 64) (h3 : 0 ≤ y.toInt) (h4 : y.toInt < 64) : vp_in (y * 64 + x) 4096 := by
  obtain ⟨i, hi, e, -⟩ := ix_all h1 h2 h3 h4
  rw [e]
  exact vp_in_nI hi (by decide)
theorem ix_cl {x y : Int32} (h1 : 0 ≤ x.toInt) (h2 : x.toInt < 64) (h3 : 0 ≤ y.toInt) (h4 : y.toInt < 64) : (y * 64 + x).toNatClampNeg = ixP x y := by
  obtain ⟨i, hi, e, -, e2, -⟩ := ix_all h1 h2 h3 h4
  rw [e, e2]
  exact nI_clamp (by omega)
theorem ix_lt {x y : Int32} (h1 : 0 ≤ x.toInt) (h2 : x.toInt < 64) (h3 : 0 ≤ y.toInt) (h4 : y.toInt < 64) : ixP x y < 4096 := by
  obtain ⟨i, hi, -, -, e2, -⟩ := ix_all h1 h2 h3 h4
  rw [e2]
  exact hi
/-- a CHANNEL -/
def chS (v sh : Int32) : Int32 := (v.toUInt32 >>> (sh.toUInt32 &&& Int32.toUInt32 31)).toInt32 &&& 255
/-- R(n, 255) -/
def shP (n : Int32) : Int32 := (2 * n + 255) / 510
def inkP (v : Int32) : Int32 := ((((chS v 24 <<< ((8 : Int32) &&& 31) ||| shP (chS v 16 * chS v 24)) <<< ((8 : Int32) &&& 31)) ||| shP (chS v 8 * chS v 24)) <<< ((8 : Int32) &&& 31)) ||| shP (chS v 0 * chS v 24)
def wSP (w d : Int32) : Int32 := if w = 1 ∨ w = 3 ∨ w = 12 then 255 else if w = 5 ∨ w = 9 then d else if w = 4 ∨ w = 7 ∨ w = 10 ∨ w = 11 then 255 - d else 0
def wTP (w s : Int32) : Int32 := if w = 2 ∨ w = 4 ∨ w = 12 then 255 else if w = 6 ∨ w = 10 then s else if w = 3 ∨ w = 8 ∨ w = 9 ∨ w = 11 then 255 - s else 0
def mnP (v : Int32) : Int32 := if v < 255 then v else 255
/-- one CHANNEL that is LAID -/
def lcP (p q s d m sh : Int32) : Int32 := shP (mnP (shP (chS s sh * p + chS d sh * q)) * m + chS d sh * (255 - m))
def laidP (w s d m : Int32) : Int32 :=
  (((((((0 : Int32) <<< ((8 : Int32) &&& 31) ||| lcP (wSP w (chS d 24)) (wTP w (chS s 24)) s d m 24) <<< ((8 : Int32) &&& 31)) ||| lcP (wSP w (chS d 24)) (wTP w (chS s 24)) s d m 16) <<< ((8 : Int32) &&& 31)) ||| lcP (wSP w (chS d 24)) (wTP w (chS s 24)) s d m 8) <<< ((8 : Int32) &&& 31)) ||| lcP (wSP w (chS d 24)) (wTP w (chS s 24)) s d m 0
theorem fill_up {g : Nat → Int32} {i : Nat} {v x : Int32} (h : ∀ j : Nat, j < i → g j = v) (hx : x.toNatClampNeg = i) : ∀ j : Nat, j < i + 1 → upd g x.toNatClampNeg v j = v := fun j hj => by
  rw [hx]
  by_cases q : j = i
  · rw [q]; exact pk_us
  · rw [pk_un q]; exact h j (by omega)
theorem mnP_le {w : Int32} (h : w.toInt ≤ 255) : mnP w = w := by
  unfold mnP
  split
  · rfl
  · rename_i q
    have h2 : ¬ w.toInt < 255 := fn_lt rfl (by decide) q
    exact Int32.toInt_inj.mp (show (255 : Int32).toInt = w.toInt from (show (255 : Int32).toInt = 255 by decide).trans (by omega))
theorem mnP_gt {w : Int32} (h : 255 < w.toInt) : mnP w = 255 := by
  unfold mnP
  rw [if_neg]
  intro q
  have h2 : w.toInt < 255 := f_lt rfl (by decide) q
  omega
theorem chM (n : Nat) (hn : n ≤ 24) (v : Int32) : v >>> (nI n &&& 31) &&& 255 = chS v (nI n) := b_ext (fun i hi => by
  unfold chS
  rw [b_and, b_and, b_255, b_sshr n (by omega) v hi, b_ushr n (by omega) v i]
  by_cases q : i < 8
  · rw [if_pos (by omega)]
  · simp [q])
theorem chM24 (v : Int32) : v >>> ((24 : Int32) &&& 31) &&& 255 = chS v 24 := chM 24 (by omega) v
theorem chM16 (v : Int32) : v >>> ((16 : Int32) &&& 31) &&& 255 = chS v 16 := chM 16 (by omega) v
theorem chM8 (v : Int32) : v >>> ((8 : Int32) &&& 31) &&& 255 = chS v 8 := chM 8 (by omega) v
theorem chM0 (v : Int32) : v >>> ((0 : Int32) &&& 31) &&& 255 = chS v 0 := chM 0 (by omega) v
theorem zfill_up {g : Nat → Int32} {i : Nat} {x : Int32} (h : ∀ j : Nat, j < i → g j = 0) (hx : x.toNatClampNeg = i) : ∀ j : Nat, j < i + 1 → upd g x.toNatClampNeg (vp_nar .boolean 0) j = 0 := fill_up h hx
theorem ix_in2 {x y : Int32} (h1 : 0 ≤ x.toInt) (h2 : x.toInt < 64) (h3 : 0 ≤ y.toInt) (h4 : y.toInt < 64) : vp_in (64 * y + x) 4096 := by
  obtain ⟨i, hi, -, e, -⟩ := ix_all h1 h2 h3 h4
  rw [e]
  exact vp_in_nI hi (by decide)
theorem ix_cl2 {x y : Int32} (h1 : 0 ≤ x.toInt) (h2 : x.toInt < 64) (h3 : 0 ≤ y.toInt) (h4 : y.toInt < 64) : (64 * y + x).toNatClampNeg = ixP x y := by
  obtain ⟨i, hi, -, e, e2, -⟩ := ix_all h1 h2 h3 h4
  rw [e, e2]
  exact nI_clamp (by omega)
theorem lp_nI (kk i : Nat) : (4096 : Int32) * nI kk + nI i = nI (4096 * kk + i) := by
  rw [show (4096 : Int32) = nI 4096 from rfl, pk_mul, nI_add]
theorem lp_in {kk i : Nat} (h : kk < 4) (h2 : i < 4096) : vp_in ((4096 : Int32) * nI kk + nI i) 16384 := by
  rw [lp_nI]
  exact vp_in_nI (by omega) (by omega)
theorem lp_cl {kk i : Nat} (h : kk < 4) (h2 : i < 4096) : ((4096 : Int32) * nI kk + nI i).toNatClampNeg = 4096 * kk + i := by
  rw [lp_nI]
  exact nI_clamp (by omega)
theorem z_X0 : ∀ j, j < 4 → defaultValue (tyX0 j) = vp_V [.int 0, .int 0, .int 0, .int 0] j := fun j hj => by
  rcases (show j = 0 ∨ j = 1 ∨ j = 2 ∨ j = 3 by omega) with rfl | rfl | rfl | rfl <;> rfl
theorem z_X1 : ∀ j, j < 4 → defaultValue (tyX1 j) = vp_V [.null, .int 0, .int 0, .int 0] j := fun j hj => by
  rcases (show j = 0 ∨ j = 1 ∨ j = 2 ∨ j = 3 by omega) with rfl | rfl | rfl | rfl <;> rfl
theorem z_X2 : ∀ j, j < 4 → defaultValue (tyX2 j) = vp_V [.int 0, .int 0, .int 0, .int 0] j := fun j hj => by
  rcases (show j = 0 ∨ j = 1 ∨ j = 2 ∨ j = 3 by omega) with rfl | rfl | rfl | rfl <;> rfl
theorem z_X3 : ∀ j, j < 7 → defaultValue (tyX3 j) = vp_V [.null, .null, .null, .null, .int 0, .int 0, .int 0] j := fun j hj => by
  rcases (show j = 0 ∨ j = 1 ∨ j = 2 ∨ j = 3 ∨ j = 4 ∨ j = 5 ∨ j = 6 by omega) with rfl | rfl | rfl | rfl | rfl | rfl | rfl <;> rfl
theorem z_X4 : ∀ j, j < 2 → defaultValue (tyX4 j) = vp_V [.null, .null] j := fun j hj => by
  rcases (show j = 0 ∨ j = 1 by omega) with rfl | rfl <;> rfl
theorem z_X5 : ∀ j, j < 3 → defaultValue (tyX5 j) = vp_V [.null, .int 0, .int 0] j := fun j hj => by
  rcases (show j = 0 ∨ j = 1 ∨ j = 2 by omega) with rfl | rfl | rfl <;> rfl
theorem z_X7 : ∀ j, j < 4 → defaultValue (tyX7 j) = vp_V [.null, .null, .null, .null] j := fun j hj => by
  rcases (show j = 0 ∨ j = 1 ∨ j = 2 ∨ j = 3 by omega) with rfl | rfl | rfl | rfl <;> rfl
theorem z_X8 : ∀ j, j < 9 → defaultValue (tyX8 j) = vp_V [.null, .null, .null, .null, .null, .null, .int 0, .null, .null] j := fun j hj => by
  rcases (show j = 0 ∨ j = 1 ∨ j = 2 ∨ j = 3 ∨ j = 4 ∨ j = 5 ∨ j = 6 ∨ j = 7 ∨ j = 8 by omega) with rfl | rfl | rfl | rfl | rfl | rfl | rfl | rfl | rfl <;> rfl
theorem z_X9 : ∀ j, j < 23 → defaultValue (tyX9 j) = vp_V [.null, .null, .null, .int 0, .int 0, .int 0, .int 0, .int 0, .int 0, .int 0, .int 0, .int 0, .null, .null, .null, .null, .null, .null, .int 0, .null, .null, .null, .null] j := fun j hj => by
  rcases (show j = 0 ∨ j = 1 ∨ j = 2 ∨ j = 3 ∨ j = 4 ∨ j = 5 ∨ j = 6 ∨ j = 7 ∨ j = 8 ∨ j = 9 ∨ j = 10 ∨ j = 11 ∨ j = 12 ∨ j = 13 ∨ j = 14 ∨ j = 15 ∨ j = 16 ∨ j = 17 ∨ j = 18 ∨ j = 19 ∨ j = 20 ∨ j = 21 ∨ j = 22 by omega) with rfl | rfl | rfl | rfl | rfl | rfl | rfl | rfl | rfl | rfl | rfl | rfl | rfl | rfl | rfl | rfl | rfl | rfl | rfl | rfl | rfl | rfl | rfl <;> rfl
end
section
set_option maxHeartbeats 4000000 in
set_option maxRecDepth 100000 in
theorem k_X8_isWithin (l : Launch) (D : va_G) (sz : Nat) (n least most : Int32) (A0 B0 : Int) (hA0 : least.toInt = A0) (hB0 : most.toInt = B0) : Met l yX8_isWithin (wB yX8_isWithin cX8_isWithin 3 (some .boolean)) ({ frames := 0, cells := 0, slots := 0, locals := 0 }) (cP D [] [] sz [.int n, .int least, .int most]) (va_Qi (fun (r : Int32) (_ : Unit) => r = if A0 ≤ n.toInt ∧ n.toInt ≤ B0 then 1 else 0) (fun (_ : Unit) (_ : State) => True) (va_A [] sz)) 0 0 (va_A [] sz) := by
  refine Met.ofW (cc := cX8_isWithin) (maxL := 3) (ret := (some .boolean)) (by decide) rfl ?_
  intro p e s m args below meth c s₁ B hml hv
  obtain ⟨rfl, hsz, hP, hK, hD0, hN⟩ := hv
  have hx := B.exec
  have hb := B.bytes
  have hr := B.returns
  have hts0 := atoms_spec (ws := (wB yX8_isWithin cX8_isWithin 3 (some .boolean))) B.pre
  have hts : ∀ w ∈ bigW, w.before _ s = true := fun w h => hts0 w (List.mem_cons_of_mem _ h)
  have hown : s.vm.findClass RX8 = some m.cls := findClass_of_methodNamed B.named
  have hlocks := B.notSynchronized
  subst hsz
  have hD := hD0.self (sz := s.heap.size)
  generalize hAe : va_A [] s.heap.size = A at hD ⊢
  have hA : ∀ q : Nat, s.heap.size ≤ q → A q := fun q h => by rw [← hAe]; exact Or.inr h
  have hS : va_S A s.heap s.heap [] := va_S.rf
  have hP : va_P D vwCl [] s.heap := hP
  have hl := lv_entry ([.int n, .int least, .int most]) (n := 3) (Nat.le_of_ble_eq_true rfl)
  rw [lg_entry_eq]
  generalize (lg_sl ([.int n, .int least, .int most]) ++ List.replicate (3 - (lg_sl ([.int n, .int least, .int most])).length) Slot.unset).toArray = ls at hl ⊢
  have hl : lv_has ls 3 [(0, .int n), (1, .int least), (2, .int most)] := hl
  clear hts0 hD0 hAe
  refine my_abs (fun R Q hR hQ => ?_)
  refine lv_iload_n hx hb dX8_isWithin_0 rfl (lv_at hl 0 rfl) ?_
  refine lv_iload_n hx hb dX8_isWithin_1 rfl (lv_at hl 1 rfl) ?_
  refine lv_icmp_lt (tgt := 14) hx hb dX8_isWithin_2 (by decide) (fun c_1 => ?_) (fun c_1 => ?_)
  · skip
    have f_2 : n.toInt < A0 := f_lt rfl hA0 c_1
    refine lv_iconst (v := 0) hx hb dX8_isWithin_14 (by decide) ?_
    refine hQ _ _ _ _ _ ?_
    exact W.zret (v := 0) hx hb hr rfl (fun t ht hW => ⟨⟨0, (), rfl, (if_neg (by omega)).symm, trivial⟩, hS.F ht⟩) hS.2.2 dX8_isWithin_15
  · skip
    have f_2 : ¬ (n.toInt < A0) := fn_lt rfl hA0 c_1
    refine lv_iload_n hx hb dX8_isWithin_5 rfl (lv_at hl 0 rfl) ?_
    refine lv_iload_n hx hb dX8_isWithin_6 rfl (lv_at hl 2 rfl) ?_
    refine lv_icmp_gt (tgt := 14) hx hb dX8_isWithin_7 (by decide) (fun c_3 => ?_) (fun c_3 => ?_)
    · skip
      have f_4 : B0 < n.toInt := f_lt hB0 rfl c_3
      refine lv_iconst (v := 0) hx hb dX8_isWithin_14 (by decide) ?_
      refine hQ _ _ _ _ _ ?_
      exact W.zret (v := 0) hx hb hr rfl (fun t ht hW => ⟨⟨0, (), rfl, (if_neg (by omega)).symm, trivial⟩, hS.F ht⟩) hS.2.2 dX8_isWithin_15
    · skip
      have f_4 : ¬ (B0 < n.toInt) := fn_lt hB0 rfl c_3
      refine lv_iconst (v := 1) hx hb dX8_isWithin_10 (by decide) ?_
      refine lv_goto (tgt := 15) hx hb dX8_isWithin_11 (by decide) ?_
      refine hQ _ _ _ _ _ ?_
      exact W.zret (v := 1) hx hb hr rfl (fun t ht hW => ⟨⟨1, (), rfl, (if_pos (by omega)).symm, trivial⟩, hS.F ht⟩) hS.2.2 dX8_isWithin_15

set_option maxHeartbeats 4000000 in
set_option maxRecDepth 100000 in
theorem k_X8_isNear (l : Launch) (D : va_G) (sz : Nat) (n far : Int32) (A0 B0 : Int) (hA0 : (-far).toInt = A0) (hB0 : far.toInt = B0) : Met l yX8_isNear (wB yX8_isNear cX8_isNear 2 (some .boolean)) ({ frames := 1, cells := 0, slots := 0, locals := 22 }) (cP D [] [] sz [.int n, .int far]) (va_Qi (fun (r : Int32) (_ : Unit) => r = if A0 ≤ n.toInt ∧ n.toInt ≤ B0 then 1 else 0) (fun (_ : Unit) (_ : State) => True) (va_A [] sz)) 0 0 (va_A [] sz) := by
  refine Met.ofW (cc := cX8_isNear) (maxL := 2) (ret := (some .boolean)) (by decide) rfl ?_
  intro p e s m args below meth c s₁ B hml hv
  obtain ⟨rfl, hsz, hP, hK, hD0, hN⟩ := hv
  have hx := B.exec
  have hb := B.bytes
  have hr := B.returns
  have hts0 := atoms_spec (ws := (wB yX8_isNear cX8_isNear 2 (some .boolean))) B.pre
  have hts : ∀ w ∈ bigW, w.before _ s = true := fun w h => hts0 w (List.mem_cons_of_mem _ h)
  have hown : s.vm.findClass RX8 = some m.cls := findClass_of_methodNamed B.named
  have hlocks := B.notSynchronized
  subst hsz
  have hD := hD0.self (sz := s.heap.size)
  generalize hAe : va_A [] s.heap.size = A at hD ⊢
  have hA : ∀ q : Nat, s.heap.size ≤ q → A q := fun q h => by rw [← hAe]; exact Or.inr h
  have hS : va_S A s.heap s.heap [] := va_S.rf
  have hP : va_P D vwCl [] s.heap := hP
  have hl := lv_entry ([.int n, .int far]) (n := 2) (Nat.le_of_ble_eq_true rfl)
  rw [lg_entry_eq]
  generalize (lg_sl ([.int n, .int far]) ++ List.replicate (2 - (lg_sl ([.int n, .int far])).length) Slot.unset).toArray = ls at hl ⊢
  have hl : lv_has ls 2 [(0, .int n), (1, .int far)] := hl
  clear hts0 hD0 hAe
  refine my_abs (fun R Q hR hQ => ?_)
  refine lv_iload_n hx hb dX8_isNear_0 rfl (lv_at hl 0 rfl) ?_
  refine lv_iload_n hx hb dX8_isNear_1 rfl (lv_at hl 1 rfl) ?_
  refine lv_ineg hx hb dX8_isNear_2 ?_
  refine lv_iload_n hx hb dX8_isNear_3 rfl (lv_at hl 1 rfl) ?_
  have hPc := hP.sub (ws' := []) [] rfl
  have hDc := hD.sub (ws' := []) [] (by decide) rfl
  have hKc := hK.sub (tys' := []) [] rfl
  have hFc := va_free (wc := []) hD hS hA [] rfl
  refine va_calli (va_runS (As := [.int n, .int (-far), .int far]) (rest := []) ⟨hx, hb, hml, hown, hts⟩ (k_X8_isWithin l D s.heap.size n (-far) far A0 B0 hA0 hB0) (va_cwS 3 hts (gS bw_2 bw_3 bw_1 bw_0) rfl rfl rfl (by decide +kernel) ⟨(by rw [hR]; exact Nat.le_of_ble_eq_true rfl), (by rw [hR]; exact Nat.le_of_ble_eq_true rfl)⟩) ⟨cP_blind, cP_at hPc hKc hDc hN⟩ rfl rfl hl.1 rfl (lv_room (Nat.le_of_ble_eq_true rfl)) dX8_isNear_4 ⟨(by rw [hR]; exact Nat.le_of_ble_eq_true rfl), (by rw [hR]; exact Nat.le_of_ble_eq_true rfl)⟩) hS (fun q _ h => hFc q h) hFc (fun r_1 u9 t9 H1 locs ht hvm hr_1 hB hz1 hk1 hS => ?_)
  try dsimp only at hr_1
  have hP1 : va_P D vwCl [] H1 := vP_nil
  have hD1 : va_D (va_A [] s.heap.size) [] := vD_nil
  obtain ⟨hP, hD⟩ := va_join (wr := []) (w1 := []) hP hD [] [] rfl rfl (by decide) (by decide) hk1 hFc hP1 hD1
  clear hz1 hk1 hFc hKc hDc hPc
  generalize H1 = H at hP hS ⊢
  have hP : va_P D vwCl [] H := hP
  have hD : va_D A [] := hD
  refine hQ _ _ _ _ _ ?_
  exact W.zret (v := r_1) hx hb hr (nz_if hr_1) (fun t ht hW => ⟨⟨r_1, (), rfl, hr_1, trivial⟩, hS.F ht⟩) hS.2.2 dX8_isNear_7

set_option maxHeartbeats 4000000 in
set_option maxRecDepth 100000 in
theorem k_X8_isSide (l : Launch) (D : va_G) (sz : Nat) (n : Int32) : Met l yX8_isSide (wB yX8_isSide cX8_isSide 1 (some .boolean)) ({ frames := 1, cells := 0, slots := 0, locals := 22 }) (cP D [] [] sz [.int n]) (va_Qi (fun (r : Int32) (_ : Unit) => r = if 1 ≤ n.toInt ∧ n.toInt ≤ 64 then 1 else 0) (fun (_ : Unit) (_ : State) => True) (va_A [] sz)) 0 0 (va_A [] sz) := by
  refine Met.ofW (cc := cX8_isSide) (maxL := 1) (ret := (some .boolean)) (by decide) rfl ?_
  intro p e s m args below meth c s₁ B hml hv
  obtain ⟨rfl, hsz, hP, hK, hD0, hN⟩ := hv
  have hx := B.exec
  have hb := B.bytes
  have hr := B.returns
  have hts0 := atoms_spec (ws := (wB yX8_isSide cX8_isSide 1 (some .boolean))) B.pre
  have hts : ∀ w ∈ bigW, w.before _ s = true := fun w h => hts0 w (List.mem_cons_of_mem _ h)
  have hown : s.vm.findClass RX8 = some m.cls := findClass_of_methodNamed B.named
  have hlocks := B.notSynchronized
  subst hsz
  have hD := hD0.self (sz := s.heap.size)
  generalize hAe : va_A [] s.heap.size = A at hD ⊢
  have hA : ∀ q : Nat, s.heap.size ≤ q → A q := fun q h => by rw [← hAe]; exact Or.inr h
  have hS : va_S A s.heap s.heap [] := va_S.rf
  have hP : va_P D vwCl [] s.heap := hP
  have hl := lv_entry ([.int n]) (n := 1) (Nat.le_of_ble_eq_true rfl)
  rw [lg_entry_eq]
  generalize (lg_sl ([.int n]) ++ List.replicate (1 - (lg_sl ([.int n])).length) Slot.unset).toArray = ls at hl ⊢
  have hl : lv_has ls 1 [(0, .int n)] := hl
  clear hts0 hD0 hAe
  refine my_abs (fun R Q hR hQ => ?_)
  refine lv_iload_n hx hb dX8_isSide_0 rfl (lv_at hl 0 rfl) ?_
  refine lv_iconst (v := 1) hx hb dX8_isSide_1 (by decide) ?_
  refine lv_bipush (v := 64) hx hb dX8_isSide_2 (by decide) ?_
  have hPc := hP.sub (ws' := []) [] rfl
  have hDc := hD.sub (ws' := []) [] (by decide) rfl
  have hKc := hK.sub (tys' := []) [] rfl
  have hFc := va_free (wc := []) hD hS hA [] rfl
  refine va_calli (va_runS (As := [.int n, .int 1, .int 64]) (rest := []) ⟨hx, hb, hml, hown, hts⟩ (k_X8_isWithin l D s.heap.size n 1 64 1 64 (by decide) (by decide)) (va_cwS 3 hts (gS bw_2 bw_3 bw_1 bw_0) rfl rfl rfl (by decide +kernel) ⟨(by rw [hR]; exact Nat.le_of_ble_eq_true rfl), (by rw [hR]; exact Nat.le_of_ble_eq_true rfl)⟩) ⟨cP_blind, cP_at hPc hKc hDc hN⟩ rfl rfl hl.1 rfl (lv_room (Nat.le_of_ble_eq_true rfl)) dX8_isSide_4 ⟨(by rw [hR]; exact Nat.le_of_ble_eq_true rfl), (by rw [hR]; exact Nat.le_of_ble_eq_true rfl)⟩) hS (fun q _ h => hFc q h) hFc (fun r_1 u9 t9 H1 locs ht hvm hr_1 hB hz1 hk1 hS => ?_)
  try dsimp only at hr_1
  have hP1 : va_P D vwCl [] H1 := vP_nil
  have hD1 : va_D (va_A [] s.heap.size) [] := vD_nil
  obtain ⟨hP, hD⟩ := va_join (wr := []) (w1 := []) hP hD [] [] rfl rfl (by decide) (by decide) hk1 hFc hP1 hD1
  clear hz1 hk1 hFc hKc hDc hPc
  generalize H1 = H at hP hS ⊢
  have hP : va_P D vwCl [] H := hP
  have hD : va_D A [] := hD
  refine hQ _ _ _ _ _ ?_
  exact W.zret (v := r_1) hx hb hr (nz_if hr_1) (fun t ht hW => ⟨⟨r_1, (), rfl, hr_1, trivial⟩, hS.F ht⟩) hS.2.2 dX8_isSide_7

set_option maxHeartbeats 4000000 in
set_option maxRecDepth 100000 in
theorem k_X8_isRule (l : Launch) (D : va_G) (sz : Nat) (n : Int32) : Met l yX8_isRule (wB yX8_isRule cX8_isRule 1 (some .boolean)) ({ frames := 0, cells := 0, slots := 0, locals := 0 }) (cP D [] [] sz [.int n]) (va_Qi (fun (r : Int32) (_ : Unit) => r = if n.toInt = 0 ∨ n.toInt = 1 then 1 else 0) (fun (_ : Unit) (_ : State) => True) (va_A [] sz)) 0 0 (va_A [] sz) := by
  refine Met.ofW (cc := cX8_isRule) (maxL := 1) (ret := (some .boolean)) (by decide) rfl ?_
  intro p e s m args below meth c s₁ B hml hv
  obtain ⟨rfl, hsz, hP, hK, hD0, hN⟩ := hv
  have hx := B.exec
  have hb := B.bytes
  have hr := B.returns
  have hts0 := atoms_spec (ws := (wB yX8_isRule cX8_isRule 1 (some .boolean))) B.pre
  have hts : ∀ w ∈ bigW, w.before _ s = true := fun w h => hts0 w (List.mem_cons_of_mem _ h)
  have hown : s.vm.findClass RX8 = some m.cls := findClass_of_methodNamed B.named
  have hlocks := B.notSynchronized
  subst hsz
  have hD := hD0.self (sz := s.heap.size)
  generalize hAe : va_A [] s.heap.size = A at hD ⊢
  have hA : ∀ q : Nat, s.heap.size ≤ q → A q := fun q h => by rw [← hAe]; exact Or.inr h
  have hS : va_S A s.heap s.heap [] := va_S.rf
  have hP : va_P D vwCl [] s.heap := hP
  have hl := lv_entry ([.int n]) (n := 1) (Nat.le_of_ble_eq_true rfl)
  rw [lg_entry_eq]
  generalize (lg_sl ([.int n]) ++ List.replicate (1 - (lg_sl ([.int n])).length) Slot.unset).toArray = ls at hl ⊢
  have hl : lv_has ls 1 [(0, .int n)] := hl
  clear hts0 hD0 hAe
  refine my_abs (fun R Q hR hQ => ?_)
  refine lv_iload_n hx hb dX8_isRule_0 rfl (lv_at hl 0 rfl) ?_
  refine lv_if_eq (tgt := 9) hx hb dX8_isRule_1 (by decide) (fun c_1 => ?_) (fun c_1 => ?_)
  · skip
    have f_2 : n.toInt = 0 := f_eq rfl (by decide) c_1
    refine lv_iconst (v := 1) hx hb dX8_isRule_9 (by decide) ?_
    refine lv_goto (tgt := 14) hx hb dX8_isRule_10 (by decide) ?_
    refine hQ _ _ _ _ _ ?_
    exact W.zret (v := 1) hx hb hr rfl (fun t ht hW => ⟨⟨1, (), rfl, (if_pos (by omega)).symm, trivial⟩, hS.F ht⟩) hS.2.2 dX8_isRule_14
  · skip
    have f_2 : ¬ (n.toInt = 0) := fn_eq rfl (by decide) c_1
    refine lv_iload_n hx hb dX8_isRule_4 rfl (lv_at hl 0 rfl) ?_
    refine lv_iconst (v := 1) hx hb dX8_isRule_5 (by decide) ?_
    refine lv_icmp_ne (tgt := 13) hx hb dX8_isRule_6 (by decide) (fun c_3 => ?_) (fun c_3 => ?_)
    · skip
      have f_4 : ¬ (n.toInt = 1) := fn_eq rfl (by decide) c_3
      refine lv_iconst (v := 0) hx hb dX8_isRule_13 (by decide) ?_
      refine hQ _ _ _ _ _ ?_
      exact W.zret (v := 0) hx hb hr rfl (fun t ht hW => ⟨⟨0, (), rfl, (if_neg (by omega)).symm, trivial⟩, hS.F ht⟩) hS.2.2 dX8_isRule_14
    · skip
      have f_4 : n.toInt = 1 := f_eq rfl (by decide) c_3
      refine lv_iconst (v := 1) hx hb dX8_isRule_9 (by decide) ?_
      refine lv_goto (tgt := 14) hx hb dX8_isRule_10 (by decide) ?_
      refine hQ _ _ _ _ _ ?_
      exact W.zret (v := 1) hx hb hr rfl (fun t ht hW => ⟨⟨1, (), rfl, (if_pos (by omega)).symm, trivial⟩, hS.F ht⟩) hS.2.2 dX8_isRule_14

set_option maxHeartbeats 4000000 in
set_option maxRecDepth 100000 in
theorem k_X8_shareOfFull (l : Launch) (D : va_G) (sz : Nat) (n : Int32) : Met l yX8_shareOfFull (wB yX8_shareOfFull cX8_shareOfFull 1 (some .int)) ({ frames := 0, cells := 0, slots := 0, locals := 0 }) (cP D [] [] sz [.int n]) (va_Qi (fun (r : Int32) (_ : Unit) => r = shP n) (fun (_ : Unit) (_ : State) => True) (va_A [] sz)) 0 0 (va_A [] sz) := by
  refine Met.ofW (cc := cX8_shareOfFull) (maxL := 1) (ret := (some .int)) (by decide) rfl ?_
  intro p e s m args below meth c s₁ B hml hv
  obtain ⟨rfl, hsz, hP, hK, hD0, hN⟩ := hv
  have hx := B.exec
  have hb := B.bytes
  have hr := B.returns
  have hts0 := atoms_spec (ws := (wB yX8_shareOfFull cX8_shareOfFull 1 (some .int))) B.pre
  have hts : ∀ w ∈ bigW, w.before _ s = true := fun w h => hts0 w (List.mem_cons_of_mem _ h)
  have hown : s.vm.findClass RX8 = some m.cls := findClass_of_methodNamed B.named
  have hlocks := B.notSynchronized
  subst hsz
  have hD := hD0.self (sz := s.heap.size)
  generalize hAe : va_A [] s.heap.size = A at hD ⊢
  have hA : ∀ q : Nat, s.heap.size ≤ q → A q := fun q h => by rw [← hAe]; exact Or.inr h
  have hS : va_S A s.heap s.heap [] := va_S.rf
  have hP : va_P D vwCl [] s.heap := hP
  have hl := lv_entry ([.int n]) (n := 1) (Nat.le_of_ble_eq_true rfl)
  rw [lg_entry_eq]
  generalize (lg_sl ([.int n]) ++ List.replicate (1 - (lg_sl ([.int n])).length) Slot.unset).toArray = ls at hl ⊢
  have hl : lv_has ls 1 [(0, .int n)] := hl
  clear hts0 hD0 hAe
  refine my_abs (fun R Q hR hQ => ?_)
  refine lv_iconst (v := 2) hx hb dX8_shareOfFull_0 (by decide) ?_
  refine lv_iload_n hx hb dX8_shareOfFull_1 rfl (lv_at hl 0 rfl) ?_
  refine lv_imul hx hb dX8_shareOfFull_2 ?_
  refine lv_topi (fun y_1 ey_1 => ?_)
  refine lv_sipush (v := 255) hx hb dX8_shareOfFull_3 (by decide) ?_
  refine lv_iadd hx hb dX8_shareOfFull_6 ?_
  refine lv_topi (fun y_2 ey_2 => ?_)
  refine lv_sipush (v := 510) hx hb dX8_shareOfFull_7 (by decide) ?_
  refine lv_idiv hx hb dX8_shareOfFull_10 (by decide) ?_
  refine lv_topi (fun y_3 ey_3 => ?_)
  refine hQ _ _ _ _ _ ?_
  exact W.iret (v := y_3) hx hb hr (fun t ht hW => ⟨⟨y_3, (), rfl, (by subst_vars; rfl), trivial⟩, hS.F ht⟩) hS.2.2 dX8_shareOfFull_11

set_option maxHeartbeats 4000000 in
set_option maxRecDepth 100000 in
theorem k_X8_channel (l : Launch) (D : va_G) (sz : Nat) (v n : Int32) : Met l yX8_channel (wB yX8_channel cX8_channel 2 (some .int)) ({ frames := 0, cells := 0, slots := 0, locals := 0 }) (cP D [] [] sz [.int v, .int n]) (va_Qi (fun (r : Int32) (_ : Unit) => r = chS v n) (fun (_ : Unit) (_ : State) => True) (va_A [] sz)) 0 0 (va_A [] sz) := by
  refine Met.ofW (cc := cX8_channel) (maxL := 2) (ret := (some .int)) (by decide) rfl ?_
  intro p e s m args below meth c s₁ B hml hv
  obtain ⟨rfl, hsz, hP, hK, hD0, hN⟩ := hv
  have hx := B.exec
  have hb := B.bytes
  have hr := B.returns
  have hts0 := atoms_spec (ws := (wB yX8_channel cX8_channel 2 (some .int))) B.pre
  have hts : ∀ w ∈ bigW, w.before _ s = true := fun w h => hts0 w (List.mem_cons_of_mem _ h)
  have hown : s.vm.findClass RX8 = some m.cls := findClass_of_methodNamed B.named
  have hlocks := B.notSynchronized
  subst hsz
  have hD := hD0.self (sz := s.heap.size)
  generalize hAe : va_A [] s.heap.size = A at hD ⊢
  have hA : ∀ q : Nat, s.heap.size ≤ q → A q := fun q h => by rw [← hAe]; exact Or.inr h
  have hS : va_S A s.heap s.heap [] := va_S.rf
  have hP : va_P D vwCl [] s.heap := hP
  have hl := lv_entry ([.int v, .int n]) (n := 2) (Nat.le_of_ble_eq_true rfl)
  rw [lg_entry_eq]
  generalize (lg_sl ([.int v, .int n]) ++ List.replicate (2 - (lg_sl ([.int v, .int n])).length) Slot.unset).toArray = ls at hl ⊢
  have hl : lv_has ls 2 [(0, .int v), (1, .int n)] := hl
  clear hts0 hD0 hAe
  refine my_abs (fun R Q hR hQ => ?_)
  refine lv_iload_n hx hb dX8_channel_0 rfl (lv_at hl 0 rfl) ?_
  refine lv_iload_n hx hb dX8_channel_1 rfl (lv_at hl 1 rfl) ?_
  refine lv_iushr hx hb dX8_channel_2 rfl ?_
  refine lv_topi (fun y_1 ey_1 => ?_)
  refine lv_sipush (v := 255) hx hb dX8_channel_3 (by decide) ?_
  refine lv_iand hx hb dX8_channel_6 ?_
  refine lv_topi (fun y_2 ey_2 => ?_)
  refine hQ _ _ _ _ _ ?_
  exact W.iret (v := y_2) hx hb hr (fun t ht hW => ⟨⟨y_2, (), rfl, (by subst_vars; rfl), trivial⟩, hS.F ht⟩) hS.2.2 dX8_channel_7

set_option maxHeartbeats 4000000 in
set_option maxRecDepth 100000 in
theorem k_X8_inkOf (l : Launch) (D : va_G) (sz : Nat) (n : Int32) : Met l yX8_inkOf (wB yX8_inkOf cX8_inkOf 4 (some .int)) ({ frames := 1, cells := 0, slots := 0, locals := 21 }) (cP D [] [] sz [.int n]) (va_Qi (fun (r : Int32) (_ : Unit) => r = inkP n) (fun (_ : Unit) (_ : State) => True) (va_A [] sz)) 0 0 (va_A [] sz) := by
  refine Met.ofW (cc := cX8_inkOf) (maxL := 4) (ret := (some .int)) (by decide) rfl ?_
  intro p e s m args below meth c s₁ B hml hv
  obtain ⟨rfl, hsz, hP, hK, hD0, hN⟩ := hv
  have hx := B.exec
  have hb := B.bytes
  have hr := B.returns
  have hts0 := atoms_spec (ws := (wB yX8_inkOf cX8_inkOf 4 (some .int))) B.pre
  have hts : ∀ w ∈ bigW, w.before _ s = true := fun w h => hts0 w (List.mem_cons_of_mem _ h)
  have hown : s.vm.findClass RX8 = some m.cls := findClass_of_methodNamed B.named
  have hlocks := B.notSynchronized
  subst hsz
  have hD := hD0.self (sz := s.heap.size)
  generalize hAe : va_A [] s.heap.size = A at hD ⊢
  have hA : ∀ q : Nat, s.heap.size ≤ q → A q := fun q h => by rw [← hAe]; exact Or.inr h
  have hS : va_S A s.heap s.heap [] := va_S.rf
  have hP : va_P D vwCl [] s.heap := hP
  have hl := lv_entry ([.int n]) (n := 4) (Nat.le_of_ble_eq_true rfl)
  rw [lg_entry_eq]
  generalize (lg_sl ([.int n]) ++ List.replicate (4 - (lg_sl ([.int n])).length) Slot.unset).toArray = ls at hl ⊢
  have hl : lv_has ls 4 [(0, .int n)] := hl
  clear hts0 hD0 hAe
  refine my_abs (fun R Q hR hQ => ?_)
  refine lv_iload_n hx hb dX8_inkOf_0 rfl (lv_at hl 0 rfl) ?_
  refine lv_bipush (v := 24) hx hb dX8_inkOf_1 (by decide) ?_
  have hPc := hP.sub (ws' := []) [] rfl
  have hDc := hD.sub (ws' := []) [] (by decide) rfl
  have hKc := hK.sub (tys' := []) [] rfl
  have hFc := va_free (wc := []) hD hS hA [] rfl
  refine va_calli (va_runS (As := [.int n, .int 24]) (rest := []) ⟨hx, hb, hml, hown, hts⟩ (k_X8_channel l D s.heap.size n 24) (va_cwS 2 hts (gS bw_5 bw_6 bw_1 bw_4) rfl rfl rfl (by decide +kernel) ⟨(by rw [hR]; exact Nat.le_of_ble_eq_true rfl), (by rw [hR]; exact Nat.le_of_ble_eq_true rfl)⟩) ⟨cP_blind, cP_at hPc hKc hDc hN⟩ rfl rfl hl.1 rfl (lv_room (Nat.le_of_ble_eq_true rfl)) dX8_inkOf_3 ⟨(by rw [hR]; exact Nat.le_of_ble_eq_true rfl), (by rw [hR]; exact Nat.le_of_ble_eq_true rfl)⟩) hS (fun q _ h => hFc q h) hFc (fun r_1 u9 t9 H1 locs ht hvm hr_1 hB hz1 hk1 hS => ?_)
  try dsimp only at hr_1
  have hP1 : va_P D vwCl [] H1 := vP_nil
  have hD1 : va_D (va_A [] s.heap.size) [] := vD_nil
  obtain ⟨hP, hD⟩ := va_join (wr := []) (w1 := []) hP hD [] [] rfl rfl (by decide) (by decide) hk1 hFc hP1 hD1
  clear hz1 hk1 hFc hKc hDc hPc
  generalize H1 = H at hP hS ⊢
  have hP : va_P D vwCl [] H := hP
  have hD : va_D A [] := hD
  refine lv_istore_n (lv' := [(1, .int r_1), (0, .int n)]) hx hb dX8_inkOf_6 rfl hl (by decide) rfl (fun ls hl => ?_)
  refine lv_iload_n hx hb dX8_inkOf_7 rfl (lv_at hl 0 rfl) ?_
  refine lv_istore_n (lv' := [(2, .int r_1), (1, .int r_1), (0, .int n)]) hx hb dX8_inkOf_8 rfl hl (by decide) rfl (fun ls hl => ?_)
  refine lv_bipush (v := 16) hx hb dX8_inkOf_9 (by decide) ?_
  refine lv_istore_n (lv' := [(3, .int 16), (2, .int r_1), (1, .int r_1), (0, .int n)]) hx hb dX8_inkOf_11 rfl hl (by decide) rfl (fun ls hl => ?_)
  refine lv_iload_n hx hb dX8_inkOf_12 rfl (lv_at hl 0 rfl) ?_
  refine lv_if_lt (tgt := 38) hx hb dX8_inkOf_13 (by decide) (fun c_2 => ?_) (fun c_2 => ?_)
  · skip
    exact absurd c_2 (by decide)
  · skip
    refine lv_iload_n hx hb dX8_inkOf_16 rfl (lv_at hl 1 rfl) ?_
    refine lv_bipush (v := 8) hx hb dX8_inkOf_17 (by decide) ?_
    refine lv_ishl hx hb dX8_inkOf_19 ?_
    refine lv_topi (fun y_4 ey_4 => ?_)
    refine lv_iload_n hx hb dX8_inkOf_20 rfl (lv_at hl 3 rfl) ?_
    refine lv_iload_n hx hb dX8_inkOf_21 rfl (lv_at hl 0 rfl) ?_
    have hPc := hP.sub (ws' := []) [] rfl
    have hDc := hD.sub (ws' := []) [] (by decide) rfl
    have hKc := hK.sub (tys' := []) [] rfl
    have hFc := va_free (wc := []) hD hS hA [] rfl
    refine va_calli (va_runS (As := [.int n, .int 16]) (rest := [.int y_4]) ⟨hx, hb, hml, hown, hts⟩ (k_X8_channel l D H.size n 16) (va_cwS 2 hts (gS bw_5 bw_6 bw_1 bw_4) rfl rfl rfl (by decide +kernel) ⟨(by rw [hR]; exact Nat.le_of_ble_eq_true rfl), (by rw [hR]; exact Nat.le_of_ble_eq_true rfl)⟩) ⟨cP_blind, cP_at hPc hKc hDc hN⟩ rfl rfl hl.1 rfl (lv_room (Nat.le_of_ble_eq_true rfl)) dX8_inkOf_22 ⟨(by rw [hR]; exact Nat.le_of_ble_eq_true rfl), (by rw [hR]; exact Nat.le_of_ble_eq_true rfl)⟩) hS (fun q _ h => hFc q h) hFc (fun r_5 u9 t9 H1 locs ht hvm hr_5 hB hz1 hk1 hS => ?_)
    try dsimp only at hr_5
    have hP1 : va_P D vwCl [] H1 := vP_nil
    have hD1 : va_D (va_A [] H.size) [] := vD_nil
    obtain ⟨hP, hD⟩ := va_join (wr := []) (w1 := []) hP hD [] [] rfl rfl (by decide) (by decide) hk1 hFc hP1 hD1
    clear hz1 hk1 hFc hKc hDc hPc
    generalize H1 = H at hP hS ⊢
    have hP : va_P D vwCl [] H := hP
    have hD : va_D A [] := hD
    refine lv_iload_n hx hb dX8_inkOf_25 rfl (lv_at hl 2 rfl) ?_
    refine lv_imul hx hb dX8_inkOf_26 ?_
    refine lv_topi (fun y_6 ey_6 => ?_)
    have hPc := hP.sub (ws' := []) [] rfl
    have hDc := hD.sub (ws' := []) [] (by decide) rfl
    have hKc := hK.sub (tys' := []) [] rfl
    have hFc := va_free (wc := []) hD hS hA [] rfl
    refine va_calli (va_runS (As := [.int y_6]) (rest := [.int y_4]) ⟨hx, hb, hml, hown, hts⟩ (k_X8_shareOfFull l D H.size y_6) (va_cwS 1 hts (gS bw_8 bw_9 bw_1 bw_7) rfl rfl rfl (by decide +kernel) ⟨(by rw [hR]; exact Nat.le_of_ble_eq_true rfl), (by rw [hR]; exact Nat.le_of_ble_eq_true rfl)⟩) ⟨cP_blind, cP_at hPc hKc hDc hN⟩ rfl rfl hl.1 rfl (lv_room (Nat.le_of_ble_eq_true rfl)) dX8_inkOf_27 ⟨(by rw [hR]; exact Nat.le_of_ble_eq_true rfl), (by rw [hR]; exact Nat.le_of_ble_eq_true rfl)⟩) hS (fun q _ h => hFc q h) hFc (fun r_7 u9 t9 H1 locs ht hvm hr_7 hB hz1 hk1 hS => ?_)
    try dsimp only at hr_7
    have hP1 : va_P D vwCl [] H1 := vP_nil
    have hD1 : va_D (va_A [] H.size) [] := vD_nil
    obtain ⟨hP, hD⟩ := va_join (wr := []) (w1 := []) hP hD [] [] rfl rfl (by decide) (by decide) hk1 hFc hP1 hD1
    clear hz1 hk1 hFc hKc hDc hPc
    generalize H1 = H at hP hS ⊢
    have hP : va_P D vwCl [] H := hP
    have hD : va_D A [] := hD
    refine lv_ior hx hb dX8_inkOf_30 ?_
    refine lv_topi (fun y_8 ey_8 => ?_)
    refine lv_istore_n (lv' := [(2, .int y_8), (3, .int 16), (1, .int r_1), (0, .int n)]) hx hb dX8_inkOf_31 rfl hl (by decide) rfl (fun ls hl => ?_)
    refine lv_iinc (v := 8) (lv' := [(3, .int 8), (2, .int y_8), (1, .int r_1), (0, .int n)]) hx hb dX8_inkOf_32 hl (k := 1) rfl (by decide) (by decide) rfl (fun ls hl => ?_)
    refine lv_goto (tgt := 12) hx hb dX8_inkOf_35 (by decide) ?_
    refine lv_iload_n hx hb dX8_inkOf_12 rfl (lv_at hl 0 rfl) ?_
    refine lv_if_lt (tgt := 38) hx hb dX8_inkOf_13 (by decide) (fun c_9 => ?_) (fun c_9 => ?_)
    · skip
      exact absurd c_9 (by decide)
    · skip
      refine lv_iload_n hx hb dX8_inkOf_16 rfl (lv_at hl 1 rfl) ?_
      refine lv_bipush (v := 8) hx hb dX8_inkOf_17 (by decide) ?_
      refine lv_ishl hx hb dX8_inkOf_19 ?_
      refine lv_topi (fun y_11 ey_11 => ?_)
      refine lv_iload_n hx hb dX8_inkOf_20 rfl (lv_at hl 3 rfl) ?_
      refine lv_iload_n hx hb dX8_inkOf_21 rfl (lv_at hl 0 rfl) ?_
      have hPc := hP.sub (ws' := []) [] rfl
      have hDc := hD.sub (ws' := []) [] (by decide) rfl
      have hKc := hK.sub (tys' := []) [] rfl
      have hFc := va_free (wc := []) hD hS hA [] rfl
      refine va_calli (va_runS (As := [.int n, .int 8]) (rest := [.int y_11]) ⟨hx, hb, hml, hown, hts⟩ (k_X8_channel l D H.size n 8) (va_cwS 2 hts (gS bw_5 bw_6 bw_1 bw_4) rfl rfl rfl (by decide +kernel) ⟨(by rw [hR]; exact Nat.le_of_ble_eq_true rfl), (by rw [hR]; exact Nat.le_of_ble_eq_true rfl)⟩) ⟨cP_blind, cP_at hPc hKc hDc hN⟩ rfl rfl hl.1 rfl (lv_room (Nat.le_of_ble_eq_true rfl)) dX8_inkOf_22 ⟨(by rw [hR]; exact Nat.le_of_ble_eq_true rfl), (by rw [hR]; exact Nat.le_of_ble_eq_true rfl)⟩) hS (fun q _ h => hFc q h) hFc (fun r_12 u9 t9 H1 locs ht hvm hr_12 hB hz1 hk1 hS => ?_)
      try dsimp only at hr_12
      have hP1 : va_P D vwCl [] H1 := vP_nil
      have hD1 : va_D (va_A [] H.size) [] := vD_nil
      obtain ⟨hP, hD⟩ := va_join (wr := []) (w1 := []) hP hD [] [] rfl rfl (by decide) (by decide) hk1 hFc hP1 hD1
      clear hz1 hk1 hFc hKc hDc hPc
      generalize H1 = H at hP hS ⊢
      have hP : va_P D vwCl [] H := hP
      have hD : va_D A [] := hD
      refine lv_iload_n hx hb dX8_inkOf_25 rfl (lv_at hl 2 rfl) ?_
      refine lv_imul hx hb dX8_inkOf_26 ?_
      refine lv_topi (fun y_13 ey_13 => ?_)
      have hPc := hP.sub (ws' := []) [] rfl
      have hDc := hD.sub (ws' := []) [] (by decide) rfl
      have hKc := hK.sub (tys' := []) [] rfl
      have hFc := va_free (wc := []) hD hS hA [] rfl
      refine va_calli (va_runS (As := [.int y_13]) (rest := [.int y_11]) ⟨hx, hb, hml, hown, hts⟩ (k_X8_shareOfFull l D H.size y_13) (va_cwS 1 hts (gS bw_8 bw_9 bw_1 bw_7) rfl rfl rfl (by decide +kernel) ⟨(by rw [hR]; exact Nat.le_of_ble_eq_true rfl), (by rw [hR]; exact Nat.le_of_ble_eq_true rfl)⟩) ⟨cP_blind, cP_at hPc hKc hDc hN⟩ rfl rfl hl.1 rfl (lv_room (Nat.le_of_ble_eq_true rfl)) dX8_inkOf_27 ⟨(by rw [hR]; exact Nat.le_of_ble_eq_true rfl), (by rw [hR]; exact Nat.le_of_ble_eq_true rfl)⟩) hS (fun q _ h => hFc q h) hFc (fun r_14 u9 t9 H1 locs ht hvm hr_14 hB hz1 hk1 hS => ?_)
      try dsimp only at hr_14
      have hP1 : va_P D vwCl [] H1 := vP_nil
      have hD1 : va_D (va_A [] H.size) [] := vD_nil
      obtain ⟨hP, hD⟩ := va_join (wr := []) (w1 := []) hP hD [] [] rfl rfl (by decide) (by decide) hk1 hFc hP1 hD1
      clear hz1 hk1 hFc hKc hDc hPc
      generalize H1 = H at hP hS ⊢
      have hP : va_P D vwCl [] H := hP
      have hD : va_D A [] := hD
      refine lv_ior hx hb dX8_inkOf_30 ?_
      refine lv_topi (fun y_15 ey_15 => ?_)
      refine lv_istore_n (lv' := [(2, .int y_15), (3, .int 8), (1, .int r_1), (0, .int n)]) hx hb dX8_inkOf_31 rfl hl (by decide) rfl (fun ls hl => ?_)
      refine lv_iinc (v := 0) (lv' := [(3, .int 0), (2, .int y_15), (1, .int r_1), (0, .int n)]) hx hb dX8_inkOf_32 hl (k := 1) rfl (by decide) (by decide) rfl (fun ls hl => ?_)
      refine lv_goto (tgt := 12) hx hb dX8_inkOf_35 (by decide) ?_
      refine lv_iload_n hx hb dX8_inkOf_12 rfl (lv_at hl 0 rfl) ?_
      refine lv_if_lt (tgt := 38) hx hb dX8_inkOf_13 (by decide) (fun c_16 => ?_) (fun c_16 => ?_)
      · skip
        exact absurd c_16 (by decide)
      · skip
        refine lv_iload_n hx hb dX8_inkOf_16 rfl (lv_at hl 1 rfl) ?_
        refine lv_bipush (v := 8) hx hb dX8_inkOf_17 (by decide) ?_
        refine lv_ishl hx hb dX8_inkOf_19 ?_
        refine lv_topi (fun y_18 ey_18 => ?_)
        refine lv_iload_n hx hb dX8_inkOf_20 rfl (lv_at hl 3 rfl) ?_
        refine lv_iload_n hx hb dX8_inkOf_21 rfl (lv_at hl 0 rfl) ?_
        have hPc := hP.sub (ws' := []) [] rfl
        have hDc := hD.sub (ws' := []) [] (by decide) rfl
        have hKc := hK.sub (tys' := []) [] rfl
        have hFc := va_free (wc := []) hD hS hA [] rfl
        refine va_calli (va_runS (As := [.int n, .int 0]) (rest := [.int y_18]) ⟨hx, hb, hml, hown, hts⟩ (k_X8_channel l D H.size n 0) (va_cwS 2 hts (gS bw_5 bw_6 bw_1 bw_4) rfl rfl rfl (by decide +kernel) ⟨(by rw [hR]; exact Nat.le_of_ble_eq_true rfl), (by rw [hR]; exact Nat.le_of_ble_eq_true rfl)⟩) ⟨cP_blind, cP_at hPc hKc hDc hN⟩ rfl rfl hl.1 rfl (lv_room (Nat.le_of_ble_eq_true rfl)) dX8_inkOf_22 ⟨(by rw [hR]; exact Nat.le_of_ble_eq_true rfl), (by rw [hR]; exact Nat.le_of_ble_eq_true rfl)⟩) hS (fun q _ h => hFc q h) hFc (fun r_19 u9 t9 H1 locs ht hvm hr_19 hB hz1 hk1 hS => ?_)
        try dsimp only at hr_19
        have hP1 : va_P D vwCl [] H1 := vP_nil
        have hD1 : va_D (va_A [] H.size) [] := vD_nil
        obtain ⟨hP, hD⟩ := va_join (wr := []) (w1 := []) hP hD [] [] rfl rfl (by decide) (by decide) hk1 hFc hP1 hD1
        clear hz1 hk1 hFc hKc hDc hPc
        generalize H1 = H at hP hS ⊢
        have hP : va_P D vwCl [] H := hP
        have hD : va_D A [] := hD
        refine lv_iload_n hx hb dX8_inkOf_25 rfl (lv_at hl 2 rfl) ?_
        refine lv_imul hx hb dX8_inkOf_26 ?_
        refine lv_topi (fun y_20 ey_20 => ?_)
        have hPc := hP.sub (ws' := []) [] rfl
        have hDc := hD.sub (ws' := []) [] (by decide) rfl
        have hKc := hK.sub (tys' := []) [] rfl
        have hFc := va_free (wc := []) hD hS hA [] rfl
        refine va_calli (va_runS (As := [.int y_20]) (rest := [.int y_18]) ⟨hx, hb, hml, hown, hts⟩ (k_X8_shareOfFull l D H.size y_20) (va_cwS 1 hts (gS bw_8 bw_9 bw_1 bw_7) rfl rfl rfl (by decide +kernel) ⟨(by rw [hR]; exact Nat.le_of_ble_eq_true rfl), (by rw [hR]; exact Nat.le_of_ble_eq_true rfl)⟩) ⟨cP_blind, cP_at hPc hKc hDc hN⟩ rfl rfl hl.1 rfl (lv_room (Nat.le_of_ble_eq_true rfl)) dX8_inkOf_27 ⟨(by rw [hR]; exact Nat.le_of_ble_eq_true rfl), (by rw [hR]; exact Nat.le_of_ble_eq_true rfl)⟩) hS (fun q _ h => hFc q h) hFc (fun r_21 u9 t9 H1 locs ht hvm hr_21 hB hz1 hk1 hS => ?_)
        try dsimp only at hr_21
        have hP1 : va_P D vwCl [] H1 := vP_nil
        have hD1 : va_D (va_A [] H.size) [] := vD_nil
        obtain ⟨hP, hD⟩ := va_join (wr := []) (w1 := []) hP hD [] [] rfl rfl (by decide) (by decide) hk1 hFc hP1 hD1
        clear hz1 hk1 hFc hKc hDc hPc
        generalize H1 = H at hP hS ⊢
        have hP : va_P D vwCl [] H := hP
        have hD : va_D A [] := hD
        refine lv_ior hx hb dX8_inkOf_30 ?_
        refine lv_topi (fun y_22 ey_22 => ?_)
        refine lv_istore_n (lv' := [(2, .int y_22), (3, .int 0), (1, .int r_1), (0, .int n)]) hx hb dX8_inkOf_31 rfl hl (by decide) rfl (fun ls hl => ?_)
        refine lv_iinc (v := (-8)) (lv' := [(3, .int (-8)), (2, .int y_22), (1, .int r_1), (0, .int n)]) hx hb dX8_inkOf_32 hl (k := 1) rfl (by decide) (by decide) rfl (fun ls hl => ?_)
        refine lv_goto (tgt := 12) hx hb dX8_inkOf_35 (by decide) ?_
        refine lv_iload_n hx hb dX8_inkOf_12 rfl (lv_at hl 0 rfl) ?_
        refine lv_if_lt (tgt := 38) hx hb dX8_inkOf_13 (by decide) (fun c_23 => ?_) (fun c_23 => ?_)
        · skip
          refine lv_iload_n hx hb dX8_inkOf_38 rfl (lv_at hl 1 rfl) ?_
          refine hQ _ _ _ _ _ ?_
          exact W.iret (v := y_22) hx hb hr (fun t ht hW => ⟨⟨y_22, (), rfl, (by subst_vars; rfl), trivial⟩, hS.F ht⟩) hS.2.2 dX8_inkOf_39
        · skip
          exact absurd c_23 (by decide)
end
section
set_option maxHeartbeats 4000000 in
set_option maxRecDepth 100000 in
theorem k_X5_has (l : Launch) (D : va_G) (sz : Nat) (h0 d0 : Nat) (w h : Int32) (x y : Int32) : Met l yX5_has (wB yX5_has cX5_has 3 (some .boolean)) ({ frames := 0, cells := 0, slots := 0, locals := 0 }) (cP D [(h0, .inr (5, [.ref d0, .int w, .int h]))] [] sz [.ref h0, .int x, .int y]) (va_Qi (fun (r : Int32) (_ : Unit) => r = if 0 ≤ x.toInt ∧ x.toInt < w.toInt ∧ 0 ≤ y.toInt ∧ y.toInt < h.toInt then 1 else 0) (fun (_ : Unit) (t : State) => cB D (va_A [(h0, .inr (5, [.ref d0, .int w, .int h]))] sz) [(h0, .inr (5, [.ref d0, .int w, .int h]))] [] t) (va_A [(h0, .inr (5, [.ref d0, .int w, .int h]))] sz)) 0 0 (va_A [(h0, .inr (5, [.ref d0, .int w, .int h]))] sz) := by
  refine Met.ofW (cc := cX5_has) (maxL := 3) (ret := (some .boolean)) (by decide) rfl ?_
  intro p e s m args below meth c s₁ B hml hv
  obtain ⟨rfl, hsz, hP, hK, hD0, hN⟩ := hv
  have hx := B.exec
  have hb := B.bytes
  have hr := B.returns
  have hts0 := atoms_spec (ws := (wB yX5_has cX5_has 3 (some .boolean))) B.pre
  have hts : ∀ w ∈ bigW, w.before _ s = true := fun w h => hts0 w (List.mem_cons_of_mem _ h)
  have hown : s.vm.findClass RX5 = some m.cls := findClass_of_methodNamed B.named
  have hlocks := B.notSynchronized
  subst hsz
  have hD := hD0.self (sz := s.heap.size)
  generalize hAe : va_A [(h0, .inr (5, [.ref d0, .int w, .int h]))] s.heap.size = A at hD ⊢
  have hA : ∀ q : Nat, s.heap.size ≤ q → A q := fun q h => by rw [← hAe]; exact Or.inr h
  have hS : va_S A s.heap s.heap [] := va_S.rf
  have hP : va_P D vwCl [(h0, .inr (5, [.ref d0, .int w, .int h]))] s.heap := hP
  have hl := lv_entry ([.ref h0, .int x, .int y]) (n := 3) (Nat.le_of_ble_eq_true rfl)
  rw [lg_entry_eq]
  generalize (lg_sl ([.ref h0, .int x, .int y]) ++ List.replicate (3 - (lg_sl ([.ref h0, .int x, .int y])).length) Slot.unset).toArray = ls at hl ⊢
  have hl : lv_has ls 3 [(0, .ref h0), (1, .int x), (2, .int y)] := hl
  clear hts0 hD0 hAe
  refine my_abs (fun R Q hR hQ => ?_)
  refine lv_iload_n hx hb dX5_has_0 rfl (lv_at hl 1 rfl) ?_
  refine lv_if_lt (tgt := 28) hx hb dX5_has_1 (by decide) (fun c_1 => ?_) (fun c_1 => ?_)
  · skip
    have f_2 : x.toInt < 0 := f_lt rfl (by decide) c_1
    refine lv_iconst (v := 0) hx hb dX5_has_28 (by decide) ?_
    have hP9 := hP.sub (ws' := [(h0, .inr (5, [.ref d0, .int w, .int h]))]) [0] rfl
    have hD9 := hD.sub (ws' := [(h0, .inr (5, [.ref d0, .int w, .int h]))]) [0] (by decide) rfl
    have hK9 := hK.sub (tys' := []) [] rfl
    refine hQ _ _ _ _ _ ?_
    exact W.zret (v := 0) hx hb hr rfl (fun t ht hW => ⟨⟨0, (), rfl, (if_neg (by omega)).symm, ⟨by rw [ht]; exact hP9, va_K.moved hW.alike hK9, hD9⟩⟩, hS.F ht⟩) hS.2.2 dX5_has_29
  · skip
    have f_2 : ¬ (x.toInt < 0) := fn_lt rfl (by decide) c_1
    refine lv_iload_n hx hb dX5_has_4 rfl (lv_at hl 1 rfl) ?_
    refine lv_aload_n hx hb dX5_has_5 rfl (lv_at hl 0 rfl) ?_
    refine va_get (D := D) (ci := 5) (v := .int w) (C := RX5) (T := TX5) (N := 3) hx hb hts hi_X5 hown hK hP 0 rfl rfl 1 (by decide) (hts _ bw_10) (fun _ h9 => h9) rfl dX5_has_6 ?_
    refine lv_icmp_ge (tgt := 28) hx hb dX5_has_9 (by decide) (fun c_3 => ?_) (fun c_3 => ?_)
    · skip
      have f_4 : w.toInt ≤ x.toInt := f_le rfl rfl c_3
      refine lv_iconst (v := 0) hx hb dX5_has_28 (by decide) ?_
      have hP9 := hP.sub (ws' := [(h0, .inr (5, [.ref d0, .int w, .int h]))]) [0] rfl
      have hD9 := hD.sub (ws' := [(h0, .inr (5, [.ref d0, .int w, .int h]))]) [0] (by decide) rfl
      have hK9 := hK.sub (tys' := []) [] rfl
      refine hQ _ _ _ _ _ ?_
      exact W.zret (v := 0) hx hb hr rfl (fun t ht hW => ⟨⟨0, (), rfl, (if_neg (by omega)).symm, ⟨by rw [ht]; exact hP9, va_K.moved hW.alike hK9, hD9⟩⟩, hS.F ht⟩) hS.2.2 dX5_has_29
    · skip
      have f_4 : ¬ (w.toInt ≤ x.toInt) := fn_le rfl rfl c_3
      refine lv_iload_n hx hb dX5_has_12 rfl (lv_at hl 2 rfl) ?_
      refine lv_if_lt (tgt := 28) hx hb dX5_has_13 (by decide) (fun c_5 => ?_) (fun c_5 => ?_)
      · skip
        have f_6 : y.toInt < 0 := f_lt rfl (by decide) c_5
        refine lv_iconst (v := 0) hx hb dX5_has_28 (by decide) ?_
        have hP9 := hP.sub (ws' := [(h0, .inr (5, [.ref d0, .int w, .int h]))]) [0] rfl
        have hD9 := hD.sub (ws' := [(h0, .inr (5, [.ref d0, .int w, .int h]))]) [0] (by decide) rfl
        have hK9 := hK.sub (tys' := []) [] rfl
        refine hQ _ _ _ _ _ ?_
        exact W.zret (v := 0) hx hb hr rfl (fun t ht hW => ⟨⟨0, (), rfl, (if_neg (by omega)).symm, ⟨by rw [ht]; exact hP9, va_K.moved hW.alike hK9, hD9⟩⟩, hS.F ht⟩) hS.2.2 dX5_has_29
      · skip
        have f_6 : ¬ (y.toInt < 0) := fn_lt rfl (by decide) c_5
        refine lv_iload_n hx hb dX5_has_16 rfl (lv_at hl 2 rfl) ?_
        refine lv_aload_n hx hb dX5_has_17 rfl (lv_at hl 0 rfl) ?_
        refine va_get (D := D) (ci := 5) (v := .int h) (C := RX5) (T := TX5) (N := 3) hx hb hts hi_X5 hown hK hP 0 rfl rfl 2 (by decide) (hts _ bw_11) (fun _ h9 => h9) rfl dX5_has_18 ?_
        refine lv_icmp_ge (tgt := 28) hx hb dX5_has_21 (by decide) (fun c_7 => ?_) (fun c_7 => ?_)
        · skip
          have f_8 : h.toInt ≤ y.toInt := f_le rfl rfl c_7
          refine lv_iconst (v := 0) hx hb dX5_has_28 (by decide) ?_
          have hP9 := hP.sub (ws' := [(h0, .inr (5, [.ref d0, .int w, .int h]))]) [0] rfl
          have hD9 := hD.sub (ws' := [(h0, .inr (5, [.ref d0, .int w, .int h]))]) [0] (by decide) rfl
          have hK9 := hK.sub (tys' := []) [] rfl
          refine hQ _ _ _ _ _ ?_
          exact W.zret (v := 0) hx hb hr rfl (fun t ht hW => ⟨⟨0, (), rfl, (if_neg (by omega)).symm, ⟨by rw [ht]; exact hP9, va_K.moved hW.alike hK9, hD9⟩⟩, hS.F ht⟩) hS.2.2 dX5_has_29
        · skip
          have f_8 : ¬ (h.toInt ≤ y.toInt) := fn_le rfl rfl c_7
          refine lv_iconst (v := 1) hx hb dX5_has_24 (by decide) ?_
          refine lv_goto (tgt := 29) hx hb dX5_has_25 (by decide) ?_
          have hP9 := hP.sub (ws' := [(h0, .inr (5, [.ref d0, .int w, .int h]))]) [0] rfl
          have hD9 := hD.sub (ws' := [(h0, .inr (5, [.ref d0, .int w, .int h]))]) [0] (by decide) rfl
          have hK9 := hK.sub (tys' := []) [] rfl
          refine hQ _ _ _ _ _ ?_
          exact W.zret (v := 1) hx hb hr rfl (fun t ht hW => ⟨⟨1, (), rfl, (if_pos (by omega)).symm, ⟨by rw [ht]; exact hP9, va_K.moved hW.alike hK9, hD9⟩⟩, hS.F ht⟩) hS.2.2 dX5_has_29

set_option maxHeartbeats 4000000 in
set_option maxRecDepth 100000 in
theorem k_X5_at (l : Launch) (D : va_G) (sz : Nat) (h0 d0 : Nat) (w h : Int32) (g : Nat → Int32) (x y : Int32) (cI : ClassId) (hw : w.toInt ≤ 64) (hh : h.toInt ≤ 64) : Met l yX5_at (wB yX5_at cX5_at 3 (some .int)) ({ frames := 1, cells := 0, slots := 0, locals := 22 }) (cP D [(h0, .inr (5, [.ref d0, .int w, .int h])), (d0, .inl (cI, 4096, .inl g))] [(cI, .int)] sz [.ref h0, .int x, .int y]) (va_Qi (fun (r : Int32) (_ : Unit) => r = if 0 ≤ x.toInt ∧ x.toInt < w.toInt ∧ 0 ≤ y.toInt ∧ y.toInt < h.toInt then g (ixP x y) else 0) (fun (_ : Unit) (t : State) => cB D (va_A [(h0, .inr (5, [.ref d0, .int w, .int h])), (d0, .inl (cI, 4096, .inl g))] sz) [(h0, .inr (5, [.ref d0, .int w, .int h])), (d0, .inl (cI, 4096, .inl g))] [(cI, .int)] t) (va_A [(h0, .inr (5, [.ref d0, .int w, .int h])), (d0, .inl (cI, 4096, .inl g))] sz)) 0 0 (va_A [(h0, .inr (5, [.ref d0, .int w, .int h])), (d0, .inl (cI, 4096, .inl g))] sz) := by
  refine Met.ofW (cc := cX5_at) (maxL := 3) (ret := (some .int)) (by decide) rfl ?_
  intro p e s m args below meth c s₁ B hml hv
  obtain ⟨rfl, hsz, hP, hK, hD0, hN⟩ := hv
  have hx := B.exec
  have hb := B.bytes
  have hr := B.returns
  have hts0 := atoms_spec (ws := (wB yX5_at cX5_at 3 (some .int))) B.pre
  have hts : ∀ w ∈ bigW, w.before _ s = true := fun w h => hts0 w (List.mem_cons_of_mem _ h)
  have hown : s.vm.findClass RX5 = some m.cls := findClass_of_methodNamed B.named
  have hlocks := B.notSynchronized
  subst hsz
  have hD := hD0.self (sz := s.heap.size)
  generalize hAe : va_A [(h0, .inr (5, [.ref d0, .int w, .int h])), (d0, .inl (cI, 4096, .inl g))] s.heap.size = A at hD ⊢
  have hA : ∀ q : Nat, s.heap.size ≤ q → A q := fun q h => by rw [← hAe]; exact Or.inr h
  have hS : va_S A s.heap s.heap [] := va_S.rf
  have hP : va_P D vwCl [(h0, .inr (5, [.ref d0, .int w, .int h])), (d0, .inl (cI, 4096, .inl g))] s.heap := hP
  have hl := lv_entry ([.ref h0, .int x, .int y]) (n := 3) (Nat.le_of_ble_eq_true rfl)
  rw [lg_entry_eq]
  generalize (lg_sl ([.ref h0, .int x, .int y]) ++ List.replicate (3 - (lg_sl ([.ref h0, .int x, .int y])).length) Slot.unset).toArray = ls at hl ⊢
  have hl : lv_has ls 3 [(0, .ref h0), (1, .int x), (2, .int y)] := hl
  clear hts0 hD0 hAe
  refine my_abs (fun R Q hR hQ => ?_)
  refine lv_aload_n hx hb dX5_at_0 rfl (lv_at hl 0 rfl) ?_
  refine lv_iload_n hx hb dX5_at_1 rfl (lv_at hl 1 rfl) ?_
  refine lv_iload_n hx hb dX5_at_2 rfl (lv_at hl 2 rfl) ?_
  have hPc := hP.sub (ws' := [(h0, .inr (5, [.ref d0, .int w, .int h]))]) [0] rfl
  have hDc := hD.sub (ws' := [(h0, .inr (5, [.ref d0, .int w, .int h]))]) [0] (by decide) rfl
  have hKc := hK.sub (tys' := []) [] rfl
  have hFc := va_free (wc := [(h0, .inr (5, [.ref d0, .int w, .int h]))]) hD hS hA [0] rfl
  refine va_calli (va_runV (As := [.int x, .int y]) (rest := []) ⟨hx, hb, hml, hown, hts⟩ (k_X5_has l D s.heap.size h0 d0 w h x y) (cwV 2 hts (gV bw_14 bw_15 bw_16 bw_13 bw_12) rfl rfl rfl (by decide +kernel) ⟨(by rw [hR]; exact Nat.le_of_ble_eq_true rfl), (by rw [hR]; exact Nat.le_of_ble_eq_true rfl)⟩) ⟨cP_blind, va_recv hKc hPc (ci := 5) (q0 := 0) rfl rfl, cP_at hPc hKc hDc hN⟩ rfl rfl hl.1 rfl (lv_room (Nat.le_of_ble_eq_true rfl)) dX5_at_3 ⟨(by rw [hR]; exact Nat.le_of_ble_eq_true rfl), (by rw [hR]; exact Nat.le_of_ble_eq_true rfl)⟩) hS (fun q _ h => hFc q h) hFc (fun r_1 u9 t9 H1 locs ht hvm hr_1 hB hz1 hk1 hS => ?_)
  try dsimp only at hr_1
  obtain ⟨hP1, hK1, hD1⟩ := hB
  rw [ht] at hP1
  obtain ⟨hP, hD⟩ := va_join (wr := [(d0, .inl (cI, 4096, .inl g))]) (w1 := [(h0, .inr (5, [.ref d0, .int w, .int h]))]) hP hD [0] [1] rfl rfl (by decide) (by decide) hk1 hFc hP1 hD1
  clear hz1 hk1 hFc hKc hDc hPc
  generalize H1 = H at hP hS ⊢
  have hP : va_P D vwCl [(d0, .inl (cI, 4096, .inl g)), (h0, .inr (5, [.ref d0, .int w, .int h]))] H := hP
  have hD : va_D A [(d0, .inl (cI, 4096, .inl g)), (h0, .inr (5, [.ref d0, .int w, .int h]))] := hD
  refine lv_if_eq (tgt := 23) hx hb dX5_at_6 (by decide) (fun c_2 => ?_) (fun c_2 => ?_)
  · skip
    have f_3 := bz0 hr_1 c_2
    refine lv_iconst (v := 0) hx hb dX5_at_23 (by decide) ?_
    have hP9 := hP.sub (ws' := [(h0, .inr (5, [.ref d0, .int w, .int h])), (d0, .inl (cI, 4096, .inl g))]) [1, 0] rfl
    have hD9 := hD.sub (ws' := [(h0, .inr (5, [.ref d0, .int w, .int h])), (d0, .inl (cI, 4096, .inl g))]) [1, 0] (by decide) rfl
    have hK9 := hK.sub (tys' := [(cI, .int)]) [0] rfl
    refine hQ _ _ _ _ _ ?_
    exact W.iret (v := 0) hx hb hr (fun t ht hW => ⟨⟨0, (), rfl, (if_neg (by omega)).symm, ⟨by rw [ht]; exact hP9, va_K.moved hW.alike hK9, hD9⟩⟩, hS.F ht⟩) hS.2.2 dX5_at_24
  · skip
    have f_3 := bz1 hr_1 c_2
    refine lv_aload_n hx hb dX5_at_9 rfl (lv_at hl 0 rfl) ?_
    refine va_get (D := D) (ci := 5) (v := .ref d0) (C := RX5) (T := TX5) (N := 3) hx hb hts hi_X5 hown hK hP 1 rfl rfl 0 (by decide) (hts _ bw_17) (fun _ h9 => h9) rfl dX5_at_10 ?_
    refine lv_iload_n hx hb dX5_at_13 rfl (lv_at hl 2 rfl) ?_
    refine lv_bipush (v := 64) hx hb dX5_at_14 (by decide) ?_
    refine lv_imul hx hb dX5_at_16 ?_
    refine lv_topi (fun y_4 ey_4 => ?_)
    refine lv_iload_n hx hb dX5_at_17 rfl (lv_at hl 1 rfl) ?_
    refine lv_iadd hx hb dX5_at_18 ?_
    refine lv_topi (fun y_5 ey_5 => ?_)
    refine va_iald hx hb hK hP 0 0 rfl rfl (by subst_vars; exact ix_in (by omega) (by omega) (by omega) (by omega)) dX5_at_19 ?_
    refine my_fold (v := g (ixP x y)) (congrArg g (by subst_vars; exact ix_cl (by omega) (by omega) (by omega) (by omega))) ?_
    refine lv_goto (tgt := 24) hx hb dX5_at_20 (by decide) ?_
    have hP9 := hP.sub (ws' := [(h0, .inr (5, [.ref d0, .int w, .int h])), (d0, .inl (cI, 4096, .inl g))]) [1, 0] rfl
    have hD9 := hD.sub (ws' := [(h0, .inr (5, [.ref d0, .int w, .int h])), (d0, .inl (cI, 4096, .inl g))]) [1, 0] (by decide) rfl
    have hK9 := hK.sub (tys' := [(cI, .int)]) [0] rfl
    refine hQ _ _ _ _ _ ?_
    exact W.iret (v := g (ixP x y)) hx hb hr (fun t ht hW => ⟨⟨g (ixP x y), (), rfl, (if_pos (by omega)).symm, ⟨by rw [ht]; exact hP9, va_K.moved hW.alike hK9, hD9⟩⟩, hS.F ht⟩) hS.2.2 dX5_at_24

set_option maxHeartbeats 4000000 in
set_option maxRecDepth 100000 in
theorem k_X5_put (l : Launch) (D : va_G) (sz : Nat) (h0 d0 : Nat) (w h : Int32) (g : Nat → Int32) (x y v : Int32) (cI : ClassId) (hw : w.toInt ≤ 64) (hh : h.toInt ≤ 64) : Met l yX5_put (wB yX5_put cX5_put 4 none) ({ frames := 1, cells := 0, slots := 0, locals := 22 }) (cP D [(h0, .inr (5, [.ref d0, .int w, .int h])), (d0, .inl (cI, 4096, .inl g))] [(cI, .int)] sz [.ref h0, .int x, .int y, .int v]) (va_Qv (fun (_ : Unit) => True) (fun (_ : Unit) (t : State) => cB D (va_A [(h0, .inr (5, [.ref d0, .int w, .int h])), (d0, .inl (cI, 4096, .inl g))] sz) [(h0, .inr (5, [.ref d0, .int w, .int h])), (d0, .inl (cI, 4096, .inl (if 0 ≤ x.toInt ∧ x.toInt < w.toInt ∧ 0 ≤ y.toInt ∧ y.toInt < h.toInt then upd g (ixP x y) v else g)))] [(cI, .int)] t) (va_A [(h0, .inr (5, [.ref d0, .int w, .int h])), (d0, .inl (cI, 4096, .inl g))] sz)) 0 0 (va_A [(h0, .inr (5, [.ref d0, .int w, .int h])), (d0, .inl (cI, 4096, .inl g))] sz) := by
  refine Met.ofW (cc := cX5_put) (maxL := 4) (ret := none) (by decide) rfl ?_
  intro p e s m args below meth c s₁ B hml hv
  obtain ⟨rfl, hsz, hP, hK, hD0, hN⟩ := hv
  have hx := B.exec
  have hb := B.bytes
  have hr := B.returns
  have hts0 := atoms_spec (ws := (wB yX5_put cX5_put 4 none)) B.pre
  have hts : ∀ w ∈ bigW, w.before _ s = true := fun w h => hts0 w (List.mem_cons_of_mem _ h)
  have hown : s.vm.findClass RX5 = some m.cls := findClass_of_methodNamed B.named
  have hlocks := B.notSynchronized
  subst hsz
  have hD := hD0.self (sz := s.heap.size)
  generalize hAe : va_A [(h0, .inr (5, [.ref d0, .int w, .int h])), (d0, .inl (cI, 4096, .inl g))] s.heap.size = A at hD ⊢
  have hA : ∀ q : Nat, s.heap.size ≤ q → A q := fun q h => by rw [← hAe]; exact Or.inr h
  have hS : va_S A s.heap s.heap [] := va_S.rf
  have hP : va_P D vwCl [(h0, .inr (5, [.ref d0, .int w, .int h])), (d0, .inl (cI, 4096, .inl g))] s.heap := hP
  have hl := lv_entry ([.ref h0, .int x, .int y, .int v]) (n := 4) (Nat.le_of_ble_eq_true rfl)
  rw [lg_entry_eq]
  generalize (lg_sl ([.ref h0, .int x, .int y, .int v]) ++ List.replicate (4 - (lg_sl ([.ref h0, .int x, .int y, .int v])).length) Slot.unset).toArray = ls at hl ⊢
  have hl : lv_has ls 4 [(0, .ref h0), (1, .int x), (2, .int y), (3, .int v)] := hl
  clear hts0 hD0 hAe
  refine my_abs (fun R Q hR hQ => ?_)
  refine lv_aload_n hx hb dX5_put_0 rfl (lv_at hl 0 rfl) ?_
  refine lv_iload_n hx hb dX5_put_1 rfl (lv_at hl 1 rfl) ?_
  refine lv_iload_n hx hb dX5_put_2 rfl (lv_at hl 2 rfl) ?_
  have hPc := hP.sub (ws' := [(h0, .inr (5, [.ref d0, .int w, .int h]))]) [0] rfl
  have hDc := hD.sub (ws' := [(h0, .inr (5, [.ref d0, .int w, .int h]))]) [0] (by decide) rfl
  have hKc := hK.sub (tys' := []) [] rfl
  have hFc := va_free (wc := [(h0, .inr (5, [.ref d0, .int w, .int h]))]) hD hS hA [0] rfl
  refine va_calli (va_runV (As := [.int x, .int y]) (rest := []) ⟨hx, hb, hml, hown, hts⟩ (k_X5_has l D s.heap.size h0 d0 w h x y) (cwV 2 hts (gV bw_14 bw_15 bw_16 bw_13 bw_12) rfl rfl rfl (by decide +kernel) ⟨(by rw [hR]; exact Nat.le_of_ble_eq_true rfl), (by rw [hR]; exact Nat.le_of_ble_eq_true rfl)⟩) ⟨cP_blind, va_recv hKc hPc (ci := 5) (q0 := 0) rfl rfl, cP_at hPc hKc hDc hN⟩ rfl rfl hl.1 rfl (lv_room (Nat.le_of_ble_eq_true rfl)) dX5_put_3 ⟨(by rw [hR]; exact Nat.le_of_ble_eq_true rfl), (by rw [hR]; exact Nat.le_of_ble_eq_true rfl)⟩) hS (fun q _ h => hFc q h) hFc (fun r_1 u9 t9 H1 locs ht hvm hr_1 hB hz1 hk1 hS => ?_)
  try dsimp only at hr_1
  obtain ⟨hP1, hK1, hD1⟩ := hB
  rw [ht] at hP1
  obtain ⟨hP, hD⟩ := va_join (wr := [(d0, .inl (cI, 4096, .inl g))]) (w1 := [(h0, .inr (5, [.ref d0, .int w, .int h]))]) hP hD [0] [1] rfl rfl (by decide) (by decide) hk1 hFc hP1 hD1
  clear hz1 hk1 hFc hKc hDc hPc
  generalize H1 = H at hP hS ⊢
  have hP : va_P D vwCl [(d0, .inl (cI, 4096, .inl g)), (h0, .inr (5, [.ref d0, .int w, .int h]))] H := hP
  have hD : va_D A [(d0, .inl (cI, 4096, .inl g)), (h0, .inr (5, [.ref d0, .int w, .int h]))] := hD
  refine lv_if_eq (tgt := 21) hx hb dX5_put_6 (by decide) (fun c_2 => ?_) (fun c_2 => ?_)
  · skip
    have f_3 := bz0 hr_1 c_2
    have hc : g = if 0 ≤ x.toInt ∧ x.toInt < w.toInt ∧ 0 ≤ y.toInt ∧ y.toInt < h.toInt then upd g (ixP x y) v else g := (if_neg (by omega)).symm
    rw [hc] at hP hD
    have hP9 := hP.sub (ws' := [(h0, .inr (5, [.ref d0, .int w, .int h])), (d0, .inl (cI, 4096, .inl (if 0 ≤ x.toInt ∧ x.toInt < w.toInt ∧ 0 ≤ y.toInt ∧ y.toInt < h.toInt then upd g (ixP x y) v else g)))]) [1, 0] rfl
    have hD9 := hD.sub (ws' := [(h0, .inr (5, [.ref d0, .int w, .int h])), (d0, .inl (cI, 4096, .inl (if 0 ≤ x.toInt ∧ x.toInt < w.toInt ∧ 0 ≤ y.toInt ∧ y.toInt < h.toInt then upd g (ixP x y) v else g)))]) [1, 0] (by decide) rfl
    have hK9 := hK.sub (tys' := [(cI, .int)]) [0] rfl
    refine hQ _ _ _ _ _ ?_
    exact W.vret hx hb hr (fun t ht hW => ⟨⟨(), rfl, trivial, ⟨by rw [ht]; exact hP9, va_K.moved hW.alike hK9, hD9⟩⟩, hS.F ht⟩) hS.2.2 dX5_put_21
  · skip
    have f_3 := bz1 hr_1 c_2
    refine lv_aload_n hx hb dX5_put_9 rfl (lv_at hl 0 rfl) ?_
    refine va_get (D := D) (ci := 5) (v := .ref d0) (C := RX5) (T := TX5) (N := 3) hx hb hts hi_X5 hown hK hP 1 rfl rfl 0 (by decide) (hts _ bw_17) (fun _ h9 => h9) rfl dX5_put_10 ?_
    refine lv_iload_n hx hb dX5_put_13 rfl (lv_at hl 2 rfl) ?_
    refine lv_bipush (v := 64) hx hb dX5_put_14 (by decide) ?_
    refine lv_imul hx hb dX5_put_16 ?_
    refine lv_topi (fun y_4 ey_4 => ?_)
    refine lv_iload_n hx hb dX5_put_17 rfl (lv_at hl 1 rfl) ?_
    refine lv_iadd hx hb dX5_put_18 ?_
    refine lv_topi (fun y_5 ey_5 => ?_)
    refine lv_iload_n hx hb dX5_put_19 rfl (lv_at hl 3 rfl) ?_
    refine va_iast hx hb hK hP hD hS 0 0 rfl rfl (by subst_vars; exact ix_in (by omega) (by omega) (by omega) (by omega)) dX5_put_20 (fun H locs hP hD hS => ?_)
    have hP : va_P D vwCl [(d0, .inl (cI, 4096, .inl (upd g y_5.toNatClampNeg v))), (h0, .inr (5, [.ref d0, .int w, .int h]))] H := hP
    have hD : va_D A [(d0, .inl (cI, 4096, .inl (upd g y_5.toNatClampNeg v))), (h0, .inr (5, [.ref d0, .int w, .int h]))] := hD
    generalize eg_6 : upd g y_5.toNatClampNeg v = g_6 at hP hD
    have hP : va_P D vwCl [(d0, .inl (cI, 4096, .inl g_6)), (h0, .inr (5, [.ref d0, .int w, .int h]))] H := hP
    have hD : va_D A [(d0, .inl (cI, 4096, .inl g_6)), (h0, .inr (5, [.ref d0, .int w, .int h]))] := hD
    have hc : g_6 = if 0 ≤ x.toInt ∧ x.toInt < w.toInt ∧ 0 ≤ y.toInt ∧ y.toInt < h.toInt then upd g (ixP x y) v else g := by rw [if_pos (by omega), ← eg_6]; exact congrArg (fun i => upd g i v) (by subst_vars; exact ix_cl (by omega) (by omega) (by omega) (by omega))
    rw [hc] at hP hD
    have hP9 := hP.sub (ws' := [(h0, .inr (5, [.ref d0, .int w, .int h])), (d0, .inl (cI, 4096, .inl (if 0 ≤ x.toInt ∧ x.toInt < w.toInt ∧ 0 ≤ y.toInt ∧ y.toInt < h.toInt then upd g (ixP x y) v else g)))]) [1, 0] rfl
    have hD9 := hD.sub (ws' := [(h0, .inr (5, [.ref d0, .int w, .int h])), (d0, .inl (cI, 4096, .inl (if 0 ≤ x.toInt ∧ x.toInt < w.toInt ∧ 0 ≤ y.toInt ∧ y.toInt < h.toInt then upd g (ixP x y) v else g)))]) [1, 0] (by decide) rfl
    have hK9 := hK.sub (tys' := [(cI, .int)]) [0] rfl
    refine hQ _ _ _ _ _ ?_
    exact W.vret hx hb hr (fun t ht hW => ⟨⟨(), rfl, trivial, ⟨by rw [ht]; exact hP9, va_K.moved hW.alike hK9, hD9⟩⟩, hS.F ht⟩) hS.2.2 dX5_put_21

set_option maxHeartbeats 4000000 in
set_option maxRecDepth 100000 in
theorem k_J7_fill_53178_4096 (l : Launch) (D : va_G) (sz : Nat) (h0 : Nat) (g : Nat → Int32) (v : Int32) (cI : ClassId) : Met l yJ7_fill_53178 (wB yJ7_fill_53178 cJ7_fill_53178 4 none) ({ frames := 0, cells := 0, slots := 0, locals := 0 }) (cP D [(h0, .inl (cI, 4096, .inl g))] [(cI, .int)] sz [.ref h0, .int v]) (va_Qv (fun (_ : Unit) => True) (fun (_ : Unit) (t : State) => ∃ (g2 : Nat → Int32), (∀ j : Nat, j < 4096 → g2 j = v) ∧ cB D (va_A [(h0, .inl (cI, 4096, .inl g))] sz) [(h0, .inl (cI, 4096, .inl g2))] [(cI, .int)] t) (va_A [(h0, .inl (cI, 4096, .inl g))] sz)) 0 0 (va_A [(h0, .inl (cI, 4096, .inl g))] sz) := by
  refine Met.ofW (cc := cJ7_fill_53178) (maxL := 4) (ret := none) (by decide) rfl ?_
  intro p e s m args below meth c s₁ B hml hv
  obtain ⟨rfl, hsz, hP, hK, hD0, hN⟩ := hv
  have hx := B.exec
  have hb := B.bytes
  have hr := B.returns
  have hts0 := atoms_spec (ws := (wB yJ7_fill_53178 cJ7_fill_53178 4 none)) B.pre
  have hts : ∀ w ∈ bigW, w.before _ s = true := fun w h => hts0 w (List.mem_cons_of_mem _ h)
  have hown : s.vm.findClass RJ7 = some m.cls := findClass_of_methodNamed B.named
  have hlocks := B.notSynchronized
  subst hsz
  have hD := hD0.self (sz := s.heap.size)
  generalize hAe : va_A [(h0, .inl (cI, 4096, .inl g))] s.heap.size = A at hD ⊢
  have hA : ∀ q : Nat, s.heap.size ≤ q → A q := fun q h => by rw [← hAe]; exact Or.inr h
  have hS : va_S A s.heap s.heap [] := va_S.rf
  have hP : va_P D vwCl [(h0, .inl (cI, 4096, .inl g))] s.heap := hP
  have hl := lv_entry ([.ref h0, .int v]) (n := 4) (Nat.le_of_ble_eq_true rfl)
  rw [lg_entry_eq]
  generalize (lg_sl ([.ref h0, .int v]) ++ List.replicate (4 - (lg_sl ([.ref h0, .int v])).length) Slot.unset).toArray = ls at hl ⊢
  have hl : lv_has ls 4 [(0, .ref h0), (1, .int v)] := hl
  clear hts0 hD0 hAe
  refine my_abs (fun R Q hR hQ => ?_)
  refine lv_iconst (v := 0) hx hb dJ7_fill_53178_0 (by decide) ?_
  refine lv_istore_n (lv' := [(2, .int 0), (0, .ref h0), (1, .int v)]) hx hb dJ7_fill_53178_1 rfl hl (by decide) rfl (fun ls hl => ?_)
  refine lv_aload_n hx hb dJ7_fill_53178_2 rfl (lv_at hl 1 rfl) ?_
  refine va_alen (v := 4096) hx hb hK hP 0 0 rfl rfl rfl dJ7_fill_53178_3 ?_
  refine lv_istore_n (lv' := [(3, .int 4096), (2, .int 0), (0, .ref h0), (1, .int v)]) hx hb dJ7_fill_53178_4 rfl hl (by decide) rfl (fun ls hl => ?_)
  have loop_1 : ∀ (n : Nat) (i : Nat) (x2 : Int32) (gg : Nat → Int32) (H : Heap) (locs : List Loc) (ls : Array Slot), (i ≤ 4096) → (4097 ≤ i + n) → (x2 = nI i) → (∀ j : Nat, j < i → gg j = v) → va_P D vwCl [(h0, .inl (cI, 4096, .inl gg))] H → va_D A [(h0, .inl (cI, 4096, .inl gg))] → va_S A s.heap H locs → lv_has ls 4 [(3, .int 4096), (2, .int x2), (0, .ref h0), (1, .int v)] → W p l e R s m ([.ref h0, .int v] : List Value).toArray below meth c H locs 0 0 Q (F0 m 5 ls []) := by
    intro n
    induction n with
    | zero =>
      intro i x2 gg H locs ls hi hm ex hg hP hD hS hl
      exact absurd (show False by omega) not_false
    | succ n ih_2 =>
      intro i x2 gg H locs ls hi hm ex hg hP hD hS hl
      have hxi : x2.toInt = (i : Int) := by rw [ex]; exact nI_toInt (by omega)
      refine lv_iload_n hx hb dJ7_fill_53178_5 rfl (lv_at hl 1 rfl) ?_
      refine lv_iload_n hx hb dJ7_fill_53178_6 rfl (lv_at hl 0 rfl) ?_
      refine lv_icmp_ge (tgt := 20) hx hb dJ7_fill_53178_7 (by decide) (fun c_3 => ?_) (fun c_3 => ?_)
      · skip
        have f_4 : 4096 ≤ (i : Int) := f_le (by decide) hxi c_3
        have hP9 := hP.sub (ws' := [(h0, .inl (cI, 4096, .inl gg))]) [0] rfl
        have hD9 := hD.sub (ws' := [(h0, .inl (cI, 4096, .inl gg))]) [0] (by decide) rfl
        have hK9 := hK.sub (tys' := [(cI, .int)]) [0] rfl
        refine hQ _ _ _ _ _ ?_
        exact W.vret hx hb hr (fun t ht hW => ⟨⟨(), rfl, trivial, ⟨gg, (fun j hj => hg j (by omega)), by rw [ht]; exact hP9, va_K.moved hW.alike hK9, hD9⟩⟩, hS.F ht⟩) hS.2.2 dJ7_fill_53178_20
      · skip
        have f_4 : ¬ (4096 ≤ (i : Int)) := fn_le (by decide) hxi c_3
        refine lv_aload_n hx hb dJ7_fill_53178_10 rfl (lv_at hl 2 rfl) ?_
        refine lv_iload_n hx hb dJ7_fill_53178_11 rfl (lv_at hl 1 rfl) ?_
        refine lv_iload_n hx hb dJ7_fill_53178_12 rfl (lv_at hl 3 rfl) ?_
        refine va_iast hx hb hK hP hD hS 0 0 rfl rfl (vp_in_iff.mpr ⟨by omega, by omega⟩) dJ7_fill_53178_13 (fun H locs hP hD hS => ?_)
        have hP : va_P D vwCl [(h0, .inl (cI, 4096, .inl (upd gg x2.toNatClampNeg v)))] H := hP
        have hD : va_D A [(h0, .inl (cI, 4096, .inl (upd gg x2.toNatClampNeg v)))] := hD
        generalize eg_5 : upd gg x2.toNatClampNeg v = g_5 at hP hD
        have hP : va_P D vwCl [(h0, .inl (cI, 4096, .inl g_5))] H := hP
        have hD : va_D A [(h0, .inl (cI, 4096, .inl g_5))] := hD
        obtain ⟨y_6, ey_6⟩ : ∃ y : Int32, y = x2 + 1 := ⟨_, rfl⟩
        refine lv_iinc (v := y_6) (lv' := [(2, .int y_6), (3, .int 4096), (0, .ref h0), (1, .int v)]) hx hb dJ7_fill_53178_14 hl (k := 1) rfl (by rw [ey_6]; rfl) (by decide) rfl (fun ls hl => ?_)
        refine lv_goto (tgt := 5) hx hb dJ7_fill_53178_17 (by decide) ?_
        exact ih_2 (i + 1) y_6 g_5 _ _ _ (by omega) (by omega) (by rw [ey_6, ex]; exact nI_1 i) (eg_5 ▸ fill_up hg (by rw [ex]; exact nI_clamp (by omega))) (hP.sub (ws' := [(h0, .inl (cI, 4096, .inl g_5))]) [0] rfl) (hD.sub (ws' := [(h0, .inl (cI, 4096, .inl g_5))]) [0] (by decide) rfl) hS (lv_sub hl [1, 0, 2, 3] rfl)
  exact loop_1 4097 0 0 g _ _ _ (by omega) (by omega) nI_0.symm (fun j hj => absurd hj (by omega)) hP hD hS (lv_sub hl [0, 1, 2, 3] rfl)

set_option maxHeartbeats 4000000 in
set_option maxRecDepth 100000 in
theorem k_J7_fill_53178_256 (l : Launch) (D : va_G) (sz : Nat) (h0 : Nat) (g : Nat → Int32) (v : Int32) (cI : ClassId) : Met l yJ7_fill_53178 (wB yJ7_fill_53178 cJ7_fill_53178 4 none) ({ frames := 0, cells := 0, slots := 0, locals := 0 }) (cP D [(h0, .inl (cI, 256, .inl g))] [(cI, .int)] sz [.ref h0, .int v]) (va_Qv (fun (_ : Unit) => True) (fun (_ : Unit) (t : State) => ∃ (g2 : Nat → Int32), (∀ j : Nat, j < 256 → g2 j = v) ∧ cB D (va_A [(h0, .inl (cI, 256, .inl g))] sz) [(h0, .inl (cI, 256, .inl g2))] [(cI, .int)] t) (va_A [(h0, .inl (cI, 256, .inl g))] sz)) 0 0 (va_A [(h0, .inl (cI, 256, .inl g))] sz) := by
  refine Met.ofW (cc := cJ7_fill_53178) (maxL := 4) (ret := none) (by decide) rfl ?_
  intro p e s m args below meth c s₁ B hml hv
  obtain ⟨rfl, hsz, hP, hK, hD0, hN⟩ := hv
  have hx := B.exec
  have hb := B.bytes
  have hr := B.returns
  have hts0 := atoms_spec (ws := (wB yJ7_fill_53178 cJ7_fill_53178 4 none)) B.pre
  have hts : ∀ w ∈ bigW, w.before _ s = true := fun w h => hts0 w (List.mem_cons_of_mem _ h)
  have hown : s.vm.findClass RJ7 = some m.cls := findClass_of_methodNamed B.named
  have hlocks := B.notSynchronized
  subst hsz
  have hD := hD0.self (sz := s.heap.size)
  generalize hAe : va_A [(h0, .inl (cI, 256, .inl g))] s.heap.size = A at hD ⊢
  have hA : ∀ q : Nat, s.heap.size ≤ q → A q := fun q h => by rw [← hAe]; exact Or.inr h
  have hS : va_S A s.heap s.heap [] := va_S.rf
  have hP : va_P D vwCl [(h0, .inl (cI, 256, .inl g))] s.heap := hP
  have hl := lv_entry ([.ref h0, .int v]) (n := 4) (Nat.le_of_ble_eq_true rfl)
  rw [lg_entry_eq]
  generalize (lg_sl ([.ref h0, .int v]) ++ List.replicate (4 - (lg_sl ([.ref h0, .int v])).length) Slot.unset).toArray = ls at hl ⊢
  have hl : lv_has ls 4 [(0, .ref h0), (1, .int v)] := hl
  clear hts0 hD0 hAe
  refine my_abs (fun R Q hR hQ => ?_)
  refine lv_iconst (v := 0) hx hb dJ7_fill_53178_0 (by decide) ?_
  refine lv_istore_n (lv' := [(2, .int 0), (0, .ref h0), (1, .int v)]) hx hb dJ7_fill_53178_1 rfl hl (by decide) rfl (fun ls hl => ?_)
  refine lv_aload_n hx hb dJ7_fill_53178_2 rfl (lv_at hl 1 rfl) ?_
  refine va_alen (v := 256) hx hb hK hP 0 0 rfl rfl rfl dJ7_fill_53178_3 ?_
  refine lv_istore_n (lv' := [(3, .int 256), (2, .int 0), (0, .ref h0), (1, .int v)]) hx hb dJ7_fill_53178_4 rfl hl (by decide) rfl (fun ls hl => ?_)
  have loop_1 : ∀ (n : Nat) (i : Nat) (x2 : Int32) (gg : Nat → Int32) (H : Heap) (locs : List Loc) (ls : Array Slot), (i ≤ 256) → (257 ≤ i + n) → (x2 = nI i) → (∀ j : Nat, j < i → gg j = v) → va_P D vwCl [(h0, .inl (cI, 256, .inl gg))] H → va_D A [(h0, .inl (cI, 256, .inl gg))] → va_S A s.heap H locs → lv_has ls 4 [(3, .int 256), (2, .int x2), (0, .ref h0), (1, .int v)] → W p l e R s m ([.ref h0, .int v] : List Value).toArray below meth c H locs 0 0 Q (F0 m 5 ls []) := by
    intro n
    induction n with
    | zero =>
      intro i x2 gg H locs ls hi hm ex hg hP hD hS hl
      exact absurd (show False by omega) not_false
    | succ n ih_2 =>
      intro i x2 gg H locs ls hi hm ex hg hP hD hS hl
      have hxi : x2.toInt = (i : Int) := by rw [ex]; exact nI_toInt (by omega)
      refine lv_iload_n hx hb dJ7_fill_53178_5 rfl (lv_at hl 1 rfl) ?_
      refine lv_iload_n hx hb dJ7_fill_53178_6 rfl (lv_at hl 0 rfl) ?_
      refine lv_icmp_ge (tgt := 20) hx hb dJ7_fill_53178_7 (by decide) (fun c_3 => ?_) (fun c_3 => ?_)
      · skip
        have f_4 : 256 ≤ (i : Int) := f_le (by decide) hxi c_3
        have hP9 := hP.sub (ws' := [(h0, .inl (cI, 256, .inl gg))]) [0] rfl
        have hD9 := hD.sub (ws' := [(h0, .inl (cI, 256, .inl gg))]) [0] (by decide) rfl
        have hK9 := hK.sub (tys' := [(cI, .int)]) [0] rfl
        refine hQ _ _ _ _ _ ?_
        exact W.vret hx hb hr (fun t ht hW => ⟨⟨(), rfl, trivial, ⟨gg, (fun j hj => hg j (by omega)), by rw [ht]; exact hP9, va_K.moved hW.alike hK9, hD9⟩⟩, hS.F ht⟩) hS.2.2 dJ7_fill_53178_20
      · skip
        have f_4 : ¬ (256 ≤ (i : Int)) := fn_le (by decide) hxi c_3
        refine lv_aload_n hx hb dJ7_fill_53178_10 rfl (lv_at hl 2 rfl) ?_
        refine lv_iload_n hx hb dJ7_fill_53178_11 rfl (lv_at hl 1 rfl) ?_
        refine lv_iload_n hx hb dJ7_fill_53178_12 rfl (lv_at hl 3 rfl) ?_
        refine va_iast hx hb hK hP hD hS 0 0 rfl rfl (vp_in_iff.mpr ⟨by omega, by omega⟩) dJ7_fill_53178_13 (fun H locs hP hD hS => ?_)
        have hP : va_P D vwCl [(h0, .inl (cI, 256, .inl (upd gg x2.toNatClampNeg v)))] H := hP
        have hD : va_D A [(h0, .inl (cI, 256, .inl (upd gg x2.toNatClampNeg v)))] := hD
        generalize eg_5 : upd gg x2.toNatClampNeg v = g_5 at hP hD
        have hP : va_P D vwCl [(h0, .inl (cI, 256, .inl g_5))] H := hP
        have hD : va_D A [(h0, .inl (cI, 256, .inl g_5))] := hD
        obtain ⟨y_6, ey_6⟩ : ∃ y : Int32, y = x2 + 1 := ⟨_, rfl⟩
        refine lv_iinc (v := y_6) (lv' := [(2, .int y_6), (3, .int 256), (0, .ref h0), (1, .int v)]) hx hb dJ7_fill_53178_14 hl (k := 1) rfl (by rw [ey_6]; rfl) (by decide) rfl (fun ls hl => ?_)
        refine lv_goto (tgt := 5) hx hb dJ7_fill_53178_17 (by decide) ?_
        exact ih_2 (i + 1) y_6 g_5 _ _ _ (by omega) (by omega) (by rw [ey_6, ex]; exact nI_1 i) (eg_5 ▸ fill_up hg (by rw [ex]; exact nI_clamp (by omega))) (hP.sub (ws' := [(h0, .inl (cI, 256, .inl g_5))]) [0] rfl) (hD.sub (ws' := [(h0, .inl (cI, 256, .inl g_5))]) [0] (by decide) rfl) hS (lv_sub hl [1, 0, 2, 3] rfl)
  exact loop_1 257 0 0 g _ _ _ (by omega) (by omega) nI_0.symm (fun j hj => absurd hj (by omega)) hP hD hS (lv_sub hl [0, 1, 2, 3] rfl)

set_option maxHeartbeats 4000000 in
set_option maxRecDepth 100000 in
theorem k_J7_fill_53178_64 (l : Launch) (D : va_G) (sz : Nat) (h0 : Nat) (g : Nat → Int32) (v : Int32) (cI : ClassId) : Met l yJ7_fill_53178 (wB yJ7_fill_53178 cJ7_fill_53178 4 none) ({ frames := 0, cells := 0, slots := 0, locals := 0 }) (cP D [(h0, .inl (cI, 64, .inl g))] [(cI, .int)] sz [.ref h0, .int v]) (va_Qv (fun (_ : Unit) => True) (fun (_ : Unit) (t : State) => ∃ (g2 : Nat → Int32), (∀ j : Nat, j < 64 → g2 j = v) ∧ cB D (va_A [(h0, .inl (cI, 64, .inl g))] sz) [(h0, .inl (cI, 64, .inl g2))] [(cI, .int)] t) (va_A [(h0, .inl (cI, 64, .inl g))] sz)) 0 0 (va_A [(h0, .inl (cI, 64, .inl g))] sz) := by
  refine Met.ofW (cc := cJ7_fill_53178) (maxL := 4) (ret := none) (by decide) rfl ?_
  intro p e s m args below meth c s₁ B hml hv
  obtain ⟨rfl, hsz, hP, hK, hD0, hN⟩ := hv
  have hx := B.exec
  have hb := B.bytes
  have hr := B.returns
  have hts0 := atoms_spec (ws := (wB yJ7_fill_53178 cJ7_fill_53178 4 none)) B.pre
  have hts : ∀ w ∈ bigW, w.before _ s = true := fun w h => hts0 w (List.mem_cons_of_mem _ h)
  have hown : s.vm.findClass RJ7 = some m.cls := findClass_of_methodNamed B.named
  have hlocks := B.notSynchronized
  subst hsz
  have hD := hD0.self (sz := s.heap.size)
  generalize hAe : va_A [(h0, .inl (cI, 64, .inl g))] s.heap.size = A at hD ⊢
  have hA : ∀ q : Nat, s.heap.size ≤ q → A q := fun q h => by rw [← hAe]; exact Or.inr h
  have hS : va_S A s.heap s.heap [] := va_S.rf
  have hP : va_P D vwCl [(h0, .inl (cI, 64, .inl g))] s.heap := hP
  have hl := lv_entry ([.ref h0, .int v]) (n := 4) (Nat.le_of_ble_eq_true rfl)
  rw [lg_entry_eq]
  generalize (lg_sl ([.ref h0, .int v]) ++ List.replicate (4 - (lg_sl ([.ref h0, .int v])).length) Slot.unset).toArray = ls at hl ⊢
  have hl : lv_has ls 4 [(0, .ref h0), (1, .int v)] := hl
  clear hts0 hD0 hAe
  refine my_abs (fun R Q hR hQ => ?_)
  refine lv_iconst (v := 0) hx hb dJ7_fill_53178_0 (by decide) ?_
  refine lv_istore_n (lv' := [(2, .int 0), (0, .ref h0), (1, .int v)]) hx hb dJ7_fill_53178_1 rfl hl (by decide) rfl (fun ls hl => ?_)
  refine lv_aload_n hx hb dJ7_fill_53178_2 rfl (lv_at hl 1 rfl) ?_
  refine va_alen (v := 64) hx hb hK hP 0 0 rfl rfl rfl dJ7_fill_53178_3 ?_
  refine lv_istore_n (lv' := [(3, .int 64), (2, .int 0), (0, .ref h0), (1, .int v)]) hx hb dJ7_fill_53178_4 rfl hl (by decide) rfl (fun ls hl => ?_)
  have loop_1 : ∀ (n : Nat) (i : Nat) (x2 : Int32) (gg : Nat → Int32) (H : Heap) (locs : List Loc) (ls : Array Slot), (i ≤ 64) → (65 ≤ i + n) → (x2 = nI i) → (∀ j : Nat, j < i → gg j = v) → va_P D vwCl [(h0, .inl (cI, 64, .inl gg))] H → va_D A [(h0, .inl (cI, 64, .inl gg))] → va_S A s.heap H locs → lv_has ls 4 [(3, .int 64), (2, .int x2), (0, .ref h0), (1, .int v)] → W p l e R s m ([.ref h0, .int v] : List Value).toArray below meth c H locs 0 0 Q (F0 m 5 ls []) := by
    intro n
    induction n with
    | zero =>
      intro i x2 gg H locs ls hi hm ex hg hP hD hS hl
      exact absurd (show False by omega) not_false
    | succ n ih_2 =>
      intro i x2 gg H locs ls hi hm ex hg hP hD hS hl
      have hxi : x2.toInt = (i : Int) := by rw [ex]; exact nI_toInt (by omega)
      refine lv_iload_n hx hb dJ7_fill_53178_5 rfl (lv_at hl 1 rfl) ?_
      refine lv_iload_n hx hb dJ7_fill_53178_6 rfl (lv_at hl 0 rfl) ?_
      refine lv_icmp_ge (tgt := 20) hx hb dJ7_fill_53178_7 (by decide) (fun c_3 => ?_) (fun c_3 => ?_)
      · skip
        have f_4 : 64 ≤ (i : Int) := f_le (by decide) hxi c_3
        have hP9 := hP.sub (ws' := [(h0, .inl (cI, 64, .inl gg))]) [0] rfl
        have hD9 := hD.sub (ws' := [(h0, .inl (cI, 64, .inl gg))]) [0] (by decide) rfl
        have hK9 := hK.sub (tys' := [(cI, .int)]) [0] rfl
        refine hQ _ _ _ _ _ ?_
        exact W.vret hx hb hr (fun t ht hW => ⟨⟨(), rfl, trivial, ⟨gg, (fun j hj => hg j (by omega)), by rw [ht]; exact hP9, va_K.moved hW.alike hK9, hD9⟩⟩, hS.F ht⟩) hS.2.2 dJ7_fill_53178_20
      · skip
        have f_4 : ¬ (64 ≤ (i : Int)) := fn_le (by decide) hxi c_3
        refine lv_aload_n hx hb dJ7_fill_53178_10 rfl (lv_at hl 2 rfl) ?_
        refine lv_iload_n hx hb dJ7_fill_53178_11 rfl (lv_at hl 1 rfl) ?_
        refine lv_iload_n hx hb dJ7_fill_53178_12 rfl (lv_at hl 3 rfl) ?_
        refine va_iast hx hb hK hP hD hS 0 0 rfl rfl (vp_in_iff.mpr ⟨by omega, by omega⟩) dJ7_fill_53178_13 (fun H locs hP hD hS => ?_)
        have hP : va_P D vwCl [(h0, .inl (cI, 64, .inl (upd gg x2.toNatClampNeg v)))] H := hP
        have hD : va_D A [(h0, .inl (cI, 64, .inl (upd gg x2.toNatClampNeg v)))] := hD
        generalize eg_5 : upd gg x2.toNatClampNeg v = g_5 at hP hD
        have hP : va_P D vwCl [(h0, .inl (cI, 64, .inl g_5))] H := hP
        have hD : va_D A [(h0, .inl (cI, 64, .inl g_5))] := hD
        obtain ⟨y_6, ey_6⟩ : ∃ y : Int32, y = x2 + 1 := ⟨_, rfl⟩
        refine lv_iinc (v := y_6) (lv' := [(2, .int y_6), (3, .int 64), (0, .ref h0), (1, .int v)]) hx hb dJ7_fill_53178_14 hl (k := 1) rfl (by rw [ey_6]; rfl) (by decide) rfl (fun ls hl => ?_)
        refine lv_goto (tgt := 5) hx hb dJ7_fill_53178_17 (by decide) ?_
        exact ih_2 (i + 1) y_6 g_5 _ _ _ (by omega) (by omega) (by rw [ey_6, ex]; exact nI_1 i) (eg_5 ▸ fill_up hg (by rw [ex]; exact nI_clamp (by omega))) (hP.sub (ws' := [(h0, .inl (cI, 64, .inl g_5))]) [0] rfl) (hD.sub (ws' := [(h0, .inl (cI, 64, .inl g_5))]) [0] (by decide) rfl) hS (lv_sub hl [1, 0, 2, 3] rfl)
  exact loop_1 65 0 0 g _ _ _ (by omega) (by omega) nI_0.symm (fun j hj => absurd hj (by omega)) hP hD hS (lv_sub hl [0, 1, 2, 3] rfl)

set_option maxHeartbeats 4000000 in
set_option maxRecDepth 100000 in
theorem k_X5_begin (l : Launch) (D : va_G) (sz : Nat) (h0 d0 : Nat) (w h : Int32) (g : Nat → Int32) (x y : Int32) (cI : ClassId) : Met l yX5_begin (wB yX5_begin cX5_begin 3 none) ({ frames := 1, cells := 0, slots := 0, locals := 23 }) (cP D [(h0, .inr (5, [.ref d0, .int w, .int h])), (d0, .inl (cI, 4096, .inl g))] [(cI, .int)] sz [.ref h0, .int x, .int y]) (va_Qv (fun (_ : Unit) => True) (fun (_ : Unit) (t : State) => ∃ (g2 : Nat → Int32), (∀ j : Nat, j < 4096 → g2 j = 0) ∧ cB D (va_A [(h0, .inr (5, [.ref d0, .int w, .int h])), (d0, .inl (cI, 4096, .inl g))] sz) [(h0, .inr (5, [.ref d0, .int x, .int y])), (d0, .inl (cI, 4096, .inl g2))] [(cI, .int)] t) (va_A [(h0, .inr (5, [.ref d0, .int w, .int h])), (d0, .inl (cI, 4096, .inl g))] sz)) 0 0 (va_A [(h0, .inr (5, [.ref d0, .int w, .int h])), (d0, .inl (cI, 4096, .inl g))] sz) := by
  refine Met.ofW (cc := cX5_begin) (maxL := 3) (ret := none) (by decide) rfl ?_
  intro p e s m args below meth c s₁ B hml hv
  obtain ⟨rfl, hsz, hP, hK, hD0, hN⟩ := hv
  have hx := B.exec
  have hb := B.bytes
  have hr := B.returns
  have hts0 := atoms_spec (ws := (wB yX5_begin cX5_begin 3 none)) B.pre
  have hts : ∀ w ∈ bigW, w.before _ s = true := fun w h => hts0 w (List.mem_cons_of_mem _ h)
  have hown : s.vm.findClass RX5 = some m.cls := findClass_of_methodNamed B.named
  have hlocks := B.notSynchronized
  subst hsz
  have hD := hD0.self (sz := s.heap.size)
  generalize hAe : va_A [(h0, .inr (5, [.ref d0, .int w, .int h])), (d0, .inl (cI, 4096, .inl g))] s.heap.size = A at hD ⊢
  have hA : ∀ q : Nat, s.heap.size ≤ q → A q := fun q h => by rw [← hAe]; exact Or.inr h
  have hS : va_S A s.heap s.heap [] := va_S.rf
  have hP : va_P D vwCl [(h0, .inr (5, [.ref d0, .int w, .int h])), (d0, .inl (cI, 4096, .inl g))] s.heap := hP
  have hl := lv_entry ([.ref h0, .int x, .int y]) (n := 3) (Nat.le_of_ble_eq_true rfl)
  rw [lg_entry_eq]
  generalize (lg_sl ([.ref h0, .int x, .int y]) ++ List.replicate (3 - (lg_sl ([.ref h0, .int x, .int y])).length) Slot.unset).toArray = ls at hl ⊢
  have hl : lv_has ls 3 [(0, .ref h0), (1, .int x), (2, .int y)] := hl
  clear hts0 hD0 hAe
  refine my_abs (fun R Q hR hQ => ?_)
  refine lv_aload_n hx hb dX5_begin_0 rfl (lv_at hl 0 rfl) ?_
  refine lv_iload_n hx hb dX5_begin_1 rfl (lv_at hl 1 rfl) ?_
  refine va_put (D := D) (ci := 5) (v := .int x) (ty := .int) (C := RX5) (T := TX5) (N := 3) hx hb hts hi_X5 tyX5 tyX5_ok nmX5 hown hK hP hD hS 0 rfl rfl 1 (by decide) (hts _ bw_10) (fun _ h9 => h9) rfl (by decide +kernel) rfl rfl (Nat.le_of_ble_eq_true rfl) dX5_begin_2 (fun H locs hP hD hS => ?_)
  have hP : va_P D vwCl [(h0, .inr (5, [.ref d0, .int x, .int h])), (d0, .inl (cI, 4096, .inl g))] H := hP
  have hD : va_D A [(h0, .inr (5, [.ref d0, .int x, .int h])), (d0, .inl (cI, 4096, .inl g))] := hD
  refine lv_aload_n hx hb dX5_begin_5 rfl (lv_at hl 0 rfl) ?_
  refine lv_iload_n hx hb dX5_begin_6 rfl (lv_at hl 2 rfl) ?_
  refine va_put (D := D) (ci := 5) (v := .int y) (ty := .int) (C := RX5) (T := TX5) (N := 3) hx hb hts hi_X5 tyX5 tyX5_ok nmX5 hown hK hP hD hS 0 rfl rfl 2 (by decide) (hts _ bw_11) (fun _ h9 => h9) rfl (by decide +kernel) rfl rfl (Nat.le_of_ble_eq_true rfl) dX5_begin_7 (fun H locs hP hD hS => ?_)
  have hP : va_P D vwCl [(h0, .inr (5, [.ref d0, .int x, .int y])), (d0, .inl (cI, 4096, .inl g))] H := hP
  have hD : va_D A [(h0, .inr (5, [.ref d0, .int x, .int y])), (d0, .inl (cI, 4096, .inl g))] := hD
  refine lv_aload_n hx hb dX5_begin_10 rfl (lv_at hl 0 rfl) ?_
  refine va_get (D := D) (ci := 5) (v := .ref d0) (C := RX5) (T := TX5) (N := 3) hx hb hts hi_X5 hown hK hP 0 rfl rfl 0 (by decide) (hts _ bw_17) (fun _ h9 => h9) rfl dX5_begin_11 ?_
  refine lv_iconst (v := 0) hx hb dX5_begin_14 (by decide) ?_
  have hPc := hP.sub (ws' := [(d0, .inl (cI, 4096, .inl g))]) [1] rfl
  have hDc := hD.sub (ws' := [(d0, .inl (cI, 4096, .inl g))]) [1] (by decide) rfl
  have hKc := hK.sub (tys' := [(cI, .int)]) [0] rfl
  have hFc := va_free (wc := [(d0, .inl (cI, 4096, .inl g))]) hD hS hA [1] rfl
  refine va_callv (va_runS (As := [.ref d0, .int 0]) (rest := []) ⟨hx, hb, hml, hown, hts⟩ (k_J7_fill_53178_4096 l D H.size d0 g 0 cI) (va_cwS 2 hts (gS bw_20 bw_21 bw_19 bw_18) rfl rfl rfl (by decide +kernel) ⟨(by rw [hR]; exact Nat.le_of_ble_eq_true rfl), (by rw [hR]; exact Nat.le_of_ble_eq_true rfl)⟩) ⟨cP_blind, cP_at hPc hKc hDc hN⟩ rfl rfl hl.1 rfl (lv_room (Nat.le_of_ble_eq_true rfl)) dX5_begin_15 ⟨(by rw [hR]; exact Nat.le_of_ble_eq_true rfl), (by rw [hR]; exact Nat.le_of_ble_eq_true rfl)⟩) hS (fun q _ h => hFc q h) hFc (fun u9 t9 H1 locs ht hvm hr_1 hB hz1 hk1 hS => ?_)
  try dsimp only at hr_1
  obtain ⟨g_2, b_3, hP1, hK1, hD1⟩ := hB
  rw [ht] at hP1
  obtain ⟨hP, hD⟩ := va_join (wr := [(h0, .inr (5, [.ref d0, .int x, .int y]))]) (w1 := [(d0, .inl (cI, 4096, .inl g_2))]) hP hD [1] [0] rfl rfl (by decide) (by decide) hk1 hFc hP1 hD1
  clear hz1 hk1 hFc hKc hDc hPc
  generalize H1 = H at hP hS ⊢
  have hP : va_P D vwCl [(h0, .inr (5, [.ref d0, .int x, .int y])), (d0, .inl (cI, 4096, .inl g_2))] H := hP
  have hD : va_D A [(h0, .inr (5, [.ref d0, .int x, .int y])), (d0, .inl (cI, 4096, .inl g_2))] := hD
  have hP9 := hP.sub (ws' := [(h0, .inr (5, [.ref d0, .int x, .int y])), (d0, .inl (cI, 4096, .inl g_2))]) [0, 1] rfl
  have hD9 := hD.sub (ws' := [(h0, .inr (5, [.ref d0, .int x, .int y])), (d0, .inl (cI, 4096, .inl g_2))]) [0, 1] (by decide) rfl
  have hK9 := hK.sub (tys' := [(cI, .int)]) [0] rfl
  refine hQ _ _ _ _ _ ?_
  exact W.vret hx hb hr (fun t ht hW => ⟨⟨(), rfl, trivial, ⟨g_2, b_3, by rw [ht]; exact hP9, va_K.moved hW.alike hK9, hD9⟩⟩, hS.F ht⟩) hS.2.2 dX5_begin_18
end
section
set_option maxHeartbeats 4000000 in
set_option maxRecDepth 100000 in
theorem k_X0_holds (l : Launch) (D : va_G) (sz : Nat) (h0 : Nat) (bx0 by0 bx1 by1 : Int32) (x y : Int32) : Met l yX0_holds (wB yX0_holds cX0_holds 3 (some .boolean)) ({ frames := 0, cells := 0, slots := 0, locals := 0 }) (cP D [(h0, .inr (0, [.int bx0, .int by0, .int bx1, .int by1]))] [] sz [.ref h0, .int x, .int y]) (va_Qi (fun (r : Int32) (_ : Unit) => r = if bx0.toInt ≤ x.toInt ∧ x.toInt ≤ bx1.toInt ∧ by0.toInt ≤ y.toInt ∧ y.toInt ≤ by1.toInt then 1 else 0) (fun (_ : Unit) (t : State) => cB D (va_A [(h0, .inr (0, [.int bx0, .int by0, .int bx1, .int by1]))] sz) [(h0, .inr (0, [.int bx0, .int by0, .int bx1, .int by1]))] [] t) (va_A [(h0, .inr (0, [.int bx0, .int by0, .int bx1, .int by1]))] sz)) 0 0 (va_A [(h0, .inr (0, [.int bx0, .int by0, .int bx1, .int by1]))] sz) := by
  refine Met.ofW (cc := cX0_holds) (maxL := 3) (ret := (some .boolean)) (by decide) rfl ?_
  intro p e s m args below meth c s₁ B hml hv
  obtain ⟨rfl, hsz, hP, hK, hD0, hN⟩ := hv
  have hx := B.exec
  have hb := B.bytes
  have hr := B.returns
  have hts0 := atoms_spec (ws := (wB yX0_holds cX0_holds 3 (some .boolean))) B.pre
  have hts : ∀ w ∈ bigW, w.before _ s = true := fun w h => hts0 w (List.mem_cons_of_mem _ h)
  have hown : s.vm.findClass RX0 = some m.cls := findClass_of_methodNamed B.named
  have hlocks := B.notSynchronized
  subst hsz
  have hD := hD0.self (sz := s.heap.size)
  generalize hAe : va_A [(h0, .inr (0, [.int bx0, .int by0, .int bx1, .int by1]))] s.heap.size = A at hD ⊢
  have hA : ∀ q : Nat, s.heap.size ≤ q → A q := fun q h => by rw [← hAe]; exact Or.inr h
  have hS : va_S A s.heap s.heap [] := va_S.rf
  have hP : va_P D vwCl [(h0, .inr (0, [.int bx0, .int by0, .int bx1, .int by1]))] s.heap := hP
  have hl := lv_entry ([.ref h0, .int x, .int y]) (n := 3) (Nat.le_of_ble_eq_true rfl)
  rw [lg_entry_eq]
  generalize (lg_sl ([.ref h0, .int x, .int y]) ++ List.replicate (3 - (lg_sl ([.ref h0, .int x, .int y])).length) Slot.unset).toArray = ls at hl ⊢
  have hl : lv_has ls 3 [(0, .ref h0), (1, .int x), (2, .int y)] := hl
  clear hts0 hD0 hAe
  refine my_abs (fun R Q hR hQ => ?_)
  refine lv_iload_n hx hb dX0_holds_0 rfl (lv_at hl 1 rfl) ?_
  refine lv_aload_n hx hb dX0_holds_1 rfl (lv_at hl 0 rfl) ?_
  refine va_get (D := D) (ci := 0) (v := .int bx0) (C := RX0) (T := TX0) (N := 4) hx hb hts hi_X0 hown hK hP 0 rfl rfl 0 (by decide) (hts _ bw_22) (fun _ h9 => h9) rfl dX0_holds_2 ?_
  refine lv_icmp_lt (tgt := 36) hx hb dX0_holds_5 (by decide) (fun c_1 => ?_) (fun c_1 => ?_)
  · skip
    have f_2 : x.toInt < bx0.toInt := f_lt rfl rfl c_1
    refine lv_iconst (v := 0) hx hb dX0_holds_36 (by decide) ?_
    have hP9 := hP.sub (ws' := [(h0, .inr (0, [.int bx0, .int by0, .int bx1, .int by1]))]) [0] rfl
    have hD9 := hD.sub (ws' := [(h0, .inr (0, [.int bx0, .int by0, .int bx1, .int by1]))]) [0] (by decide) rfl
    have hK9 := hK.sub (tys' := []) [] rfl
    refine hQ _ _ _ _ _ ?_
    exact W.zret (v := 0) hx hb hr rfl (fun t ht hW => ⟨⟨0, (), rfl, (if_neg (by omega)).symm, ⟨by rw [ht]; exact hP9, va_K.moved hW.alike hK9, hD9⟩⟩, hS.F ht⟩) hS.2.2 dX0_holds_37
  · skip
    have f_2 : ¬ (x.toInt < bx0.toInt) := fn_lt rfl rfl c_1
    refine lv_iload_n hx hb dX0_holds_8 rfl (lv_at hl 1 rfl) ?_
    refine lv_aload_n hx hb dX0_holds_9 rfl (lv_at hl 0 rfl) ?_
    refine va_get (D := D) (ci := 0) (v := .int bx1) (C := RX0) (T := TX0) (N := 4) hx hb hts hi_X0 hown hK hP 0 rfl rfl 2 (by decide) (hts _ bw_23) (fun _ h9 => h9) rfl dX0_holds_10 ?_
    refine lv_icmp_gt (tgt := 36) hx hb dX0_holds_13 (by decide) (fun c_3 => ?_) (fun c_3 => ?_)
    · skip
      have f_4 : bx1.toInt < x.toInt := f_lt rfl rfl c_3
      refine lv_iconst (v := 0) hx hb dX0_holds_36 (by decide) ?_
      have hP9 := hP.sub (ws' := [(h0, .inr (0, [.int bx0, .int by0, .int bx1, .int by1]))]) [0] rfl
      have hD9 := hD.sub (ws' := [(h0, .inr (0, [.int bx0, .int by0, .int bx1, .int by1]))]) [0] (by decide) rfl
      have hK9 := hK.sub (tys' := []) [] rfl
      refine hQ _ _ _ _ _ ?_
      exact W.zret (v := 0) hx hb hr rfl (fun t ht hW => ⟨⟨0, (), rfl, (if_neg (by omega)).symm, ⟨by rw [ht]; exact hP9, va_K.moved hW.alike hK9, hD9⟩⟩, hS.F ht⟩) hS.2.2 dX0_holds_37
    · skip
      have f_4 : ¬ (bx1.toInt < x.toInt) := fn_lt rfl rfl c_3
      refine lv_iload_n hx hb dX0_holds_16 rfl (lv_at hl 2 rfl) ?_
      refine lv_aload_n hx hb dX0_holds_17 rfl (lv_at hl 0 rfl) ?_
      refine va_get (D := D) (ci := 0) (v := .int by0) (C := RX0) (T := TX0) (N := 4) hx hb hts hi_X0 hown hK hP 0 rfl rfl 1 (by decide) (hts _ bw_24) (fun _ h9 => h9) rfl dX0_holds_18 ?_
      refine lv_icmp_lt (tgt := 36) hx hb dX0_holds_21 (by decide) (fun c_5 => ?_) (fun c_5 => ?_)
      · skip
        have f_6 : y.toInt < by0.toInt := f_lt rfl rfl c_5
        refine lv_iconst (v := 0) hx hb dX0_holds_36 (by decide) ?_
        have hP9 := hP.sub (ws' := [(h0, .inr (0, [.int bx0, .int by0, .int bx1, .int by1]))]) [0] rfl
        have hD9 := hD.sub (ws' := [(h0, .inr (0, [.int bx0, .int by0, .int bx1, .int by1]))]) [0] (by decide) rfl
        have hK9 := hK.sub (tys' := []) [] rfl
        refine hQ _ _ _ _ _ ?_
        exact W.zret (v := 0) hx hb hr rfl (fun t ht hW => ⟨⟨0, (), rfl, (if_neg (by omega)).symm, ⟨by rw [ht]; exact hP9, va_K.moved hW.alike hK9, hD9⟩⟩, hS.F ht⟩) hS.2.2 dX0_holds_37
      · skip
        have f_6 : ¬ (y.toInt < by0.toInt) := fn_lt rfl rfl c_5
        refine lv_iload_n hx hb dX0_holds_24 rfl (lv_at hl 2 rfl) ?_
        refine lv_aload_n hx hb dX0_holds_25 rfl (lv_at hl 0 rfl) ?_
        refine va_get (D := D) (ci := 0) (v := .int by1) (C := RX0) (T := TX0) (N := 4) hx hb hts hi_X0 hown hK hP 0 rfl rfl 3 (by decide) (hts _ bw_25) (fun _ h9 => h9) rfl dX0_holds_26 ?_
        refine lv_icmp_gt (tgt := 36) hx hb dX0_holds_29 (by decide) (fun c_7 => ?_) (fun c_7 => ?_)
        · skip
          have f_8 : by1.toInt < y.toInt := f_lt rfl rfl c_7
          refine lv_iconst (v := 0) hx hb dX0_holds_36 (by decide) ?_
          have hP9 := hP.sub (ws' := [(h0, .inr (0, [.int bx0, .int by0, .int bx1, .int by1]))]) [0] rfl
          have hD9 := hD.sub (ws' := [(h0, .inr (0, [.int bx0, .int by0, .int bx1, .int by1]))]) [0] (by decide) rfl
          have hK9 := hK.sub (tys' := []) [] rfl
          refine hQ _ _ _ _ _ ?_
          exact W.zret (v := 0) hx hb hr rfl (fun t ht hW => ⟨⟨0, (), rfl, (if_neg (by omega)).symm, ⟨by rw [ht]; exact hP9, va_K.moved hW.alike hK9, hD9⟩⟩, hS.F ht⟩) hS.2.2 dX0_holds_37
        · skip
          have f_8 : ¬ (by1.toInt < y.toInt) := fn_lt rfl rfl c_7
          refine lv_iconst (v := 1) hx hb dX0_holds_32 (by decide) ?_
          refine lv_goto (tgt := 37) hx hb dX0_holds_33 (by decide) ?_
          have hP9 := hP.sub (ws' := [(h0, .inr (0, [.int bx0, .int by0, .int bx1, .int by1]))]) [0] rfl
          have hD9 := hD.sub (ws' := [(h0, .inr (0, [.int bx0, .int by0, .int bx1, .int by1]))]) [0] (by decide) rfl
          have hK9 := hK.sub (tys' := []) [] rfl
          refine hQ _ _ _ _ _ ?_
          exact W.zret (v := 1) hx hb hr rfl (fun t ht hW => ⟨⟨1, (), rfl, (if_pos (by omega)).symm, ⟨by rw [ht]; exact hP9, va_K.moved hW.alike hK9, hD9⟩⟩, hS.F ht⟩) hS.2.2 dX0_holds_37

set_option maxHeartbeats 4000000 in
set_option maxRecDepth 100000 in
theorem k_X0_bound (l : Launch) (D : va_G) (sz : Nat) (h0 : Nat) (bx0 by0 bx1 by1 : Int32) (x y z w : Int32) : Met l yX0_bound (wB yX0_bound cX0_bound 5 none) ({ frames := 0, cells := 0, slots := 0, locals := 0 }) (cP D [(h0, .inr (0, [.int bx0, .int by0, .int bx1, .int by1]))] [] sz [.ref h0, .int x, .int y, .int z, .int w]) (va_Qv (fun (_ : Unit) => True) (fun (_ : Unit) (t : State) => cB D (va_A [(h0, .inr (0, [.int bx0, .int by0, .int bx1, .int by1]))] sz) [(h0, .inr (0, [.int x, .int y, .int z, .int w]))] [] t) (va_A [(h0, .inr (0, [.int bx0, .int by0, .int bx1, .int by1]))] sz)) 0 0 (va_A [(h0, .inr (0, [.int bx0, .int by0, .int bx1, .int by1]))] sz) := by
  refine Met.ofW (cc := cX0_bound) (maxL := 5) (ret := none) (by decide) rfl ?_
  intro p e s m args below meth c s₁ B hml hv
  obtain ⟨rfl, hsz, hP, hK, hD0, hN⟩ := hv
  have hx := B.exec
  have hb := B.bytes
  have hr := B.returns
  have hts0 := atoms_spec (ws := (wB yX0_bound cX0_bound 5 none)) B.pre
  have hts : ∀ w ∈ bigW, w.before _ s = true := fun w h => hts0 w (List.mem_cons_of_mem _ h)
  have hown : s.vm.findClass RX0 = some m.cls := findClass_of_methodNamed B.named
  have hlocks := B.notSynchronized
  subst hsz
  have hD := hD0.self (sz := s.heap.size)
  generalize hAe : va_A [(h0, .inr (0, [.int bx0, .int by0, .int bx1, .int by1]))] s.heap.size = A at hD ⊢
  have hA : ∀ q : Nat, s.heap.size ≤ q → A q := fun q h => by rw [← hAe]; exact Or.inr h
  have hS : va_S A s.heap s.heap [] := va_S.rf
  have hP : va_P D vwCl [(h0, .inr (0, [.int bx0, .int by0, .int bx1, .int by1]))] s.heap := hP
  have hl := lv_entry ([.ref h0, .int x, .int y, .int z, .int w]) (n := 5) (Nat.le_of_ble_eq_true rfl)
  rw [lg_entry_eq]
  generalize (lg_sl ([.ref h0, .int x, .int y, .int z, .int w]) ++ List.replicate (5 - (lg_sl ([.ref h0, .int x, .int y, .int z, .int w])).length) Slot.unset).toArray = ls at hl ⊢
  have hl : lv_has ls 5 [(0, .ref h0), (1, .int x), (2, .int y), (3, .int z), (4, .int w)] := hl
  clear hts0 hD0 hAe
  refine my_abs (fun R Q hR hQ => ?_)
  refine lv_aload_n hx hb dX0_bound_0 rfl (lv_at hl 0 rfl) ?_
  refine lv_iload_n hx hb dX0_bound_1 rfl (lv_at hl 1 rfl) ?_
  refine va_put (D := D) (ci := 0) (v := .int x) (ty := .int) (C := RX0) (T := TX0) (N := 4) hx hb hts hi_X0 tyX0 tyX0_ok nmX0 hown hK hP hD hS 0 rfl rfl 0 (by decide) (hts _ bw_22) (fun _ h9 => h9) rfl (by decide +kernel) rfl rfl (Nat.le_of_ble_eq_true rfl) dX0_bound_2 (fun H locs hP hD hS => ?_)
  have hP : va_P D vwCl [(h0, .inr (0, [.int x, .int by0, .int bx1, .int by1]))] H := hP
  have hD : va_D A [(h0, .inr (0, [.int x, .int by0, .int bx1, .int by1]))] := hD
  refine lv_aload_n hx hb dX0_bound_5 rfl (lv_at hl 0 rfl) ?_
  refine lv_iload_n hx hb dX0_bound_6 rfl (lv_at hl 2 rfl) ?_
  refine va_put (D := D) (ci := 0) (v := .int y) (ty := .int) (C := RX0) (T := TX0) (N := 4) hx hb hts hi_X0 tyX0 tyX0_ok nmX0 hown hK hP hD hS 0 rfl rfl 1 (by decide) (hts _ bw_24) (fun _ h9 => h9) rfl (by decide +kernel) rfl rfl (Nat.le_of_ble_eq_true rfl) dX0_bound_7 (fun H locs hP hD hS => ?_)
  have hP : va_P D vwCl [(h0, .inr (0, [.int x, .int y, .int bx1, .int by1]))] H := hP
  have hD : va_D A [(h0, .inr (0, [.int x, .int y, .int bx1, .int by1]))] := hD
  refine lv_aload_n hx hb dX0_bound_10 rfl (lv_at hl 0 rfl) ?_
  refine lv_iload_n hx hb dX0_bound_11 rfl (lv_at hl 3 rfl) ?_
  refine va_put (D := D) (ci := 0) (v := .int z) (ty := .int) (C := RX0) (T := TX0) (N := 4) hx hb hts hi_X0 tyX0 tyX0_ok nmX0 hown hK hP hD hS 0 rfl rfl 2 (by decide) (hts _ bw_23) (fun _ h9 => h9) rfl (by decide +kernel) rfl rfl (Nat.le_of_ble_eq_true rfl) dX0_bound_12 (fun H locs hP hD hS => ?_)
  have hP : va_P D vwCl [(h0, .inr (0, [.int x, .int y, .int z, .int by1]))] H := hP
  have hD : va_D A [(h0, .inr (0, [.int x, .int y, .int z, .int by1]))] := hD
  refine lv_aload_n hx hb dX0_bound_15 rfl (lv_at hl 0 rfl) ?_
  refine lv_iload hx hb dX0_bound_16 (lv_at hl 4 rfl) ?_
  refine va_put (D := D) (ci := 0) (v := .int w) (ty := .int) (C := RX0) (T := TX0) (N := 4) hx hb hts hi_X0 tyX0 tyX0_ok nmX0 hown hK hP hD hS 0 rfl rfl 3 (by decide) (hts _ bw_25) (fun _ h9 => h9) rfl (by decide +kernel) rfl rfl (Nat.le_of_ble_eq_true rfl) dX0_bound_18 (fun H locs hP hD hS => ?_)
  have hP : va_P D vwCl [(h0, .inr (0, [.int x, .int y, .int z, .int w]))] H := hP
  have hD : va_D A [(h0, .inr (0, [.int x, .int y, .int z, .int w]))] := hD
  have hP9 := hP.sub (ws' := [(h0, .inr (0, [.int x, .int y, .int z, .int w]))]) [0] rfl
  have hD9 := hD.sub (ws' := [(h0, .inr (0, [.int x, .int y, .int z, .int w]))]) [0] (by decide) rfl
  have hK9 := hK.sub (tys' := []) [] rfl
  refine hQ _ _ _ _ _ ?_
  exact W.vret hx hb hr (fun t ht hW => ⟨⟨(), rfl, trivial, ⟨by rw [ht]; exact hP9, va_K.moved hW.alike hK9, hD9⟩⟩, hS.F ht⟩) hS.2.2 dX0_bound_21

set_option maxHeartbeats 4000000 in
set_option maxRecDepth 100000 in
theorem k_X1_weightOfSource (l : Launch) (D : va_G) (sz : Nat) (h0 bx : Nat) (ik wy op : Int32) (n : Int32) (hwy : 0 ≤ wy.toInt ∧ wy.toInt ≤ 12) : Met l yX1_weightOfSource (wB yX1_weightOfSource cX1_weightOfSource 2 (some .int)) ({ frames := 0, cells := 0, slots := 0, locals := 0 }) (cP D [(h0, .inr (1, [.ref bx, .int ik, .int wy, .int op]))] [] sz [.ref h0, .int n]) (va_Qi (fun (r : Int32) (_ : Unit) => r = wSP wy n) (fun (_ : Unit) (t : State) => cB D (va_A [(h0, .inr (1, [.ref bx, .int ik, .int wy, .int op]))] sz) [(h0, .inr (1, [.ref bx, .int ik, .int wy, .int op]))] [] t) (va_A [(h0, .inr (1, [.ref bx, .int ik, .int wy, .int op]))] sz)) 0 0 (va_A [(h0, .inr (1, [.ref bx, .int ik, .int wy, .int op]))] sz) := by
  refine Met.ofW (cc := cX1_weightOfSource) (maxL := 2) (ret := (some .int)) (by decide) rfl ?_
  intro p e s m args below meth c s₁ B hml hv
  obtain ⟨rfl, hsz, hP, hK, hD0, hN⟩ := hv
  have hx := B.exec
  have hb := B.bytes
  have hr := B.returns
  have hts0 := atoms_spec (ws := (wB yX1_weightOfSource cX1_weightOfSource 2 (some .int))) B.pre
  have hts : ∀ w ∈ bigW, w.before _ s = true := fun w h => hts0 w (List.mem_cons_of_mem _ h)
  have hown : s.vm.findClass RX1 = some m.cls := findClass_of_methodNamed B.named
  have hlocks := B.notSynchronized
  subst hsz
  have hD := hD0.self (sz := s.heap.size)
  generalize hAe : va_A [(h0, .inr (1, [.ref bx, .int ik, .int wy, .int op]))] s.heap.size = A at hD ⊢
  have hA : ∀ q : Nat, s.heap.size ≤ q → A q := fun q h => by rw [← hAe]; exact Or.inr h
  have hS : va_S A s.heap s.heap [] := va_S.rf
  have hP : va_P D vwCl [(h0, .inr (1, [.ref bx, .int ik, .int wy, .int op]))] s.heap := hP
  have hl := lv_entry ([.ref h0, .int n]) (n := 2) (Nat.le_of_ble_eq_true rfl)
  rw [lg_entry_eq]
  generalize (lg_sl ([.ref h0, .int n]) ++ List.replicate (2 - (lg_sl ([.ref h0, .int n])).length) Slot.unset).toArray = ls at hl ⊢
  have hl : lv_has ls 2 [(0, .ref h0), (1, .int n)] := hl
  clear hts0 hD0 hAe
  refine my_abs (fun R Q hR hQ => ?_)
  refine lv_aload_n hx hb dX1_weightOfSource_0 rfl (lv_at hl 0 rfl) ?_
  refine va_get (D := D) (ci := 1) (v := .int wy) (C := RX1) (T := TX1) (N := 4) hx hb hts hi_X1 hown hK hP 0 rfl rfl 2 (by decide) (hts _ bw_26) (fun _ h9 => h9) rfl dX1_weightOfSource_1 ?_
  obtain ⟨j, hj, ej⟩ := i_of (x := wy) (N := 13) (by omega) (by omega) (by decide)
  subst ej
  rcases (show j = 0 ∨ j = 1 ∨ j = 2 ∨ j = 3 ∨ j = 4 ∨ j = 5 ∨ j = 6 ∨ j = 7 ∨ j = 8 ∨ j = 9 ∨ j = 10 ∨ j = 11 ∨ j = 12 by omega) with rfl | rfl | rfl | rfl | rfl | rfl | rfl | rfl | rfl | rfl | rfl | rfl | rfl
  · skip
    refine lv_tableOut (tgt := 80) hx hb dX1_weightOfSource_4 (by decide) (by decide) ?_
    refine lv_iconst (v := 0) hx hb dX1_weightOfSource_80 (by decide) ?_
    have hP9 := hP.sub (ws' := [(h0, .inr (1, [.ref bx, .int ik, .int (nI 0), .int op]))]) [0] rfl
    have hD9 := hD.sub (ws' := [(h0, .inr (1, [.ref bx, .int ik, .int (nI 0), .int op]))]) [0] (by decide) rfl
    have hK9 := hK.sub (tys' := []) [] rfl
    refine hQ _ _ _ _ _ ?_
    exact W.iret (v := 0) hx hb hr (fun t ht hW => ⟨⟨0, (), rfl, (by subst_vars; rfl), ⟨by rw [ht]; exact hP9, va_K.moved hW.alike hK9, hD9⟩⟩, hS.F ht⟩) hS.2.2 dX1_weightOfSource_81
  · skip
    refine lv_tableIn (off := 64) (tgt := 68) hx hb dX1_weightOfSource_4 (by decide) (by decide) rfl (by decide) ?_
    refine lv_sipush (v := 255) hx hb dX1_weightOfSource_68 (by decide) ?_
    have hP9 := hP.sub (ws' := [(h0, .inr (1, [.ref bx, .int ik, .int (nI 1), .int op]))]) [0] rfl
    have hD9 := hD.sub (ws' := [(h0, .inr (1, [.ref bx, .int ik, .int (nI 1), .int op]))]) [0] (by decide) rfl
    have hK9 := hK.sub (tys' := []) [] rfl
    refine hQ _ _ _ _ _ ?_
    exact W.iret (v := 255) hx hb hr (fun t ht hW => ⟨⟨255, (), rfl, (by subst_vars; rfl), ⟨by rw [ht]; exact hP9, va_K.moved hW.alike hK9, hD9⟩⟩, hS.F ht⟩) hS.2.2 dX1_weightOfSource_71
  · skip
    refine lv_tableIn (off := 76) (tgt := 80) hx hb dX1_weightOfSource_4 (by decide) (by decide) rfl (by decide) ?_
    refine lv_iconst (v := 0) hx hb dX1_weightOfSource_80 (by decide) ?_
    have hP9 := hP.sub (ws' := [(h0, .inr (1, [.ref bx, .int ik, .int (nI 2), .int op]))]) [0] rfl
    have hD9 := hD.sub (ws' := [(h0, .inr (1, [.ref bx, .int ik, .int (nI 2), .int op]))]) [0] (by decide) rfl
    have hK9 := hK.sub (tys' := []) [] rfl
    refine hQ _ _ _ _ _ ?_
    exact W.iret (v := 0) hx hb hr (fun t ht hW => ⟨⟨0, (), rfl, (by subst_vars; rfl), ⟨by rw [ht]; exact hP9, va_K.moved hW.alike hK9, hD9⟩⟩, hS.F ht⟩) hS.2.2 dX1_weightOfSource_81
  · skip
    refine lv_tableIn (off := 64) (tgt := 68) hx hb dX1_weightOfSource_4 (by decide) (by decide) rfl (by decide) ?_
    refine lv_sipush (v := 255) hx hb dX1_weightOfSource_68 (by decide) ?_
    have hP9 := hP.sub (ws' := [(h0, .inr (1, [.ref bx, .int ik, .int (nI 3), .int op]))]) [0] rfl
    have hD9 := hD.sub (ws' := [(h0, .inr (1, [.ref bx, .int ik, .int (nI 3), .int op]))]) [0] (by decide) rfl
    have hK9 := hK.sub (tys' := []) [] rfl
    refine hQ _ _ _ _ _ ?_
    exact W.iret (v := 255) hx hb hr (fun t ht hW => ⟨⟨255, (), rfl, (by subst_vars; rfl), ⟨by rw [ht]; exact hP9, va_K.moved hW.alike hK9, hD9⟩⟩, hS.F ht⟩) hS.2.2 dX1_weightOfSource_71
  · skip
    refine lv_tableIn (off := 70) (tgt := 74) hx hb dX1_weightOfSource_4 (by decide) (by decide) rfl (by decide) ?_
    refine lv_sipush (v := 255) hx hb dX1_weightOfSource_74 (by decide) ?_
    refine lv_iload_n hx hb dX1_weightOfSource_77 rfl (lv_at hl 1 rfl) ?_
    refine lv_isub hx hb dX1_weightOfSource_78 ?_
    refine lv_topi (fun y_1 ey_1 => ?_)
    have hP9 := hP.sub (ws' := [(h0, .inr (1, [.ref bx, .int ik, .int (nI 4), .int op]))]) [0] rfl
    have hD9 := hD.sub (ws' := [(h0, .inr (1, [.ref bx, .int ik, .int (nI 4), .int op]))]) [0] (by decide) rfl
    have hK9 := hK.sub (tys' := []) [] rfl
    refine hQ _ _ _ _ _ ?_
    exact W.iret (v := y_1) hx hb hr (fun t ht hW => ⟨⟨y_1, (), rfl, (by subst_vars; rfl), ⟨by rw [ht]; exact hP9, va_K.moved hW.alike hK9, hD9⟩⟩, hS.F ht⟩) hS.2.2 dX1_weightOfSource_79
  · skip
    refine lv_tableIn (off := 68) (tgt := 72) hx hb dX1_weightOfSource_4 (by decide) (by decide) rfl (by decide) ?_
    refine lv_iload_n hx hb dX1_weightOfSource_72 rfl (lv_at hl 1 rfl) ?_
    have hP9 := hP.sub (ws' := [(h0, .inr (1, [.ref bx, .int ik, .int (nI 5), .int op]))]) [0] rfl
    have hD9 := hD.sub (ws' := [(h0, .inr (1, [.ref bx, .int ik, .int (nI 5), .int op]))]) [0] (by decide) rfl
    have hK9 := hK.sub (tys' := []) [] rfl
    refine hQ _ _ _ _ _ ?_
    exact W.iret (v := n) hx hb hr (fun t ht hW => ⟨⟨n, (), rfl, (by subst_vars; rfl), ⟨by rw [ht]; exact hP9, va_K.moved hW.alike hK9, hD9⟩⟩, hS.F ht⟩) hS.2.2 dX1_weightOfSource_73
  · skip
    refine lv_tableIn (off := 76) (tgt := 80) hx hb dX1_weightOfSource_4 (by decide) (by decide) rfl (by decide) ?_
    refine lv_iconst (v := 0) hx hb dX1_weightOfSource_80 (by decide) ?_
    have hP9 := hP.sub (ws' := [(h0, .inr (1, [.ref bx, .int ik, .int (nI 6), .int op]))]) [0] rfl
    have hD9 := hD.sub (ws' := [(h0, .inr (1, [.ref bx, .int ik, .int (nI 6), .int op]))]) [0] (by decide) rfl
    have hK9 := hK.sub (tys' := []) [] rfl
    refine hQ _ _ _ _ _ ?_
    exact W.iret (v := 0) hx hb hr (fun t ht hW => ⟨⟨0, (), rfl, (by subst_vars; rfl), ⟨by rw [ht]; exact hP9, va_K.moved hW.alike hK9, hD9⟩⟩, hS.F ht⟩) hS.2.2 dX1_weightOfSource_81
  · skip
    refine lv_tableIn (off := 70) (tgt := 74) hx hb dX1_weightOfSource_4 (by decide) (by decide) rfl (by decide) ?_
    refine lv_sipush (v := 255) hx hb dX1_weightOfSource_74 (by decide) ?_
    refine lv_iload_n hx hb dX1_weightOfSource_77 rfl (lv_at hl 1 rfl) ?_
    refine lv_isub hx hb dX1_weightOfSource_78 ?_
    refine lv_topi (fun y_2 ey_2 => ?_)
    have hP9 := hP.sub (ws' := [(h0, .inr (1, [.ref bx, .int ik, .int (nI 7), .int op]))]) [0] rfl
    have hD9 := hD.sub (ws' := [(h0, .inr (1, [.ref bx, .int ik, .int (nI 7), .int op]))]) [0] (by decide) rfl
    have hK9 := hK.sub (tys' := []) [] rfl
    refine hQ _ _ _ _ _ ?_
    exact W.iret (v := y_2) hx hb hr (fun t ht hW => ⟨⟨y_2, (), rfl, (by subst_vars; rfl), ⟨by rw [ht]; exact hP9, va_K.moved hW.alike hK9, hD9⟩⟩, hS.F ht⟩) hS.2.2 dX1_weightOfSource_79
  · skip
    refine lv_tableIn (off := 76) (tgt := 80) hx hb dX1_weightOfSource_4 (by decide) (by decide) rfl (by decide) ?_
    refine lv_iconst (v := 0) hx hb dX1_weightOfSource_80 (by decide) ?_
    have hP9 := hP.sub (ws' := [(h0, .inr (1, [.ref bx, .int ik, .int (nI 8), .int op]))]) [0] rfl
    have hD9 := hD.sub (ws' := [(h0, .inr (1, [.ref bx, .int ik, .int (nI 8), .int op]))]) [0] (by decide) rfl
    have hK9 := hK.sub (tys' := []) [] rfl
    refine hQ _ _ _ _ _ ?_
    exact W.iret (v := 0) hx hb hr (fun t ht hW => ⟨⟨0, (), rfl, (by subst_vars; rfl), ⟨by rw [ht]; exact hP9, va_K.moved hW.alike hK9, hD9⟩⟩, hS.F ht⟩) hS.2.2 dX1_weightOfSource_81
  · skip
    refine lv_tableIn (off := 68) (tgt := 72) hx hb dX1_weightOfSource_4 (by decide) (by decide) rfl (by decide) ?_
    refine lv_iload_n hx hb dX1_weightOfSource_72 rfl (lv_at hl 1 rfl) ?_
    have hP9 := hP.sub (ws' := [(h0, .inr (1, [.ref bx, .int ik, .int (nI 9), .int op]))]) [0] rfl
    have hD9 := hD.sub (ws' := [(h0, .inr (1, [.ref bx, .int ik, .int (nI 9), .int op]))]) [0] (by decide) rfl
    have hK9 := hK.sub (tys' := []) [] rfl
    refine hQ _ _ _ _ _ ?_
    exact W.iret (v := n) hx hb hr (fun t ht hW => ⟨⟨n, (), rfl, (by subst_vars; rfl), ⟨by rw [ht]; exact hP9, va_K.moved hW.alike hK9, hD9⟩⟩, hS.F ht⟩) hS.2.2 dX1_weightOfSource_73
  · skip
    refine lv_tableIn (off := 70) (tgt := 74) hx hb dX1_weightOfSource_4 (by decide) (by decide) rfl (by decide) ?_
    refine lv_sipush (v := 255) hx hb dX1_weightOfSource_74 (by decide) ?_
    refine lv_iload_n hx hb dX1_weightOfSource_77 rfl (lv_at hl 1 rfl) ?_
    refine lv_isub hx hb dX1_weightOfSource_78 ?_
    refine lv_topi (fun y_3 ey_3 => ?_)
    have hP9 := hP.sub (ws' := [(h0, .inr (1, [.ref bx, .int ik, .int (nI 10), .int op]))]) [0] rfl
    have hD9 := hD.sub (ws' := [(h0, .inr (1, [.ref bx, .int ik, .int (nI 10), .int op]))]) [0] (by decide) rfl
    have hK9 := hK.sub (tys' := []) [] rfl
    refine hQ _ _ _ _ _ ?_
    exact W.iret (v := y_3) hx hb hr (fun t ht hW => ⟨⟨y_3, (), rfl, (by subst_vars; rfl), ⟨by rw [ht]; exact hP9, va_K.moved hW.alike hK9, hD9⟩⟩, hS.F ht⟩) hS.2.2 dX1_weightOfSource_79
  · skip
    refine lv_tableIn (off := 70) (tgt := 74) hx hb dX1_weightOfSource_4 (by decide) (by decide) rfl (by decide) ?_
    refine lv_sipush (v := 255) hx hb dX1_weightOfSource_74 (by decide) ?_
    refine lv_iload_n hx hb dX1_weightOfSource_77 rfl (lv_at hl 1 rfl) ?_
    refine lv_isub hx hb dX1_weightOfSource_78 ?_
    refine lv_topi (fun y_4 ey_4 => ?_)
    have hP9 := hP.sub (ws' := [(h0, .inr (1, [.ref bx, .int ik, .int (nI 11), .int op]))]) [0] rfl
    have hD9 := hD.sub (ws' := [(h0, .inr (1, [.ref bx, .int ik, .int (nI 11), .int op]))]) [0] (by decide) rfl
    have hK9 := hK.sub (tys' := []) [] rfl
    refine hQ _ _ _ _ _ ?_
    exact W.iret (v := y_4) hx hb hr (fun t ht hW => ⟨⟨y_4, (), rfl, (by subst_vars; rfl), ⟨by rw [ht]; exact hP9, va_K.moved hW.alike hK9, hD9⟩⟩, hS.F ht⟩) hS.2.2 dX1_weightOfSource_79
  · skip
    refine lv_tableIn (off := 64) (tgt := 68) hx hb dX1_weightOfSource_4 (by decide) (by decide) rfl (by decide) ?_
    refine lv_sipush (v := 255) hx hb dX1_weightOfSource_68 (by decide) ?_
    have hP9 := hP.sub (ws' := [(h0, .inr (1, [.ref bx, .int ik, .int (nI 12), .int op]))]) [0] rfl
    have hD9 := hD.sub (ws' := [(h0, .inr (1, [.ref bx, .int ik, .int (nI 12), .int op]))]) [0] (by decide) rfl
    have hK9 := hK.sub (tys' := []) [] rfl
    refine hQ _ _ _ _ _ ?_
    exact W.iret (v := 255) hx hb hr (fun t ht hW => ⟨⟨255, (), rfl, (by subst_vars; rfl), ⟨by rw [ht]; exact hP9, va_K.moved hW.alike hK9, hD9⟩⟩, hS.F ht⟩) hS.2.2 dX1_weightOfSource_71

set_option maxHeartbeats 4000000 in
set_option maxRecDepth 100000 in
theorem k_X1_weightOfThere (l : Launch) (D : va_G) (sz : Nat) (h0 bx : Nat) (ik wy op : Int32) (n : Int32) (hwy : 0 ≤ wy.toInt ∧ wy.toInt ≤ 12) : Met l yX1_weightOfThere (wB yX1_weightOfThere cX1_weightOfThere 2 (some .int)) ({ frames := 0, cells := 0, slots := 0, locals := 0 }) (cP D [(h0, .inr (1, [.ref bx, .int ik, .int wy, .int op]))] [] sz [.ref h0, .int n]) (va_Qi (fun (r : Int32) (_ : Unit) => r = wTP wy n) (fun (_ : Unit) (t : State) => cB D (va_A [(h0, .inr (1, [.ref bx, .int ik, .int wy, .int op]))] sz) [(h0, .inr (1, [.ref bx, .int ik, .int wy, .int op]))] [] t) (va_A [(h0, .inr (1, [.ref bx, .int ik, .int wy, .int op]))] sz)) 0 0 (va_A [(h0, .inr (1, [.ref bx, .int ik, .int wy, .int op]))] sz) := by
  refine Met.ofW (cc := cX1_weightOfThere) (maxL := 2) (ret := (some .int)) (by decide) rfl ?_
  intro p e s m args below meth c s₁ B hml hv
  obtain ⟨rfl, hsz, hP, hK, hD0, hN⟩ := hv
  have hx := B.exec
  have hb := B.bytes
  have hr := B.returns
  have hts0 := atoms_spec (ws := (wB yX1_weightOfThere cX1_weightOfThere 2 (some .int))) B.pre
  have hts : ∀ w ∈ bigW, w.before _ s = true := fun w h => hts0 w (List.mem_cons_of_mem _ h)
  have hown : s.vm.findClass RX1 = some m.cls := findClass_of_methodNamed B.named
  have hlocks := B.notSynchronized
  subst hsz
  have hD := hD0.self (sz := s.heap.size)
  generalize hAe : va_A [(h0, .inr (1, [.ref bx, .int ik, .int wy, .int op]))] s.heap.size = A at hD ⊢
  have hA : ∀ q : Nat, s.heap.size ≤ q → A q := fun q h => by rw [← hAe]; exact Or.inr h
  have hS : va_S A s.heap s.heap [] := va_S.rf
  have hP : va_P D vwCl [(h0, .inr (1, [.ref bx, .int ik, .int wy, .int op]))] s.heap := hP
  have hl := lv_entry ([.ref h0, .int n]) (n := 2) (Nat.le_of_ble_eq_true rfl)
  rw [lg_entry_eq]
  generalize (lg_sl ([.ref h0, .int n]) ++ List.replicate (2 - (lg_sl ([.ref h0, .int n])).length) Slot.unset).toArray = ls at hl ⊢
  have hl : lv_has ls 2 [(0, .ref h0), (1, .int n)] := hl
  clear hts0 hD0 hAe
  refine my_abs (fun R Q hR hQ => ?_)
  refine lv_aload_n hx hb dX1_weightOfThere_0 rfl (lv_at hl 0 rfl) ?_
  refine va_get (D := D) (ci := 1) (v := .int wy) (C := RX1) (T := TX1) (N := 4) hx hb hts hi_X1 hown hK hP 0 rfl rfl 2 (by decide) (hts _ bw_26) (fun _ h9 => h9) rfl dX1_weightOfThere_1 ?_
  obtain ⟨j, hj, ej⟩ := i_of (x := wy) (N := 13) (by omega) (by omega) (by decide)
  subst ej
  rcases (show j = 0 ∨ j = 1 ∨ j = 2 ∨ j = 3 ∨ j = 4 ∨ j = 5 ∨ j = 6 ∨ j = 7 ∨ j = 8 ∨ j = 9 ∨ j = 10 ∨ j = 11 ∨ j = 12 by omega) with rfl | rfl | rfl | rfl | rfl | rfl | rfl | rfl | rfl | rfl | rfl | rfl | rfl
  · skip
    refine lv_tableOut (tgt := 76) hx hb dX1_weightOfThere_4 (by decide) (by decide) ?_
    refine lv_iconst (v := 0) hx hb dX1_weightOfThere_76 (by decide) ?_
    have hP9 := hP.sub (ws' := [(h0, .inr (1, [.ref bx, .int ik, .int (nI 0), .int op]))]) [0] rfl
    have hD9 := hD.sub (ws' := [(h0, .inr (1, [.ref bx, .int ik, .int (nI 0), .int op]))]) [0] (by decide) rfl
    have hK9 := hK.sub (tys' := []) [] rfl
    refine hQ _ _ _ _ _ ?_
    exact W.iret (v := 0) hx hb hr (fun t ht hW => ⟨⟨0, (), rfl, (by subst_vars; rfl), ⟨by rw [ht]; exact hP9, va_K.moved hW.alike hK9, hD9⟩⟩, hS.F ht⟩) hS.2.2 dX1_weightOfThere_77
  · skip
    refine lv_tableOut (tgt := 76) hx hb dX1_weightOfThere_4 (by decide) (by decide) ?_
    refine lv_iconst (v := 0) hx hb dX1_weightOfThere_76 (by decide) ?_
    have hP9 := hP.sub (ws' := [(h0, .inr (1, [.ref bx, .int ik, .int (nI 1), .int op]))]) [0] rfl
    have hD9 := hD.sub (ws' := [(h0, .inr (1, [.ref bx, .int ik, .int (nI 1), .int op]))]) [0] (by decide) rfl
    have hK9 := hK.sub (tys' := []) [] rfl
    refine hQ _ _ _ _ _ ?_
    exact W.iret (v := 0) hx hb hr (fun t ht hW => ⟨⟨0, (), rfl, (by subst_vars; rfl), ⟨by rw [ht]; exact hP9, va_K.moved hW.alike hK9, hD9⟩⟩, hS.F ht⟩) hS.2.2 dX1_weightOfThere_77
  · skip
    refine lv_tableIn (off := 60) (tgt := 64) hx hb dX1_weightOfThere_4 (by decide) (by decide) rfl (by decide) ?_
    refine lv_sipush (v := 255) hx hb dX1_weightOfThere_64 (by decide) ?_
    have hP9 := hP.sub (ws' := [(h0, .inr (1, [.ref bx, .int ik, .int (nI 2), .int op]))]) [0] rfl
    have hD9 := hD.sub (ws' := [(h0, .inr (1, [.ref bx, .int ik, .int (nI 2), .int op]))]) [0] (by decide) rfl
    have hK9 := hK.sub (tys' := []) [] rfl
    refine hQ _ _ _ _ _ ?_
    exact W.iret (v := 255) hx hb hr (fun t ht hW => ⟨⟨255, (), rfl, (by subst_vars; rfl), ⟨by rw [ht]; exact hP9, va_K.moved hW.alike hK9, hD9⟩⟩, hS.F ht⟩) hS.2.2 dX1_weightOfThere_67
  · skip
    refine lv_tableIn (off := 66) (tgt := 70) hx hb dX1_weightOfThere_4 (by decide) (by decide) rfl (by decide) ?_
    refine lv_sipush (v := 255) hx hb dX1_weightOfThere_70 (by decide) ?_
    refine lv_iload_n hx hb dX1_weightOfThere_73 rfl (lv_at hl 1 rfl) ?_
    refine lv_isub hx hb dX1_weightOfThere_74 ?_
    refine lv_topi (fun y_1 ey_1 => ?_)
    have hP9 := hP.sub (ws' := [(h0, .inr (1, [.ref bx, .int ik, .int (nI 3), .int op]))]) [0] rfl
    have hD9 := hD.sub (ws' := [(h0, .inr (1, [.ref bx, .int ik, .int (nI 3), .int op]))]) [0] (by decide) rfl
    have hK9 := hK.sub (tys' := []) [] rfl
    refine hQ _ _ _ _ _ ?_
    exact W.iret (v := y_1) hx hb hr (fun t ht hW => ⟨⟨y_1, (), rfl, (by subst_vars; rfl), ⟨by rw [ht]; exact hP9, va_K.moved hW.alike hK9, hD9⟩⟩, hS.F ht⟩) hS.2.2 dX1_weightOfThere_75
  · skip
    refine lv_tableIn (off := 60) (tgt := 64) hx hb dX1_weightOfThere_4 (by decide) (by decide) rfl (by decide) ?_
    refine lv_sipush (v := 255) hx hb dX1_weightOfThere_64 (by decide) ?_
    have hP9 := hP.sub (ws' := [(h0, .inr (1, [.ref bx, .int ik, .int (nI 4), .int op]))]) [0] rfl
    have hD9 := hD.sub (ws' := [(h0, .inr (1, [.ref bx, .int ik, .int (nI 4), .int op]))]) [0] (by decide) rfl
    have hK9 := hK.sub (tys' := []) [] rfl
    refine hQ _ _ _ _ _ ?_
    exact W.iret (v := 255) hx hb hr (fun t ht hW => ⟨⟨255, (), rfl, (by subst_vars; rfl), ⟨by rw [ht]; exact hP9, va_K.moved hW.alike hK9, hD9⟩⟩, hS.F ht⟩) hS.2.2 dX1_weightOfThere_67
  · skip
    refine lv_tableIn (off := 72) (tgt := 76) hx hb dX1_weightOfThere_4 (by decide) (by decide) rfl (by decide) ?_
    refine lv_iconst (v := 0) hx hb dX1_weightOfThere_76 (by decide) ?_
    have hP9 := hP.sub (ws' := [(h0, .inr (1, [.ref bx, .int ik, .int (nI 5), .int op]))]) [0] rfl
    have hD9 := hD.sub (ws' := [(h0, .inr (1, [.ref bx, .int ik, .int (nI 5), .int op]))]) [0] (by decide) rfl
    have hK9 := hK.sub (tys' := []) [] rfl
    refine hQ _ _ _ _ _ ?_
    exact W.iret (v := 0) hx hb hr (fun t ht hW => ⟨⟨0, (), rfl, (by subst_vars; rfl), ⟨by rw [ht]; exact hP9, va_K.moved hW.alike hK9, hD9⟩⟩, hS.F ht⟩) hS.2.2 dX1_weightOfThere_77
  · skip
    refine lv_tableIn (off := 64) (tgt := 68) hx hb dX1_weightOfThere_4 (by decide) (by decide) rfl (by decide) ?_
    refine lv_iload_n hx hb dX1_weightOfThere_68 rfl (lv_at hl 1 rfl) ?_
    have hP9 := hP.sub (ws' := [(h0, .inr (1, [.ref bx, .int ik, .int (nI 6), .int op]))]) [0] rfl
    have hD9 := hD.sub (ws' := [(h0, .inr (1, [.ref bx, .int ik, .int (nI 6), .int op]))]) [0] (by decide) rfl
    have hK9 := hK.sub (tys' := []) [] rfl
    refine hQ _ _ _ _ _ ?_
    exact W.iret (v := n) hx hb hr (fun t ht hW => ⟨⟨n, (), rfl, (by subst_vars; rfl), ⟨by rw [ht]; exact hP9, va_K.moved hW.alike hK9, hD9⟩⟩, hS.F ht⟩) hS.2.2 dX1_weightOfThere_69
  · skip
    refine lv_tableIn (off := 72) (tgt := 76) hx hb dX1_weightOfThere_4 (by decide) (by decide) rfl (by decide) ?_
    refine lv_iconst (v := 0) hx hb dX1_weightOfThere_76 (by decide) ?_
    have hP9 := hP.sub (ws' := [(h0, .inr (1, [.ref bx, .int ik, .int (nI 7), .int op]))]) [0] rfl
    have hD9 := hD.sub (ws' := [(h0, .inr (1, [.ref bx, .int ik, .int (nI 7), .int op]))]) [0] (by decide) rfl
    have hK9 := hK.sub (tys' := []) [] rfl
    refine hQ _ _ _ _ _ ?_
    exact W.iret (v := 0) hx hb hr (fun t ht hW => ⟨⟨0, (), rfl, (by subst_vars; rfl), ⟨by rw [ht]; exact hP9, va_K.moved hW.alike hK9, hD9⟩⟩, hS.F ht⟩) hS.2.2 dX1_weightOfThere_77
  · skip
    refine lv_tableIn (off := 66) (tgt := 70) hx hb dX1_weightOfThere_4 (by decide) (by decide) rfl (by decide) ?_
    refine lv_sipush (v := 255) hx hb dX1_weightOfThere_70 (by decide) ?_
    refine lv_iload_n hx hb dX1_weightOfThere_73 rfl (lv_at hl 1 rfl) ?_
    refine lv_isub hx hb dX1_weightOfThere_74 ?_
    refine lv_topi (fun y_2 ey_2 => ?_)
    have hP9 := hP.sub (ws' := [(h0, .inr (1, [.ref bx, .int ik, .int (nI 8), .int op]))]) [0] rfl
    have hD9 := hD.sub (ws' := [(h0, .inr (1, [.ref bx, .int ik, .int (nI 8), .int op]))]) [0] (by decide) rfl
    have hK9 := hK.sub (tys' := []) [] rfl
    refine hQ _ _ _ _ _ ?_
    exact W.iret (v := y_2) hx hb hr (fun t ht hW => ⟨⟨y_2, (), rfl, (by subst_vars; rfl), ⟨by rw [ht]; exact hP9, va_K.moved hW.alike hK9, hD9⟩⟩, hS.F ht⟩) hS.2.2 dX1_weightOfThere_75
  · skip
    refine lv_tableIn (off := 66) (tgt := 70) hx hb dX1_weightOfThere_4 (by decide) (by decide) rfl (by decide) ?_
    refine lv_sipush (v := 255) hx hb dX1_weightOfThere_70 (by decide) ?_
    refine lv_iload_n hx hb dX1_weightOfThere_73 rfl (lv_at hl 1 rfl) ?_
    refine lv_isub hx hb dX1_weightOfThere_74 ?_
    refine lv_topi (fun y_3 ey_3 => ?_)
    have hP9 := hP.sub (ws' := [(h0, .inr (1, [.ref bx, .int ik, .int (nI 9), .int op]))]) [0] rfl
    have hD9 := hD.sub (ws' := [(h0, .inr (1, [.ref bx, .int ik, .int (nI 9), .int op]))]) [0] (by decide) rfl
    have hK9 := hK.sub (tys' := []) [] rfl
    refine hQ _ _ _ _ _ ?_
    exact W.iret (v := y_3) hx hb hr (fun t ht hW => ⟨⟨y_3, (), rfl, (by subst_vars; rfl), ⟨by rw [ht]; exact hP9, va_K.moved hW.alike hK9, hD9⟩⟩, hS.F ht⟩) hS.2.2 dX1_weightOfThere_75
  · skip
    refine lv_tableIn (off := 64) (tgt := 68) hx hb dX1_weightOfThere_4 (by decide) (by decide) rfl (by decide) ?_
    refine lv_iload_n hx hb dX1_weightOfThere_68 rfl (lv_at hl 1 rfl) ?_
    have hP9 := hP.sub (ws' := [(h0, .inr (1, [.ref bx, .int ik, .int (nI 10), .int op]))]) [0] rfl
    have hD9 := hD.sub (ws' := [(h0, .inr (1, [.ref bx, .int ik, .int (nI 10), .int op]))]) [0] (by decide) rfl
    have hK9 := hK.sub (tys' := []) [] rfl
    refine hQ _ _ _ _ _ ?_
    exact W.iret (v := n) hx hb hr (fun t ht hW => ⟨⟨n, (), rfl, (by subst_vars; rfl), ⟨by rw [ht]; exact hP9, va_K.moved hW.alike hK9, hD9⟩⟩, hS.F ht⟩) hS.2.2 dX1_weightOfThere_69
  · skip
    refine lv_tableIn (off := 66) (tgt := 70) hx hb dX1_weightOfThere_4 (by decide) (by decide) rfl (by decide) ?_
    refine lv_sipush (v := 255) hx hb dX1_weightOfThere_70 (by decide) ?_
    refine lv_iload_n hx hb dX1_weightOfThere_73 rfl (lv_at hl 1 rfl) ?_
    refine lv_isub hx hb dX1_weightOfThere_74 ?_
    refine lv_topi (fun y_4 ey_4 => ?_)
    have hP9 := hP.sub (ws' := [(h0, .inr (1, [.ref bx, .int ik, .int (nI 11), .int op]))]) [0] rfl
    have hD9 := hD.sub (ws' := [(h0, .inr (1, [.ref bx, .int ik, .int (nI 11), .int op]))]) [0] (by decide) rfl
    have hK9 := hK.sub (tys' := []) [] rfl
    refine hQ _ _ _ _ _ ?_
    exact W.iret (v := y_4) hx hb hr (fun t ht hW => ⟨⟨y_4, (), rfl, (by subst_vars; rfl), ⟨by rw [ht]; exact hP9, va_K.moved hW.alike hK9, hD9⟩⟩, hS.F ht⟩) hS.2.2 dX1_weightOfThere_75
  · skip
    refine lv_tableIn (off := 60) (tgt := 64) hx hb dX1_weightOfThere_4 (by decide) (by decide) rfl (by decide) ?_
    refine lv_sipush (v := 255) hx hb dX1_weightOfThere_64 (by decide) ?_
    have hP9 := hP.sub (ws' := [(h0, .inr (1, [.ref bx, .int ik, .int (nI 12), .int op]))]) [0] rfl
    have hD9 := hD.sub (ws' := [(h0, .inr (1, [.ref bx, .int ik, .int (nI 12), .int op]))]) [0] (by decide) rfl
    have hK9 := hK.sub (tys' := []) [] rfl
    refine hQ _ _ _ _ _ ?_
    exact W.iret (v := 255) hx hb hr (fun t ht hW => ⟨⟨255, (), rfl, (by subst_vars; rfl), ⟨by rw [ht]; exact hP9, va_K.moved hW.alike hK9, hD9⟩⟩, hS.F ht⟩) hS.2.2 dX1_weightOfThere_67

set_option maxHeartbeats 4000000 in
set_option maxRecDepth 100000 in
theorem k_X1_measureOf (l : Launch) (D : va_G) (sz : Nat) (h0 bx : Nat) (ik wy op : Int32) (n : Int32) : Met l yX1_measureOf (wB yX1_measureOf cX1_measureOf 2 (some .int)) ({ frames := 0, cells := 0, slots := 0, locals := 0 }) (cP D [(h0, .inr (1, [.ref bx, .int ik, .int wy, .int op]))] [] sz [.ref h0, .int n]) (va_Qi (fun (r : Int32) (_ : Unit) => r = (2 * op * n + 16) / 32) (fun (_ : Unit) (t : State) => cB D (va_A [(h0, .inr (1, [.ref bx, .int ik, .int wy, .int op]))] sz) [(h0, .inr (1, [.ref bx, .int ik, .int wy, .int op]))] [] t) (va_A [(h0, .inr (1, [.ref bx, .int ik, .int wy, .int op]))] sz)) 0 0 (va_A [(h0, .inr (1, [.ref bx, .int ik, .int wy, .int op]))] sz) := by
  refine Met.ofW (cc := cX1_measureOf) (maxL := 2) (ret := (some .int)) (by decide) rfl ?_
  intro p e s m args below meth c s₁ B hml hv
  obtain ⟨rfl, hsz, hP, hK, hD0, hN⟩ := hv
  have hx := B.exec
  have hb := B.bytes
  have hr := B.returns
  have hts0 := atoms_spec (ws := (wB yX1_measureOf cX1_measureOf 2 (some .int))) B.pre
  have hts : ∀ w ∈ bigW, w.before _ s = true := fun w h => hts0 w (List.mem_cons_of_mem _ h)
  have hown : s.vm.findClass RX1 = some m.cls := findClass_of_methodNamed B.named
  have hlocks := B.notSynchronized
  subst hsz
  have hD := hD0.self (sz := s.heap.size)
  generalize hAe : va_A [(h0, .inr (1, [.ref bx, .int ik, .int wy, .int op]))] s.heap.size = A at hD ⊢
  have hA : ∀ q : Nat, s.heap.size ≤ q → A q := fun q h => by rw [← hAe]; exact Or.inr h
  have hS : va_S A s.heap s.heap [] := va_S.rf
  have hP : va_P D vwCl [(h0, .inr (1, [.ref bx, .int ik, .int wy, .int op]))] s.heap := hP
  have hl := lv_entry ([.ref h0, .int n]) (n := 2) (Nat.le_of_ble_eq_true rfl)
  rw [lg_entry_eq]
  generalize (lg_sl ([.ref h0, .int n]) ++ List.replicate (2 - (lg_sl ([.ref h0, .int n])).length) Slot.unset).toArray = ls at hl ⊢
  have hl : lv_has ls 2 [(0, .ref h0), (1, .int n)] := hl
  clear hts0 hD0 hAe
  refine my_abs (fun R Q hR hQ => ?_)
  refine lv_iconst (v := 2) hx hb dX1_measureOf_0 (by decide) ?_
  refine lv_aload_n hx hb dX1_measureOf_1 rfl (lv_at hl 0 rfl) ?_
  refine va_get (D := D) (ci := 1) (v := .int op) (C := RX1) (T := TX1) (N := 4) hx hb hts hi_X1 hown hK hP 0 rfl rfl 3 (by decide) (hts _ bw_27) (fun _ h9 => h9) rfl dX1_measureOf_2 ?_
  refine lv_imul hx hb dX1_measureOf_5 ?_
  refine lv_topi (fun y_1 ey_1 => ?_)
  refine lv_iload_n hx hb dX1_measureOf_6 rfl (lv_at hl 1 rfl) ?_
  refine lv_imul hx hb dX1_measureOf_7 ?_
  refine lv_topi (fun y_2 ey_2 => ?_)
  refine lv_bipush (v := 16) hx hb dX1_measureOf_8 (by decide) ?_
  refine lv_iadd hx hb dX1_measureOf_10 ?_
  refine lv_topi (fun y_3 ey_3 => ?_)
  refine lv_bipush (v := 32) hx hb dX1_measureOf_11 (by decide) ?_
  refine lv_idiv hx hb dX1_measureOf_13 (by decide) ?_
  refine lv_topi (fun y_4 ey_4 => ?_)
  have hP9 := hP.sub (ws' := [(h0, .inr (1, [.ref bx, .int ik, .int wy, .int op]))]) [0] rfl
  have hD9 := hD.sub (ws' := [(h0, .inr (1, [.ref bx, .int ik, .int wy, .int op]))]) [0] (by decide) rfl
  have hK9 := hK.sub (tys' := []) [] rfl
  refine hQ _ _ _ _ _ ?_
  exact W.iret (v := y_4) hx hb hr (fun t ht hW => ⟨⟨y_4, (), rfl, (by subst_vars; rfl), ⟨by rw [ht]; exact hP9, va_K.moved hW.alike hK9, hD9⟩⟩, hS.F ht⟩) hS.2.2 dX1_measureOf_14

set_option maxHeartbeats 4000000 in
set_option maxRecDepth 100000 in
theorem k_X1_laid (l : Launch) (D : va_G) (sz : Nat) (h0 bx : Nat) (ik wy op : Int32) (n d v : Int32) (hwy : 0 ≤ wy.toInt ∧ wy.toInt ≤ 12) : Met l yX1_laid (wB yX1_laid cX1_laid 10 (some .int)) ({ frames := 1, cells := 0, slots := 0, locals := 21 }) (cP D [(h0, .inr (1, [.ref bx, .int ik, .int wy, .int op]))] [] sz [.ref h0, .int n, .int d, .int v]) (va_Qi (fun (r : Int32) (_ : Unit) => r = laidP wy n d v) (fun (_ : Unit) (t : State) => cB D (va_A [(h0, .inr (1, [.ref bx, .int ik, .int wy, .int op]))] sz) [(h0, .inr (1, [.ref bx, .int ik, .int wy, .int op]))] [] t) (va_A [(h0, .inr (1, [.ref bx, .int ik, .int wy, .int op]))] sz)) 0 0 (va_A [(h0, .inr (1, [.ref bx, .int ik, .int wy, .int op]))] sz) := by
  refine Met.ofW (cc := cX1_laid) (maxL := 10) (ret := (some .int)) (by decide) rfl ?_
  intro p e s m args below meth c s₁ B hml hv
  obtain ⟨rfl, hsz, hP, hK, hD0, hN⟩ := hv
  have hx := B.exec
  have hb := B.bytes
  have hr := B.returns
  have hts0 := atoms_spec (ws := (wB yX1_laid cX1_laid 10 (some .int))) B.pre
  have hts : ∀ w ∈ bigW, w.before _ s = true := fun w h => hts0 w (List.mem_cons_of_mem _ h)
  have hown : s.vm.findClass RX1 = some m.cls := findClass_of_methodNamed B.named
  have hlocks := B.notSynchronized
  subst hsz
  have hD := hD0.self (sz := s.heap.size)
  generalize hAe : va_A [(h0, .inr (1, [.ref bx, .int ik, .int wy, .int op]))] s.heap.size = A at hD ⊢
  have hA : ∀ q : Nat, s.heap.size ≤ q → A q := fun q h => by rw [← hAe]; exact Or.inr h
  have hS : va_S A s.heap s.heap [] := va_S.rf
  have hP : va_P D vwCl [(h0, .inr (1, [.ref bx, .int ik, .int wy, .int op]))] s.heap := hP
  have hl := lv_entry ([.ref h0, .int n, .int d, .int v]) (n := 10) (Nat.le_of_ble_eq_true rfl)
  rw [lg_entry_eq]
  generalize (lg_sl ([.ref h0, .int n, .int d, .int v]) ++ List.replicate (10 - (lg_sl ([.ref h0, .int n, .int d, .int v])).length) Slot.unset).toArray = ls at hl ⊢
  have hl : lv_has ls 10 [(0, .ref h0), (1, .int n), (2, .int d), (3, .int v)] := hl
  clear hts0 hD0 hAe
  refine my_abs (fun R Q hR hQ => ?_)
  refine lv_aload_n hx hb dX1_laid_0 rfl (lv_at hl 0 rfl) ?_
  refine lv_iload_n hx hb dX1_laid_1 rfl (lv_at hl 2 rfl) ?_
  refine lv_bipush (v := 24) hx hb dX1_laid_2 (by decide) ?_
  have hPc := hP.sub (ws' := []) [] rfl
  have hDc := hD.sub (ws' := []) [] (by decide) rfl
  have hKc := hK.sub (tys' := []) [] rfl
  have hFc := va_free (wc := []) hD hS hA [] rfl
  refine va_calli (va_runSN (host := RX8) (As := [.int d, .int 24]) (rest := [.ref h0]) ⟨hx, hb, hml, hown, hts⟩ (k_X8_channel l D s.heap.size d 24) ⟨va_cnB 2 hts (gI bw_4) rfl rfl rfl (hN.2.1 (RX1, 49, yX8_channel, RX8) (by decide +kernel)) (hts _ bw_1) (by decide +kernel) ⟨(by rw [hR]; exact Nat.le_of_ble_eq_true rfl), (by rw [hR]; exact Nat.le_of_ble_eq_true rfl)⟩, (hts _ bw_6), trivial⟩ ⟨cP_blind, cP_at hPc hKc hDc hN⟩ rfl rfl hl.1 rfl (lv_room (Nat.le_of_ble_eq_true rfl)) dX1_laid_4 ⟨(by rw [hR]; exact Nat.le_of_ble_eq_true rfl), (by rw [hR]; exact Nat.le_of_ble_eq_true rfl)⟩) hS (fun q _ h => hFc q h) hFc (fun r_1 u9 t9 H1 locs ht hvm hr_1 hB hz1 hk1 hS => ?_)
  try dsimp only at hr_1
  have hP1 : va_P D vwCl [] H1 := vP_nil
  have hD1 : va_D (va_A [] s.heap.size) [] := vD_nil
  obtain ⟨hP, hD⟩ := va_join (wr := [(h0, .inr (1, [.ref bx, .int ik, .int wy, .int op]))]) (w1 := []) hP hD [] [0] rfl rfl (by decide) (by decide) hk1 hFc hP1 hD1
  clear hz1 hk1 hFc hKc hDc hPc
  generalize H1 = H at hP hS ⊢
  have hP : va_P D vwCl [(h0, .inr (1, [.ref bx, .int ik, .int wy, .int op]))] H := hP
  have hD : va_D A [(h0, .inr (1, [.ref bx, .int ik, .int wy, .int op]))] := hD
  have hPc := hP.sub (ws' := [(h0, .inr (1, [.ref bx, .int ik, .int wy, .int op]))]) [0] rfl
  have hDc := hD.sub (ws' := [(h0, .inr (1, [.ref bx, .int ik, .int wy, .int op]))]) [0] (by decide) rfl
  have hKc := hK.sub (tys' := []) [] rfl
  have hFc := va_free (wc := [(h0, .inr (1, [.ref bx, .int ik, .int wy, .int op]))]) hD hS hA [0] rfl
  refine va_calli (va_runV (As := [.int r_1]) (rest := []) ⟨hx, hb, hml, hown, hts⟩ (k_X1_weightOfSource l D H.size h0 bx ik wy op r_1 (by first | assumption | omega | decide)) (cwV 1 hts (gV bw_30 bw_31 bw_32 bw_29 bw_28) rfl rfl rfl (by decide +kernel) ⟨(by rw [hR]; exact Nat.le_of_ble_eq_true rfl), (by rw [hR]; exact Nat.le_of_ble_eq_true rfl)⟩) ⟨cP_blind, va_recv hKc hPc (ci := 1) (q0 := 0) rfl rfl, cP_at hPc hKc hDc hN⟩ rfl rfl hl.1 rfl (lv_room (Nat.le_of_ble_eq_true rfl)) dX1_laid_7 ⟨(by rw [hR]; exact Nat.le_of_ble_eq_true rfl), (by rw [hR]; exact Nat.le_of_ble_eq_true rfl)⟩) hS (fun q _ h => hFc q h) hFc (fun r_2 u9 t9 H1 locs ht hvm hr_2 hB hz1 hk1 hS => ?_)
  try dsimp only at hr_2
  obtain ⟨hP1, hK1, hD1⟩ := hB
  rw [ht] at hP1
  obtain ⟨hP, hD⟩ := va_join (wr := []) (w1 := [(h0, .inr (1, [.ref bx, .int ik, .int wy, .int op]))]) hP hD [0] [] rfl rfl (by decide) (by decide) hk1 hFc hP1 hD1
  clear hz1 hk1 hFc hKc hDc hPc
  generalize H1 = H at hP hS ⊢
  have hP : va_P D vwCl [(h0, .inr (1, [.ref bx, .int ik, .int wy, .int op]))] H := hP
  have hD : va_D A [(h0, .inr (1, [.ref bx, .int ik, .int wy, .int op]))] := hD
  refine lv_istore (lv' := [(4, .int r_2), (0, .ref h0), (1, .int n), (2, .int d), (3, .int v)]) hx hb dX1_laid_10 hl (by decide) rfl (fun ls hl => ?_)
  refine lv_aload_n hx hb dX1_laid_12 rfl (lv_at hl 1 rfl) ?_
  refine lv_iload_n hx hb dX1_laid_13 rfl (lv_at hl 2 rfl) ?_
  refine lv_bipush (v := 24) hx hb dX1_laid_14 (by decide) ?_
  have hPc := hP.sub (ws' := []) [] rfl
  have hDc := hD.sub (ws' := []) [] (by decide) rfl
  have hKc := hK.sub (tys' := []) [] rfl
  have hFc := va_free (wc := []) hD hS hA [] rfl
  refine va_calli (va_runSN (host := RX8) (As := [.int n, .int 24]) (rest := [.ref h0]) ⟨hx, hb, hml, hown, hts⟩ (k_X8_channel l D H.size n 24) ⟨va_cnB 2 hts (gI bw_4) rfl rfl rfl (hN.2.1 (RX1, 49, yX8_channel, RX8) (by decide +kernel)) (hts _ bw_1) (by decide +kernel) ⟨(by rw [hR]; exact Nat.le_of_ble_eq_true rfl), (by rw [hR]; exact Nat.le_of_ble_eq_true rfl)⟩, (hts _ bw_6), trivial⟩ ⟨cP_blind, cP_at hPc hKc hDc hN⟩ rfl rfl hl.1 rfl (lv_room (Nat.le_of_ble_eq_true rfl)) dX1_laid_16 ⟨(by rw [hR]; exact Nat.le_of_ble_eq_true rfl), (by rw [hR]; exact Nat.le_of_ble_eq_true rfl)⟩) hS (fun q _ h => hFc q h) hFc (fun r_3 u9 t9 H1 locs ht hvm hr_3 hB hz1 hk1 hS => ?_)
  try dsimp only at hr_3
  have hP1 : va_P D vwCl [] H1 := vP_nil
  have hD1 : va_D (va_A [] H.size) [] := vD_nil
  obtain ⟨hP, hD⟩ := va_join (wr := [(h0, .inr (1, [.ref bx, .int ik, .int wy, .int op]))]) (w1 := []) hP hD [] [0] rfl rfl (by decide) (by decide) hk1 hFc hP1 hD1
  clear hz1 hk1 hFc hKc hDc hPc
  generalize H1 = H at hP hS ⊢
  have hP : va_P D vwCl [(h0, .inr (1, [.ref bx, .int ik, .int wy, .int op]))] H := hP
  have hD : va_D A [(h0, .inr (1, [.ref bx, .int ik, .int wy, .int op]))] := hD
  have hPc := hP.sub (ws' := [(h0, .inr (1, [.ref bx, .int ik, .int wy, .int op]))]) [0] rfl
  have hDc := hD.sub (ws' := [(h0, .inr (1, [.ref bx, .int ik, .int wy, .int op]))]) [0] (by decide) rfl
  have hKc := hK.sub (tys' := []) [] rfl
  have hFc := va_free (wc := [(h0, .inr (1, [.ref bx, .int ik, .int wy, .int op]))]) hD hS hA [0] rfl
  refine va_calli (va_runV (As := [.int r_3]) (rest := []) ⟨hx, hb, hml, hown, hts⟩ (k_X1_weightOfThere l D H.size h0 bx ik wy op r_3 (by first | assumption | omega | decide)) (cwV 1 hts (gV bw_34 bw_35 bw_36 bw_29 bw_33) rfl rfl rfl (by decide +kernel) ⟨(by rw [hR]; exact Nat.le_of_ble_eq_true rfl), (by rw [hR]; exact Nat.le_of_ble_eq_true rfl)⟩) ⟨cP_blind, va_recv hKc hPc (ci := 1) (q0 := 0) rfl rfl, cP_at hPc hKc hDc hN⟩ rfl rfl hl.1 rfl (lv_room (Nat.le_of_ble_eq_true rfl)) dX1_laid_19 ⟨(by rw [hR]; exact Nat.le_of_ble_eq_true rfl), (by rw [hR]; exact Nat.le_of_ble_eq_true rfl)⟩) hS (fun q _ h => hFc q h) hFc (fun r_4 u9 t9 H1 locs ht hvm hr_4 hB hz1 hk1 hS => ?_)
  try dsimp only at hr_4
  obtain ⟨hP1, hK1, hD1⟩ := hB
  rw [ht] at hP1
  obtain ⟨hP, hD⟩ := va_join (wr := []) (w1 := [(h0, .inr (1, [.ref bx, .int ik, .int wy, .int op]))]) hP hD [0] [] rfl rfl (by decide) (by decide) hk1 hFc hP1 hD1
  clear hz1 hk1 hFc hKc hDc hPc
  generalize H1 = H at hP hS ⊢
  have hP : va_P D vwCl [(h0, .inr (1, [.ref bx, .int ik, .int wy, .int op]))] H := hP
  have hD : va_D A [(h0, .inr (1, [.ref bx, .int ik, .int wy, .int op]))] := hD
  refine lv_istore (lv' := [(5, .int r_4), (4, .int r_2), (0, .ref h0), (1, .int n), (2, .int d), (3, .int v)]) hx hb dX1_laid_22 hl (by decide) rfl (fun ls hl => ?_)
  refine lv_iconst (v := 0) hx hb dX1_laid_24 (by decide) ?_
  refine lv_istore (lv' := [(6, .int 0), (5, .int r_4), (4, .int r_2), (0, .ref h0), (1, .int n), (2, .int d), (3, .int v)]) hx hb dX1_laid_25 hl (by decide) rfl (fun ls hl => ?_)
  refine lv_bipush (v := 24) hx hb dX1_laid_27 (by decide) ?_
  refine lv_istore (lv' := [(7, .int 24), (6, .int 0), (5, .int r_4), (4, .int r_2), (0, .ref h0), (1, .int n), (2, .int d), (3, .int v)]) hx hb dX1_laid_29 hl (by decide) rfl (fun ls hl => ?_)
  refine lv_iload hx hb dX1_laid_31 (lv_at hl 0 rfl) ?_
  refine lv_if_lt (tgt := 100) hx hb dX1_laid_33 (by decide) (fun c_5 => ?_) (fun c_5 => ?_)
  · skip
    exact absurd c_5 (by decide)
  · skip
    refine lv_iload_n hx hb dX1_laid_36 rfl (lv_at hl 6 rfl) ?_
    refine lv_iload hx hb dX1_laid_37 (lv_at hl 0 rfl) ?_
    have hPc := hP.sub (ws' := []) [] rfl
    have hDc := hD.sub (ws' := []) [] (by decide) rfl
    have hKc := hK.sub (tys' := []) [] rfl
    have hFc := va_free (wc := []) hD hS hA [] rfl
    refine va_calli (va_runSN (host := RX8) (As := [.int d, .int 24]) (rest := []) ⟨hx, hb, hml, hown, hts⟩ (k_X8_channel l D H.size d 24) ⟨va_cnB 2 hts (gI bw_4) rfl rfl rfl (hN.2.1 (RX1, 49, yX8_channel, RX8) (by decide +kernel)) (hts _ bw_1) (by decide +kernel) ⟨(by rw [hR]; exact Nat.le_of_ble_eq_true rfl), (by rw [hR]; exact Nat.le_of_ble_eq_true rfl)⟩, (hts _ bw_6), trivial⟩ ⟨cP_blind, cP_at hPc hKc hDc hN⟩ rfl rfl hl.1 rfl (lv_room (Nat.le_of_ble_eq_true rfl)) dX1_laid_39 ⟨(by rw [hR]; exact Nat.le_of_ble_eq_true rfl), (by rw [hR]; exact Nat.le_of_ble_eq_true rfl)⟩) hS (fun q _ h => hFc q h) hFc (fun r_7 u9 t9 H1 locs ht hvm hr_7 hB hz1 hk1 hS => ?_)
    try dsimp only at hr_7
    have hP1 : va_P D vwCl [] H1 := vP_nil
    have hD1 : va_D (va_A [] H.size) [] := vD_nil
    obtain ⟨hP, hD⟩ := va_join (wr := [(h0, .inr (1, [.ref bx, .int ik, .int wy, .int op]))]) (w1 := []) hP hD [] [0] rfl rfl (by decide) (by decide) hk1 hFc hP1 hD1
    clear hz1 hk1 hFc hKc hDc hPc
    generalize H1 = H at hP hS ⊢
    have hP : va_P D vwCl [(h0, .inr (1, [.ref bx, .int ik, .int wy, .int op]))] H := hP
    have hD : va_D A [(h0, .inr (1, [.ref bx, .int ik, .int wy, .int op]))] := hD
    refine lv_istore (lv' := [(8, .int r_7), (7, .int 24), (6, .int 0), (5, .int r_4), (4, .int r_2), (0, .ref h0), (1, .int n), (2, .int d), (3, .int v)]) hx hb dX1_laid_42 hl (by decide) rfl (fun ls hl => ?_)
    refine lv_sipush (v := 255) hx hb dX1_laid_44 (by decide) ?_
    refine lv_iload_n hx hb dX1_laid_47 rfl (lv_at hl 6 rfl) ?_
    refine lv_iload hx hb dX1_laid_48 (lv_at hl 1 rfl) ?_
    have hPc := hP.sub (ws' := []) [] rfl
    have hDc := hD.sub (ws' := []) [] (by decide) rfl
    have hKc := hK.sub (tys' := []) [] rfl
    have hFc := va_free (wc := []) hD hS hA [] rfl
    refine va_calli (va_runSN (host := RX8) (As := [.int n, .int 24]) (rest := [.int 255]) ⟨hx, hb, hml, hown, hts⟩ (k_X8_channel l D H.size n 24) ⟨va_cnB 2 hts (gI bw_4) rfl rfl rfl (hN.2.1 (RX1, 49, yX8_channel, RX8) (by decide +kernel)) (hts _ bw_1) (by decide +kernel) ⟨(by rw [hR]; exact Nat.le_of_ble_eq_true rfl), (by rw [hR]; exact Nat.le_of_ble_eq_true rfl)⟩, (hts _ bw_6), trivial⟩ ⟨cP_blind, cP_at hPc hKc hDc hN⟩ rfl rfl hl.1 rfl (lv_room (Nat.le_of_ble_eq_true rfl)) dX1_laid_50 ⟨(by rw [hR]; exact Nat.le_of_ble_eq_true rfl), (by rw [hR]; exact Nat.le_of_ble_eq_true rfl)⟩) hS (fun q _ h => hFc q h) hFc (fun r_8 u9 t9 H1 locs ht hvm hr_8 hB hz1 hk1 hS => ?_)
    try dsimp only at hr_8
    have hP1 : va_P D vwCl [] H1 := vP_nil
    have hD1 : va_D (va_A [] H.size) [] := vD_nil
    obtain ⟨hP, hD⟩ := va_join (wr := [(h0, .inr (1, [.ref bx, .int ik, .int wy, .int op]))]) (w1 := []) hP hD [] [0] rfl rfl (by decide) (by decide) hk1 hFc hP1 hD1
    clear hz1 hk1 hFc hKc hDc hPc
    generalize H1 = H at hP hS ⊢
    have hP : va_P D vwCl [(h0, .inr (1, [.ref bx, .int ik, .int wy, .int op]))] H := hP
    have hD : va_D A [(h0, .inr (1, [.ref bx, .int ik, .int wy, .int op]))] := hD
    refine lv_iload hx hb dX1_laid_53 (lv_at hl 4 rfl) ?_
    refine lv_imul hx hb dX1_laid_55 ?_
    refine lv_topi (fun y_9 ey_9 => ?_)
    refine lv_iload hx hb dX1_laid_56 (lv_at hl 0 rfl) ?_
    refine lv_iload hx hb dX1_laid_58 (lv_at hl 3 rfl) ?_
    refine lv_imul hx hb dX1_laid_60 ?_
    refine lv_topi (fun y_10 ey_10 => ?_)
    refine lv_iadd hx hb dX1_laid_61 ?_
    refine lv_topi (fun y_11 ey_11 => ?_)
    have hPc := hP.sub (ws' := []) [] rfl
    have hDc := hD.sub (ws' := []) [] (by decide) rfl
    have hKc := hK.sub (tys' := []) [] rfl
    have hFc := va_free (wc := []) hD hS hA [] rfl
    refine va_calli (va_runSN (host := RX8) (As := [.int y_11]) (rest := [.int 255]) ⟨hx, hb, hml, hown, hts⟩ (k_X8_shareOfFull l D H.size y_11) ⟨va_cnB 1 hts (gI bw_7) rfl rfl rfl (hN.2.1 (RX1, 59, yX8_shareOfFull, RX8) (by decide +kernel)) (hts _ bw_1) (by decide +kernel) ⟨(by rw [hR]; exact Nat.le_of_ble_eq_true rfl), (by rw [hR]; exact Nat.le_of_ble_eq_true rfl)⟩, (hts _ bw_9), trivial⟩ ⟨cP_blind, cP_at hPc hKc hDc hN⟩ rfl rfl hl.1 rfl (lv_room (Nat.le_of_ble_eq_true rfl)) dX1_laid_62 ⟨(by rw [hR]; exact Nat.le_of_ble_eq_true rfl), (by rw [hR]; exact Nat.le_of_ble_eq_true rfl)⟩) hS (fun q _ h => hFc q h) hFc (fun r_12 u9 t9 H1 locs ht hvm hr_12 hB hz1 hk1 hS => ?_)
    try dsimp only at hr_12
    have hP1 : va_P D vwCl [] H1 := vP_nil
    have hD1 : va_D (va_A [] H.size) [] := vD_nil
    obtain ⟨hP, hD⟩ := va_join (wr := [(h0, .inr (1, [.ref bx, .int ik, .int wy, .int op]))]) (w1 := []) hP hD [] [0] rfl rfl (by decide) (by decide) hk1 hFc hP1 hD1
    clear hz1 hk1 hFc hKc hDc hPc
    generalize H1 = H at hP hS ⊢
    have hP : va_P D vwCl [(h0, .inr (1, [.ref bx, .int ik, .int wy, .int op]))] H := hP
    have hD : va_D A [(h0, .inr (1, [.ref bx, .int ik, .int wy, .int op]))] := hD
    refine va_mmin hx hb (by rw [hml]; exact hl.1.symm) hown (hts _ bw_37) (hts _ bw_38) (hts _ bw_39) (hts _ bw_40) (by rw [hR]; exact Nat.le_of_ble_eq_true rfl) (by rw [hR]; exact Nat.le_of_ble_eq_true rfl) (by rw [hR]; exact Nat.le_of_ble_eq_true rfl) (by rw [hR]; exact Nat.le_of_ble_eq_true rfl) dX1_laid_65 ?_
    refine lv_topi (fun y_13 ey_13 => ?_)
    refine lv_istore (lv' := [(9, .int y_13), (8, .int r_7), (7, .int 24), (6, .int 0), (5, .int r_4), (4, .int r_2), (0, .ref h0), (1, .int n), (2, .int d), (3, .int v)]) hx hb dX1_laid_68 hl (by decide) rfl (fun ls hl => ?_)
    refine lv_iload hx hb dX1_laid_70 (lv_at hl 3 rfl) ?_
    refine lv_bipush (v := 8) hx hb dX1_laid_72 (by decide) ?_
    refine lv_ishl hx hb dX1_laid_74 ?_
    refine my_fold (v := 0) (by decide) ?_
    refine lv_iload hx hb dX1_laid_75 (lv_at hl 0 rfl) ?_
    refine lv_iload_n hx hb dX1_laid_77 rfl (lv_at hl 9 rfl) ?_
    refine lv_imul hx hb dX1_laid_78 ?_
    refine lv_topi (fun y_14 ey_14 => ?_)
    refine lv_iload hx hb dX1_laid_79 (lv_at hl 1 rfl) ?_
    refine lv_sipush (v := 255) hx hb dX1_laid_81 (by decide) ?_
    refine lv_iload_n hx hb dX1_laid_84 rfl (lv_at hl 9 rfl) ?_
    refine lv_isub hx hb dX1_laid_85 ?_
    refine lv_topi (fun y_15 ey_15 => ?_)
    refine lv_imul hx hb dX1_laid_86 ?_
    refine lv_topi (fun y_16 ey_16 => ?_)
    refine lv_iadd hx hb dX1_laid_87 ?_
    refine lv_topi (fun y_17 ey_17 => ?_)
    have hPc := hP.sub (ws' := []) [] rfl
    have hDc := hD.sub (ws' := []) [] (by decide) rfl
    have hKc := hK.sub (tys' := []) [] rfl
    have hFc := va_free (wc := []) hD hS hA [] rfl
    refine va_calli (va_runSN (host := RX8) (As := [.int y_17]) (rest := [.int 0]) ⟨hx, hb, hml, hown, hts⟩ (k_X8_shareOfFull l D H.size y_17) ⟨va_cnB 1 hts (gI bw_7) rfl rfl rfl (hN.2.1 (RX1, 59, yX8_shareOfFull, RX8) (by decide +kernel)) (hts _ bw_1) (by decide +kernel) ⟨(by rw [hR]; exact Nat.le_of_ble_eq_true rfl), (by rw [hR]; exact Nat.le_of_ble_eq_true rfl)⟩, (hts _ bw_9), trivial⟩ ⟨cP_blind, cP_at hPc hKc hDc hN⟩ rfl rfl hl.1 rfl (lv_room (Nat.le_of_ble_eq_true rfl)) dX1_laid_88 ⟨(by rw [hR]; exact Nat.le_of_ble_eq_true rfl), (by rw [hR]; exact Nat.le_of_ble_eq_true rfl)⟩) hS (fun q _ h => hFc q h) hFc (fun r_18 u9 t9 H1 locs ht hvm hr_18 hB hz1 hk1 hS => ?_)
    try dsimp only at hr_18
    have hP1 : va_P D vwCl [] H1 := vP_nil
    have hD1 : va_D (va_A [] H.size) [] := vD_nil
    obtain ⟨hP, hD⟩ := va_join (wr := [(h0, .inr (1, [.ref bx, .int ik, .int wy, .int op]))]) (w1 := []) hP hD [] [0] rfl rfl (by decide) (by decide) hk1 hFc hP1 hD1
    clear hz1 hk1 hFc hKc hDc hPc
    generalize H1 = H at hP hS ⊢
    have hP : va_P D vwCl [(h0, .inr (1, [.ref bx, .int ik, .int wy, .int op]))] H := hP
    have hD : va_D A [(h0, .inr (1, [.ref bx, .int ik, .int wy, .int op]))] := hD
    refine lv_ior hx hb dX1_laid_91 ?_
    refine lv_topi (fun y_19 ey_19 => ?_)
    refine lv_istore (lv' := [(6, .int y_19), (9, .int y_13), (8, .int r_7), (7, .int 24), (5, .int r_4), (4, .int r_2), (0, .ref h0), (1, .int n), (2, .int d), (3, .int v)]) hx hb dX1_laid_92 hl (by decide) rfl (fun ls hl => ?_)
    refine lv_iinc (v := 16) (lv' := [(7, .int 16), (6, .int y_19), (9, .int y_13), (8, .int r_7), (5, .int r_4), (4, .int r_2), (0, .ref h0), (1, .int n), (2, .int d), (3, .int v)]) hx hb dX1_laid_94 hl (k := 3) rfl (by decide) (by decide) rfl (fun ls hl => ?_)
    refine lv_goto (tgt := 31) hx hb dX1_laid_97 (by decide) ?_
    refine lv_iload hx hb dX1_laid_31 (lv_at hl 0 rfl) ?_
    refine lv_if_lt (tgt := 100) hx hb dX1_laid_33 (by decide) (fun c_20 => ?_) (fun c_20 => ?_)
    · skip
      exact absurd c_20 (by decide)
    · skip
      refine lv_iload_n hx hb dX1_laid_36 rfl (lv_at hl 8 rfl) ?_
      refine lv_iload hx hb dX1_laid_37 (lv_at hl 0 rfl) ?_
      have hPc := hP.sub (ws' := []) [] rfl
      have hDc := hD.sub (ws' := []) [] (by decide) rfl
      have hKc := hK.sub (tys' := []) [] rfl
      have hFc := va_free (wc := []) hD hS hA [] rfl
      refine va_calli (va_runSN (host := RX8) (As := [.int d, .int 16]) (rest := []) ⟨hx, hb, hml, hown, hts⟩ (k_X8_channel l D H.size d 16) ⟨va_cnB 2 hts (gI bw_4) rfl rfl rfl (hN.2.1 (RX1, 49, yX8_channel, RX8) (by decide +kernel)) (hts _ bw_1) (by decide +kernel) ⟨(by rw [hR]; exact Nat.le_of_ble_eq_true rfl), (by rw [hR]; exact Nat.le_of_ble_eq_true rfl)⟩, (hts _ bw_6), trivial⟩ ⟨cP_blind, cP_at hPc hKc hDc hN⟩ rfl rfl hl.1 rfl (lv_room (Nat.le_of_ble_eq_true rfl)) dX1_laid_39 ⟨(by rw [hR]; exact Nat.le_of_ble_eq_true rfl), (by rw [hR]; exact Nat.le_of_ble_eq_true rfl)⟩) hS (fun q _ h => hFc q h) hFc (fun r_22 u9 t9 H1 locs ht hvm hr_22 hB hz1 hk1 hS => ?_)
      try dsimp only at hr_22
      have hP1 : va_P D vwCl [] H1 := vP_nil
      have hD1 : va_D (va_A [] H.size) [] := vD_nil
      obtain ⟨hP, hD⟩ := va_join (wr := [(h0, .inr (1, [.ref bx, .int ik, .int wy, .int op]))]) (w1 := []) hP hD [] [0] rfl rfl (by decide) (by decide) hk1 hFc hP1 hD1
      clear hz1 hk1 hFc hKc hDc hPc
      generalize H1 = H at hP hS ⊢
      have hP : va_P D vwCl [(h0, .inr (1, [.ref bx, .int ik, .int wy, .int op]))] H := hP
      have hD : va_D A [(h0, .inr (1, [.ref bx, .int ik, .int wy, .int op]))] := hD
      refine lv_istore (lv' := [(8, .int r_22), (7, .int 16), (6, .int y_19), (9, .int y_13), (5, .int r_4), (4, .int r_2), (0, .ref h0), (1, .int n), (2, .int d), (3, .int v)]) hx hb dX1_laid_42 hl (by decide) rfl (fun ls hl => ?_)
      refine lv_sipush (v := 255) hx hb dX1_laid_44 (by decide) ?_
      refine lv_iload_n hx hb dX1_laid_47 rfl (lv_at hl 7 rfl) ?_
      refine lv_iload hx hb dX1_laid_48 (lv_at hl 1 rfl) ?_
      have hPc := hP.sub (ws' := []) [] rfl
      have hDc := hD.sub (ws' := []) [] (by decide) rfl
      have hKc := hK.sub (tys' := []) [] rfl
      have hFc := va_free (wc := []) hD hS hA [] rfl
      refine va_calli (va_runSN (host := RX8) (As := [.int n, .int 16]) (rest := [.int 255]) ⟨hx, hb, hml, hown, hts⟩ (k_X8_channel l D H.size n 16) ⟨va_cnB 2 hts (gI bw_4) rfl rfl rfl (hN.2.1 (RX1, 49, yX8_channel, RX8) (by decide +kernel)) (hts _ bw_1) (by decide +kernel) ⟨(by rw [hR]; exact Nat.le_of_ble_eq_true rfl), (by rw [hR]; exact Nat.le_of_ble_eq_true rfl)⟩, (hts _ bw_6), trivial⟩ ⟨cP_blind, cP_at hPc hKc hDc hN⟩ rfl rfl hl.1 rfl (lv_room (Nat.le_of_ble_eq_true rfl)) dX1_laid_50 ⟨(by rw [hR]; exact Nat.le_of_ble_eq_true rfl), (by rw [hR]; exact Nat.le_of_ble_eq_true rfl)⟩) hS (fun q _ h => hFc q h) hFc (fun r_23 u9 t9 H1 locs ht hvm hr_23 hB hz1 hk1 hS => ?_)
      try dsimp only at hr_23
      have hP1 : va_P D vwCl [] H1 := vP_nil
      have hD1 : va_D (va_A [] H.size) [] := vD_nil
      obtain ⟨hP, hD⟩ := va_join (wr := [(h0, .inr (1, [.ref bx, .int ik, .int wy, .int op]))]) (w1 := []) hP hD [] [0] rfl rfl (by decide) (by decide) hk1 hFc hP1 hD1
      clear hz1 hk1 hFc hKc hDc hPc
      generalize H1 = H at hP hS ⊢
      have hP : va_P D vwCl [(h0, .inr (1, [.ref bx, .int ik, .int wy, .int op]))] H := hP
      have hD : va_D A [(h0, .inr (1, [.ref bx, .int ik, .int wy, .int op]))] := hD
      refine lv_iload hx hb dX1_laid_53 (lv_at hl 5 rfl) ?_
      refine lv_imul hx hb dX1_laid_55 ?_
      refine lv_topi (fun y_24 ey_24 => ?_)
      refine lv_iload hx hb dX1_laid_56 (lv_at hl 0 rfl) ?_
      refine lv_iload hx hb dX1_laid_58 (lv_at hl 4 rfl) ?_
      refine lv_imul hx hb dX1_laid_60 ?_
      refine lv_topi (fun y_25 ey_25 => ?_)
      refine lv_iadd hx hb dX1_laid_61 ?_
      refine lv_topi (fun y_26 ey_26 => ?_)
      have hPc := hP.sub (ws' := []) [] rfl
      have hDc := hD.sub (ws' := []) [] (by decide) rfl
      have hKc := hK.sub (tys' := []) [] rfl
      have hFc := va_free (wc := []) hD hS hA [] rfl
      refine va_calli (va_runSN (host := RX8) (As := [.int y_26]) (rest := [.int 255]) ⟨hx, hb, hml, hown, hts⟩ (k_X8_shareOfFull l D H.size y_26) ⟨va_cnB 1 hts (gI bw_7) rfl rfl rfl (hN.2.1 (RX1, 59, yX8_shareOfFull, RX8) (by decide +kernel)) (hts _ bw_1) (by decide +kernel) ⟨(by rw [hR]; exact Nat.le_of_ble_eq_true rfl), (by rw [hR]; exact Nat.le_of_ble_eq_true rfl)⟩, (hts _ bw_9), trivial⟩ ⟨cP_blind, cP_at hPc hKc hDc hN⟩ rfl rfl hl.1 rfl (lv_room (Nat.le_of_ble_eq_true rfl)) dX1_laid_62 ⟨(by rw [hR]; exact Nat.le_of_ble_eq_true rfl), (by rw [hR]; exact Nat.le_of_ble_eq_true rfl)⟩) hS (fun q _ h => hFc q h) hFc (fun r_27 u9 t9 H1 locs ht hvm hr_27 hB hz1 hk1 hS => ?_)
      try dsimp only at hr_27
      have hP1 : va_P D vwCl [] H1 := vP_nil
      have hD1 : va_D (va_A [] H.size) [] := vD_nil
      obtain ⟨hP, hD⟩ := va_join (wr := [(h0, .inr (1, [.ref bx, .int ik, .int wy, .int op]))]) (w1 := []) hP hD [] [0] rfl rfl (by decide) (by decide) hk1 hFc hP1 hD1
      clear hz1 hk1 hFc hKc hDc hPc
      generalize H1 = H at hP hS ⊢
      have hP : va_P D vwCl [(h0, .inr (1, [.ref bx, .int ik, .int wy, .int op]))] H := hP
      have hD : va_D A [(h0, .inr (1, [.ref bx, .int ik, .int wy, .int op]))] := hD
      refine va_mmin hx hb (by rw [hml]; exact hl.1.symm) hown (hts _ bw_37) (hts _ bw_38) (hts _ bw_39) (hts _ bw_40) (by rw [hR]; exact Nat.le_of_ble_eq_true rfl) (by rw [hR]; exact Nat.le_of_ble_eq_true rfl) (by rw [hR]; exact Nat.le_of_ble_eq_true rfl) (by rw [hR]; exact Nat.le_of_ble_eq_true rfl) dX1_laid_65 ?_
      refine lv_topi (fun y_28 ey_28 => ?_)
      refine lv_istore (lv' := [(9, .int y_28), (8, .int r_22), (7, .int 16), (6, .int y_19), (5, .int r_4), (4, .int r_2), (0, .ref h0), (1, .int n), (2, .int d), (3, .int v)]) hx hb dX1_laid_68 hl (by decide) rfl (fun ls hl => ?_)
      refine lv_iload hx hb dX1_laid_70 (lv_at hl 3 rfl) ?_
      refine lv_bipush (v := 8) hx hb dX1_laid_72 (by decide) ?_
      refine lv_ishl hx hb dX1_laid_74 ?_
      refine lv_topi (fun y_29 ey_29 => ?_)
      refine lv_iload hx hb dX1_laid_75 (lv_at hl 0 rfl) ?_
      refine lv_iload_n hx hb dX1_laid_77 rfl (lv_at hl 9 rfl) ?_
      refine lv_imul hx hb dX1_laid_78 ?_
      refine lv_topi (fun y_30 ey_30 => ?_)
      refine lv_iload hx hb dX1_laid_79 (lv_at hl 1 rfl) ?_
      refine lv_sipush (v := 255) hx hb dX1_laid_81 (by decide) ?_
      refine lv_iload_n hx hb dX1_laid_84 rfl (lv_at hl 9 rfl) ?_
      refine lv_isub hx hb dX1_laid_85 ?_
      refine lv_topi (fun y_31 ey_31 => ?_)
      refine lv_imul hx hb dX1_laid_86 ?_
      refine lv_topi (fun y_32 ey_32 => ?_)
      refine lv_iadd hx hb dX1_laid_87 ?_
      refine lv_topi (fun y_33 ey_33 => ?_)
      have hPc := hP.sub (ws' := []) [] rfl
      have hDc := hD.sub (ws' := []) [] (by decide) rfl
      have hKc := hK.sub (tys' := []) [] rfl
      have hFc := va_free (wc := []) hD hS hA [] rfl
      refine va_calli (va_runSN (host := RX8) (As := [.int y_33]) (rest := [.int y_29]) ⟨hx, hb, hml, hown, hts⟩ (k_X8_shareOfFull l D H.size y_33) ⟨va_cnB 1 hts (gI bw_7) rfl rfl rfl (hN.2.1 (RX1, 59, yX8_shareOfFull, RX8) (by decide +kernel)) (hts _ bw_1) (by decide +kernel) ⟨(by rw [hR]; exact Nat.le_of_ble_eq_true rfl), (by rw [hR]; exact Nat.le_of_ble_eq_true rfl)⟩, (hts _ bw_9), trivial⟩ ⟨cP_blind, cP_at hPc hKc hDc hN⟩ rfl rfl hl.1 rfl (lv_room (Nat.le_of_ble_eq_true rfl)) dX1_laid_88 ⟨(by rw [hR]; exact Nat.le_of_ble_eq_true rfl), (by rw [hR]; exact Nat.le_of_ble_eq_true rfl)⟩) hS (fun q _ h => hFc q h) hFc (fun r_34 u9 t9 H1 locs ht hvm hr_34 hB hz1 hk1 hS => ?_)
      try dsimp only at hr_34
      have hP1 : va_P D vwCl [] H1 := vP_nil
      have hD1 : va_D (va_A [] H.size) [] := vD_nil
      obtain ⟨hP, hD⟩ := va_join (wr := [(h0, .inr (1, [.ref bx, .int ik, .int wy, .int op]))]) (w1 := []) hP hD [] [0] rfl rfl (by decide) (by decide) hk1 hFc hP1 hD1
      clear hz1 hk1 hFc hKc hDc hPc
      generalize H1 = H at hP hS ⊢
      have hP : va_P D vwCl [(h0, .inr (1, [.ref bx, .int ik, .int wy, .int op]))] H := hP
      have hD : va_D A [(h0, .inr (1, [.ref bx, .int ik, .int wy, .int op]))] := hD
      refine lv_ior hx hb dX1_laid_91 ?_
      refine lv_topi (fun y_35 ey_35 => ?_)
      refine lv_istore (lv' := [(6, .int y_35), (9, .int y_28), (8, .int r_22), (7, .int 16), (5, .int r_4), (4, .int r_2), (0, .ref h0), (1, .int n), (2, .int d), (3, .int v)]) hx hb dX1_laid_92 hl (by decide) rfl (fun ls hl => ?_)
      refine lv_iinc (v := 8) (lv' := [(7, .int 8), (6, .int y_35), (9, .int y_28), (8, .int r_22), (5, .int r_4), (4, .int r_2), (0, .ref h0), (1, .int n), (2, .int d), (3, .int v)]) hx hb dX1_laid_94 hl (k := 3) rfl (by decide) (by decide) rfl (fun ls hl => ?_)
      refine lv_goto (tgt := 31) hx hb dX1_laid_97 (by decide) ?_
      refine lv_iload hx hb dX1_laid_31 (lv_at hl 0 rfl) ?_
      refine lv_if_lt (tgt := 100) hx hb dX1_laid_33 (by decide) (fun c_36 => ?_) (fun c_36 => ?_)
      · skip
        exact absurd c_36 (by decide)
      · skip
        refine lv_iload_n hx hb dX1_laid_36 rfl (lv_at hl 8 rfl) ?_
        refine lv_iload hx hb dX1_laid_37 (lv_at hl 0 rfl) ?_
        have hPc := hP.sub (ws' := []) [] rfl
        have hDc := hD.sub (ws' := []) [] (by decide) rfl
        have hKc := hK.sub (tys' := []) [] rfl
        have hFc := va_free (wc := []) hD hS hA [] rfl
        refine va_calli (va_runSN (host := RX8) (As := [.int d, .int 8]) (rest := []) ⟨hx, hb, hml, hown, hts⟩ (k_X8_channel l D H.size d 8) ⟨va_cnB 2 hts (gI bw_4) rfl rfl rfl (hN.2.1 (RX1, 49, yX8_channel, RX8) (by decide +kernel)) (hts _ bw_1) (by decide +kernel) ⟨(by rw [hR]; exact Nat.le_of_ble_eq_true rfl), (by rw [hR]; exact Nat.le_of_ble_eq_true rfl)⟩, (hts _ bw_6), trivial⟩ ⟨cP_blind, cP_at hPc hKc hDc hN⟩ rfl rfl hl.1 rfl (lv_room (Nat.le_of_ble_eq_true rfl)) dX1_laid_39 ⟨(by rw [hR]; exact Nat.le_of_ble_eq_true rfl), (by rw [hR]; exact Nat.le_of_ble_eq_true rfl)⟩) hS (fun q _ h => hFc q h) hFc (fun r_38 u9 t9 H1 locs ht hvm hr_38 hB hz1 hk1 hS => ?_)
        try dsimp only at hr_38
        have hP1 : va_P D vwCl [] H1 := vP_nil
        have hD1 : va_D (va_A [] H.size) [] := vD_nil
        obtain ⟨hP, hD⟩ := va_join (wr := [(h0, .inr (1, [.ref bx, .int ik, .int wy, .int op]))]) (w1 := []) hP hD [] [0] rfl rfl (by decide) (by decide) hk1 hFc hP1 hD1
        clear hz1 hk1 hFc hKc hDc hPc
        generalize H1 = H at hP hS ⊢
        have hP : va_P D vwCl [(h0, .inr (1, [.ref bx, .int ik, .int wy, .int op]))] H := hP
        have hD : va_D A [(h0, .inr (1, [.ref bx, .int ik, .int wy, .int op]))] := hD
        refine lv_istore (lv' := [(8, .int r_38), (7, .int 8), (6, .int y_35), (9, .int y_28), (5, .int r_4), (4, .int r_2), (0, .ref h0), (1, .int n), (2, .int d), (3, .int v)]) hx hb dX1_laid_42 hl (by decide) rfl (fun ls hl => ?_)
        refine lv_sipush (v := 255) hx hb dX1_laid_44 (by decide) ?_
        refine lv_iload_n hx hb dX1_laid_47 rfl (lv_at hl 7 rfl) ?_
        refine lv_iload hx hb dX1_laid_48 (lv_at hl 1 rfl) ?_
        have hPc := hP.sub (ws' := []) [] rfl
        have hDc := hD.sub (ws' := []) [] (by decide) rfl
        have hKc := hK.sub (tys' := []) [] rfl
        have hFc := va_free (wc := []) hD hS hA [] rfl
        refine va_calli (va_runSN (host := RX8) (As := [.int n, .int 8]) (rest := [.int 255]) ⟨hx, hb, hml, hown, hts⟩ (k_X8_channel l D H.size n 8) ⟨va_cnB 2 hts (gI bw_4) rfl rfl rfl (hN.2.1 (RX1, 49, yX8_channel, RX8) (by decide +kernel)) (hts _ bw_1) (by decide +kernel) ⟨(by rw [hR]; exact Nat.le_of_ble_eq_true rfl), (by rw [hR]; exact Nat.le_of_ble_eq_true rfl)⟩, (hts _ bw_6), trivial⟩ ⟨cP_blind, cP_at hPc hKc hDc hN⟩ rfl rfl hl.1 rfl (lv_room (Nat.le_of_ble_eq_true rfl)) dX1_laid_50 ⟨(by rw [hR]; exact Nat.le_of_ble_eq_true rfl), (by rw [hR]; exact Nat.le_of_ble_eq_true rfl)⟩) hS (fun q _ h => hFc q h) hFc (fun r_39 u9 t9 H1 locs ht hvm hr_39 hB hz1 hk1 hS => ?_)
        try dsimp only at hr_39
        have hP1 : va_P D vwCl [] H1 := vP_nil
        have hD1 : va_D (va_A [] H.size) [] := vD_nil
        obtain ⟨hP, hD⟩ := va_join (wr := [(h0, .inr (1, [.ref bx, .int ik, .int wy, .int op]))]) (w1 := []) hP hD [] [0] rfl rfl (by decide) (by decide) hk1 hFc hP1 hD1
        clear hz1 hk1 hFc hKc hDc hPc
        generalize H1 = H at hP hS ⊢
        have hP : va_P D vwCl [(h0, .inr (1, [.ref bx, .int ik, .int wy, .int op]))] H := hP
        have hD : va_D A [(h0, .inr (1, [.ref bx, .int ik, .int wy, .int op]))] := hD
        refine lv_iload hx hb dX1_laid_53 (lv_at hl 5 rfl) ?_
        refine lv_imul hx hb dX1_laid_55 ?_
        refine lv_topi (fun y_40 ey_40 => ?_)
        refine lv_iload hx hb dX1_laid_56 (lv_at hl 0 rfl) ?_
        refine lv_iload hx hb dX1_laid_58 (lv_at hl 4 rfl) ?_
        refine lv_imul hx hb dX1_laid_60 ?_
        refine lv_topi (fun y_41 ey_41 => ?_)
        refine lv_iadd hx hb dX1_laid_61 ?_
        refine lv_topi (fun y_42 ey_42 => ?_)
        have hPc := hP.sub (ws' := []) [] rfl
        have hDc := hD.sub (ws' := []) [] (by decide) rfl
        have hKc := hK.sub (tys' := []) [] rfl
        have hFc := va_free (wc := []) hD hS hA [] rfl
        refine va_calli (va_runSN (host := RX8) (As := [.int y_42]) (rest := [.int 255]) ⟨hx, hb, hml, hown, hts⟩ (k_X8_shareOfFull l D H.size y_42) ⟨va_cnB 1 hts (gI bw_7) rfl rfl rfl (hN.2.1 (RX1, 59, yX8_shareOfFull, RX8) (by decide +kernel)) (hts _ bw_1) (by decide +kernel) ⟨(by rw [hR]; exact Nat.le_of_ble_eq_true rfl), (by rw [hR]; exact Nat.le_of_ble_eq_true rfl)⟩, (hts _ bw_9), trivial⟩ ⟨cP_blind, cP_at hPc hKc hDc hN⟩ rfl rfl hl.1 rfl (lv_room (Nat.le_of_ble_eq_true rfl)) dX1_laid_62 ⟨(by rw [hR]; exact Nat.le_of_ble_eq_true rfl), (by rw [hR]; exact Nat.le_of_ble_eq_true rfl)⟩) hS (fun q _ h => hFc q h) hFc (fun r_43 u9 t9 H1 locs ht hvm hr_43 hB hz1 hk1 hS => ?_)
        try dsimp only at hr_43
        have hP1 : va_P D vwCl [] H1 := vP_nil
        have hD1 : va_D (va_A [] H.size) [] := vD_nil
        obtain ⟨hP, hD⟩ := va_join (wr := [(h0, .inr (1, [.ref bx, .int ik, .int wy, .int op]))]) (w1 := []) hP hD [] [0] rfl rfl (by decide) (by decide) hk1 hFc hP1 hD1
        clear hz1 hk1 hFc hKc hDc hPc
        generalize H1 = H at hP hS ⊢
        have hP : va_P D vwCl [(h0, .inr (1, [.ref bx, .int ik, .int wy, .int op]))] H := hP
        have hD : va_D A [(h0, .inr (1, [.ref bx, .int ik, .int wy, .int op]))] := hD
        refine va_mmin hx hb (by rw [hml]; exact hl.1.symm) hown (hts _ bw_37) (hts _ bw_38) (hts _ bw_39) (hts _ bw_40) (by rw [hR]; exact Nat.le_of_ble_eq_true rfl) (by rw [hR]; exact Nat.le_of_ble_eq_true rfl) (by rw [hR]; exact Nat.le_of_ble_eq_true rfl) (by rw [hR]; exact Nat.le_of_ble_eq_true rfl) dX1_laid_65 ?_
        refine lv_topi (fun y_44 ey_44 => ?_)
        refine lv_istore (lv' := [(9, .int y_44), (8, .int r_38), (7, .int 8), (6, .int y_35), (5, .int r_4), (4, .int r_2), (0, .ref h0), (1, .int n), (2, .int d), (3, .int v)]) hx hb dX1_laid_68 hl (by decide) rfl (fun ls hl => ?_)
        refine lv_iload hx hb dX1_laid_70 (lv_at hl 3 rfl) ?_
        refine lv_bipush (v := 8) hx hb dX1_laid_72 (by decide) ?_
        refine lv_ishl hx hb dX1_laid_74 ?_
        refine lv_topi (fun y_45 ey_45 => ?_)
        refine lv_iload hx hb dX1_laid_75 (lv_at hl 0 rfl) ?_
        refine lv_iload_n hx hb dX1_laid_77 rfl (lv_at hl 9 rfl) ?_
        refine lv_imul hx hb dX1_laid_78 ?_
        refine lv_topi (fun y_46 ey_46 => ?_)
        refine lv_iload hx hb dX1_laid_79 (lv_at hl 1 rfl) ?_
        refine lv_sipush (v := 255) hx hb dX1_laid_81 (by decide) ?_
        refine lv_iload_n hx hb dX1_laid_84 rfl (lv_at hl 9 rfl) ?_
        refine lv_isub hx hb dX1_laid_85 ?_
        refine lv_topi (fun y_47 ey_47 => ?_)
        refine lv_imul hx hb dX1_laid_86 ?_
        refine lv_topi (fun y_48 ey_48 => ?_)
        refine lv_iadd hx hb dX1_laid_87 ?_
        refine lv_topi (fun y_49 ey_49 => ?_)
        have hPc := hP.sub (ws' := []) [] rfl
        have hDc := hD.sub (ws' := []) [] (by decide) rfl
        have hKc := hK.sub (tys' := []) [] rfl
        have hFc := va_free (wc := []) hD hS hA [] rfl
        refine va_calli (va_runSN (host := RX8) (As := [.int y_49]) (rest := [.int y_45]) ⟨hx, hb, hml, hown, hts⟩ (k_X8_shareOfFull l D H.size y_49) ⟨va_cnB 1 hts (gI bw_7) rfl rfl rfl (hN.2.1 (RX1, 59, yX8_shareOfFull, RX8) (by decide +kernel)) (hts _ bw_1) (by decide +kernel) ⟨(by rw [hR]; exact Nat.le_of_ble_eq_true rfl), (by rw [hR]; exact Nat.le_of_ble_eq_true rfl)⟩, (hts _ bw_9), trivial⟩ ⟨cP_blind, cP_at hPc hKc hDc hN⟩ rfl rfl hl.1 rfl (lv_room (Nat.le_of_ble_eq_true rfl)) dX1_laid_88 ⟨(by rw [hR]; exact Nat.le_of_ble_eq_true rfl), (by rw [hR]; exact Nat.le_of_ble_eq_true rfl)⟩) hS (fun q _ h => hFc q h) hFc (fun r_50 u9 t9 H1 locs ht hvm hr_50 hB hz1 hk1 hS => ?_)
        try dsimp only at hr_50
        have hP1 : va_P D vwCl [] H1 := vP_nil
        have hD1 : va_D (va_A [] H.size) [] := vD_nil
        obtain ⟨hP, hD⟩ := va_join (wr := [(h0, .inr (1, [.ref bx, .int ik, .int wy, .int op]))]) (w1 := []) hP hD [] [0] rfl rfl (by decide) (by decide) hk1 hFc hP1 hD1
        clear hz1 hk1 hFc hKc hDc hPc
        generalize H1 = H at hP hS ⊢
        have hP : va_P D vwCl [(h0, .inr (1, [.ref bx, .int ik, .int wy, .int op]))] H := hP
        have hD : va_D A [(h0, .inr (1, [.ref bx, .int ik, .int wy, .int op]))] := hD
        refine lv_ior hx hb dX1_laid_91 ?_
        refine lv_topi (fun y_51 ey_51 => ?_)
        refine lv_istore (lv' := [(6, .int y_51), (9, .int y_44), (8, .int r_38), (7, .int 8), (5, .int r_4), (4, .int r_2), (0, .ref h0), (1, .int n), (2, .int d), (3, .int v)]) hx hb dX1_laid_92 hl (by decide) rfl (fun ls hl => ?_)
        refine lv_iinc (v := 0) (lv' := [(7, .int 0), (6, .int y_51), (9, .int y_44), (8, .int r_38), (5, .int r_4), (4, .int r_2), (0, .ref h0), (1, .int n), (2, .int d), (3, .int v)]) hx hb dX1_laid_94 hl (k := 3) rfl (by decide) (by decide) rfl (fun ls hl => ?_)
        refine lv_goto (tgt := 31) hx hb dX1_laid_97 (by decide) ?_
        refine lv_iload hx hb dX1_laid_31 (lv_at hl 0 rfl) ?_
        refine lv_if_lt (tgt := 100) hx hb dX1_laid_33 (by decide) (fun c_52 => ?_) (fun c_52 => ?_)
        · skip
          exact absurd c_52 (by decide)
        · skip
          refine lv_iload_n hx hb dX1_laid_36 rfl (lv_at hl 8 rfl) ?_
          refine lv_iload hx hb dX1_laid_37 (lv_at hl 0 rfl) ?_
          have hPc := hP.sub (ws' := []) [] rfl
          have hDc := hD.sub (ws' := []) [] (by decide) rfl
          have hKc := hK.sub (tys' := []) [] rfl
          have hFc := va_free (wc := []) hD hS hA [] rfl
          refine va_calli (va_runSN (host := RX8) (As := [.int d, .int 0]) (rest := []) ⟨hx, hb, hml, hown, hts⟩ (k_X8_channel l D H.size d 0) ⟨va_cnB 2 hts (gI bw_4) rfl rfl rfl (hN.2.1 (RX1, 49, yX8_channel, RX8) (by decide +kernel)) (hts _ bw_1) (by decide +kernel) ⟨(by rw [hR]; exact Nat.le_of_ble_eq_true rfl), (by rw [hR]; exact Nat.le_of_ble_eq_true rfl)⟩, (hts _ bw_6), trivial⟩ ⟨cP_blind, cP_at hPc hKc hDc hN⟩ rfl rfl hl.1 rfl (lv_room (Nat.le_of_ble_eq_true rfl)) dX1_laid_39 ⟨(by rw [hR]; exact Nat.le_of_ble_eq_true rfl), (by rw [hR]; exact Nat.le_of_ble_eq_true rfl)⟩) hS (fun q _ h => hFc q h) hFc (fun r_54 u9 t9 H1 locs ht hvm hr_54 hB hz1 hk1 hS => ?_)
          try dsimp only at hr_54
          have hP1 : va_P D vwCl [] H1 := vP_nil
          have hD1 : va_D (va_A [] H.size) [] := vD_nil
          obtain ⟨hP, hD⟩ := va_join (wr := [(h0, .inr (1, [.ref bx, .int ik, .int wy, .int op]))]) (w1 := []) hP hD [] [0] rfl rfl (by decide) (by decide) hk1 hFc hP1 hD1
          clear hz1 hk1 hFc hKc hDc hPc
          generalize H1 = H at hP hS ⊢
          have hP : va_P D vwCl [(h0, .inr (1, [.ref bx, .int ik, .int wy, .int op]))] H := hP
          have hD : va_D A [(h0, .inr (1, [.ref bx, .int ik, .int wy, .int op]))] := hD
          refine lv_istore (lv' := [(8, .int r_54), (7, .int 0), (6, .int y_51), (9, .int y_44), (5, .int r_4), (4, .int r_2), (0, .ref h0), (1, .int n), (2, .int d), (3, .int v)]) hx hb dX1_laid_42 hl (by decide) rfl (fun ls hl => ?_)
          refine lv_sipush (v := 255) hx hb dX1_laid_44 (by decide) ?_
          refine lv_iload_n hx hb dX1_laid_47 rfl (lv_at hl 7 rfl) ?_
          refine lv_iload hx hb dX1_laid_48 (lv_at hl 1 rfl) ?_
          have hPc := hP.sub (ws' := []) [] rfl
          have hDc := hD.sub (ws' := []) [] (by decide) rfl
          have hKc := hK.sub (tys' := []) [] rfl
          have hFc := va_free (wc := []) hD hS hA [] rfl
          refine va_calli (va_runSN (host := RX8) (As := [.int n, .int 0]) (rest := [.int 255]) ⟨hx, hb, hml, hown, hts⟩ (k_X8_channel l D H.size n 0) ⟨va_cnB 2 hts (gI bw_4) rfl rfl rfl (hN.2.1 (RX1, 49, yX8_channel, RX8) (by decide +kernel)) (hts _ bw_1) (by decide +kernel) ⟨(by rw [hR]; exact Nat.le_of_ble_eq_true rfl), (by rw [hR]; exact Nat.le_of_ble_eq_true rfl)⟩, (hts _ bw_6), trivial⟩ ⟨cP_blind, cP_at hPc hKc hDc hN⟩ rfl rfl hl.1 rfl (lv_room (Nat.le_of_ble_eq_true rfl)) dX1_laid_50 ⟨(by rw [hR]; exact Nat.le_of_ble_eq_true rfl), (by rw [hR]; exact Nat.le_of_ble_eq_true rfl)⟩) hS (fun q _ h => hFc q h) hFc (fun r_55 u9 t9 H1 locs ht hvm hr_55 hB hz1 hk1 hS => ?_)
          try dsimp only at hr_55
          have hP1 : va_P D vwCl [] H1 := vP_nil
          have hD1 : va_D (va_A [] H.size) [] := vD_nil
          obtain ⟨hP, hD⟩ := va_join (wr := [(h0, .inr (1, [.ref bx, .int ik, .int wy, .int op]))]) (w1 := []) hP hD [] [0] rfl rfl (by decide) (by decide) hk1 hFc hP1 hD1
          clear hz1 hk1 hFc hKc hDc hPc
          generalize H1 = H at hP hS ⊢
          have hP : va_P D vwCl [(h0, .inr (1, [.ref bx, .int ik, .int wy, .int op]))] H := hP
          have hD : va_D A [(h0, .inr (1, [.ref bx, .int ik, .int wy, .int op]))] := hD
          refine lv_iload hx hb dX1_laid_53 (lv_at hl 5 rfl) ?_
          refine lv_imul hx hb dX1_laid_55 ?_
          refine lv_topi (fun y_56 ey_56 => ?_)
          refine lv_iload hx hb dX1_laid_56 (lv_at hl 0 rfl) ?_
          refine lv_iload hx hb dX1_laid_58 (lv_at hl 4 rfl) ?_
          refine lv_imul hx hb dX1_laid_60 ?_
          refine lv_topi (fun y_57 ey_57 => ?_)
          refine lv_iadd hx hb dX1_laid_61 ?_
          refine lv_topi (fun y_58 ey_58 => ?_)
          have hPc := hP.sub (ws' := []) [] rfl
          have hDc := hD.sub (ws' := []) [] (by decide) rfl
          have hKc := hK.sub (tys' := []) [] rfl
          have hFc := va_free (wc := []) hD hS hA [] rfl
          refine va_calli (va_runSN (host := RX8) (As := [.int y_58]) (rest := [.int 255]) ⟨hx, hb, hml, hown, hts⟩ (k_X8_shareOfFull l D H.size y_58) ⟨va_cnB 1 hts (gI bw_7) rfl rfl rfl (hN.2.1 (RX1, 59, yX8_shareOfFull, RX8) (by decide +kernel)) (hts _ bw_1) (by decide +kernel) ⟨(by rw [hR]; exact Nat.le_of_ble_eq_true rfl), (by rw [hR]; exact Nat.le_of_ble_eq_true rfl)⟩, (hts _ bw_9), trivial⟩ ⟨cP_blind, cP_at hPc hKc hDc hN⟩ rfl rfl hl.1 rfl (lv_room (Nat.le_of_ble_eq_true rfl)) dX1_laid_62 ⟨(by rw [hR]; exact Nat.le_of_ble_eq_true rfl), (by rw [hR]; exact Nat.le_of_ble_eq_true rfl)⟩) hS (fun q _ h => hFc q h) hFc (fun r_59 u9 t9 H1 locs ht hvm hr_59 hB hz1 hk1 hS => ?_)
          try dsimp only at hr_59
          have hP1 : va_P D vwCl [] H1 := vP_nil
          have hD1 : va_D (va_A [] H.size) [] := vD_nil
          obtain ⟨hP, hD⟩ := va_join (wr := [(h0, .inr (1, [.ref bx, .int ik, .int wy, .int op]))]) (w1 := []) hP hD [] [0] rfl rfl (by decide) (by decide) hk1 hFc hP1 hD1
          clear hz1 hk1 hFc hKc hDc hPc
          generalize H1 = H at hP hS ⊢
          have hP : va_P D vwCl [(h0, .inr (1, [.ref bx, .int ik, .int wy, .int op]))] H := hP
          have hD : va_D A [(h0, .inr (1, [.ref bx, .int ik, .int wy, .int op]))] := hD
          refine va_mmin hx hb (by rw [hml]; exact hl.1.symm) hown (hts _ bw_37) (hts _ bw_38) (hts _ bw_39) (hts _ bw_40) (by rw [hR]; exact Nat.le_of_ble_eq_true rfl) (by rw [hR]; exact Nat.le_of_ble_eq_true rfl) (by rw [hR]; exact Nat.le_of_ble_eq_true rfl) (by rw [hR]; exact Nat.le_of_ble_eq_true rfl) dX1_laid_65 ?_
          refine lv_topi (fun y_60 ey_60 => ?_)
          refine lv_istore (lv' := [(9, .int y_60), (8, .int r_54), (7, .int 0), (6, .int y_51), (5, .int r_4), (4, .int r_2), (0, .ref h0), (1, .int n), (2, .int d), (3, .int v)]) hx hb dX1_laid_68 hl (by decide) rfl (fun ls hl => ?_)
          refine lv_iload hx hb dX1_laid_70 (lv_at hl 3 rfl) ?_
          refine lv_bipush (v := 8) hx hb dX1_laid_72 (by decide) ?_
          refine lv_ishl hx hb dX1_laid_74 ?_
          refine lv_topi (fun y_61 ey_61 => ?_)
          refine lv_iload hx hb dX1_laid_75 (lv_at hl 0 rfl) ?_
          refine lv_iload_n hx hb dX1_laid_77 rfl (lv_at hl 9 rfl) ?_
          refine lv_imul hx hb dX1_laid_78 ?_
          refine lv_topi (fun y_62 ey_62 => ?_)
          refine lv_iload hx hb dX1_laid_79 (lv_at hl 1 rfl) ?_
          refine lv_sipush (v := 255) hx hb dX1_laid_81 (by decide) ?_
          refine lv_iload_n hx hb dX1_laid_84 rfl (lv_at hl 9 rfl) ?_
          refine lv_isub hx hb dX1_laid_85 ?_
          refine lv_topi (fun y_63 ey_63 => ?_)
          refine lv_imul hx hb dX1_laid_86 ?_
          refine lv_topi (fun y_64 ey_64 => ?_)
          refine lv_iadd hx hb dX1_laid_87 ?_
          refine lv_topi (fun y_65 ey_65 => ?_)
          have hPc := hP.sub (ws' := []) [] rfl
          have hDc := hD.sub (ws' := []) [] (by decide) rfl
          have hKc := hK.sub (tys' := []) [] rfl
          have hFc := va_free (wc := []) hD hS hA [] rfl
          refine va_calli (va_runSN (host := RX8) (As := [.int y_65]) (rest := [.int y_61]) ⟨hx, hb, hml, hown, hts⟩ (k_X8_shareOfFull l D H.size y_65) ⟨va_cnB 1 hts (gI bw_7) rfl rfl rfl (hN.2.1 (RX1, 59, yX8_shareOfFull, RX8) (by decide +kernel)) (hts _ bw_1) (by decide +kernel) ⟨(by rw [hR]; exact Nat.le_of_ble_eq_true rfl), (by rw [hR]; exact Nat.le_of_ble_eq_true rfl)⟩, (hts _ bw_9), trivial⟩ ⟨cP_blind, cP_at hPc hKc hDc hN⟩ rfl rfl hl.1 rfl (lv_room (Nat.le_of_ble_eq_true rfl)) dX1_laid_88 ⟨(by rw [hR]; exact Nat.le_of_ble_eq_true rfl), (by rw [hR]; exact Nat.le_of_ble_eq_true rfl)⟩) hS (fun q _ h => hFc q h) hFc (fun r_66 u9 t9 H1 locs ht hvm hr_66 hB hz1 hk1 hS => ?_)
          try dsimp only at hr_66
          have hP1 : va_P D vwCl [] H1 := vP_nil
          have hD1 : va_D (va_A [] H.size) [] := vD_nil
          obtain ⟨hP, hD⟩ := va_join (wr := [(h0, .inr (1, [.ref bx, .int ik, .int wy, .int op]))]) (w1 := []) hP hD [] [0] rfl rfl (by decide) (by decide) hk1 hFc hP1 hD1
          clear hz1 hk1 hFc hKc hDc hPc
          generalize H1 = H at hP hS ⊢
          have hP : va_P D vwCl [(h0, .inr (1, [.ref bx, .int ik, .int wy, .int op]))] H := hP
          have hD : va_D A [(h0, .inr (1, [.ref bx, .int ik, .int wy, .int op]))] := hD
          refine lv_ior hx hb dX1_laid_91 ?_
          refine lv_topi (fun y_67 ey_67 => ?_)
          refine lv_istore (lv' := [(6, .int y_67), (9, .int y_60), (8, .int r_54), (7, .int 0), (5, .int r_4), (4, .int r_2), (0, .ref h0), (1, .int n), (2, .int d), (3, .int v)]) hx hb dX1_laid_92 hl (by decide) rfl (fun ls hl => ?_)
          refine lv_iinc (v := (-8)) (lv' := [(7, .int (-8)), (6, .int y_67), (9, .int y_60), (8, .int r_54), (5, .int r_4), (4, .int r_2), (0, .ref h0), (1, .int n), (2, .int d), (3, .int v)]) hx hb dX1_laid_94 hl (k := 3) rfl (by decide) (by decide) rfl (fun ls hl => ?_)
          refine lv_goto (tgt := 31) hx hb dX1_laid_97 (by decide) ?_
          refine lv_iload hx hb dX1_laid_31 (lv_at hl 0 rfl) ?_
          refine lv_if_lt (tgt := 100) hx hb dX1_laid_33 (by decide) (fun c_68 => ?_) (fun c_68 => ?_)
          · skip
            refine lv_iload hx hb dX1_laid_100 (lv_at hl 1 rfl) ?_
            have hP9 := hP.sub (ws' := [(h0, .inr (1, [.ref bx, .int ik, .int wy, .int op]))]) [0] rfl
            have hD9 := hD.sub (ws' := [(h0, .inr (1, [.ref bx, .int ik, .int wy, .int op]))]) [0] (by decide) rfl
            have hK9 := hK.sub (tys' := []) [] rfl
            refine hQ _ _ _ _ _ ?_
            exact W.iret (v := y_67) hx hb hr (fun t ht hW => ⟨⟨y_67, (), rfl, (by subst_vars; rfl), ⟨by rw [ht]; exact hP9, va_K.moved hW.alike hK9, hD9⟩⟩, hS.F ht⟩) hS.2.2 dX1_laid_102
          · skip
            exact absurd c_68 (by decide)

set_option maxHeartbeats 4000000 in
set_option maxRecDepth 100000 in
theorem k_X1_lay (l : Launch) (D : va_G) (sz : Nat) (h0 bx : Nat) (ik wy op : Int32) (t0 d0 : Nat) (bx0 by0 bx1 by1 : Int32) (w h : Int32) (g : Nat → Int32) (x y n v : Int32) (cI : ClassId) (hwy : 0 ≤ wy.toInt ∧ wy.toInt ≤ 12) (hw : w.toInt ≤ 64) (hh : h.toInt ≤ 64) : Met l yX1_lay (wB yX1_lay cX1_lay 6 (some .int)) ({ frames := 2, cells := 0, slots := 0, locals := 50 }) (cP D [(h0, .inr (1, [.ref bx, .int ik, .int wy, .int op])), (bx, .inr (0, [.int bx0, .int by0, .int bx1, .int by1])), (t0, .inr (5, [.ref d0, .int w, .int h])), (d0, .inl (cI, 4096, .inl g))] [(cI, .int)] sz [.ref h0, .ref t0, .int x, .int y, .int n, .int v]) (va_Qi (fun (r : Int32) (_ : Unit) => r = if 0 ≤ x.toInt ∧ x.toInt < w.toInt ∧ 0 ≤ y.toInt ∧ y.toInt < h.toInt ∧ bx0.toInt ≤ x.toInt ∧ x.toInt ≤ bx1.toInt ∧ by0.toInt ≤ y.toInt ∧ y.toInt ≤ by1.toInt then 1 else 0) (fun (_ : Unit) (t : State) => cB D (va_A [(h0, .inr (1, [.ref bx, .int ik, .int wy, .int op])), (bx, .inr (0, [.int bx0, .int by0, .int bx1, .int by1])), (t0, .inr (5, [.ref d0, .int w, .int h])), (d0, .inl (cI, 4096, .inl g))] sz) [(h0, .inr (1, [.ref bx, .int ik, .int wy, .int op])), (bx, .inr (0, [.int bx0, .int by0, .int bx1, .int by1])), (t0, .inr (5, [.ref d0, .int w, .int h])), (d0, .inl (cI, 4096, .inl (if 0 ≤ x.toInt ∧ x.toInt < w.toInt ∧ 0 ≤ y.toInt ∧ y.toInt < h.toInt ∧ bx0.toInt ≤ x.toInt ∧ x.toInt ≤ bx1.toInt ∧ by0.toInt ≤ y.toInt ∧ y.toInt ≤ by1.toInt then upd g (ixP x y) (laidP wy n (g (ixP x y)) v) else g)))] [(cI, .int)] t) (va_A [(h0, .inr (1, [.ref bx, .int ik, .int wy, .int op])), (bx, .inr (0, [.int bx0, .int by0, .int bx1, .int by1])), (t0, .inr (5, [.ref d0, .int w, .int h])), (d0, .inl (cI, 4096, .inl g))] sz)) 0 0 (va_A [(h0, .inr (1, [.ref bx, .int ik, .int wy, .int op])), (bx, .inr (0, [.int bx0, .int by0, .int bx1, .int by1])), (t0, .inr (5, [.ref d0, .int w, .int h])), (d0, .inl (cI, 4096, .inl g))] sz) := by
  refine Met.ofW (cc := cX1_lay) (maxL := 6) (ret := (some .int)) (by decide) rfl ?_
  intro p e s m args below meth c s₁ B hml hv
  obtain ⟨rfl, hsz, hP, hK, hD0, hN⟩ := hv
  have hx := B.exec
  have hb := B.bytes
  have hr := B.returns
  have hts0 := atoms_spec (ws := (wB yX1_lay cX1_lay 6 (some .int))) B.pre
  have hts : ∀ w ∈ bigW, w.before _ s = true := fun w h => hts0 w (List.mem_cons_of_mem _ h)
  have hown : s.vm.findClass RX1 = some m.cls := findClass_of_methodNamed B.named
  have hlocks := B.notSynchronized
  subst hsz
  have hD := hD0.self (sz := s.heap.size)
  generalize hAe : va_A [(h0, .inr (1, [.ref bx, .int ik, .int wy, .int op])), (bx, .inr (0, [.int bx0, .int by0, .int bx1, .int by1])), (t0, .inr (5, [.ref d0, .int w, .int h])), (d0, .inl (cI, 4096, .inl g))] s.heap.size = A at hD ⊢
  have hA : ∀ q : Nat, s.heap.size ≤ q → A q := fun q h => by rw [← hAe]; exact Or.inr h
  have hS : va_S A s.heap s.heap [] := va_S.rf
  have hP : va_P D vwCl [(h0, .inr (1, [.ref bx, .int ik, .int wy, .int op])), (bx, .inr (0, [.int bx0, .int by0, .int bx1, .int by1])), (t0, .inr (5, [.ref d0, .int w, .int h])), (d0, .inl (cI, 4096, .inl g))] s.heap := hP
  have hl := lv_entry ([.ref h0, .ref t0, .int x, .int y, .int n, .int v]) (n := 6) (Nat.le_of_ble_eq_true rfl)
  rw [lg_entry_eq]
  generalize (lg_sl ([.ref h0, .ref t0, .int x, .int y, .int n, .int v]) ++ List.replicate (6 - (lg_sl ([.ref h0, .ref t0, .int x, .int y, .int n, .int v])).length) Slot.unset).toArray = ls at hl ⊢
  have hl : lv_has ls 6 [(0, .ref h0), (1, .ref t0), (2, .int x), (3, .int y), (4, .int n), (5, .int v)] := hl
  clear hts0 hD0 hAe
  refine my_abs (fun R Q hR hQ => ?_)
  refine lv_aload_n hx hb dX1_lay_0 rfl (lv_at hl 1 rfl) ?_
  refine lv_iload_n hx hb dX1_lay_1 rfl (lv_at hl 2 rfl) ?_
  refine lv_iload_n hx hb dX1_lay_2 rfl (lv_at hl 3 rfl) ?_
  have hPc := hP.sub (ws' := [(t0, .inr (5, [.ref d0, .int w, .int h]))]) [2] rfl
  have hDc := hD.sub (ws' := [(t0, .inr (5, [.ref d0, .int w, .int h]))]) [2] (by decide) rfl
  have hKc := hK.sub (tys' := []) [] rfl
  have hFc := va_free (wc := [(t0, .inr (5, [.ref d0, .int w, .int h]))]) hD hS hA [2] rfl
  refine va_calli (va_runV (As := [.int x, .int y]) (rest := []) ⟨hx, hb, hml, hown, hts⟩ (k_X5_has l D s.heap.size t0 d0 w h x y) (cwV 2 hts (gV bw_41 bw_15 bw_16 bw_13 bw_12) rfl rfl rfl (by decide +kernel) ⟨(by rw [hR]; exact Nat.le_of_ble_eq_true rfl), (by rw [hR]; exact Nat.le_of_ble_eq_true rfl)⟩) ⟨cP_blind, va_recv hKc hPc (ci := 5) (q0 := 0) rfl rfl, cP_at hPc hKc hDc hN⟩ rfl rfl hl.1 rfl (lv_room (Nat.le_of_ble_eq_true rfl)) dX1_lay_3 ⟨(by rw [hR]; exact Nat.le_of_ble_eq_true rfl), (by rw [hR]; exact Nat.le_of_ble_eq_true rfl)⟩) hS (fun q _ h => hFc q h) hFc (fun r_1 u9 t9 H1 locs ht hvm hr_1 hB hz1 hk1 hS => ?_)
  try dsimp only at hr_1
  obtain ⟨hP1, hK1, hD1⟩ := hB
  rw [ht] at hP1
  obtain ⟨hP, hD⟩ := va_join (wr := [(h0, .inr (1, [.ref bx, .int ik, .int wy, .int op])), (bx, .inr (0, [.int bx0, .int by0, .int bx1, .int by1])), (d0, .inl (cI, 4096, .inl g))]) (w1 := [(t0, .inr (5, [.ref d0, .int w, .int h]))]) hP hD [2] [0, 1, 3] rfl rfl (by decide) (by decide) hk1 hFc hP1 hD1
  clear hz1 hk1 hFc hKc hDc hPc
  generalize H1 = H at hP hS ⊢
  have hP : va_P D vwCl [(h0, .inr (1, [.ref bx, .int ik, .int wy, .int op])), (bx, .inr (0, [.int bx0, .int by0, .int bx1, .int by1])), (d0, .inl (cI, 4096, .inl g)), (t0, .inr (5, [.ref d0, .int w, .int h]))] H := hP
  have hD : va_D A [(h0, .inr (1, [.ref bx, .int ik, .int wy, .int op])), (bx, .inr (0, [.int bx0, .int by0, .int bx1, .int by1])), (d0, .inl (cI, 4096, .inl g)), (t0, .inr (5, [.ref d0, .int w, .int h]))] := hD
  refine lv_if_eq (tgt := 21) hx hb dX1_lay_6 (by decide) (fun c_2 => ?_) (fun c_2 => ?_)
  · skip
    have f_3 := bz0 hr_1 c_2
    refine lv_iconst (v := 0) hx hb dX1_lay_21 (by decide) ?_
    have hc : g = if 0 ≤ x.toInt ∧ x.toInt < w.toInt ∧ 0 ≤ y.toInt ∧ y.toInt < h.toInt ∧ bx0.toInt ≤ x.toInt ∧ x.toInt ≤ bx1.toInt ∧ by0.toInt ≤ y.toInt ∧ y.toInt ≤ by1.toInt then upd g (ixP x y) (laidP wy n (g (ixP x y)) v) else g := (if_neg (by omega)).symm
    rw [hc] at hP hD
    have hP9 := hP.sub (ws' := [(h0, .inr (1, [.ref bx, .int ik, .int wy, .int op])), (bx, .inr (0, [.int bx0, .int by0, .int bx1, .int by1])), (t0, .inr (5, [.ref d0, .int w, .int h])), (d0, .inl (cI, 4096, .inl (if 0 ≤ x.toInt ∧ x.toInt < w.toInt ∧ 0 ≤ y.toInt ∧ y.toInt < h.toInt ∧ bx0.toInt ≤ x.toInt ∧ x.toInt ≤ bx1.toInt ∧ by0.toInt ≤ y.toInt ∧ y.toInt ≤ by1.toInt then upd g (ixP x y) (laidP wy n (g (ixP x y)) v) else g)))]) [0, 1, 3, 2] rfl
    have hD9 := hD.sub (ws' := [(h0, .inr (1, [.ref bx, .int ik, .int wy, .int op])), (bx, .inr (0, [.int bx0, .int by0, .int bx1, .int by1])), (t0, .inr (5, [.ref d0, .int w, .int h])), (d0, .inl (cI, 4096, .inl (if 0 ≤ x.toInt ∧ x.toInt < w.toInt ∧ 0 ≤ y.toInt ∧ y.toInt < h.toInt ∧ bx0.toInt ≤ x.toInt ∧ x.toInt ≤ bx1.toInt ∧ by0.toInt ≤ y.toInt ∧ y.toInt ≤ by1.toInt then upd g (ixP x y) (laidP wy n (g (ixP x y)) v) else g)))]) [0, 1, 3, 2] (by decide) rfl
    have hK9 := hK.sub (tys' := [(cI, .int)]) [0] rfl
    refine hQ _ _ _ _ _ ?_
    exact W.iret (v := 0) hx hb hr (fun t ht hW => ⟨⟨0, (), rfl, (if_neg (by omega)).symm, ⟨by rw [ht]; exact hP9, va_K.moved hW.alike hK9, hD9⟩⟩, hS.F ht⟩) hS.2.2 dX1_lay_22
  · skip
    have f_3 := bz1 hr_1 c_2
    refine lv_aload_n hx hb dX1_lay_9 rfl (lv_at hl 0 rfl) ?_
    refine va_get (D := D) (ci := 1) (v := .ref bx) (C := RX1) (T := TX1) (N := 4) hx hb hts hi_X1 hown hK hP 0 rfl rfl 0 (by decide) (hts _ bw_42) (fun _ h9 => h9) rfl dX1_lay_10 ?_
    refine lv_iload_n hx hb dX1_lay_13 rfl (lv_at hl 2 rfl) ?_
    refine lv_iload_n hx hb dX1_lay_14 rfl (lv_at hl 3 rfl) ?_
    have hPc := hP.sub (ws' := [(bx, .inr (0, [.int bx0, .int by0, .int bx1, .int by1]))]) [1] rfl
    have hDc := hD.sub (ws' := [(bx, .inr (0, [.int bx0, .int by0, .int bx1, .int by1]))]) [1] (by decide) rfl
    have hKc := hK.sub (tys' := []) [] rfl
    have hFc := va_free (wc := [(bx, .inr (0, [.int bx0, .int by0, .int bx1, .int by1]))]) hD hS hA [1] rfl
    refine va_calli (va_runV (As := [.int x, .int y]) (rest := []) ⟨hx, hb, hml, hown, hts⟩ (k_X0_holds l D H.size bx bx0 by0 bx1 by1 x y) (cwV 2 hts (gV bw_45 bw_46 bw_47 bw_44 bw_43) rfl rfl rfl (by decide +kernel) ⟨(by rw [hR]; exact Nat.le_of_ble_eq_true rfl), (by rw [hR]; exact Nat.le_of_ble_eq_true rfl)⟩) ⟨cP_blind, va_recv hKc hPc (ci := 0) (q0 := 0) rfl rfl, cP_at hPc hKc hDc hN⟩ rfl rfl hl.1 rfl (lv_room (Nat.le_of_ble_eq_true rfl)) dX1_lay_15 ⟨(by rw [hR]; exact Nat.le_of_ble_eq_true rfl), (by rw [hR]; exact Nat.le_of_ble_eq_true rfl)⟩) hS (fun q _ h => hFc q h) hFc (fun r_4 u9 t9 H1 locs ht hvm hr_4 hB hz1 hk1 hS => ?_)
    try dsimp only at hr_4
    obtain ⟨hP1, hK1, hD1⟩ := hB
    rw [ht] at hP1
    obtain ⟨hP, hD⟩ := va_join (wr := [(h0, .inr (1, [.ref bx, .int ik, .int wy, .int op])), (d0, .inl (cI, 4096, .inl g)), (t0, .inr (5, [.ref d0, .int w, .int h]))]) (w1 := [(bx, .inr (0, [.int bx0, .int by0, .int bx1, .int by1]))]) hP hD [1] [0, 2, 3] rfl rfl (by decide) (by decide) hk1 hFc hP1 hD1
    clear hz1 hk1 hFc hKc hDc hPc
    generalize H1 = H at hP hS ⊢
    have hP : va_P D vwCl [(h0, .inr (1, [.ref bx, .int ik, .int wy, .int op])), (d0, .inl (cI, 4096, .inl g)), (t0, .inr (5, [.ref d0, .int w, .int h])), (bx, .inr (0, [.int bx0, .int by0, .int bx1, .int by1]))] H := hP
    have hD : va_D A [(h0, .inr (1, [.ref bx, .int ik, .int wy, .int op])), (d0, .inl (cI, 4096, .inl g)), (t0, .inr (5, [.ref d0, .int w, .int h])), (bx, .inr (0, [.int bx0, .int by0, .int bx1, .int by1]))] := hD
    refine lv_if_ne (tgt := 23) hx hb dX1_lay_18 (by decide) (fun c_5 => ?_) (fun c_5 => ?_)
    · skip
      have f_6 := bz1 hr_4 c_5
      refine lv_aload_n hx hb dX1_lay_23 rfl (lv_at hl 1 rfl) ?_
      refine lv_iload_n hx hb dX1_lay_24 rfl (lv_at hl 2 rfl) ?_
      refine lv_iload_n hx hb dX1_lay_25 rfl (lv_at hl 3 rfl) ?_
      refine lv_aload_n hx hb dX1_lay_26 rfl (lv_at hl 0 rfl) ?_
      refine lv_iload hx hb dX1_lay_27 (lv_at hl 4 rfl) ?_
      refine lv_aload_n hx hb dX1_lay_29 rfl (lv_at hl 1 rfl) ?_
      refine lv_iload_n hx hb dX1_lay_30 rfl (lv_at hl 2 rfl) ?_
      refine lv_iload_n hx hb dX1_lay_31 rfl (lv_at hl 3 rfl) ?_
      have hPc := hP.sub (ws' := [(t0, .inr (5, [.ref d0, .int w, .int h])), (d0, .inl (cI, 4096, .inl g))]) [2, 1] rfl
      have hDc := hD.sub (ws' := [(t0, .inr (5, [.ref d0, .int w, .int h])), (d0, .inl (cI, 4096, .inl g))]) [2, 1] (by decide) rfl
      have hKc := hK.sub (tys' := [(cI, .int)]) [0] rfl
      have hFc := va_free (wc := [(t0, .inr (5, [.ref d0, .int w, .int h])), (d0, .inl (cI, 4096, .inl g))]) hD hS hA [2, 1] rfl
      refine va_calli (va_runV (As := [.int x, .int y]) (rest := [.int n, .ref h0, .int y, .int x, .ref t0]) ⟨hx, hb, hml, hown, hts⟩ (k_X5_at l D H.size t0 d0 w h g x y cI (by first | assumption | omega | decide) (by first | assumption | omega | decide)) (cwV 2 hts (gV bw_49 bw_50 bw_51 bw_13 bw_48) rfl rfl rfl (by decide +kernel) ⟨(by rw [hR]; exact Nat.le_of_ble_eq_true rfl), (by rw [hR]; exact Nat.le_of_ble_eq_true rfl)⟩) ⟨cP_blind, va_recv hKc hPc (ci := 5) (q0 := 0) rfl rfl, cP_at hPc hKc hDc hN⟩ rfl rfl hl.1 rfl (lv_room (Nat.le_of_ble_eq_true rfl)) dX1_lay_32 ⟨(by rw [hR]; exact Nat.le_of_ble_eq_true rfl), (by rw [hR]; exact Nat.le_of_ble_eq_true rfl)⟩) hS (fun q _ h => hFc q h) hFc (fun r_7 u9 t9 H1 locs ht hvm hr_7 hB hz1 hk1 hS => ?_)
      try dsimp only at hr_7
      obtain ⟨hP1, hK1, hD1⟩ := hB
      rw [ht] at hP1
      obtain ⟨hP, hD⟩ := va_join (wr := [(h0, .inr (1, [.ref bx, .int ik, .int wy, .int op])), (bx, .inr (0, [.int bx0, .int by0, .int bx1, .int by1]))]) (w1 := [(t0, .inr (5, [.ref d0, .int w, .int h])), (d0, .inl (cI, 4096, .inl g))]) hP hD [2, 1] [0, 3] rfl rfl (by decide) (by decide) hk1 hFc hP1 hD1
      clear hz1 hk1 hFc hKc hDc hPc
      generalize H1 = H at hP hS ⊢
      have hP : va_P D vwCl [(h0, .inr (1, [.ref bx, .int ik, .int wy, .int op])), (bx, .inr (0, [.int bx0, .int by0, .int bx1, .int by1])), (t0, .inr (5, [.ref d0, .int w, .int h])), (d0, .inl (cI, 4096, .inl g))] H := hP
      have hD : va_D A [(h0, .inr (1, [.ref bx, .int ik, .int wy, .int op])), (bx, .inr (0, [.int bx0, .int by0, .int bx1, .int by1])), (t0, .inr (5, [.ref d0, .int w, .int h])), (d0, .inl (cI, 4096, .inl g))] := hD
      refine lv_iload hx hb dX1_lay_35 (lv_at hl 5 rfl) ?_
      have hPc := hP.sub (ws' := [(h0, .inr (1, [.ref bx, .int ik, .int wy, .int op]))]) [0] rfl
      have hDc := hD.sub (ws' := [(h0, .inr (1, [.ref bx, .int ik, .int wy, .int op]))]) [0] (by decide) rfl
      have hKc := hK.sub (tys' := []) [] rfl
      have hFc := va_free (wc := [(h0, .inr (1, [.ref bx, .int ik, .int wy, .int op]))]) hD hS hA [0] rfl
      refine va_calli (va_runV (As := [.int n, .int r_7, .int v]) (rest := [.int y, .int x, .ref t0]) ⟨hx, hb, hml, hown, hts⟩ (k_X1_laid l D H.size h0 bx ik wy op n r_7 v (by first | assumption | omega | decide)) (cwV 3 hts (gV bw_53 bw_54 bw_55 bw_29 bw_52) rfl rfl rfl (by decide +kernel) ⟨(by rw [hR]; exact Nat.le_of_ble_eq_true rfl), (by rw [hR]; exact Nat.le_of_ble_eq_true rfl)⟩) ⟨cP_blind, va_recv hKc hPc (ci := 1) (q0 := 0) rfl rfl, cP_at hPc hKc hDc hN⟩ rfl rfl hl.1 rfl (lv_room (Nat.le_of_ble_eq_true rfl)) dX1_lay_37 ⟨(by rw [hR]; exact Nat.le_of_ble_eq_true rfl), (by rw [hR]; exact Nat.le_of_ble_eq_true rfl)⟩) hS (fun q _ h => hFc q h) hFc (fun r_8 u9 t9 H1 locs ht hvm hr_8 hB hz1 hk1 hS => ?_)
      try dsimp only at hr_8
      obtain ⟨hP1, hK1, hD1⟩ := hB
      rw [ht] at hP1
      obtain ⟨hP, hD⟩ := va_join (wr := [(bx, .inr (0, [.int bx0, .int by0, .int bx1, .int by1])), (t0, .inr (5, [.ref d0, .int w, .int h])), (d0, .inl (cI, 4096, .inl g))]) (w1 := [(h0, .inr (1, [.ref bx, .int ik, .int wy, .int op]))]) hP hD [0] [1, 2, 3] rfl rfl (by decide) (by decide) hk1 hFc hP1 hD1
      clear hz1 hk1 hFc hKc hDc hPc
      generalize H1 = H at hP hS ⊢
      have hP : va_P D vwCl [(bx, .inr (0, [.int bx0, .int by0, .int bx1, .int by1])), (t0, .inr (5, [.ref d0, .int w, .int h])), (d0, .inl (cI, 4096, .inl g)), (h0, .inr (1, [.ref bx, .int ik, .int wy, .int op]))] H := hP
      have hD : va_D A [(bx, .inr (0, [.int bx0, .int by0, .int bx1, .int by1])), (t0, .inr (5, [.ref d0, .int w, .int h])), (d0, .inl (cI, 4096, .inl g)), (h0, .inr (1, [.ref bx, .int ik, .int wy, .int op]))] := hD
      have hPc := hP.sub (ws' := [(t0, .inr (5, [.ref d0, .int w, .int h])), (d0, .inl (cI, 4096, .inl g))]) [1, 2] rfl
      have hDc := hD.sub (ws' := [(t0, .inr (5, [.ref d0, .int w, .int h])), (d0, .inl (cI, 4096, .inl g))]) [1, 2] (by decide) rfl
      have hKc := hK.sub (tys' := [(cI, .int)]) [0] rfl
      have hFc := va_free (wc := [(t0, .inr (5, [.ref d0, .int w, .int h])), (d0, .inl (cI, 4096, .inl g))]) hD hS hA [1, 2] rfl
      refine va_callv (va_runV (As := [.int x, .int y, .int r_8]) (rest := []) ⟨hx, hb, hml, hown, hts⟩ (k_X5_put l D H.size t0 d0 w h g x y r_8 cI (by first | assumption | omega | decide) (by first | assumption | omega | decide)) (cwV 3 hts (gV bw_57 bw_58 bw_59 bw_13 bw_56) rfl rfl rfl (by decide +kernel) ⟨(by rw [hR]; exact Nat.le_of_ble_eq_true rfl), (by rw [hR]; exact Nat.le_of_ble_eq_true rfl)⟩) ⟨cP_blind, va_recv hKc hPc (ci := 5) (q0 := 0) rfl rfl, cP_at hPc hKc hDc hN⟩ rfl rfl hl.1 rfl (lv_room (Nat.le_of_ble_eq_true rfl)) dX1_lay_40 ⟨(by rw [hR]; exact Nat.le_of_ble_eq_true rfl), (by rw [hR]; exact Nat.le_of_ble_eq_true rfl)⟩) hS (fun q _ h => hFc q h) hFc (fun u9 t9 H1 locs ht hvm hr_9 hB hz1 hk1 hS => ?_)
      try dsimp only at hr_9
      obtain ⟨hP1, hK1, hD1⟩ := hB
      rw [ht] at hP1
      obtain ⟨hP, hD⟩ := va_join (wr := [(bx, .inr (0, [.int bx0, .int by0, .int bx1, .int by1])), (h0, .inr (1, [.ref bx, .int ik, .int wy, .int op]))]) (w1 := [(t0, .inr (5, [.ref d0, .int w, .int h])), (d0, .inl (cI, 4096, .inl (if 0 ≤ x.toInt ∧ x.toInt < w.toInt ∧ 0 ≤ y.toInt ∧ y.toInt < h.toInt then upd g (ixP x y) r_8 else g)))]) hP hD [1, 2] [0, 3] rfl rfl (by decide) (by decide) hk1 hFc hP1 hD1
      clear hz1 hk1 hFc hKc hDc hPc
      generalize H1 = H at hP hS ⊢
      have hP : va_P D vwCl [(bx, .inr (0, [.int bx0, .int by0, .int bx1, .int by1])), (h0, .inr (1, [.ref bx, .int ik, .int wy, .int op])), (t0, .inr (5, [.ref d0, .int w, .int h])), (d0, .inl (cI, 4096, .inl (if 0 ≤ x.toInt ∧ x.toInt < w.toInt ∧ 0 ≤ y.toInt ∧ y.toInt < h.toInt then upd g (ixP x y) r_8 else g)))] H := hP
      have hD : va_D A [(bx, .inr (0, [.int bx0, .int by0, .int bx1, .int by1])), (h0, .inr (1, [.ref bx, .int ik, .int wy, .int op])), (t0, .inr (5, [.ref d0, .int w, .int h])), (d0, .inl (cI, 4096, .inl (if 0 ≤ x.toInt ∧ x.toInt < w.toInt ∧ 0 ≤ y.toInt ∧ y.toInt < h.toInt then upd g (ixP x y) r_8 else g)))] := hD
      refine lv_iconst (v := 1) hx hb dX1_lay_43 (by decide) ?_
      have hc : ((if 0 ≤ x.toInt ∧ x.toInt < w.toInt ∧ 0 ≤ y.toInt ∧ y.toInt < h.toInt then upd g (ixP x y) r_8 else g) : Nat → Int32) = if 0 ≤ x.toInt ∧ x.toInt < w.toInt ∧ 0 ≤ y.toInt ∧ y.toInt < h.toInt ∧ bx0.toInt ≤ x.toInt ∧ x.toInt ≤ bx1.toInt ∧ by0.toInt ≤ y.toInt ∧ y.toInt ≤ by1.toInt then upd g (ixP x y) (laidP wy n (g (ixP x y)) v) else g := by rw [if_pos (by omega), if_pos (by omega)]; subst_vars; rw [if_pos (by omega)]
      rw [hc] at hP hD
      have hP9 := hP.sub (ws' := [(h0, .inr (1, [.ref bx, .int ik, .int wy, .int op])), (bx, .inr (0, [.int bx0, .int by0, .int bx1, .int by1])), (t0, .inr (5, [.ref d0, .int w, .int h])), (d0, .inl (cI, 4096, .inl (if 0 ≤ x.toInt ∧ x.toInt < w.toInt ∧ 0 ≤ y.toInt ∧ y.toInt < h.toInt ∧ bx0.toInt ≤ x.toInt ∧ x.toInt ≤ bx1.toInt ∧ by0.toInt ≤ y.toInt ∧ y.toInt ≤ by1.toInt then upd g (ixP x y) (laidP wy n (g (ixP x y)) v) else g)))]) [1, 0, 2, 3] rfl
      have hD9 := hD.sub (ws' := [(h0, .inr (1, [.ref bx, .int ik, .int wy, .int op])), (bx, .inr (0, [.int bx0, .int by0, .int bx1, .int by1])), (t0, .inr (5, [.ref d0, .int w, .int h])), (d0, .inl (cI, 4096, .inl (if 0 ≤ x.toInt ∧ x.toInt < w.toInt ∧ 0 ≤ y.toInt ∧ y.toInt < h.toInt ∧ bx0.toInt ≤ x.toInt ∧ x.toInt ≤ bx1.toInt ∧ by0.toInt ≤ y.toInt ∧ y.toInt ≤ by1.toInt then upd g (ixP x y) (laidP wy n (g (ixP x y)) v) else g)))]) [1, 0, 2, 3] (by decide) rfl
      have hK9 := hK.sub (tys' := [(cI, .int)]) [0] rfl
      refine hQ _ _ _ _ _ ?_
      exact W.iret (v := 1) hx hb hr (fun t ht hW => ⟨⟨1, (), rfl, (if_pos (by omega)).symm, ⟨by rw [ht]; exact hP9, va_K.moved hW.alike hK9, hD9⟩⟩, hS.F ht⟩) hS.2.2 dX1_lay_44
    · skip
      have f_6 := bz0 hr_4 c_5
      refine lv_iconst (v := 0) hx hb dX1_lay_21 (by decide) ?_
      have hc : g = if 0 ≤ x.toInt ∧ x.toInt < w.toInt ∧ 0 ≤ y.toInt ∧ y.toInt < h.toInt ∧ bx0.toInt ≤ x.toInt ∧ x.toInt ≤ bx1.toInt ∧ by0.toInt ≤ y.toInt ∧ y.toInt ≤ by1.toInt then upd g (ixP x y) (laidP wy n (g (ixP x y)) v) else g := (if_neg (by omega)).symm
      rw [hc] at hP hD
      have hP9 := hP.sub (ws' := [(h0, .inr (1, [.ref bx, .int ik, .int wy, .int op])), (bx, .inr (0, [.int bx0, .int by0, .int bx1, .int by1])), (t0, .inr (5, [.ref d0, .int w, .int h])), (d0, .inl (cI, 4096, .inl (if 0 ≤ x.toInt ∧ x.toInt < w.toInt ∧ 0 ≤ y.toInt ∧ y.toInt < h.toInt ∧ bx0.toInt ≤ x.toInt ∧ x.toInt ≤ bx1.toInt ∧ by0.toInt ≤ y.toInt ∧ y.toInt ≤ by1.toInt then upd g (ixP x y) (laidP wy n (g (ixP x y)) v) else g)))]) [0, 3, 2, 1] rfl
      have hD9 := hD.sub (ws' := [(h0, .inr (1, [.ref bx, .int ik, .int wy, .int op])), (bx, .inr (0, [.int bx0, .int by0, .int bx1, .int by1])), (t0, .inr (5, [.ref d0, .int w, .int h])), (d0, .inl (cI, 4096, .inl (if 0 ≤ x.toInt ∧ x.toInt < w.toInt ∧ 0 ≤ y.toInt ∧ y.toInt < h.toInt ∧ bx0.toInt ≤ x.toInt ∧ x.toInt ≤ bx1.toInt ∧ by0.toInt ≤ y.toInt ∧ y.toInt ≤ by1.toInt then upd g (ixP x y) (laidP wy n (g (ixP x y)) v) else g)))]) [0, 3, 2, 1] (by decide) rfl
      have hK9 := hK.sub (tys' := [(cI, .int)]) [0] rfl
      refine hQ _ _ _ _ _ ?_
      exact W.iret (v := 0) hx hb hr (fun t ht hW => ⟨⟨0, (), rfl, (if_neg (by omega)).symm, ⟨by rw [ht]; exact hP9, va_K.moved hW.alike hK9, hD9⟩⟩, hS.F ht⟩) hS.2.2 dX1_lay_22
end
section
set_option maxHeartbeats 4000000 in
set_option maxRecDepth 100000 in
theorem k_X9_channel_0 (l : Launch) (D : va_G) (sz : Nat) (v : Int32) : Met l yX9_channel (wB yX9_channel cX9_channel 2 (some .int)) ({ frames := 0, cells := 0, slots := 0, locals := 0 }) (cP D [] [] sz [.int v, .int 0]) (va_Qi (fun (r : Int32) (_ : Unit) => r = chS v 24) (fun (_ : Unit) (_ : State) => True) (va_A [] sz)) 0 0 (va_A [] sz) := by
  refine Met.ofW (cc := cX9_channel) (maxL := 2) (ret := (some .int)) (by decide) rfl ?_
  intro p e s m args below meth c s₁ B hml hv
  obtain ⟨rfl, hsz, hP, hK, hD0, hN⟩ := hv
  have hx := B.exec
  have hb := B.bytes
  have hr := B.returns
  have hts0 := atoms_spec (ws := (wB yX9_channel cX9_channel 2 (some .int))) B.pre
  have hts : ∀ w ∈ bigW, w.before _ s = true := fun w h => hts0 w (List.mem_cons_of_mem _ h)
  have hown : s.vm.findClass RX9 = some m.cls := findClass_of_methodNamed B.named
  have hlocks := B.notSynchronized
  subst hsz
  have hD := hD0.self (sz := s.heap.size)
  generalize hAe : va_A [] s.heap.size = A at hD ⊢
  have hA : ∀ q : Nat, s.heap.size ≤ q → A q := fun q h => by rw [← hAe]; exact Or.inr h
  have hS : va_S A s.heap s.heap [] := va_S.rf
  have hP : va_P D vwCl [] s.heap := hP
  have hl := lv_entry ([.int v, .int 0]) (n := 2) (Nat.le_of_ble_eq_true rfl)
  rw [lg_entry_eq]
  generalize (lg_sl ([.int v, .int 0]) ++ List.replicate (2 - (lg_sl ([.int v, .int 0])).length) Slot.unset).toArray = ls at hl ⊢
  have hl : lv_has ls 2 [(0, .int v), (1, .int 0)] := hl
  clear hts0 hD0 hAe
  refine my_abs (fun R Q hR hQ => ?_)
  refine lv_iload_n hx hb dX9_channel_0 rfl (lv_at hl 0 rfl) ?_
  refine lv_bipush (v := 24) hx hb dX9_channel_1 (by decide) ?_
  refine lv_bipush (v := 8) hx hb dX9_channel_3 (by decide) ?_
  refine lv_iload_n hx hb dX9_channel_5 rfl (lv_at hl 1 rfl) ?_
  refine lv_imul hx hb dX9_channel_6 ?_
  refine my_fold (v := 0) (by decide) ?_
  refine lv_isub hx hb dX9_channel_7 ?_
  refine my_fold (v := 24) (by decide) ?_
  refine lv_ishr hx hb dX9_channel_8 ?_
  refine lv_topi (fun y_1 ey_1 => ?_)
  refine lv_sipush (v := 255) hx hb dX9_channel_9 (by decide) ?_
  refine lv_iand hx hb dX9_channel_12 ?_
  refine lv_topi (fun y_2 ey_2 => ?_)
  refine hQ _ _ _ _ _ ?_
  exact W.iret (v := y_2) hx hb hr (fun t ht hW => ⟨⟨y_2, (), rfl, (by subst_vars; exact chM24 v), trivial⟩, hS.F ht⟩) hS.2.2 dX9_channel_13

set_option maxHeartbeats 4000000 in
set_option maxRecDepth 100000 in
theorem k_X9_channel_1 (l : Launch) (D : va_G) (sz : Nat) (v : Int32) : Met l yX9_channel (wB yX9_channel cX9_channel 2 (some .int)) ({ frames := 0, cells := 0, slots := 0, locals := 0 }) (cP D [] [] sz [.int v, .int 1]) (va_Qi (fun (r : Int32) (_ : Unit) => r = chS v 16) (fun (_ : Unit) (_ : State) => True) (va_A [] sz)) 0 0 (va_A [] sz) := by
  refine Met.ofW (cc := cX9_channel) (maxL := 2) (ret := (some .int)) (by decide) rfl ?_
  intro p e s m args below meth c s₁ B hml hv
  obtain ⟨rfl, hsz, hP, hK, hD0, hN⟩ := hv
  have hx := B.exec
  have hb := B.bytes
  have hr := B.returns
  have hts0 := atoms_spec (ws := (wB yX9_channel cX9_channel 2 (some .int))) B.pre
  have hts : ∀ w ∈ bigW, w.before _ s = true := fun w h => hts0 w (List.mem_cons_of_mem _ h)
  have hown : s.vm.findClass RX9 = some m.cls := findClass_of_methodNamed B.named
  have hlocks := B.notSynchronized
  subst hsz
  have hD := hD0.self (sz := s.heap.size)
  generalize hAe : va_A [] s.heap.size = A at hD ⊢
  have hA : ∀ q : Nat, s.heap.size ≤ q → A q := fun q h => by rw [← hAe]; exact Or.inr h
  have hS : va_S A s.heap s.heap [] := va_S.rf
  have hP : va_P D vwCl [] s.heap := hP
  have hl := lv_entry ([.int v, .int 1]) (n := 2) (Nat.le_of_ble_eq_true rfl)
  rw [lg_entry_eq]
  generalize (lg_sl ([.int v, .int 1]) ++ List.replicate (2 - (lg_sl ([.int v, .int 1])).length) Slot.unset).toArray = ls at hl ⊢
  have hl : lv_has ls 2 [(0, .int v), (1, .int 1)] := hl
  clear hts0 hD0 hAe
  refine my_abs (fun R Q hR hQ => ?_)
  refine lv_iload_n hx hb dX9_channel_0 rfl (lv_at hl 0 rfl) ?_
  refine lv_bipush (v := 24) hx hb dX9_channel_1 (by decide) ?_
  refine lv_bipush (v := 8) hx hb dX9_channel_3 (by decide) ?_
  refine lv_iload_n hx hb dX9_channel_5 rfl (lv_at hl 1 rfl) ?_
  refine lv_imul hx hb dX9_channel_6 ?_
  refine my_fold (v := 8) (by decide) ?_
  refine lv_isub hx hb dX9_channel_7 ?_
  refine my_fold (v := 16) (by decide) ?_
  refine lv_ishr hx hb dX9_channel_8 ?_
  refine lv_topi (fun y_1 ey_1 => ?_)
  refine lv_sipush (v := 255) hx hb dX9_channel_9 (by decide) ?_
  refine lv_iand hx hb dX9_channel_12 ?_
  refine lv_topi (fun y_2 ey_2 => ?_)
  refine hQ _ _ _ _ _ ?_
  exact W.iret (v := y_2) hx hb hr (fun t ht hW => ⟨⟨y_2, (), rfl, (by subst_vars; exact chM16 v), trivial⟩, hS.F ht⟩) hS.2.2 dX9_channel_13

set_option maxHeartbeats 4000000 in
set_option maxRecDepth 100000 in
theorem k_X9_channel_2 (l : Launch) (D : va_G) (sz : Nat) (v : Int32) : Met l yX9_channel (wB yX9_channel cX9_channel 2 (some .int)) ({ frames := 0, cells := 0, slots := 0, locals := 0 }) (cP D [] [] sz [.int v, .int 2]) (va_Qi (fun (r : Int32) (_ : Unit) => r = chS v 8) (fun (_ : Unit) (_ : State) => True) (va_A [] sz)) 0 0 (va_A [] sz) := by
  refine Met.ofW (cc := cX9_channel) (maxL := 2) (ret := (some .int)) (by decide) rfl ?_
  intro p e s m args below meth c s₁ B hml hv
  obtain ⟨rfl, hsz, hP, hK, hD0, hN⟩ := hv
  have hx := B.exec
  have hb := B.bytes
  have hr := B.returns
  have hts0 := atoms_spec (ws := (wB yX9_channel cX9_channel 2 (some .int))) B.pre
  have hts : ∀ w ∈ bigW, w.before _ s = true := fun w h => hts0 w (List.mem_cons_of_mem _ h)
  have hown : s.vm.findClass RX9 = some m.cls := findClass_of_methodNamed B.named
  have hlocks := B.notSynchronized
  subst hsz
  have hD := hD0.self (sz := s.heap.size)
  generalize hAe : va_A [] s.heap.size = A at hD ⊢
  have hA : ∀ q : Nat, s.heap.size ≤ q → A q := fun q h => by rw [← hAe]; exact Or.inr h
  have hS : va_S A s.heap s.heap [] := va_S.rf
  have hP : va_P D vwCl [] s.heap := hP
  have hl := lv_entry ([.int v, .int 2]) (n := 2) (Nat.le_of_ble_eq_true rfl)
  rw [lg_entry_eq]
  generalize (lg_sl ([.int v, .int 2]) ++ List.replicate (2 - (lg_sl ([.int v, .int 2])).length) Slot.unset).toArray = ls at hl ⊢
  have hl : lv_has ls 2 [(0, .int v), (1, .int 2)] := hl
  clear hts0 hD0 hAe
  refine my_abs (fun R Q hR hQ => ?_)
  refine lv_iload_n hx hb dX9_channel_0 rfl (lv_at hl 0 rfl) ?_
  refine lv_bipush (v := 24) hx hb dX9_channel_1 (by decide) ?_
  refine lv_bipush (v := 8) hx hb dX9_channel_3 (by decide) ?_
  refine lv_iload_n hx hb dX9_channel_5 rfl (lv_at hl 1 rfl) ?_
  refine lv_imul hx hb dX9_channel_6 ?_
  refine my_fold (v := 16) (by decide) ?_
  refine lv_isub hx hb dX9_channel_7 ?_
  refine my_fold (v := 8) (by decide) ?_
  refine lv_ishr hx hb dX9_channel_8 ?_
  refine lv_topi (fun y_1 ey_1 => ?_)
  refine lv_sipush (v := 255) hx hb dX9_channel_9 (by decide) ?_
  refine lv_iand hx hb dX9_channel_12 ?_
  refine lv_topi (fun y_2 ey_2 => ?_)
  refine hQ _ _ _ _ _ ?_
  exact W.iret (v := y_2) hx hb hr (fun t ht hW => ⟨⟨y_2, (), rfl, (by subst_vars; exact chM8 v), trivial⟩, hS.F ht⟩) hS.2.2 dX9_channel_13

set_option maxHeartbeats 4000000 in
set_option maxRecDepth 100000 in
theorem k_X9_channel_3 (l : Launch) (D : va_G) (sz : Nat) (v : Int32) : Met l yX9_channel (wB yX9_channel cX9_channel 2 (some .int)) ({ frames := 0, cells := 0, slots := 0, locals := 0 }) (cP D [] [] sz [.int v, .int 3]) (va_Qi (fun (r : Int32) (_ : Unit) => r = chS v 0) (fun (_ : Unit) (_ : State) => True) (va_A [] sz)) 0 0 (va_A [] sz) := by
  refine Met.ofW (cc := cX9_channel) (maxL := 2) (ret := (some .int)) (by decide) rfl ?_
  intro p e s m args below meth c s₁ B hml hv
  obtain ⟨rfl, hsz, hP, hK, hD0, hN⟩ := hv
  have hx := B.exec
  have hb := B.bytes
  have hr := B.returns
  have hts0 := atoms_spec (ws := (wB yX9_channel cX9_channel 2 (some .int))) B.pre
  have hts : ∀ w ∈ bigW, w.before _ s = true := fun w h => hts0 w (List.mem_cons_of_mem _ h)
  have hown : s.vm.findClass RX9 = some m.cls := findClass_of_methodNamed B.named
  have hlocks := B.notSynchronized
  subst hsz
  have hD := hD0.self (sz := s.heap.size)
  generalize hAe : va_A [] s.heap.size = A at hD ⊢
  have hA : ∀ q : Nat, s.heap.size ≤ q → A q := fun q h => by rw [← hAe]; exact Or.inr h
  have hS : va_S A s.heap s.heap [] := va_S.rf
  have hP : va_P D vwCl [] s.heap := hP
  have hl := lv_entry ([.int v, .int 3]) (n := 2) (Nat.le_of_ble_eq_true rfl)
  rw [lg_entry_eq]
  generalize (lg_sl ([.int v, .int 3]) ++ List.replicate (2 - (lg_sl ([.int v, .int 3])).length) Slot.unset).toArray = ls at hl ⊢
  have hl : lv_has ls 2 [(0, .int v), (1, .int 3)] := hl
  clear hts0 hD0 hAe
  refine my_abs (fun R Q hR hQ => ?_)
  refine lv_iload_n hx hb dX9_channel_0 rfl (lv_at hl 0 rfl) ?_
  refine lv_bipush (v := 24) hx hb dX9_channel_1 (by decide) ?_
  refine lv_bipush (v := 8) hx hb dX9_channel_3 (by decide) ?_
  refine lv_iload_n hx hb dX9_channel_5 rfl (lv_at hl 1 rfl) ?_
  refine lv_imul hx hb dX9_channel_6 ?_
  refine my_fold (v := 24) (by decide) ?_
  refine lv_isub hx hb dX9_channel_7 ?_
  refine my_fold (v := 0) (by decide) ?_
  refine lv_ishr hx hb dX9_channel_8 ?_
  refine lv_topi (fun y_1 ey_1 => ?_)
  refine lv_sipush (v := 255) hx hb dX9_channel_9 (by decide) ?_
  refine lv_iand hx hb dX9_channel_12 ?_
  refine lv_topi (fun y_2 ey_2 => ?_)
  refine hQ _ _ _ _ _ ?_
  exact W.iret (v := y_2) hx hb hr (fun t ht hW => ⟨⟨y_2, (), rfl, (by subst_vars; exact chM0 v), trivial⟩, hS.F ht⟩) hS.2.2 dX9_channel_13

set_option maxHeartbeats 4000000 in
set_option maxRecDepth 100000 in
theorem k_X9_nearest_255 (l : Launch) (D : va_G) (sz : Nat) (n : Int32) : Met l yX9_nearest (wB yX9_nearest cX9_nearest 2 (some .int)) ({ frames := 0, cells := 0, slots := 0, locals := 0 }) (cP D [] [] sz [.int n, .int 255]) (va_Qi (fun (r : Int32) (_ : Unit) => r = shP n) (fun (_ : Unit) (_ : State) => True) (va_A [] sz)) 0 0 (va_A [] sz) := by
  refine Met.ofW (cc := cX9_nearest) (maxL := 2) (ret := (some .int)) (by decide) rfl ?_
  intro p e s m args below meth c s₁ B hml hv
  obtain ⟨rfl, hsz, hP, hK, hD0, hN⟩ := hv
  have hx := B.exec
  have hb := B.bytes
  have hr := B.returns
  have hts0 := atoms_spec (ws := (wB yX9_nearest cX9_nearest 2 (some .int))) B.pre
  have hts : ∀ w ∈ bigW, w.before _ s = true := fun w h => hts0 w (List.mem_cons_of_mem _ h)
  have hown : s.vm.findClass RX9 = some m.cls := findClass_of_methodNamed B.named
  have hlocks := B.notSynchronized
  subst hsz
  have hD := hD0.self (sz := s.heap.size)
  generalize hAe : va_A [] s.heap.size = A at hD ⊢
  have hA : ∀ q : Nat, s.heap.size ≤ q → A q := fun q h => by rw [← hAe]; exact Or.inr h
  have hS : va_S A s.heap s.heap [] := va_S.rf
  have hP : va_P D vwCl [] s.heap := hP
  have hl := lv_entry ([.int n, .int 255]) (n := 2) (Nat.le_of_ble_eq_true rfl)
  rw [lg_entry_eq]
  generalize (lg_sl ([.int n, .int 255]) ++ List.replicate (2 - (lg_sl ([.int n, .int 255])).length) Slot.unset).toArray = ls at hl ⊢
  have hl : lv_has ls 2 [(0, .int n), (1, .int 255)] := hl
  clear hts0 hD0 hAe
  refine my_abs (fun R Q hR hQ => ?_)
  refine lv_iconst (v := 2) hx hb dX9_nearest_0 (by decide) ?_
  refine lv_iload_n hx hb dX9_nearest_1 rfl (lv_at hl 0 rfl) ?_
  refine lv_imul hx hb dX9_nearest_2 ?_
  refine lv_topi (fun y_1 ey_1 => ?_)
  refine lv_iload_n hx hb dX9_nearest_3 rfl (lv_at hl 1 rfl) ?_
  refine lv_iadd hx hb dX9_nearest_4 ?_
  refine lv_topi (fun y_2 ey_2 => ?_)
  refine lv_iconst (v := 2) hx hb dX9_nearest_5 (by decide) ?_
  refine lv_iload_n hx hb dX9_nearest_6 rfl (lv_at hl 1 rfl) ?_
  refine lv_imul hx hb dX9_nearest_7 ?_
  refine my_fold (v := 510) (by decide) ?_
  refine lv_idiv hx hb dX9_nearest_8 (by decide) ?_
  refine lv_topi (fun y_3 ey_3 => ?_)
  refine hQ _ _ _ _ _ ?_
  exact W.iret (v := y_3) hx hb hr (fun t ht hW => ⟨⟨y_3, (), rfl, (by subst_vars; rfl), trivial⟩, hS.F ht⟩) hS.2.2 dX9_nearest_9

set_option maxHeartbeats 4000000 in
set_option maxRecDepth 100000 in
theorem k_X9_nearest_16 (l : Launch) (D : va_G) (sz : Nat) (n : Int32) : Met l yX9_nearest (wB yX9_nearest cX9_nearest 2 (some .int)) ({ frames := 0, cells := 0, slots := 0, locals := 0 }) (cP D [] [] sz [.int n, .int 16]) (va_Qi (fun (r : Int32) (_ : Unit) => r = (2 * n + 16) / 32) (fun (_ : Unit) (_ : State) => True) (va_A [] sz)) 0 0 (va_A [] sz) := by
  refine Met.ofW (cc := cX9_nearest) (maxL := 2) (ret := (some .int)) (by decide) rfl ?_
  intro p e s m args below meth c s₁ B hml hv
  obtain ⟨rfl, hsz, hP, hK, hD0, hN⟩ := hv
  have hx := B.exec
  have hb := B.bytes
  have hr := B.returns
  have hts0 := atoms_spec (ws := (wB yX9_nearest cX9_nearest 2 (some .int))) B.pre
  have hts : ∀ w ∈ bigW, w.before _ s = true := fun w h => hts0 w (List.mem_cons_of_mem _ h)
  have hown : s.vm.findClass RX9 = some m.cls := findClass_of_methodNamed B.named
  have hlocks := B.notSynchronized
  subst hsz
  have hD := hD0.self (sz := s.heap.size)
  generalize hAe : va_A [] s.heap.size = A at hD ⊢
  have hA : ∀ q : Nat, s.heap.size ≤ q → A q := fun q h => by rw [← hAe]; exact Or.inr h
  have hS : va_S A s.heap s.heap [] := va_S.rf
  have hP : va_P D vwCl [] s.heap := hP
  have hl := lv_entry ([.int n, .int 16]) (n := 2) (Nat.le_of_ble_eq_true rfl)
  rw [lg_entry_eq]
  generalize (lg_sl ([.int n, .int 16]) ++ List.replicate (2 - (lg_sl ([.int n, .int 16])).length) Slot.unset).toArray = ls at hl ⊢
  have hl : lv_has ls 2 [(0, .int n), (1, .int 16)] := hl
  clear hts0 hD0 hAe
  refine my_abs (fun R Q hR hQ => ?_)
  refine lv_iconst (v := 2) hx hb dX9_nearest_0 (by decide) ?_
  refine lv_iload_n hx hb dX9_nearest_1 rfl (lv_at hl 0 rfl) ?_
  refine lv_imul hx hb dX9_nearest_2 ?_
  refine lv_topi (fun y_1 ey_1 => ?_)
  refine lv_iload_n hx hb dX9_nearest_3 rfl (lv_at hl 1 rfl) ?_
  refine lv_iadd hx hb dX9_nearest_4 ?_
  refine lv_topi (fun y_2 ey_2 => ?_)
  refine lv_iconst (v := 2) hx hb dX9_nearest_5 (by decide) ?_
  refine lv_iload_n hx hb dX9_nearest_6 rfl (lv_at hl 1 rfl) ?_
  refine lv_imul hx hb dX9_nearest_7 ?_
  refine my_fold (v := 32) (by decide) ?_
  refine lv_idiv hx hb dX9_nearest_8 (by decide) ?_
  refine lv_topi (fun y_3 ey_3 => ?_)
  refine hQ _ _ _ _ _ ?_
  exact W.iret (v := y_3) hx hb hr (fun t ht hW => ⟨⟨y_3, (), rfl, (by subst_vars; rfl), trivial⟩, hS.F ht⟩) hS.2.2 dX9_nearest_9

set_option maxHeartbeats 4000000 in
set_option maxRecDepth 100000 in
theorem k_X9_inkOf (l : Launch) (D : va_G) (sz : Nat) (n : Int32) : Met l yX9_inkOf (wB yX9_inkOf cX9_inkOf 4 (some .int)) ({ frames := 1, cells := 0, slots := 0, locals := 21 }) (cP D [] [] sz [.int n]) (va_Qi (fun (r : Int32) (_ : Unit) => r = inkP n) (fun (_ : Unit) (_ : State) => True) (va_A [] sz)) 0 0 (va_A [] sz) := by
  refine Met.ofW (cc := cX9_inkOf) (maxL := 4) (ret := (some .int)) (by decide) rfl ?_
  intro p e s m args below meth c s₁ B hml hv
  obtain ⟨rfl, hsz, hP, hK, hD0, hN⟩ := hv
  have hx := B.exec
  have hb := B.bytes
  have hr := B.returns
  have hts0 := atoms_spec (ws := (wB yX9_inkOf cX9_inkOf 4 (some .int))) B.pre
  have hts : ∀ w ∈ bigW, w.before _ s = true := fun w h => hts0 w (List.mem_cons_of_mem _ h)
  have hown : s.vm.findClass RX9 = some m.cls := findClass_of_methodNamed B.named
  have hlocks := B.notSynchronized
  subst hsz
  have hD := hD0.self (sz := s.heap.size)
  generalize hAe : va_A [] s.heap.size = A at hD ⊢
  have hA : ∀ q : Nat, s.heap.size ≤ q → A q := fun q h => by rw [← hAe]; exact Or.inr h
  have hS : va_S A s.heap s.heap [] := va_S.rf
  have hP : va_P D vwCl [] s.heap := hP
  have hl := lv_entry ([.int n]) (n := 4) (Nat.le_of_ble_eq_true rfl)
  rw [lg_entry_eq]
  generalize (lg_sl ([.int n]) ++ List.replicate (4 - (lg_sl ([.int n])).length) Slot.unset).toArray = ls at hl ⊢
  have hl : lv_has ls 4 [(0, .int n)] := hl
  clear hts0 hD0 hAe
  refine my_abs (fun R Q hR hQ => ?_)
  refine lv_iload_n hx hb dX9_inkOf_0 rfl (lv_at hl 0 rfl) ?_
  refine lv_iconst (v := 0) hx hb dX9_inkOf_1 (by decide) ?_
  have hPc := hP.sub (ws' := []) [] rfl
  have hDc := hD.sub (ws' := []) [] (by decide) rfl
  have hKc := hK.sub (tys' := []) [] rfl
  have hFc := va_free (wc := []) hD hS hA [] rfl
  refine va_calli (va_runS (As := [.int n, .int 0]) (rest := []) ⟨hx, hb, hml, hown, hts⟩ (k_X9_channel_0 l D s.heap.size n) (va_cwS 2 hts (gS bw_62 bw_63 bw_61 bw_60) rfl rfl rfl (by decide +kernel) ⟨(by rw [hR]; exact Nat.le_of_ble_eq_true rfl), (by rw [hR]; exact Nat.le_of_ble_eq_true rfl)⟩) ⟨cP_blind, cP_at hPc hKc hDc hN⟩ rfl rfl hl.1 rfl (lv_room (Nat.le_of_ble_eq_true rfl)) dX9_inkOf_2 ⟨(by rw [hR]; exact Nat.le_of_ble_eq_true rfl), (by rw [hR]; exact Nat.le_of_ble_eq_true rfl)⟩) hS (fun q _ h => hFc q h) hFc (fun r_1 u9 t9 H1 locs ht hvm hr_1 hB hz1 hk1 hS => ?_)
  try dsimp only at hr_1
  have hP1 : va_P D vwCl [] H1 := vP_nil
  have hD1 : va_D (va_A [] s.heap.size) [] := vD_nil
  obtain ⟨hP, hD⟩ := va_join (wr := []) (w1 := []) hP hD [] [] rfl rfl (by decide) (by decide) hk1 hFc hP1 hD1
  clear hz1 hk1 hFc hKc hDc hPc
  generalize H1 = H at hP hS ⊢
  have hP : va_P D vwCl [] H := hP
  have hD : va_D A [] := hD
  refine lv_istore_n (lv' := [(1, .int r_1), (0, .int n)]) hx hb dX9_inkOf_5 rfl hl (by decide) rfl (fun ls hl => ?_)
  refine lv_iload_n hx hb dX9_inkOf_6 rfl (lv_at hl 0 rfl) ?_
  refine lv_istore_n (lv' := [(2, .int r_1), (1, .int r_1), (0, .int n)]) hx hb dX9_inkOf_7 rfl hl (by decide) rfl (fun ls hl => ?_)
  refine lv_iconst (v := 1) hx hb dX9_inkOf_8 (by decide) ?_
  refine lv_istore_n (lv' := [(3, .int 1), (2, .int r_1), (1, .int r_1), (0, .int n)]) hx hb dX9_inkOf_9 rfl hl (by decide) rfl (fun ls hl => ?_)
  refine lv_iload_n hx hb dX9_inkOf_10 rfl (lv_at hl 0 rfl) ?_
  refine lv_iconst (v := 4) hx hb dX9_inkOf_11 (by decide) ?_
  refine lv_icmp_ge (tgt := 40) hx hb dX9_inkOf_12 (by decide) (fun c_2 => ?_) (fun c_2 => ?_)
  · skip
    exact absurd c_2 (by decide)
  · skip
    refine lv_iload_n hx hb dX9_inkOf_15 rfl (lv_at hl 1 rfl) ?_
    refine lv_bipush (v := 8) hx hb dX9_inkOf_16 (by decide) ?_
    refine lv_ishl hx hb dX9_inkOf_18 ?_
    refine lv_topi (fun y_4 ey_4 => ?_)
    refine lv_iload_n hx hb dX9_inkOf_19 rfl (lv_at hl 3 rfl) ?_
    refine lv_iload_n hx hb dX9_inkOf_20 rfl (lv_at hl 0 rfl) ?_
    have hPc := hP.sub (ws' := []) [] rfl
    have hDc := hD.sub (ws' := []) [] (by decide) rfl
    have hKc := hK.sub (tys' := []) [] rfl
    have hFc := va_free (wc := []) hD hS hA [] rfl
    refine va_calli (va_runS (As := [.int n, .int 1]) (rest := [.int y_4]) ⟨hx, hb, hml, hown, hts⟩ (k_X9_channel_1 l D H.size n) (va_cwS 2 hts (gS bw_62 bw_63 bw_61 bw_60) rfl rfl rfl (by decide +kernel) ⟨(by rw [hR]; exact Nat.le_of_ble_eq_true rfl), (by rw [hR]; exact Nat.le_of_ble_eq_true rfl)⟩) ⟨cP_blind, cP_at hPc hKc hDc hN⟩ rfl rfl hl.1 rfl (lv_room (Nat.le_of_ble_eq_true rfl)) dX9_inkOf_21 ⟨(by rw [hR]; exact Nat.le_of_ble_eq_true rfl), (by rw [hR]; exact Nat.le_of_ble_eq_true rfl)⟩) hS (fun q _ h => hFc q h) hFc (fun r_5 u9 t9 H1 locs ht hvm hr_5 hB hz1 hk1 hS => ?_)
    try dsimp only at hr_5
    have hP1 : va_P D vwCl [] H1 := vP_nil
    have hD1 : va_D (va_A [] H.size) [] := vD_nil
    obtain ⟨hP, hD⟩ := va_join (wr := []) (w1 := []) hP hD [] [] rfl rfl (by decide) (by decide) hk1 hFc hP1 hD1
    clear hz1 hk1 hFc hKc hDc hPc
    generalize H1 = H at hP hS ⊢
    have hP : va_P D vwCl [] H := hP
    have hD : va_D A [] := hD
    refine lv_iload_n hx hb dX9_inkOf_24 rfl (lv_at hl 2 rfl) ?_
    refine lv_imul hx hb dX9_inkOf_25 ?_
    refine lv_topi (fun y_6 ey_6 => ?_)
    refine lv_sipush (v := 255) hx hb dX9_inkOf_26 (by decide) ?_
    have hPc := hP.sub (ws' := []) [] rfl
    have hDc := hD.sub (ws' := []) [] (by decide) rfl
    have hKc := hK.sub (tys' := []) [] rfl
    have hFc := va_free (wc := []) hD hS hA [] rfl
    refine va_calli (va_runS (As := [.int y_6, .int 255]) (rest := [.int y_4]) ⟨hx, hb, hml, hown, hts⟩ (k_X9_nearest_255 l D H.size y_6) (va_cwS 2 hts (gS bw_65 bw_66 bw_61 bw_64) rfl rfl rfl (by decide +kernel) ⟨(by rw [hR]; exact Nat.le_of_ble_eq_true rfl), (by rw [hR]; exact Nat.le_of_ble_eq_true rfl)⟩) ⟨cP_blind, cP_at hPc hKc hDc hN⟩ rfl rfl hl.1 rfl (lv_room (Nat.le_of_ble_eq_true rfl)) dX9_inkOf_29 ⟨(by rw [hR]; exact Nat.le_of_ble_eq_true rfl), (by rw [hR]; exact Nat.le_of_ble_eq_true rfl)⟩) hS (fun q _ h => hFc q h) hFc (fun r_7 u9 t9 H1 locs ht hvm hr_7 hB hz1 hk1 hS => ?_)
    try dsimp only at hr_7
    have hP1 : va_P D vwCl [] H1 := vP_nil
    have hD1 : va_D (va_A [] H.size) [] := vD_nil
    obtain ⟨hP, hD⟩ := va_join (wr := []) (w1 := []) hP hD [] [] rfl rfl (by decide) (by decide) hk1 hFc hP1 hD1
    clear hz1 hk1 hFc hKc hDc hPc
    generalize H1 = H at hP hS ⊢
    have hP : va_P D vwCl [] H := hP
    have hD : va_D A [] := hD
    refine lv_ior hx hb dX9_inkOf_32 ?_
    refine lv_topi (fun y_8 ey_8 => ?_)
    refine lv_istore_n (lv' := [(2, .int y_8), (3, .int 1), (1, .int r_1), (0, .int n)]) hx hb dX9_inkOf_33 rfl hl (by decide) rfl (fun ls hl => ?_)
    refine lv_iinc (v := 2) (lv' := [(3, .int 2), (2, .int y_8), (1, .int r_1), (0, .int n)]) hx hb dX9_inkOf_34 hl (k := 1) rfl (by decide) (by decide) rfl (fun ls hl => ?_)
    refine lv_goto (tgt := 10) hx hb dX9_inkOf_37 (by decide) ?_
    refine lv_iload_n hx hb dX9_inkOf_10 rfl (lv_at hl 0 rfl) ?_
    refine lv_iconst (v := 4) hx hb dX9_inkOf_11 (by decide) ?_
    refine lv_icmp_ge (tgt := 40) hx hb dX9_inkOf_12 (by decide) (fun c_9 => ?_) (fun c_9 => ?_)
    · skip
      exact absurd c_9 (by decide)
    · skip
      refine lv_iload_n hx hb dX9_inkOf_15 rfl (lv_at hl 1 rfl) ?_
      refine lv_bipush (v := 8) hx hb dX9_inkOf_16 (by decide) ?_
      refine lv_ishl hx hb dX9_inkOf_18 ?_
      refine lv_topi (fun y_11 ey_11 => ?_)
      refine lv_iload_n hx hb dX9_inkOf_19 rfl (lv_at hl 3 rfl) ?_
      refine lv_iload_n hx hb dX9_inkOf_20 rfl (lv_at hl 0 rfl) ?_
      have hPc := hP.sub (ws' := []) [] rfl
      have hDc := hD.sub (ws' := []) [] (by decide) rfl
      have hKc := hK.sub (tys' := []) [] rfl
      have hFc := va_free (wc := []) hD hS hA [] rfl
      refine va_calli (va_runS (As := [.int n, .int 2]) (rest := [.int y_11]) ⟨hx, hb, hml, hown, hts⟩ (k_X9_channel_2 l D H.size n) (va_cwS 2 hts (gS bw_62 bw_63 bw_61 bw_60) rfl rfl rfl (by decide +kernel) ⟨(by rw [hR]; exact Nat.le_of_ble_eq_true rfl), (by rw [hR]; exact Nat.le_of_ble_eq_true rfl)⟩) ⟨cP_blind, cP_at hPc hKc hDc hN⟩ rfl rfl hl.1 rfl (lv_room (Nat.le_of_ble_eq_true rfl)) dX9_inkOf_21 ⟨(by rw [hR]; exact Nat.le_of_ble_eq_true rfl), (by rw [hR]; exact Nat.le_of_ble_eq_true rfl)⟩) hS (fun q _ h => hFc q h) hFc (fun r_12 u9 t9 H1 locs ht hvm hr_12 hB hz1 hk1 hS => ?_)
      try dsimp only at hr_12
      have hP1 : va_P D vwCl [] H1 := vP_nil
      have hD1 : va_D (va_A [] H.size) [] := vD_nil
      obtain ⟨hP, hD⟩ := va_join (wr := []) (w1 := []) hP hD [] [] rfl rfl (by decide) (by decide) hk1 hFc hP1 hD1
      clear hz1 hk1 hFc hKc hDc hPc
      generalize H1 = H at hP hS ⊢
      have hP : va_P D vwCl [] H := hP
      have hD : va_D A [] := hD
      refine lv_iload_n hx hb dX9_inkOf_24 rfl (lv_at hl 2 rfl) ?_
      refine lv_imul hx hb dX9_inkOf_25 ?_
      refine lv_topi (fun y_13 ey_13 => ?_)
      refine lv_sipush (v := 255) hx hb dX9_inkOf_26 (by decide) ?_
      have hPc := hP.sub (ws' := []) [] rfl
      have hDc := hD.sub (ws' := []) [] (by decide) rfl
      have hKc := hK.sub (tys' := []) [] rfl
      have hFc := va_free (wc := []) hD hS hA [] rfl
      refine va_calli (va_runS (As := [.int y_13, .int 255]) (rest := [.int y_11]) ⟨hx, hb, hml, hown, hts⟩ (k_X9_nearest_255 l D H.size y_13) (va_cwS 2 hts (gS bw_65 bw_66 bw_61 bw_64) rfl rfl rfl (by decide +kernel) ⟨(by rw [hR]; exact Nat.le_of_ble_eq_true rfl), (by rw [hR]; exact Nat.le_of_ble_eq_true rfl)⟩) ⟨cP_blind, cP_at hPc hKc hDc hN⟩ rfl rfl hl.1 rfl (lv_room (Nat.le_of_ble_eq_true rfl)) dX9_inkOf_29 ⟨(by rw [hR]; exact Nat.le_of_ble_eq_true rfl), (by rw [hR]; exact Nat.le_of_ble_eq_true rfl)⟩) hS (fun q _ h => hFc q h) hFc (fun r_14 u9 t9 H1 locs ht hvm hr_14 hB hz1 hk1 hS => ?_)
      try dsimp only at hr_14
      have hP1 : va_P D vwCl [] H1 := vP_nil
      have hD1 : va_D (va_A [] H.size) [] := vD_nil
      obtain ⟨hP, hD⟩ := va_join (wr := []) (w1 := []) hP hD [] [] rfl rfl (by decide) (by decide) hk1 hFc hP1 hD1
      clear hz1 hk1 hFc hKc hDc hPc
      generalize H1 = H at hP hS ⊢
      have hP : va_P D vwCl [] H := hP
      have hD : va_D A [] := hD
      refine lv_ior hx hb dX9_inkOf_32 ?_
      refine lv_topi (fun y_15 ey_15 => ?_)
      refine lv_istore_n (lv' := [(2, .int y_15), (3, .int 2), (1, .int r_1), (0, .int n)]) hx hb dX9_inkOf_33 rfl hl (by decide) rfl (fun ls hl => ?_)
      refine lv_iinc (v := 3) (lv' := [(3, .int 3), (2, .int y_15), (1, .int r_1), (0, .int n)]) hx hb dX9_inkOf_34 hl (k := 1) rfl (by decide) (by decide) rfl (fun ls hl => ?_)
      refine lv_goto (tgt := 10) hx hb dX9_inkOf_37 (by decide) ?_
      refine lv_iload_n hx hb dX9_inkOf_10 rfl (lv_at hl 0 rfl) ?_
      refine lv_iconst (v := 4) hx hb dX9_inkOf_11 (by decide) ?_
      refine lv_icmp_ge (tgt := 40) hx hb dX9_inkOf_12 (by decide) (fun c_16 => ?_) (fun c_16 => ?_)
      · skip
        exact absurd c_16 (by decide)
      · skip
        refine lv_iload_n hx hb dX9_inkOf_15 rfl (lv_at hl 1 rfl) ?_
        refine lv_bipush (v := 8) hx hb dX9_inkOf_16 (by decide) ?_
        refine lv_ishl hx hb dX9_inkOf_18 ?_
        refine lv_topi (fun y_18 ey_18 => ?_)
        refine lv_iload_n hx hb dX9_inkOf_19 rfl (lv_at hl 3 rfl) ?_
        refine lv_iload_n hx hb dX9_inkOf_20 rfl (lv_at hl 0 rfl) ?_
        have hPc := hP.sub (ws' := []) [] rfl
        have hDc := hD.sub (ws' := []) [] (by decide) rfl
        have hKc := hK.sub (tys' := []) [] rfl
        have hFc := va_free (wc := []) hD hS hA [] rfl
        refine va_calli (va_runS (As := [.int n, .int 3]) (rest := [.int y_18]) ⟨hx, hb, hml, hown, hts⟩ (k_X9_channel_3 l D H.size n) (va_cwS 2 hts (gS bw_62 bw_63 bw_61 bw_60) rfl rfl rfl (by decide +kernel) ⟨(by rw [hR]; exact Nat.le_of_ble_eq_true rfl), (by rw [hR]; exact Nat.le_of_ble_eq_true rfl)⟩) ⟨cP_blind, cP_at hPc hKc hDc hN⟩ rfl rfl hl.1 rfl (lv_room (Nat.le_of_ble_eq_true rfl)) dX9_inkOf_21 ⟨(by rw [hR]; exact Nat.le_of_ble_eq_true rfl), (by rw [hR]; exact Nat.le_of_ble_eq_true rfl)⟩) hS (fun q _ h => hFc q h) hFc (fun r_19 u9 t9 H1 locs ht hvm hr_19 hB hz1 hk1 hS => ?_)
        try dsimp only at hr_19
        have hP1 : va_P D vwCl [] H1 := vP_nil
        have hD1 : va_D (va_A [] H.size) [] := vD_nil
        obtain ⟨hP, hD⟩ := va_join (wr := []) (w1 := []) hP hD [] [] rfl rfl (by decide) (by decide) hk1 hFc hP1 hD1
        clear hz1 hk1 hFc hKc hDc hPc
        generalize H1 = H at hP hS ⊢
        have hP : va_P D vwCl [] H := hP
        have hD : va_D A [] := hD
        refine lv_iload_n hx hb dX9_inkOf_24 rfl (lv_at hl 2 rfl) ?_
        refine lv_imul hx hb dX9_inkOf_25 ?_
        refine lv_topi (fun y_20 ey_20 => ?_)
        refine lv_sipush (v := 255) hx hb dX9_inkOf_26 (by decide) ?_
        have hPc := hP.sub (ws' := []) [] rfl
        have hDc := hD.sub (ws' := []) [] (by decide) rfl
        have hKc := hK.sub (tys' := []) [] rfl
        have hFc := va_free (wc := []) hD hS hA [] rfl
        refine va_calli (va_runS (As := [.int y_20, .int 255]) (rest := [.int y_18]) ⟨hx, hb, hml, hown, hts⟩ (k_X9_nearest_255 l D H.size y_20) (va_cwS 2 hts (gS bw_65 bw_66 bw_61 bw_64) rfl rfl rfl (by decide +kernel) ⟨(by rw [hR]; exact Nat.le_of_ble_eq_true rfl), (by rw [hR]; exact Nat.le_of_ble_eq_true rfl)⟩) ⟨cP_blind, cP_at hPc hKc hDc hN⟩ rfl rfl hl.1 rfl (lv_room (Nat.le_of_ble_eq_true rfl)) dX9_inkOf_29 ⟨(by rw [hR]; exact Nat.le_of_ble_eq_true rfl), (by rw [hR]; exact Nat.le_of_ble_eq_true rfl)⟩) hS (fun q _ h => hFc q h) hFc (fun r_21 u9 t9 H1 locs ht hvm hr_21 hB hz1 hk1 hS => ?_)
        try dsimp only at hr_21
        have hP1 : va_P D vwCl [] H1 := vP_nil
        have hD1 : va_D (va_A [] H.size) [] := vD_nil
        obtain ⟨hP, hD⟩ := va_join (wr := []) (w1 := []) hP hD [] [] rfl rfl (by decide) (by decide) hk1 hFc hP1 hD1
        clear hz1 hk1 hFc hKc hDc hPc
        generalize H1 = H at hP hS ⊢
        have hP : va_P D vwCl [] H := hP
        have hD : va_D A [] := hD
        refine lv_ior hx hb dX9_inkOf_32 ?_
        refine lv_topi (fun y_22 ey_22 => ?_)
        refine lv_istore_n (lv' := [(2, .int y_22), (3, .int 3), (1, .int r_1), (0, .int n)]) hx hb dX9_inkOf_33 rfl hl (by decide) rfl (fun ls hl => ?_)
        refine lv_iinc (v := 4) (lv' := [(3, .int 4), (2, .int y_22), (1, .int r_1), (0, .int n)]) hx hb dX9_inkOf_34 hl (k := 1) rfl (by decide) (by decide) rfl (fun ls hl => ?_)
        refine lv_goto (tgt := 10) hx hb dX9_inkOf_37 (by decide) ?_
        refine lv_iload_n hx hb dX9_inkOf_10 rfl (lv_at hl 0 rfl) ?_
        refine lv_iconst (v := 4) hx hb dX9_inkOf_11 (by decide) ?_
        refine lv_icmp_ge (tgt := 40) hx hb dX9_inkOf_12 (by decide) (fun c_23 => ?_) (fun c_23 => ?_)
        · skip
          refine lv_iload_n hx hb dX9_inkOf_40 rfl (lv_at hl 1 rfl) ?_
          refine hQ _ _ _ _ _ ?_
          exact W.iret (v := y_22) hx hb hr (fun t ht hW => ⟨⟨y_22, (), rfl, (by subst_vars; rfl), trivial⟩, hS.F ht⟩) hS.2.2 dX9_inkOf_41
        · skip
          exact absurd c_23 (by decide)

set_option maxHeartbeats 4000000 in
set_option maxRecDepth 100000 in
theorem k_X9_isNear (l : Launch) (D : va_G) (sz : Nat) (n far : Int32) (A0 B0 : Int) (hA0 : (-far).toInt = A0) (hB0 : far.toInt = B0) : Met l yX9_isNear (wB yX9_isNear cX9_isNear 2 (some .boolean)) ({ frames := 0, cells := 0, slots := 0, locals := 0 }) (cP D [] [] sz [.int n, .int far]) (va_Qi (fun (r : Int32) (_ : Unit) => r = if A0 ≤ n.toInt ∧ n.toInt ≤ B0 then 1 else 0) (fun (_ : Unit) (_ : State) => True) (va_A [] sz)) 0 0 (va_A [] sz) := by
  refine Met.ofW (cc := cX9_isNear) (maxL := 2) (ret := (some .boolean)) (by decide) rfl ?_
  intro p e s m args below meth c s₁ B hml hv
  obtain ⟨rfl, hsz, hP, hK, hD0, hN⟩ := hv
  have hx := B.exec
  have hb := B.bytes
  have hr := B.returns
  have hts0 := atoms_spec (ws := (wB yX9_isNear cX9_isNear 2 (some .boolean))) B.pre
  have hts : ∀ w ∈ bigW, w.before _ s = true := fun w h => hts0 w (List.mem_cons_of_mem _ h)
  have hown : s.vm.findClass RX9 = some m.cls := findClass_of_methodNamed B.named
  have hlocks := B.notSynchronized
  subst hsz
  have hD := hD0.self (sz := s.heap.size)
  generalize hAe : va_A [] s.heap.size = A at hD ⊢
  have hA : ∀ q : Nat, s.heap.size ≤ q → A q := fun q h => by rw [← hAe]; exact Or.inr h
  have hS : va_S A s.heap s.heap [] := va_S.rf
  have hP : va_P D vwCl [] s.heap := hP
  have hl := lv_entry ([.int n, .int far]) (n := 2) (Nat.le_of_ble_eq_true rfl)
  rw [lg_entry_eq]
  generalize (lg_sl ([.int n, .int far]) ++ List.replicate (2 - (lg_sl ([.int n, .int far])).length) Slot.unset).toArray = ls at hl ⊢
  have hl : lv_has ls 2 [(0, .int n), (1, .int far)] := hl
  clear hts0 hD0 hAe
  refine my_abs (fun R Q hR hQ => ?_)
  refine lv_iload_n hx hb dX9_isNear_0 rfl (lv_at hl 0 rfl) ?_
  refine lv_iload_n hx hb dX9_isNear_1 rfl (lv_at hl 1 rfl) ?_
  refine lv_ineg hx hb dX9_isNear_2 ?_
  refine lv_icmp_lt (tgt := 15) hx hb dX9_isNear_3 (by decide) (fun c_1 => ?_) (fun c_1 => ?_)
  · skip
    have f_2 : n.toInt < A0 := f_lt rfl hA0 c_1
    refine lv_iconst (v := 0) hx hb dX9_isNear_15 (by decide) ?_
    refine hQ _ _ _ _ _ ?_
    exact W.zret (v := 0) hx hb hr rfl (fun t ht hW => ⟨⟨0, (), rfl, (if_neg (by omega)).symm, trivial⟩, hS.F ht⟩) hS.2.2 dX9_isNear_16
  · skip
    have f_2 : ¬ (n.toInt < A0) := fn_lt rfl hA0 c_1
    refine lv_iload_n hx hb dX9_isNear_6 rfl (lv_at hl 0 rfl) ?_
    refine lv_iload_n hx hb dX9_isNear_7 rfl (lv_at hl 1 rfl) ?_
    refine lv_icmp_gt (tgt := 15) hx hb dX9_isNear_8 (by decide) (fun c_3 => ?_) (fun c_3 => ?_)
    · skip
      have f_4 : B0 < n.toInt := f_lt hB0 rfl c_3
      refine lv_iconst (v := 0) hx hb dX9_isNear_15 (by decide) ?_
      refine hQ _ _ _ _ _ ?_
      exact W.zret (v := 0) hx hb hr rfl (fun t ht hW => ⟨⟨0, (), rfl, (if_neg (by omega)).symm, trivial⟩, hS.F ht⟩) hS.2.2 dX9_isNear_16
    · skip
      have f_4 : ¬ (B0 < n.toInt) := fn_lt hB0 rfl c_3
      refine lv_iconst (v := 1) hx hb dX9_isNear_11 (by decide) ?_
      refine lv_goto (tgt := 16) hx hb dX9_isNear_12 (by decide) ?_
      refine hQ _ _ _ _ _ ?_
      exact W.zret (v := 1) hx hb hr rfl (fun t ht hW => ⟨⟨1, (), rfl, (if_pos (by omega)).symm, trivial⟩, hS.F ht⟩) hS.2.2 dX9_isNear_16

set_option maxHeartbeats 4000000 in
set_option maxRecDepth 100000 in
theorem k_X9_isSheet (l : Launch) (D : va_G) (sz : Nat) (h0 m1 m2 m3 m4 m5 m6 m7 m8 m9 m10 m11 m12 m13 : Nat) (ik wy op cl cx0 cx1 cy0 cy1 ds pn : Int32) (gw : Nat → Int32) (k : Int32) (cI : ClassId) : Met l yX9_isSheet (wB yX9_isSheet cX9_isSheet 2 (some .boolean)) ({ frames := 0, cells := 0, slots := 0, locals := 0 }) (cP D [(h0, .inr (9, [.ref m1, .ref m2, .ref m3, .int ik, .int wy, .int op, .int cl, .int cx0, .int cx1, .int cy0, .int cy1, .int ds, .ref m4, .ref m5, .ref m6, .ref m7, .ref m8, .ref m9, .int pn, .ref m10, .ref m11, .ref m12, .ref m13])), (m1, .inl (cI, 4, .inl gw))] [(cI, .int)] sz [.ref h0, .int k]) (va_Qi (fun (r : Int32) (_ : Unit) => r = if 0 ≤ k.toInt ∧ k.toInt ≤ 3 ∧ 0 < (gw k.toNatClampNeg).toInt then 1 else 0) (fun (_ : Unit) (t : State) => cB D (va_A [(h0, .inr (9, [.ref m1, .ref m2, .ref m3, .int ik, .int wy, .int op, .int cl, .int cx0, .int cx1, .int cy0, .int cy1, .int ds, .ref m4, .ref m5, .ref m6, .ref m7, .ref m8, .ref m9, .int pn, .ref m10, .ref m11, .ref m12, .ref m13])), (m1, .inl (cI, 4, .inl gw))] sz) [(h0, .inr (9, [.ref m1, .ref m2, .ref m3, .int ik, .int wy, .int op, .int cl, .int cx0, .int cx1, .int cy0, .int cy1, .int ds, .ref m4, .ref m5, .ref m6, .ref m7, .ref m8, .ref m9, .int pn, .ref m10, .ref m11, .ref m12, .ref m13])), (m1, .inl (cI, 4, .inl gw))] [(cI, .int)] t) (va_A [(h0, .inr (9, [.ref m1, .ref m2, .ref m3, .int ik, .int wy, .int op, .int cl, .int cx0, .int cx1, .int cy0, .int cy1, .int ds, .ref m4, .ref m5, .ref m6, .ref m7, .ref m8, .ref m9, .int pn, .ref m10, .ref m11, .ref m12, .ref m13])), (m1, .inl (cI, 4, .inl gw))] sz)) 0 0 (va_A [(h0, .inr (9, [.ref m1, .ref m2, .ref m3, .int ik, .int wy, .int op, .int cl, .int cx0, .int cx1, .int cy0, .int cy1, .int ds, .ref m4, .ref m5, .ref m6, .ref m7, .ref m8, .ref m9, .int pn, .ref m10, .ref m11, .ref m12, .ref m13])), (m1, .inl (cI, 4, .inl gw))] sz) := by
  refine Met.ofW (cc := cX9_isSheet) (maxL := 2) (ret := (some .boolean)) (by decide) rfl ?_
  intro p e s m args below meth c s₁ B hml hv
  obtain ⟨rfl, hsz, hP, hK, hD0, hN⟩ := hv
  have hx := B.exec
  have hb := B.bytes
  have hr := B.returns
  have hts0 := atoms_spec (ws := (wB yX9_isSheet cX9_isSheet 2 (some .boolean))) B.pre
  have hts : ∀ w ∈ bigW, w.before _ s = true := fun w h => hts0 w (List.mem_cons_of_mem _ h)
  have hown : s.vm.findClass RX9 = some m.cls := findClass_of_methodNamed B.named
  have hlocks := B.notSynchronized
  subst hsz
  have hD := hD0.self (sz := s.heap.size)
  generalize hAe : va_A [(h0, .inr (9, [.ref m1, .ref m2, .ref m3, .int ik, .int wy, .int op, .int cl, .int cx0, .int cx1, .int cy0, .int cy1, .int ds, .ref m4, .ref m5, .ref m6, .ref m7, .ref m8, .ref m9, .int pn, .ref m10, .ref m11, .ref m12, .ref m13])), (m1, .inl (cI, 4, .inl gw))] s.heap.size = A at hD ⊢
  have hA : ∀ q : Nat, s.heap.size ≤ q → A q := fun q h => by rw [← hAe]; exact Or.inr h
  have hS : va_S A s.heap s.heap [] := va_S.rf
  have hP : va_P D vwCl [(h0, .inr (9, [.ref m1, .ref m2, .ref m3, .int ik, .int wy, .int op, .int cl, .int cx0, .int cx1, .int cy0, .int cy1, .int ds, .ref m4, .ref m5, .ref m6, .ref m7, .ref m8, .ref m9, .int pn, .ref m10, .ref m11, .ref m12, .ref m13])), (m1, .inl (cI, 4, .inl gw))] s.heap := hP
  have hl := lv_entry ([.ref h0, .int k]) (n := 2) (Nat.le_of_ble_eq_true rfl)
  rw [lg_entry_eq]
  generalize (lg_sl ([.ref h0, .int k]) ++ List.replicate (2 - (lg_sl ([.ref h0, .int k])).length) Slot.unset).toArray = ls at hl ⊢
  have hl : lv_has ls 2 [(0, .ref h0), (1, .int k)] := hl
  clear hts0 hD0 hAe
  refine my_abs (fun R Q hR hQ => ?_)
  refine lv_iload_n hx hb dX9_isSheet_0 rfl (lv_at hl 1 rfl) ?_
  refine lv_if_lt (tgt := 22) hx hb dX9_isSheet_1 (by decide) (fun c_1 => ?_) (fun c_1 => ?_)
  · skip
    have f_2 : k.toInt < 0 := f_lt rfl (by decide) c_1
    refine lv_iconst (v := 0) hx hb dX9_isSheet_22 (by decide) ?_
    have hP9 := hP.sub (ws' := [(h0, .inr (9, [.ref m1, .ref m2, .ref m3, .int ik, .int wy, .int op, .int cl, .int cx0, .int cx1, .int cy0, .int cy1, .int ds, .ref m4, .ref m5, .ref m6, .ref m7, .ref m8, .ref m9, .int pn, .ref m10, .ref m11, .ref m12, .ref m13])), (m1, .inl (cI, 4, .inl gw))]) [0, 1] rfl
    have hD9 := hD.sub (ws' := [(h0, .inr (9, [.ref m1, .ref m2, .ref m3, .int ik, .int wy, .int op, .int cl, .int cx0, .int cx1, .int cy0, .int cy1, .int ds, .ref m4, .ref m5, .ref m6, .ref m7, .ref m8, .ref m9, .int pn, .ref m10, .ref m11, .ref m12, .ref m13])), (m1, .inl (cI, 4, .inl gw))]) [0, 1] (by decide) rfl
    have hK9 := hK.sub (tys' := [(cI, .int)]) [0] rfl
    refine hQ _ _ _ _ _ ?_
    exact W.zret (v := 0) hx hb hr rfl (fun t ht hW => ⟨⟨0, (), rfl, (if_neg (by omega)).symm, ⟨by rw [ht]; exact hP9, va_K.moved hW.alike hK9, hD9⟩⟩, hS.F ht⟩) hS.2.2 dX9_isSheet_23
  · skip
    have f_2 : ¬ (k.toInt < 0) := fn_lt rfl (by decide) c_1
    refine lv_iload_n hx hb dX9_isSheet_4 rfl (lv_at hl 1 rfl) ?_
    refine lv_iconst (v := 4) hx hb dX9_isSheet_5 (by decide) ?_
    refine lv_icmp_ge (tgt := 22) hx hb dX9_isSheet_6 (by decide) (fun c_3 => ?_) (fun c_3 => ?_)
    · skip
      have f_4 : 4 ≤ k.toInt := f_le (by decide) rfl c_3
      refine lv_iconst (v := 0) hx hb dX9_isSheet_22 (by decide) ?_
      have hP9 := hP.sub (ws' := [(h0, .inr (9, [.ref m1, .ref m2, .ref m3, .int ik, .int wy, .int op, .int cl, .int cx0, .int cx1, .int cy0, .int cy1, .int ds, .ref m4, .ref m5, .ref m6, .ref m7, .ref m8, .ref m9, .int pn, .ref m10, .ref m11, .ref m12, .ref m13])), (m1, .inl (cI, 4, .inl gw))]) [0, 1] rfl
      have hD9 := hD.sub (ws' := [(h0, .inr (9, [.ref m1, .ref m2, .ref m3, .int ik, .int wy, .int op, .int cl, .int cx0, .int cx1, .int cy0, .int cy1, .int ds, .ref m4, .ref m5, .ref m6, .ref m7, .ref m8, .ref m9, .int pn, .ref m10, .ref m11, .ref m12, .ref m13])), (m1, .inl (cI, 4, .inl gw))]) [0, 1] (by decide) rfl
      have hK9 := hK.sub (tys' := [(cI, .int)]) [0] rfl
      refine hQ _ _ _ _ _ ?_
      exact W.zret (v := 0) hx hb hr rfl (fun t ht hW => ⟨⟨0, (), rfl, (if_neg (by omega)).symm, ⟨by rw [ht]; exact hP9, va_K.moved hW.alike hK9, hD9⟩⟩, hS.F ht⟩) hS.2.2 dX9_isSheet_23
    · skip
      have f_4 : ¬ (4 ≤ k.toInt) := fn_le (by decide) rfl c_3
      refine lv_aload_n hx hb dX9_isSheet_9 rfl (lv_at hl 0 rfl) ?_
      refine va_get (D := D) (ci := 9) (v := .ref m1) (C := RX9) (T := TX9) (N := 23) hx hb hts hi_X9 hown hK hP 0 rfl rfl 0 (by decide) (hts _ bw_67) (fun _ h9 => h9) rfl dX9_isSheet_10 ?_
      refine lv_iload_n hx hb dX9_isSheet_13 rfl (lv_at hl 1 rfl) ?_
      refine va_iald hx hb hK hP 1 0 rfl rfl (vp_in_iff.mpr ⟨by omega, by omega⟩) dX9_isSheet_14 ?_
      refine lv_if_le (tgt := 22) hx hb dX9_isSheet_15 (by decide) (fun c_5 => ?_) (fun c_5 => ?_)
      · skip
        have f_6 : (gw k.toNatClampNeg).toInt ≤ 0 := f_le rfl (by decide) c_5
        refine lv_iconst (v := 0) hx hb dX9_isSheet_22 (by decide) ?_
        have hP9 := hP.sub (ws' := [(h0, .inr (9, [.ref m1, .ref m2, .ref m3, .int ik, .int wy, .int op, .int cl, .int cx0, .int cx1, .int cy0, .int cy1, .int ds, .ref m4, .ref m5, .ref m6, .ref m7, .ref m8, .ref m9, .int pn, .ref m10, .ref m11, .ref m12, .ref m13])), (m1, .inl (cI, 4, .inl gw))]) [0, 1] rfl
        have hD9 := hD.sub (ws' := [(h0, .inr (9, [.ref m1, .ref m2, .ref m3, .int ik, .int wy, .int op, .int cl, .int cx0, .int cx1, .int cy0, .int cy1, .int ds, .ref m4, .ref m5, .ref m6, .ref m7, .ref m8, .ref m9, .int pn, .ref m10, .ref m11, .ref m12, .ref m13])), (m1, .inl (cI, 4, .inl gw))]) [0, 1] (by decide) rfl
        have hK9 := hK.sub (tys' := [(cI, .int)]) [0] rfl
        refine hQ _ _ _ _ _ ?_
        exact W.zret (v := 0) hx hb hr rfl (fun t ht hW => ⟨⟨0, (), rfl, (if_neg (by omega)).symm, ⟨by rw [ht]; exact hP9, va_K.moved hW.alike hK9, hD9⟩⟩, hS.F ht⟩) hS.2.2 dX9_isSheet_23
      · skip
        have f_6 : ¬ ((gw k.toNatClampNeg).toInt ≤ 0) := fn_le rfl (by decide) c_5
        refine lv_iconst (v := 1) hx hb dX9_isSheet_18 (by decide) ?_
        refine lv_goto (tgt := 23) hx hb dX9_isSheet_19 (by decide) ?_
        have hP9 := hP.sub (ws' := [(h0, .inr (9, [.ref m1, .ref m2, .ref m3, .int ik, .int wy, .int op, .int cl, .int cx0, .int cx1, .int cy0, .int cy1, .int ds, .ref m4, .ref m5, .ref m6, .ref m7, .ref m8, .ref m9, .int pn, .ref m10, .ref m11, .ref m12, .ref m13])), (m1, .inl (cI, 4, .inl gw))]) [0, 1] rfl
        have hD9 := hD.sub (ws' := [(h0, .inr (9, [.ref m1, .ref m2, .ref m3, .int ik, .int wy, .int op, .int cl, .int cx0, .int cx1, .int cy0, .int cy1, .int ds, .ref m4, .ref m5, .ref m6, .ref m7, .ref m8, .ref m9, .int pn, .ref m10, .ref m11, .ref m12, .ref m13])), (m1, .inl (cI, 4, .inl gw))]) [0, 1] (by decide) rfl
        have hK9 := hK.sub (tys' := [(cI, .int)]) [0] rfl
        refine hQ _ _ _ _ _ ?_
        exact W.zret (v := 1) hx hb hr rfl (fun t ht hW => ⟨⟨1, (), rfl, (if_pos (by omega)).symm, ⟨by rw [ht]; exact hP9, va_K.moved hW.alike hK9, hD9⟩⟩, hS.F ht⟩) hS.2.2 dX9_isSheet_23

set_option maxHeartbeats 4000000 in
set_option maxRecDepth 100000 in
theorem k_X9_isOn (l : Launch) (D : va_G) (sz : Nat) (h0 m1 m2 m3 m4 m5 m6 m7 m8 m9 m10 m11 m12 m13 : Nat) (ik wy op cl cx0 cx1 cy0 cy1 ds pn : Int32) (gw : Nat → Int32) (gh : Nat → Int32) (k x y : Int32) (cI : ClassId) (hk : 0 ≤ k.toInt ∧ k.toInt ≤ 3) : Met l yX9_isOn (wB yX9_isOn cX9_isOn 4 (some .boolean)) ({ frames := 0, cells := 0, slots := 0, locals := 0 }) (cP D [(h0, .inr (9, [.ref m1, .ref m2, .ref m3, .int ik, .int wy, .int op, .int cl, .int cx0, .int cx1, .int cy0, .int cy1, .int ds, .ref m4, .ref m5, .ref m6, .ref m7, .ref m8, .ref m9, .int pn, .ref m10, .ref m11, .ref m12, .ref m13])), (m1, .inl (cI, 4, .inl gw)), (m2, .inl (cI, 4, .inl gh))] [(cI, .int)] sz [.ref h0, .int k, .int x, .int y]) (va_Qi (fun (r : Int32) (_ : Unit) => r = if 0 ≤ x.toInt ∧ x.toInt < (gw k.toNatClampNeg).toInt ∧ 0 ≤ y.toInt ∧ y.toInt < (gh k.toNatClampNeg).toInt then 1 else 0) (fun (_ : Unit) (t : State) => cB D (va_A [(h0, .inr (9, [.ref m1, .ref m2, .ref m3, .int ik, .int wy, .int op, .int cl, .int cx0, .int cx1, .int cy0, .int cy1, .int ds, .ref m4, .ref m5, .ref m6, .ref m7, .ref m8, .ref m9, .int pn, .ref m10, .ref m11, .ref m12, .ref m13])), (m1, .inl (cI, 4, .inl gw)), (m2, .inl (cI, 4, .inl gh))] sz) [(h0, .inr (9, [.ref m1, .ref m2, .ref m3, .int ik, .int wy, .int op, .int cl, .int cx0, .int cx1, .int cy0, .int cy1, .int ds, .ref m4, .ref m5, .ref m6, .ref m7, .ref m8, .ref m9, .int pn, .ref m10, .ref m11, .ref m12, .ref m13])), (m1, .inl (cI, 4, .inl gw)), (m2, .inl (cI, 4, .inl gh))] [(cI, .int)] t) (va_A [(h0, .inr (9, [.ref m1, .ref m2, .ref m3, .int ik, .int wy, .int op, .int cl, .int cx0, .int cx1, .int cy0, .int cy1, .int ds, .ref m4, .ref m5, .ref m6, .ref m7, .ref m8, .ref m9, .int pn, .ref m10, .ref m11, .ref m12, .ref m13])), (m1, .inl (cI, 4, .inl gw)), (m2, .inl (cI, 4, .inl gh))] sz)) 0 0 (va_A [(h0, .inr (9, [.ref m1, .ref m2, .ref m3, .int ik, .int wy, .int op, .int cl, .int cx0, .int cx1, .int cy0, .int cy1, .int ds, .ref m4, .ref m5, .ref m6, .ref m7, .ref m8, .ref m9, .int pn, .ref m10, .ref m11, .ref m12, .ref m13])), (m1, .inl (cI, 4, .inl gw)), (m2, .inl (cI, 4, .inl gh))] sz) := by
  refine Met.ofW (cc := cX9_isOn) (maxL := 4) (ret := (some .boolean)) (by decide) rfl ?_
  intro p e s m args below meth c s₁ B hml hv
  obtain ⟨rfl, hsz, hP, hK, hD0, hN⟩ := hv
  have hx := B.exec
  have hb := B.bytes
  have hr := B.returns
  have hts0 := atoms_spec (ws := (wB yX9_isOn cX9_isOn 4 (some .boolean))) B.pre
  have hts : ∀ w ∈ bigW, w.before _ s = true := fun w h => hts0 w (List.mem_cons_of_mem _ h)
  have hown : s.vm.findClass RX9 = some m.cls := findClass_of_methodNamed B.named
  have hlocks := B.notSynchronized
  subst hsz
  have hD := hD0.self (sz := s.heap.size)
  generalize hAe : va_A [(h0, .inr (9, [.ref m1, .ref m2, .ref m3, .int ik, .int wy, .int op, .int cl, .int cx0, .int cx1, .int cy0, .int cy1, .int ds, .ref m4, .ref m5, .ref m6, .ref m7, .ref m8, .ref m9, .int pn, .ref m10, .ref m11, .ref m12, .ref m13])), (m1, .inl (cI, 4, .inl gw)), (m2, .inl (cI, 4, .inl gh))] s.heap.size = A at hD ⊢
  have hA : ∀ q : Nat, s.heap.size ≤ q → A q := fun q h => by rw [← hAe]; exact Or.inr h
  have hS : va_S A s.heap s.heap [] := va_S.rf
  have hP : va_P D vwCl [(h0, .inr (9, [.ref m1, .ref m2, .ref m3, .int ik, .int wy, .int op, .int cl, .int cx0, .int cx1, .int cy0, .int cy1, .int ds, .ref m4, .ref m5, .ref m6, .ref m7, .ref m8, .ref m9, .int pn, .ref m10, .ref m11, .ref m12, .ref m13])), (m1, .inl (cI, 4, .inl gw)), (m2, .inl (cI, 4, .inl gh))] s.heap := hP
  have hl := lv_entry ([.ref h0, .int k, .int x, .int y]) (n := 4) (Nat.le_of_ble_eq_true rfl)
  rw [lg_entry_eq]
  generalize (lg_sl ([.ref h0, .int k, .int x, .int y]) ++ List.replicate (4 - (lg_sl ([.ref h0, .int k, .int x, .int y])).length) Slot.unset).toArray = ls at hl ⊢
  have hl : lv_has ls 4 [(0, .ref h0), (1, .int k), (2, .int x), (3, .int y)] := hl
  clear hts0 hD0 hAe
  refine my_abs (fun R Q hR hQ => ?_)
  refine lv_iload_n hx hb dX9_isOn_0 rfl (lv_at hl 2 rfl) ?_
  refine lv_if_lt (tgt := 32) hx hb dX9_isOn_1 (by decide) (fun c_1 => ?_) (fun c_1 => ?_)
  · skip
    have f_2 : x.toInt < 0 := f_lt rfl (by decide) c_1
    refine lv_iconst (v := 0) hx hb dX9_isOn_32 (by decide) ?_
    have hP9 := hP.sub (ws' := [(h0, .inr (9, [.ref m1, .ref m2, .ref m3, .int ik, .int wy, .int op, .int cl, .int cx0, .int cx1, .int cy0, .int cy1, .int ds, .ref m4, .ref m5, .ref m6, .ref m7, .ref m8, .ref m9, .int pn, .ref m10, .ref m11, .ref m12, .ref m13])), (m1, .inl (cI, 4, .inl gw)), (m2, .inl (cI, 4, .inl gh))]) [0, 1, 2] rfl
    have hD9 := hD.sub (ws' := [(h0, .inr (9, [.ref m1, .ref m2, .ref m3, .int ik, .int wy, .int op, .int cl, .int cx0, .int cx1, .int cy0, .int cy1, .int ds, .ref m4, .ref m5, .ref m6, .ref m7, .ref m8, .ref m9, .int pn, .ref m10, .ref m11, .ref m12, .ref m13])), (m1, .inl (cI, 4, .inl gw)), (m2, .inl (cI, 4, .inl gh))]) [0, 1, 2] (by decide) rfl
    have hK9 := hK.sub (tys' := [(cI, .int)]) [0] rfl
    refine hQ _ _ _ _ _ ?_
    exact W.zret (v := 0) hx hb hr rfl (fun t ht hW => ⟨⟨0, (), rfl, (if_neg (by omega)).symm, ⟨by rw [ht]; exact hP9, va_K.moved hW.alike hK9, hD9⟩⟩, hS.F ht⟩) hS.2.2 dX9_isOn_33
  · skip
    have f_2 : ¬ (x.toInt < 0) := fn_lt rfl (by decide) c_1
    refine lv_iload_n hx hb dX9_isOn_4 rfl (lv_at hl 2 rfl) ?_
    refine lv_aload_n hx hb dX9_isOn_5 rfl (lv_at hl 0 rfl) ?_
    refine va_get (D := D) (ci := 9) (v := .ref m1) (C := RX9) (T := TX9) (N := 23) hx hb hts hi_X9 hown hK hP 0 rfl rfl 0 (by decide) (hts _ bw_67) (fun _ h9 => h9) rfl dX9_isOn_6 ?_
    refine lv_iload_n hx hb dX9_isOn_9 rfl (lv_at hl 1 rfl) ?_
    refine va_iald hx hb hK hP 1 0 rfl rfl (vp_in_iff.mpr ⟨by omega, by omega⟩) dX9_isOn_10 ?_
    refine lv_icmp_ge (tgt := 32) hx hb dX9_isOn_11 (by decide) (fun c_3 => ?_) (fun c_3 => ?_)
    · skip
      have f_4 : (gw k.toNatClampNeg).toInt ≤ x.toInt := f_le rfl rfl c_3
      refine lv_iconst (v := 0) hx hb dX9_isOn_32 (by decide) ?_
      have hP9 := hP.sub (ws' := [(h0, .inr (9, [.ref m1, .ref m2, .ref m3, .int ik, .int wy, .int op, .int cl, .int cx0, .int cx1, .int cy0, .int cy1, .int ds, .ref m4, .ref m5, .ref m6, .ref m7, .ref m8, .ref m9, .int pn, .ref m10, .ref m11, .ref m12, .ref m13])), (m1, .inl (cI, 4, .inl gw)), (m2, .inl (cI, 4, .inl gh))]) [0, 1, 2] rfl
      have hD9 := hD.sub (ws' := [(h0, .inr (9, [.ref m1, .ref m2, .ref m3, .int ik, .int wy, .int op, .int cl, .int cx0, .int cx1, .int cy0, .int cy1, .int ds, .ref m4, .ref m5, .ref m6, .ref m7, .ref m8, .ref m9, .int pn, .ref m10, .ref m11, .ref m12, .ref m13])), (m1, .inl (cI, 4, .inl gw)), (m2, .inl (cI, 4, .inl gh))]) [0, 1, 2] (by decide) rfl
      have hK9 := hK.sub (tys' := [(cI, .int)]) [0] rfl
      refine hQ _ _ _ _ _ ?_
      exact W.zret (v := 0) hx hb hr rfl (fun t ht hW => ⟨⟨0, (), rfl, (if_neg (by omega)).symm, ⟨by rw [ht]; exact hP9, va_K.moved hW.alike hK9, hD9⟩⟩, hS.F ht⟩) hS.2.2 dX9_isOn_33
    · skip
      have f_4 : ¬ ((gw k.toNatClampNeg).toInt ≤ x.toInt) := fn_le rfl rfl c_3
      refine lv_iload_n hx hb dX9_isOn_14 rfl (lv_at hl 3 rfl) ?_
      refine lv_if_lt (tgt := 32) hx hb dX9_isOn_15 (by decide) (fun c_5 => ?_) (fun c_5 => ?_)
      · skip
        have f_6 : y.toInt < 0 := f_lt rfl (by decide) c_5
        refine lv_iconst (v := 0) hx hb dX9_isOn_32 (by decide) ?_
        have hP9 := hP.sub (ws' := [(h0, .inr (9, [.ref m1, .ref m2, .ref m3, .int ik, .int wy, .int op, .int cl, .int cx0, .int cx1, .int cy0, .int cy1, .int ds, .ref m4, .ref m5, .ref m6, .ref m7, .ref m8, .ref m9, .int pn, .ref m10, .ref m11, .ref m12, .ref m13])), (m1, .inl (cI, 4, .inl gw)), (m2, .inl (cI, 4, .inl gh))]) [0, 1, 2] rfl
        have hD9 := hD.sub (ws' := [(h0, .inr (9, [.ref m1, .ref m2, .ref m3, .int ik, .int wy, .int op, .int cl, .int cx0, .int cx1, .int cy0, .int cy1, .int ds, .ref m4, .ref m5, .ref m6, .ref m7, .ref m8, .ref m9, .int pn, .ref m10, .ref m11, .ref m12, .ref m13])), (m1, .inl (cI, 4, .inl gw)), (m2, .inl (cI, 4, .inl gh))]) [0, 1, 2] (by decide) rfl
        have hK9 := hK.sub (tys' := [(cI, .int)]) [0] rfl
        refine hQ _ _ _ _ _ ?_
        exact W.zret (v := 0) hx hb hr rfl (fun t ht hW => ⟨⟨0, (), rfl, (if_neg (by omega)).symm, ⟨by rw [ht]; exact hP9, va_K.moved hW.alike hK9, hD9⟩⟩, hS.F ht⟩) hS.2.2 dX9_isOn_33
      · skip
        have f_6 : ¬ (y.toInt < 0) := fn_lt rfl (by decide) c_5
        refine lv_iload_n hx hb dX9_isOn_18 rfl (lv_at hl 3 rfl) ?_
        refine lv_aload_n hx hb dX9_isOn_19 rfl (lv_at hl 0 rfl) ?_
        refine va_get (D := D) (ci := 9) (v := .ref m2) (C := RX9) (T := TX9) (N := 23) hx hb hts hi_X9 hown hK hP 0 rfl rfl 1 (by decide) (hts _ bw_68) (fun _ h9 => h9) rfl dX9_isOn_20 ?_
        refine lv_iload_n hx hb dX9_isOn_23 rfl (lv_at hl 1 rfl) ?_
        refine va_iald hx hb hK hP 2 0 rfl rfl (vp_in_iff.mpr ⟨by omega, by omega⟩) dX9_isOn_24 ?_
        refine lv_icmp_ge (tgt := 32) hx hb dX9_isOn_25 (by decide) (fun c_7 => ?_) (fun c_7 => ?_)
        · skip
          have f_8 : (gh k.toNatClampNeg).toInt ≤ y.toInt := f_le rfl rfl c_7
          refine lv_iconst (v := 0) hx hb dX9_isOn_32 (by decide) ?_
          have hP9 := hP.sub (ws' := [(h0, .inr (9, [.ref m1, .ref m2, .ref m3, .int ik, .int wy, .int op, .int cl, .int cx0, .int cx1, .int cy0, .int cy1, .int ds, .ref m4, .ref m5, .ref m6, .ref m7, .ref m8, .ref m9, .int pn, .ref m10, .ref m11, .ref m12, .ref m13])), (m1, .inl (cI, 4, .inl gw)), (m2, .inl (cI, 4, .inl gh))]) [0, 1, 2] rfl
          have hD9 := hD.sub (ws' := [(h0, .inr (9, [.ref m1, .ref m2, .ref m3, .int ik, .int wy, .int op, .int cl, .int cx0, .int cx1, .int cy0, .int cy1, .int ds, .ref m4, .ref m5, .ref m6, .ref m7, .ref m8, .ref m9, .int pn, .ref m10, .ref m11, .ref m12, .ref m13])), (m1, .inl (cI, 4, .inl gw)), (m2, .inl (cI, 4, .inl gh))]) [0, 1, 2] (by decide) rfl
          have hK9 := hK.sub (tys' := [(cI, .int)]) [0] rfl
          refine hQ _ _ _ _ _ ?_
          exact W.zret (v := 0) hx hb hr rfl (fun t ht hW => ⟨⟨0, (), rfl, (if_neg (by omega)).symm, ⟨by rw [ht]; exact hP9, va_K.moved hW.alike hK9, hD9⟩⟩, hS.F ht⟩) hS.2.2 dX9_isOn_33
        · skip
          have f_8 : ¬ ((gh k.toNatClampNeg).toInt ≤ y.toInt) := fn_le rfl rfl c_7
          refine lv_iconst (v := 1) hx hb dX9_isOn_28 (by decide) ?_
          refine lv_goto (tgt := 33) hx hb dX9_isOn_29 (by decide) ?_
          have hP9 := hP.sub (ws' := [(h0, .inr (9, [.ref m1, .ref m2, .ref m3, .int ik, .int wy, .int op, .int cl, .int cx0, .int cx1, .int cy0, .int cy1, .int ds, .ref m4, .ref m5, .ref m6, .ref m7, .ref m8, .ref m9, .int pn, .ref m10, .ref m11, .ref m12, .ref m13])), (m1, .inl (cI, 4, .inl gw)), (m2, .inl (cI, 4, .inl gh))]) [0, 1, 2] rfl
          have hD9 := hD.sub (ws' := [(h0, .inr (9, [.ref m1, .ref m2, .ref m3, .int ik, .int wy, .int op, .int cl, .int cx0, .int cx1, .int cy0, .int cy1, .int ds, .ref m4, .ref m5, .ref m6, .ref m7, .ref m8, .ref m9, .int pn, .ref m10, .ref m11, .ref m12, .ref m13])), (m1, .inl (cI, 4, .inl gw)), (m2, .inl (cI, 4, .inl gh))]) [0, 1, 2] (by decide) rfl
          have hK9 := hK.sub (tys' := [(cI, .int)]) [0] rfl
          refine hQ _ _ _ _ _ ?_
          exact W.zret (v := 1) hx hb hr rfl (fun t ht hW => ⟨⟨1, (), rfl, (if_pos (by omega)).symm, ⟨by rw [ht]; exact hP9, va_K.moved hW.alike hK9, hD9⟩⟩, hS.F ht⟩) hS.2.2 dX9_isOn_33

set_option maxHeartbeats 4000000 in
set_option maxRecDepth 100000 in
theorem k_X9_isInClip (l : Launch) (D : va_G) (sz : Nat) (h0 m1 m2 m3 m4 m5 m6 m7 m8 m9 m10 m11 m12 m13 : Nat) (ik wy op cl cx0 cx1 cy0 cy1 ds pn : Int32) (x y : Int32) : Met l yX9_isInClip (wB yX9_isInClip cX9_isInClip 3 (some .boolean)) ({ frames := 0, cells := 0, slots := 0, locals := 0 }) (cP D [(h0, .inr (9, [.ref m1, .ref m2, .ref m3, .int ik, .int wy, .int op, .int cl, .int cx0, .int cx1, .int cy0, .int cy1, .int ds, .ref m4, .ref m5, .ref m6, .ref m7, .ref m8, .ref m9, .int pn, .ref m10, .ref m11, .ref m12, .ref m13]))] [] sz [.ref h0, .int x, .int y]) (va_Qi (fun (r : Int32) (_ : Unit) => r = if (cl.toInt = 0 ∨ (cx0.toInt ≤ x.toInt ∧ x.toInt ≤ cx1.toInt ∧ cy0.toInt ≤ y.toInt ∧ y.toInt ≤ cy1.toInt)) then 1 else 0) (fun (_ : Unit) (t : State) => cB D (va_A [(h0, .inr (9, [.ref m1, .ref m2, .ref m3, .int ik, .int wy, .int op, .int cl, .int cx0, .int cx1, .int cy0, .int cy1, .int ds, .ref m4, .ref m5, .ref m6, .ref m7, .ref m8, .ref m9, .int pn, .ref m10, .ref m11, .ref m12, .ref m13]))] sz) [(h0, .inr (9, [.ref m1, .ref m2, .ref m3, .int ik, .int wy, .int op, .int cl, .int cx0, .int cx1, .int cy0, .int cy1, .int ds, .ref m4, .ref m5, .ref m6, .ref m7, .ref m8, .ref m9, .int pn, .ref m10, .ref m11, .ref m12, .ref m13]))] [] t) (va_A [(h0, .inr (9, [.ref m1, .ref m2, .ref m3, .int ik, .int wy, .int op, .int cl, .int cx0, .int cx1, .int cy0, .int cy1, .int ds, .ref m4, .ref m5, .ref m6, .ref m7, .ref m8, .ref m9, .int pn, .ref m10, .ref m11, .ref m12, .ref m13]))] sz)) 0 0 (va_A [(h0, .inr (9, [.ref m1, .ref m2, .ref m3, .int ik, .int wy, .int op, .int cl, .int cx0, .int cx1, .int cy0, .int cy1, .int ds, .ref m4, .ref m5, .ref m6, .ref m7, .ref m8, .ref m9, .int pn, .ref m10, .ref m11, .ref m12, .ref m13]))] sz) := by
  refine Met.ofW (cc := cX9_isInClip) (maxL := 3) (ret := (some .boolean)) (by decide) rfl ?_
  intro p e s m args below meth c s₁ B hml hv
  obtain ⟨rfl, hsz, hP, hK, hD0, hN⟩ := hv
  have hx := B.exec
  have hb := B.bytes
  have hr := B.returns
  have hts0 := atoms_spec (ws := (wB yX9_isInClip cX9_isInClip 3 (some .boolean))) B.pre
  have hts : ∀ w ∈ bigW, w.before _ s = true := fun w h => hts0 w (List.mem_cons_of_mem _ h)
  have hown : s.vm.findClass RX9 = some m.cls := findClass_of_methodNamed B.named
  have hlocks := B.notSynchronized
  subst hsz
  have hD := hD0.self (sz := s.heap.size)
  generalize hAe : va_A [(h0, .inr (9, [.ref m1, .ref m2, .ref m3, .int ik, .int wy, .int op, .int cl, .int cx0, .int cx1, .int cy0, .int cy1, .int ds, .ref m4, .ref m5, .ref m6, .ref m7, .ref m8, .ref m9, .int pn, .ref m10, .ref m11, .ref m12, .ref m13]))] s.heap.size = A at hD ⊢
  have hA : ∀ q : Nat, s.heap.size ≤ q → A q := fun q h => by rw [← hAe]; exact Or.inr h
  have hS : va_S A s.heap s.heap [] := va_S.rf
  have hP : va_P D vwCl [(h0, .inr (9, [.ref m1, .ref m2, .ref m3, .int ik, .int wy, .int op, .int cl, .int cx0, .int cx1, .int cy0, .int cy1, .int ds, .ref m4, .ref m5, .ref m6, .ref m7, .ref m8, .ref m9, .int pn, .ref m10, .ref m11, .ref m12, .ref m13]))] s.heap := hP
  have hl := lv_entry ([.ref h0, .int x, .int y]) (n := 3) (Nat.le_of_ble_eq_true rfl)
  rw [lg_entry_eq]
  generalize (lg_sl ([.ref h0, .int x, .int y]) ++ List.replicate (3 - (lg_sl ([.ref h0, .int x, .int y])).length) Slot.unset).toArray = ls at hl ⊢
  have hl : lv_has ls 3 [(0, .ref h0), (1, .int x), (2, .int y)] := hl
  clear hts0 hD0 hAe
  refine my_abs (fun R Q hR hQ => ?_)
  refine lv_aload_n hx hb dX9_isInClip_0 rfl (lv_at hl 0 rfl) ?_
  refine va_get (D := D) (ci := 9) (v := .int cl) (C := RX9) (T := TX9) (N := 23) hx hb hts hi_X9 hown hK hP 0 rfl rfl 6 (by decide) (hts _ bw_69) (fun _ h9 => h9) rfl dX9_isInClip_1 ?_
  refine lv_if_eq (tgt := 39) hx hb dX9_isInClip_4 (by decide) (fun c_1 => ?_) (fun c_1 => ?_)
  · skip
    have f_2 : cl.toInt = 0 := f_eq rfl (by decide) c_1
    refine lv_iconst (v := 1) hx hb dX9_isInClip_39 (by decide) ?_
    refine lv_goto (tgt := 44) hx hb dX9_isInClip_40 (by decide) ?_
    have hP9 := hP.sub (ws' := [(h0, .inr (9, [.ref m1, .ref m2, .ref m3, .int ik, .int wy, .int op, .int cl, .int cx0, .int cx1, .int cy0, .int cy1, .int ds, .ref m4, .ref m5, .ref m6, .ref m7, .ref m8, .ref m9, .int pn, .ref m10, .ref m11, .ref m12, .ref m13]))]) [0] rfl
    have hD9 := hD.sub (ws' := [(h0, .inr (9, [.ref m1, .ref m2, .ref m3, .int ik, .int wy, .int op, .int cl, .int cx0, .int cx1, .int cy0, .int cy1, .int ds, .ref m4, .ref m5, .ref m6, .ref m7, .ref m8, .ref m9, .int pn, .ref m10, .ref m11, .ref m12, .ref m13]))]) [0] (by decide) rfl
    have hK9 := hK.sub (tys' := []) [] rfl
    refine hQ _ _ _ _ _ ?_
    exact W.zret (v := 1) hx hb hr rfl (fun t ht hW => ⟨⟨1, (), rfl, (if_pos (by omega)).symm, ⟨by rw [ht]; exact hP9, va_K.moved hW.alike hK9, hD9⟩⟩, hS.F ht⟩) hS.2.2 dX9_isInClip_44
  · skip
    have f_2 : ¬ (cl.toInt = 0) := fn_eq rfl (by decide) c_1
    refine lv_iload_n hx hb dX9_isInClip_7 rfl (lv_at hl 1 rfl) ?_
    refine lv_aload_n hx hb dX9_isInClip_8 rfl (lv_at hl 0 rfl) ?_
    refine va_get (D := D) (ci := 9) (v := .int cx0) (C := RX9) (T := TX9) (N := 23) hx hb hts hi_X9 hown hK hP 0 rfl rfl 7 (by decide) (hts _ bw_70) (fun _ h9 => h9) rfl dX9_isInClip_9 ?_
    refine lv_icmp_lt (tgt := 43) hx hb dX9_isInClip_12 (by decide) (fun c_3 => ?_) (fun c_3 => ?_)
    · skip
      have f_4 : x.toInt < cx0.toInt := f_lt rfl rfl c_3
      refine lv_iconst (v := 0) hx hb dX9_isInClip_43 (by decide) ?_
      have hP9 := hP.sub (ws' := [(h0, .inr (9, [.ref m1, .ref m2, .ref m3, .int ik, .int wy, .int op, .int cl, .int cx0, .int cx1, .int cy0, .int cy1, .int ds, .ref m4, .ref m5, .ref m6, .ref m7, .ref m8, .ref m9, .int pn, .ref m10, .ref m11, .ref m12, .ref m13]))]) [0] rfl
      have hD9 := hD.sub (ws' := [(h0, .inr (9, [.ref m1, .ref m2, .ref m3, .int ik, .int wy, .int op, .int cl, .int cx0, .int cx1, .int cy0, .int cy1, .int ds, .ref m4, .ref m5, .ref m6, .ref m7, .ref m8, .ref m9, .int pn, .ref m10, .ref m11, .ref m12, .ref m13]))]) [0] (by decide) rfl
      have hK9 := hK.sub (tys' := []) [] rfl
      refine hQ _ _ _ _ _ ?_
      exact W.zret (v := 0) hx hb hr rfl (fun t ht hW => ⟨⟨0, (), rfl, (if_neg (by omega)).symm, ⟨by rw [ht]; exact hP9, va_K.moved hW.alike hK9, hD9⟩⟩, hS.F ht⟩) hS.2.2 dX9_isInClip_44
    · skip
      have f_4 : ¬ (x.toInt < cx0.toInt) := fn_lt rfl rfl c_3
      refine lv_iload_n hx hb dX9_isInClip_15 rfl (lv_at hl 1 rfl) ?_
      refine lv_aload_n hx hb dX9_isInClip_16 rfl (lv_at hl 0 rfl) ?_
      refine va_get (D := D) (ci := 9) (v := .int cx1) (C := RX9) (T := TX9) (N := 23) hx hb hts hi_X9 hown hK hP 0 rfl rfl 8 (by decide) (hts _ bw_71) (fun _ h9 => h9) rfl dX9_isInClip_17 ?_
      refine lv_icmp_gt (tgt := 43) hx hb dX9_isInClip_20 (by decide) (fun c_5 => ?_) (fun c_5 => ?_)
      · skip
        have f_6 : cx1.toInt < x.toInt := f_lt rfl rfl c_5
        refine lv_iconst (v := 0) hx hb dX9_isInClip_43 (by decide) ?_
        have hP9 := hP.sub (ws' := [(h0, .inr (9, [.ref m1, .ref m2, .ref m3, .int ik, .int wy, .int op, .int cl, .int cx0, .int cx1, .int cy0, .int cy1, .int ds, .ref m4, .ref m5, .ref m6, .ref m7, .ref m8, .ref m9, .int pn, .ref m10, .ref m11, .ref m12, .ref m13]))]) [0] rfl
        have hD9 := hD.sub (ws' := [(h0, .inr (9, [.ref m1, .ref m2, .ref m3, .int ik, .int wy, .int op, .int cl, .int cx0, .int cx1, .int cy0, .int cy1, .int ds, .ref m4, .ref m5, .ref m6, .ref m7, .ref m8, .ref m9, .int pn, .ref m10, .ref m11, .ref m12, .ref m13]))]) [0] (by decide) rfl
        have hK9 := hK.sub (tys' := []) [] rfl
        refine hQ _ _ _ _ _ ?_
        exact W.zret (v := 0) hx hb hr rfl (fun t ht hW => ⟨⟨0, (), rfl, (if_neg (by omega)).symm, ⟨by rw [ht]; exact hP9, va_K.moved hW.alike hK9, hD9⟩⟩, hS.F ht⟩) hS.2.2 dX9_isInClip_44
      · skip
        have f_6 : ¬ (cx1.toInt < x.toInt) := fn_lt rfl rfl c_5
        refine lv_iload_n hx hb dX9_isInClip_23 rfl (lv_at hl 2 rfl) ?_
        refine lv_aload_n hx hb dX9_isInClip_24 rfl (lv_at hl 0 rfl) ?_
        refine va_get (D := D) (ci := 9) (v := .int cy0) (C := RX9) (T := TX9) (N := 23) hx hb hts hi_X9 hown hK hP 0 rfl rfl 9 (by decide) (hts _ bw_72) (fun _ h9 => h9) rfl dX9_isInClip_25 ?_
        refine lv_icmp_lt (tgt := 43) hx hb dX9_isInClip_28 (by decide) (fun c_7 => ?_) (fun c_7 => ?_)
        · skip
          have f_8 : y.toInt < cy0.toInt := f_lt rfl rfl c_7
          refine lv_iconst (v := 0) hx hb dX9_isInClip_43 (by decide) ?_
          have hP9 := hP.sub (ws' := [(h0, .inr (9, [.ref m1, .ref m2, .ref m3, .int ik, .int wy, .int op, .int cl, .int cx0, .int cx1, .int cy0, .int cy1, .int ds, .ref m4, .ref m5, .ref m6, .ref m7, .ref m8, .ref m9, .int pn, .ref m10, .ref m11, .ref m12, .ref m13]))]) [0] rfl
          have hD9 := hD.sub (ws' := [(h0, .inr (9, [.ref m1, .ref m2, .ref m3, .int ik, .int wy, .int op, .int cl, .int cx0, .int cx1, .int cy0, .int cy1, .int ds, .ref m4, .ref m5, .ref m6, .ref m7, .ref m8, .ref m9, .int pn, .ref m10, .ref m11, .ref m12, .ref m13]))]) [0] (by decide) rfl
          have hK9 := hK.sub (tys' := []) [] rfl
          refine hQ _ _ _ _ _ ?_
          exact W.zret (v := 0) hx hb hr rfl (fun t ht hW => ⟨⟨0, (), rfl, (if_neg (by omega)).symm, ⟨by rw [ht]; exact hP9, va_K.moved hW.alike hK9, hD9⟩⟩, hS.F ht⟩) hS.2.2 dX9_isInClip_44
        · skip
          have f_8 : ¬ (y.toInt < cy0.toInt) := fn_lt rfl rfl c_7
          refine lv_iload_n hx hb dX9_isInClip_31 rfl (lv_at hl 2 rfl) ?_
          refine lv_aload_n hx hb dX9_isInClip_32 rfl (lv_at hl 0 rfl) ?_
          refine va_get (D := D) (ci := 9) (v := .int cy1) (C := RX9) (T := TX9) (N := 23) hx hb hts hi_X9 hown hK hP 0 rfl rfl 10 (by decide) (hts _ bw_73) (fun _ h9 => h9) rfl dX9_isInClip_33 ?_
          refine lv_icmp_gt (tgt := 43) hx hb dX9_isInClip_36 (by decide) (fun c_9 => ?_) (fun c_9 => ?_)
          · skip
            have f_10 : cy1.toInt < y.toInt := f_lt rfl rfl c_9
            refine lv_iconst (v := 0) hx hb dX9_isInClip_43 (by decide) ?_
            have hP9 := hP.sub (ws' := [(h0, .inr (9, [.ref m1, .ref m2, .ref m3, .int ik, .int wy, .int op, .int cl, .int cx0, .int cx1, .int cy0, .int cy1, .int ds, .ref m4, .ref m5, .ref m6, .ref m7, .ref m8, .ref m9, .int pn, .ref m10, .ref m11, .ref m12, .ref m13]))]) [0] rfl
            have hD9 := hD.sub (ws' := [(h0, .inr (9, [.ref m1, .ref m2, .ref m3, .int ik, .int wy, .int op, .int cl, .int cx0, .int cx1, .int cy0, .int cy1, .int ds, .ref m4, .ref m5, .ref m6, .ref m7, .ref m8, .ref m9, .int pn, .ref m10, .ref m11, .ref m12, .ref m13]))]) [0] (by decide) rfl
            have hK9 := hK.sub (tys' := []) [] rfl
            refine hQ _ _ _ _ _ ?_
            exact W.zret (v := 0) hx hb hr rfl (fun t ht hW => ⟨⟨0, (), rfl, (if_neg (by omega)).symm, ⟨by rw [ht]; exact hP9, va_K.moved hW.alike hK9, hD9⟩⟩, hS.F ht⟩) hS.2.2 dX9_isInClip_44
          · skip
            have f_10 : ¬ (cy1.toInt < y.toInt) := fn_lt rfl rfl c_9
            refine lv_iconst (v := 1) hx hb dX9_isInClip_39 (by decide) ?_
            refine lv_goto (tgt := 44) hx hb dX9_isInClip_40 (by decide) ?_
            have hP9 := hP.sub (ws' := [(h0, .inr (9, [.ref m1, .ref m2, .ref m3, .int ik, .int wy, .int op, .int cl, .int cx0, .int cx1, .int cy0, .int cy1, .int ds, .ref m4, .ref m5, .ref m6, .ref m7, .ref m8, .ref m9, .int pn, .ref m10, .ref m11, .ref m12, .ref m13]))]) [0] rfl
            have hD9 := hD.sub (ws' := [(h0, .inr (9, [.ref m1, .ref m2, .ref m3, .int ik, .int wy, .int op, .int cl, .int cx0, .int cx1, .int cy0, .int cy1, .int ds, .ref m4, .ref m5, .ref m6, .ref m7, .ref m8, .ref m9, .int pn, .ref m10, .ref m11, .ref m12, .ref m13]))]) [0] (by decide) rfl
            have hK9 := hK.sub (tys' := []) [] rfl
            refine hQ _ _ _ _ _ ?_
            exact W.zret (v := 1) hx hb hr rfl (fun t ht hW => ⟨⟨1, (), rfl, (if_pos (by omega)).symm, ⟨by rw [ht]; exact hP9, va_K.moved hW.alike hK9, hD9⟩⟩, hS.F ht⟩) hS.2.2 dX9_isInClip_44

set_option maxHeartbeats 4000000 in
set_option maxRecDepth 100000 in
theorem k_X9_isOpen (l : Launch) (D : va_G) (sz : Nat) (h0 m1 m2 m3 m4 m5 m6 m7 m8 m9 m10 m11 m12 m13 : Nat) (ik wy op cl cx0 cx1 cy0 cy1 ds pn : Int32) (gw : Nat → Int32) (gh : Nat → Int32) (k x y : Int32) (cI : ClassId) (hk : 0 ≤ k.toInt ∧ k.toInt ≤ 3) : Met l yX9_isOpen (wB yX9_isOpen cX9_isOpen 4 (some .boolean)) ({ frames := 1, cells := 0, slots := 0, locals := 23 }) (cP D [(h0, .inr (9, [.ref m1, .ref m2, .ref m3, .int ik, .int wy, .int op, .int cl, .int cx0, .int cx1, .int cy0, .int cy1, .int ds, .ref m4, .ref m5, .ref m6, .ref m7, .ref m8, .ref m9, .int pn, .ref m10, .ref m11, .ref m12, .ref m13])), (m1, .inl (cI, 4, .inl gw)), (m2, .inl (cI, 4, .inl gh))] [(cI, .int)] sz [.ref h0, .int k, .int x, .int y]) (va_Qi (fun (r : Int32) (_ : Unit) => r = if (0 ≤ x.toInt ∧ x.toInt < (gw k.toNatClampNeg).toInt ∧ 0 ≤ y.toInt ∧ y.toInt < (gh k.toNatClampNeg).toInt) ∧ (cl.toInt = 0 ∨ (cx0.toInt ≤ x.toInt ∧ x.toInt ≤ cx1.toInt ∧ cy0.toInt ≤ y.toInt ∧ y.toInt ≤ cy1.toInt)) then 1 else 0) (fun (_ : Unit) (t : State) => cB D (va_A [(h0, .inr (9, [.ref m1, .ref m2, .ref m3, .int ik, .int wy, .int op, .int cl, .int cx0, .int cx1, .int cy0, .int cy1, .int ds, .ref m4, .ref m5, .ref m6, .ref m7, .ref m8, .ref m9, .int pn, .ref m10, .ref m11, .ref m12, .ref m13])), (m1, .inl (cI, 4, .inl gw)), (m2, .inl (cI, 4, .inl gh))] sz) [(h0, .inr (9, [.ref m1, .ref m2, .ref m3, .int ik, .int wy, .int op, .int cl, .int cx0, .int cx1, .int cy0, .int cy1, .int ds, .ref m4, .ref m5, .ref m6, .ref m7, .ref m8, .ref m9, .int pn, .ref m10, .ref m11, .ref m12, .ref m13])), (m1, .inl (cI, 4, .inl gw)), (m2, .inl (cI, 4, .inl gh))] [(cI, .int)] t) (va_A [(h0, .inr (9, [.ref m1, .ref m2, .ref m3, .int ik, .int wy, .int op, .int cl, .int cx0, .int cx1, .int cy0, .int cy1, .int ds, .ref m4, .ref m5, .ref m6, .ref m7, .ref m8, .ref m9, .int pn, .ref m10, .ref m11, .ref m12, .ref m13])), (m1, .inl (cI, 4, .inl gw)), (m2, .inl (cI, 4, .inl gh))] sz)) 0 0 (va_A [(h0, .inr (9, [.ref m1, .ref m2, .ref m3, .int ik, .int wy, .int op, .int cl, .int cx0, .int cx1, .int cy0, .int cy1, .int ds, .ref m4, .ref m5, .ref m6, .ref m7, .ref m8, .ref m9, .int pn, .ref m10, .ref m11, .ref m12, .ref m13])), (m1, .inl (cI, 4, .inl gw)), (m2, .inl (cI, 4, .inl gh))] sz) := by
  refine Met.ofW (cc := cX9_isOpen) (maxL := 4) (ret := (some .boolean)) (by decide) rfl ?_
  intro p e s m args below meth c s₁ B hml hv
  obtain ⟨rfl, hsz, hP, hK, hD0, hN⟩ := hv
  have hx := B.exec
  have hb := B.bytes
  have hr := B.returns
  have hts0 := atoms_spec (ws := (wB yX9_isOpen cX9_isOpen 4 (some .boolean))) B.pre
  have hts : ∀ w ∈ bigW, w.before _ s = true := fun w h => hts0 w (List.mem_cons_of_mem _ h)
  have hown : s.vm.findClass RX9 = some m.cls := findClass_of_methodNamed B.named
  have hlocks := B.notSynchronized
  subst hsz
  have hD := hD0.self (sz := s.heap.size)
  generalize hAe : va_A [(h0, .inr (9, [.ref m1, .ref m2, .ref m3, .int ik, .int wy, .int op, .int cl, .int cx0, .int cx1, .int cy0, .int cy1, .int ds, .ref m4, .ref m5, .ref m6, .ref m7, .ref m8, .ref m9, .int pn, .ref m10, .ref m11, .ref m12, .ref m13])), (m1, .inl (cI, 4, .inl gw)), (m2, .inl (cI, 4, .inl gh))] s.heap.size = A at hD ⊢
  have hA : ∀ q : Nat, s.heap.size ≤ q → A q := fun q h => by rw [← hAe]; exact Or.inr h
  have hS : va_S A s.heap s.heap [] := va_S.rf
  have hP : va_P D vwCl [(h0, .inr (9, [.ref m1, .ref m2, .ref m3, .int ik, .int wy, .int op, .int cl, .int cx0, .int cx1, .int cy0, .int cy1, .int ds, .ref m4, .ref m5, .ref m6, .ref m7, .ref m8, .ref m9, .int pn, .ref m10, .ref m11, .ref m12, .ref m13])), (m1, .inl (cI, 4, .inl gw)), (m2, .inl (cI, 4, .inl gh))] s.heap := hP
  have hl := lv_entry ([.ref h0, .int k, .int x, .int y]) (n := 4) (Nat.le_of_ble_eq_true rfl)
  rw [lg_entry_eq]
  generalize (lg_sl ([.ref h0, .int k, .int x, .int y]) ++ List.replicate (4 - (lg_sl ([.ref h0, .int k, .int x, .int y])).length) Slot.unset).toArray = ls at hl ⊢
  have hl : lv_has ls 4 [(0, .ref h0), (1, .int k), (2, .int x), (3, .int y)] := hl
  clear hts0 hD0 hAe
  refine my_abs (fun R Q hR hQ => ?_)
  refine lv_aload_n hx hb dX9_isOpen_0 rfl (lv_at hl 0 rfl) ?_
  refine lv_iload_n hx hb dX9_isOpen_1 rfl (lv_at hl 1 rfl) ?_
  refine lv_iload_n hx hb dX9_isOpen_2 rfl (lv_at hl 2 rfl) ?_
  refine lv_iload_n hx hb dX9_isOpen_3 rfl (lv_at hl 3 rfl) ?_
  have hPc := hP.sub (ws' := [(h0, .inr (9, [.ref m1, .ref m2, .ref m3, .int ik, .int wy, .int op, .int cl, .int cx0, .int cx1, .int cy0, .int cy1, .int ds, .ref m4, .ref m5, .ref m6, .ref m7, .ref m8, .ref m9, .int pn, .ref m10, .ref m11, .ref m12, .ref m13])), (m1, .inl (cI, 4, .inl gw)), (m2, .inl (cI, 4, .inl gh))]) [0, 1, 2] rfl
  have hDc := hD.sub (ws' := [(h0, .inr (9, [.ref m1, .ref m2, .ref m3, .int ik, .int wy, .int op, .int cl, .int cx0, .int cx1, .int cy0, .int cy1, .int ds, .ref m4, .ref m5, .ref m6, .ref m7, .ref m8, .ref m9, .int pn, .ref m10, .ref m11, .ref m12, .ref m13])), (m1, .inl (cI, 4, .inl gw)), (m2, .inl (cI, 4, .inl gh))]) [0, 1, 2] (by decide) rfl
  have hKc := hK.sub (tys' := [(cI, .int)]) [0] rfl
  have hFc := va_free (wc := [(h0, .inr (9, [.ref m1, .ref m2, .ref m3, .int ik, .int wy, .int op, .int cl, .int cx0, .int cx1, .int cy0, .int cy1, .int ds, .ref m4, .ref m5, .ref m6, .ref m7, .ref m8, .ref m9, .int pn, .ref m10, .ref m11, .ref m12, .ref m13])), (m1, .inl (cI, 4, .inl gw)), (m2, .inl (cI, 4, .inl gh))]) hD hS hA [0, 1, 2] rfl
  refine va_calli (va_runV (As := [.int k, .int x, .int y]) (rest := []) ⟨hx, hb, hml, hown, hts⟩ (k_X9_isOn l D s.heap.size h0 m1 m2 m3 m4 m5 m6 m7 m8 m9 m10 m11 m12 m13 ik wy op cl cx0 cx1 cy0 cy1 ds pn gw gh k x y cI (by first | assumption | omega | decide)) (cwV 3 hts (gV bw_75 bw_76 bw_77 bw_61 bw_74) rfl rfl rfl (by decide +kernel) ⟨(by rw [hR]; exact Nat.le_of_ble_eq_true rfl), (by rw [hR]; exact Nat.le_of_ble_eq_true rfl)⟩) ⟨cP_blind, va_recv hKc hPc (ci := 9) (q0 := 0) rfl rfl, cP_at hPc hKc hDc hN⟩ rfl rfl hl.1 rfl (lv_room (Nat.le_of_ble_eq_true rfl)) dX9_isOpen_4 ⟨(by rw [hR]; exact Nat.le_of_ble_eq_true rfl), (by rw [hR]; exact Nat.le_of_ble_eq_true rfl)⟩) hS (fun q _ h => hFc q h) hFc (fun r_1 u9 t9 H1 locs ht hvm hr_1 hB hz1 hk1 hS => ?_)
  try dsimp only at hr_1
  obtain ⟨hP1, hK1, hD1⟩ := hB
  rw [ht] at hP1
  obtain ⟨hP, hD⟩ := va_join (wr := []) (w1 := [(h0, .inr (9, [.ref m1, .ref m2, .ref m3, .int ik, .int wy, .int op, .int cl, .int cx0, .int cx1, .int cy0, .int cy1, .int ds, .ref m4, .ref m5, .ref m6, .ref m7, .ref m8, .ref m9, .int pn, .ref m10, .ref m11, .ref m12, .ref m13])), (m1, .inl (cI, 4, .inl gw)), (m2, .inl (cI, 4, .inl gh))]) hP hD [0, 1, 2] [] rfl rfl (by decide) (by decide) hk1 hFc hP1 hD1
  clear hz1 hk1 hFc hKc hDc hPc
  generalize H1 = H at hP hS ⊢
  have hP : va_P D vwCl [(h0, .inr (9, [.ref m1, .ref m2, .ref m3, .int ik, .int wy, .int op, .int cl, .int cx0, .int cx1, .int cy0, .int cy1, .int ds, .ref m4, .ref m5, .ref m6, .ref m7, .ref m8, .ref m9, .int pn, .ref m10, .ref m11, .ref m12, .ref m13])), (m1, .inl (cI, 4, .inl gw)), (m2, .inl (cI, 4, .inl gh))] H := hP
  have hD : va_D A [(h0, .inr (9, [.ref m1, .ref m2, .ref m3, .int ik, .int wy, .int op, .int cl, .int cx0, .int cx1, .int cy0, .int cy1, .int ds, .ref m4, .ref m5, .ref m6, .ref m7, .ref m8, .ref m9, .int pn, .ref m10, .ref m11, .ref m12, .ref m13])), (m1, .inl (cI, 4, .inl gw)), (m2, .inl (cI, 4, .inl gh))] := hD
  refine lv_if_eq (tgt := 23) hx hb dX9_isOpen_7 (by decide) (fun c_2 => ?_) (fun c_2 => ?_)
  · skip
    have f_3 := bz0 hr_1 c_2
    refine lv_iconst (v := 0) hx hb dX9_isOpen_23 (by decide) ?_
    have hP9 := hP.sub (ws' := [(h0, .inr (9, [.ref m1, .ref m2, .ref m3, .int ik, .int wy, .int op, .int cl, .int cx0, .int cx1, .int cy0, .int cy1, .int ds, .ref m4, .ref m5, .ref m6, .ref m7, .ref m8, .ref m9, .int pn, .ref m10, .ref m11, .ref m12, .ref m13])), (m1, .inl (cI, 4, .inl gw)), (m2, .inl (cI, 4, .inl gh))]) [0, 1, 2] rfl
    have hD9 := hD.sub (ws' := [(h0, .inr (9, [.ref m1, .ref m2, .ref m3, .int ik, .int wy, .int op, .int cl, .int cx0, .int cx1, .int cy0, .int cy1, .int ds, .ref m4, .ref m5, .ref m6, .ref m7, .ref m8, .ref m9, .int pn, .ref m10, .ref m11, .ref m12, .ref m13])), (m1, .inl (cI, 4, .inl gw)), (m2, .inl (cI, 4, .inl gh))]) [0, 1, 2] (by decide) rfl
    have hK9 := hK.sub (tys' := [(cI, .int)]) [0] rfl
    refine hQ _ _ _ _ _ ?_
    exact W.zret (v := 0) hx hb hr rfl (fun t ht hW => ⟨⟨0, (), rfl, (if_neg (by omega)).symm, ⟨by rw [ht]; exact hP9, va_K.moved hW.alike hK9, hD9⟩⟩, hS.F ht⟩) hS.2.2 dX9_isOpen_24
  · skip
    have f_3 := bz1 hr_1 c_2
    refine lv_aload_n hx hb dX9_isOpen_10 rfl (lv_at hl 0 rfl) ?_
    refine lv_iload_n hx hb dX9_isOpen_11 rfl (lv_at hl 2 rfl) ?_
    refine lv_iload_n hx hb dX9_isOpen_12 rfl (lv_at hl 3 rfl) ?_
    have hPc := hP.sub (ws' := [(h0, .inr (9, [.ref m1, .ref m2, .ref m3, .int ik, .int wy, .int op, .int cl, .int cx0, .int cx1, .int cy0, .int cy1, .int ds, .ref m4, .ref m5, .ref m6, .ref m7, .ref m8, .ref m9, .int pn, .ref m10, .ref m11, .ref m12, .ref m13]))]) [0] rfl
    have hDc := hD.sub (ws' := [(h0, .inr (9, [.ref m1, .ref m2, .ref m3, .int ik, .int wy, .int op, .int cl, .int cx0, .int cx1, .int cy0, .int cy1, .int ds, .ref m4, .ref m5, .ref m6, .ref m7, .ref m8, .ref m9, .int pn, .ref m10, .ref m11, .ref m12, .ref m13]))]) [0] (by decide) rfl
    have hKc := hK.sub (tys' := []) [] rfl
    have hFc := va_free (wc := [(h0, .inr (9, [.ref m1, .ref m2, .ref m3, .int ik, .int wy, .int op, .int cl, .int cx0, .int cx1, .int cy0, .int cy1, .int ds, .ref m4, .ref m5, .ref m6, .ref m7, .ref m8, .ref m9, .int pn, .ref m10, .ref m11, .ref m12, .ref m13]))]) hD hS hA [0] rfl
    refine va_calli (va_runV (As := [.int x, .int y]) (rest := []) ⟨hx, hb, hml, hown, hts⟩ (k_X9_isInClip l D H.size h0 m1 m2 m3 m4 m5 m6 m7 m8 m9 m10 m11 m12 m13 ik wy op cl cx0 cx1 cy0 cy1 ds pn x y) (cwV 2 hts (gV bw_79 bw_80 bw_81 bw_61 bw_78) rfl rfl rfl (by decide +kernel) ⟨(by rw [hR]; exact Nat.le_of_ble_eq_true rfl), (by rw [hR]; exact Nat.le_of_ble_eq_true rfl)⟩) ⟨cP_blind, va_recv hKc hPc (ci := 9) (q0 := 0) rfl rfl, cP_at hPc hKc hDc hN⟩ rfl rfl hl.1 rfl (lv_room (Nat.le_of_ble_eq_true rfl)) dX9_isOpen_13 ⟨(by rw [hR]; exact Nat.le_of_ble_eq_true rfl), (by rw [hR]; exact Nat.le_of_ble_eq_true rfl)⟩) hS (fun q _ h => hFc q h) hFc (fun r_4 u9 t9 H1 locs ht hvm hr_4 hB hz1 hk1 hS => ?_)
    try dsimp only at hr_4
    obtain ⟨hP1, hK1, hD1⟩ := hB
    rw [ht] at hP1
    obtain ⟨hP, hD⟩ := va_join (wr := [(m1, .inl (cI, 4, .inl gw)), (m2, .inl (cI, 4, .inl gh))]) (w1 := [(h0, .inr (9, [.ref m1, .ref m2, .ref m3, .int ik, .int wy, .int op, .int cl, .int cx0, .int cx1, .int cy0, .int cy1, .int ds, .ref m4, .ref m5, .ref m6, .ref m7, .ref m8, .ref m9, .int pn, .ref m10, .ref m11, .ref m12, .ref m13]))]) hP hD [0] [1, 2] rfl rfl (by decide) (by decide) hk1 hFc hP1 hD1
    clear hz1 hk1 hFc hKc hDc hPc
    generalize H1 = H at hP hS ⊢
    have hP : va_P D vwCl [(m1, .inl (cI, 4, .inl gw)), (m2, .inl (cI, 4, .inl gh)), (h0, .inr (9, [.ref m1, .ref m2, .ref m3, .int ik, .int wy, .int op, .int cl, .int cx0, .int cx1, .int cy0, .int cy1, .int ds, .ref m4, .ref m5, .ref m6, .ref m7, .ref m8, .ref m9, .int pn, .ref m10, .ref m11, .ref m12, .ref m13]))] H := hP
    have hD : va_D A [(m1, .inl (cI, 4, .inl gw)), (m2, .inl (cI, 4, .inl gh)), (h0, .inr (9, [.ref m1, .ref m2, .ref m3, .int ik, .int wy, .int op, .int cl, .int cx0, .int cx1, .int cy0, .int cy1, .int ds, .ref m4, .ref m5, .ref m6, .ref m7, .ref m8, .ref m9, .int pn, .ref m10, .ref m11, .ref m12, .ref m13]))] := hD
    refine lv_if_eq (tgt := 23) hx hb dX9_isOpen_16 (by decide) (fun c_5 => ?_) (fun c_5 => ?_)
    · skip
      have f_6 := bz0 hr_4 c_5
      refine lv_iconst (v := 0) hx hb dX9_isOpen_23 (by decide) ?_
      have hP9 := hP.sub (ws' := [(h0, .inr (9, [.ref m1, .ref m2, .ref m3, .int ik, .int wy, .int op, .int cl, .int cx0, .int cx1, .int cy0, .int cy1, .int ds, .ref m4, .ref m5, .ref m6, .ref m7, .ref m8, .ref m9, .int pn, .ref m10, .ref m11, .ref m12, .ref m13])), (m1, .inl (cI, 4, .inl gw)), (m2, .inl (cI, 4, .inl gh))]) [2, 0, 1] rfl
      have hD9 := hD.sub (ws' := [(h0, .inr (9, [.ref m1, .ref m2, .ref m3, .int ik, .int wy, .int op, .int cl, .int cx0, .int cx1, .int cy0, .int cy1, .int ds, .ref m4, .ref m5, .ref m6, .ref m7, .ref m8, .ref m9, .int pn, .ref m10, .ref m11, .ref m12, .ref m13])), (m1, .inl (cI, 4, .inl gw)), (m2, .inl (cI, 4, .inl gh))]) [2, 0, 1] (by decide) rfl
      have hK9 := hK.sub (tys' := [(cI, .int)]) [0] rfl
      refine hQ _ _ _ _ _ ?_
      exact W.zret (v := 0) hx hb hr rfl (fun t ht hW => ⟨⟨0, (), rfl, (if_neg (by omega)).symm, ⟨by rw [ht]; exact hP9, va_K.moved hW.alike hK9, hD9⟩⟩, hS.F ht⟩) hS.2.2 dX9_isOpen_24
    · skip
      have f_6 := bz1 hr_4 c_5
      refine lv_iconst (v := 1) hx hb dX9_isOpen_19 (by decide) ?_
      refine lv_goto (tgt := 24) hx hb dX9_isOpen_20 (by decide) ?_
      have hP9 := hP.sub (ws' := [(h0, .inr (9, [.ref m1, .ref m2, .ref m3, .int ik, .int wy, .int op, .int cl, .int cx0, .int cx1, .int cy0, .int cy1, .int ds, .ref m4, .ref m5, .ref m6, .ref m7, .ref m8, .ref m9, .int pn, .ref m10, .ref m11, .ref m12, .ref m13])), (m1, .inl (cI, 4, .inl gw)), (m2, .inl (cI, 4, .inl gh))]) [2, 0, 1] rfl
      have hD9 := hD.sub (ws' := [(h0, .inr (9, [.ref m1, .ref m2, .ref m3, .int ik, .int wy, .int op, .int cl, .int cx0, .int cx1, .int cy0, .int cy1, .int ds, .ref m4, .ref m5, .ref m6, .ref m7, .ref m8, .ref m9, .int pn, .ref m10, .ref m11, .ref m12, .ref m13])), (m1, .inl (cI, 4, .inl gw)), (m2, .inl (cI, 4, .inl gh))]) [2, 0, 1] (by decide) rfl
      have hK9 := hK.sub (tys' := [(cI, .int)]) [0] rfl
      refine hQ _ _ _ _ _ ?_
      exact W.zret (v := 1) hx hb hr rfl (fun t ht hW => ⟨⟨1, (), rfl, (if_pos (by omega)).symm, ⟨by rw [ht]; exact hP9, va_K.moved hW.alike hK9, hD9⟩⟩, hS.F ht⟩) hS.2.2 dX9_isOpen_24

set_option maxHeartbeats 4000000 in
set_option maxRecDepth 100000 in
theorem k_X9_sourcePart (l : Launch) (D : va_G) (sz : Nat) (h0 m1 m2 m3 m4 m5 m6 m7 m8 m9 m10 m11 m12 m13 : Nat) (ik wy op cl cx0 cx1 cy0 cy1 ds pn : Int32) (n d : Int32) (hwy : 0 ≤ wy.toInt ∧ wy.toInt ≤ 12) : Met l yX9_sourcePart (wB yX9_sourcePart cX9_sourcePart 3 (some .int)) ({ frames := 0, cells := 0, slots := 0, locals := 0 }) (cP D [(h0, .inr (9, [.ref m1, .ref m2, .ref m3, .int ik, .int wy, .int op, .int cl, .int cx0, .int cx1, .int cy0, .int cy1, .int ds, .ref m4, .ref m5, .ref m6, .ref m7, .ref m8, .ref m9, .int pn, .ref m10, .ref m11, .ref m12, .ref m13]))] [] sz [.ref h0, .int n, .int d]) (va_Qi (fun (r : Int32) (_ : Unit) => r = wSP wy d) (fun (_ : Unit) (t : State) => cB D (va_A [(h0, .inr (9, [.ref m1, .ref m2, .ref m3, .int ik, .int wy, .int op, .int cl, .int cx0, .int cx1, .int cy0, .int cy1, .int ds, .ref m4, .ref m5, .ref m6, .ref m7, .ref m8, .ref m9, .int pn, .ref m10, .ref m11, .ref m12, .ref m13]))] sz) [(h0, .inr (9, [.ref m1, .ref m2, .ref m3, .int ik, .int wy, .int op, .int cl, .int cx0, .int cx1, .int cy0, .int cy1, .int ds, .ref m4, .ref m5, .ref m6, .ref m7, .ref m8, .ref m9, .int pn, .ref m10, .ref m11, .ref m12, .ref m13]))] [] t) (va_A [(h0, .inr (9, [.ref m1, .ref m2, .ref m3, .int ik, .int wy, .int op, .int cl, .int cx0, .int cx1, .int cy0, .int cy1, .int ds, .ref m4, .ref m5, .ref m6, .ref m7, .ref m8, .ref m9, .int pn, .ref m10, .ref m11, .ref m12, .ref m13]))] sz)) 0 0 (va_A [(h0, .inr (9, [.ref m1, .ref m2, .ref m3, .int ik, .int wy, .int op, .int cl, .int cx0, .int cx1, .int cy0, .int cy1, .int ds, .ref m4, .ref m5, .ref m6, .ref m7, .ref m8, .ref m9, .int pn, .ref m10, .ref m11, .ref m12, .ref m13]))] sz) := by
  refine Met.ofW (cc := cX9_sourcePart) (maxL := 3) (ret := (some .int)) (by decide) rfl ?_
  intro p e s m args below meth c s₁ B hml hv
  obtain ⟨rfl, hsz, hP, hK, hD0, hN⟩ := hv
  have hx := B.exec
  have hb := B.bytes
  have hr := B.returns
  have hts0 := atoms_spec (ws := (wB yX9_sourcePart cX9_sourcePart 3 (some .int))) B.pre
  have hts : ∀ w ∈ bigW, w.before _ s = true := fun w h => hts0 w (List.mem_cons_of_mem _ h)
  have hown : s.vm.findClass RX9 = some m.cls := findClass_of_methodNamed B.named
  have hlocks := B.notSynchronized
  subst hsz
  have hD := hD0.self (sz := s.heap.size)
  generalize hAe : va_A [(h0, .inr (9, [.ref m1, .ref m2, .ref m3, .int ik, .int wy, .int op, .int cl, .int cx0, .int cx1, .int cy0, .int cy1, .int ds, .ref m4, .ref m5, .ref m6, .ref m7, .ref m8, .ref m9, .int pn, .ref m10, .ref m11, .ref m12, .ref m13]))] s.heap.size = A at hD ⊢
  have hA : ∀ q : Nat, s.heap.size ≤ q → A q := fun q h => by rw [← hAe]; exact Or.inr h
  have hS : va_S A s.heap s.heap [] := va_S.rf
  have hP : va_P D vwCl [(h0, .inr (9, [.ref m1, .ref m2, .ref m3, .int ik, .int wy, .int op, .int cl, .int cx0, .int cx1, .int cy0, .int cy1, .int ds, .ref m4, .ref m5, .ref m6, .ref m7, .ref m8, .ref m9, .int pn, .ref m10, .ref m11, .ref m12, .ref m13]))] s.heap := hP
  have hl := lv_entry ([.ref h0, .int n, .int d]) (n := 3) (Nat.le_of_ble_eq_true rfl)
  rw [lg_entry_eq]
  generalize (lg_sl ([.ref h0, .int n, .int d]) ++ List.replicate (3 - (lg_sl ([.ref h0, .int n, .int d])).length) Slot.unset).toArray = ls at hl ⊢
  have hl : lv_has ls 3 [(0, .ref h0), (1, .int n), (2, .int d)] := hl
  clear hts0 hD0 hAe
  refine my_abs (fun R Q hR hQ => ?_)
  refine lv_aload_n hx hb dX9_sourcePart_0 rfl (lv_at hl 0 rfl) ?_
  refine va_get (D := D) (ci := 9) (v := .int wy) (C := RX9) (T := TX9) (N := 23) hx hb hts hi_X9 hown hK hP 0 rfl rfl 4 (by decide) (hts _ bw_82) (fun _ h9 => h9) rfl dX9_sourcePart_1 ?_
  obtain ⟨j, hj, ej⟩ := i_of (x := wy) (N := 13) (by omega) (by omega) (by decide)
  subst ej
  rcases (show j = 0 ∨ j = 1 ∨ j = 2 ∨ j = 3 ∨ j = 4 ∨ j = 5 ∨ j = 6 ∨ j = 7 ∨ j = 8 ∨ j = 9 ∨ j = 10 ∨ j = 11 ∨ j = 12 by omega) with rfl | rfl | rfl | rfl | rfl | rfl | rfl | rfl | rfl | rfl | rfl | rfl | rfl
  · skip
    refine lv_tableOut (tgt := 80) hx hb dX9_sourcePart_4 (by decide) (by decide) ?_
    refine lv_iconst (v := 0) hx hb dX9_sourcePart_80 (by decide) ?_
    have hP9 := hP.sub (ws' := [(h0, .inr (9, [.ref m1, .ref m2, .ref m3, .int ik, .int (nI 0), .int op, .int cl, .int cx0, .int cx1, .int cy0, .int cy1, .int ds, .ref m4, .ref m5, .ref m6, .ref m7, .ref m8, .ref m9, .int pn, .ref m10, .ref m11, .ref m12, .ref m13]))]) [0] rfl
    have hD9 := hD.sub (ws' := [(h0, .inr (9, [.ref m1, .ref m2, .ref m3, .int ik, .int (nI 0), .int op, .int cl, .int cx0, .int cx1, .int cy0, .int cy1, .int ds, .ref m4, .ref m5, .ref m6, .ref m7, .ref m8, .ref m9, .int pn, .ref m10, .ref m11, .ref m12, .ref m13]))]) [0] (by decide) rfl
    have hK9 := hK.sub (tys' := []) [] rfl
    refine hQ _ _ _ _ _ ?_
    exact W.iret (v := 0) hx hb hr (fun t ht hW => ⟨⟨0, (), rfl, (by subst_vars; rfl), ⟨by rw [ht]; exact hP9, va_K.moved hW.alike hK9, hD9⟩⟩, hS.F ht⟩) hS.2.2 dX9_sourcePart_81
  · skip
    refine lv_tableIn (off := 64) (tgt := 68) hx hb dX9_sourcePart_4 (by decide) (by decide) rfl (by decide) ?_
    refine lv_sipush (v := 255) hx hb dX9_sourcePart_68 (by decide) ?_
    have hP9 := hP.sub (ws' := [(h0, .inr (9, [.ref m1, .ref m2, .ref m3, .int ik, .int (nI 1), .int op, .int cl, .int cx0, .int cx1, .int cy0, .int cy1, .int ds, .ref m4, .ref m5, .ref m6, .ref m7, .ref m8, .ref m9, .int pn, .ref m10, .ref m11, .ref m12, .ref m13]))]) [0] rfl
    have hD9 := hD.sub (ws' := [(h0, .inr (9, [.ref m1, .ref m2, .ref m3, .int ik, .int (nI 1), .int op, .int cl, .int cx0, .int cx1, .int cy0, .int cy1, .int ds, .ref m4, .ref m5, .ref m6, .ref m7, .ref m8, .ref m9, .int pn, .ref m10, .ref m11, .ref m12, .ref m13]))]) [0] (by decide) rfl
    have hK9 := hK.sub (tys' := []) [] rfl
    refine hQ _ _ _ _ _ ?_
    exact W.iret (v := 255) hx hb hr (fun t ht hW => ⟨⟨255, (), rfl, (by subst_vars; rfl), ⟨by rw [ht]; exact hP9, va_K.moved hW.alike hK9, hD9⟩⟩, hS.F ht⟩) hS.2.2 dX9_sourcePart_71
  · skip
    refine lv_tableIn (off := 76) (tgt := 80) hx hb dX9_sourcePart_4 (by decide) (by decide) rfl (by decide) ?_
    refine lv_iconst (v := 0) hx hb dX9_sourcePart_80 (by decide) ?_
    have hP9 := hP.sub (ws' := [(h0, .inr (9, [.ref m1, .ref m2, .ref m3, .int ik, .int (nI 2), .int op, .int cl, .int cx0, .int cx1, .int cy0, .int cy1, .int ds, .ref m4, .ref m5, .ref m6, .ref m7, .ref m8, .ref m9, .int pn, .ref m10, .ref m11, .ref m12, .ref m13]))]) [0] rfl
    have hD9 := hD.sub (ws' := [(h0, .inr (9, [.ref m1, .ref m2, .ref m3, .int ik, .int (nI 2), .int op, .int cl, .int cx0, .int cx1, .int cy0, .int cy1, .int ds, .ref m4, .ref m5, .ref m6, .ref m7, .ref m8, .ref m9, .int pn, .ref m10, .ref m11, .ref m12, .ref m13]))]) [0] (by decide) rfl
    have hK9 := hK.sub (tys' := []) [] rfl
    refine hQ _ _ _ _ _ ?_
    exact W.iret (v := 0) hx hb hr (fun t ht hW => ⟨⟨0, (), rfl, (by subst_vars; rfl), ⟨by rw [ht]; exact hP9, va_K.moved hW.alike hK9, hD9⟩⟩, hS.F ht⟩) hS.2.2 dX9_sourcePart_81
  · skip
    refine lv_tableIn (off := 64) (tgt := 68) hx hb dX9_sourcePart_4 (by decide) (by decide) rfl (by decide) ?_
    refine lv_sipush (v := 255) hx hb dX9_sourcePart_68 (by decide) ?_
    have hP9 := hP.sub (ws' := [(h0, .inr (9, [.ref m1, .ref m2, .ref m3, .int ik, .int (nI 3), .int op, .int cl, .int cx0, .int cx1, .int cy0, .int cy1, .int ds, .ref m4, .ref m5, .ref m6, .ref m7, .ref m8, .ref m9, .int pn, .ref m10, .ref m11, .ref m12, .ref m13]))]) [0] rfl
    have hD9 := hD.sub (ws' := [(h0, .inr (9, [.ref m1, .ref m2, .ref m3, .int ik, .int (nI 3), .int op, .int cl, .int cx0, .int cx1, .int cy0, .int cy1, .int ds, .ref m4, .ref m5, .ref m6, .ref m7, .ref m8, .ref m9, .int pn, .ref m10, .ref m11, .ref m12, .ref m13]))]) [0] (by decide) rfl
    have hK9 := hK.sub (tys' := []) [] rfl
    refine hQ _ _ _ _ _ ?_
    exact W.iret (v := 255) hx hb hr (fun t ht hW => ⟨⟨255, (), rfl, (by subst_vars; rfl), ⟨by rw [ht]; exact hP9, va_K.moved hW.alike hK9, hD9⟩⟩, hS.F ht⟩) hS.2.2 dX9_sourcePart_71
  · skip
    refine lv_tableIn (off := 68) (tgt := 72) hx hb dX9_sourcePart_4 (by decide) (by decide) rfl (by decide) ?_
    refine lv_sipush (v := 255) hx hb dX9_sourcePart_72 (by decide) ?_
    refine lv_iload_n hx hb dX9_sourcePart_75 rfl (lv_at hl 2 rfl) ?_
    refine lv_isub hx hb dX9_sourcePart_76 ?_
    refine lv_topi (fun y_1 ey_1 => ?_)
    have hP9 := hP.sub (ws' := [(h0, .inr (9, [.ref m1, .ref m2, .ref m3, .int ik, .int (nI 4), .int op, .int cl, .int cx0, .int cx1, .int cy0, .int cy1, .int ds, .ref m4, .ref m5, .ref m6, .ref m7, .ref m8, .ref m9, .int pn, .ref m10, .ref m11, .ref m12, .ref m13]))]) [0] rfl
    have hD9 := hD.sub (ws' := [(h0, .inr (9, [.ref m1, .ref m2, .ref m3, .int ik, .int (nI 4), .int op, .int cl, .int cx0, .int cx1, .int cy0, .int cy1, .int ds, .ref m4, .ref m5, .ref m6, .ref m7, .ref m8, .ref m9, .int pn, .ref m10, .ref m11, .ref m12, .ref m13]))]) [0] (by decide) rfl
    have hK9 := hK.sub (tys' := []) [] rfl
    refine hQ _ _ _ _ _ ?_
    exact W.iret (v := y_1) hx hb hr (fun t ht hW => ⟨⟨y_1, (), rfl, (by subst_vars; rfl), ⟨by rw [ht]; exact hP9, va_K.moved hW.alike hK9, hD9⟩⟩, hS.F ht⟩) hS.2.2 dX9_sourcePart_77
  · skip
    refine lv_tableIn (off := 74) (tgt := 78) hx hb dX9_sourcePart_4 (by decide) (by decide) rfl (by decide) ?_
    refine lv_iload_n hx hb dX9_sourcePart_78 rfl (lv_at hl 2 rfl) ?_
    have hP9 := hP.sub (ws' := [(h0, .inr (9, [.ref m1, .ref m2, .ref m3, .int ik, .int (nI 5), .int op, .int cl, .int cx0, .int cx1, .int cy0, .int cy1, .int ds, .ref m4, .ref m5, .ref m6, .ref m7, .ref m8, .ref m9, .int pn, .ref m10, .ref m11, .ref m12, .ref m13]))]) [0] rfl
    have hD9 := hD.sub (ws' := [(h0, .inr (9, [.ref m1, .ref m2, .ref m3, .int ik, .int (nI 5), .int op, .int cl, .int cx0, .int cx1, .int cy0, .int cy1, .int ds, .ref m4, .ref m5, .ref m6, .ref m7, .ref m8, .ref m9, .int pn, .ref m10, .ref m11, .ref m12, .ref m13]))]) [0] (by decide) rfl
    have hK9 := hK.sub (tys' := []) [] rfl
    refine hQ _ _ _ _ _ ?_
    exact W.iret (v := d) hx hb hr (fun t ht hW => ⟨⟨d, (), rfl, (by subst_vars; rfl), ⟨by rw [ht]; exact hP9, va_K.moved hW.alike hK9, hD9⟩⟩, hS.F ht⟩) hS.2.2 dX9_sourcePart_79
  · skip
    refine lv_tableIn (off := 76) (tgt := 80) hx hb dX9_sourcePart_4 (by decide) (by decide) rfl (by decide) ?_
    refine lv_iconst (v := 0) hx hb dX9_sourcePart_80 (by decide) ?_
    have hP9 := hP.sub (ws' := [(h0, .inr (9, [.ref m1, .ref m2, .ref m3, .int ik, .int (nI 6), .int op, .int cl, .int cx0, .int cx1, .int cy0, .int cy1, .int ds, .ref m4, .ref m5, .ref m6, .ref m7, .ref m8, .ref m9, .int pn, .ref m10, .ref m11, .ref m12, .ref m13]))]) [0] rfl
    have hD9 := hD.sub (ws' := [(h0, .inr (9, [.ref m1, .ref m2, .ref m3, .int ik, .int (nI 6), .int op, .int cl, .int cx0, .int cx1, .int cy0, .int cy1, .int ds, .ref m4, .ref m5, .ref m6, .ref m7, .ref m8, .ref m9, .int pn, .ref m10, .ref m11, .ref m12, .ref m13]))]) [0] (by decide) rfl
    have hK9 := hK.sub (tys' := []) [] rfl
    refine hQ _ _ _ _ _ ?_
    exact W.iret (v := 0) hx hb hr (fun t ht hW => ⟨⟨0, (), rfl, (by subst_vars; rfl), ⟨by rw [ht]; exact hP9, va_K.moved hW.alike hK9, hD9⟩⟩, hS.F ht⟩) hS.2.2 dX9_sourcePart_81
  · skip
    refine lv_tableIn (off := 68) (tgt := 72) hx hb dX9_sourcePart_4 (by decide) (by decide) rfl (by decide) ?_
    refine lv_sipush (v := 255) hx hb dX9_sourcePart_72 (by decide) ?_
    refine lv_iload_n hx hb dX9_sourcePart_75 rfl (lv_at hl 2 rfl) ?_
    refine lv_isub hx hb dX9_sourcePart_76 ?_
    refine lv_topi (fun y_2 ey_2 => ?_)
    have hP9 := hP.sub (ws' := [(h0, .inr (9, [.ref m1, .ref m2, .ref m3, .int ik, .int (nI 7), .int op, .int cl, .int cx0, .int cx1, .int cy0, .int cy1, .int ds, .ref m4, .ref m5, .ref m6, .ref m7, .ref m8, .ref m9, .int pn, .ref m10, .ref m11, .ref m12, .ref m13]))]) [0] rfl
    have hD9 := hD.sub (ws' := [(h0, .inr (9, [.ref m1, .ref m2, .ref m3, .int ik, .int (nI 7), .int op, .int cl, .int cx0, .int cx1, .int cy0, .int cy1, .int ds, .ref m4, .ref m5, .ref m6, .ref m7, .ref m8, .ref m9, .int pn, .ref m10, .ref m11, .ref m12, .ref m13]))]) [0] (by decide) rfl
    have hK9 := hK.sub (tys' := []) [] rfl
    refine hQ _ _ _ _ _ ?_
    exact W.iret (v := y_2) hx hb hr (fun t ht hW => ⟨⟨y_2, (), rfl, (by subst_vars; rfl), ⟨by rw [ht]; exact hP9, va_K.moved hW.alike hK9, hD9⟩⟩, hS.F ht⟩) hS.2.2 dX9_sourcePart_77
  · skip
    refine lv_tableIn (off := 76) (tgt := 80) hx hb dX9_sourcePart_4 (by decide) (by decide) rfl (by decide) ?_
    refine lv_iconst (v := 0) hx hb dX9_sourcePart_80 (by decide) ?_
    have hP9 := hP.sub (ws' := [(h0, .inr (9, [.ref m1, .ref m2, .ref m3, .int ik, .int (nI 8), .int op, .int cl, .int cx0, .int cx1, .int cy0, .int cy1, .int ds, .ref m4, .ref m5, .ref m6, .ref m7, .ref m8, .ref m9, .int pn, .ref m10, .ref m11, .ref m12, .ref m13]))]) [0] rfl
    have hD9 := hD.sub (ws' := [(h0, .inr (9, [.ref m1, .ref m2, .ref m3, .int ik, .int (nI 8), .int op, .int cl, .int cx0, .int cx1, .int cy0, .int cy1, .int ds, .ref m4, .ref m5, .ref m6, .ref m7, .ref m8, .ref m9, .int pn, .ref m10, .ref m11, .ref m12, .ref m13]))]) [0] (by decide) rfl
    have hK9 := hK.sub (tys' := []) [] rfl
    refine hQ _ _ _ _ _ ?_
    exact W.iret (v := 0) hx hb hr (fun t ht hW => ⟨⟨0, (), rfl, (by subst_vars; rfl), ⟨by rw [ht]; exact hP9, va_K.moved hW.alike hK9, hD9⟩⟩, hS.F ht⟩) hS.2.2 dX9_sourcePart_81
  · skip
    refine lv_tableIn (off := 74) (tgt := 78) hx hb dX9_sourcePart_4 (by decide) (by decide) rfl (by decide) ?_
    refine lv_iload_n hx hb dX9_sourcePart_78 rfl (lv_at hl 2 rfl) ?_
    have hP9 := hP.sub (ws' := [(h0, .inr (9, [.ref m1, .ref m2, .ref m3, .int ik, .int (nI 9), .int op, .int cl, .int cx0, .int cx1, .int cy0, .int cy1, .int ds, .ref m4, .ref m5, .ref m6, .ref m7, .ref m8, .ref m9, .int pn, .ref m10, .ref m11, .ref m12, .ref m13]))]) [0] rfl
    have hD9 := hD.sub (ws' := [(h0, .inr (9, [.ref m1, .ref m2, .ref m3, .int ik, .int (nI 9), .int op, .int cl, .int cx0, .int cx1, .int cy0, .int cy1, .int ds, .ref m4, .ref m5, .ref m6, .ref m7, .ref m8, .ref m9, .int pn, .ref m10, .ref m11, .ref m12, .ref m13]))]) [0] (by decide) rfl
    have hK9 := hK.sub (tys' := []) [] rfl
    refine hQ _ _ _ _ _ ?_
    exact W.iret (v := d) hx hb hr (fun t ht hW => ⟨⟨d, (), rfl, (by subst_vars; rfl), ⟨by rw [ht]; exact hP9, va_K.moved hW.alike hK9, hD9⟩⟩, hS.F ht⟩) hS.2.2 dX9_sourcePart_79
  · skip
    refine lv_tableIn (off := 68) (tgt := 72) hx hb dX9_sourcePart_4 (by decide) (by decide) rfl (by decide) ?_
    refine lv_sipush (v := 255) hx hb dX9_sourcePart_72 (by decide) ?_
    refine lv_iload_n hx hb dX9_sourcePart_75 rfl (lv_at hl 2 rfl) ?_
    refine lv_isub hx hb dX9_sourcePart_76 ?_
    refine lv_topi (fun y_3 ey_3 => ?_)
    have hP9 := hP.sub (ws' := [(h0, .inr (9, [.ref m1, .ref m2, .ref m3, .int ik, .int (nI 10), .int op, .int cl, .int cx0, .int cx1, .int cy0, .int cy1, .int ds, .ref m4, .ref m5, .ref m6, .ref m7, .ref m8, .ref m9, .int pn, .ref m10, .ref m11, .ref m12, .ref m13]))]) [0] rfl
    have hD9 := hD.sub (ws' := [(h0, .inr (9, [.ref m1, .ref m2, .ref m3, .int ik, .int (nI 10), .int op, .int cl, .int cx0, .int cx1, .int cy0, .int cy1, .int ds, .ref m4, .ref m5, .ref m6, .ref m7, .ref m8, .ref m9, .int pn, .ref m10, .ref m11, .ref m12, .ref m13]))]) [0] (by decide) rfl
    have hK9 := hK.sub (tys' := []) [] rfl
    refine hQ _ _ _ _ _ ?_
    exact W.iret (v := y_3) hx hb hr (fun t ht hW => ⟨⟨y_3, (), rfl, (by subst_vars; rfl), ⟨by rw [ht]; exact hP9, va_K.moved hW.alike hK9, hD9⟩⟩, hS.F ht⟩) hS.2.2 dX9_sourcePart_77
  · skip
    refine lv_tableIn (off := 68) (tgt := 72) hx hb dX9_sourcePart_4 (by decide) (by decide) rfl (by decide) ?_
    refine lv_sipush (v := 255) hx hb dX9_sourcePart_72 (by decide) ?_
    refine lv_iload_n hx hb dX9_sourcePart_75 rfl (lv_at hl 2 rfl) ?_
    refine lv_isub hx hb dX9_sourcePart_76 ?_
    refine lv_topi (fun y_4 ey_4 => ?_)
    have hP9 := hP.sub (ws' := [(h0, .inr (9, [.ref m1, .ref m2, .ref m3, .int ik, .int (nI 11), .int op, .int cl, .int cx0, .int cx1, .int cy0, .int cy1, .int ds, .ref m4, .ref m5, .ref m6, .ref m7, .ref m8, .ref m9, .int pn, .ref m10, .ref m11, .ref m12, .ref m13]))]) [0] rfl
    have hD9 := hD.sub (ws' := [(h0, .inr (9, [.ref m1, .ref m2, .ref m3, .int ik, .int (nI 11), .int op, .int cl, .int cx0, .int cx1, .int cy0, .int cy1, .int ds, .ref m4, .ref m5, .ref m6, .ref m7, .ref m8, .ref m9, .int pn, .ref m10, .ref m11, .ref m12, .ref m13]))]) [0] (by decide) rfl
    have hK9 := hK.sub (tys' := []) [] rfl
    refine hQ _ _ _ _ _ ?_
    exact W.iret (v := y_4) hx hb hr (fun t ht hW => ⟨⟨y_4, (), rfl, (by subst_vars; rfl), ⟨by rw [ht]; exact hP9, va_K.moved hW.alike hK9, hD9⟩⟩, hS.F ht⟩) hS.2.2 dX9_sourcePart_77
  · skip
    refine lv_tableIn (off := 64) (tgt := 68) hx hb dX9_sourcePart_4 (by decide) (by decide) rfl (by decide) ?_
    refine lv_sipush (v := 255) hx hb dX9_sourcePart_68 (by decide) ?_
    have hP9 := hP.sub (ws' := [(h0, .inr (9, [.ref m1, .ref m2, .ref m3, .int ik, .int (nI 12), .int op, .int cl, .int cx0, .int cx1, .int cy0, .int cy1, .int ds, .ref m4, .ref m5, .ref m6, .ref m7, .ref m8, .ref m9, .int pn, .ref m10, .ref m11, .ref m12, .ref m13]))]) [0] rfl
    have hD9 := hD.sub (ws' := [(h0, .inr (9, [.ref m1, .ref m2, .ref m3, .int ik, .int (nI 12), .int op, .int cl, .int cx0, .int cx1, .int cy0, .int cy1, .int ds, .ref m4, .ref m5, .ref m6, .ref m7, .ref m8, .ref m9, .int pn, .ref m10, .ref m11, .ref m12, .ref m13]))]) [0] (by decide) rfl
    have hK9 := hK.sub (tys' := []) [] rfl
    refine hQ _ _ _ _ _ ?_
    exact W.iret (v := 255) hx hb hr (fun t ht hW => ⟨⟨255, (), rfl, (by subst_vars; rfl), ⟨by rw [ht]; exact hP9, va_K.moved hW.alike hK9, hD9⟩⟩, hS.F ht⟩) hS.2.2 dX9_sourcePart_71

set_option maxHeartbeats 4000000 in
set_option maxRecDepth 100000 in
theorem k_X9_otherPart (l : Launch) (D : va_G) (sz : Nat) (h0 m1 m2 m3 m4 m5 m6 m7 m8 m9 m10 m11 m12 m13 : Nat) (ik wy op cl cx0 cx1 cy0 cy1 ds pn : Int32) (n d : Int32) (hwy : 0 ≤ wy.toInt ∧ wy.toInt ≤ 12) : Met l yX9_otherPart (wB yX9_otherPart cX9_otherPart 3 (some .int)) ({ frames := 0, cells := 0, slots := 0, locals := 0 }) (cP D [(h0, .inr (9, [.ref m1, .ref m2, .ref m3, .int ik, .int wy, .int op, .int cl, .int cx0, .int cx1, .int cy0, .int cy1, .int ds, .ref m4, .ref m5, .ref m6, .ref m7, .ref m8, .ref m9, .int pn, .ref m10, .ref m11, .ref m12, .ref m13]))] [] sz [.ref h0, .int n, .int d]) (va_Qi (fun (r : Int32) (_ : Unit) => r = wTP wy n) (fun (_ : Unit) (t : State) => cB D (va_A [(h0, .inr (9, [.ref m1, .ref m2, .ref m3, .int ik, .int wy, .int op, .int cl, .int cx0, .int cx1, .int cy0, .int cy1, .int ds, .ref m4, .ref m5, .ref m6, .ref m7, .ref m8, .ref m9, .int pn, .ref m10, .ref m11, .ref m12, .ref m13]))] sz) [(h0, .inr (9, [.ref m1, .ref m2, .ref m3, .int ik, .int wy, .int op, .int cl, .int cx0, .int cx1, .int cy0, .int cy1, .int ds, .ref m4, .ref m5, .ref m6, .ref m7, .ref m8, .ref m9, .int pn, .ref m10, .ref m11, .ref m12, .ref m13]))] [] t) (va_A [(h0, .inr (9, [.ref m1, .ref m2, .ref m3, .int ik, .int wy, .int op, .int cl, .int cx0, .int cx1, .int cy0, .int cy1, .int ds, .ref m4, .ref m5, .ref m6, .ref m7, .ref m8, .ref m9, .int pn, .ref m10, .ref m11, .ref m12, .ref m13]))] sz)) 0 0 (va_A [(h0, .inr (9, [.ref m1, .ref m2, .ref m3, .int ik, .int wy, .int op, .int cl, .int cx0, .int cx1, .int cy0, .int cy1, .int ds, .ref m4, .ref m5, .ref m6, .ref m7, .ref m8, .ref m9, .int pn, .ref m10, .ref m11, .ref m12, .ref m13]))] sz) := by
  refine Met.ofW (cc := cX9_otherPart) (maxL := 3) (ret := (some .int)) (by decide) rfl ?_
  intro p e s m args below meth c s₁ B hml hv
  obtain ⟨rfl, hsz, hP, hK, hD0, hN⟩ := hv
  have hx := B.exec
  have hb := B.bytes
  have hr := B.returns
  have hts0 := atoms_spec (ws := (wB yX9_otherPart cX9_otherPart 3 (some .int))) B.pre
  have hts : ∀ w ∈ bigW, w.before _ s = true := fun w h => hts0 w (List.mem_cons_of_mem _ h)
  have hown : s.vm.findClass RX9 = some m.cls := findClass_of_methodNamed B.named
  have hlocks := B.notSynchronized
  subst hsz
  have hD := hD0.self (sz := s.heap.size)
  generalize hAe : va_A [(h0, .inr (9, [.ref m1, .ref m2, .ref m3, .int ik, .int wy, .int op, .int cl, .int cx0, .int cx1, .int cy0, .int cy1, .int ds, .ref m4, .ref m5, .ref m6, .ref m7, .ref m8, .ref m9, .int pn, .ref m10, .ref m11, .ref m12, .ref m13]))] s.heap.size = A at hD ⊢
  have hA : ∀ q : Nat, s.heap.size ≤ q → A q := fun q h => by rw [← hAe]; exact Or.inr h
  have hS : va_S A s.heap s.heap [] := va_S.rf
  have hP : va_P D vwCl [(h0, .inr (9, [.ref m1, .ref m2, .ref m3, .int ik, .int wy, .int op, .int cl, .int cx0, .int cx1, .int cy0, .int cy1, .int ds, .ref m4, .ref m5, .ref m6, .ref m7, .ref m8, .ref m9, .int pn, .ref m10, .ref m11, .ref m12, .ref m13]))] s.heap := hP
  have hl := lv_entry ([.ref h0, .int n, .int d]) (n := 3) (Nat.le_of_ble_eq_true rfl)
  rw [lg_entry_eq]
  generalize (lg_sl ([.ref h0, .int n, .int d]) ++ List.replicate (3 - (lg_sl ([.ref h0, .int n, .int d])).length) Slot.unset).toArray = ls at hl ⊢
  have hl : lv_has ls 3 [(0, .ref h0), (1, .int n), (2, .int d)] := hl
  clear hts0 hD0 hAe
  refine my_abs (fun R Q hR hQ => ?_)
  refine lv_aload_n hx hb dX9_otherPart_0 rfl (lv_at hl 0 rfl) ?_
  refine va_get (D := D) (ci := 9) (v := .int wy) (C := RX9) (T := TX9) (N := 23) hx hb hts hi_X9 hown hK hP 0 rfl rfl 4 (by decide) (hts _ bw_82) (fun _ h9 => h9) rfl dX9_otherPart_1 ?_
  obtain ⟨j, hj, ej⟩ := i_of (x := wy) (N := 13) (by omega) (by omega) (by decide)
  subst ej
  rcases (show j = 0 ∨ j = 1 ∨ j = 2 ∨ j = 3 ∨ j = 4 ∨ j = 5 ∨ j = 6 ∨ j = 7 ∨ j = 8 ∨ j = 9 ∨ j = 10 ∨ j = 11 ∨ j = 12 by omega) with rfl | rfl | rfl | rfl | rfl | rfl | rfl | rfl | rfl | rfl | rfl | rfl | rfl
  · skip
    refine lv_tableOut (tgt := 76) hx hb dX9_otherPart_4 (by decide) (by decide) ?_
    refine lv_iconst (v := 0) hx hb dX9_otherPart_76 (by decide) ?_
    have hP9 := hP.sub (ws' := [(h0, .inr (9, [.ref m1, .ref m2, .ref m3, .int ik, .int (nI 0), .int op, .int cl, .int cx0, .int cx1, .int cy0, .int cy1, .int ds, .ref m4, .ref m5, .ref m6, .ref m7, .ref m8, .ref m9, .int pn, .ref m10, .ref m11, .ref m12, .ref m13]))]) [0] rfl
    have hD9 := hD.sub (ws' := [(h0, .inr (9, [.ref m1, .ref m2, .ref m3, .int ik, .int (nI 0), .int op, .int cl, .int cx0, .int cx1, .int cy0, .int cy1, .int ds, .ref m4, .ref m5, .ref m6, .ref m7, .ref m8, .ref m9, .int pn, .ref m10, .ref m11, .ref m12, .ref m13]))]) [0] (by decide) rfl
    have hK9 := hK.sub (tys' := []) [] rfl
    refine hQ _ _ _ _ _ ?_
    exact W.iret (v := 0) hx hb hr (fun t ht hW => ⟨⟨0, (), rfl, (by subst_vars; rfl), ⟨by rw [ht]; exact hP9, va_K.moved hW.alike hK9, hD9⟩⟩, hS.F ht⟩) hS.2.2 dX9_otherPart_77
  · skip
    refine lv_tableOut (tgt := 76) hx hb dX9_otherPart_4 (by decide) (by decide) ?_
    refine lv_iconst (v := 0) hx hb dX9_otherPart_76 (by decide) ?_
    have hP9 := hP.sub (ws' := [(h0, .inr (9, [.ref m1, .ref m2, .ref m3, .int ik, .int (nI 1), .int op, .int cl, .int cx0, .int cx1, .int cy0, .int cy1, .int ds, .ref m4, .ref m5, .ref m6, .ref m7, .ref m8, .ref m9, .int pn, .ref m10, .ref m11, .ref m12, .ref m13]))]) [0] rfl
    have hD9 := hD.sub (ws' := [(h0, .inr (9, [.ref m1, .ref m2, .ref m3, .int ik, .int (nI 1), .int op, .int cl, .int cx0, .int cx1, .int cy0, .int cy1, .int ds, .ref m4, .ref m5, .ref m6, .ref m7, .ref m8, .ref m9, .int pn, .ref m10, .ref m11, .ref m12, .ref m13]))]) [0] (by decide) rfl
    have hK9 := hK.sub (tys' := []) [] rfl
    refine hQ _ _ _ _ _ ?_
    exact W.iret (v := 0) hx hb hr (fun t ht hW => ⟨⟨0, (), rfl, (by subst_vars; rfl), ⟨by rw [ht]; exact hP9, va_K.moved hW.alike hK9, hD9⟩⟩, hS.F ht⟩) hS.2.2 dX9_otherPart_77
  · skip
    refine lv_tableIn (off := 60) (tgt := 64) hx hb dX9_otherPart_4 (by decide) (by decide) rfl (by decide) ?_
    refine lv_sipush (v := 255) hx hb dX9_otherPart_64 (by decide) ?_
    have hP9 := hP.sub (ws' := [(h0, .inr (9, [.ref m1, .ref m2, .ref m3, .int ik, .int (nI 2), .int op, .int cl, .int cx0, .int cx1, .int cy0, .int cy1, .int ds, .ref m4, .ref m5, .ref m6, .ref m7, .ref m8, .ref m9, .int pn, .ref m10, .ref m11, .ref m12, .ref m13]))]) [0] rfl
    have hD9 := hD.sub (ws' := [(h0, .inr (9, [.ref m1, .ref m2, .ref m3, .int ik, .int (nI 2), .int op, .int cl, .int cx0, .int cx1, .int cy0, .int cy1, .int ds, .ref m4, .ref m5, .ref m6, .ref m7, .ref m8, .ref m9, .int pn, .ref m10, .ref m11, .ref m12, .ref m13]))]) [0] (by decide) rfl
    have hK9 := hK.sub (tys' := []) [] rfl
    refine hQ _ _ _ _ _ ?_
    exact W.iret (v := 255) hx hb hr (fun t ht hW => ⟨⟨255, (), rfl, (by subst_vars; rfl), ⟨by rw [ht]; exact hP9, va_K.moved hW.alike hK9, hD9⟩⟩, hS.F ht⟩) hS.2.2 dX9_otherPart_67
  · skip
    refine lv_tableIn (off := 64) (tgt := 68) hx hb dX9_otherPart_4 (by decide) (by decide) rfl (by decide) ?_
    refine lv_sipush (v := 255) hx hb dX9_otherPart_68 (by decide) ?_
    refine lv_iload_n hx hb dX9_otherPart_71 rfl (lv_at hl 1 rfl) ?_
    refine lv_isub hx hb dX9_otherPart_72 ?_
    refine lv_topi (fun y_1 ey_1 => ?_)
    have hP9 := hP.sub (ws' := [(h0, .inr (9, [.ref m1, .ref m2, .ref m3, .int ik, .int (nI 3), .int op, .int cl, .int cx0, .int cx1, .int cy0, .int cy1, .int ds, .ref m4, .ref m5, .ref m6, .ref m7, .ref m8, .ref m9, .int pn, .ref m10, .ref m11, .ref m12, .ref m13]))]) [0] rfl
    have hD9 := hD.sub (ws' := [(h0, .inr (9, [.ref m1, .ref m2, .ref m3, .int ik, .int (nI 3), .int op, .int cl, .int cx0, .int cx1, .int cy0, .int cy1, .int ds, .ref m4, .ref m5, .ref m6, .ref m7, .ref m8, .ref m9, .int pn, .ref m10, .ref m11, .ref m12, .ref m13]))]) [0] (by decide) rfl
    have hK9 := hK.sub (tys' := []) [] rfl
    refine hQ _ _ _ _ _ ?_
    exact W.iret (v := y_1) hx hb hr (fun t ht hW => ⟨⟨y_1, (), rfl, (by subst_vars; rfl), ⟨by rw [ht]; exact hP9, va_K.moved hW.alike hK9, hD9⟩⟩, hS.F ht⟩) hS.2.2 dX9_otherPart_73
  · skip
    refine lv_tableIn (off := 60) (tgt := 64) hx hb dX9_otherPart_4 (by decide) (by decide) rfl (by decide) ?_
    refine lv_sipush (v := 255) hx hb dX9_otherPart_64 (by decide) ?_
    have hP9 := hP.sub (ws' := [(h0, .inr (9, [.ref m1, .ref m2, .ref m3, .int ik, .int (nI 4), .int op, .int cl, .int cx0, .int cx1, .int cy0, .int cy1, .int ds, .ref m4, .ref m5, .ref m6, .ref m7, .ref m8, .ref m9, .int pn, .ref m10, .ref m11, .ref m12, .ref m13]))]) [0] rfl
    have hD9 := hD.sub (ws' := [(h0, .inr (9, [.ref m1, .ref m2, .ref m3, .int ik, .int (nI 4), .int op, .int cl, .int cx0, .int cx1, .int cy0, .int cy1, .int ds, .ref m4, .ref m5, .ref m6, .ref m7, .ref m8, .ref m9, .int pn, .ref m10, .ref m11, .ref m12, .ref m13]))]) [0] (by decide) rfl
    have hK9 := hK.sub (tys' := []) [] rfl
    refine hQ _ _ _ _ _ ?_
    exact W.iret (v := 255) hx hb hr (fun t ht hW => ⟨⟨255, (), rfl, (by subst_vars; rfl), ⟨by rw [ht]; exact hP9, va_K.moved hW.alike hK9, hD9⟩⟩, hS.F ht⟩) hS.2.2 dX9_otherPart_67
  · skip
    refine lv_tableIn (off := 72) (tgt := 76) hx hb dX9_otherPart_4 (by decide) (by decide) rfl (by decide) ?_
    refine lv_iconst (v := 0) hx hb dX9_otherPart_76 (by decide) ?_
    have hP9 := hP.sub (ws' := [(h0, .inr (9, [.ref m1, .ref m2, .ref m3, .int ik, .int (nI 5), .int op, .int cl, .int cx0, .int cx1, .int cy0, .int cy1, .int ds, .ref m4, .ref m5, .ref m6, .ref m7, .ref m8, .ref m9, .int pn, .ref m10, .ref m11, .ref m12, .ref m13]))]) [0] rfl
    have hD9 := hD.sub (ws' := [(h0, .inr (9, [.ref m1, .ref m2, .ref m3, .int ik, .int (nI 5), .int op, .int cl, .int cx0, .int cx1, .int cy0, .int cy1, .int ds, .ref m4, .ref m5, .ref m6, .ref m7, .ref m8, .ref m9, .int pn, .ref m10, .ref m11, .ref m12, .ref m13]))]) [0] (by decide) rfl
    have hK9 := hK.sub (tys' := []) [] rfl
    refine hQ _ _ _ _ _ ?_
    exact W.iret (v := 0) hx hb hr (fun t ht hW => ⟨⟨0, (), rfl, (by subst_vars; rfl), ⟨by rw [ht]; exact hP9, va_K.moved hW.alike hK9, hD9⟩⟩, hS.F ht⟩) hS.2.2 dX9_otherPart_77
  · skip
    refine lv_tableIn (off := 70) (tgt := 74) hx hb dX9_otherPart_4 (by decide) (by decide) rfl (by decide) ?_
    refine lv_iload_n hx hb dX9_otherPart_74 rfl (lv_at hl 1 rfl) ?_
    have hP9 := hP.sub (ws' := [(h0, .inr (9, [.ref m1, .ref m2, .ref m3, .int ik, .int (nI 6), .int op, .int cl, .int cx0, .int cx1, .int cy0, .int cy1, .int ds, .ref m4, .ref m5, .ref m6, .ref m7, .ref m8, .ref m9, .int pn, .ref m10, .ref m11, .ref m12, .ref m13]))]) [0] rfl
    have hD9 := hD.sub (ws' := [(h0, .inr (9, [.ref m1, .ref m2, .ref m3, .int ik, .int (nI 6), .int op, .int cl, .int cx0, .int cx1, .int cy0, .int cy1, .int ds, .ref m4, .ref m5, .ref m6, .ref m7, .ref m8, .ref m9, .int pn, .ref m10, .ref m11, .ref m12, .ref m13]))]) [0] (by decide) rfl
    have hK9 := hK.sub (tys' := []) [] rfl
    refine hQ _ _ _ _ _ ?_
    exact W.iret (v := n) hx hb hr (fun t ht hW => ⟨⟨n, (), rfl, (by subst_vars; rfl), ⟨by rw [ht]; exact hP9, va_K.moved hW.alike hK9, hD9⟩⟩, hS.F ht⟩) hS.2.2 dX9_otherPart_75
  · skip
    refine lv_tableIn (off := 72) (tgt := 76) hx hb dX9_otherPart_4 (by decide) (by decide) rfl (by decide) ?_
    refine lv_iconst (v := 0) hx hb dX9_otherPart_76 (by decide) ?_
    have hP9 := hP.sub (ws' := [(h0, .inr (9, [.ref m1, .ref m2, .ref m3, .int ik, .int (nI 7), .int op, .int cl, .int cx0, .int cx1, .int cy0, .int cy1, .int ds, .ref m4, .ref m5, .ref m6, .ref m7, .ref m8, .ref m9, .int pn, .ref m10, .ref m11, .ref m12, .ref m13]))]) [0] rfl
    have hD9 := hD.sub (ws' := [(h0, .inr (9, [.ref m1, .ref m2, .ref m3, .int ik, .int (nI 7), .int op, .int cl, .int cx0, .int cx1, .int cy0, .int cy1, .int ds, .ref m4, .ref m5, .ref m6, .ref m7, .ref m8, .ref m9, .int pn, .ref m10, .ref m11, .ref m12, .ref m13]))]) [0] (by decide) rfl
    have hK9 := hK.sub (tys' := []) [] rfl
    refine hQ _ _ _ _ _ ?_
    exact W.iret (v := 0) hx hb hr (fun t ht hW => ⟨⟨0, (), rfl, (by subst_vars; rfl), ⟨by rw [ht]; exact hP9, va_K.moved hW.alike hK9, hD9⟩⟩, hS.F ht⟩) hS.2.2 dX9_otherPart_77
  · skip
    refine lv_tableIn (off := 64) (tgt := 68) hx hb dX9_otherPart_4 (by decide) (by decide) rfl (by decide) ?_
    refine lv_sipush (v := 255) hx hb dX9_otherPart_68 (by decide) ?_
    refine lv_iload_n hx hb dX9_otherPart_71 rfl (lv_at hl 1 rfl) ?_
    refine lv_isub hx hb dX9_otherPart_72 ?_
    refine lv_topi (fun y_2 ey_2 => ?_)
    have hP9 := hP.sub (ws' := [(h0, .inr (9, [.ref m1, .ref m2, .ref m3, .int ik, .int (nI 8), .int op, .int cl, .int cx0, .int cx1, .int cy0, .int cy1, .int ds, .ref m4, .ref m5, .ref m6, .ref m7, .ref m8, .ref m9, .int pn, .ref m10, .ref m11, .ref m12, .ref m13]))]) [0] rfl
    have hD9 := hD.sub (ws' := [(h0, .inr (9, [.ref m1, .ref m2, .ref m3, .int ik, .int (nI 8), .int op, .int cl, .int cx0, .int cx1, .int cy0, .int cy1, .int ds, .ref m4, .ref m5, .ref m6, .ref m7, .ref m8, .ref m9, .int pn, .ref m10, .ref m11, .ref m12, .ref m13]))]) [0] (by decide) rfl
    have hK9 := hK.sub (tys' := []) [] rfl
    refine hQ _ _ _ _ _ ?_
    exact W.iret (v := y_2) hx hb hr (fun t ht hW => ⟨⟨y_2, (), rfl, (by subst_vars; rfl), ⟨by rw [ht]; exact hP9, va_K.moved hW.alike hK9, hD9⟩⟩, hS.F ht⟩) hS.2.2 dX9_otherPart_73
  · skip
    refine lv_tableIn (off := 64) (tgt := 68) hx hb dX9_otherPart_4 (by decide) (by decide) rfl (by decide) ?_
    refine lv_sipush (v := 255) hx hb dX9_otherPart_68 (by decide) ?_
    refine lv_iload_n hx hb dX9_otherPart_71 rfl (lv_at hl 1 rfl) ?_
    refine lv_isub hx hb dX9_otherPart_72 ?_
    refine lv_topi (fun y_3 ey_3 => ?_)
    have hP9 := hP.sub (ws' := [(h0, .inr (9, [.ref m1, .ref m2, .ref m3, .int ik, .int (nI 9), .int op, .int cl, .int cx0, .int cx1, .int cy0, .int cy1, .int ds, .ref m4, .ref m5, .ref m6, .ref m7, .ref m8, .ref m9, .int pn, .ref m10, .ref m11, .ref m12, .ref m13]))]) [0] rfl
    have hD9 := hD.sub (ws' := [(h0, .inr (9, [.ref m1, .ref m2, .ref m3, .int ik, .int (nI 9), .int op, .int cl, .int cx0, .int cx1, .int cy0, .int cy1, .int ds, .ref m4, .ref m5, .ref m6, .ref m7, .ref m8, .ref m9, .int pn, .ref m10, .ref m11, .ref m12, .ref m13]))]) [0] (by decide) rfl
    have hK9 := hK.sub (tys' := []) [] rfl
    refine hQ _ _ _ _ _ ?_
    exact W.iret (v := y_3) hx hb hr (fun t ht hW => ⟨⟨y_3, (), rfl, (by subst_vars; rfl), ⟨by rw [ht]; exact hP9, va_K.moved hW.alike hK9, hD9⟩⟩, hS.F ht⟩) hS.2.2 dX9_otherPart_73
  · skip
    refine lv_tableIn (off := 70) (tgt := 74) hx hb dX9_otherPart_4 (by decide) (by decide) rfl (by decide) ?_
    refine lv_iload_n hx hb dX9_otherPart_74 rfl (lv_at hl 1 rfl) ?_
    have hP9 := hP.sub (ws' := [(h0, .inr (9, [.ref m1, .ref m2, .ref m3, .int ik, .int (nI 10), .int op, .int cl, .int cx0, .int cx1, .int cy0, .int cy1, .int ds, .ref m4, .ref m5, .ref m6, .ref m7, .ref m8, .ref m9, .int pn, .ref m10, .ref m11, .ref m12, .ref m13]))]) [0] rfl
    have hD9 := hD.sub (ws' := [(h0, .inr (9, [.ref m1, .ref m2, .ref m3, .int ik, .int (nI 10), .int op, .int cl, .int cx0, .int cx1, .int cy0, .int cy1, .int ds, .ref m4, .ref m5, .ref m6, .ref m7, .ref m8, .ref m9, .int pn, .ref m10, .ref m11, .ref m12, .ref m13]))]) [0] (by decide) rfl
    have hK9 := hK.sub (tys' := []) [] rfl
    refine hQ _ _ _ _ _ ?_
    exact W.iret (v := n) hx hb hr (fun t ht hW => ⟨⟨n, (), rfl, (by subst_vars; rfl), ⟨by rw [ht]; exact hP9, va_K.moved hW.alike hK9, hD9⟩⟩, hS.F ht⟩) hS.2.2 dX9_otherPart_75
  · skip
    refine lv_tableIn (off := 64) (tgt := 68) hx hb dX9_otherPart_4 (by decide) (by decide) rfl (by decide) ?_
    refine lv_sipush (v := 255) hx hb dX9_otherPart_68 (by decide) ?_
    refine lv_iload_n hx hb dX9_otherPart_71 rfl (lv_at hl 1 rfl) ?_
    refine lv_isub hx hb dX9_otherPart_72 ?_
    refine lv_topi (fun y_4 ey_4 => ?_)
    have hP9 := hP.sub (ws' := [(h0, .inr (9, [.ref m1, .ref m2, .ref m3, .int ik, .int (nI 11), .int op, .int cl, .int cx0, .int cx1, .int cy0, .int cy1, .int ds, .ref m4, .ref m5, .ref m6, .ref m7, .ref m8, .ref m9, .int pn, .ref m10, .ref m11, .ref m12, .ref m13]))]) [0] rfl
    have hD9 := hD.sub (ws' := [(h0, .inr (9, [.ref m1, .ref m2, .ref m3, .int ik, .int (nI 11), .int op, .int cl, .int cx0, .int cx1, .int cy0, .int cy1, .int ds, .ref m4, .ref m5, .ref m6, .ref m7, .ref m8, .ref m9, .int pn, .ref m10, .ref m11, .ref m12, .ref m13]))]) [0] (by decide) rfl
    have hK9 := hK.sub (tys' := []) [] rfl
    refine hQ _ _ _ _ _ ?_
    exact W.iret (v := y_4) hx hb hr (fun t ht hW => ⟨⟨y_4, (), rfl, (by subst_vars; rfl), ⟨by rw [ht]; exact hP9, va_K.moved hW.alike hK9, hD9⟩⟩, hS.F ht⟩) hS.2.2 dX9_otherPart_73
  · skip
    refine lv_tableIn (off := 60) (tgt := 64) hx hb dX9_otherPart_4 (by decide) (by decide) rfl (by decide) ?_
    refine lv_sipush (v := 255) hx hb dX9_otherPart_64 (by decide) ?_
    have hP9 := hP.sub (ws' := [(h0, .inr (9, [.ref m1, .ref m2, .ref m3, .int ik, .int (nI 12), .int op, .int cl, .int cx0, .int cx1, .int cy0, .int cy1, .int ds, .ref m4, .ref m5, .ref m6, .ref m7, .ref m8, .ref m9, .int pn, .ref m10, .ref m11, .ref m12, .ref m13]))]) [0] rfl
    have hD9 := hD.sub (ws' := [(h0, .inr (9, [.ref m1, .ref m2, .ref m3, .int ik, .int (nI 12), .int op, .int cl, .int cx0, .int cx1, .int cy0, .int cy1, .int ds, .ref m4, .ref m5, .ref m6, .ref m7, .ref m8, .ref m9, .int pn, .ref m10, .ref m11, .ref m12, .ref m13]))]) [0] (by decide) rfl
    have hK9 := hK.sub (tys' := []) [] rfl
    refine hQ _ _ _ _ _ ?_
    exact W.iret (v := 255) hx hb hr (fun t ht hW => ⟨⟨255, (), rfl, (by subst_vars; rfl), ⟨by rw [ht]; exact hP9, va_K.moved hW.alike hK9, hD9⟩⟩, hS.F ht⟩) hS.2.2 dX9_otherPart_67

set_option maxHeartbeats 4000000 in
set_option maxRecDepth 100000 in
theorem k_X9_laid (l : Launch) (D : va_G) (sz : Nat) (h0 m1 m2 m3 m4 m5 m6 m7 m8 m9 m10 m11 m12 m13 : Nat) (ik wy op cl cx0 cx1 cy0 cy1 ds pn : Int32) (n d v : Int32) (hwy : 0 ≤ wy.toInt ∧ wy.toInt ≤ 12) : Met l yX9_laid (wB yX9_laid cX9_laid 9 (some .int)) ({ frames := 1, cells := 0, slots := 0, locals := 22 }) (cP D [(h0, .inr (9, [.ref m1, .ref m2, .ref m3, .int ik, .int wy, .int op, .int cl, .int cx0, .int cx1, .int cy0, .int cy1, .int ds, .ref m4, .ref m5, .ref m6, .ref m7, .ref m8, .ref m9, .int pn, .ref m10, .ref m11, .ref m12, .ref m13]))] [] sz [.ref h0, .int n, .int d, .int v]) (va_Qi (fun (r : Int32) (_ : Unit) => r = laidP wy n d v) (fun (_ : Unit) (t : State) => cB D (va_A [(h0, .inr (9, [.ref m1, .ref m2, .ref m3, .int ik, .int wy, .int op, .int cl, .int cx0, .int cx1, .int cy0, .int cy1, .int ds, .ref m4, .ref m5, .ref m6, .ref m7, .ref m8, .ref m9, .int pn, .ref m10, .ref m11, .ref m12, .ref m13]))] sz) [(h0, .inr (9, [.ref m1, .ref m2, .ref m3, .int ik, .int wy, .int op, .int cl, .int cx0, .int cx1, .int cy0, .int cy1, .int ds, .ref m4, .ref m5, .ref m6, .ref m7, .ref m8, .ref m9, .int pn, .ref m10, .ref m11, .ref m12, .ref m13]))] [] t) (va_A [(h0, .inr (9, [.ref m1, .ref m2, .ref m3, .int ik, .int wy, .int op, .int cl, .int cx0, .int cx1, .int cy0, .int cy1, .int ds, .ref m4, .ref m5, .ref m6, .ref m7, .ref m8, .ref m9, .int pn, .ref m10, .ref m11, .ref m12, .ref m13]))] sz)) 0 0 (va_A [(h0, .inr (9, [.ref m1, .ref m2, .ref m3, .int ik, .int wy, .int op, .int cl, .int cx0, .int cx1, .int cy0, .int cy1, .int ds, .ref m4, .ref m5, .ref m6, .ref m7, .ref m8, .ref m9, .int pn, .ref m10, .ref m11, .ref m12, .ref m13]))] sz) := by
  refine Met.ofW (cc := cX9_laid) (maxL := 9) (ret := (some .int)) (by decide) rfl ?_
  intro p e s m args below meth c s₁ B hml hv
  obtain ⟨rfl, hsz, hP, hK, hD0, hN⟩ := hv
  have hx := B.exec
  have hb := B.bytes
  have hr := B.returns
  have hts0 := atoms_spec (ws := (wB yX9_laid cX9_laid 9 (some .int))) B.pre
  have hts : ∀ w ∈ bigW, w.before _ s = true := fun w h => hts0 w (List.mem_cons_of_mem _ h)
  have hown : s.vm.findClass RX9 = some m.cls := findClass_of_methodNamed B.named
  have hlocks := B.notSynchronized
  subst hsz
  have hD := hD0.self (sz := s.heap.size)
  generalize hAe : va_A [(h0, .inr (9, [.ref m1, .ref m2, .ref m3, .int ik, .int wy, .int op, .int cl, .int cx0, .int cx1, .int cy0, .int cy1, .int ds, .ref m4, .ref m5, .ref m6, .ref m7, .ref m8, .ref m9, .int pn, .ref m10, .ref m11, .ref m12, .ref m13]))] s.heap.size = A at hD ⊢
  have hA : ∀ q : Nat, s.heap.size ≤ q → A q := fun q h => by rw [← hAe]; exact Or.inr h
  have hS : va_S A s.heap s.heap [] := va_S.rf
  have hP : va_P D vwCl [(h0, .inr (9, [.ref m1, .ref m2, .ref m3, .int ik, .int wy, .int op, .int cl, .int cx0, .int cx1, .int cy0, .int cy1, .int ds, .ref m4, .ref m5, .ref m6, .ref m7, .ref m8, .ref m9, .int pn, .ref m10, .ref m11, .ref m12, .ref m13]))] s.heap := hP
  have hl := lv_entry ([.ref h0, .int n, .int d, .int v]) (n := 9) (Nat.le_of_ble_eq_true rfl)
  rw [lg_entry_eq]
  generalize (lg_sl ([.ref h0, .int n, .int d, .int v]) ++ List.replicate (9 - (lg_sl ([.ref h0, .int n, .int d, .int v])).length) Slot.unset).toArray = ls at hl ⊢
  have hl : lv_has ls 9 [(0, .ref h0), (1, .int n), (2, .int d), (3, .int v)] := hl
  clear hts0 hD0 hAe
  refine my_abs (fun R Q hR hQ => ?_)
  refine lv_aload_n hx hb dX9_laid_0 rfl (lv_at hl 0 rfl) ?_
  refine lv_iload_n hx hb dX9_laid_1 rfl (lv_at hl 1 rfl) ?_
  refine lv_iconst (v := 0) hx hb dX9_laid_2 (by decide) ?_
  have hPc := hP.sub (ws' := []) [] rfl
  have hDc := hD.sub (ws' := []) [] (by decide) rfl
  have hKc := hK.sub (tys' := []) [] rfl
  have hFc := va_free (wc := []) hD hS hA [] rfl
  refine va_calli (va_runS (As := [.int n, .int 0]) (rest := [.ref h0]) ⟨hx, hb, hml, hown, hts⟩ (k_X9_channel_0 l D s.heap.size n) (va_cwS 2 hts (gS bw_62 bw_63 bw_61 bw_60) rfl rfl rfl (by decide +kernel) ⟨(by rw [hR]; exact Nat.le_of_ble_eq_true rfl), (by rw [hR]; exact Nat.le_of_ble_eq_true rfl)⟩) ⟨cP_blind, cP_at hPc hKc hDc hN⟩ rfl rfl hl.1 rfl (lv_room (Nat.le_of_ble_eq_true rfl)) dX9_laid_3 ⟨(by rw [hR]; exact Nat.le_of_ble_eq_true rfl), (by rw [hR]; exact Nat.le_of_ble_eq_true rfl)⟩) hS (fun q _ h => hFc q h) hFc (fun r_1 u9 t9 H1 locs ht hvm hr_1 hB hz1 hk1 hS => ?_)
  try dsimp only at hr_1
  have hP1 : va_P D vwCl [] H1 := vP_nil
  have hD1 : va_D (va_A [] s.heap.size) [] := vD_nil
  obtain ⟨hP, hD⟩ := va_join (wr := [(h0, .inr (9, [.ref m1, .ref m2, .ref m3, .int ik, .int wy, .int op, .int cl, .int cx0, .int cx1, .int cy0, .int cy1, .int ds, .ref m4, .ref m5, .ref m6, .ref m7, .ref m8, .ref m9, .int pn, .ref m10, .ref m11, .ref m12, .ref m13]))]) (w1 := []) hP hD [] [0] rfl rfl (by decide) (by decide) hk1 hFc hP1 hD1
  clear hz1 hk1 hFc hKc hDc hPc
  generalize H1 = H at hP hS ⊢
  have hP : va_P D vwCl [(h0, .inr (9, [.ref m1, .ref m2, .ref m3, .int ik, .int wy, .int op, .int cl, .int cx0, .int cx1, .int cy0, .int cy1, .int ds, .ref m4, .ref m5, .ref m6, .ref m7, .ref m8, .ref m9, .int pn, .ref m10, .ref m11, .ref m12, .ref m13]))] H := hP
  have hD : va_D A [(h0, .inr (9, [.ref m1, .ref m2, .ref m3, .int ik, .int wy, .int op, .int cl, .int cx0, .int cx1, .int cy0, .int cy1, .int ds, .ref m4, .ref m5, .ref m6, .ref m7, .ref m8, .ref m9, .int pn, .ref m10, .ref m11, .ref m12, .ref m13]))] := hD
  refine lv_iload_n hx hb dX9_laid_6 rfl (lv_at hl 2 rfl) ?_
  refine lv_iconst (v := 0) hx hb dX9_laid_7 (by decide) ?_
  have hPc := hP.sub (ws' := []) [] rfl
  have hDc := hD.sub (ws' := []) [] (by decide) rfl
  have hKc := hK.sub (tys' := []) [] rfl
  have hFc := va_free (wc := []) hD hS hA [] rfl
  refine va_calli (va_runS (As := [.int d, .int 0]) (rest := [.int r_1, .ref h0]) ⟨hx, hb, hml, hown, hts⟩ (k_X9_channel_0 l D H.size d) (va_cwS 2 hts (gS bw_62 bw_63 bw_61 bw_60) rfl rfl rfl (by decide +kernel) ⟨(by rw [hR]; exact Nat.le_of_ble_eq_true rfl), (by rw [hR]; exact Nat.le_of_ble_eq_true rfl)⟩) ⟨cP_blind, cP_at hPc hKc hDc hN⟩ rfl rfl hl.1 rfl (lv_room (Nat.le_of_ble_eq_true rfl)) dX9_laid_8 ⟨(by rw [hR]; exact Nat.le_of_ble_eq_true rfl), (by rw [hR]; exact Nat.le_of_ble_eq_true rfl)⟩) hS (fun q _ h => hFc q h) hFc (fun r_2 u9 t9 H1 locs ht hvm hr_2 hB hz1 hk1 hS => ?_)
  try dsimp only at hr_2
  have hP1 : va_P D vwCl [] H1 := vP_nil
  have hD1 : va_D (va_A [] H.size) [] := vD_nil
  obtain ⟨hP, hD⟩ := va_join (wr := [(h0, .inr (9, [.ref m1, .ref m2, .ref m3, .int ik, .int wy, .int op, .int cl, .int cx0, .int cx1, .int cy0, .int cy1, .int ds, .ref m4, .ref m5, .ref m6, .ref m7, .ref m8, .ref m9, .int pn, .ref m10, .ref m11, .ref m12, .ref m13]))]) (w1 := []) hP hD [] [0] rfl rfl (by decide) (by decide) hk1 hFc hP1 hD1
  clear hz1 hk1 hFc hKc hDc hPc
  generalize H1 = H at hP hS ⊢
  have hP : va_P D vwCl [(h0, .inr (9, [.ref m1, .ref m2, .ref m3, .int ik, .int wy, .int op, .int cl, .int cx0, .int cx1, .int cy0, .int cy1, .int ds, .ref m4, .ref m5, .ref m6, .ref m7, .ref m8, .ref m9, .int pn, .ref m10, .ref m11, .ref m12, .ref m13]))] H := hP
  have hD : va_D A [(h0, .inr (9, [.ref m1, .ref m2, .ref m3, .int ik, .int wy, .int op, .int cl, .int cx0, .int cx1, .int cy0, .int cy1, .int ds, .ref m4, .ref m5, .ref m6, .ref m7, .ref m8, .ref m9, .int pn, .ref m10, .ref m11, .ref m12, .ref m13]))] := hD
  have hPc := hP.sub (ws' := [(h0, .inr (9, [.ref m1, .ref m2, .ref m3, .int ik, .int wy, .int op, .int cl, .int cx0, .int cx1, .int cy0, .int cy1, .int ds, .ref m4, .ref m5, .ref m6, .ref m7, .ref m8, .ref m9, .int pn, .ref m10, .ref m11, .ref m12, .ref m13]))]) [0] rfl
  have hDc := hD.sub (ws' := [(h0, .inr (9, [.ref m1, .ref m2, .ref m3, .int ik, .int wy, .int op, .int cl, .int cx0, .int cx1, .int cy0, .int cy1, .int ds, .ref m4, .ref m5, .ref m6, .ref m7, .ref m8, .ref m9, .int pn, .ref m10, .ref m11, .ref m12, .ref m13]))]) [0] (by decide) rfl
  have hKc := hK.sub (tys' := []) [] rfl
  have hFc := va_free (wc := [(h0, .inr (9, [.ref m1, .ref m2, .ref m3, .int ik, .int wy, .int op, .int cl, .int cx0, .int cx1, .int cy0, .int cy1, .int ds, .ref m4, .ref m5, .ref m6, .ref m7, .ref m8, .ref m9, .int pn, .ref m10, .ref m11, .ref m12, .ref m13]))]) hD hS hA [0] rfl
  refine va_calli (va_runV (As := [.int r_1, .int r_2]) (rest := []) ⟨hx, hb, hml, hown, hts⟩ (k_X9_sourcePart l D H.size h0 m1 m2 m3 m4 m5 m6 m7 m8 m9 m10 m11 m12 m13 ik wy op cl cx0 cx1 cy0 cy1 ds pn r_1 r_2 (by first | assumption | omega | decide)) (cwV 2 hts (gV bw_84 bw_85 bw_86 bw_61 bw_83) rfl rfl rfl (by decide +kernel) ⟨(by rw [hR]; exact Nat.le_of_ble_eq_true rfl), (by rw [hR]; exact Nat.le_of_ble_eq_true rfl)⟩) ⟨cP_blind, va_recv hKc hPc (ci := 9) (q0 := 0) rfl rfl, cP_at hPc hKc hDc hN⟩ rfl rfl hl.1 rfl (lv_room (Nat.le_of_ble_eq_true rfl)) dX9_laid_11 ⟨(by rw [hR]; exact Nat.le_of_ble_eq_true rfl), (by rw [hR]; exact Nat.le_of_ble_eq_true rfl)⟩) hS (fun q _ h => hFc q h) hFc (fun r_3 u9 t9 H1 locs ht hvm hr_3 hB hz1 hk1 hS => ?_)
  try dsimp only at hr_3
  obtain ⟨hP1, hK1, hD1⟩ := hB
  rw [ht] at hP1
  obtain ⟨hP, hD⟩ := va_join (wr := []) (w1 := [(h0, .inr (9, [.ref m1, .ref m2, .ref m3, .int ik, .int wy, .int op, .int cl, .int cx0, .int cx1, .int cy0, .int cy1, .int ds, .ref m4, .ref m5, .ref m6, .ref m7, .ref m8, .ref m9, .int pn, .ref m10, .ref m11, .ref m12, .ref m13]))]) hP hD [0] [] rfl rfl (by decide) (by decide) hk1 hFc hP1 hD1
  clear hz1 hk1 hFc hKc hDc hPc
  generalize H1 = H at hP hS ⊢
  have hP : va_P D vwCl [(h0, .inr (9, [.ref m1, .ref m2, .ref m3, .int ik, .int wy, .int op, .int cl, .int cx0, .int cx1, .int cy0, .int cy1, .int ds, .ref m4, .ref m5, .ref m6, .ref m7, .ref m8, .ref m9, .int pn, .ref m10, .ref m11, .ref m12, .ref m13]))] H := hP
  have hD : va_D A [(h0, .inr (9, [.ref m1, .ref m2, .ref m3, .int ik, .int wy, .int op, .int cl, .int cx0, .int cx1, .int cy0, .int cy1, .int ds, .ref m4, .ref m5, .ref m6, .ref m7, .ref m8, .ref m9, .int pn, .ref m10, .ref m11, .ref m12, .ref m13]))] := hD
  refine lv_istore (lv' := [(4, .int r_3), (0, .ref h0), (1, .int n), (2, .int d), (3, .int v)]) hx hb dX9_laid_14 hl (by decide) rfl (fun ls hl => ?_)
  refine lv_aload_n hx hb dX9_laid_16 rfl (lv_at hl 1 rfl) ?_
  refine lv_iload_n hx hb dX9_laid_17 rfl (lv_at hl 2 rfl) ?_
  refine lv_iconst (v := 0) hx hb dX9_laid_18 (by decide) ?_
  have hPc := hP.sub (ws' := []) [] rfl
  have hDc := hD.sub (ws' := []) [] (by decide) rfl
  have hKc := hK.sub (tys' := []) [] rfl
  have hFc := va_free (wc := []) hD hS hA [] rfl
  refine va_calli (va_runS (As := [.int n, .int 0]) (rest := [.ref h0]) ⟨hx, hb, hml, hown, hts⟩ (k_X9_channel_0 l D H.size n) (va_cwS 2 hts (gS bw_62 bw_63 bw_61 bw_60) rfl rfl rfl (by decide +kernel) ⟨(by rw [hR]; exact Nat.le_of_ble_eq_true rfl), (by rw [hR]; exact Nat.le_of_ble_eq_true rfl)⟩) ⟨cP_blind, cP_at hPc hKc hDc hN⟩ rfl rfl hl.1 rfl (lv_room (Nat.le_of_ble_eq_true rfl)) dX9_laid_19 ⟨(by rw [hR]; exact Nat.le_of_ble_eq_true rfl), (by rw [hR]; exact Nat.le_of_ble_eq_true rfl)⟩) hS (fun q _ h => hFc q h) hFc (fun r_4 u9 t9 H1 locs ht hvm hr_4 hB hz1 hk1 hS => ?_)
  try dsimp only at hr_4
  have hP1 : va_P D vwCl [] H1 := vP_nil
  have hD1 : va_D (va_A [] H.size) [] := vD_nil
  obtain ⟨hP, hD⟩ := va_join (wr := [(h0, .inr (9, [.ref m1, .ref m2, .ref m3, .int ik, .int wy, .int op, .int cl, .int cx0, .int cx1, .int cy0, .int cy1, .int ds, .ref m4, .ref m5, .ref m6, .ref m7, .ref m8, .ref m9, .int pn, .ref m10, .ref m11, .ref m12, .ref m13]))]) (w1 := []) hP hD [] [0] rfl rfl (by decide) (by decide) hk1 hFc hP1 hD1
  clear hz1 hk1 hFc hKc hDc hPc
  generalize H1 = H at hP hS ⊢
  have hP : va_P D vwCl [(h0, .inr (9, [.ref m1, .ref m2, .ref m3, .int ik, .int wy, .int op, .int cl, .int cx0, .int cx1, .int cy0, .int cy1, .int ds, .ref m4, .ref m5, .ref m6, .ref m7, .ref m8, .ref m9, .int pn, .ref m10, .ref m11, .ref m12, .ref m13]))] H := hP
  have hD : va_D A [(h0, .inr (9, [.ref m1, .ref m2, .ref m3, .int ik, .int wy, .int op, .int cl, .int cx0, .int cx1, .int cy0, .int cy1, .int ds, .ref m4, .ref m5, .ref m6, .ref m7, .ref m8, .ref m9, .int pn, .ref m10, .ref m11, .ref m12, .ref m13]))] := hD
  refine lv_iload_n hx hb dX9_laid_22 rfl (lv_at hl 3 rfl) ?_
  refine lv_iconst (v := 0) hx hb dX9_laid_23 (by decide) ?_
  have hPc := hP.sub (ws' := []) [] rfl
  have hDc := hD.sub (ws' := []) [] (by decide) rfl
  have hKc := hK.sub (tys' := []) [] rfl
  have hFc := va_free (wc := []) hD hS hA [] rfl
  refine va_calli (va_runS (As := [.int d, .int 0]) (rest := [.int r_4, .ref h0]) ⟨hx, hb, hml, hown, hts⟩ (k_X9_channel_0 l D H.size d) (va_cwS 2 hts (gS bw_62 bw_63 bw_61 bw_60) rfl rfl rfl (by decide +kernel) ⟨(by rw [hR]; exact Nat.le_of_ble_eq_true rfl), (by rw [hR]; exact Nat.le_of_ble_eq_true rfl)⟩) ⟨cP_blind, cP_at hPc hKc hDc hN⟩ rfl rfl hl.1 rfl (lv_room (Nat.le_of_ble_eq_true rfl)) dX9_laid_24 ⟨(by rw [hR]; exact Nat.le_of_ble_eq_true rfl), (by rw [hR]; exact Nat.le_of_ble_eq_true rfl)⟩) hS (fun q _ h => hFc q h) hFc (fun r_5 u9 t9 H1 locs ht hvm hr_5 hB hz1 hk1 hS => ?_)
  try dsimp only at hr_5
  have hP1 : va_P D vwCl [] H1 := vP_nil
  have hD1 : va_D (va_A [] H.size) [] := vD_nil
  obtain ⟨hP, hD⟩ := va_join (wr := [(h0, .inr (9, [.ref m1, .ref m2, .ref m3, .int ik, .int wy, .int op, .int cl, .int cx0, .int cx1, .int cy0, .int cy1, .int ds, .ref m4, .ref m5, .ref m6, .ref m7, .ref m8, .ref m9, .int pn, .ref m10, .ref m11, .ref m12, .ref m13]))]) (w1 := []) hP hD [] [0] rfl rfl (by decide) (by decide) hk1 hFc hP1 hD1
  clear hz1 hk1 hFc hKc hDc hPc
  generalize H1 = H at hP hS ⊢
  have hP : va_P D vwCl [(h0, .inr (9, [.ref m1, .ref m2, .ref m3, .int ik, .int wy, .int op, .int cl, .int cx0, .int cx1, .int cy0, .int cy1, .int ds, .ref m4, .ref m5, .ref m6, .ref m7, .ref m8, .ref m9, .int pn, .ref m10, .ref m11, .ref m12, .ref m13]))] H := hP
  have hD : va_D A [(h0, .inr (9, [.ref m1, .ref m2, .ref m3, .int ik, .int wy, .int op, .int cl, .int cx0, .int cx1, .int cy0, .int cy1, .int ds, .ref m4, .ref m5, .ref m6, .ref m7, .ref m8, .ref m9, .int pn, .ref m10, .ref m11, .ref m12, .ref m13]))] := hD
  have hPc := hP.sub (ws' := [(h0, .inr (9, [.ref m1, .ref m2, .ref m3, .int ik, .int wy, .int op, .int cl, .int cx0, .int cx1, .int cy0, .int cy1, .int ds, .ref m4, .ref m5, .ref m6, .ref m7, .ref m8, .ref m9, .int pn, .ref m10, .ref m11, .ref m12, .ref m13]))]) [0] rfl
  have hDc := hD.sub (ws' := [(h0, .inr (9, [.ref m1, .ref m2, .ref m3, .int ik, .int wy, .int op, .int cl, .int cx0, .int cx1, .int cy0, .int cy1, .int ds, .ref m4, .ref m5, .ref m6, .ref m7, .ref m8, .ref m9, .int pn, .ref m10, .ref m11, .ref m12, .ref m13]))]) [0] (by decide) rfl
  have hKc := hK.sub (tys' := []) [] rfl
  have hFc := va_free (wc := [(h0, .inr (9, [.ref m1, .ref m2, .ref m3, .int ik, .int wy, .int op, .int cl, .int cx0, .int cx1, .int cy0, .int cy1, .int ds, .ref m4, .ref m5, .ref m6, .ref m7, .ref m8, .ref m9, .int pn, .ref m10, .ref m11, .ref m12, .ref m13]))]) hD hS hA [0] rfl
  refine va_calli (va_runV (As := [.int r_4, .int r_5]) (rest := []) ⟨hx, hb, hml, hown, hts⟩ (k_X9_otherPart l D H.size h0 m1 m2 m3 m4 m5 m6 m7 m8 m9 m10 m11 m12 m13 ik wy op cl cx0 cx1 cy0 cy1 ds pn r_4 r_5 (by first | assumption | omega | decide)) (cwV 2 hts (gV bw_88 bw_89 bw_90 bw_61 bw_87) rfl rfl rfl (by decide +kernel) ⟨(by rw [hR]; exact Nat.le_of_ble_eq_true rfl), (by rw [hR]; exact Nat.le_of_ble_eq_true rfl)⟩) ⟨cP_blind, va_recv hKc hPc (ci := 9) (q0 := 0) rfl rfl, cP_at hPc hKc hDc hN⟩ rfl rfl hl.1 rfl (lv_room (Nat.le_of_ble_eq_true rfl)) dX9_laid_27 ⟨(by rw [hR]; exact Nat.le_of_ble_eq_true rfl), (by rw [hR]; exact Nat.le_of_ble_eq_true rfl)⟩) hS (fun q _ h => hFc q h) hFc (fun r_6 u9 t9 H1 locs ht hvm hr_6 hB hz1 hk1 hS => ?_)
  try dsimp only at hr_6
  obtain ⟨hP1, hK1, hD1⟩ := hB
  rw [ht] at hP1
  obtain ⟨hP, hD⟩ := va_join (wr := []) (w1 := [(h0, .inr (9, [.ref m1, .ref m2, .ref m3, .int ik, .int wy, .int op, .int cl, .int cx0, .int cx1, .int cy0, .int cy1, .int ds, .ref m4, .ref m5, .ref m6, .ref m7, .ref m8, .ref m9, .int pn, .ref m10, .ref m11, .ref m12, .ref m13]))]) hP hD [0] [] rfl rfl (by decide) (by decide) hk1 hFc hP1 hD1
  clear hz1 hk1 hFc hKc hDc hPc
  generalize H1 = H at hP hS ⊢
  have hP : va_P D vwCl [(h0, .inr (9, [.ref m1, .ref m2, .ref m3, .int ik, .int wy, .int op, .int cl, .int cx0, .int cx1, .int cy0, .int cy1, .int ds, .ref m4, .ref m5, .ref m6, .ref m7, .ref m8, .ref m9, .int pn, .ref m10, .ref m11, .ref m12, .ref m13]))] H := hP
  have hD : va_D A [(h0, .inr (9, [.ref m1, .ref m2, .ref m3, .int ik, .int wy, .int op, .int cl, .int cx0, .int cx1, .int cy0, .int cy1, .int ds, .ref m4, .ref m5, .ref m6, .ref m7, .ref m8, .ref m9, .int pn, .ref m10, .ref m11, .ref m12, .ref m13]))] := hD
  refine lv_istore (lv' := [(5, .int r_6), (4, .int r_3), (0, .ref h0), (1, .int n), (2, .int d), (3, .int v)]) hx hb dX9_laid_30 hl (by decide) rfl (fun ls hl => ?_)
  refine lv_iconst (v := 0) hx hb dX9_laid_32 (by decide) ?_
  refine lv_istore (lv' := [(6, .int 0), (5, .int r_6), (4, .int r_3), (0, .ref h0), (1, .int n), (2, .int d), (3, .int v)]) hx hb dX9_laid_33 hl (by decide) rfl (fun ls hl => ?_)
  refine lv_iconst (v := 0) hx hb dX9_laid_35 (by decide) ?_
  refine lv_istore (lv' := [(7, .int 0), (6, .int 0), (5, .int r_6), (4, .int r_3), (0, .ref h0), (1, .int n), (2, .int d), (3, .int v)]) hx hb dX9_laid_36 hl (by decide) rfl (fun ls hl => ?_)
  refine lv_iload hx hb dX9_laid_38 (lv_at hl 0 rfl) ?_
  refine lv_iconst (v := 4) hx hb dX9_laid_40 (by decide) ?_
  refine lv_icmp_ge (tgt := 121) hx hb dX9_laid_41 (by decide) (fun c_7 => ?_) (fun c_7 => ?_)
  · skip
    exact absurd c_7 (by decide)
  · skip
    refine lv_iload_n hx hb dX9_laid_44 rfl (lv_at hl 5 rfl) ?_
    refine lv_iload hx hb dX9_laid_45 (lv_at hl 0 rfl) ?_
    have hPc := hP.sub (ws' := []) [] rfl
    have hDc := hD.sub (ws' := []) [] (by decide) rfl
    have hKc := hK.sub (tys' := []) [] rfl
    have hFc := va_free (wc := []) hD hS hA [] rfl
    refine va_calli (va_runS (As := [.int n, .int 0]) (rest := []) ⟨hx, hb, hml, hown, hts⟩ (k_X9_channel_0 l D H.size n) (va_cwS 2 hts (gS bw_62 bw_63 bw_61 bw_60) rfl rfl rfl (by decide +kernel) ⟨(by rw [hR]; exact Nat.le_of_ble_eq_true rfl), (by rw [hR]; exact Nat.le_of_ble_eq_true rfl)⟩) ⟨cP_blind, cP_at hPc hKc hDc hN⟩ rfl rfl hl.1 rfl (lv_room (Nat.le_of_ble_eq_true rfl)) dX9_laid_47 ⟨(by rw [hR]; exact Nat.le_of_ble_eq_true rfl), (by rw [hR]; exact Nat.le_of_ble_eq_true rfl)⟩) hS (fun q _ h => hFc q h) hFc (fun r_9 u9 t9 H1 locs ht hvm hr_9 hB hz1 hk1 hS => ?_)
    try dsimp only at hr_9
    have hP1 : va_P D vwCl [] H1 := vP_nil
    have hD1 : va_D (va_A [] H.size) [] := vD_nil
    obtain ⟨hP, hD⟩ := va_join (wr := [(h0, .inr (9, [.ref m1, .ref m2, .ref m3, .int ik, .int wy, .int op, .int cl, .int cx0, .int cx1, .int cy0, .int cy1, .int ds, .ref m4, .ref m5, .ref m6, .ref m7, .ref m8, .ref m9, .int pn, .ref m10, .ref m11, .ref m12, .ref m13]))]) (w1 := []) hP hD [] [0] rfl rfl (by decide) (by decide) hk1 hFc hP1 hD1
    clear hz1 hk1 hFc hKc hDc hPc
    generalize H1 = H at hP hS ⊢
    have hP : va_P D vwCl [(h0, .inr (9, [.ref m1, .ref m2, .ref m3, .int ik, .int wy, .int op, .int cl, .int cx0, .int cx1, .int cy0, .int cy1, .int ds, .ref m4, .ref m5, .ref m6, .ref m7, .ref m8, .ref m9, .int pn, .ref m10, .ref m11, .ref m12, .ref m13]))] H := hP
    have hD : va_D A [(h0, .inr (9, [.ref m1, .ref m2, .ref m3, .int ik, .int wy, .int op, .int cl, .int cx0, .int cx1, .int cy0, .int cy1, .int ds, .ref m4, .ref m5, .ref m6, .ref m7, .ref m8, .ref m9, .int pn, .ref m10, .ref m11, .ref m12, .ref m13]))] := hD
    refine lv_iload hx hb dX9_laid_50 (lv_at hl 3 rfl) ?_
    refine lv_imul hx hb dX9_laid_52 ?_
    refine lv_topi (fun y_10 ey_10 => ?_)
    refine lv_iload_n hx hb dX9_laid_53 rfl (lv_at hl 6 rfl) ?_
    refine lv_iload hx hb dX9_laid_54 (lv_at hl 0 rfl) ?_
    have hPc := hP.sub (ws' := []) [] rfl
    have hDc := hD.sub (ws' := []) [] (by decide) rfl
    have hKc := hK.sub (tys' := []) [] rfl
    have hFc := va_free (wc := []) hD hS hA [] rfl
    refine va_calli (va_runS (As := [.int d, .int 0]) (rest := [.int y_10]) ⟨hx, hb, hml, hown, hts⟩ (k_X9_channel_0 l D H.size d) (va_cwS 2 hts (gS bw_62 bw_63 bw_61 bw_60) rfl rfl rfl (by decide +kernel) ⟨(by rw [hR]; exact Nat.le_of_ble_eq_true rfl), (by rw [hR]; exact Nat.le_of_ble_eq_true rfl)⟩) ⟨cP_blind, cP_at hPc hKc hDc hN⟩ rfl rfl hl.1 rfl (lv_room (Nat.le_of_ble_eq_true rfl)) dX9_laid_56 ⟨(by rw [hR]; exact Nat.le_of_ble_eq_true rfl), (by rw [hR]; exact Nat.le_of_ble_eq_true rfl)⟩) hS (fun q _ h => hFc q h) hFc (fun r_11 u9 t9 H1 locs ht hvm hr_11 hB hz1 hk1 hS => ?_)
    try dsimp only at hr_11
    have hP1 : va_P D vwCl [] H1 := vP_nil
    have hD1 : va_D (va_A [] H.size) [] := vD_nil
    obtain ⟨hP, hD⟩ := va_join (wr := [(h0, .inr (9, [.ref m1, .ref m2, .ref m3, .int ik, .int wy, .int op, .int cl, .int cx0, .int cx1, .int cy0, .int cy1, .int ds, .ref m4, .ref m5, .ref m6, .ref m7, .ref m8, .ref m9, .int pn, .ref m10, .ref m11, .ref m12, .ref m13]))]) (w1 := []) hP hD [] [0] rfl rfl (by decide) (by decide) hk1 hFc hP1 hD1
    clear hz1 hk1 hFc hKc hDc hPc
    generalize H1 = H at hP hS ⊢
    have hP : va_P D vwCl [(h0, .inr (9, [.ref m1, .ref m2, .ref m3, .int ik, .int wy, .int op, .int cl, .int cx0, .int cx1, .int cy0, .int cy1, .int ds, .ref m4, .ref m5, .ref m6, .ref m7, .ref m8, .ref m9, .int pn, .ref m10, .ref m11, .ref m12, .ref m13]))] H := hP
    have hD : va_D A [(h0, .inr (9, [.ref m1, .ref m2, .ref m3, .int ik, .int wy, .int op, .int cl, .int cx0, .int cx1, .int cy0, .int cy1, .int ds, .ref m4, .ref m5, .ref m6, .ref m7, .ref m8, .ref m9, .int pn, .ref m10, .ref m11, .ref m12, .ref m13]))] := hD
    refine lv_iload hx hb dX9_laid_59 (lv_at hl 2 rfl) ?_
    refine lv_imul hx hb dX9_laid_61 ?_
    refine lv_topi (fun y_12 ey_12 => ?_)
    refine lv_iadd hx hb dX9_laid_62 ?_
    refine lv_topi (fun y_13 ey_13 => ?_)
    refine lv_sipush (v := 255) hx hb dX9_laid_63 (by decide) ?_
    have hPc := hP.sub (ws' := []) [] rfl
    have hDc := hD.sub (ws' := []) [] (by decide) rfl
    have hKc := hK.sub (tys' := []) [] rfl
    have hFc := va_free (wc := []) hD hS hA [] rfl
    refine va_calli (va_runS (As := [.int y_13, .int 255]) (rest := []) ⟨hx, hb, hml, hown, hts⟩ (k_X9_nearest_255 l D H.size y_13) (va_cwS 2 hts (gS bw_65 bw_66 bw_61 bw_64) rfl rfl rfl (by decide +kernel) ⟨(by rw [hR]; exact Nat.le_of_ble_eq_true rfl), (by rw [hR]; exact Nat.le_of_ble_eq_true rfl)⟩) ⟨cP_blind, cP_at hPc hKc hDc hN⟩ rfl rfl hl.1 rfl (lv_room (Nat.le_of_ble_eq_true rfl)) dX9_laid_66 ⟨(by rw [hR]; exact Nat.le_of_ble_eq_true rfl), (by rw [hR]; exact Nat.le_of_ble_eq_true rfl)⟩) hS (fun q _ h => hFc q h) hFc (fun r_14 u9 t9 H1 locs ht hvm hr_14 hB hz1 hk1 hS => ?_)
    try dsimp only at hr_14
    have hP1 : va_P D vwCl [] H1 := vP_nil
    have hD1 : va_D (va_A [] H.size) [] := vD_nil
    obtain ⟨hP, hD⟩ := va_join (wr := [(h0, .inr (9, [.ref m1, .ref m2, .ref m3, .int ik, .int wy, .int op, .int cl, .int cx0, .int cx1, .int cy0, .int cy1, .int ds, .ref m4, .ref m5, .ref m6, .ref m7, .ref m8, .ref m9, .int pn, .ref m10, .ref m11, .ref m12, .ref m13]))]) (w1 := []) hP hD [] [0] rfl rfl (by decide) (by decide) hk1 hFc hP1 hD1
    clear hz1 hk1 hFc hKc hDc hPc
    generalize H1 = H at hP hS ⊢
    have hP : va_P D vwCl [(h0, .inr (9, [.ref m1, .ref m2, .ref m3, .int ik, .int wy, .int op, .int cl, .int cx0, .int cx1, .int cy0, .int cy1, .int ds, .ref m4, .ref m5, .ref m6, .ref m7, .ref m8, .ref m9, .int pn, .ref m10, .ref m11, .ref m12, .ref m13]))] H := hP
    have hD : va_D A [(h0, .inr (9, [.ref m1, .ref m2, .ref m3, .int ik, .int wy, .int op, .int cl, .int cx0, .int cx1, .int cy0, .int cy1, .int ds, .ref m4, .ref m5, .ref m6, .ref m7, .ref m8, .ref m9, .int pn, .ref m10, .ref m11, .ref m12, .ref m13]))] := hD
    refine lv_istore (lv' := [(8, .int r_14), (7, .int 0), (6, .int 0), (5, .int r_6), (4, .int r_3), (0, .ref h0), (1, .int n), (2, .int d), (3, .int v)]) hx hb dX9_laid_69 hl (by decide) rfl (fun ls hl => ?_)
    have join_15 : ∀ (u_16 : Int32) (ls : Array Slot), (u_16 = mnP r_14) → lv_has ls 9 [(8, .int u_16), (7, .int 0), (6, .int 0), (5, .int r_6), (4, .int r_3), (0, .ref h0), (1, .int n), (2, .int d), (3, .int v)] → W p l e R s m ([.ref h0, .int n, .int d, .int v] : List Value).toArray below meth c H locs 0 0 Q (F0 m 84 ls []) := by
      intro u_16 ls hu_16 hl
      refine lv_iload hx hb dX9_laid_84 (lv_at hl 2 rfl) ?_
      refine lv_bipush (v := 8) hx hb dX9_laid_86 (by decide) ?_
      refine lv_ishl hx hb dX9_laid_88 ?_
      refine my_fold (v := 0) (by decide) ?_
      refine lv_iload hx hb dX9_laid_89 (lv_at hl 0 rfl) ?_
      refine lv_iload_n hx hb dX9_laid_91 rfl (lv_at hl 8 rfl) ?_
      refine lv_imul hx hb dX9_laid_92 ?_
      refine lv_topi (fun y_17 ey_17 => ?_)
      refine lv_iload_n hx hb dX9_laid_93 rfl (lv_at hl 7 rfl) ?_
      refine lv_iload hx hb dX9_laid_94 (lv_at hl 1 rfl) ?_
      have hPc := hP.sub (ws' := []) [] rfl
      have hDc := hD.sub (ws' := []) [] (by decide) rfl
      have hKc := hK.sub (tys' := []) [] rfl
      have hFc := va_free (wc := []) hD hS hA [] rfl
      refine va_calli (va_runS (As := [.int d, .int 0]) (rest := [.int y_17, .int 0]) ⟨hx, hb, hml, hown, hts⟩ (k_X9_channel_0 l D H.size d) (va_cwS 2 hts (gS bw_62 bw_63 bw_61 bw_60) rfl rfl rfl (by decide +kernel) ⟨(by rw [hR]; exact Nat.le_of_ble_eq_true rfl), (by rw [hR]; exact Nat.le_of_ble_eq_true rfl)⟩) ⟨cP_blind, cP_at hPc hKc hDc hN⟩ rfl rfl hl.1 rfl (lv_room (Nat.le_of_ble_eq_true rfl)) dX9_laid_96 ⟨(by rw [hR]; exact Nat.le_of_ble_eq_true rfl), (by rw [hR]; exact Nat.le_of_ble_eq_true rfl)⟩) hS (fun q _ h => hFc q h) hFc (fun r_18 u9 t9 H1 locs ht hvm hr_18 hB hz1 hk1 hS => ?_)
      try dsimp only at hr_18
      have hP1 : va_P D vwCl [] H1 := vP_nil
      have hD1 : va_D (va_A [] H.size) [] := vD_nil
      obtain ⟨hP, hD⟩ := va_join (wr := [(h0, .inr (9, [.ref m1, .ref m2, .ref m3, .int ik, .int wy, .int op, .int cl, .int cx0, .int cx1, .int cy0, .int cy1, .int ds, .ref m4, .ref m5, .ref m6, .ref m7, .ref m8, .ref m9, .int pn, .ref m10, .ref m11, .ref m12, .ref m13]))]) (w1 := []) hP hD [] [0] rfl rfl (by decide) (by decide) hk1 hFc hP1 hD1
      clear hz1 hk1 hFc hKc hDc hPc
      generalize H1 = H at hP hS ⊢
      have hP : va_P D vwCl [(h0, .inr (9, [.ref m1, .ref m2, .ref m3, .int ik, .int wy, .int op, .int cl, .int cx0, .int cx1, .int cy0, .int cy1, .int ds, .ref m4, .ref m5, .ref m6, .ref m7, .ref m8, .ref m9, .int pn, .ref m10, .ref m11, .ref m12, .ref m13]))] H := hP
      have hD : va_D A [(h0, .inr (9, [.ref m1, .ref m2, .ref m3, .int ik, .int wy, .int op, .int cl, .int cx0, .int cx1, .int cy0, .int cy1, .int ds, .ref m4, .ref m5, .ref m6, .ref m7, .ref m8, .ref m9, .int pn, .ref m10, .ref m11, .ref m12, .ref m13]))] := hD
      refine lv_sipush (v := 255) hx hb dX9_laid_99 (by decide) ?_
      refine lv_iload_n hx hb dX9_laid_102 rfl (lv_at hl 8 rfl) ?_
      refine lv_isub hx hb dX9_laid_103 ?_
      refine lv_topi (fun y_19 ey_19 => ?_)
      refine lv_imul hx hb dX9_laid_104 ?_
      refine lv_topi (fun y_20 ey_20 => ?_)
      refine lv_iadd hx hb dX9_laid_105 ?_
      refine lv_topi (fun y_21 ey_21 => ?_)
      refine lv_sipush (v := 255) hx hb dX9_laid_106 (by decide) ?_
      have hPc := hP.sub (ws' := []) [] rfl
      have hDc := hD.sub (ws' := []) [] (by decide) rfl
      have hKc := hK.sub (tys' := []) [] rfl
      have hFc := va_free (wc := []) hD hS hA [] rfl
      refine va_calli (va_runS (As := [.int y_21, .int 255]) (rest := [.int 0]) ⟨hx, hb, hml, hown, hts⟩ (k_X9_nearest_255 l D H.size y_21) (va_cwS 2 hts (gS bw_65 bw_66 bw_61 bw_64) rfl rfl rfl (by decide +kernel) ⟨(by rw [hR]; exact Nat.le_of_ble_eq_true rfl), (by rw [hR]; exact Nat.le_of_ble_eq_true rfl)⟩) ⟨cP_blind, cP_at hPc hKc hDc hN⟩ rfl rfl hl.1 rfl (lv_room (Nat.le_of_ble_eq_true rfl)) dX9_laid_109 ⟨(by rw [hR]; exact Nat.le_of_ble_eq_true rfl), (by rw [hR]; exact Nat.le_of_ble_eq_true rfl)⟩) hS (fun q _ h => hFc q h) hFc (fun r_22 u9 t9 H1 locs ht hvm hr_22 hB hz1 hk1 hS => ?_)
      try dsimp only at hr_22
      have hP1 : va_P D vwCl [] H1 := vP_nil
      have hD1 : va_D (va_A [] H.size) [] := vD_nil
      obtain ⟨hP, hD⟩ := va_join (wr := [(h0, .inr (9, [.ref m1, .ref m2, .ref m3, .int ik, .int wy, .int op, .int cl, .int cx0, .int cx1, .int cy0, .int cy1, .int ds, .ref m4, .ref m5, .ref m6, .ref m7, .ref m8, .ref m9, .int pn, .ref m10, .ref m11, .ref m12, .ref m13]))]) (w1 := []) hP hD [] [0] rfl rfl (by decide) (by decide) hk1 hFc hP1 hD1
      clear hz1 hk1 hFc hKc hDc hPc
      generalize H1 = H at hP hS ⊢
      have hP : va_P D vwCl [(h0, .inr (9, [.ref m1, .ref m2, .ref m3, .int ik, .int wy, .int op, .int cl, .int cx0, .int cx1, .int cy0, .int cy1, .int ds, .ref m4, .ref m5, .ref m6, .ref m7, .ref m8, .ref m9, .int pn, .ref m10, .ref m11, .ref m12, .ref m13]))] H := hP
      have hD : va_D A [(h0, .inr (9, [.ref m1, .ref m2, .ref m3, .int ik, .int wy, .int op, .int cl, .int cx0, .int cx1, .int cy0, .int cy1, .int ds, .ref m4, .ref m5, .ref m6, .ref m7, .ref m8, .ref m9, .int pn, .ref m10, .ref m11, .ref m12, .ref m13]))] := hD
      refine lv_ior hx hb dX9_laid_112 ?_
      refine lv_topi (fun y_23 ey_23 => ?_)
      refine lv_istore (lv' := [(6, .int y_23), (8, .int u_16), (7, .int 0), (5, .int r_6), (4, .int r_3), (0, .ref h0), (1, .int n), (2, .int d), (3, .int v)]) hx hb dX9_laid_113 hl (by decide) rfl (fun ls hl => ?_)
      refine lv_iinc (v := 1) (lv' := [(7, .int 1), (6, .int y_23), (8, .int u_16), (5, .int r_6), (4, .int r_3), (0, .ref h0), (1, .int n), (2, .int d), (3, .int v)]) hx hb dX9_laid_115 hl (k := 2) rfl (by decide) (by decide) rfl (fun ls hl => ?_)
      refine lv_goto (tgt := 38) hx hb dX9_laid_118 (by decide) ?_
      refine lv_iload hx hb dX9_laid_38 (lv_at hl 0 rfl) ?_
      refine lv_iconst (v := 4) hx hb dX9_laid_40 (by decide) ?_
      refine lv_icmp_ge (tgt := 121) hx hb dX9_laid_41 (by decide) (fun c_24 => ?_) (fun c_24 => ?_)
      · skip
        exact absurd c_24 (by decide)
      · skip
        refine lv_iload_n hx hb dX9_laid_44 rfl (lv_at hl 6 rfl) ?_
        refine lv_iload hx hb dX9_laid_45 (lv_at hl 0 rfl) ?_
        have hPc := hP.sub (ws' := []) [] rfl
        have hDc := hD.sub (ws' := []) [] (by decide) rfl
        have hKc := hK.sub (tys' := []) [] rfl
        have hFc := va_free (wc := []) hD hS hA [] rfl
        refine va_calli (va_runS (As := [.int n, .int 1]) (rest := []) ⟨hx, hb, hml, hown, hts⟩ (k_X9_channel_1 l D H.size n) (va_cwS 2 hts (gS bw_62 bw_63 bw_61 bw_60) rfl rfl rfl (by decide +kernel) ⟨(by rw [hR]; exact Nat.le_of_ble_eq_true rfl), (by rw [hR]; exact Nat.le_of_ble_eq_true rfl)⟩) ⟨cP_blind, cP_at hPc hKc hDc hN⟩ rfl rfl hl.1 rfl (lv_room (Nat.le_of_ble_eq_true rfl)) dX9_laid_47 ⟨(by rw [hR]; exact Nat.le_of_ble_eq_true rfl), (by rw [hR]; exact Nat.le_of_ble_eq_true rfl)⟩) hS (fun q _ h => hFc q h) hFc (fun r_26 u9 t9 H1 locs ht hvm hr_26 hB hz1 hk1 hS => ?_)
        try dsimp only at hr_26
        have hP1 : va_P D vwCl [] H1 := vP_nil
        have hD1 : va_D (va_A [] H.size) [] := vD_nil
        obtain ⟨hP, hD⟩ := va_join (wr := [(h0, .inr (9, [.ref m1, .ref m2, .ref m3, .int ik, .int wy, .int op, .int cl, .int cx0, .int cx1, .int cy0, .int cy1, .int ds, .ref m4, .ref m5, .ref m6, .ref m7, .ref m8, .ref m9, .int pn, .ref m10, .ref m11, .ref m12, .ref m13]))]) (w1 := []) hP hD [] [0] rfl rfl (by decide) (by decide) hk1 hFc hP1 hD1
        clear hz1 hk1 hFc hKc hDc hPc
        generalize H1 = H at hP hS ⊢
        have hP : va_P D vwCl [(h0, .inr (9, [.ref m1, .ref m2, .ref m3, .int ik, .int wy, .int op, .int cl, .int cx0, .int cx1, .int cy0, .int cy1, .int ds, .ref m4, .ref m5, .ref m6, .ref m7, .ref m8, .ref m9, .int pn, .ref m10, .ref m11, .ref m12, .ref m13]))] H := hP
        have hD : va_D A [(h0, .inr (9, [.ref m1, .ref m2, .ref m3, .int ik, .int wy, .int op, .int cl, .int cx0, .int cx1, .int cy0, .int cy1, .int ds, .ref m4, .ref m5, .ref m6, .ref m7, .ref m8, .ref m9, .int pn, .ref m10, .ref m11, .ref m12, .ref m13]))] := hD
        refine lv_iload hx hb dX9_laid_50 (lv_at hl 4 rfl) ?_
        refine lv_imul hx hb dX9_laid_52 ?_
        refine lv_topi (fun y_27 ey_27 => ?_)
        refine lv_iload_n hx hb dX9_laid_53 rfl (lv_at hl 7 rfl) ?_
        refine lv_iload hx hb dX9_laid_54 (lv_at hl 0 rfl) ?_
        have hPc := hP.sub (ws' := []) [] rfl
        have hDc := hD.sub (ws' := []) [] (by decide) rfl
        have hKc := hK.sub (tys' := []) [] rfl
        have hFc := va_free (wc := []) hD hS hA [] rfl
        refine va_calli (va_runS (As := [.int d, .int 1]) (rest := [.int y_27]) ⟨hx, hb, hml, hown, hts⟩ (k_X9_channel_1 l D H.size d) (va_cwS 2 hts (gS bw_62 bw_63 bw_61 bw_60) rfl rfl rfl (by decide +kernel) ⟨(by rw [hR]; exact Nat.le_of_ble_eq_true rfl), (by rw [hR]; exact Nat.le_of_ble_eq_true rfl)⟩) ⟨cP_blind, cP_at hPc hKc hDc hN⟩ rfl rfl hl.1 rfl (lv_room (Nat.le_of_ble_eq_true rfl)) dX9_laid_56 ⟨(by rw [hR]; exact Nat.le_of_ble_eq_true rfl), (by rw [hR]; exact Nat.le_of_ble_eq_true rfl)⟩) hS (fun q _ h => hFc q h) hFc (fun r_28 u9 t9 H1 locs ht hvm hr_28 hB hz1 hk1 hS => ?_)
        try dsimp only at hr_28
        have hP1 : va_P D vwCl [] H1 := vP_nil
        have hD1 : va_D (va_A [] H.size) [] := vD_nil
        obtain ⟨hP, hD⟩ := va_join (wr := [(h0, .inr (9, [.ref m1, .ref m2, .ref m3, .int ik, .int wy, .int op, .int cl, .int cx0, .int cx1, .int cy0, .int cy1, .int ds, .ref m4, .ref m5, .ref m6, .ref m7, .ref m8, .ref m9, .int pn, .ref m10, .ref m11, .ref m12, .ref m13]))]) (w1 := []) hP hD [] [0] rfl rfl (by decide) (by decide) hk1 hFc hP1 hD1
        clear hz1 hk1 hFc hKc hDc hPc
        generalize H1 = H at hP hS ⊢
        have hP : va_P D vwCl [(h0, .inr (9, [.ref m1, .ref m2, .ref m3, .int ik, .int wy, .int op, .int cl, .int cx0, .int cx1, .int cy0, .int cy1, .int ds, .ref m4, .ref m5, .ref m6, .ref m7, .ref m8, .ref m9, .int pn, .ref m10, .ref m11, .ref m12, .ref m13]))] H := hP
        have hD : va_D A [(h0, .inr (9, [.ref m1, .ref m2, .ref m3, .int ik, .int wy, .int op, .int cl, .int cx0, .int cx1, .int cy0, .int cy1, .int ds, .ref m4, .ref m5, .ref m6, .ref m7, .ref m8, .ref m9, .int pn, .ref m10, .ref m11, .ref m12, .ref m13]))] := hD
        refine lv_iload hx hb dX9_laid_59 (lv_at hl 3 rfl) ?_
        refine lv_imul hx hb dX9_laid_61 ?_
        refine lv_topi (fun y_29 ey_29 => ?_)
        refine lv_iadd hx hb dX9_laid_62 ?_
        refine lv_topi (fun y_30 ey_30 => ?_)
        refine lv_sipush (v := 255) hx hb dX9_laid_63 (by decide) ?_
        have hPc := hP.sub (ws' := []) [] rfl
        have hDc := hD.sub (ws' := []) [] (by decide) rfl
        have hKc := hK.sub (tys' := []) [] rfl
        have hFc := va_free (wc := []) hD hS hA [] rfl
        refine va_calli (va_runS (As := [.int y_30, .int 255]) (rest := []) ⟨hx, hb, hml, hown, hts⟩ (k_X9_nearest_255 l D H.size y_30) (va_cwS 2 hts (gS bw_65 bw_66 bw_61 bw_64) rfl rfl rfl (by decide +kernel) ⟨(by rw [hR]; exact Nat.le_of_ble_eq_true rfl), (by rw [hR]; exact Nat.le_of_ble_eq_true rfl)⟩) ⟨cP_blind, cP_at hPc hKc hDc hN⟩ rfl rfl hl.1 rfl (lv_room (Nat.le_of_ble_eq_true rfl)) dX9_laid_66 ⟨(by rw [hR]; exact Nat.le_of_ble_eq_true rfl), (by rw [hR]; exact Nat.le_of_ble_eq_true rfl)⟩) hS (fun q _ h => hFc q h) hFc (fun r_31 u9 t9 H1 locs ht hvm hr_31 hB hz1 hk1 hS => ?_)
        try dsimp only at hr_31
        have hP1 : va_P D vwCl [] H1 := vP_nil
        have hD1 : va_D (va_A [] H.size) [] := vD_nil
        obtain ⟨hP, hD⟩ := va_join (wr := [(h0, .inr (9, [.ref m1, .ref m2, .ref m3, .int ik, .int wy, .int op, .int cl, .int cx0, .int cx1, .int cy0, .int cy1, .int ds, .ref m4, .ref m5, .ref m6, .ref m7, .ref m8, .ref m9, .int pn, .ref m10, .ref m11, .ref m12, .ref m13]))]) (w1 := []) hP hD [] [0] rfl rfl (by decide) (by decide) hk1 hFc hP1 hD1
        clear hz1 hk1 hFc hKc hDc hPc
        generalize H1 = H at hP hS ⊢
        have hP : va_P D vwCl [(h0, .inr (9, [.ref m1, .ref m2, .ref m3, .int ik, .int wy, .int op, .int cl, .int cx0, .int cx1, .int cy0, .int cy1, .int ds, .ref m4, .ref m5, .ref m6, .ref m7, .ref m8, .ref m9, .int pn, .ref m10, .ref m11, .ref m12, .ref m13]))] H := hP
        have hD : va_D A [(h0, .inr (9, [.ref m1, .ref m2, .ref m3, .int ik, .int wy, .int op, .int cl, .int cx0, .int cx1, .int cy0, .int cy1, .int ds, .ref m4, .ref m5, .ref m6, .ref m7, .ref m8, .ref m9, .int pn, .ref m10, .ref m11, .ref m12, .ref m13]))] := hD
        refine lv_istore (lv' := [(8, .int r_31), (7, .int 1), (6, .int y_23), (5, .int r_6), (4, .int r_3), (0, .ref h0), (1, .int n), (2, .int d), (3, .int v)]) hx hb dX9_laid_69 hl (by decide) rfl (fun ls hl => ?_)
        have join_32 : ∀ (u_33 : Int32) (ls : Array Slot), (u_33 = mnP r_31) → lv_has ls 9 [(8, .int u_33), (7, .int 1), (6, .int y_23), (5, .int r_6), (4, .int r_3), (0, .ref h0), (1, .int n), (2, .int d), (3, .int v)] → W p l e R s m ([.ref h0, .int n, .int d, .int v] : List Value).toArray below meth c H locs 0 0 Q (F0 m 84 ls []) := by
          intro u_33 ls hu_33 hl
          refine lv_iload hx hb dX9_laid_84 (lv_at hl 2 rfl) ?_
          refine lv_bipush (v := 8) hx hb dX9_laid_86 (by decide) ?_
          refine lv_ishl hx hb dX9_laid_88 ?_
          refine lv_topi (fun y_34 ey_34 => ?_)
          refine lv_iload hx hb dX9_laid_89 (lv_at hl 0 rfl) ?_
          refine lv_iload_n hx hb dX9_laid_91 rfl (lv_at hl 8 rfl) ?_
          refine lv_imul hx hb dX9_laid_92 ?_
          refine lv_topi (fun y_35 ey_35 => ?_)
          refine lv_iload_n hx hb dX9_laid_93 rfl (lv_at hl 7 rfl) ?_
          refine lv_iload hx hb dX9_laid_94 (lv_at hl 1 rfl) ?_
          have hPc := hP.sub (ws' := []) [] rfl
          have hDc := hD.sub (ws' := []) [] (by decide) rfl
          have hKc := hK.sub (tys' := []) [] rfl
          have hFc := va_free (wc := []) hD hS hA [] rfl
          refine va_calli (va_runS (As := [.int d, .int 1]) (rest := [.int y_35, .int y_34]) ⟨hx, hb, hml, hown, hts⟩ (k_X9_channel_1 l D H.size d) (va_cwS 2 hts (gS bw_62 bw_63 bw_61 bw_60) rfl rfl rfl (by decide +kernel) ⟨(by rw [hR]; exact Nat.le_of_ble_eq_true rfl), (by rw [hR]; exact Nat.le_of_ble_eq_true rfl)⟩) ⟨cP_blind, cP_at hPc hKc hDc hN⟩ rfl rfl hl.1 rfl (lv_room (Nat.le_of_ble_eq_true rfl)) dX9_laid_96 ⟨(by rw [hR]; exact Nat.le_of_ble_eq_true rfl), (by rw [hR]; exact Nat.le_of_ble_eq_true rfl)⟩) hS (fun q _ h => hFc q h) hFc (fun r_36 u9 t9 H1 locs ht hvm hr_36 hB hz1 hk1 hS => ?_)
          try dsimp only at hr_36
          have hP1 : va_P D vwCl [] H1 := vP_nil
          have hD1 : va_D (va_A [] H.size) [] := vD_nil
          obtain ⟨hP, hD⟩ := va_join (wr := [(h0, .inr (9, [.ref m1, .ref m2, .ref m3, .int ik, .int wy, .int op, .int cl, .int cx0, .int cx1, .int cy0, .int cy1, .int ds, .ref m4, .ref m5, .ref m6, .ref m7, .ref m8, .ref m9, .int pn, .ref m10, .ref m11, .ref m12, .ref m13]))]) (w1 := []) hP hD [] [0] rfl rfl (by decide) (by decide) hk1 hFc hP1 hD1
          clear hz1 hk1 hFc hKc hDc hPc
          generalize H1 = H at hP hS ⊢
          have hP : va_P D vwCl [(h0, .inr (9, [.ref m1, .ref m2, .ref m3, .int ik, .int wy, .int op, .int cl, .int cx0, .int cx1, .int cy0, .int cy1, .int ds, .ref m4, .ref m5, .ref m6, .ref m7, .ref m8, .ref m9, .int pn, .ref m10, .ref m11, .ref m12, .ref m13]))] H := hP
          have hD : va_D A [(h0, .inr (9, [.ref m1, .ref m2, .ref m3, .int ik, .int wy, .int op, .int cl, .int cx0, .int cx1, .int cy0, .int cy1, .int ds, .ref m4, .ref m5, .ref m6, .ref m7, .ref m8, .ref m9, .int pn, .ref m10, .ref m11, .ref m12, .ref m13]))] := hD
          refine lv_sipush (v := 255) hx hb dX9_laid_99 (by decide) ?_
          refine lv_iload_n hx hb dX9_laid_102 rfl (lv_at hl 8 rfl) ?_
          refine lv_isub hx hb dX9_laid_103 ?_
          refine lv_topi (fun y_37 ey_37 => ?_)
          refine lv_imul hx hb dX9_laid_104 ?_
          refine lv_topi (fun y_38 ey_38 => ?_)
          refine lv_iadd hx hb dX9_laid_105 ?_
          refine lv_topi (fun y_39 ey_39 => ?_)
          refine lv_sipush (v := 255) hx hb dX9_laid_106 (by decide) ?_
          have hPc := hP.sub (ws' := []) [] rfl
          have hDc := hD.sub (ws' := []) [] (by decide) rfl
          have hKc := hK.sub (tys' := []) [] rfl
          have hFc := va_free (wc := []) hD hS hA [] rfl
          refine va_calli (va_runS (As := [.int y_39, .int 255]) (rest := [.int y_34]) ⟨hx, hb, hml, hown, hts⟩ (k_X9_nearest_255 l D H.size y_39) (va_cwS 2 hts (gS bw_65 bw_66 bw_61 bw_64) rfl rfl rfl (by decide +kernel) ⟨(by rw [hR]; exact Nat.le_of_ble_eq_true rfl), (by rw [hR]; exact Nat.le_of_ble_eq_true rfl)⟩) ⟨cP_blind, cP_at hPc hKc hDc hN⟩ rfl rfl hl.1 rfl (lv_room (Nat.le_of_ble_eq_true rfl)) dX9_laid_109 ⟨(by rw [hR]; exact Nat.le_of_ble_eq_true rfl), (by rw [hR]; exact Nat.le_of_ble_eq_true rfl)⟩) hS (fun q _ h => hFc q h) hFc (fun r_40 u9 t9 H1 locs ht hvm hr_40 hB hz1 hk1 hS => ?_)
          try dsimp only at hr_40
          have hP1 : va_P D vwCl [] H1 := vP_nil
          have hD1 : va_D (va_A [] H.size) [] := vD_nil
          obtain ⟨hP, hD⟩ := va_join (wr := [(h0, .inr (9, [.ref m1, .ref m2, .ref m3, .int ik, .int wy, .int op, .int cl, .int cx0, .int cx1, .int cy0, .int cy1, .int ds, .ref m4, .ref m5, .ref m6, .ref m7, .ref m8, .ref m9, .int pn, .ref m10, .ref m11, .ref m12, .ref m13]))]) (w1 := []) hP hD [] [0] rfl rfl (by decide) (by decide) hk1 hFc hP1 hD1
          clear hz1 hk1 hFc hKc hDc hPc
          generalize H1 = H at hP hS ⊢
          have hP : va_P D vwCl [(h0, .inr (9, [.ref m1, .ref m2, .ref m3, .int ik, .int wy, .int op, .int cl, .int cx0, .int cx1, .int cy0, .int cy1, .int ds, .ref m4, .ref m5, .ref m6, .ref m7, .ref m8, .ref m9, .int pn, .ref m10, .ref m11, .ref m12, .ref m13]))] H := hP
          have hD : va_D A [(h0, .inr (9, [.ref m1, .ref m2, .ref m3, .int ik, .int wy, .int op, .int cl, .int cx0, .int cx1, .int cy0, .int cy1, .int ds, .ref m4, .ref m5, .ref m6, .ref m7, .ref m8, .ref m9, .int pn, .ref m10, .ref m11, .ref m12, .ref m13]))] := hD
          refine lv_ior hx hb dX9_laid_112 ?_
          refine lv_topi (fun y_41 ey_41 => ?_)
          refine lv_istore (lv' := [(6, .int y_41), (8, .int u_33), (7, .int 1), (5, .int r_6), (4, .int r_3), (0, .ref h0), (1, .int n), (2, .int d), (3, .int v)]) hx hb dX9_laid_113 hl (by decide) rfl (fun ls hl => ?_)
          refine lv_iinc (v := 2) (lv' := [(7, .int 2), (6, .int y_41), (8, .int u_33), (5, .int r_6), (4, .int r_3), (0, .ref h0), (1, .int n), (2, .int d), (3, .int v)]) hx hb dX9_laid_115 hl (k := 2) rfl (by decide) (by decide) rfl (fun ls hl => ?_)
          refine lv_goto (tgt := 38) hx hb dX9_laid_118 (by decide) ?_
          refine lv_iload hx hb dX9_laid_38 (lv_at hl 0 rfl) ?_
          refine lv_iconst (v := 4) hx hb dX9_laid_40 (by decide) ?_
          refine lv_icmp_ge (tgt := 121) hx hb dX9_laid_41 (by decide) (fun c_42 => ?_) (fun c_42 => ?_)
          · skip
            exact absurd c_42 (by decide)
          · skip
            refine lv_iload_n hx hb dX9_laid_44 rfl (lv_at hl 6 rfl) ?_
            refine lv_iload hx hb dX9_laid_45 (lv_at hl 0 rfl) ?_
            have hPc := hP.sub (ws' := []) [] rfl
            have hDc := hD.sub (ws' := []) [] (by decide) rfl
            have hKc := hK.sub (tys' := []) [] rfl
            have hFc := va_free (wc := []) hD hS hA [] rfl
            refine va_calli (va_runS (As := [.int n, .int 2]) (rest := []) ⟨hx, hb, hml, hown, hts⟩ (k_X9_channel_2 l D H.size n) (va_cwS 2 hts (gS bw_62 bw_63 bw_61 bw_60) rfl rfl rfl (by decide +kernel) ⟨(by rw [hR]; exact Nat.le_of_ble_eq_true rfl), (by rw [hR]; exact Nat.le_of_ble_eq_true rfl)⟩) ⟨cP_blind, cP_at hPc hKc hDc hN⟩ rfl rfl hl.1 rfl (lv_room (Nat.le_of_ble_eq_true rfl)) dX9_laid_47 ⟨(by rw [hR]; exact Nat.le_of_ble_eq_true rfl), (by rw [hR]; exact Nat.le_of_ble_eq_true rfl)⟩) hS (fun q _ h => hFc q h) hFc (fun r_44 u9 t9 H1 locs ht hvm hr_44 hB hz1 hk1 hS => ?_)
            try dsimp only at hr_44
            have hP1 : va_P D vwCl [] H1 := vP_nil
            have hD1 : va_D (va_A [] H.size) [] := vD_nil
            obtain ⟨hP, hD⟩ := va_join (wr := [(h0, .inr (9, [.ref m1, .ref m2, .ref m3, .int ik, .int wy, .int op, .int cl, .int cx0, .int cx1, .int cy0, .int cy1, .int ds, .ref m4, .ref m5, .ref m6, .ref m7, .ref m8, .ref m9, .int pn, .ref m10, .ref m11, .ref m12, .ref m13]))]) (w1 := []) hP hD [] [0] rfl rfl (by decide) (by decide) hk1 hFc hP1 hD1
            clear hz1 hk1 hFc hKc hDc hPc
            generalize H1 = H at hP hS ⊢
            have hP : va_P D vwCl [(h0, .inr (9, [.ref m1, .ref m2, .ref m3, .int ik, .int wy, .int op, .int cl, .int cx0, .int cx1, .int cy0, .int cy1, .int ds, .ref m4, .ref m5, .ref m6, .ref m7, .ref m8, .ref m9, .int pn, .ref m10, .ref m11, .ref m12, .ref m13]))] H := hP
            have hD : va_D A [(h0, .inr (9, [.ref m1, .ref m2, .ref m3, .int ik, .int wy, .int op, .int cl, .int cx0, .int cx1, .int cy0, .int cy1, .int ds, .ref m4, .ref m5, .ref m6, .ref m7, .ref m8, .ref m9, .int pn, .ref m10, .ref m11, .ref m12, .ref m13]))] := hD
            refine lv_iload hx hb dX9_laid_50 (lv_at hl 4 rfl) ?_
            refine lv_imul hx hb dX9_laid_52 ?_
            refine lv_topi (fun y_45 ey_45 => ?_)
            refine lv_iload_n hx hb dX9_laid_53 rfl (lv_at hl 7 rfl) ?_
            refine lv_iload hx hb dX9_laid_54 (lv_at hl 0 rfl) ?_
            have hPc := hP.sub (ws' := []) [] rfl
            have hDc := hD.sub (ws' := []) [] (by decide) rfl
            have hKc := hK.sub (tys' := []) [] rfl
            have hFc := va_free (wc := []) hD hS hA [] rfl
            refine va_calli (va_runS (As := [.int d, .int 2]) (rest := [.int y_45]) ⟨hx, hb, hml, hown, hts⟩ (k_X9_channel_2 l D H.size d) (va_cwS 2 hts (gS bw_62 bw_63 bw_61 bw_60) rfl rfl rfl (by decide +kernel) ⟨(by rw [hR]; exact Nat.le_of_ble_eq_true rfl), (by rw [hR]; exact Nat.le_of_ble_eq_true rfl)⟩) ⟨cP_blind, cP_at hPc hKc hDc hN⟩ rfl rfl hl.1 rfl (lv_room (Nat.le_of_ble_eq_true rfl)) dX9_laid_56 ⟨(by rw [hR]; exact Nat.le_of_ble_eq_true rfl), (by rw [hR]; exact Nat.le_of_ble_eq_true rfl)⟩) hS (fun q _ h => hFc q h) hFc (fun r_46 u9 t9 H1 locs ht hvm hr_46 hB hz1 hk1 hS => ?_)
            try dsimp only at hr_46
            have hP1 : va_P D vwCl [] H1 := vP_nil
            have hD1 : va_D (va_A [] H.size) [] := vD_nil
            obtain ⟨hP, hD⟩ := va_join (wr := [(h0, .inr (9, [.ref m1, .ref m2, .ref m3, .int ik, .int wy, .int op, .int cl, .int cx0, .int cx1, .int cy0, .int cy1, .int ds, .ref m4, .ref m5, .ref m6, .ref m7, .ref m8, .ref m9, .int pn, .ref m10, .ref m11, .ref m12, .ref m13]))]) (w1 := []) hP hD [] [0] rfl rfl (by decide) (by decide) hk1 hFc hP1 hD1
            clear hz1 hk1 hFc hKc hDc hPc
            generalize H1 = H at hP hS ⊢
            have hP : va_P D vwCl [(h0, .inr (9, [.ref m1, .ref m2, .ref m3, .int ik, .int wy, .int op, .int cl, .int cx0, .int cx1, .int cy0, .int cy1, .int ds, .ref m4, .ref m5, .ref m6, .ref m7, .ref m8, .ref m9, .int pn, .ref m10, .ref m11, .ref m12, .ref m13]))] H := hP
            have hD : va_D A [(h0, .inr (9, [.ref m1, .ref m2, .ref m3, .int ik, .int wy, .int op, .int cl, .int cx0, .int cx1, .int cy0, .int cy1, .int ds, .ref m4, .ref m5, .ref m6, .ref m7, .ref m8, .ref m9, .int pn, .ref m10, .ref m11, .ref m12, .ref m13]))] := hD
            refine lv_iload hx hb dX9_laid_59 (lv_at hl 3 rfl) ?_
            refine lv_imul hx hb dX9_laid_61 ?_
            refine lv_topi (fun y_47 ey_47 => ?_)
            refine lv_iadd hx hb dX9_laid_62 ?_
            refine lv_topi (fun y_48 ey_48 => ?_)
            refine lv_sipush (v := 255) hx hb dX9_laid_63 (by decide) ?_
            have hPc := hP.sub (ws' := []) [] rfl
            have hDc := hD.sub (ws' := []) [] (by decide) rfl
            have hKc := hK.sub (tys' := []) [] rfl
            have hFc := va_free (wc := []) hD hS hA [] rfl
            refine va_calli (va_runS (As := [.int y_48, .int 255]) (rest := []) ⟨hx, hb, hml, hown, hts⟩ (k_X9_nearest_255 l D H.size y_48) (va_cwS 2 hts (gS bw_65 bw_66 bw_61 bw_64) rfl rfl rfl (by decide +kernel) ⟨(by rw [hR]; exact Nat.le_of_ble_eq_true rfl), (by rw [hR]; exact Nat.le_of_ble_eq_true rfl)⟩) ⟨cP_blind, cP_at hPc hKc hDc hN⟩ rfl rfl hl.1 rfl (lv_room (Nat.le_of_ble_eq_true rfl)) dX9_laid_66 ⟨(by rw [hR]; exact Nat.le_of_ble_eq_true rfl), (by rw [hR]; exact Nat.le_of_ble_eq_true rfl)⟩) hS (fun q _ h => hFc q h) hFc (fun r_49 u9 t9 H1 locs ht hvm hr_49 hB hz1 hk1 hS => ?_)
            try dsimp only at hr_49
            have hP1 : va_P D vwCl [] H1 := vP_nil
            have hD1 : va_D (va_A [] H.size) [] := vD_nil
            obtain ⟨hP, hD⟩ := va_join (wr := [(h0, .inr (9, [.ref m1, .ref m2, .ref m3, .int ik, .int wy, .int op, .int cl, .int cx0, .int cx1, .int cy0, .int cy1, .int ds, .ref m4, .ref m5, .ref m6, .ref m7, .ref m8, .ref m9, .int pn, .ref m10, .ref m11, .ref m12, .ref m13]))]) (w1 := []) hP hD [] [0] rfl rfl (by decide) (by decide) hk1 hFc hP1 hD1
            clear hz1 hk1 hFc hKc hDc hPc
            generalize H1 = H at hP hS ⊢
            have hP : va_P D vwCl [(h0, .inr (9, [.ref m1, .ref m2, .ref m3, .int ik, .int wy, .int op, .int cl, .int cx0, .int cx1, .int cy0, .int cy1, .int ds, .ref m4, .ref m5, .ref m6, .ref m7, .ref m8, .ref m9, .int pn, .ref m10, .ref m11, .ref m12, .ref m13]))] H := hP
            have hD : va_D A [(h0, .inr (9, [.ref m1, .ref m2, .ref m3, .int ik, .int wy, .int op, .int cl, .int cx0, .int cx1, .int cy0, .int cy1, .int ds, .ref m4, .ref m5, .ref m6, .ref m7, .ref m8, .ref m9, .int pn, .ref m10, .ref m11, .ref m12, .ref m13]))] := hD
            refine lv_istore (lv' := [(8, .int r_49), (7, .int 2), (6, .int y_41), (5, .int r_6), (4, .int r_3), (0, .ref h0), (1, .int n), (2, .int d), (3, .int v)]) hx hb dX9_laid_69 hl (by decide) rfl (fun ls hl => ?_)
            have join_50 : ∀ (u_51 : Int32) (ls : Array Slot), (u_51 = mnP r_49) → lv_has ls 9 [(8, .int u_51), (7, .int 2), (6, .int y_41), (5, .int r_6), (4, .int r_3), (0, .ref h0), (1, .int n), (2, .int d), (3, .int v)] → W p l e R s m ([.ref h0, .int n, .int d, .int v] : List Value).toArray below meth c H locs 0 0 Q (F0 m 84 ls []) := by
              intro u_51 ls hu_51 hl
              refine lv_iload hx hb dX9_laid_84 (lv_at hl 2 rfl) ?_
              refine lv_bipush (v := 8) hx hb dX9_laid_86 (by decide) ?_
              refine lv_ishl hx hb dX9_laid_88 ?_
              refine lv_topi (fun y_52 ey_52 => ?_)
              refine lv_iload hx hb dX9_laid_89 (lv_at hl 0 rfl) ?_
              refine lv_iload_n hx hb dX9_laid_91 rfl (lv_at hl 8 rfl) ?_
              refine lv_imul hx hb dX9_laid_92 ?_
              refine lv_topi (fun y_53 ey_53 => ?_)
              refine lv_iload_n hx hb dX9_laid_93 rfl (lv_at hl 7 rfl) ?_
              refine lv_iload hx hb dX9_laid_94 (lv_at hl 1 rfl) ?_
              have hPc := hP.sub (ws' := []) [] rfl
              have hDc := hD.sub (ws' := []) [] (by decide) rfl
              have hKc := hK.sub (tys' := []) [] rfl
              have hFc := va_free (wc := []) hD hS hA [] rfl
              refine va_calli (va_runS (As := [.int d, .int 2]) (rest := [.int y_53, .int y_52]) ⟨hx, hb, hml, hown, hts⟩ (k_X9_channel_2 l D H.size d) (va_cwS 2 hts (gS bw_62 bw_63 bw_61 bw_60) rfl rfl rfl (by decide +kernel) ⟨(by rw [hR]; exact Nat.le_of_ble_eq_true rfl), (by rw [hR]; exact Nat.le_of_ble_eq_true rfl)⟩) ⟨cP_blind, cP_at hPc hKc hDc hN⟩ rfl rfl hl.1 rfl (lv_room (Nat.le_of_ble_eq_true rfl)) dX9_laid_96 ⟨(by rw [hR]; exact Nat.le_of_ble_eq_true rfl), (by rw [hR]; exact Nat.le_of_ble_eq_true rfl)⟩) hS (fun q _ h => hFc q h) hFc (fun r_54 u9 t9 H1 locs ht hvm hr_54 hB hz1 hk1 hS => ?_)
              try dsimp only at hr_54
              have hP1 : va_P D vwCl [] H1 := vP_nil
              have hD1 : va_D (va_A [] H.size) [] := vD_nil
              obtain ⟨hP, hD⟩ := va_join (wr := [(h0, .inr (9, [.ref m1, .ref m2, .ref m3, .int ik, .int wy, .int op, .int cl, .int cx0, .int cx1, .int cy0, .int cy1, .int ds, .ref m4, .ref m5, .ref m6, .ref m7, .ref m8, .ref m9, .int pn, .ref m10, .ref m11, .ref m12, .ref m13]))]) (w1 := []) hP hD [] [0] rfl rfl (by decide) (by decide) hk1 hFc hP1 hD1
              clear hz1 hk1 hFc hKc hDc hPc
              generalize H1 = H at hP hS ⊢
              have hP : va_P D vwCl [(h0, .inr (9, [.ref m1, .ref m2, .ref m3, .int ik, .int wy, .int op, .int cl, .int cx0, .int cx1, .int cy0, .int cy1, .int ds, .ref m4, .ref m5, .ref m6, .ref m7, .ref m8, .ref m9, .int pn, .ref m10, .ref m11, .ref m12, .ref m13]))] H := hP
              have hD : va_D A [(h0, .inr (9, [.ref m1, .ref m2, .ref m3, .int ik, .int wy, .int op, .int cl, .int cx0, .int cx1, .int cy0, .int cy1, .int ds, .ref m4, .ref m5, .ref m6, .ref m7, .ref m8, .ref m9, .int pn, .ref m10, .ref m11, .ref m12, .ref m13]))] := hD
              refine lv_sipush (v := 255) hx hb dX9_laid_99 (by decide) ?_
              refine lv_iload_n hx hb dX9_laid_102 rfl (lv_at hl 8 rfl) ?_
              refine lv_isub hx hb dX9_laid_103 ?_
              refine lv_topi (fun y_55 ey_55 => ?_)
              refine lv_imul hx hb dX9_laid_104 ?_
              refine lv_topi (fun y_56 ey_56 => ?_)
              refine lv_iadd hx hb dX9_laid_105 ?_
              refine lv_topi (fun y_57 ey_57 => ?_)
              refine lv_sipush (v := 255) hx hb dX9_laid_106 (by decide) ?_
              have hPc := hP.sub (ws' := []) [] rfl
              have hDc := hD.sub (ws' := []) [] (by decide) rfl
              have hKc := hK.sub (tys' := []) [] rfl
              have hFc := va_free (wc := []) hD hS hA [] rfl
              refine va_calli (va_runS (As := [.int y_57, .int 255]) (rest := [.int y_52]) ⟨hx, hb, hml, hown, hts⟩ (k_X9_nearest_255 l D H.size y_57) (va_cwS 2 hts (gS bw_65 bw_66 bw_61 bw_64) rfl rfl rfl (by decide +kernel) ⟨(by rw [hR]; exact Nat.le_of_ble_eq_true rfl), (by rw [hR]; exact Nat.le_of_ble_eq_true rfl)⟩) ⟨cP_blind, cP_at hPc hKc hDc hN⟩ rfl rfl hl.1 rfl (lv_room (Nat.le_of_ble_eq_true rfl)) dX9_laid_109 ⟨(by rw [hR]; exact Nat.le_of_ble_eq_true rfl), (by rw [hR]; exact Nat.le_of_ble_eq_true rfl)⟩) hS (fun q _ h => hFc q h) hFc (fun r_58 u9 t9 H1 locs ht hvm hr_58 hB hz1 hk1 hS => ?_)
              try dsimp only at hr_58
              have hP1 : va_P D vwCl [] H1 := vP_nil
              have hD1 : va_D (va_A [] H.size) [] := vD_nil
              obtain ⟨hP, hD⟩ := va_join (wr := [(h0, .inr (9, [.ref m1, .ref m2, .ref m3, .int ik, .int wy, .int op, .int cl, .int cx0, .int cx1, .int cy0, .int cy1, .int ds, .ref m4, .ref m5, .ref m6, .ref m7, .ref m8, .ref m9, .int pn, .ref m10, .ref m11, .ref m12, .ref m13]))]) (w1 := []) hP hD [] [0] rfl rfl (by decide) (by decide) hk1 hFc hP1 hD1
              clear hz1 hk1 hFc hKc hDc hPc
              generalize H1 = H at hP hS ⊢
              have hP : va_P D vwCl [(h0, .inr (9, [.ref m1, .ref m2, .ref m3, .int ik, .int wy, .int op, .int cl, .int cx0, .int cx1, .int cy0, .int cy1, .int ds, .ref m4, .ref m5, .ref m6, .ref m7, .ref m8, .ref m9, .int pn, .ref m10, .ref m11, .ref m12, .ref m13]))] H := hP
              have hD : va_D A [(h0, .inr (9, [.ref m1, .ref m2, .ref m3, .int ik, .int wy, .int op, .int cl, .int cx0, .int cx1, .int cy0, .int cy1, .int ds, .ref m4, .ref m5, .ref m6, .ref m7, .ref m8, .ref m9, .int pn, .ref m10, .ref m11, .ref m12, .ref m13]))] := hD
              refine lv_ior hx hb dX9_laid_112 ?_
              refine lv_topi (fun y_59 ey_59 => ?_)
              refine lv_istore (lv' := [(6, .int y_59), (8, .int u_51), (7, .int 2), (5, .int r_6), (4, .int r_3), (0, .ref h0), (1, .int n), (2, .int d), (3, .int v)]) hx hb dX9_laid_113 hl (by decide) rfl (fun ls hl => ?_)
              refine lv_iinc (v := 3) (lv' := [(7, .int 3), (6, .int y_59), (8, .int u_51), (5, .int r_6), (4, .int r_3), (0, .ref h0), (1, .int n), (2, .int d), (3, .int v)]) hx hb dX9_laid_115 hl (k := 2) rfl (by decide) (by decide) rfl (fun ls hl => ?_)
              refine lv_goto (tgt := 38) hx hb dX9_laid_118 (by decide) ?_
              refine lv_iload hx hb dX9_laid_38 (lv_at hl 0 rfl) ?_
              refine lv_iconst (v := 4) hx hb dX9_laid_40 (by decide) ?_
              refine lv_icmp_ge (tgt := 121) hx hb dX9_laid_41 (by decide) (fun c_60 => ?_) (fun c_60 => ?_)
              · skip
                exact absurd c_60 (by decide)
              · skip
                refine lv_iload_n hx hb dX9_laid_44 rfl (lv_at hl 6 rfl) ?_
                refine lv_iload hx hb dX9_laid_45 (lv_at hl 0 rfl) ?_
                have hPc := hP.sub (ws' := []) [] rfl
                have hDc := hD.sub (ws' := []) [] (by decide) rfl
                have hKc := hK.sub (tys' := []) [] rfl
                have hFc := va_free (wc := []) hD hS hA [] rfl
                refine va_calli (va_runS (As := [.int n, .int 3]) (rest := []) ⟨hx, hb, hml, hown, hts⟩ (k_X9_channel_3 l D H.size n) (va_cwS 2 hts (gS bw_62 bw_63 bw_61 bw_60) rfl rfl rfl (by decide +kernel) ⟨(by rw [hR]; exact Nat.le_of_ble_eq_true rfl), (by rw [hR]; exact Nat.le_of_ble_eq_true rfl)⟩) ⟨cP_blind, cP_at hPc hKc hDc hN⟩ rfl rfl hl.1 rfl (lv_room (Nat.le_of_ble_eq_true rfl)) dX9_laid_47 ⟨(by rw [hR]; exact Nat.le_of_ble_eq_true rfl), (by rw [hR]; exact Nat.le_of_ble_eq_true rfl)⟩) hS (fun q _ h => hFc q h) hFc (fun r_62 u9 t9 H1 locs ht hvm hr_62 hB hz1 hk1 hS => ?_)
                try dsimp only at hr_62
                have hP1 : va_P D vwCl [] H1 := vP_nil
                have hD1 : va_D (va_A [] H.size) [] := vD_nil
                obtain ⟨hP, hD⟩ := va_join (wr := [(h0, .inr (9, [.ref m1, .ref m2, .ref m3, .int ik, .int wy, .int op, .int cl, .int cx0, .int cx1, .int cy0, .int cy1, .int ds, .ref m4, .ref m5, .ref m6, .ref m7, .ref m8, .ref m9, .int pn, .ref m10, .ref m11, .ref m12, .ref m13]))]) (w1 := []) hP hD [] [0] rfl rfl (by decide) (by decide) hk1 hFc hP1 hD1
                clear hz1 hk1 hFc hKc hDc hPc
                generalize H1 = H at hP hS ⊢
                have hP : va_P D vwCl [(h0, .inr (9, [.ref m1, .ref m2, .ref m3, .int ik, .int wy, .int op, .int cl, .int cx0, .int cx1, .int cy0, .int cy1, .int ds, .ref m4, .ref m5, .ref m6, .ref m7, .ref m8, .ref m9, .int pn, .ref m10, .ref m11, .ref m12, .ref m13]))] H := hP
                have hD : va_D A [(h0, .inr (9, [.ref m1, .ref m2, .ref m3, .int ik, .int wy, .int op, .int cl, .int cx0, .int cx1, .int cy0, .int cy1, .int ds, .ref m4, .ref m5, .ref m6, .ref m7, .ref m8, .ref m9, .int pn, .ref m10, .ref m11, .ref m12, .ref m13]))] := hD
                refine lv_iload hx hb dX9_laid_50 (lv_at hl 4 rfl) ?_
                refine lv_imul hx hb dX9_laid_52 ?_
                refine lv_topi (fun y_63 ey_63 => ?_)
                refine lv_iload_n hx hb dX9_laid_53 rfl (lv_at hl 7 rfl) ?_
                refine lv_iload hx hb dX9_laid_54 (lv_at hl 0 rfl) ?_
                have hPc := hP.sub (ws' := []) [] rfl
                have hDc := hD.sub (ws' := []) [] (by decide) rfl
                have hKc := hK.sub (tys' := []) [] rfl
                have hFc := va_free (wc := []) hD hS hA [] rfl
                refine va_calli (va_runS (As := [.int d, .int 3]) (rest := [.int y_63]) ⟨hx, hb, hml, hown, hts⟩ (k_X9_channel_3 l D H.size d) (va_cwS 2 hts (gS bw_62 bw_63 bw_61 bw_60) rfl rfl rfl (by decide +kernel) ⟨(by rw [hR]; exact Nat.le_of_ble_eq_true rfl), (by rw [hR]; exact Nat.le_of_ble_eq_true rfl)⟩) ⟨cP_blind, cP_at hPc hKc hDc hN⟩ rfl rfl hl.1 rfl (lv_room (Nat.le_of_ble_eq_true rfl)) dX9_laid_56 ⟨(by rw [hR]; exact Nat.le_of_ble_eq_true rfl), (by rw [hR]; exact Nat.le_of_ble_eq_true rfl)⟩) hS (fun q _ h => hFc q h) hFc (fun r_64 u9 t9 H1 locs ht hvm hr_64 hB hz1 hk1 hS => ?_)
                try dsimp only at hr_64
                have hP1 : va_P D vwCl [] H1 := vP_nil
                have hD1 : va_D (va_A [] H.size) [] := vD_nil
                obtain ⟨hP, hD⟩ := va_join (wr := [(h0, .inr (9, [.ref m1, .ref m2, .ref m3, .int ik, .int wy, .int op, .int cl, .int cx0, .int cx1, .int cy0, .int cy1, .int ds, .ref m4, .ref m5, .ref m6, .ref m7, .ref m8, .ref m9, .int pn, .ref m10, .ref m11, .ref m12, .ref m13]))]) (w1 := []) hP hD [] [0] rfl rfl (by decide) (by decide) hk1 hFc hP1 hD1
                clear hz1 hk1 hFc hKc hDc hPc
                generalize H1 = H at hP hS ⊢
                have hP : va_P D vwCl [(h0, .inr (9, [.ref m1, .ref m2, .ref m3, .int ik, .int wy, .int op, .int cl, .int cx0, .int cx1, .int cy0, .int cy1, .int ds, .ref m4, .ref m5, .ref m6, .ref m7, .ref m8, .ref m9, .int pn, .ref m10, .ref m11, .ref m12, .ref m13]))] H := hP
                have hD : va_D A [(h0, .inr (9, [.ref m1, .ref m2, .ref m3, .int ik, .int wy, .int op, .int cl, .int cx0, .int cx1, .int cy0, .int cy1, .int ds, .ref m4, .ref m5, .ref m6, .ref m7, .ref m8, .ref m9, .int pn, .ref m10, .ref m11, .ref m12, .ref m13]))] := hD
                refine lv_iload hx hb dX9_laid_59 (lv_at hl 3 rfl) ?_
                refine lv_imul hx hb dX9_laid_61 ?_
                refine lv_topi (fun y_65 ey_65 => ?_)
                refine lv_iadd hx hb dX9_laid_62 ?_
                refine lv_topi (fun y_66 ey_66 => ?_)
                refine lv_sipush (v := 255) hx hb dX9_laid_63 (by decide) ?_
                have hPc := hP.sub (ws' := []) [] rfl
                have hDc := hD.sub (ws' := []) [] (by decide) rfl
                have hKc := hK.sub (tys' := []) [] rfl
                have hFc := va_free (wc := []) hD hS hA [] rfl
                refine va_calli (va_runS (As := [.int y_66, .int 255]) (rest := []) ⟨hx, hb, hml, hown, hts⟩ (k_X9_nearest_255 l D H.size y_66) (va_cwS 2 hts (gS bw_65 bw_66 bw_61 bw_64) rfl rfl rfl (by decide +kernel) ⟨(by rw [hR]; exact Nat.le_of_ble_eq_true rfl), (by rw [hR]; exact Nat.le_of_ble_eq_true rfl)⟩) ⟨cP_blind, cP_at hPc hKc hDc hN⟩ rfl rfl hl.1 rfl (lv_room (Nat.le_of_ble_eq_true rfl)) dX9_laid_66 ⟨(by rw [hR]; exact Nat.le_of_ble_eq_true rfl), (by rw [hR]; exact Nat.le_of_ble_eq_true rfl)⟩) hS (fun q _ h => hFc q h) hFc (fun r_67 u9 t9 H1 locs ht hvm hr_67 hB hz1 hk1 hS => ?_)
                try dsimp only at hr_67
                have hP1 : va_P D vwCl [] H1 := vP_nil
                have hD1 : va_D (va_A [] H.size) [] := vD_nil
                obtain ⟨hP, hD⟩ := va_join (wr := [(h0, .inr (9, [.ref m1, .ref m2, .ref m3, .int ik, .int wy, .int op, .int cl, .int cx0, .int cx1, .int cy0, .int cy1, .int ds, .ref m4, .ref m5, .ref m6, .ref m7, .ref m8, .ref m9, .int pn, .ref m10, .ref m11, .ref m12, .ref m13]))]) (w1 := []) hP hD [] [0] rfl rfl (by decide) (by decide) hk1 hFc hP1 hD1
                clear hz1 hk1 hFc hKc hDc hPc
                generalize H1 = H at hP hS ⊢
                have hP : va_P D vwCl [(h0, .inr (9, [.ref m1, .ref m2, .ref m3, .int ik, .int wy, .int op, .int cl, .int cx0, .int cx1, .int cy0, .int cy1, .int ds, .ref m4, .ref m5, .ref m6, .ref m7, .ref m8, .ref m9, .int pn, .ref m10, .ref m11, .ref m12, .ref m13]))] H := hP
                have hD : va_D A [(h0, .inr (9, [.ref m1, .ref m2, .ref m3, .int ik, .int wy, .int op, .int cl, .int cx0, .int cx1, .int cy0, .int cy1, .int ds, .ref m4, .ref m5, .ref m6, .ref m7, .ref m8, .ref m9, .int pn, .ref m10, .ref m11, .ref m12, .ref m13]))] := hD
                refine lv_istore (lv' := [(8, .int r_67), (7, .int 3), (6, .int y_59), (5, .int r_6), (4, .int r_3), (0, .ref h0), (1, .int n), (2, .int d), (3, .int v)]) hx hb dX9_laid_69 hl (by decide) rfl (fun ls hl => ?_)
                have join_68 : ∀ (u_69 : Int32) (ls : Array Slot), (u_69 = mnP r_67) → lv_has ls 9 [(8, .int u_69), (7, .int 3), (6, .int y_59), (5, .int r_6), (4, .int r_3), (0, .ref h0), (1, .int n), (2, .int d), (3, .int v)] → W p l e R s m ([.ref h0, .int n, .int d, .int v] : List Value).toArray below meth c H locs 0 0 Q (F0 m 84 ls []) := by
                  intro u_69 ls hu_69 hl
                  refine lv_iload hx hb dX9_laid_84 (lv_at hl 2 rfl) ?_
                  refine lv_bipush (v := 8) hx hb dX9_laid_86 (by decide) ?_
                  refine lv_ishl hx hb dX9_laid_88 ?_
                  refine lv_topi (fun y_70 ey_70 => ?_)
                  refine lv_iload hx hb dX9_laid_89 (lv_at hl 0 rfl) ?_
                  refine lv_iload_n hx hb dX9_laid_91 rfl (lv_at hl 8 rfl) ?_
                  refine lv_imul hx hb dX9_laid_92 ?_
                  refine lv_topi (fun y_71 ey_71 => ?_)
                  refine lv_iload_n hx hb dX9_laid_93 rfl (lv_at hl 7 rfl) ?_
                  refine lv_iload hx hb dX9_laid_94 (lv_at hl 1 rfl) ?_
                  have hPc := hP.sub (ws' := []) [] rfl
                  have hDc := hD.sub (ws' := []) [] (by decide) rfl
                  have hKc := hK.sub (tys' := []) [] rfl
                  have hFc := va_free (wc := []) hD hS hA [] rfl
                  refine va_calli (va_runS (As := [.int d, .int 3]) (rest := [.int y_71, .int y_70]) ⟨hx, hb, hml, hown, hts⟩ (k_X9_channel_3 l D H.size d) (va_cwS 2 hts (gS bw_62 bw_63 bw_61 bw_60) rfl rfl rfl (by decide +kernel) ⟨(by rw [hR]; exact Nat.le_of_ble_eq_true rfl), (by rw [hR]; exact Nat.le_of_ble_eq_true rfl)⟩) ⟨cP_blind, cP_at hPc hKc hDc hN⟩ rfl rfl hl.1 rfl (lv_room (Nat.le_of_ble_eq_true rfl)) dX9_laid_96 ⟨(by rw [hR]; exact Nat.le_of_ble_eq_true rfl), (by rw [hR]; exact Nat.le_of_ble_eq_true rfl)⟩) hS (fun q _ h => hFc q h) hFc (fun r_72 u9 t9 H1 locs ht hvm hr_72 hB hz1 hk1 hS => ?_)
                  try dsimp only at hr_72
                  have hP1 : va_P D vwCl [] H1 := vP_nil
                  have hD1 : va_D (va_A [] H.size) [] := vD_nil
                  obtain ⟨hP, hD⟩ := va_join (wr := [(h0, .inr (9, [.ref m1, .ref m2, .ref m3, .int ik, .int wy, .int op, .int cl, .int cx0, .int cx1, .int cy0, .int cy1, .int ds, .ref m4, .ref m5, .ref m6, .ref m7, .ref m8, .ref m9, .int pn, .ref m10, .ref m11, .ref m12, .ref m13]))]) (w1 := []) hP hD [] [0] rfl rfl (by decide) (by decide) hk1 hFc hP1 hD1
                  clear hz1 hk1 hFc hKc hDc hPc
                  generalize H1 = H at hP hS ⊢
                  have hP : va_P D vwCl [(h0, .inr (9, [.ref m1, .ref m2, .ref m3, .int ik, .int wy, .int op, .int cl, .int cx0, .int cx1, .int cy0, .int cy1, .int ds, .ref m4, .ref m5, .ref m6, .ref m7, .ref m8, .ref m9, .int pn, .ref m10, .ref m11, .ref m12, .ref m13]))] H := hP
                  have hD : va_D A [(h0, .inr (9, [.ref m1, .ref m2, .ref m3, .int ik, .int wy, .int op, .int cl, .int cx0, .int cx1, .int cy0, .int cy1, .int ds, .ref m4, .ref m5, .ref m6, .ref m7, .ref m8, .ref m9, .int pn, .ref m10, .ref m11, .ref m12, .ref m13]))] := hD
                  refine lv_sipush (v := 255) hx hb dX9_laid_99 (by decide) ?_
                  refine lv_iload_n hx hb dX9_laid_102 rfl (lv_at hl 8 rfl) ?_
                  refine lv_isub hx hb dX9_laid_103 ?_
                  refine lv_topi (fun y_73 ey_73 => ?_)
                  refine lv_imul hx hb dX9_laid_104 ?_
                  refine lv_topi (fun y_74 ey_74 => ?_)
                  refine lv_iadd hx hb dX9_laid_105 ?_
                  refine lv_topi (fun y_75 ey_75 => ?_)
                  refine lv_sipush (v := 255) hx hb dX9_laid_106 (by decide) ?_
                  have hPc := hP.sub (ws' := []) [] rfl
                  have hDc := hD.sub (ws' := []) [] (by decide) rfl
                  have hKc := hK.sub (tys' := []) [] rfl
                  have hFc := va_free (wc := []) hD hS hA [] rfl
                  refine va_calli (va_runS (As := [.int y_75, .int 255]) (rest := [.int y_70]) ⟨hx, hb, hml, hown, hts⟩ (k_X9_nearest_255 l D H.size y_75) (va_cwS 2 hts (gS bw_65 bw_66 bw_61 bw_64) rfl rfl rfl (by decide +kernel) ⟨(by rw [hR]; exact Nat.le_of_ble_eq_true rfl), (by rw [hR]; exact Nat.le_of_ble_eq_true rfl)⟩) ⟨cP_blind, cP_at hPc hKc hDc hN⟩ rfl rfl hl.1 rfl (lv_room (Nat.le_of_ble_eq_true rfl)) dX9_laid_109 ⟨(by rw [hR]; exact Nat.le_of_ble_eq_true rfl), (by rw [hR]; exact Nat.le_of_ble_eq_true rfl)⟩) hS (fun q _ h => hFc q h) hFc (fun r_76 u9 t9 H1 locs ht hvm hr_76 hB hz1 hk1 hS => ?_)
                  try dsimp only at hr_76
                  have hP1 : va_P D vwCl [] H1 := vP_nil
                  have hD1 : va_D (va_A [] H.size) [] := vD_nil
                  obtain ⟨hP, hD⟩ := va_join (wr := [(h0, .inr (9, [.ref m1, .ref m2, .ref m3, .int ik, .int wy, .int op, .int cl, .int cx0, .int cx1, .int cy0, .int cy1, .int ds, .ref m4, .ref m5, .ref m6, .ref m7, .ref m8, .ref m9, .int pn, .ref m10, .ref m11, .ref m12, .ref m13]))]) (w1 := []) hP hD [] [0] rfl rfl (by decide) (by decide) hk1 hFc hP1 hD1
                  clear hz1 hk1 hFc hKc hDc hPc
                  generalize H1 = H at hP hS ⊢
                  have hP : va_P D vwCl [(h0, .inr (9, [.ref m1, .ref m2, .ref m3, .int ik, .int wy, .int op, .int cl, .int cx0, .int cx1, .int cy0, .int cy1, .int ds, .ref m4, .ref m5, .ref m6, .ref m7, .ref m8, .ref m9, .int pn, .ref m10, .ref m11, .ref m12, .ref m13]))] H := hP
                  have hD : va_D A [(h0, .inr (9, [.ref m1, .ref m2, .ref m3, .int ik, .int wy, .int op, .int cl, .int cx0, .int cx1, .int cy0, .int cy1, .int ds, .ref m4, .ref m5, .ref m6, .ref m7, .ref m8, .ref m9, .int pn, .ref m10, .ref m11, .ref m12, .ref m13]))] := hD
                  refine lv_ior hx hb dX9_laid_112 ?_
                  refine lv_topi (fun y_77 ey_77 => ?_)
                  refine lv_istore (lv' := [(6, .int y_77), (8, .int u_69), (7, .int 3), (5, .int r_6), (4, .int r_3), (0, .ref h0), (1, .int n), (2, .int d), (3, .int v)]) hx hb dX9_laid_113 hl (by decide) rfl (fun ls hl => ?_)
                  refine lv_iinc (v := 4) (lv' := [(7, .int 4), (6, .int y_77), (8, .int u_69), (5, .int r_6), (4, .int r_3), (0, .ref h0), (1, .int n), (2, .int d), (3, .int v)]) hx hb dX9_laid_115 hl (k := 2) rfl (by decide) (by decide) rfl (fun ls hl => ?_)
                  refine lv_goto (tgt := 38) hx hb dX9_laid_118 (by decide) ?_
                  refine lv_iload hx hb dX9_laid_38 (lv_at hl 0 rfl) ?_
                  refine lv_iconst (v := 4) hx hb dX9_laid_40 (by decide) ?_
                  refine lv_icmp_ge (tgt := 121) hx hb dX9_laid_41 (by decide) (fun c_78 => ?_) (fun c_78 => ?_)
                  · skip
                    refine lv_iload hx hb dX9_laid_121 (lv_at hl 1 rfl) ?_
                    have hP9 := hP.sub (ws' := [(h0, .inr (9, [.ref m1, .ref m2, .ref m3, .int ik, .int wy, .int op, .int cl, .int cx0, .int cx1, .int cy0, .int cy1, .int ds, .ref m4, .ref m5, .ref m6, .ref m7, .ref m8, .ref m9, .int pn, .ref m10, .ref m11, .ref m12, .ref m13]))]) [0] rfl
                    have hD9 := hD.sub (ws' := [(h0, .inr (9, [.ref m1, .ref m2, .ref m3, .int ik, .int wy, .int op, .int cl, .int cx0, .int cx1, .int cy0, .int cy1, .int ds, .ref m4, .ref m5, .ref m6, .ref m7, .ref m8, .ref m9, .int pn, .ref m10, .ref m11, .ref m12, .ref m13]))]) [0] (by decide) rfl
                    have hK9 := hK.sub (tys' := []) [] rfl
                    refine hQ _ _ _ _ _ ?_
                    exact W.iret (v := y_77) hx hb hr (fun t ht hW => ⟨⟨y_77, (), rfl, (by subst_vars; rfl), ⟨by rw [ht]; exact hP9, va_K.moved hW.alike hK9, hD9⟩⟩, hS.F ht⟩) hS.2.2 dX9_laid_123
                  · skip
                    exact absurd c_78 (by decide)
                refine lv_iload hx hb dX9_laid_71 (lv_at hl 0 rfl) ?_
                refine lv_sipush (v := 255) hx hb dX9_laid_73 (by decide) ?_
                refine lv_icmp_le (tgt := 84) hx hb dX9_laid_76 (by decide) (fun c_80 => ?_) (fun c_80 => ?_)
                · skip
                  have f_81 : r_67.toInt ≤ 255 := f_le rfl (by decide) c_80
                  exact join_68 r_67 _ (mnP_le (by omega)).symm (lv_sub hl [0, 1, 2, 3, 4, 5, 6, 7, 8] rfl)
                · skip
                  have f_81 : ¬ (r_67.toInt ≤ 255) := fn_le rfl (by decide) c_80
                  refine lv_sipush (v := 255) hx hb dX9_laid_79 (by decide) ?_
                  refine lv_istore (lv' := [(8, .int 255), (7, .int 3), (6, .int y_59), (5, .int r_6), (4, .int r_3), (0, .ref h0), (1, .int n), (2, .int d), (3, .int v)]) hx hb dX9_laid_82 hl (by decide) rfl (fun ls hl => ?_)
                  exact join_68 255 _ (by subst_vars; exact (mnP_gt (by omega)).symm) (lv_sub hl [0, 1, 2, 3, 4, 5, 6, 7, 8] rfl)
            refine lv_iload hx hb dX9_laid_71 (lv_at hl 0 rfl) ?_
            refine lv_sipush (v := 255) hx hb dX9_laid_73 (by decide) ?_
            refine lv_icmp_le (tgt := 84) hx hb dX9_laid_76 (by decide) (fun c_82 => ?_) (fun c_82 => ?_)
            · skip
              have f_83 : r_49.toInt ≤ 255 := f_le rfl (by decide) c_82
              exact join_50 r_49 _ (mnP_le (by omega)).symm (lv_sub hl [0, 1, 2, 3, 4, 5, 6, 7, 8] rfl)
            · skip
              have f_83 : ¬ (r_49.toInt ≤ 255) := fn_le rfl (by decide) c_82
              refine lv_sipush (v := 255) hx hb dX9_laid_79 (by decide) ?_
              refine lv_istore (lv' := [(8, .int 255), (7, .int 2), (6, .int y_41), (5, .int r_6), (4, .int r_3), (0, .ref h0), (1, .int n), (2, .int d), (3, .int v)]) hx hb dX9_laid_82 hl (by decide) rfl (fun ls hl => ?_)
              exact join_50 255 _ (by subst_vars; exact (mnP_gt (by omega)).symm) (lv_sub hl [0, 1, 2, 3, 4, 5, 6, 7, 8] rfl)
        refine lv_iload hx hb dX9_laid_71 (lv_at hl 0 rfl) ?_
        refine lv_sipush (v := 255) hx hb dX9_laid_73 (by decide) ?_
        refine lv_icmp_le (tgt := 84) hx hb dX9_laid_76 (by decide) (fun c_84 => ?_) (fun c_84 => ?_)
        · skip
          have f_85 : r_31.toInt ≤ 255 := f_le rfl (by decide) c_84
          exact join_32 r_31 _ (mnP_le (by omega)).symm (lv_sub hl [0, 1, 2, 3, 4, 5, 6, 7, 8] rfl)
        · skip
          have f_85 : ¬ (r_31.toInt ≤ 255) := fn_le rfl (by decide) c_84
          refine lv_sipush (v := 255) hx hb dX9_laid_79 (by decide) ?_
          refine lv_istore (lv' := [(8, .int 255), (7, .int 1), (6, .int y_23), (5, .int r_6), (4, .int r_3), (0, .ref h0), (1, .int n), (2, .int d), (3, .int v)]) hx hb dX9_laid_82 hl (by decide) rfl (fun ls hl => ?_)
          exact join_32 255 _ (by subst_vars; exact (mnP_gt (by omega)).symm) (lv_sub hl [0, 1, 2, 3, 4, 5, 6, 7, 8] rfl)
    refine lv_iload hx hb dX9_laid_71 (lv_at hl 0 rfl) ?_
    refine lv_sipush (v := 255) hx hb dX9_laid_73 (by decide) ?_
    refine lv_icmp_le (tgt := 84) hx hb dX9_laid_76 (by decide) (fun c_86 => ?_) (fun c_86 => ?_)
    · skip
      have f_87 : r_14.toInt ≤ 255 := f_le rfl (by decide) c_86
      exact join_15 r_14 _ (mnP_le (by omega)).symm (lv_sub hl [0, 1, 2, 3, 4, 5, 6, 7, 8] rfl)
    · skip
      have f_87 : ¬ (r_14.toInt ≤ 255) := fn_le rfl (by decide) c_86
      refine lv_sipush (v := 255) hx hb dX9_laid_79 (by decide) ?_
      refine lv_istore (lv' := [(8, .int 255), (7, .int 0), (6, .int 0), (5, .int r_6), (4, .int r_3), (0, .ref h0), (1, .int n), (2, .int d), (3, .int v)]) hx hb dX9_laid_82 hl (by decide) rfl (fun ls hl => ?_)
      exact join_15 255 _ (by subst_vars; exact (mnP_gt (by omega)).symm) (lv_sub hl [0, 1, 2, 3, 4, 5, 6, 7, 8] rfl)
end
section
/-- how many of the first places are marked -/
def cntP (gm : Nat → Int32) : Nat → Nat
  | 0 => 0
  | i + 1 => cntP gm i + (if gm i = 0 then 0 else 1)
theorem cntP_le (gm : Nat → Int32) : ∀ i, cntP gm i ≤ i
  | 0 => Nat.le_refl 0
  | i + 1 => by
    have h := cntP_le gm i
    show cntP gm i + (if gm i = 0 then 0 else 1) ≤ i + 1
    split <;> omega
theorem cnt_skip {gm : Nat → Int32} {i : Nat} (h : gm i = 0) : cntP gm (i + 1) = cntP gm i := by
  show cntP gm i + (if gm i = 0 then 0 else 1) = _
  rw [if_pos h]
  rfl
theorem cnt_up {gm : Nat → Int32} {i : Nat} (h : ¬ gm i = 0) : cntP gm (i + 1) = cntP gm i + 1 := by
  show cntP gm i + (if gm i = 0 then 0 else 1) = _
  rw [if_neg h]
/-- SHEET kk's DOTS behind the laying of the first i places that are marked -/
def lysN (w : Int32) (gd gm ge gv : Nat → Int32) (kk i : Nat) : Nat → Int32 := fun j => if 4096 * kk ≤ j ∧ j < 4096 * kk + i ∧ ¬ gm (j - 4096 * kk) = 0 then laidP w (gv (j - 4096 * kk)) (gd j) (ge (j - 4096 * kk)) else gd j
theorem lys_0 (w : Int32) (gd gm ge gv : Nat → Int32) (kk : Nat) : gd = lysN w gd gm ge gv kk 0 := by
  funext j
  unfold lysN
  rw [if_neg (by omega)]
theorem lys_at (w : Int32) (gd gm ge gv : Nat → Int32) (kk i : Nat) : lysN w gd gm ge gv kk i (4096 * kk + i) = gd (4096 * kk + i) := by
  unfold lysN
  rw [if_neg (by omega)]
theorem lys_skip {w : Int32} {gd gm ge gv : Nat → Int32} {kk i : Nat} (h : gm i = 0) : lysN w gd gm ge gv kk i = lysN w gd gm ge gv kk (i + 1) := by
  funext j
  unfold lysN
  by_cases q : j = 4096 * kk + i
  · subst q
    rw [if_neg (by omega), if_neg]
    rw [show 4096 * kk + i - 4096 * kk = i by omega]
    exact fun hh => hh.2.2 h
  · by_cases c : 4096 * kk ≤ j ∧ j < 4096 * kk + i ∧ ¬ gm (j - 4096 * kk) = 0
    · rw [if_pos c, if_pos ⟨c.1, by omega, c.2.2⟩]
    · rw [if_neg c, if_neg (fun d => c ⟨d.1, by omega, d.2.2⟩)]
theorem lys_up {w : Int32} {gd gm ge gv : Nat → Int32} {kk i : Nat} (h : ¬ gm i = 0) : upd (lysN w gd gm ge gv kk i) (4096 * kk + i) (laidP w (gv i) (lysN w gd gm ge gv kk i (4096 * kk + i)) (ge i)) = lysN w gd gm ge gv kk (i + 1) := by
  funext j
  rw [lys_at]
  by_cases q : j = 4096 * kk + i
  · subst q
    rw [pk_us]
    unfold lysN
    rw [if_pos]
    · rw [show 4096 * kk + i - 4096 * kk = i by omega]
    · rw [show 4096 * kk + i - 4096 * kk = i by omega]
      exact ⟨by omega, by omega, h⟩
  · rw [pk_un q]
    unfold lysN
    by_cases c : 4096 * kk ≤ j ∧ j < 4096 * kk + i ∧ ¬ gm (j - 4096 * kk) = 0
    · rw [if_pos c, if_pos ⟨c.1, by omega, c.2.2⟩]
    · rw [if_neg c, if_neg (fun d => c ⟨d.1, by omega, d.2.2⟩)]
end
section
set_option maxHeartbeats 4000000 in
set_option maxRecDepth 100000 in
theorem k_X9_begins (l : Launch) (D : va_G) (sz : Nat) (h0 m1 m2 m3 m4 m5 m6 m7 m8 m9 m10 m11 m12 m13 : Nat) (ik wy op cl cx0 cx1 cy0 cy1 ds pn : Int32) (gm : Nat → Int32) (cZ : ClassId) : Met l yX9_begins (wB yX9_begins cX9_begins 2 none) ({ frames := 0, cells := 0, slots := 0, locals := 0 }) (cP D [(h0, .inr (9, [.ref m1, .ref m2, .ref m3, .int ik, .int wy, .int op, .int cl, .int cx0, .int cx1, .int cy0, .int cy1, .int ds, .ref m4, .ref m5, .ref m6, .ref m7, .ref m8, .ref m9, .int pn, .ref m10, .ref m11, .ref m12, .ref m13])), (m4, .inl (cZ, 4096, .inl gm))] [(cZ, .boolean)] sz [.ref h0]) (va_Qv (fun (_ : Unit) => True) (fun (_ : Unit) (t : State) => ∃ (gm2 : Nat → Int32), (∀ j : Nat, j < 4096 → gm2 j = 0) ∧ cB D (va_A [(h0, .inr (9, [.ref m1, .ref m2, .ref m3, .int ik, .int wy, .int op, .int cl, .int cx0, .int cx1, .int cy0, .int cy1, .int ds, .ref m4, .ref m5, .ref m6, .ref m7, .ref m8, .ref m9, .int pn, .ref m10, .ref m11, .ref m12, .ref m13])), (m4, .inl (cZ, 4096, .inl gm))] sz) [(h0, .inr (9, [.ref m1, .ref m2, .ref m3, .int ik, .int wy, .int op, .int cl, .int cx0, .int cx1, .int cy0, .int cy1, .int ds, .ref m4, .ref m5, .ref m6, .ref m7, .ref m8, .ref m9, .int pn, .ref m10, .ref m11, .ref m12, .ref m13])), (m4, .inl (cZ, 4096, .inl gm2))] [(cZ, .boolean)] t) (va_A [(h0, .inr (9, [.ref m1, .ref m2, .ref m3, .int ik, .int wy, .int op, .int cl, .int cx0, .int cx1, .int cy0, .int cy1, .int ds, .ref m4, .ref m5, .ref m6, .ref m7, .ref m8, .ref m9, .int pn, .ref m10, .ref m11, .ref m12, .ref m13])), (m4, .inl (cZ, 4096, .inl gm))] sz)) 0 0 (va_A [(h0, .inr (9, [.ref m1, .ref m2, .ref m3, .int ik, .int wy, .int op, .int cl, .int cx0, .int cx1, .int cy0, .int cy1, .int ds, .ref m4, .ref m5, .ref m6, .ref m7, .ref m8, .ref m9, .int pn, .ref m10, .ref m11, .ref m12, .ref m13])), (m4, .inl (cZ, 4096, .inl gm))] sz) := by
  refine Met.ofW (cc := cX9_begins) (maxL := 2) (ret := none) (by decide) rfl ?_
  intro p e s m args below meth c s₁ B hml hv
  obtain ⟨rfl, hsz, hP, hK, hD0, hN⟩ := hv
  have hx := B.exec
  have hb := B.bytes
  have hr := B.returns
  have hts0 := atoms_spec (ws := (wB yX9_begins cX9_begins 2 none)) B.pre
  have hts : ∀ w ∈ bigW, w.before _ s = true := fun w h => hts0 w (List.mem_cons_of_mem _ h)
  have hown : s.vm.findClass RX9 = some m.cls := findClass_of_methodNamed B.named
  have hlocks := B.notSynchronized
  subst hsz
  have hD := hD0.self (sz := s.heap.size)
  generalize hAe : va_A [(h0, .inr (9, [.ref m1, .ref m2, .ref m3, .int ik, .int wy, .int op, .int cl, .int cx0, .int cx1, .int cy0, .int cy1, .int ds, .ref m4, .ref m5, .ref m6, .ref m7, .ref m8, .ref m9, .int pn, .ref m10, .ref m11, .ref m12, .ref m13])), (m4, .inl (cZ, 4096, .inl gm))] s.heap.size = A at hD ⊢
  have hA : ∀ q : Nat, s.heap.size ≤ q → A q := fun q h => by rw [← hAe]; exact Or.inr h
  have hS : va_S A s.heap s.heap [] := va_S.rf
  have hP : va_P D vwCl [(h0, .inr (9, [.ref m1, .ref m2, .ref m3, .int ik, .int wy, .int op, .int cl, .int cx0, .int cx1, .int cy0, .int cy1, .int ds, .ref m4, .ref m5, .ref m6, .ref m7, .ref m8, .ref m9, .int pn, .ref m10, .ref m11, .ref m12, .ref m13])), (m4, .inl (cZ, 4096, .inl gm))] s.heap := hP
  have hl := lv_entry ([.ref h0]) (n := 2) (Nat.le_of_ble_eq_true rfl)
  rw [lg_entry_eq]
  generalize (lg_sl ([.ref h0]) ++ List.replicate (2 - (lg_sl ([.ref h0])).length) Slot.unset).toArray = ls at hl ⊢
  have hl : lv_has ls 2 [(0, .ref h0)] := hl
  clear hts0 hD0 hAe
  refine my_abs (fun R Q hR hQ => ?_)
  refine lv_iconst (v := 0) hx hb dX9_begins_0 (by decide) ?_
  refine lv_istore_n (lv' := [(1, .int 0), (0, .ref h0)]) hx hb dX9_begins_1 rfl hl (by decide) rfl (fun ls hl => ?_)
  have loop_1 : ∀ (n : Nat) (i : Nat) (x1 : Int32) (gg : Nat → Int32) (H : Heap) (locs : List Loc) (ls : Array Slot), (i ≤ 4096) → (4096 + 1 ≤ i + n) → (x1 = nI i) → (∀ j : Nat, j < i → gg j = 0) → va_P D vwCl [(h0, .inr (9, [.ref m1, .ref m2, .ref m3, .int ik, .int wy, .int op, .int cl, .int cx0, .int cx1, .int cy0, .int cy1, .int ds, .ref m4, .ref m5, .ref m6, .ref m7, .ref m8, .ref m9, .int pn, .ref m10, .ref m11, .ref m12, .ref m13])), (m4, .inl (cZ, 4096, .inl gg))] H → va_D A [(h0, .inr (9, [.ref m1, .ref m2, .ref m3, .int ik, .int wy, .int op, .int cl, .int cx0, .int cx1, .int cy0, .int cy1, .int ds, .ref m4, .ref m5, .ref m6, .ref m7, .ref m8, .ref m9, .int pn, .ref m10, .ref m11, .ref m12, .ref m13])), (m4, .inl (cZ, 4096, .inl gg))] → va_S A s.heap H locs → lv_has ls 2 [(1, .int x1), (0, .ref h0)] → W p l e R s m ([.ref h0] : List Value).toArray below meth c H locs 0 0 Q (F0 m 2 ls []) := by
    intro n
    induction n with
    | zero =>
      intro i x1 gg H locs ls hi hm ex hg hP hD hS hl
      exact absurd (show False by omega) not_false
    | succ n ih_2 =>
      intro i x1 gg H locs ls hi hm ex hg hP hD hS hl
      have hxi : x1.toInt = (i : Int) := by rw [ex]; exact nI_toInt (by omega)
      refine lv_iload_n hx hb dX9_begins_2 rfl (lv_at hl 0 rfl) ?_
      refine lv_sipush (v := 4096) hx hb dX9_begins_3 (by decide) ?_
      refine lv_icmp_ge (tgt := 22) hx hb dX9_begins_6 (by decide) (fun c_3 => ?_) (fun c_3 => ?_)
      · skip
        have f_4 : 4096 ≤ (i : Int) := f_le (by decide) hxi c_3
        have hP9 := hP.sub (ws' := [(h0, .inr (9, [.ref m1, .ref m2, .ref m3, .int ik, .int wy, .int op, .int cl, .int cx0, .int cx1, .int cy0, .int cy1, .int ds, .ref m4, .ref m5, .ref m6, .ref m7, .ref m8, .ref m9, .int pn, .ref m10, .ref m11, .ref m12, .ref m13])), (m4, .inl (cZ, 4096, .inl gg))]) [0, 1] rfl
        have hD9 := hD.sub (ws' := [(h0, .inr (9, [.ref m1, .ref m2, .ref m3, .int ik, .int wy, .int op, .int cl, .int cx0, .int cx1, .int cy0, .int cy1, .int ds, .ref m4, .ref m5, .ref m6, .ref m7, .ref m8, .ref m9, .int pn, .ref m10, .ref m11, .ref m12, .ref m13])), (m4, .inl (cZ, 4096, .inl gg))]) [0, 1] (by decide) rfl
        have hK9 := hK.sub (tys' := [(cZ, .boolean)]) [0] rfl
        refine hQ _ _ _ _ _ ?_
        exact W.vret hx hb hr (fun t ht hW => ⟨⟨(), rfl, trivial, ⟨gg, (fun j hj => hg j (by omega)), by rw [ht]; exact hP9, va_K.moved hW.alike hK9, hD9⟩⟩, hS.F ht⟩) hS.2.2 dX9_begins_22
      · skip
        have f_4 : ¬ (4096 ≤ (i : Int)) := fn_le (by decide) hxi c_3
        refine lv_aload_n hx hb dX9_begins_9 rfl (lv_at hl 1 rfl) ?_
        refine va_get (D := D) (ci := 9) (v := .ref m4) (C := RX9) (T := TX9) (N := 23) hx hb hts hi_X9 hown hK hP 0 rfl rfl 12 (by decide) (hts _ bw_91) (fun _ h9 => h9) rfl dX9_begins_10 ?_
        refine lv_iload_n hx hb dX9_begins_13 rfl (lv_at hl 0 rfl) ?_
        refine lv_iconst (v := 0) hx hb dX9_begins_14 (by decide) ?_
        refine va_zast hx hb hK hP hD hS 1 0 rfl rfl (vp_in_iff.mpr ⟨by omega, by omega⟩) dX9_begins_15 (fun H locs hP hD hS => ?_)
        have hP : va_P D vwCl [(h0, .inr (9, [.ref m1, .ref m2, .ref m3, .int ik, .int wy, .int op, .int cl, .int cx0, .int cx1, .int cy0, .int cy1, .int ds, .ref m4, .ref m5, .ref m6, .ref m7, .ref m8, .ref m9, .int pn, .ref m10, .ref m11, .ref m12, .ref m13])), (m4, .inl (cZ, 4096, .inl (upd gg x1.toNatClampNeg (vp_nar .boolean 0))))] H := hP
        have hD : va_D A [(h0, .inr (9, [.ref m1, .ref m2, .ref m3, .int ik, .int wy, .int op, .int cl, .int cx0, .int cx1, .int cy0, .int cy1, .int ds, .ref m4, .ref m5, .ref m6, .ref m7, .ref m8, .ref m9, .int pn, .ref m10, .ref m11, .ref m12, .ref m13])), (m4, .inl (cZ, 4096, .inl (upd gg x1.toNatClampNeg (vp_nar .boolean 0))))] := hD
        generalize eg_5 : upd gg x1.toNatClampNeg (vp_nar .boolean 0) = g_5 at hP hD
        have hP : va_P D vwCl [(h0, .inr (9, [.ref m1, .ref m2, .ref m3, .int ik, .int wy, .int op, .int cl, .int cx0, .int cx1, .int cy0, .int cy1, .int ds, .ref m4, .ref m5, .ref m6, .ref m7, .ref m8, .ref m9, .int pn, .ref m10, .ref m11, .ref m12, .ref m13])), (m4, .inl (cZ, 4096, .inl g_5))] H := hP
        have hD : va_D A [(h0, .inr (9, [.ref m1, .ref m2, .ref m3, .int ik, .int wy, .int op, .int cl, .int cx0, .int cx1, .int cy0, .int cy1, .int ds, .ref m4, .ref m5, .ref m6, .ref m7, .ref m8, .ref m9, .int pn, .ref m10, .ref m11, .ref m12, .ref m13])), (m4, .inl (cZ, 4096, .inl g_5))] := hD
        obtain ⟨y_6, ey_6⟩ : ∃ y : Int32, y = x1 + 1 := ⟨_, rfl⟩
        refine lv_iinc (v := y_6) (lv' := [(1, .int y_6), (0, .ref h0)]) hx hb dX9_begins_16 hl (k := 0) rfl (by rw [ey_6]; rfl) (by decide) rfl (fun ls hl => ?_)
        refine lv_goto (tgt := 2) hx hb dX9_begins_19 (by decide) ?_
        exact ih_2 (i + 1) y_6 g_5 _ _ _ (by omega) (by omega) (by rw [ey_6, ex]; exact nI_1 i) (eg_5 ▸ zfill_up hg (by rw [ex]; exact nI_clamp (by omega))) (hP.sub (ws' := [(h0, .inr (9, [.ref m1, .ref m2, .ref m3, .int ik, .int wy, .int op, .int cl, .int cx0, .int cx1, .int cy0, .int cy1, .int ds, .ref m4, .ref m5, .ref m6, .ref m7, .ref m8, .ref m9, .int pn, .ref m10, .ref m11, .ref m12, .ref m13])), (m4, .inl (cZ, 4096, .inl g_5))]) [0, 1] rfl) (hD.sub (ws' := [(h0, .inr (9, [.ref m1, .ref m2, .ref m3, .int ik, .int wy, .int op, .int cl, .int cx0, .int cx1, .int cy0, .int cy1, .int ds, .ref m4, .ref m5, .ref m6, .ref m7, .ref m8, .ref m9, .int pn, .ref m10, .ref m11, .ref m12, .ref m13])), (m4, .inl (cZ, 4096, .inl g_5))]) [0, 1] (by decide) rfl) hS (lv_sub hl [0, 1] rfl)
  exact loop_1 (4096 + 1) 0 0 gm _ _ _ (by omega) (by omega) nI_0.symm (fun j hj => absurd hj (by omega)) hP hD hS (lv_sub hl [0, 1] rfl)

set_option maxHeartbeats 4000000 in
set_option maxRecDepth 100000 in
theorem k_X9_marks (l : Launch) (D : va_G) (sz : Nat) (h0 m1 m2 m3 m4 m5 m6 m7 m8 m9 m10 m11 m12 m13 : Nat) (ik wy op cl cx0 cx1 cy0 cy1 ds pn : Int32) (gw : Nat → Int32) (gh : Nat → Int32) (gm : Nat → Int32) (ge : Nat → Int32) (gv : Nat → Int32) (k x y n v : Int32) (cI : ClassId) (cZ : ClassId) (hk : 0 ≤ k.toInt ∧ k.toInt ≤ 3) (hgw : (gw k.toNatClampNeg).toInt ≤ 64) (hgh : (gh k.toNatClampNeg).toInt ≤ 64) : Met l yX9_marks (wB yX9_marks cX9_marks 7 none) ({ frames := 2, cells := 0, slots := 0, locals := 46 }) (cP D [(h0, .inr (9, [.ref m1, .ref m2, .ref m3, .int ik, .int wy, .int op, .int cl, .int cx0, .int cx1, .int cy0, .int cy1, .int ds, .ref m4, .ref m5, .ref m6, .ref m7, .ref m8, .ref m9, .int pn, .ref m10, .ref m11, .ref m12, .ref m13])), (m1, .inl (cI, 4, .inl gw)), (m2, .inl (cI, 4, .inl gh)), (m4, .inl (cZ, 4096, .inl gm)), (m5, .inl (cI, 4096, .inl ge)), (m6, .inl (cI, 4096, .inl gv))] [(cI, .int), (cZ, .boolean)] sz [.ref h0, .int k, .int x, .int y, .int n, .int v]) (va_Qv (fun (_ : Unit) => True) (fun (_ : Unit) (t : State) => cB D (va_A [(h0, .inr (9, [.ref m1, .ref m2, .ref m3, .int ik, .int wy, .int op, .int cl, .int cx0, .int cx1, .int cy0, .int cy1, .int ds, .ref m4, .ref m5, .ref m6, .ref m7, .ref m8, .ref m9, .int pn, .ref m10, .ref m11, .ref m12, .ref m13])), (m1, .inl (cI, 4, .inl gw)), (m2, .inl (cI, 4, .inl gh)), (m4, .inl (cZ, 4096, .inl gm)), (m5, .inl (cI, 4096, .inl ge)), (m6, .inl (cI, 4096, .inl gv))] sz) [(h0, .inr (9, [.ref m1, .ref m2, .ref m3, .int ik, .int wy, .int op, .int cl, .int cx0, .int cx1, .int cy0, .int cy1, .int ds, .ref m4, .ref m5, .ref m6, .ref m7, .ref m8, .ref m9, .int pn, .ref m10, .ref m11, .ref m12, .ref m13])), (m1, .inl (cI, 4, .inl gw)), (m2, .inl (cI, 4, .inl gh)), (m4, .inl (cZ, 4096, .inl (if (0 ≤ x.toInt ∧ x.toInt < (gw k.toNatClampNeg).toInt ∧ 0 ≤ y.toInt ∧ y.toInt < (gh k.toNatClampNeg).toInt) ∧ (cl.toInt = 0 ∨ (cx0.toInt ≤ x.toInt ∧ x.toInt ≤ cx1.toInt ∧ cy0.toInt ≤ y.toInt ∧ y.toInt ≤ cy1.toInt)) then upd gm (ixP x y) 1 else gm))), (m5, .inl (cI, 4096, .inl (if (0 ≤ x.toInt ∧ x.toInt < (gw k.toNatClampNeg).toInt ∧ 0 ≤ y.toInt ∧ y.toInt < (gh k.toNatClampNeg).toInt) ∧ (cl.toInt = 0 ∨ (cx0.toInt ≤ x.toInt ∧ x.toInt ≤ cx1.toInt ∧ cy0.toInt ≤ y.toInt ∧ y.toInt ≤ cy1.toInt)) then upd ge (ixP x y) v else ge))), (m6, .inl (cI, 4096, .inl (if (0 ≤ x.toInt ∧ x.toInt < (gw k.toNatClampNeg).toInt ∧ 0 ≤ y.toInt ∧ y.toInt < (gh k.toNatClampNeg).toInt) ∧ (cl.toInt = 0 ∨ (cx0.toInt ≤ x.toInt ∧ x.toInt ≤ cx1.toInt ∧ cy0.toInt ≤ y.toInt ∧ y.toInt ≤ cy1.toInt)) then upd gv (ixP x y) n else gv)))] [(cI, .int), (cZ, .boolean)] t) (va_A [(h0, .inr (9, [.ref m1, .ref m2, .ref m3, .int ik, .int wy, .int op, .int cl, .int cx0, .int cx1, .int cy0, .int cy1, .int ds, .ref m4, .ref m5, .ref m6, .ref m7, .ref m8, .ref m9, .int pn, .ref m10, .ref m11, .ref m12, .ref m13])), (m1, .inl (cI, 4, .inl gw)), (m2, .inl (cI, 4, .inl gh)), (m4, .inl (cZ, 4096, .inl gm)), (m5, .inl (cI, 4096, .inl ge)), (m6, .inl (cI, 4096, .inl gv))] sz)) 0 0 (va_A [(h0, .inr (9, [.ref m1, .ref m2, .ref m3, .int ik, .int wy, .int op, .int cl, .int cx0, .int cx1, .int cy0, .int cy1, .int ds, .ref m4, .ref m5, .ref m6, .ref m7, .ref m8, .ref m9, .int pn, .ref m10, .ref m11, .ref m12, .ref m13])), (m1, .inl (cI, 4, .inl gw)), (m2, .inl (cI, 4, .inl gh)), (m4, .inl (cZ, 4096, .inl gm)), (m5, .inl (cI, 4096, .inl ge)), (m6, .inl (cI, 4096, .inl gv))] sz) := by
  refine Met.ofW (cc := cX9_marks) (maxL := 7) (ret := none) (by decide) rfl ?_
  intro p e s m args below meth c s₁ B hml hv
  obtain ⟨rfl, hsz, hP, hK, hD0, hN⟩ := hv
  have hx := B.exec
  have hb := B.bytes
  have hr := B.returns
  have hts0 := atoms_spec (ws := (wB yX9_marks cX9_marks 7 none)) B.pre
  have hts : ∀ w ∈ bigW, w.before _ s = true := fun w h => hts0 w (List.mem_cons_of_mem _ h)
  have hown : s.vm.findClass RX9 = some m.cls := findClass_of_methodNamed B.named
  have hlocks := B.notSynchronized
  subst hsz
  have hD := hD0.self (sz := s.heap.size)
  generalize hAe : va_A [(h0, .inr (9, [.ref m1, .ref m2, .ref m3, .int ik, .int wy, .int op, .int cl, .int cx0, .int cx1, .int cy0, .int cy1, .int ds, .ref m4, .ref m5, .ref m6, .ref m7, .ref m8, .ref m9, .int pn, .ref m10, .ref m11, .ref m12, .ref m13])), (m1, .inl (cI, 4, .inl gw)), (m2, .inl (cI, 4, .inl gh)), (m4, .inl (cZ, 4096, .inl gm)), (m5, .inl (cI, 4096, .inl ge)), (m6, .inl (cI, 4096, .inl gv))] s.heap.size = A at hD ⊢
  have hA : ∀ q : Nat, s.heap.size ≤ q → A q := fun q h => by rw [← hAe]; exact Or.inr h
  have hS : va_S A s.heap s.heap [] := va_S.rf
  have hP : va_P D vwCl [(h0, .inr (9, [.ref m1, .ref m2, .ref m3, .int ik, .int wy, .int op, .int cl, .int cx0, .int cx1, .int cy0, .int cy1, .int ds, .ref m4, .ref m5, .ref m6, .ref m7, .ref m8, .ref m9, .int pn, .ref m10, .ref m11, .ref m12, .ref m13])), (m1, .inl (cI, 4, .inl gw)), (m2, .inl (cI, 4, .inl gh)), (m4, .inl (cZ, 4096, .inl gm)), (m5, .inl (cI, 4096, .inl ge)), (m6, .inl (cI, 4096, .inl gv))] s.heap := hP
  have hl := lv_entry ([.ref h0, .int k, .int x, .int y, .int n, .int v]) (n := 7) (Nat.le_of_ble_eq_true rfl)
  rw [lg_entry_eq]
  generalize (lg_sl ([.ref h0, .int k, .int x, .int y, .int n, .int v]) ++ List.replicate (7 - (lg_sl ([.ref h0, .int k, .int x, .int y, .int n, .int v])).length) Slot.unset).toArray = ls at hl ⊢
  have hl : lv_has ls 7 [(0, .ref h0), (1, .int k), (2, .int x), (3, .int y), (4, .int n), (5, .int v)] := hl
  clear hts0 hD0 hAe
  refine my_abs (fun R Q hR hQ => ?_)
  refine lv_aload_n hx hb dX9_marks_0 rfl (lv_at hl 0 rfl) ?_
  refine lv_iload_n hx hb dX9_marks_1 rfl (lv_at hl 1 rfl) ?_
  refine lv_iload_n hx hb dX9_marks_2 rfl (lv_at hl 2 rfl) ?_
  refine lv_iload_n hx hb dX9_marks_3 rfl (lv_at hl 3 rfl) ?_
  have hPc := hP.sub (ws' := [(h0, .inr (9, [.ref m1, .ref m2, .ref m3, .int ik, .int wy, .int op, .int cl, .int cx0, .int cx1, .int cy0, .int cy1, .int ds, .ref m4, .ref m5, .ref m6, .ref m7, .ref m8, .ref m9, .int pn, .ref m10, .ref m11, .ref m12, .ref m13])), (m1, .inl (cI, 4, .inl gw)), (m2, .inl (cI, 4, .inl gh))]) [0, 1, 2] rfl
  have hDc := hD.sub (ws' := [(h0, .inr (9, [.ref m1, .ref m2, .ref m3, .int ik, .int wy, .int op, .int cl, .int cx0, .int cx1, .int cy0, .int cy1, .int ds, .ref m4, .ref m5, .ref m6, .ref m7, .ref m8, .ref m9, .int pn, .ref m10, .ref m11, .ref m12, .ref m13])), (m1, .inl (cI, 4, .inl gw)), (m2, .inl (cI, 4, .inl gh))]) [0, 1, 2] (by decide) rfl
  have hKc := hK.sub (tys' := [(cI, .int)]) [0] rfl
  have hFc := va_free (wc := [(h0, .inr (9, [.ref m1, .ref m2, .ref m3, .int ik, .int wy, .int op, .int cl, .int cx0, .int cx1, .int cy0, .int cy1, .int ds, .ref m4, .ref m5, .ref m6, .ref m7, .ref m8, .ref m9, .int pn, .ref m10, .ref m11, .ref m12, .ref m13])), (m1, .inl (cI, 4, .inl gw)), (m2, .inl (cI, 4, .inl gh))]) hD hS hA [0, 1, 2] rfl
  refine va_calli (va_runV (As := [.int k, .int x, .int y]) (rest := []) ⟨hx, hb, hml, hown, hts⟩ (k_X9_isOpen l D s.heap.size h0 m1 m2 m3 m4 m5 m6 m7 m8 m9 m10 m11 m12 m13 ik wy op cl cx0 cx1 cy0 cy1 ds pn gw gh k x y cI (by first | assumption | omega | decide)) (cwV 3 hts (gV bw_93 bw_94 bw_95 bw_61 bw_92) rfl rfl rfl (by decide +kernel) ⟨(by rw [hR]; exact Nat.le_of_ble_eq_true rfl), (by rw [hR]; exact Nat.le_of_ble_eq_true rfl)⟩) ⟨cP_blind, va_recv hKc hPc (ci := 9) (q0 := 0) rfl rfl, cP_at hPc hKc hDc hN⟩ rfl rfl hl.1 rfl (lv_room (Nat.le_of_ble_eq_true rfl)) dX9_marks_4 ⟨(by rw [hR]; exact Nat.le_of_ble_eq_true rfl), (by rw [hR]; exact Nat.le_of_ble_eq_true rfl)⟩) hS (fun q _ h => hFc q h) hFc (fun r_1 u9 t9 H1 locs ht hvm hr_1 hB hz1 hk1 hS => ?_)
  try dsimp only at hr_1
  obtain ⟨hP1, hK1, hD1⟩ := hB
  rw [ht] at hP1
  obtain ⟨hP, hD⟩ := va_join (wr := [(m4, .inl (cZ, 4096, .inl gm)), (m5, .inl (cI, 4096, .inl ge)), (m6, .inl (cI, 4096, .inl gv))]) (w1 := [(h0, .inr (9, [.ref m1, .ref m2, .ref m3, .int ik, .int wy, .int op, .int cl, .int cx0, .int cx1, .int cy0, .int cy1, .int ds, .ref m4, .ref m5, .ref m6, .ref m7, .ref m8, .ref m9, .int pn, .ref m10, .ref m11, .ref m12, .ref m13])), (m1, .inl (cI, 4, .inl gw)), (m2, .inl (cI, 4, .inl gh))]) hP hD [0, 1, 2] [3, 4, 5] rfl rfl (by decide) (by decide) hk1 hFc hP1 hD1
  clear hz1 hk1 hFc hKc hDc hPc
  generalize H1 = H at hP hS ⊢
  have hP : va_P D vwCl [(m4, .inl (cZ, 4096, .inl gm)), (m5, .inl (cI, 4096, .inl ge)), (m6, .inl (cI, 4096, .inl gv)), (h0, .inr (9, [.ref m1, .ref m2, .ref m3, .int ik, .int wy, .int op, .int cl, .int cx0, .int cx1, .int cy0, .int cy1, .int ds, .ref m4, .ref m5, .ref m6, .ref m7, .ref m8, .ref m9, .int pn, .ref m10, .ref m11, .ref m12, .ref m13])), (m1, .inl (cI, 4, .inl gw)), (m2, .inl (cI, 4, .inl gh))] H := hP
  have hD : va_D A [(m4, .inl (cZ, 4096, .inl gm)), (m5, .inl (cI, 4096, .inl ge)), (m6, .inl (cI, 4096, .inl gv)), (h0, .inr (9, [.ref m1, .ref m2, .ref m3, .int ik, .int wy, .int op, .int cl, .int cx0, .int cx1, .int cy0, .int cy1, .int ds, .ref m4, .ref m5, .ref m6, .ref m7, .ref m8, .ref m9, .int pn, .ref m10, .ref m11, .ref m12, .ref m13])), (m1, .inl (cI, 4, .inl gw)), (m2, .inl (cI, 4, .inl gh))] := hD
  refine lv_if_ne (tgt := 11) hx hb dX9_marks_7 (by decide) (fun c_2 => ?_) (fun c_2 => ?_)
  · skip
    have f_3 := bz1 hr_1 c_2
    refine lv_bipush (v := 64) hx hb dX9_marks_11 (by decide) ?_
    refine lv_iload_n hx hb dX9_marks_13 rfl (lv_at hl 3 rfl) ?_
    refine lv_imul hx hb dX9_marks_14 ?_
    refine lv_topi (fun y_4 ey_4 => ?_)
    refine lv_iload_n hx hb dX9_marks_15 rfl (lv_at hl 2 rfl) ?_
    refine lv_iadd hx hb dX9_marks_16 ?_
    refine lv_topi (fun y_5 ey_5 => ?_)
    refine lv_istore (lv' := [(6, .int y_5), (0, .ref h0), (1, .int k), (2, .int x), (3, .int y), (4, .int n), (5, .int v)]) hx hb dX9_marks_17 hl (by decide) rfl (fun ls hl => ?_)
    refine lv_aload_n hx hb dX9_marks_19 rfl (lv_at hl 1 rfl) ?_
    refine va_get (D := D) (ci := 9) (v := .ref m4) (C := RX9) (T := TX9) (N := 23) hx hb hts hi_X9 hown hK hP 3 rfl rfl 12 (by decide) (hts _ bw_91) (fun _ h9 => h9) rfl dX9_marks_20 ?_
    refine lv_iload hx hb dX9_marks_23 (lv_at hl 0 rfl) ?_
    refine lv_iconst (v := 1) hx hb dX9_marks_25 (by decide) ?_
    refine va_zast hx hb hK hP hD hS 0 1 rfl rfl (by subst_vars; exact ix_in2 (by omega) (by omega) (by omega) (by omega)) dX9_marks_26 (fun H locs hP hD hS => ?_)
    have hP : va_P D vwCl [(m4, .inl (cZ, 4096, .inl (upd gm y_5.toNatClampNeg (vp_nar .boolean 1)))), (m5, .inl (cI, 4096, .inl ge)), (m6, .inl (cI, 4096, .inl gv)), (h0, .inr (9, [.ref m1, .ref m2, .ref m3, .int ik, .int wy, .int op, .int cl, .int cx0, .int cx1, .int cy0, .int cy1, .int ds, .ref m4, .ref m5, .ref m6, .ref m7, .ref m8, .ref m9, .int pn, .ref m10, .ref m11, .ref m12, .ref m13])), (m1, .inl (cI, 4, .inl gw)), (m2, .inl (cI, 4, .inl gh))] H := hP
    have hD : va_D A [(m4, .inl (cZ, 4096, .inl (upd gm y_5.toNatClampNeg (vp_nar .boolean 1)))), (m5, .inl (cI, 4096, .inl ge)), (m6, .inl (cI, 4096, .inl gv)), (h0, .inr (9, [.ref m1, .ref m2, .ref m3, .int ik, .int wy, .int op, .int cl, .int cx0, .int cx1, .int cy0, .int cy1, .int ds, .ref m4, .ref m5, .ref m6, .ref m7, .ref m8, .ref m9, .int pn, .ref m10, .ref m11, .ref m12, .ref m13])), (m1, .inl (cI, 4, .inl gw)), (m2, .inl (cI, 4, .inl gh))] := hD
    generalize eg_6 : upd gm y_5.toNatClampNeg (vp_nar .boolean 1) = g_6 at hP hD
    have hP : va_P D vwCl [(m4, .inl (cZ, 4096, .inl g_6)), (m5, .inl (cI, 4096, .inl ge)), (m6, .inl (cI, 4096, .inl gv)), (h0, .inr (9, [.ref m1, .ref m2, .ref m3, .int ik, .int wy, .int op, .int cl, .int cx0, .int cx1, .int cy0, .int cy1, .int ds, .ref m4, .ref m5, .ref m6, .ref m7, .ref m8, .ref m9, .int pn, .ref m10, .ref m11, .ref m12, .ref m13])), (m1, .inl (cI, 4, .inl gw)), (m2, .inl (cI, 4, .inl gh))] H := hP
    have hD : va_D A [(m4, .inl (cZ, 4096, .inl g_6)), (m5, .inl (cI, 4096, .inl ge)), (m6, .inl (cI, 4096, .inl gv)), (h0, .inr (9, [.ref m1, .ref m2, .ref m3, .int ik, .int wy, .int op, .int cl, .int cx0, .int cx1, .int cy0, .int cy1, .int ds, .ref m4, .ref m5, .ref m6, .ref m7, .ref m8, .ref m9, .int pn, .ref m10, .ref m11, .ref m12, .ref m13])), (m1, .inl (cI, 4, .inl gw)), (m2, .inl (cI, 4, .inl gh))] := hD
    refine lv_aload_n hx hb dX9_marks_27 rfl (lv_at hl 1 rfl) ?_
    refine va_get (D := D) (ci := 9) (v := .ref m5) (C := RX9) (T := TX9) (N := 23) hx hb hts hi_X9 hown hK hP 3 rfl rfl 13 (by decide) (hts _ bw_96) (fun _ h9 => h9) rfl dX9_marks_28 ?_
    refine lv_iload hx hb dX9_marks_31 (lv_at hl 0 rfl) ?_
    refine lv_iload hx hb dX9_marks_33 (lv_at hl 6 rfl) ?_
    refine va_iast hx hb hK hP hD hS 1 0 rfl rfl (by subst_vars; exact ix_in2 (by omega) (by omega) (by omega) (by omega)) dX9_marks_35 (fun H locs hP hD hS => ?_)
    have hP : va_P D vwCl [(m4, .inl (cZ, 4096, .inl g_6)), (m5, .inl (cI, 4096, .inl (upd ge y_5.toNatClampNeg v))), (m6, .inl (cI, 4096, .inl gv)), (h0, .inr (9, [.ref m1, .ref m2, .ref m3, .int ik, .int wy, .int op, .int cl, .int cx0, .int cx1, .int cy0, .int cy1, .int ds, .ref m4, .ref m5, .ref m6, .ref m7, .ref m8, .ref m9, .int pn, .ref m10, .ref m11, .ref m12, .ref m13])), (m1, .inl (cI, 4, .inl gw)), (m2, .inl (cI, 4, .inl gh))] H := hP
    have hD : va_D A [(m4, .inl (cZ, 4096, .inl g_6)), (m5, .inl (cI, 4096, .inl (upd ge y_5.toNatClampNeg v))), (m6, .inl (cI, 4096, .inl gv)), (h0, .inr (9, [.ref m1, .ref m2, .ref m3, .int ik, .int wy, .int op, .int cl, .int cx0, .int cx1, .int cy0, .int cy1, .int ds, .ref m4, .ref m5, .ref m6, .ref m7, .ref m8, .ref m9, .int pn, .ref m10, .ref m11, .ref m12, .ref m13])), (m1, .inl (cI, 4, .inl gw)), (m2, .inl (cI, 4, .inl gh))] := hD
    generalize eg_7 : upd ge y_5.toNatClampNeg v = g_7 at hP hD
    have hP : va_P D vwCl [(m4, .inl (cZ, 4096, .inl g_6)), (m5, .inl (cI, 4096, .inl g_7)), (m6, .inl (cI, 4096, .inl gv)), (h0, .inr (9, [.ref m1, .ref m2, .ref m3, .int ik, .int wy, .int op, .int cl, .int cx0, .int cx1, .int cy0, .int cy1, .int ds, .ref m4, .ref m5, .ref m6, .ref m7, .ref m8, .ref m9, .int pn, .ref m10, .ref m11, .ref m12, .ref m13])), (m1, .inl (cI, 4, .inl gw)), (m2, .inl (cI, 4, .inl gh))] H := hP
    have hD : va_D A [(m4, .inl (cZ, 4096, .inl g_6)), (m5, .inl (cI, 4096, .inl g_7)), (m6, .inl (cI, 4096, .inl gv)), (h0, .inr (9, [.ref m1, .ref m2, .ref m3, .int ik, .int wy, .int op, .int cl, .int cx0, .int cx1, .int cy0, .int cy1, .int ds, .ref m4, .ref m5, .ref m6, .ref m7, .ref m8, .ref m9, .int pn, .ref m10, .ref m11, .ref m12, .ref m13])), (m1, .inl (cI, 4, .inl gw)), (m2, .inl (cI, 4, .inl gh))] := hD
    refine lv_aload_n hx hb dX9_marks_36 rfl (lv_at hl 1 rfl) ?_
    refine va_get (D := D) (ci := 9) (v := .ref m6) (C := RX9) (T := TX9) (N := 23) hx hb hts hi_X9 hown hK hP 3 rfl rfl 14 (by decide) (hts _ bw_97) (fun _ h9 => h9) rfl dX9_marks_37 ?_
    refine lv_iload hx hb dX9_marks_40 (lv_at hl 0 rfl) ?_
    refine lv_iload hx hb dX9_marks_42 (lv_at hl 5 rfl) ?_
    refine va_iast hx hb hK hP hD hS 2 0 rfl rfl (by subst_vars; exact ix_in2 (by omega) (by omega) (by omega) (by omega)) dX9_marks_44 (fun H locs hP hD hS => ?_)
    have hP : va_P D vwCl [(m4, .inl (cZ, 4096, .inl g_6)), (m5, .inl (cI, 4096, .inl g_7)), (m6, .inl (cI, 4096, .inl (upd gv y_5.toNatClampNeg n))), (h0, .inr (9, [.ref m1, .ref m2, .ref m3, .int ik, .int wy, .int op, .int cl, .int cx0, .int cx1, .int cy0, .int cy1, .int ds, .ref m4, .ref m5, .ref m6, .ref m7, .ref m8, .ref m9, .int pn, .ref m10, .ref m11, .ref m12, .ref m13])), (m1, .inl (cI, 4, .inl gw)), (m2, .inl (cI, 4, .inl gh))] H := hP
    have hD : va_D A [(m4, .inl (cZ, 4096, .inl g_6)), (m5, .inl (cI, 4096, .inl g_7)), (m6, .inl (cI, 4096, .inl (upd gv y_5.toNatClampNeg n))), (h0, .inr (9, [.ref m1, .ref m2, .ref m3, .int ik, .int wy, .int op, .int cl, .int cx0, .int cx1, .int cy0, .int cy1, .int ds, .ref m4, .ref m5, .ref m6, .ref m7, .ref m8, .ref m9, .int pn, .ref m10, .ref m11, .ref m12, .ref m13])), (m1, .inl (cI, 4, .inl gw)), (m2, .inl (cI, 4, .inl gh))] := hD
    generalize eg_8 : upd gv y_5.toNatClampNeg n = g_8 at hP hD
    have hP : va_P D vwCl [(m4, .inl (cZ, 4096, .inl g_6)), (m5, .inl (cI, 4096, .inl g_7)), (m6, .inl (cI, 4096, .inl g_8)), (h0, .inr (9, [.ref m1, .ref m2, .ref m3, .int ik, .int wy, .int op, .int cl, .int cx0, .int cx1, .int cy0, .int cy1, .int ds, .ref m4, .ref m5, .ref m6, .ref m7, .ref m8, .ref m9, .int pn, .ref m10, .ref m11, .ref m12, .ref m13])), (m1, .inl (cI, 4, .inl gw)), (m2, .inl (cI, 4, .inl gh))] H := hP
    have hD : va_D A [(m4, .inl (cZ, 4096, .inl g_6)), (m5, .inl (cI, 4096, .inl g_7)), (m6, .inl (cI, 4096, .inl g_8)), (h0, .inr (9, [.ref m1, .ref m2, .ref m3, .int ik, .int wy, .int op, .int cl, .int cx0, .int cx1, .int cy0, .int cy1, .int ds, .ref m4, .ref m5, .ref m6, .ref m7, .ref m8, .ref m9, .int pn, .ref m10, .ref m11, .ref m12, .ref m13])), (m1, .inl (cI, 4, .inl gw)), (m2, .inl (cI, 4, .inl gh))] := hD
    have hc : g_6 = if (0 ≤ x.toInt ∧ x.toInt < (gw k.toNatClampNeg).toInt ∧ 0 ≤ y.toInt ∧ y.toInt < (gh k.toNatClampNeg).toInt) ∧ (cl.toInt = 0 ∨ (cx0.toInt ≤ x.toInt ∧ x.toInt ≤ cx1.toInt ∧ cy0.toInt ≤ y.toInt ∧ y.toInt ≤ cy1.toInt)) then upd gm (ixP x y) 1 else gm := by rw [if_pos (by first | assumption | omega), ← eg_6]; exact congrArg (fun i => upd gm i 1) (by subst_vars; exact ix_cl2 (by omega) (by omega) (by omega) (by omega))
    rw [hc] at hP hD
    have hc : g_7 = if (0 ≤ x.toInt ∧ x.toInt < (gw k.toNatClampNeg).toInt ∧ 0 ≤ y.toInt ∧ y.toInt < (gh k.toNatClampNeg).toInt) ∧ (cl.toInt = 0 ∨ (cx0.toInt ≤ x.toInt ∧ x.toInt ≤ cx1.toInt ∧ cy0.toInt ≤ y.toInt ∧ y.toInt ≤ cy1.toInt)) then upd ge (ixP x y) v else ge := by rw [if_pos (by first | assumption | omega), ← eg_7]; exact congrArg (fun i => upd ge i v) (by subst_vars; exact ix_cl2 (by omega) (by omega) (by omega) (by omega))
    rw [hc] at hP hD
    have hc : g_8 = if (0 ≤ x.toInt ∧ x.toInt < (gw k.toNatClampNeg).toInt ∧ 0 ≤ y.toInt ∧ y.toInt < (gh k.toNatClampNeg).toInt) ∧ (cl.toInt = 0 ∨ (cx0.toInt ≤ x.toInt ∧ x.toInt ≤ cx1.toInt ∧ cy0.toInt ≤ y.toInt ∧ y.toInt ≤ cy1.toInt)) then upd gv (ixP x y) n else gv := by rw [if_pos (by first | assumption | omega), ← eg_8]; exact congrArg (fun i => upd gv i n) (by subst_vars; exact ix_cl2 (by omega) (by omega) (by omega) (by omega))
    rw [hc] at hP hD
    have hP9 := hP.sub (ws' := [(h0, .inr (9, [.ref m1, .ref m2, .ref m3, .int ik, .int wy, .int op, .int cl, .int cx0, .int cx1, .int cy0, .int cy1, .int ds, .ref m4, .ref m5, .ref m6, .ref m7, .ref m8, .ref m9, .int pn, .ref m10, .ref m11, .ref m12, .ref m13])), (m1, .inl (cI, 4, .inl gw)), (m2, .inl (cI, 4, .inl gh)), (m4, .inl (cZ, 4096, .inl (if (0 ≤ x.toInt ∧ x.toInt < (gw k.toNatClampNeg).toInt ∧ 0 ≤ y.toInt ∧ y.toInt < (gh k.toNatClampNeg).toInt) ∧ (cl.toInt = 0 ∨ (cx0.toInt ≤ x.toInt ∧ x.toInt ≤ cx1.toInt ∧ cy0.toInt ≤ y.toInt ∧ y.toInt ≤ cy1.toInt)) then upd gm (ixP x y) 1 else gm))), (m5, .inl (cI, 4096, .inl (if (0 ≤ x.toInt ∧ x.toInt < (gw k.toNatClampNeg).toInt ∧ 0 ≤ y.toInt ∧ y.toInt < (gh k.toNatClampNeg).toInt) ∧ (cl.toInt = 0 ∨ (cx0.toInt ≤ x.toInt ∧ x.toInt ≤ cx1.toInt ∧ cy0.toInt ≤ y.toInt ∧ y.toInt ≤ cy1.toInt)) then upd ge (ixP x y) v else ge))), (m6, .inl (cI, 4096, .inl (if (0 ≤ x.toInt ∧ x.toInt < (gw k.toNatClampNeg).toInt ∧ 0 ≤ y.toInt ∧ y.toInt < (gh k.toNatClampNeg).toInt) ∧ (cl.toInt = 0 ∨ (cx0.toInt ≤ x.toInt ∧ x.toInt ≤ cx1.toInt ∧ cy0.toInt ≤ y.toInt ∧ y.toInt ≤ cy1.toInt)) then upd gv (ixP x y) n else gv)))]) [3, 4, 5, 0, 1, 2] rfl
    have hD9 := hD.sub (ws' := [(h0, .inr (9, [.ref m1, .ref m2, .ref m3, .int ik, .int wy, .int op, .int cl, .int cx0, .int cx1, .int cy0, .int cy1, .int ds, .ref m4, .ref m5, .ref m6, .ref m7, .ref m8, .ref m9, .int pn, .ref m10, .ref m11, .ref m12, .ref m13])), (m1, .inl (cI, 4, .inl gw)), (m2, .inl (cI, 4, .inl gh)), (m4, .inl (cZ, 4096, .inl (if (0 ≤ x.toInt ∧ x.toInt < (gw k.toNatClampNeg).toInt ∧ 0 ≤ y.toInt ∧ y.toInt < (gh k.toNatClampNeg).toInt) ∧ (cl.toInt = 0 ∨ (cx0.toInt ≤ x.toInt ∧ x.toInt ≤ cx1.toInt ∧ cy0.toInt ≤ y.toInt ∧ y.toInt ≤ cy1.toInt)) then upd gm (ixP x y) 1 else gm))), (m5, .inl (cI, 4096, .inl (if (0 ≤ x.toInt ∧ x.toInt < (gw k.toNatClampNeg).toInt ∧ 0 ≤ y.toInt ∧ y.toInt < (gh k.toNatClampNeg).toInt) ∧ (cl.toInt = 0 ∨ (cx0.toInt ≤ x.toInt ∧ x.toInt ≤ cx1.toInt ∧ cy0.toInt ≤ y.toInt ∧ y.toInt ≤ cy1.toInt)) then upd ge (ixP x y) v else ge))), (m6, .inl (cI, 4096, .inl (if (0 ≤ x.toInt ∧ x.toInt < (gw k.toNatClampNeg).toInt ∧ 0 ≤ y.toInt ∧ y.toInt < (gh k.toNatClampNeg).toInt) ∧ (cl.toInt = 0 ∨ (cx0.toInt ≤ x.toInt ∧ x.toInt ≤ cx1.toInt ∧ cy0.toInt ≤ y.toInt ∧ y.toInt ≤ cy1.toInt)) then upd gv (ixP x y) n else gv)))]) [3, 4, 5, 0, 1, 2] (by decide) rfl
    have hK9 := hK.sub (tys' := [(cI, .int), (cZ, .boolean)]) [0, 1] rfl
    refine hQ _ _ _ _ _ ?_
    exact W.vret hx hb hr (fun t ht hW => ⟨⟨(), rfl, trivial, ⟨by rw [ht]; exact hP9, va_K.moved hW.alike hK9, hD9⟩⟩, hS.F ht⟩) hS.2.2 dX9_marks_45
  · skip
    have f_3 := bz0 hr_1 c_2
    have hc : gm = if (0 ≤ x.toInt ∧ x.toInt < (gw k.toNatClampNeg).toInt ∧ 0 ≤ y.toInt ∧ y.toInt < (gh k.toNatClampNeg).toInt) ∧ (cl.toInt = 0 ∨ (cx0.toInt ≤ x.toInt ∧ x.toInt ≤ cx1.toInt ∧ cy0.toInt ≤ y.toInt ∧ y.toInt ≤ cy1.toInt)) then upd gm (ixP x y) 1 else gm := (if_neg (by first | assumption | omega)).symm
    rw [hc] at hP hD
    have hc : ge = if (0 ≤ x.toInt ∧ x.toInt < (gw k.toNatClampNeg).toInt ∧ 0 ≤ y.toInt ∧ y.toInt < (gh k.toNatClampNeg).toInt) ∧ (cl.toInt = 0 ∨ (cx0.toInt ≤ x.toInt ∧ x.toInt ≤ cx1.toInt ∧ cy0.toInt ≤ y.toInt ∧ y.toInt ≤ cy1.toInt)) then upd ge (ixP x y) v else ge := (if_neg (by first | assumption | omega)).symm
    rw [hc] at hP hD
    have hc : gv = if (0 ≤ x.toInt ∧ x.toInt < (gw k.toNatClampNeg).toInt ∧ 0 ≤ y.toInt ∧ y.toInt < (gh k.toNatClampNeg).toInt) ∧ (cl.toInt = 0 ∨ (cx0.toInt ≤ x.toInt ∧ x.toInt ≤ cx1.toInt ∧ cy0.toInt ≤ y.toInt ∧ y.toInt ≤ cy1.toInt)) then upd gv (ixP x y) n else gv := (if_neg (by first | assumption | omega)).symm
    rw [hc] at hP hD
    have hP9 := hP.sub (ws' := [(h0, .inr (9, [.ref m1, .ref m2, .ref m3, .int ik, .int wy, .int op, .int cl, .int cx0, .int cx1, .int cy0, .int cy1, .int ds, .ref m4, .ref m5, .ref m6, .ref m7, .ref m8, .ref m9, .int pn, .ref m10, .ref m11, .ref m12, .ref m13])), (m1, .inl (cI, 4, .inl gw)), (m2, .inl (cI, 4, .inl gh)), (m4, .inl (cZ, 4096, .inl (if (0 ≤ x.toInt ∧ x.toInt < (gw k.toNatClampNeg).toInt ∧ 0 ≤ y.toInt ∧ y.toInt < (gh k.toNatClampNeg).toInt) ∧ (cl.toInt = 0 ∨ (cx0.toInt ≤ x.toInt ∧ x.toInt ≤ cx1.toInt ∧ cy0.toInt ≤ y.toInt ∧ y.toInt ≤ cy1.toInt)) then upd gm (ixP x y) 1 else gm))), (m5, .inl (cI, 4096, .inl (if (0 ≤ x.toInt ∧ x.toInt < (gw k.toNatClampNeg).toInt ∧ 0 ≤ y.toInt ∧ y.toInt < (gh k.toNatClampNeg).toInt) ∧ (cl.toInt = 0 ∨ (cx0.toInt ≤ x.toInt ∧ x.toInt ≤ cx1.toInt ∧ cy0.toInt ≤ y.toInt ∧ y.toInt ≤ cy1.toInt)) then upd ge (ixP x y) v else ge))), (m6, .inl (cI, 4096, .inl (if (0 ≤ x.toInt ∧ x.toInt < (gw k.toNatClampNeg).toInt ∧ 0 ≤ y.toInt ∧ y.toInt < (gh k.toNatClampNeg).toInt) ∧ (cl.toInt = 0 ∨ (cx0.toInt ≤ x.toInt ∧ x.toInt ≤ cx1.toInt ∧ cy0.toInt ≤ y.toInt ∧ y.toInt ≤ cy1.toInt)) then upd gv (ixP x y) n else gv)))]) [3, 4, 5, 0, 1, 2] rfl
    have hD9 := hD.sub (ws' := [(h0, .inr (9, [.ref m1, .ref m2, .ref m3, .int ik, .int wy, .int op, .int cl, .int cx0, .int cx1, .int cy0, .int cy1, .int ds, .ref m4, .ref m5, .ref m6, .ref m7, .ref m8, .ref m9, .int pn, .ref m10, .ref m11, .ref m12, .ref m13])), (m1, .inl (cI, 4, .inl gw)), (m2, .inl (cI, 4, .inl gh)), (m4, .inl (cZ, 4096, .inl (if (0 ≤ x.toInt ∧ x.toInt < (gw k.toNatClampNeg).toInt ∧ 0 ≤ y.toInt ∧ y.toInt < (gh k.toNatClampNeg).toInt) ∧ (cl.toInt = 0 ∨ (cx0.toInt ≤ x.toInt ∧ x.toInt ≤ cx1.toInt ∧ cy0.toInt ≤ y.toInt ∧ y.toInt ≤ cy1.toInt)) then upd gm (ixP x y) 1 else gm))), (m5, .inl (cI, 4096, .inl (if (0 ≤ x.toInt ∧ x.toInt < (gw k.toNatClampNeg).toInt ∧ 0 ≤ y.toInt ∧ y.toInt < (gh k.toNatClampNeg).toInt) ∧ (cl.toInt = 0 ∨ (cx0.toInt ≤ x.toInt ∧ x.toInt ≤ cx1.toInt ∧ cy0.toInt ≤ y.toInt ∧ y.toInt ≤ cy1.toInt)) then upd ge (ixP x y) v else ge))), (m6, .inl (cI, 4096, .inl (if (0 ≤ x.toInt ∧ x.toInt < (gw k.toNatClampNeg).toInt ∧ 0 ≤ y.toInt ∧ y.toInt < (gh k.toNatClampNeg).toInt) ∧ (cl.toInt = 0 ∨ (cx0.toInt ≤ x.toInt ∧ x.toInt ≤ cx1.toInt ∧ cy0.toInt ≤ y.toInt ∧ y.toInt ≤ cy1.toInt)) then upd gv (ixP x y) n else gv)))]) [3, 4, 5, 0, 1, 2] (by decide) rfl
    have hK9 := hK.sub (tys' := [(cI, .int), (cZ, .boolean)]) [0, 1] rfl
    refine hQ _ _ _ _ _ ?_
    exact W.vret hx hb hr (fun t ht hW => ⟨⟨(), rfl, trivial, ⟨by rw [ht]; exact hP9, va_K.moved hW.alike hK9, hD9⟩⟩, hS.F ht⟩) hS.2.2 dX9_marks_10

set_option maxHeartbeats 4000000 in
set_option maxRecDepth 100000 in
theorem k_X9_lays (l : Launch) (D : va_G) (sz : Nat) (h0 m1 m2 m3 m4 m5 m6 m7 m8 m9 m10 m11 m12 m13 : Nat) (ik wy op cl cx0 cx1 cy0 cy1 ds pn : Int32) (gd : Nat → Int32) (gm : Nat → Int32) (ge : Nat → Int32) (gv : Nat → Int32) (k : Int32) (cI : ClassId) (cZ : ClassId) (hk : 0 ≤ k.toInt ∧ k.toInt ≤ 3) (hwy : 0 ≤ wy.toInt ∧ wy.toInt ≤ 12) : Met l yX9_lays (wB yX9_lays cX9_lays 4 (some .int)) ({ frames := 2, cells := 0, slots := 0, locals := 50 }) (cP D [(h0, .inr (9, [.ref m1, .ref m2, .ref m3, .int ik, .int wy, .int op, .int cl, .int cx0, .int cx1, .int cy0, .int cy1, .int ds, .ref m4, .ref m5, .ref m6, .ref m7, .ref m8, .ref m9, .int pn, .ref m10, .ref m11, .ref m12, .ref m13])), (m3, .inl (cI, 16384, .inl gd)), (m4, .inl (cZ, 4096, .inl gm)), (m5, .inl (cI, 4096, .inl ge)), (m6, .inl (cI, 4096, .inl gv))] [(cI, .int), (cZ, .boolean)] sz [.ref h0, .int k]) (va_Qi (fun (r : Int32) (_ : Unit) => r = nI (cntP gm 4096)) (fun (_ : Unit) (t : State) => cB D (va_A [(h0, .inr (9, [.ref m1, .ref m2, .ref m3, .int ik, .int wy, .int op, .int cl, .int cx0, .int cx1, .int cy0, .int cy1, .int ds, .ref m4, .ref m5, .ref m6, .ref m7, .ref m8, .ref m9, .int pn, .ref m10, .ref m11, .ref m12, .ref m13])), (m3, .inl (cI, 16384, .inl gd)), (m4, .inl (cZ, 4096, .inl gm)), (m5, .inl (cI, 4096, .inl ge)), (m6, .inl (cI, 4096, .inl gv))] sz) [(h0, .inr (9, [.ref m1, .ref m2, .ref m3, .int ik, .int wy, .int op, .int cl, .int cx0, .int cx1, .int cy0, .int cy1, .int ds, .ref m4, .ref m5, .ref m6, .ref m7, .ref m8, .ref m9, .int pn, .ref m10, .ref m11, .ref m12, .ref m13])), (m3, .inl (cI, 16384, .inl (lysN wy gd gm ge gv k.toNatClampNeg 4096))), (m4, .inl (cZ, 4096, .inl gm)), (m5, .inl (cI, 4096, .inl ge)), (m6, .inl (cI, 4096, .inl gv))] [(cI, .int), (cZ, .boolean)] t) (va_A [(h0, .inr (9, [.ref m1, .ref m2, .ref m3, .int ik, .int wy, .int op, .int cl, .int cx0, .int cx1, .int cy0, .int cy1, .int ds, .ref m4, .ref m5, .ref m6, .ref m7, .ref m8, .ref m9, .int pn, .ref m10, .ref m11, .ref m12, .ref m13])), (m3, .inl (cI, 16384, .inl gd)), (m4, .inl (cZ, 4096, .inl gm)), (m5, .inl (cI, 4096, .inl ge)), (m6, .inl (cI, 4096, .inl gv))] sz)) 0 0 (va_A [(h0, .inr (9, [.ref m1, .ref m2, .ref m3, .int ik, .int wy, .int op, .int cl, .int cx0, .int cx1, .int cy0, .int cy1, .int ds, .ref m4, .ref m5, .ref m6, .ref m7, .ref m8, .ref m9, .int pn, .ref m10, .ref m11, .ref m12, .ref m13])), (m3, .inl (cI, 16384, .inl gd)), (m4, .inl (cZ, 4096, .inl gm)), (m5, .inl (cI, 4096, .inl ge)), (m6, .inl (cI, 4096, .inl gv))] sz) := by
  refine Met.ofW (cc := cX9_lays) (maxL := 4) (ret := (some .int)) (by decide) rfl ?_
  intro p e s m args below meth c s₁ B hml hv
  obtain ⟨rfl, hsz, hP, hK, hD0, hN⟩ := hv
  have hx := B.exec
  have hb := B.bytes
  have hr := B.returns
  have hts0 := atoms_spec (ws := (wB yX9_lays cX9_lays 4 (some .int))) B.pre
  have hts : ∀ w ∈ bigW, w.before _ s = true := fun w h => hts0 w (List.mem_cons_of_mem _ h)
  have hown : s.vm.findClass RX9 = some m.cls := findClass_of_methodNamed B.named
  have hlocks := B.notSynchronized
  subst hsz
  have hD := hD0.self (sz := s.heap.size)
  generalize hAe : va_A [(h0, .inr (9, [.ref m1, .ref m2, .ref m3, .int ik, .int wy, .int op, .int cl, .int cx0, .int cx1, .int cy0, .int cy1, .int ds, .ref m4, .ref m5, .ref m6, .ref m7, .ref m8, .ref m9, .int pn, .ref m10, .ref m11, .ref m12, .ref m13])), (m3, .inl (cI, 16384, .inl gd)), (m4, .inl (cZ, 4096, .inl gm)), (m5, .inl (cI, 4096, .inl ge)), (m6, .inl (cI, 4096, .inl gv))] s.heap.size = A at hD ⊢
  have hA : ∀ q : Nat, s.heap.size ≤ q → A q := fun q h => by rw [← hAe]; exact Or.inr h
  have hS : va_S A s.heap s.heap [] := va_S.rf
  have hP : va_P D vwCl [(h0, .inr (9, [.ref m1, .ref m2, .ref m3, .int ik, .int wy, .int op, .int cl, .int cx0, .int cx1, .int cy0, .int cy1, .int ds, .ref m4, .ref m5, .ref m6, .ref m7, .ref m8, .ref m9, .int pn, .ref m10, .ref m11, .ref m12, .ref m13])), (m3, .inl (cI, 16384, .inl gd)), (m4, .inl (cZ, 4096, .inl gm)), (m5, .inl (cI, 4096, .inl ge)), (m6, .inl (cI, 4096, .inl gv))] s.heap := hP
  have hl := lv_entry ([.ref h0, .int k]) (n := 4) (Nat.le_of_ble_eq_true rfl)
  rw [lg_entry_eq]
  generalize (lg_sl ([.ref h0, .int k]) ++ List.replicate (4 - (lg_sl ([.ref h0, .int k])).length) Slot.unset).toArray = ls at hl ⊢
  have hl : lv_has ls 4 [(0, .ref h0), (1, .int k)] := hl
  clear hts0 hD0 hAe
  refine my_abs (fun R Q hR hQ => ?_)
  refine lv_iconst (v := 0) hx hb dX9_lays_0 (by decide) ?_
  refine lv_istore_n (lv' := [(2, .int 0), (0, .ref h0), (1, .int k)]) hx hb dX9_lays_1 rfl hl (by decide) rfl (fun ls hl => ?_)
  obtain ⟨kk, hkk, ek⟩ := i_of (x := k) (N := 4) (by omega) (by omega) (by decide)
  have ekn : k.toNatClampNeg = kk := by rw [ek]; exact nI_clamp (by omega)
  refine lv_iconst (v := 0) hx hb dX9_lays_2 (by decide) ?_
  refine lv_istore_n (lv' := [(3, .int 0), (2, .int 0), (0, .ref h0), (1, .int k)]) hx hb dX9_lays_3 rfl hl (by decide) rfl (fun ls hl => ?_)
  have loop_1 : ∀ (n : Nat) (i : Nat) (x3 : Int32) (x2 : Int32) (gg : Nat → Int32) (H : Heap) (locs : List Loc) (ls : Array Slot), (i ≤ 4096) → (4096 + 1 ≤ i + n) → (x3 = nI i) → (x2 = nI (cntP gm i)) → (gg = lysN wy gd gm ge gv kk i) → va_P D vwCl [(h0, .inr (9, [.ref m1, .ref m2, .ref m3, .int ik, .int wy, .int op, .int cl, .int cx0, .int cx1, .int cy0, .int cy1, .int ds, .ref m4, .ref m5, .ref m6, .ref m7, .ref m8, .ref m9, .int pn, .ref m10, .ref m11, .ref m12, .ref m13])), (m3, .inl (cI, 16384, .inl gg)), (m4, .inl (cZ, 4096, .inl gm)), (m5, .inl (cI, 4096, .inl ge)), (m6, .inl (cI, 4096, .inl gv))] H → va_D A [(h0, .inr (9, [.ref m1, .ref m2, .ref m3, .int ik, .int wy, .int op, .int cl, .int cx0, .int cx1, .int cy0, .int cy1, .int ds, .ref m4, .ref m5, .ref m6, .ref m7, .ref m8, .ref m9, .int pn, .ref m10, .ref m11, .ref m12, .ref m13])), (m3, .inl (cI, 16384, .inl gg)), (m4, .inl (cZ, 4096, .inl gm)), (m5, .inl (cI, 4096, .inl ge)), (m6, .inl (cI, 4096, .inl gv))] → va_S A s.heap H locs → lv_has ls 4 [(3, .int x3), (2, .int x2), (0, .ref h0), (1, .int k)] → W p l e R s m ([.ref h0, .int k] : List Value).toArray below meth c H locs 0 0 Q (F0 m 4 ls []) := by
    intro n
    induction n with
    | zero =>
      intro i x3 x2 gg H locs ls hi hm ex en hg hP hD hS hl
      exact absurd (show False by omega) not_false
    | succ n ih_2 =>
      intro i x3 x2 gg H locs ls hi hm ex en hg hP hD hS hl
      have hxi : x3.toInt = (i : Int) := by rw [ex]; exact nI_toInt (by omega)
      refine lv_iload_n hx hb dX9_lays_4 rfl (lv_at hl 0 rfl) ?_
      refine lv_sipush (v := 4096) hx hb dX9_lays_5 (by decide) ?_
      refine lv_icmp_ge (tgt := 73) hx hb dX9_lays_8 (by decide) (fun c_3 => ?_) (fun c_3 => ?_)
      · skip
        have f_4 : 4096 ≤ (i : Int) := f_le (by decide) hxi c_3
        refine lv_iload_n hx hb dX9_lays_73 rfl (lv_at hl 1 rfl) ?_
        have hc : gg = lysN wy gd gm ge gv k.toNatClampNeg 4096 := by rw [hg, ekn, show i = 4096 by omega]
        rw [hc] at hP hD
        have hP9 := hP.sub (ws' := [(h0, .inr (9, [.ref m1, .ref m2, .ref m3, .int ik, .int wy, .int op, .int cl, .int cx0, .int cx1, .int cy0, .int cy1, .int ds, .ref m4, .ref m5, .ref m6, .ref m7, .ref m8, .ref m9, .int pn, .ref m10, .ref m11, .ref m12, .ref m13])), (m3, .inl (cI, 16384, .inl (lysN wy gd gm ge gv k.toNatClampNeg 4096))), (m4, .inl (cZ, 4096, .inl gm)), (m5, .inl (cI, 4096, .inl ge)), (m6, .inl (cI, 4096, .inl gv))]) [0, 1, 2, 3, 4] rfl
        have hD9 := hD.sub (ws' := [(h0, .inr (9, [.ref m1, .ref m2, .ref m3, .int ik, .int wy, .int op, .int cl, .int cx0, .int cx1, .int cy0, .int cy1, .int ds, .ref m4, .ref m5, .ref m6, .ref m7, .ref m8, .ref m9, .int pn, .ref m10, .ref m11, .ref m12, .ref m13])), (m3, .inl (cI, 16384, .inl (lysN wy gd gm ge gv k.toNatClampNeg 4096))), (m4, .inl (cZ, 4096, .inl gm)), (m5, .inl (cI, 4096, .inl ge)), (m6, .inl (cI, 4096, .inl gv))]) [0, 1, 2, 3, 4] (by decide) rfl
        have hK9 := hK.sub (tys' := [(cI, .int), (cZ, .boolean)]) [0, 1] rfl
        refine hQ _ _ _ _ _ ?_
        exact W.iret (v := x2) hx hb hr (fun t ht hW => ⟨⟨x2, (), rfl, (by rw [en, show i = 4096 by omega]), ⟨by rw [ht]; exact hP9, va_K.moved hW.alike hK9, hD9⟩⟩, hS.F ht⟩) hS.2.2 dX9_lays_74
      · skip
        have f_4 : ¬ (4096 ≤ (i : Int)) := fn_le (by decide) hxi c_3
        refine lv_aload_n hx hb dX9_lays_11 rfl (lv_at hl 2 rfl) ?_
        refine va_get (D := D) (ci := 9) (v := .ref m4) (C := RX9) (T := TX9) (N := 23) hx hb hts hi_X9 hown hK hP 0 rfl rfl 12 (by decide) (hts _ bw_91) (fun _ h9 => h9) rfl dX9_lays_12 ?_
        refine lv_iload_n hx hb dX9_lays_15 rfl (lv_at hl 0 rfl) ?_
        refine va_zald hx hb hK hP 2 1 rfl rfl (by rw [ex]; exact vp_in_nI (by omega) (by omega)) dX9_lays_16 ?_
        refine my_fold (v := gm i) (congrArg gm (by rw [ex]; exact nI_clamp (by omega))) ?_
        refine lv_if_ne (tgt := 23) hx hb dX9_lays_17 (by decide) (fun c_5 => ?_) (fun c_5 => ?_)
        · skip
          have f_6 : ¬ ((gm i).toInt = 0) := fn_eq rfl (by decide) c_5
          refine lv_aload_n hx hb dX9_lays_23 rfl (lv_at hl 2 rfl) ?_
          refine va_get (D := D) (ci := 9) (v := .ref m3) (C := RX9) (T := TX9) (N := 23) hx hb hts hi_X9 hown hK hP 0 rfl rfl 2 (by decide) (hts _ bw_98) (fun _ h9 => h9) rfl dX9_lays_24 ?_
          refine lv_sipush (v := 4096) hx hb dX9_lays_27 (by decide) ?_
          refine lv_iload_n hx hb dX9_lays_30 rfl (lv_at hl 3 rfl) ?_
          refine lv_imul hx hb dX9_lays_31 ?_
          refine lv_topi (fun y_7 ey_7 => ?_)
          refine lv_iload_n hx hb dX9_lays_32 rfl (lv_at hl 0 rfl) ?_
          refine lv_iadd hx hb dX9_lays_33 ?_
          refine lv_topi (fun y_8 ey_8 => ?_)
          refine lv_aload_n hx hb dX9_lays_34 rfl (lv_at hl 2 rfl) ?_
          refine lv_aload_n hx hb dX9_lays_35 rfl (lv_at hl 2 rfl) ?_
          refine va_get (D := D) (ci := 9) (v := .ref m6) (C := RX9) (T := TX9) (N := 23) hx hb hts hi_X9 hown hK hP 0 rfl rfl 14 (by decide) (hts _ bw_97) (fun _ h9 => h9) rfl dX9_lays_36 ?_
          refine lv_iload_n hx hb dX9_lays_39 rfl (lv_at hl 0 rfl) ?_
          refine va_iald hx hb hK hP 4 0 rfl rfl (by rw [ex]; exact vp_in_nI (by omega) (by omega)) dX9_lays_40 ?_
          refine my_fold (v := gv i) (congrArg gv (by rw [ex]; exact nI_clamp (by omega))) ?_
          refine lv_aload_n hx hb dX9_lays_41 rfl (lv_at hl 2 rfl) ?_
          refine va_get (D := D) (ci := 9) (v := .ref m3) (C := RX9) (T := TX9) (N := 23) hx hb hts hi_X9 hown hK hP 0 rfl rfl 2 (by decide) (hts _ bw_98) (fun _ h9 => h9) rfl dX9_lays_42 ?_
          refine lv_sipush (v := 4096) hx hb dX9_lays_45 (by decide) ?_
          refine lv_iload_n hx hb dX9_lays_48 rfl (lv_at hl 3 rfl) ?_
          refine lv_imul hx hb dX9_lays_49 ?_
          refine lv_topi (fun y_9 ey_9 => ?_)
          refine lv_iload_n hx hb dX9_lays_50 rfl (lv_at hl 0 rfl) ?_
          refine lv_iadd hx hb dX9_lays_51 ?_
          refine lv_topi (fun y_10 ey_10 => ?_)
          refine va_iald hx hb hK hP 1 0 rfl rfl (by rw [ey_10, ey_9, ek, ex]; exact lp_in hkk (by omega)) dX9_lays_52 ?_
          refine my_fold (v := gg (4096 * kk + i)) (congrArg gg (by rw [ey_10, ey_9, ek, ex]; exact lp_cl hkk (by omega))) ?_
          refine lv_aload_n hx hb dX9_lays_53 rfl (lv_at hl 2 rfl) ?_
          refine va_get (D := D) (ci := 9) (v := .ref m5) (C := RX9) (T := TX9) (N := 23) hx hb hts hi_X9 hown hK hP 0 rfl rfl 13 (by decide) (hts _ bw_96) (fun _ h9 => h9) rfl dX9_lays_54 ?_
          refine lv_iload_n hx hb dX9_lays_57 rfl (lv_at hl 0 rfl) ?_
          refine va_iald hx hb hK hP 3 0 rfl rfl (by rw [ex]; exact vp_in_nI (by omega) (by omega)) dX9_lays_58 ?_
          refine my_fold (v := ge i) (congrArg ge (by rw [ex]; exact nI_clamp (by omega))) ?_
          have hPc := hP.sub (ws' := [(h0, .inr (9, [.ref m1, .ref m2, .ref m3, .int ik, .int wy, .int op, .int cl, .int cx0, .int cx1, .int cy0, .int cy1, .int ds, .ref m4, .ref m5, .ref m6, .ref m7, .ref m8, .ref m9, .int pn, .ref m10, .ref m11, .ref m12, .ref m13]))]) [0] rfl
          have hDc := hD.sub (ws' := [(h0, .inr (9, [.ref m1, .ref m2, .ref m3, .int ik, .int wy, .int op, .int cl, .int cx0, .int cx1, .int cy0, .int cy1, .int ds, .ref m4, .ref m5, .ref m6, .ref m7, .ref m8, .ref m9, .int pn, .ref m10, .ref m11, .ref m12, .ref m13]))]) [0] (by decide) rfl
          have hKc := hK.sub (tys' := []) [] rfl
          have hFc := va_free (wc := [(h0, .inr (9, [.ref m1, .ref m2, .ref m3, .int ik, .int wy, .int op, .int cl, .int cx0, .int cx1, .int cy0, .int cy1, .int ds, .ref m4, .ref m5, .ref m6, .ref m7, .ref m8, .ref m9, .int pn, .ref m10, .ref m11, .ref m12, .ref m13]))]) hD hS hA [0] rfl
          refine va_calli (va_runV (As := [.int (gv i), .int (gg (4096 * kk + i)), .int (ge i)]) (rest := [.int y_8, .ref m3]) ⟨hx, hb, hml, hown, hts⟩ (k_X9_laid l D H.size h0 m1 m2 m3 m4 m5 m6 m7 m8 m9 m10 m11 m12 m13 ik wy op cl cx0 cx1 cy0 cy1 ds pn (gv i) (gg (4096 * kk + i)) (ge i) (by first | assumption | omega | decide)) (cwV 3 hts (gV bw_100 bw_101 bw_102 bw_61 bw_99) rfl rfl rfl (by decide +kernel) ⟨(by rw [hR]; exact Nat.le_of_ble_eq_true rfl), (by rw [hR]; exact Nat.le_of_ble_eq_true rfl)⟩) ⟨cP_blind, va_recv hKc hPc (ci := 9) (q0 := 0) rfl rfl, cP_at hPc hKc hDc hN⟩ rfl rfl hl.1 rfl (lv_room (Nat.le_of_ble_eq_true rfl)) dX9_lays_59 ⟨(by rw [hR]; exact Nat.le_of_ble_eq_true rfl), (by rw [hR]; exact Nat.le_of_ble_eq_true rfl)⟩) hS (fun q _ h => hFc q h) hFc (fun r_11 u9 t9 H1 locs ht hvm hr_11 hB hz1 hk1 hS => ?_)
          try dsimp only at hr_11
          obtain ⟨hP1, hK1, hD1⟩ := hB
          rw [ht] at hP1
          obtain ⟨hP, hD⟩ := va_join (wr := [(m3, .inl (cI, 16384, .inl gg)), (m4, .inl (cZ, 4096, .inl gm)), (m5, .inl (cI, 4096, .inl ge)), (m6, .inl (cI, 4096, .inl gv))]) (w1 := [(h0, .inr (9, [.ref m1, .ref m2, .ref m3, .int ik, .int wy, .int op, .int cl, .int cx0, .int cx1, .int cy0, .int cy1, .int ds, .ref m4, .ref m5, .ref m6, .ref m7, .ref m8, .ref m9, .int pn, .ref m10, .ref m11, .ref m12, .ref m13]))]) hP hD [0] [1, 2, 3, 4] rfl rfl (by decide) (by decide) hk1 hFc hP1 hD1
          clear hz1 hk1 hFc hKc hDc hPc
          generalize H1 = H at hP hS ⊢
          have hP : va_P D vwCl [(m3, .inl (cI, 16384, .inl gg)), (m4, .inl (cZ, 4096, .inl gm)), (m5, .inl (cI, 4096, .inl ge)), (m6, .inl (cI, 4096, .inl gv)), (h0, .inr (9, [.ref m1, .ref m2, .ref m3, .int ik, .int wy, .int op, .int cl, .int cx0, .int cx1, .int cy0, .int cy1, .int ds, .ref m4, .ref m5, .ref m6, .ref m7, .ref m8, .ref m9, .int pn, .ref m10, .ref m11, .ref m12, .ref m13]))] H := hP
          have hD : va_D A [(m3, .inl (cI, 16384, .inl gg)), (m4, .inl (cZ, 4096, .inl gm)), (m5, .inl (cI, 4096, .inl ge)), (m6, .inl (cI, 4096, .inl gv)), (h0, .inr (9, [.ref m1, .ref m2, .ref m3, .int ik, .int wy, .int op, .int cl, .int cx0, .int cx1, .int cy0, .int cy1, .int ds, .ref m4, .ref m5, .ref m6, .ref m7, .ref m8, .ref m9, .int pn, .ref m10, .ref m11, .ref m12, .ref m13]))] := hD
          refine va_iast hx hb hK hP hD hS 0 0 rfl rfl (by rw [ey_8, ey_7, ek, ex]; exact lp_in hkk (by omega)) dX9_lays_62 (fun H locs hP hD hS => ?_)
          have hP : va_P D vwCl [(m3, .inl (cI, 16384, .inl (upd gg y_8.toNatClampNeg r_11))), (m4, .inl (cZ, 4096, .inl gm)), (m5, .inl (cI, 4096, .inl ge)), (m6, .inl (cI, 4096, .inl gv)), (h0, .inr (9, [.ref m1, .ref m2, .ref m3, .int ik, .int wy, .int op, .int cl, .int cx0, .int cx1, .int cy0, .int cy1, .int ds, .ref m4, .ref m5, .ref m6, .ref m7, .ref m8, .ref m9, .int pn, .ref m10, .ref m11, .ref m12, .ref m13]))] H := hP
          have hD : va_D A [(m3, .inl (cI, 16384, .inl (upd gg y_8.toNatClampNeg r_11))), (m4, .inl (cZ, 4096, .inl gm)), (m5, .inl (cI, 4096, .inl ge)), (m6, .inl (cI, 4096, .inl gv)), (h0, .inr (9, [.ref m1, .ref m2, .ref m3, .int ik, .int wy, .int op, .int cl, .int cx0, .int cx1, .int cy0, .int cy1, .int ds, .ref m4, .ref m5, .ref m6, .ref m7, .ref m8, .ref m9, .int pn, .ref m10, .ref m11, .ref m12, .ref m13]))] := hD
          generalize eg_12 : upd gg y_8.toNatClampNeg r_11 = g_12 at hP hD
          have hP : va_P D vwCl [(m3, .inl (cI, 16384, .inl g_12)), (m4, .inl (cZ, 4096, .inl gm)), (m5, .inl (cI, 4096, .inl ge)), (m6, .inl (cI, 4096, .inl gv)), (h0, .inr (9, [.ref m1, .ref m2, .ref m3, .int ik, .int wy, .int op, .int cl, .int cx0, .int cx1, .int cy0, .int cy1, .int ds, .ref m4, .ref m5, .ref m6, .ref m7, .ref m8, .ref m9, .int pn, .ref m10, .ref m11, .ref m12, .ref m13]))] H := hP
          have hD : va_D A [(m3, .inl (cI, 16384, .inl g_12)), (m4, .inl (cZ, 4096, .inl gm)), (m5, .inl (cI, 4096, .inl ge)), (m6, .inl (cI, 4096, .inl gv)), (h0, .inr (9, [.ref m1, .ref m2, .ref m3, .int ik, .int wy, .int op, .int cl, .int cx0, .int cx1, .int cy0, .int cy1, .int ds, .ref m4, .ref m5, .ref m6, .ref m7, .ref m8, .ref m9, .int pn, .ref m10, .ref m11, .ref m12, .ref m13]))] := hD
          refine lv_iload_n hx hb dX9_lays_63 rfl (lv_at hl 1 rfl) ?_
          refine lv_iconst (v := 1) hx hb dX9_lays_64 (by decide) ?_
          refine lv_iadd hx hb dX9_lays_65 ?_
          refine lv_topi (fun y_13 ey_13 => ?_)
          refine lv_istore_n (lv' := [(2, .int y_13), (3, .int x3), (0, .ref h0), (1, .int k)]) hx hb dX9_lays_66 rfl hl (by decide) rfl (fun ls hl => ?_)
          obtain ⟨y_14, ey_14⟩ : ∃ y : Int32, y = x3 + 1 := ⟨_, rfl⟩
          refine lv_iinc (v := y_14) (lv' := [(3, .int y_14), (2, .int y_13), (0, .ref h0), (1, .int k)]) hx hb dX9_lays_67 hl (k := 1) rfl (by rw [ey_14]; rfl) (by decide) rfl (fun ls hl => ?_)
          refine lv_goto (tgt := 4) hx hb dX9_lays_70 (by decide) ?_
          exact ih_2 (i + 1) y_14 y_13 g_12 _ _ _ (by omega) (by omega) (by rw [ey_14, ex]; exact nI_1 i) (by rw [ey_13, en, cnt_up c_5]; exact nI_1 _) (by rw [← eg_12, hg]; subst_vars; rw [lp_cl hkk (by omega)]; exact lys_up c_5) (hP.sub (ws' := [(h0, .inr (9, [.ref m1, .ref m2, .ref m3, .int ik, .int wy, .int op, .int cl, .int cx0, .int cx1, .int cy0, .int cy1, .int ds, .ref m4, .ref m5, .ref m6, .ref m7, .ref m8, .ref m9, .int pn, .ref m10, .ref m11, .ref m12, .ref m13])), (m3, .inl (cI, 16384, .inl g_12)), (m4, .inl (cZ, 4096, .inl gm)), (m5, .inl (cI, 4096, .inl ge)), (m6, .inl (cI, 4096, .inl gv))]) [4, 0, 1, 2, 3] rfl) (hD.sub (ws' := [(h0, .inr (9, [.ref m1, .ref m2, .ref m3, .int ik, .int wy, .int op, .int cl, .int cx0, .int cx1, .int cy0, .int cy1, .int ds, .ref m4, .ref m5, .ref m6, .ref m7, .ref m8, .ref m9, .int pn, .ref m10, .ref m11, .ref m12, .ref m13])), (m3, .inl (cI, 16384, .inl g_12)), (m4, .inl (cZ, 4096, .inl gm)), (m5, .inl (cI, 4096, .inl ge)), (m6, .inl (cI, 4096, .inl gv))]) [4, 0, 1, 2, 3] (by decide) rfl) hS (lv_sub hl [0, 1, 2, 3] rfl)
        · skip
          have f_6 : (gm i).toInt = 0 := f_eq rfl (by decide) c_5
          refine lv_goto (tgt := 67) hx hb dX9_lays_20 (by decide) ?_
          obtain ⟨y_15, ey_15⟩ : ∃ y : Int32, y = x3 + 1 := ⟨_, rfl⟩
          refine lv_iinc (v := y_15) (lv' := [(3, .int y_15), (2, .int x2), (0, .ref h0), (1, .int k)]) hx hb dX9_lays_67 hl (k := 0) rfl (by rw [ey_15]; rfl) (by decide) rfl (fun ls hl => ?_)
          refine lv_goto (tgt := 4) hx hb dX9_lays_70 (by decide) ?_
          exact ih_2 (i + 1) y_15 x2 gg _ _ _ (by omega) (by omega) (by rw [ey_15, ex]; exact nI_1 i) (by rw [en, cnt_skip c_5]) (by rw [hg]; exact lys_skip c_5) (hP.sub (ws' := [(h0, .inr (9, [.ref m1, .ref m2, .ref m3, .int ik, .int wy, .int op, .int cl, .int cx0, .int cx1, .int cy0, .int cy1, .int ds, .ref m4, .ref m5, .ref m6, .ref m7, .ref m8, .ref m9, .int pn, .ref m10, .ref m11, .ref m12, .ref m13])), (m3, .inl (cI, 16384, .inl gg)), (m4, .inl (cZ, 4096, .inl gm)), (m5, .inl (cI, 4096, .inl ge)), (m6, .inl (cI, 4096, .inl gv))]) [0, 1, 2, 3, 4] rfl) (hD.sub (ws' := [(h0, .inr (9, [.ref m1, .ref m2, .ref m3, .int ik, .int wy, .int op, .int cl, .int cx0, .int cx1, .int cy0, .int cy1, .int ds, .ref m4, .ref m5, .ref m6, .ref m7, .ref m8, .ref m9, .int pn, .ref m10, .ref m11, .ref m12, .ref m13])), (m3, .inl (cI, 16384, .inl gg)), (m4, .inl (cZ, 4096, .inl gm)), (m5, .inl (cI, 4096, .inl ge)), (m6, .inl (cI, 4096, .inl gv))]) [0, 1, 2, 3, 4] (by decide) rfl) hS (lv_sub hl [0, 1, 2, 3] rfl)
  exact loop_1 (4096 + 1) 0 0 0 gd _ _ _ (by omega) (by omega) nI_0.symm rfl (lys_0 wy gd gm ge gv kk) hP hD hS (lv_sub hl [0, 1, 2, 3] rfl)
end
