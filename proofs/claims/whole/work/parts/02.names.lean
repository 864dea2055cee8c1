/-! ===== BEGIN words of one list among another's, by their places ===== -/
theorem goodIn_r {big : List Cond} (ws : List Cond) (ps : List Nat) (hp : ws = ps.filterMap (fun i => big[i]?)) (h : ws.all goodWord = true) : GoodIn big ws := by
  intro w hw
  have h1 := List.all_eq_true.mp h w hw
  rw [hp] at hw
  obtain ⟨i, -, hi⟩ := List.mem_filterMap.mp hw
  have hm : w ∈ big := by first | exact List.mem_of_getElem? hi | exact List.getElem?_mem hi
  exact ⟨hm, good_of_word h1⟩
theorem goodIn_app {big a b : List Cond} (ha : GoodIn big a) (hb : GoodIn big b) : GoodIn big (a ++ b) := fun w h => (List.mem_append.mp h).elim (ha w) (hb w)
theorem goodIn_ca {big a b : List Cond} {c : Cond} (ha : GoodIn big (c :: a)) (hb : GoodIn big b) : GoodIn big (c :: (a ++ b)) := fun w h => (List.mem_cons.mp h).elim (fun e => ha w (List.mem_cons.mpr (Or.inl e))) (fun h => (List.mem_append.mp h).elim (fun h => ha w (List.mem_cons.mpr (Or.inr h))) (hb w))
theorem goodIn_sub {big ws : List Cond} (hm : ∀ w ∈ ws, w ∈ big) (h : ws.all goodWord = true) : GoodIn big ws := fun w hw => ⟨hm w hw, good_of_word (List.all_eq_true.mp h w hw)⟩
/-! ===== END ===== -/

/-! ===== BEGIN printed: names, fields, word lists, decode rows ===== -/
def RX0 : String := "DotBench$Box"
def TX0 : u_T := fun k => match k with
  | 0 => ("DotBench$Box", "x0", "I", false)
  | 1 => ("DotBench$Box", "y0", "I", false)
  | 2 => ("DotBench$Box", "x1", "I", false)
  | _ => ("DotBench$Box", "y1", "I", false)
def tyX0 : Nat → FieldType := fun k => match k with
  | 0 => .int
  | 1 => .int
  | 2 => .int
  | _ => .int
abbrev wsX00 : List Cond := u_ws RX0 TX0 4
theorem nmX0 : ∀ a, a < 4 → ∀ b, b < 4 → a ≠ b → (TX0 a).2.1 ≠ (TX0 b).2.1 := by decide +kernel
theorem tyX0_ok : ∀ k, k < 4 → parseFieldDescriptor (TX0 k).2.2.1 = some (tyX0 k) := by decide +kernel
abbrev cX0_init : ByteArray := prog_2_method_1_code
def yX0_init : MethodName := ⟨RX0, "<init>", "()V"⟩
abbrev cX0_bound : ByteArray := prog_2_method_2_code
def yX0_bound : MethodName := ⟨RX0, "bound", "(IIII)V"⟩
abbrev cX0_holds : ByteArray := prog_2_method_3_code
def yX0_holds : MethodName := ⟨RX0, "holds", "(II)Z"⟩
def RX1 : String := "DotBench$Brush"
def TX1 : u_T := fun k => match k with
  | 0 => ("DotBench$Brush", "clip", "LDotBench$Box;", true)
  | 1 => ("DotBench$Brush", "ink", "I", false)
  | 2 => ("DotBench$Brush", "way", "I", false)
  | _ => ("DotBench$Brush", "opacity", "I", false)
def tyX1 : Nat → FieldType := fun k => match k with
  | 0 => .object "DotBench$Box"
  | 1 => .int
  | 2 => .int
  | _ => .int
abbrev wsX10 : List Cond := u_ws RX1 TX1 4
theorem nmX1 : ∀ a, a < 4 → ∀ b, b < 4 → a ≠ b → (TX1 a).2.1 ≠ (TX1 b).2.1 := by decide +kernel
theorem tyX1_ok : ∀ k, k < 4 → parseFieldDescriptor (TX1 k).2.2.1 = some (tyX1 k) := by decide +kernel
abbrev cX1_init : ByteArray := prog_3_method_1_code
def yX1_init : MethodName := ⟨RX1, "<init>", "()V"⟩
abbrev cX1_measureOf : ByteArray := prog_3_method_2_code
def yX1_measureOf : MethodName := ⟨RX1, "measureOf", "(I)I"⟩
abbrev cX1_lay : ByteArray := prog_3_method_3_code
def yX1_lay : MethodName := ⟨RX1, "lay", "(LDotBench$Sheet;IIII)I"⟩
abbrev cX1_laid : ByteArray := prog_3_method_4_code
def yX1_laid : MethodName := ⟨RX1, "laid", "(III)I"⟩
abbrev cX1_weightOfSource : ByteArray := prog_3_method_5_code
def yX1_weightOfSource : MethodName := ⟨RX1, "weightOfSource", "(I)I"⟩
abbrev cX1_weightOfThere : ByteArray := prog_3_method_6_code
def yX1_weightOfThere : MethodName := ⟨RX1, "weightOfThere", "(I)I"⟩
def RX2 : String := "DotBench$Frame"
def TX2 : u_T := fun k => match k with
  | 0 => ("DotBench$Frame", "x", "I", true)
  | 1 => ("DotBench$Frame", "y", "I", true)
  | 2 => ("DotBench$Frame", "w", "I", true)
  | _ => ("DotBench$Frame", "h", "I", true)
def tyX2 : Nat → FieldType := fun k => match k with
  | 0 => .int
  | 1 => .int
  | 2 => .int
  | _ => .int
abbrev wsX20 : List Cond := u_ws RX2 TX2 4
theorem nmX2 : ∀ a, a < 4 → ∀ b, b < 4 → a ≠ b → (TX2 a).2.1 ≠ (TX2 b).2.1 := by decide +kernel
theorem tyX2_ok : ∀ k, k < 4 → parseFieldDescriptor (TX2 k).2.2.1 = some (tyX2 k) := by decide +kernel
abbrev cX2_init : ByteArray := prog_4_method_1_code
def yX2_init : MethodName := ⟨RX2, "<init>", "(IIII)V"⟩
abbrev cX2_isNearby : ByteArray := prog_4_method_2_code
def yX2_isNearby : MethodName := ⟨RX2, "isNearby", "()Z"⟩
def RX3 : String := "DotBench$Path"
def TX3 : u_T := fun k => match k with
  | 0 => ("DotBench$Path", "fromX", "[I", true)
  | 1 => ("DotBench$Path", "fromY", "[I", true)
  | 2 => ("DotBench$Path", "toX", "[I", true)
  | 3 => ("DotBench$Path", "toY", "[I", true)
  | 4 => ("DotBench$Path", "points", "I", false)
  | 5 => ("DotBench$Path", "firstX", "I", false)
  | _ => ("DotBench$Path", "firstY", "I", false)
def tyX3 : Nat → FieldType := fun k => match k with
  | 0 => .array .int
  | 1 => .array .int
  | 2 => .array .int
  | 3 => .array .int
  | 4 => .int
  | 5 => .int
  | _ => .int
abbrev wsX30 : List Cond := u_ws RX3 TX3 7
theorem nmX3 : ∀ a, a < 7 → ∀ b, b < 7 → a ≠ b → (TX3 a).2.1 ≠ (TX3 b).2.1 := by decide +kernel
theorem tyX3_ok : ∀ k, k < 7 → parseFieldDescriptor (TX3 k).2.2.1 = some (tyX3 k) := by decide +kernel
abbrev cX3_init : ByteArray := prog_5_method_1_code
def yX3_init : MethodName := ⟨RX3, "<init>", "()V"⟩
abbrev cX3_empty : ByteArray := prog_5_method_2_code
def yX3_empty : MethodName := ⟨RX3, "empty", "()V"⟩
abbrev cX3_add : ByteArray := prog_5_method_3_code
def yX3_add : MethodName := ⟨RX3, "add", "(IIZ)Z"⟩
abbrev cX3_windingAt : ByteArray := prog_5_method_4_code
def yX3_windingAt : MethodName := ⟨RX3, "windingAt", "(II)I"⟩
abbrev cX3_windRow : ByteArray := prog_5_method_5_code
def yX3_windRow : MethodName := ⟨RX3, "windRow", "(II[II)V"⟩
abbrev cX3_turnOf : ByteArray := prog_5_method_6_code
def yX3_turnOf : MethodName := ⟨RX3, "turnOf", "(II)I"⟩
abbrev cX3_firstRightOf : ByteArray := prog_5_method_7_code
def yX3_firstRightOf : MethodName := ⟨RX3, "firstRightOf", "(II)I"⟩
def RX4 : String := "DotBench$Scan"
def TX4 : u_T := fun k => match k with
  | 0 => ("DotBench$Scan", "windings", "[I", true)
  | _ => ("DotBench$Scan", "covered", "[I", true)
def tyX4 : Nat → FieldType := fun k => match k with
  | 0 => .array .int
  | _ => .array .int
abbrev wsX40 : List Cond := u_ws RX4 TX4 2
theorem nmX4 : ∀ a, a < 2 → ∀ b, b < 2 → a ≠ b → (TX4 a).2.1 ≠ (TX4 b).2.1 := by decide +kernel
theorem tyX4_ok : ∀ k, k < 2 → parseFieldDescriptor (TX4 k).2.2.1 = some (tyX4 k) := by decide +kernel
abbrev cX4_init : ByteArray := prog_6_method_1_code
def yX4_init : MethodName := ⟨RX4, "<init>", "()V"⟩
abbrev cX4_read : ByteArray := prog_6_method_2_code
def yX4_read : MethodName := ⟨RX4, "read", "(LDotBench$Path;IIII)V"⟩
abbrev cX4_coveredAt : ByteArray := prog_6_method_3_code
def yX4_coveredAt : MethodName := ⟨RX4, "coveredAt", "(I)I"⟩
abbrev cX4_addRow : ByteArray := prog_6_method_4_code
def yX4_addRow : MethodName := ⟨RX4, "addRow", "(III)V"⟩
def RX5 : String := "DotBench$Sheet"
def TX5 : u_T := fun k => match k with
  | 0 => ("DotBench$Sheet", "dots", "[I", true)
  | 1 => ("DotBench$Sheet", "width", "I", false)
  | _ => ("DotBench$Sheet", "height", "I", false)
def tyX5 : Nat → FieldType := fun k => match k with
  | 0 => .array .int
  | 1 => .int
  | _ => .int
abbrev wsX50 : List Cond := u_ws RX5 TX5 3
theorem nmX5 : ∀ a, a < 3 → ∀ b, b < 3 → a ≠ b → (TX5 a).2.1 ≠ (TX5 b).2.1 := by decide +kernel
theorem tyX5_ok : ∀ k, k < 3 → parseFieldDescriptor (TX5 k).2.2.1 = some (tyX5 k) := by decide +kernel
abbrev cX5_init : ByteArray := prog_7_method_1_code
def yX5_init : MethodName := ⟨RX5, "<init>", "()V"⟩
abbrev cX5_begin : ByteArray := prog_7_method_2_code
def yX5_begin : MethodName := ⟨RX5, "begin", "(II)V"⟩
abbrev cX5_become : ByteArray := prog_7_method_3_code
def yX5_become : MethodName := ⟨RX5, "become", "(LDotBench$Sheet;)V"⟩
abbrev cX5_has : ByteArray := prog_7_method_4_code
def yX5_has : MethodName := ⟨RX5, "has", "(II)Z"⟩
abbrev cX5_at : ByteArray := prog_7_method_5_code
def yX5_at : MethodName := ⟨RX5, "at", "(II)I"⟩
abbrev cX5_put : ByteArray := prog_7_method_6_code
def yX5_put : MethodName := ⟨RX5, "put", "(III)V"⟩
abbrev cX5_channelSum : ByteArray := prog_7_method_7_code
def yX5_channelSum : MethodName := ⟨RX5, "channelSum", "(I)I"⟩
abbrev cX5_boxSide : ByteArray := prog_7_method_8_code
def yX5_boxSide : MethodName := ⟨RX5, "boxSide", "(ZZ)I"⟩
def RX6 : String := "DotBench$Spread"
def TX6 : u_T := fun k => match k with
  | 0 => ("DotBench$Spread", "places", "[I", true)
  | 1 => ("DotBench$Spread", "seen", "[I", true)
  | _ => ("DotBench$Spread", "size", "I", false)
def tyX6 : Nat → FieldType := fun k => match k with
  | 0 => .array .int
  | 1 => .array .int
  | _ => .int
abbrev wsX60 : List Cond := u_ws RX6 TX6 3
theorem nmX6 : ∀ a, a < 3 → ∀ b, b < 3 → a ≠ b → (TX6 a).2.1 ≠ (TX6 b).2.1 := by decide +kernel
theorem tyX6_ok : ∀ k, k < 3 → parseFieldDescriptor (TX6 k).2.2.1 = some (tyX6 k) := by decide +kernel
abbrev cX6_init : ByteArray := prog_8_method_1_code
def yX6_init : MethodName := ⟨RX6, "<init>", "()V"⟩
abbrev cX6_gather : ByteArray := prog_8_method_2_code
def yX6_gather : MethodName := ⟨RX6, "gather", "(LDotBench$Sheet;LDotBench$Box;IIZ)V"⟩
abbrev cX6_xAt : ByteArray := prog_8_method_3_code
def yX6_xAt : MethodName := ⟨RX6, "xAt", "(I)I"⟩
abbrev cX6_yAt : ByteArray := prog_8_method_4_code
def yX6_yAt : MethodName := ⟨RX6, "yAt", "(I)I"⟩
abbrev cX6_reach : ByteArray := prog_8_method_5_code
def yX6_reach : MethodName := ⟨RX6, "reach", "(LDotBench$Sheet;LDotBench$Box;III)V"⟩
def RX7 : String := "DotBench$Triangle"
def TX7 : u_T := fun k => match k with
  | 0 => ("DotBench$Triangle", "xs", "[I", true)
  | 1 => ("DotBench$Triangle", "ys", "[I", true)
  | 2 => ("DotBench$Triangle", "inks", "[I", true)
  | _ => ("DotBench$Triangle", "outline", "LDotBench$Path;", true)
def tyX7 : Nat → FieldType := fun k => match k with
  | 0 => .array .int
  | 1 => .array .int
  | 2 => .array .int
  | _ => .object "DotBench$Path"
abbrev wsX70 : List Cond := u_ws RX7 TX7 4
theorem nmX7 : ∀ a, a < 4 → ∀ b, b < 4 → a ≠ b → (TX7 a).2.1 ≠ (TX7 b).2.1 := by decide +kernel
theorem tyX7_ok : ∀ k, k < 4 → parseFieldDescriptor (TX7 k).2.2.1 = some (tyX7 k) := by decide +kernel
abbrev cX7_init : ByteArray := prog_9_method_1_code
def yX7_init : MethodName := ⟨RX7, "<init>", "()V"⟩
abbrev cX7_place : ByteArray := prog_9_method_2_code
def yX7_place : MethodName := ⟨RX7, "place", "(IIII)V"⟩
abbrev cX7_draw : ByteArray := prog_9_method_3_code
def yX7_draw : MethodName := ⟨RX7, "draw", "()V"⟩
abbrev cX7_inkAt : ByteArray := prog_9_method_4_code
def yX7_inkAt : MethodName := ⟨RX7, "inkAt", "(II)I"⟩
abbrev cX7_areaFrom : ByteArray := prog_9_method_5_code
def yX7_areaFrom : MethodName := ⟨RX7, "areaFrom", "(IIII)I"⟩
def RX8 : String := "DotBench"
def TX8 : u_T := fun k => match k with
  | 0 => ("DotBench", "sheets", "[LDotBench$Sheet;", true)
  | 1 => ("DotBench", "brush", "LDotBench$Brush;", true)
  | 2 => ("DotBench", "everywhere", "LDotBench$Box;", true)
  | 3 => ("DotBench", "path", "LDotBench$Path;", true)
  | 4 => ("DotBench", "triangle", "LDotBench$Triangle;", true)
  | 5 => ("DotBench", "scan", "LDotBench$Scan;", true)
  | 6 => ("DotBench", "dashes", "I", false)
  | 7 => ("DotBench", "spread", "LDotBench$Spread;", false)
  | _ => ("DotBench", "between", "LDotBench$Sheet;", false)
def tyX8 : Nat → FieldType := fun k => match k with
  | 0 => .array (.object "DotBench$Sheet")
  | 1 => .object "DotBench$Brush"
  | 2 => .object "DotBench$Box"
  | 3 => .object "DotBench$Path"
  | 4 => .object "DotBench$Triangle"
  | 5 => .object "DotBench$Scan"
  | 6 => .int
  | 7 => .object "DotBench$Spread"
  | _ => .object "DotBench$Sheet"
abbrev wsX80 : List Cond := u_ws RX8 TX8 9
theorem nmX8 : ∀ a, a < 9 → ∀ b, b < 9 → a ≠ b → (TX8 a).2.1 ≠ (TX8 b).2.1 := by decide +kernel
theorem tyX8_ok : ∀ k, k < 9 → parseFieldDescriptor (TX8 k).2.2.1 = some (tyX8 k) := by decide +kernel
abbrev cX8_init : ByteArray := prog_1_method_1_code
def yX8_init : MethodName := ⟨RX8, "<init>", "()V"⟩
abbrev cX8_sheet : ByteArray := prog_1_method_2_code
def yX8_sheet : MethodName := ⟨RX8, "sheet", "(III)Z"⟩
abbrev cX8_ink : ByteArray := prog_1_method_3_code
def yX8_ink : MethodName := ⟨RX8, "ink", "(I)V"⟩
abbrev cX8_way : ByteArray := prog_1_method_4_code
def yX8_way : MethodName := ⟨RX8, "way", "(II)Z"⟩
abbrev cX8_clip : ByteArray := prog_1_method_5_code
def yX8_clip : MethodName := ⟨RX8, "clip", "(IIII)V"⟩
abbrev cX8_dashes : ByteArray := prog_1_method_6_code
def yX8_dashes : MethodName := ⟨RX8, "dashes", "(I)V"⟩
abbrev cX8_line : ByteArray := prog_1_method_7_code
def yX8_line : MethodName := ⟨RX8, "line", "(IIIII)I"⟩
abbrev cX8_circle : ByteArray := prog_1_method_8_code
def yX8_circle : MethodName := ⟨RX8, "circle", "(IIII)I"⟩
abbrev cX8_point : ByteArray := prog_1_method_9_code
def yX8_point : MethodName := ⟨RX8, "point", "(IIZ)I"⟩
abbrev cX8_clear : ByteArray := prog_1_method_10_code
def yX8_clear : MethodName := ⟨RX8, "clear", "()V"⟩
abbrev cX8_fill : ByteArray := prog_1_method_11_code
def yX8_fill : MethodName := ⟨RX8, "fill", "(IIZ)I"⟩
abbrev cX8_corner : ByteArray := prog_1_method_12_code
def yX8_corner : MethodName := ⟨RX8, "corner", "(IIII)Z"⟩
abbrev cX8_shade : ByteArray := prog_1_method_13_code
def yX8_shade : MethodName := ⟨RX8, "shade", "(I)I"⟩
abbrev cX8_flood : ByteArray := prog_1_method_14_code
def yX8_flood : MethodName := ⟨RX8, "flood", "(IIIZ)I"⟩
abbrev cX8_copy : ByteArray := prog_1_method_15_code
def yX8_copy : MethodName := ⟨RX8, "copy", "(IIIIIIII)I"⟩
abbrev cX8_stretch : ByteArray := prog_1_method_16_code
def yX8_stretch : MethodName := ⟨RX8, "stretch", "(IIIIIIIIII)I"⟩
abbrev cX8_dot : ByteArray := prog_1_method_17_code
def yX8_dot : MethodName := ⟨RX8, "dot", "(III)I"⟩
abbrev cX8_count : ByteArray := prog_1_method_18_code
def yX8_count : MethodName := ⟨RX8, "count", "(II)I"⟩
abbrev cX8_region : ByteArray := prog_1_method_19_code
def yX8_region : MethodName := ⟨RX8, "region", "(IIIZ)I"⟩
abbrev cX8_differ : ByteArray := prog_1_method_20_code
def yX8_differ : MethodName := ⟨RX8, "differ", "(II)I"⟩
abbrev cX8_look : ByteArray := prog_1_method_21_code
def yX8_look : MethodName := ⟨RX8, "look", "(II)I"⟩
abbrev cX8_inside : ByteArray := prog_1_method_22_code
def yX8_inside : MethodName := ⟨RX8, "inside", "(III)I"⟩
abbrev cX8_sheetAt : ByteArray := prog_1_method_23_code
def yX8_sheetAt : MethodName := ⟨RX8, "sheetAt", "(I)LDotBench$Sheet;"⟩
abbrev cX8_isWithin : ByteArray := prog_1_method_24_code
def yX8_isWithin : MethodName := ⟨RX8, "isWithin", "(III)Z"⟩
abbrev cX8_isNear : ByteArray := prog_1_method_25_code
def yX8_isNear : MethodName := ⟨RX8, "isNear", "(II)Z"⟩
abbrev cX8_isSide : ByteArray := prog_1_method_26_code
def yX8_isSide : MethodName := ⟨RX8, "isSide", "(I)Z"⟩
abbrev cX8_isRule : ByteArray := prog_1_method_27_code
def yX8_isRule : MethodName := ⟨RX8, "isRule", "(I)Z"⟩
abbrev cX8_isIn : ByteArray := prog_1_method_28_code
def yX8_isIn : MethodName := ⟨RX8, "isIn", "(II)Z"⟩
abbrev cX8_shareOfFull : ByteArray := prog_1_method_29_code
def yX8_shareOfFull : MethodName := ⟨RX8, "shareOfFull", "(I)I"⟩
abbrev cX8_channel : ByteArray := prog_1_method_30_code
def yX8_channel : MethodName := ⟨RX8, "channel", "(II)I"⟩
abbrev cX8_inkOf : ByteArray := prog_1_method_31_code
def yX8_inkOf : MethodName := ⟨RX8, "inkOf", "(I)I"⟩
abbrev cX8_wayAlong : ByteArray := prog_1_method_32_code
def yX8_wayAlong : MethodName := ⟨RX8, "wayAlong", "(III)I"⟩
abbrev cX8_nearestRoot : ByteArray := prog_1_method_33_code
def yX8_nearestRoot : MethodName := ⟨RX8, "nearestRoot", "(II)I"⟩
abbrev cX8_layMirrored : ByteArray := prog_1_method_34_code
def yX8_layMirrored : MethodName := ⟨RX8, "layMirrored", "(LDotBench$Sheet;IIII)I"⟩
abbrev cX8_layPair : ByteArray := prog_1_method_35_code
def yX8_layPair : MethodName := ⟨RX8, "layPair", "(LDotBench$Sheet;III)I"⟩
abbrev cX8_gathered : ByteArray := prog_1_method_36_code
def yX8_gathered : MethodName := ⟨RX8, "gathered", "(LDotBench$Sheet;LDotBench$Box;IIZ)LDotBench$Spread;"⟩
abbrev cX8_carry : ByteArray := prog_1_method_37_code
def yX8_carry : MethodName := ⟨RX8, "carry", "(ILDotBench$Frame;ILDotBench$Frame;)I"⟩
abbrev cX8_likenessOf : ByteArray := prog_1_method_38_code
def yX8_likenessOf : MethodName := ⟨RX8, "likenessOf", "(LDotBench$Sheet;)LDotBench$Sheet;"⟩
def RX9 : String := "DotBenchModel"
def TX9 : u_T := fun k => match k with
  | 0 => ("DotBenchModel", "wide", "[I", true)
  | 1 => ("DotBenchModel", "high", "[I", true)
  | 2 => ("DotBenchModel", "dots", "[I", true)
  | 3 => ("DotBenchModel", "ink", "I", false)
  | 4 => ("DotBenchModel", "way", "I", false)
  | 5 => ("DotBenchModel", "opacity", "I", false)
  | 6 => ("DotBenchModel", "isClipped", "Z", false)
  | 7 => ("DotBenchModel", "clipX0", "I", false)
  | 8 => ("DotBenchModel", "clipX1", "I", false)
  | 9 => ("DotBenchModel", "clipY0", "I", false)
  | 10 => ("DotBenchModel", "clipY1", "I", false)
  | 11 => ("DotBenchModel", "dash", "I", false)
  | 12 => ("DotBenchModel", "marked", "[Z", true)
  | 13 => ("DotBenchModel", "measure", "[I", true)
  | 14 => ("DotBenchModel", "value", "[I", true)
  | 15 => ("DotBenchModel", "pathX", "[I", true)
  | 16 => ("DotBenchModel", "pathY", "[I", true)
  | 17 => ("DotBenchModel", "pathFirst", "[Z", true)
  | 18 => ("DotBenchModel", "points", "I", false)
  | 19 => ("DotBenchModel", "cornerX", "[I", true)
  | 20 => ("DotBenchModel", "cornerY", "[I", true)
  | 21 => ("DotBenchModel", "cornerInk", "[I", true)
  | _ => ("DotBenchModel", "wait", "[I", true)
def tyX9 : Nat → FieldType := fun k => match k with
  | 0 => .array .int
  | 1 => .array .int
  | 2 => .array .int
  | 3 => .int
  | 4 => .int
  | 5 => .int
  | 6 => .boolean
  | 7 => .int
  | 8 => .int
  | 9 => .int
  | 10 => .int
  | 11 => .int
  | 12 => .array .boolean
  | 13 => .array .int
  | 14 => .array .int
  | 15 => .array .int
  | 16 => .array .int
  | 17 => .array .boolean
  | 18 => .int
  | 19 => .array .int
  | 20 => .array .int
  | 21 => .array .int
  | _ => .array .int
abbrev wsX90 : List Cond := u_ws RX9 TX9 23
theorem nmX9 : ∀ a, a < 23 → ∀ b, b < 23 → a ≠ b → (TX9 a).2.1 ≠ (TX9 b).2.1 := by decide +kernel
theorem tyX9_ok : ∀ k, k < 23 → parseFieldDescriptor (TX9 k).2.2.1 = some (tyX9 k) := by decide +kernel
abbrev cX9_init : ByteArray := prog_11_method_1_code
def yX9_init : MethodName := ⟨RX9, "<init>", "()V"⟩
abbrev cX9_isSheet : ByteArray := prog_11_method_2_code
def yX9_isSheet : MethodName := ⟨RX9, "isSheet", "(I)Z"⟩
abbrev cX9_isOn : ByteArray := prog_11_method_3_code
def yX9_isOn : MethodName := ⟨RX9, "isOn", "(III)Z"⟩
abbrev cX9_spot : ByteArray := prog_11_method_4_code
def yX9_spot : MethodName := ⟨RX9, "spot", "(III)I"⟩
abbrev cX9_isInClip : ByteArray := prog_11_method_5_code
def yX9_isInClip : MethodName := ⟨RX9, "isInClip", "(II)Z"⟩
abbrev cX9_isOpen : ByteArray := prog_11_method_6_code
def yX9_isOpen : MethodName := ⟨RX9, "isOpen", "(III)Z"⟩
abbrev cX9_nearest : ByteArray := prog_11_method_7_code
def yX9_nearest : MethodName := ⟨RX9, "nearest", "(II)I"⟩
abbrev cX9_channel : ByteArray := prog_11_method_8_code
def yX9_channel : MethodName := ⟨RX9, "channel", "(II)I"⟩
abbrev cX9_inkOf : ByteArray := prog_11_method_9_code
def yX9_inkOf : MethodName := ⟨RX9, "inkOf", "(I)I"⟩
abbrev cX9_sourcePart : ByteArray := prog_11_method_10_code
def yX9_sourcePart : MethodName := ⟨RX9, "sourcePart", "(II)I"⟩
abbrev cX9_otherPart : ByteArray := prog_11_method_11_code
def yX9_otherPart : MethodName := ⟨RX9, "otherPart", "(II)I"⟩
abbrev cX9_laid : ByteArray := prog_11_method_12_code
def yX9_laid : MethodName := ⟨RX9, "laid", "(III)I"⟩
abbrev cX9_begins : ByteArray := prog_11_method_13_code
def yX9_begins : MethodName := ⟨RX9, "begins", "()V"⟩
abbrev cX9_marks : ByteArray := prog_11_method_14_code
def yX9_marks : MethodName := ⟨RX9, "marks", "(IIIII)V"⟩
abbrev cX9_lays : ByteArray := prog_11_method_15_code
def yX9_lays : MethodName := ⟨RX9, "lays", "(I)I"⟩
abbrev cX9_sheet : ByteArray := prog_11_method_16_code
def yX9_sheet : MethodName := ⟨RX9, "sheet", "(III)Z"⟩
abbrev cX9_ink : ByteArray := prog_11_method_17_code
def yX9_ink : MethodName := ⟨RX9, "ink", "(I)V"⟩
abbrev cX9_way : ByteArray := prog_11_method_18_code
def yX9_way : MethodName := ⟨RX9, "way", "(II)Z"⟩
abbrev cX9_clip : ByteArray := prog_11_method_19_code
def yX9_clip : MethodName := ⟨RX9, "clip", "(IIII)V"⟩
abbrev cX9_dashes : ByteArray := prog_11_method_20_code
def yX9_dashes : MethodName := ⟨RX9, "dashes", "(I)V"⟩
abbrev cX9_isNear : ByteArray := prog_11_method_21_code
def yX9_isNear : MethodName := ⟨RX9, "isNear", "(II)Z"⟩
abbrev cX9_away : ByteArray := prog_11_method_22_code
def yX9_away : MethodName := ⟨RX9, "away", "(II)I"⟩
abbrev cX9_toward : ByteArray := prog_11_method_23_code
def yX9_toward : MethodName := ⟨RX9, "toward", "(III)I"⟩
abbrev cX9_line : ByteArray := prog_11_method_24_code
def yX9_line : MethodName := ⟨RX9, "line", "(IIIII)I"⟩
abbrev cX9_root : ByteArray := prog_11_method_25_code
def yX9_root : MethodName := ⟨RX9, "root", "(I)I"⟩
abbrev cX9_circle : ByteArray := prog_11_method_26_code
def yX9_circle : MethodName := ⟨RX9, "circle", "(IIII)I"⟩
abbrev cX9_point : ByteArray := prog_11_method_27_code
def yX9_point : MethodName := ⟨RX9, "point", "(IIZ)I"⟩
abbrev cX9_clear : ByteArray := prog_11_method_28_code
def yX9_clear : MethodName := ⟨RX9, "clear", "()V"⟩
abbrev cX9_edge : ByteArray := prog_11_method_29_code
def yX9_edge : MethodName := ⟨RX9, "edge", "(JJJJJJ)I"⟩
abbrev cX9_winding : ByteArray := prog_11_method_30_code
def yX9_winding : MethodName := ⟨RX9, "winding", "(JJ)I"⟩
abbrev cX9_isInside : ByteArray := prog_11_method_31_code
def yX9_isInside : MethodName := ⟨RX9, "isInside", "(JJI)Z"⟩
abbrev cX9_inside : ByteArray := prog_11_method_32_code
def yX9_inside : MethodName := ⟨RX9, "inside", "(III)I"⟩
abbrev cX9_samples : ByteArray := prog_11_method_33_code
def yX9_samples : MethodName := ⟨RX9, "samples", "(III)I"⟩
abbrev cX9_fill : ByteArray := prog_11_method_34_code
def yX9_fill : MethodName := ⟨RX9, "fill", "(IIZ)I"⟩
abbrev cX9_corner : ByteArray := prog_11_method_35_code
def yX9_corner : MethodName := ⟨RX9, "corner", "(IIII)Z"⟩
abbrev cX9_area : ByteArray := prog_11_method_36_code
def yX9_area : MethodName := ⟨RX9, "area", "(IIIIII)I"⟩
abbrev cX9_isInTriangle : ByteArray := prog_11_method_37_code
def yX9_isInTriangle : MethodName := ⟨RX9, "isInTriangle", "(II)Z"⟩
abbrev cX9_shade : ByteArray := prog_11_method_38_code
def yX9_shade : MethodName := ⟨RX9, "shade", "(I)I"⟩
abbrev cX9_mixed : ByteArray := prog_11_method_39_code
def yX9_mixed : MethodName := ⟨RX9, "mixed", "(III)I"⟩
abbrev cX9_joins : ByteArray := prog_11_method_40_code
def yX9_joins : MethodName := ⟨RX9, "joins", "(IIIZZ)V"⟩
abbrev cX9_flood : ByteArray := prog_11_method_41_code
def yX9_flood : MethodName := ⟨RX9, "flood", "(IIIZ)I"⟩
abbrev cX9_region : ByteArray := prog_11_method_42_code
def yX9_region : MethodName := ⟨RX9, "region", "(IIIZ)I"⟩
abbrev cX9_isPlace : ByteArray := prog_11_method_43_code
def yX9_isPlace : MethodName := ⟨RX9, "isPlace", "(II)Z"⟩
abbrev cX9_copy : ByteArray := prog_11_method_44_code
def yX9_copy : MethodName := ⟨RX9, "copy", "(IIIIIIII)I"⟩
abbrev cX9_stretch : ByteArray := prog_11_method_45_code
def yX9_stretch : MethodName := ⟨RX9, "stretch", "(IIIIIIIIII)I"⟩
abbrev cX9_dot : ByteArray := prog_11_method_46_code
def yX9_dot : MethodName := ⟨RX9, "dot", "(III)I"⟩
abbrev cX9_count : ByteArray := prog_11_method_47_code
def yX9_count : MethodName := ⟨RX9, "count", "(II)I"⟩
abbrev cX9_differ : ByteArray := prog_11_method_48_code
def yX9_differ : MethodName := ⟨RX9, "differ", "(II)I"⟩
abbrev cX9_look : ByteArray := prog_11_method_49_code
def yX9_look : MethodName := ⟨RX9, "look", "(II)I"⟩
def RJ6 : String := "java/lang/Integer"
def TJ6 : u_T := fun k => match k with
  | _ => ("", "", "", false)
def tyJ6 : Nat → FieldType := fun k => match k with
  | _ => .int
abbrev wsJ60 : List Cond := u_ws RJ6 TJ6 0
theorem nmJ6 : ∀ a, a < 0 → ∀ b, b < 0 → a ≠ b → (TJ6 a).2.1 ≠ (TJ6 b).2.1 := by decide +kernel
theorem tyJ6_ok : ∀ k, k < 0 → parseFieldDescriptor (TJ6 k).2.2.1 = some (tyJ6 k) := by decide +kernel
abbrev cJ6_compare_7cf53 : ByteArray := prog_12_method_40_code
def yJ6_compare_7cf53 : MethodName := ⟨RJ6, "compare", "(II)I"⟩
def RJ9 : String := "java/lang/Math"
def TJ9 : u_T := fun k => match k with
  | _ => ("", "", "", false)
def tyJ9 : Nat → FieldType := fun k => match k with
  | _ => .int
abbrev wsJ90 : List Cond := u_ws RJ9 TJ9 0
theorem nmJ9 : ∀ a, a < 0 → ∀ b, b < 0 → a ≠ b → (TJ9 a).2.1 ≠ (TJ9 b).2.1 := by decide +kernel
theorem tyJ9_ok : ∀ k, k < 0 → parseFieldDescriptor (TJ9 k).2.2.1 = some (tyJ9 k) := by decide +kernel
abbrev cJ9_floorDiv_7cf53 : ByteArray := prog_13_method_47_code
def yJ9_floorDiv_7cf53 : MethodName := ⟨RJ9, "floorDiv", "(II)I"⟩
abbrev cJ9_abs_0f7a4 : ByteArray := prog_13_method_59_code
def yJ9_abs_0f7a4 : MethodName := ⟨RJ9, "abs", "(I)I"⟩
abbrev cJ9_max_7cf53 : ByteArray := prog_13_method_65_code
def yJ9_max_7cf53 : MethodName := ⟨RJ9, "max", "(II)I"⟩
abbrev cJ9_min_7cf53 : ByteArray := prog_13_method_69_code
def yJ9_min_7cf53 : MethodName := ⟨RJ9, "min", "(II)I"⟩
def RJ10 : String := "java/lang/System"
def TJ10 : u_T := fun k => match k with
  | _ => ("", "", "", false)
def tyJ10 : Nat → FieldType := fun k => match k with
  | _ => .int
abbrev wsJ100 : List Cond := u_ws RJ10 TJ10 0
theorem nmJ10 : ∀ a, a < 0 → ∀ b, b < 0 → a ≠ b → (TJ10 a).2.1 ≠ (TJ10 b).2.1 := by decide +kernel
theorem tyJ10_ok : ∀ k, k < 0 → parseFieldDescriptor (TJ10 k).2.2.1 = some (tyJ10 k) := by decide +kernel
def RJ7 : String := "java/util/Arrays"
def TJ7 : u_T := fun k => match k with
  | _ => ("", "", "", false)
def tyJ7 : Nat → FieldType := fun k => match k with
  | _ => .int
abbrev wsJ70 : List Cond := u_ws RJ7 TJ7 0
theorem nmJ7 : ∀ a, a < 0 → ∀ b, b < 0 → a ≠ b → (TJ7 a).2.1 ≠ (TJ7 b).2.1 := by decide +kernel
theorem tyJ7_ok : ∀ k, k < 0 → parseFieldDescriptor (TJ7 k).2.2.1 = some (tyJ7 k) := by decide +kernel
abbrev cJ7_fill_53178 : ByteArray := prog_15_method_103_code
def yJ7_fill_53178 : MethodName := ⟨RJ7, "fill", "([II)V"⟩
def RL : String := "DotBenchLaw"
abbrev cL_law : ByteArray := code
def yL_law : MethodName := ⟨RL, "law", "([I)Z"⟩
abbrev vwCl : List vw_C := [(RX0, TX0, 4), (RX1, TX1, 4), (RX2, TX2, 4), (RX3, TX3, 7), (RX4, TX4, 2), (RX5, TX5, 3), (RX6, TX6, 3), (RX7, TX7, 4), (RX8, TX8, 9), (RX9, TX9, 23)]

