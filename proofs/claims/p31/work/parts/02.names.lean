-- names of classes, fields, methods: out of claim/NAMES.whole.lean.txt
def RX0 : String := "CiderShop$Books"
def TX0 : u_T := fun k => match k with
  | 0 => ("CiderShop$Books", "drying", "I", false)
  | 1 => ("CiderShop$Books", "pressHaze", "I", false)
  | 2 => ("CiderShop$Books", "settling", "I", false)
  | 3 => ("CiderShop$Books", "fermentation", "I", false)
  | 4 => ("CiderShop$Books", "lotCount", "I", false)
  | 5 => ("CiderShop$Books", "tankCount", "I", false)
  | 6 => ("CiderShop$Books", "heap", "I", false)
  | 7 => ("CiderShop$Books", "days", "I", false)
  | 8 => ("CiderShop$Books", "refusal", "I", false)
  | 9 => ("CiderShop$Books", "varieties", "[LCiderShop$Variety;", true)
  | 10 => ("CiderShop$Books", "labels", "[LCiderShop$Label;", true)
  | 11 => ("CiderShop$Books", "lots", "[LCiderShop$Lot;", true)
  | 12 => ("CiderShop$Books", "tanks", "[LCiderShop$Tank;", true)
  | _ => ("CiderShop$Books", "sums", "[I", true)
def tyX0 : Nat → FieldType := fun k => match k with
  | 0 => .int
  | 1 => .int
  | 2 => .int
  | 3 => .int
  | 4 => .int
  | 5 => .int
  | 6 => .int
  | 7 => .int
  | 8 => .int
  | 9 => .array (.object "CiderShop$Variety")
  | 10 => .array (.object "CiderShop$Label")
  | 11 => .array (.object "CiderShop$Lot")
  | 12 => .array (.object "CiderShop$Tank")
  | _ => .array .int
abbrev wsX00 : List Cond := u_ws RX0 TX0 14
theorem nmX0 : ∀ a, a < 14 → ∀ b, b < 14 → a ≠ b → (TX0 a).2.1 ≠ (TX0 b).2.1 := by decide +kernel
theorem tyX0_ok : ∀ k, k < 14 → parseFieldDescriptor (TX0 k).2.2.1 = some (tyX0 k) := by decide +kernel
abbrev cX0_init : ByteArray := prog_2_method_1_code
def yX0_init : MethodName := ⟨RX0, "<init>", "()V"⟩
abbrev cX0_copyFrom : ByteArray := prog_2_method_2_code
def yX0_copyFrom : MethodName := ⟨RX0, "copyFrom", "(LCiderShop$Books;)V"⟩
abbrev cX0_hasLot : ByteArray := prog_2_method_3_code
def yX0_hasLot : MethodName := ⟨RX0, "hasLot", "(I)Z"⟩
abbrev cX0_hasTank : ByteArray := prog_2_method_4_code
def yX0_hasTank : MethodName := ⟨RX0, "hasTank", "(I)Z"⟩
abbrev cX0_refuse : ByteArray := prog_2_method_5_code
def yX0_refuse : MethodName := ⟨RX0, "refuse", "(I)I"⟩
abbrev cX0_changeVariety : ByteArray := prog_2_method_6_code
def yX0_changeVariety : MethodName := ⟨RX0, "changeVariety", "(IIII)I"⟩
abbrev cX0_changeRates : ByteArray := prog_2_method_7_code
def yX0_changeRates : MethodName := ⟨RX0, "changeRates", "(IIII)I"⟩
abbrev cX0_changeLabel : ByteArray := prog_2_method_8_code
def yX0_changeLabel : MethodName := ⟨RX0, "changeLabel", "(IIIIII)I"⟩
abbrev cX0_buyLot : ByteArray := prog_2_method_9_code
def yX0_buyLot : MethodName := ⟨RX0, "buyLot", "(II)I"⟩
abbrev cX0_openTank : ByteArray := prog_2_method_10_code
def yX0_openTank : MethodName := ⟨RX0, "openTank", "(I)I"⟩
abbrev cX0_pressLot : ByteArray := prog_2_method_11_code
def yX0_pressLot : MethodName := ⟨RX0, "pressLot", "(III)I"⟩
abbrev cX0_wetHeap : ByteArray := prog_2_method_12_code
def yX0_wetHeap : MethodName := ⟨RX0, "wetHeap", "(II)I"⟩
abbrev cX0_sellHeap : ByteArray := prog_2_method_13_code
def yX0_sellHeap : MethodName := ⟨RX0, "sellHeap", "()I"⟩
abbrev cX0_moveJuice : ByteArray := prog_2_method_14_code
def yX0_moveJuice : MethodName := ⟨RX0, "moveJuice", "(III)I"⟩
abbrev cX0_rackJuice : ByteArray := prog_2_method_15_code
def yX0_rackJuice : MethodName := ⟨RX0, "rackJuice", "(II)I"⟩
abbrev cX0_cleanTank : ByteArray := prog_2_method_16_code
def yX0_cleanTank : MethodName := ⟨RX0, "cleanTank", "(I)I"⟩
abbrev cX0_pourJuice : ByteArray := prog_2_method_17_code
def yX0_pourJuice : MethodName := ⟨RX0, "pourJuice", "(I)I"⟩
abbrev cX0_bottleJuice : ByteArray := prog_2_method_18_code
def yX0_bottleJuice : MethodName := ⟨RX0, "bottleJuice", "(IIII)I"⟩
abbrev cX0_passDay : ByteArray := prog_2_method_19_code
def yX0_passDay : MethodName := ⟨RX0, "passDay", "()I"⟩
abbrev cX0_sumOf : ByteArray := prog_2_method_20_code
def yX0_sumOf : MethodName := ⟨RX0, "sumOf", "(I)I"⟩
abbrev cX0_applesInLots : ByteArray := prog_2_method_21_code
def yX0_applesInLots : MethodName := ⟨RX0, "applesInLots", "()I"⟩
abbrev cX0_juiceInTanks : ByteArray := prog_2_method_22_code
def yX0_juiceInTanks : MethodName := ⟨RX0, "juiceInTanks", "()I"⟩
abbrev cX0_leesInTanks : ByteArray := prog_2_method_23_code
def yX0_leesInTanks : MethodName := ⟨RX0, "leesInTanks", "()I"⟩
def RX1 : String := "CiderShop$Label"
def TX1 : u_T := fun k => match k with
  | 0 => ("CiderShop$Label", "leastSugar", "I", false)
  | 1 => ("CiderShop$Label", "mostSugar", "I", false)
  | 2 => ("CiderShop$Label", "leastAcid", "I", false)
  | 3 => ("CiderShop$Label", "mostAcid", "I", false)
  | 4 => ("CiderShop$Label", "mostHaze", "I", false)
  | _ => ("CiderShop$Label", "bottled", "[I", true)
def tyX1 : Nat → FieldType := fun k => match k with
  | 0 => .int
  | 1 => .int
  | 2 => .int
  | 3 => .int
  | 4 => .int
  | _ => .array .int
abbrev wsX10 : List Cond := u_ws RX1 TX1 6
theorem nmX1 : ∀ a, a < 6 → ∀ b, b < 6 → a ≠ b → (TX1 a).2.1 ≠ (TX1 b).2.1 := by decide +kernel
theorem tyX1_ok : ∀ k, k < 6 → parseFieldDescriptor (TX1 k).2.2.1 = some (tyX1 k) := by decide +kernel
abbrev cX1_init : ByteArray := prog_3_method_1_code
def yX1_init : MethodName := ⟨RX1, "<init>", "()V"⟩
abbrev cX1_copyFrom : ByteArray := prog_3_method_2_code
def yX1_copyFrom : MethodName := ⟨RX1, "copyFrom", "(LCiderShop$Label;)V"⟩
abbrev cX1_change : ByteArray := prog_3_method_3_code
def yX1_change : MethodName := ⟨RX1, "change", "(IIIII)I"⟩
abbrev cX1_reasonAgainst : ByteArray := prog_3_method_4_code
def yX1_reasonAgainst : MethodName := ⟨RX1, "reasonAgainst", "(LCiderShop$Tank;)I"⟩
abbrev cX1_reasonAgainstJuice : ByteArray := prog_3_method_6_code
def yX1_reasonAgainstJuice : MethodName := ⟨RX1, "reasonAgainstJuice", "(IIII)I"⟩
abbrev cX1_addBottles : ByteArray := prog_3_method_7_code
def yX1_addBottles : MethodName := ⟨RX1, "addBottles", "(II)V"⟩
def RX2 : String := "CiderShop$Lot"
def TX2 : u_T := fun k => match k with
  | 0 => ("CiderShop$Lot", "variety", "I", false)
  | _ => ("CiderShop$Lot", "mass", "I", false)
def tyX2 : Nat → FieldType := fun k => match k with
  | 0 => .int
  | _ => .int
abbrev wsX20 : List Cond := u_ws RX2 TX2 2
theorem nmX2 : ∀ a, a < 2 → ∀ b, b < 2 → a ≠ b → (TX2 a).2.1 ≠ (TX2 b).2.1 := by decide +kernel
theorem tyX2_ok : ∀ k, k < 2 → parseFieldDescriptor (TX2 k).2.2.1 = some (tyX2 k) := by decide +kernel
abbrev cX2_init : ByteArray := prog_4_method_1_code
def yX2_init : MethodName := ⟨RX2, "<init>", "()V"⟩
abbrev cX2_copyFrom : ByteArray := prog_4_method_2_code
def yX2_copyFrom : MethodName := ⟨RX2, "copyFrom", "(LCiderShop$Lot;)V"⟩
def RX3 : String := "CiderShop$Script"
def TX3 : u_T := fun k => match k with
  | 0 => ("CiderShop$Script", "text", "[C", true)
  | 1 => ("CiderShop$Script", "length", "I", false)
  | 2 => ("CiderShop$Script", "at", "I", false)
  | 3 => ("CiderShop$Script", "commands", "I", false)
  | _ => ("CiderShop$Script", "rows", "[I", true)
def tyX3 : Nat → FieldType := fun k => match k with
  | 0 => .array .char
  | 1 => .int
  | 2 => .int
  | 3 => .int
  | _ => .array .int
abbrev wsX30 : List Cond := u_ws RX3 TX3 5
theorem nmX3 : ∀ a, a < 5 → ∀ b, b < 5 → a ≠ b → (TX3 a).2.1 ≠ (TX3 b).2.1 := by decide +kernel
theorem tyX3_ok : ∀ k, k < 5 → parseFieldDescriptor (TX3 k).2.2.1 = some (tyX3 k) := by decide +kernel
abbrev cX3_init : ByteArray := prog_5_method_1_code
def yX3_init : MethodName := ⟨RX3, "<init>", "()V"⟩
def RX4 : String := "CiderShop$Tank"
def TX4 : u_T := fun k => match k with
  | 0 => ("CiderShop$Tank", "room", "I", false)
  | 1 => ("CiderShop$Tank", "juice", "I", false)
  | 2 => ("CiderShop$Tank", "sugar", "I", false)
  | 3 => ("CiderShop$Tank", "acid", "I", false)
  | 4 => ("CiderShop$Tank", "haze", "I", false)
  | 5 => ("CiderShop$Tank", "lees", "I", false)
  | _ => ("CiderShop$Tank", "alcohol", "I", false)
def tyX4 : Nat → FieldType := fun k => match k with
  | 0 => .int
  | 1 => .int
  | 2 => .int
  | 3 => .int
  | 4 => .int
  | 5 => .int
  | _ => .int
abbrev wsX40 : List Cond := u_ws RX4 TX4 7
theorem nmX4 : ∀ a, a < 7 → ∀ b, b < 7 → a ≠ b → (TX4 a).2.1 ≠ (TX4 b).2.1 := by decide +kernel
theorem tyX4_ok : ∀ k, k < 7 → parseFieldDescriptor (TX4 k).2.2.1 = some (tyX4 k) := by decide +kernel
abbrev cX4_init : ByteArray := prog_6_method_1_code
def yX4_init : MethodName := ⟨RX4, "<init>", "()V"⟩
abbrev cX4_copyFrom : ByteArray := prog_6_method_2_code
def yX4_copyFrom : MethodName := ⟨RX4, "copyFrom", "(LCiderShop$Tank;)V"⟩
abbrev cX4_left : ByteArray := prog_6_method_3_code
def yX4_left : MethodName := ⟨RX4, "left", "()I"⟩
abbrev cX4_property : ByteArray := prog_6_method_4_code
def yX4_property : MethodName := ⟨RX4, "property", "(I)I"⟩
abbrev cX4_fill : ByteArray := prog_6_method_5_code
def yX4_fill : MethodName := ⟨RX4, "fill", "(IIII)V"⟩
abbrev cX4_part : ByteArray := prog_6_method_6_code
def yX4_part : MethodName := ⟨RX4, "part", "(II)I"⟩
abbrev cX4_give : ByteArray := prog_6_method_7_code
def yX4_give : MethodName := ⟨RX4, "give", "(ILCiderShop$Tank;)V"⟩
abbrev cX4_drop : ByteArray := prog_6_method_8_code
def yX4_drop : MethodName := ⟨RX4, "drop", "(I)V"⟩
abbrev cX4_passDay : ByteArray := prog_6_method_9_code
def yX4_passDay : MethodName := ⟨RX4, "passDay", "(II)V"⟩
def RX5 : String := "CiderShop$Variety"
def TX5 : u_T := fun k => match k with
  | 0 => ("CiderShop$Variety", "yields", "I", false)
  | 1 => ("CiderShop$Variety", "sugar", "I", false)
  | _ => ("CiderShop$Variety", "acid", "I", false)
def tyX5 : Nat → FieldType := fun k => match k with
  | 0 => .int
  | 1 => .int
  | _ => .int
abbrev wsX50 : List Cond := u_ws RX5 TX5 3
theorem nmX5 : ∀ a, a < 3 → ∀ b, b < 3 → a ≠ b → (TX5 a).2.1 ≠ (TX5 b).2.1 := by decide +kernel
theorem tyX5_ok : ∀ k, k < 3 → parseFieldDescriptor (TX5 k).2.2.1 = some (tyX5 k) := by decide +kernel
abbrev cX5_init : ByteArray := prog_7_method_1_code
def yX5_init : MethodName := ⟨RX5, "<init>", "()V"⟩
abbrev cX5_copyFrom : ByteArray := prog_7_method_2_code
def yX5_copyFrom : MethodName := ⟨RX5, "copyFrom", "(LCiderShop$Variety;)V"⟩
def RX6 : String := "CiderShop"
def TX6 : u_T := fun k => match k with
  | 0 => ("CiderShop", "pages", "[LCiderShop$Books;", true)
  | 1 => ("CiderShop", "trial", "LCiderShop$Tank;", true)
  | 2 => ("CiderShop", "script", "LCiderShop$Script;", true)
  | 3 => ("CiderShop", "page", "I", false)
  | 4 => ("CiderShop", "saved", "I", false)
  | _ => ("CiderShop", "reason", "I", false)
def tyX6 : Nat → FieldType := fun k => match k with
  | 0 => .array (.object "CiderShop$Books")
  | 1 => .object "CiderShop$Tank"
  | 2 => .object "CiderShop$Script"
  | 3 => .int
  | 4 => .int
  | _ => .int
abbrev wsX60 : List Cond := u_ws RX6 TX6 6
theorem nmX6 : ∀ a, a < 6 → ∀ b, b < 6 → a ≠ b → (TX6 a).2.1 ≠ (TX6 b).2.1 := by decide +kernel
theorem tyX6_ok : ∀ k, k < 6 → parseFieldDescriptor (TX6 k).2.2.1 = some (tyX6 k) := by decide +kernel
abbrev cX6_init : ByteArray := prog_1_method_1_code
def yX6_init : MethodName := ⟨RX6, "<init>", "()V"⟩
abbrev cX6_setVariety : ByteArray := prog_1_method_2_code
def yX6_setVariety : MethodName := ⟨RX6, "setVariety", "(IIII)I"⟩
abbrev cX6_setRates : ByteArray := prog_1_method_3_code
def yX6_setRates : MethodName := ⟨RX6, "setRates", "(IIII)I"⟩
abbrev cX6_setLabel : ByteArray := prog_1_method_4_code
def yX6_setLabel : MethodName := ⟨RX6, "setLabel", "(IIIIII)I"⟩
abbrev cX6_buy : ByteArray := prog_1_method_5_code
def yX6_buy : MethodName := ⟨RX6, "buy", "(II)I"⟩
abbrev cX6_addTank : ByteArray := prog_1_method_6_code
def yX6_addTank : MethodName := ⟨RX6, "addTank", "(I)I"⟩
abbrev cX6_press : ByteArray := prog_1_method_7_code
def yX6_press : MethodName := ⟨RX6, "press", "(III)I"⟩
abbrev cX6_wet : ByteArray := prog_1_method_8_code
def yX6_wet : MethodName := ⟨RX6, "wet", "(II)I"⟩
abbrev cX6_sellPomace : ByteArray := prog_1_method_9_code
def yX6_sellPomace : MethodName := ⟨RX6, "sellPomace", "()I"⟩
abbrev cX6_move : ByteArray := prog_1_method_10_code
def yX6_move : MethodName := ⟨RX6, "move", "(III)I"⟩
abbrev cX6_rack : ByteArray := prog_1_method_11_code
def yX6_rack : MethodName := ⟨RX6, "rack", "(II)I"⟩
abbrev cX6_clean : ByteArray := prog_1_method_12_code
def yX6_clean : MethodName := ⟨RX6, "clean", "(I)I"⟩
abbrev cX6_pour : ByteArray := prog_1_method_13_code
def yX6_pour : MethodName := ⟨RX6, "pour", "(I)I"⟩
abbrev cX6_bottle : ByteArray := prog_1_method_14_code
def yX6_bottle : MethodName := ⟨RX6, "bottle", "(IIII)I"⟩
abbrev cX6_day : ByteArray := prog_1_method_15_code
def yX6_day : MethodName := ⟨RX6, "day", "()I"⟩
abbrev cX6_count : ByteArray := prog_1_method_19_code
def yX6_count : MethodName := ⟨RX6, "count", "(I)I"⟩
abbrev cX6_lot : ByteArray := prog_1_method_20_code
def yX6_lot : MethodName := ⟨RX6, "lot", "(II)I"⟩
abbrev cX6_tank : ByteArray := prog_1_method_22_code
def yX6_tank : MethodName := ⟨RX6, "tank", "(II)I"⟩
abbrev cX6_account : ByteArray := prog_1_method_25_code
def yX6_account : MethodName := ⟨RX6, "account", "(I)I"⟩
abbrev cX6_bottles : ByteArray := prog_1_method_26_code
def yX6_bottles : MethodName := ⟨RX6, "bottles", "(II)I"⟩
abbrev cX6_undo : ByteArray := prog_1_method_29_code
def yX6_undo : MethodName := ⟨RX6, "undo", "()I"⟩
abbrev cX6_books : ByteArray := prog_1_method_30_code
def yX6_books : MethodName := ⟨RX6, "books", "()LCiderShop$Books;"⟩
abbrev cX6_nextPage : ByteArray := prog_1_method_31_code
def yX6_nextPage : MethodName := ⟨RX6, "nextPage", "()I"⟩
abbrev cX6_draft : ByteArray := prog_1_method_32_code
def yX6_draft : MethodName := ⟨RX6, "draft", "()LCiderShop$Books;"⟩
abbrev cX6_finish : ByteArray := prog_1_method_33_code
def yX6_finish : MethodName := ⟨RX6, "finish", "(LCiderShop$Books;I)I"⟩
abbrev cX6_within : ByteArray := prog_1_method_35_code
def yX6_within : MethodName := ⟨RX6, "within", "(III)Z"⟩
abbrev cX6_thousandths : ByteArray := prog_1_method_36_code
def yX6_thousandths : MethodName := ⟨RX6, "thousandths", "(II)I"⟩
abbrev cX6_perThousand : ByteArray := prog_1_method_37_code
def yX6_perThousand : MethodName := ⟨RX6, "perThousand", "(II)I"⟩
def RX7 : String := "CiderShopModel"
def TX7 : u_T := fun k => match k with
  | _ => ("", "", "", false)
def tyX7 : Nat → FieldType := fun k => match k with
  | _ => .int
abbrev wsX70 : List Cond := u_ws RX7 TX7 0
theorem nmX7 : ∀ a, a < 0 → ∀ b, b < 0 → a ≠ b → (TX7 a).2.1 ≠ (TX7 b).2.1 := by decide +kernel
theorem tyX7_ok : ∀ k, k < 0 → parseFieldDescriptor (TX7 k).2.2.1 = some (tyX7 k) := by decide +kernel
def RJ9 : String := "java/lang/Math"
def TJ9 : u_T := fun k => match k with
  | _ => ("", "", "", false)
def tyJ9 : Nat → FieldType := fun k => match k with
  | _ => .int
abbrev wsJ90 : List Cond := u_ws RJ9 TJ9 0
theorem nmJ9 : ∀ a, a < 0 → ∀ b, b < 0 → a ≠ b → (TJ9 a).2.1 ≠ (TJ9 b).2.1 := by decide +kernel
theorem tyJ9_ok : ∀ k, k < 0 → parseFieldDescriptor (TJ9 k).2.2.1 = some (tyJ9 k) := by decide +kernel
abbrev cJ9_min_7cf53 : ByteArray := prog_10_method_69_code
def yJ9_min_7cf53 : MethodName := ⟨RJ9, "min", "(II)I"⟩
def RJ10 : String := "java/lang/System"
def TJ10 : u_T := fun k => match k with
  | _ => ("", "", "", false)
def tyJ10 : Nat → FieldType := fun k => match k with
  | _ => .int
abbrev wsJ100 : List Cond := u_ws RJ10 TJ10 0
theorem nmJ10 : ∀ a, a < 0 → ∀ b, b < 0 → a ≠ b → (TJ10 a).2.1 ≠ (TJ10 b).2.1 := by decide +kernel
theorem tyJ10_ok : ∀ k, k < 0 → parseFieldDescriptor (TJ10 k).2.2.1 = some (tyJ10 k) := by decide +kernel
def RL : String := "CiderShopLaw"
abbrev cL_cell : ByteArray := method_2_code
def yL_cell : MethodName := ⟨RL, "cell", "([II)I"⟩
abbrev cL_low : ByteArray := method_3_code
def yL_low : MethodName := ⟨RL, "low", "(II)I"⟩
abbrev cL_tale : ByteArray := method_4_code
def yL_tale : MethodName := ⟨RL, "tale", "(LCiderShop;)J"⟩
abbrev cL_does : ByteArray := method_5_code
def yL_does : MethodName := ⟨RL, "does", "(LCiderShop;I)I"⟩
abbrev cL_law : ByteArray := code
def yL_law : MethodName := ⟨RL, "law", "([I)Z"⟩
abbrev vwCl : List vw_C := [(RX0, TX0, 14), (RX1, TX1, 6), (RX2, TX2, 2), (RX3, TX3, 5), (RX4, TX4, 7), (RX5, TX5, 3), (RX6, TX6, 6)]
def R_law : String := "CiderShopLaw"
