def RX0 : String := "CopperStreet$Chimes"
def TX0 : u_T := fun k => match k with
  | 0 => ("CopperStreet$Chimes", "sounds", "[I", true)
  | _ => ("CopperStreet$Chimes", "size", "I", false)
def tyX0 : Nat → FieldType := fun k => match k with
  | 0 => .array .int
  | _ => .int
abbrev wsX00 : List Cond := u_ws RX0 TX0 2
theorem nmX0 : ∀ a, a < 2 → ∀ b, b < 2 → a ≠ b → (TX0 a).2.1 ≠ (TX0 b).2.1 := by decide +kernel
theorem tyX0_ok : ∀ k, k < 2 → parseFieldDescriptor (TX0 k).2.2.1 = some (tyX0 k) := by decide +kernel
abbrev cX0_init : ByteArray := prog_2_method_1_code
def yX0_init : MethodName := ⟨RX0, "<init>", "()V"⟩
abbrev cX0_listen : ByteArray := prog_2_method_2_code
def yX0_listen : MethodName := ⟨RX0, "listen", "(LCopperStreet$Shop;)V"⟩
abbrev cX0_pairs : ByteArray := prog_2_method_3_code
def yX0_pairs : MethodName := ⟨RX0, "pairs", "()I"⟩
abbrev cX0_atPlace : ByteArray := prog_2_method_4_code
def yX0_atPlace : MethodName := ⟨RX0, "atPlace", "(I)I"⟩
abbrev cX0_aheadOf : ByteArray := prog_2_method_5_code
def yX0_aheadOf : MethodName := ⟨RX0, "aheadOf", "(I)I"⟩
abbrev cX0_chain : ByteArray := prog_2_method_6_code
def yX0_chain : MethodName := ⟨RX0, "chain", "(I)I"⟩
abbrev cX0_lowestAbove : ByteArray := prog_2_method_7_code
def yX0_lowestAbove : MethodName := ⟨RX0, "lowestAbove", "(I)I"⟩
abbrev cX0_closest : ByteArray := prog_2_method_8_code
def yX0_closest : MethodName := ⟨RX0, "closest", "(I)I"⟩
abbrev cX0_mean : ByteArray := prog_2_method_9_code
def yX0_mean : MethodName := ⟨RX0, "mean", "()F"⟩
def RX1 : String := "CopperStreet$History"
def TX1 : u_T := fun k => match k with
  | 0 => ("CopperStreet$History", "shops", "[LCopperStreet$Shop;", true)
  | 1 => ("CopperStreet$History", "next", "I", false)
  | _ => ("CopperStreet$History", "count", "I", false)
def tyX1 : Nat → FieldType := fun k => match k with
  | 0 => .array (.object "CopperStreet$Shop")
  | 1 => .int
  | _ => .int
abbrev wsX10 : List Cond := u_ws RX1 TX1 3
theorem nmX1 : ∀ a, a < 3 → ∀ b, b < 3 → a ≠ b → (TX1 a).2.1 ≠ (TX1 b).2.1 := by decide +kernel
theorem tyX1_ok : ∀ k, k < 3 → parseFieldDescriptor (TX1 k).2.2.1 = some (tyX1 k) := by decide +kernel
abbrev cX1_init : ByteArray := prog_3_method_1_code
def yX1_init : MethodName := ⟨RX1, "<init>", "()V"⟩
abbrev cX1_size : ByteArray := prog_3_method_2_code
def yX1_size : MethodName := ⟨RX1, "size", "()I"⟩
abbrev cX1_note : ByteArray := prog_3_method_5_code
def yX1_note : MethodName := ⟨RX1, "note", "(LCopperStreet$Shop;)V"⟩
abbrev cX1_keep : ByteArray := prog_3_method_7_code
def yX1_keep : MethodName := ⟨RX1, "keep", "()V"⟩
def RX2 : String := "CopperStreet$Kind"
def TX2 : u_T := fun k => match k with
  | _ => ("", "", "", false)
def tyX2 : Nat → FieldType := fun k => match k with
  | _ => .int
abbrev wsX20 : List Cond := u_ws RX2 TX2 0
theorem nmX2 : ∀ a, a < 0 → ∀ b, b < 0 → a ≠ b → (TX2 a).2.1 ≠ (TX2 b).2.1 := by decide +kernel
theorem tyX2_ok : ∀ k, k < 0 → parseFieldDescriptor (TX2 k).2.2.1 = some (tyX2 k) := by decide +kernel
abbrev cX2_numbered : ByteArray := prog_4_method_4_code
def yX2_numbered : MethodName := ⟨RX2, "numbered", "(I)LCopperStreet$Kind;"⟩
abbrev cX2_barsOf : ByteArray := prog_4_method_5_code
def yX2_barsOf : MethodName := ⟨RX2, "barsOf", "(I)I"⟩
def RX3 : String := "CopperStreet$Order"
def TX3 : u_T := fun k => match k with
  | 0 => ("CopperStreet$Order", "kind", "LCopperStreet$Kind;", false)
  | 1 => ("CopperStreet$Order", "tin", "I", false)
  | 2 => ("CopperStreet$Order", "pay", "I", false)
  | 3 => ("CopperStreet$Order", "pot", "I", false)
  | _ => ("CopperStreet$Order", "paid", "I", false)
def tyX3 : Nat → FieldType := fun k => match k with
  | 0 => .object "CopperStreet$Kind"
  | 1 => .int
  | 2 => .int
  | 3 => .int
  | _ => .int
abbrev wsX30 : List Cond := u_ws RX3 TX3 5
theorem nmX3 : ∀ a, a < 5 → ∀ b, b < 5 → a ≠ b → (TX3 a).2.1 ≠ (TX3 b).2.1 := by decide +kernel
theorem tyX3_ok : ∀ k, k < 5 → parseFieldDescriptor (TX3 k).2.2.1 = some (tyX3 k) := by decide +kernel
abbrev cX3_init : ByteArray := prog_5_method_1_code
def yX3_init : MethodName := ⟨RX3, "<init>", "()V"⟩
abbrev cX3_arrive : ByteArray := prog_5_method_2_code
def yX3_arrive : MethodName := ⟨RX3, "arrive", "(LCopperStreet$Kind;II)V"⟩
abbrev cX3_copyFrom : ByteArray := prog_5_method_3_code
def yX3_copyFrom : MethodName := ⟨RX3, "copyFrom", "(LCopperStreet$Order;)V"⟩
abbrev cX3_isFilled : ByteArray := prog_5_method_4_code
def yX3_isFilled : MethodName := ⟨RX3, "isFilled", "()Z"⟩
abbrev cX3_payFor : ByteArray := prog_5_method_5_code
def yX3_payFor : MethodName := ⟨RX3, "payFor", "(LCopperStreet$Pot;)I"⟩
abbrev cX3_tinFor : ByteArray := prog_5_method_6_code
def yX3_tinFor : MethodName := ⟨RX3, "tinFor", "(LCopperStreet$Pot;)I"⟩
abbrev cX3_tell : ByteArray := prog_5_method_7_code
def yX3_tell : MethodName := ⟨RX3, "tell", "(I)I"⟩
def RX4 : String := "CopperStreet$Pot"
def TX4 : u_T := fun k => match k with
  | 0 => ("CopperStreet$Pot", "number", "I", true)
  | 1 => ("CopperStreet$Pot", "kind", "LCopperStreet$Kind;", false)
  | 2 => ("CopperStreet$Pot", "sheet", "I", false)
  | 3 => ("CopperStreet$Pot", "gauge", "I", false)
  | 4 => ("CopperStreet$Pot", "blows", "I", false)
  | 5 => ("CopperStreet$Pot", "tin", "I", false)
  | 6 => ("CopperStreet$Pot", "mealsNotWorn", "I", false)
  | 7 => ("CopperStreet$Pot", "meals", "I", false)
  | _ => ("CopperStreet$Pot", "order", "I", false)
def tyX4 : Nat → FieldType := fun k => match k with
  | 0 => .int
  | 1 => .object "CopperStreet$Kind"
  | 2 => .int
  | 3 => .int
  | 4 => .int
  | 5 => .int
  | 6 => .int
  | 7 => .int
  | _ => .int
abbrev wsX40 : List Cond := u_ws RX4 TX4 9
theorem nmX4 : ∀ a, a < 9 → ∀ b, b < 9 → a ≠ b → (TX4 a).2.1 ≠ (TX4 b).2.1 := by decide +kernel
theorem tyX4_ok : ∀ k, k < 9 → parseFieldDescriptor (TX4 k).2.2.1 = some (tyX4 k) := by decide +kernel
abbrev cX4_init : ByteArray := prog_6_method_1_code
def yX4_init : MethodName := ⟨RX4, "<init>", "(I)V"⟩
abbrev cX4_arrive : ByteArray := prog_6_method_2_code
def yX4_arrive : MethodName := ⟨RX4, "arrive", "(LCopperStreet$Kind;II)V"⟩
abbrev cX4_copyFrom : ByteArray := prog_6_method_3_code
def yX4_copyFrom : MethodName := ⟨RX4, "copyFrom", "(LCopperStreet$Pot;)V"⟩
abbrev cX4_isSold : ByteArray := prog_6_method_4_code
def yX4_isSold : MethodName := ⟨RX4, "isSold", "()Z"⟩
abbrev cX4_isNew : ByteArray := prog_6_method_5_code
def yX4_isNew : MethodName := ⟨RX4, "isNew", "()Z"⟩
abbrev cX4_crackingBlows : ByteArray := prog_6_method_6_code
def yX4_crackingBlows : MethodName := ⟨RX4, "crackingBlows", "()I"⟩
abbrev cX4_blowsMissing : ByteArray := prog_6_method_7_code
def yX4_blowsMissing : MethodName := ⟨RX4, "blowsMissing", "(I)I"⟩
abbrev cX4_isSmooth : ByteArray := prog_6_method_8_code
def yX4_isSmooth : MethodName := ⟨RX4, "isSmooth", "()Z"⟩
abbrev cX4_isCracked : ByteArray := prog_6_method_9_code
def yX4_isCracked : MethodName := ⟨RX4, "isCracked", "()Z"⟩
abbrev cX4_thickness : ByteArray := prog_6_method_10_code
def yX4_thickness : MethodName := ⟨RX4, "thickness", "()I"⟩
abbrev cX4_thicknessWith : ByteArray := prog_6_method_11_code
def yX4_thicknessWith : MethodName := ⟨RX4, "thicknessWith", "(I)I"⟩
abbrev cX4_ring : ByteArray := prog_6_method_12_code
def yX4_ring : MethodName := ⟨RX4, "ring", "()I"⟩
abbrev cX4_ringWith : ByteArray := prog_6_method_13_code
def yX4_ringWith : MethodName := ⟨RX4, "ringWith", "(II)I"⟩
abbrev cX4_ringByStep : ByteArray := prog_6_method_14_code
def yX4_ringByStep : MethodName := ⟨RX4, "ringByStep", "()I"⟩
abbrev cX4_wear : ByteArray := prog_6_method_15_code
def yX4_wear : MethodName := ⟨RX4, "wear", "(I)V"⟩
abbrev cX4_lackFor : ByteArray := prog_6_method_17_code
def yX4_lackFor : MethodName := ⟨RX4, "lackFor", "(LCopperStreet$Order;)I"⟩
abbrev cX4_detailOf : ByteArray := prog_6_method_18_code
def yX4_detailOf : MethodName := ⟨RX4, "detailOf", "(ILCopperStreet$Order;)I"⟩
abbrev cX4_tell : ByteArray := prog_6_method_19_code
def yX4_tell : MethodName := ⟨RX4, "tell", "(I)I"⟩
def RX5 : String := "CopperStreet$Reasons"
def TX5 : u_T := fun k => match k with
  | 0 => ("CopperStreet$Reasons", "numbers", "[I", true)
  | 1 => ("CopperStreet$Reasons", "details", "[I", true)
  | _ => ("CopperStreet$Reasons", "count", "I", false)
def tyX5 : Nat → FieldType := fun k => match k with
  | 0 => .array .int
  | 1 => .array .int
  | _ => .int
abbrev wsX50 : List Cond := u_ws RX5 TX5 3
theorem nmX5 : ∀ a, a < 3 → ∀ b, b < 3 → a ≠ b → (TX5 a).2.1 ≠ (TX5 b).2.1 := by decide +kernel
theorem tyX5_ok : ∀ k, k < 3 → parseFieldDescriptor (TX5 k).2.2.1 = some (tyX5 k) := by decide +kernel
abbrev cX5_init : ByteArray := prog_7_method_1_code
def yX5_init : MethodName := ⟨RX5, "<init>", "()V"⟩
abbrev cX5_refuse : ByteArray := prog_7_method_2_code
def yX5_refuse : MethodName := ⟨RX5, "refuse", "(II)I"⟩
abbrev cX5_wrap : ByteArray := prog_7_method_3_code
def yX5_wrap : MethodName := ⟨RX5, "wrap", "(II)I"⟩
def RX6 : String := "CopperStreet$Script"
def TX6 : u_T := fun k => match k with
  | 0 => ("CopperStreet$Script", "text", "Ljava/lang/StringBuilder;", true)
  | 1 => ("CopperStreet$Script", "verbs", "[LCopperStreet$Verb;", true)
  | 2 => ("CopperStreet$Script", "firsts", "[I", true)
  | 3 => ("CopperStreet$Script", "seconds", "[I", true)
  | 4 => ("CopperStreet$Script", "count", "I", false)
  | _ => ("CopperStreet$Script", "at", "I", false)
def tyX6 : Nat → FieldType := fun k => match k with
  | 0 => .object "java/lang/StringBuilder"
  | 1 => .array (.object "CopperStreet$Verb")
  | 2 => .array .int
  | 3 => .array .int
  | 4 => .int
  | _ => .int
abbrev wsX60 : List Cond := u_ws RX6 TX6 6
theorem nmX6 : ∀ a, a < 6 → ∀ b, b < 6 → a ≠ b → (TX6 a).2.1 ≠ (TX6 b).2.1 := by decide +kernel
theorem tyX6_ok : ∀ k, k < 6 → parseFieldDescriptor (TX6 k).2.2.1 = some (tyX6 k) := by decide +kernel
abbrev cX6_init : ByteArray := prog_8_method_1_code
def yX6_init : MethodName := ⟨RX6, "<init>", "()V"⟩
abbrev cX6_length : ByteArray := prog_8_method_3_code
def yX6_length : MethodName := ⟨RX6, "length", "()I"⟩
def RX7 : String := "CopperStreet$Sheet"
def TX7 : u_T := fun k => match k with
  | 0 => ("CopperStreet$Sheet", "gauge", "I", false)
  | 1 => ("CopperStreet$Sheet", "firstArea", "I", false)
  | 2 => ("CopperStreet$Sheet", "area", "I", false)
  | _ => ("CopperStreet$Sheet", "pots", "I", false)
def tyX7 : Nat → FieldType := fun k => match k with
  | 0 => .int
  | 1 => .int
  | 2 => .int
  | _ => .int
abbrev wsX70 : List Cond := u_ws RX7 TX7 4
theorem nmX7 : ∀ a, a < 4 → ∀ b, b < 4 → a ≠ b → (TX7 a).2.1 ≠ (TX7 b).2.1 := by decide +kernel
theorem tyX7_ok : ∀ k, k < 4 → parseFieldDescriptor (TX7 k).2.2.1 = some (tyX7 k) := by decide +kernel
abbrev cX7_init : ByteArray := prog_9_method_1_code
def yX7_init : MethodName := ⟨RX7, "<init>", "()V"⟩
abbrev cX7_arrive : ByteArray := prog_9_method_2_code
def yX7_arrive : MethodName := ⟨RX7, "arrive", "(II)V"⟩
abbrev cX7_copyFrom : ByteArray := prog_9_method_3_code
def yX7_copyFrom : MethodName := ⟨RX7, "copyFrom", "(LCopperStreet$Sheet;)V"⟩
abbrev cX7_tell : ByteArray := prog_9_method_4_code
def yX7_tell : MethodName := ⟨RX7, "tell", "(I)I"⟩
def RX8 : String := "CopperStreet$Shop"
def TX8 : u_T := fun k => match k with
  | 0 => ("CopperStreet$Shop", "sheets", "[LCopperStreet$Sheet;", true)
  | 1 => ("CopperStreet$Shop", "pots", "[LCopperStreet$Pot;", true)
  | 2 => ("CopperStreet$Shop", "orders", "[LCopperStreet$Order;", true)
  | 3 => ("CopperStreet$Shop", "goodPots", "[I", true)
  | 4 => ("CopperStreet$Shop", "sheetCount", "I", false)
  | 5 => ("CopperStreet$Shop", "potCount", "I", false)
  | 6 => ("CopperStreet$Shop", "orderCount", "I", false)
  | 7 => ("CopperStreet$Shop", "coins", "I", false)
  | 8 => ("CopperStreet$Shop", "bars", "I", false)
  | 9 => ("CopperStreet$Shop", "barsBought", "I", false)
  | 10 => ("CopperStreet$Shop", "barsUsed", "I", false)
  | _ => ("CopperStreet$Shop", "coats", "I", false)
def tyX8 : Nat → FieldType := fun k => match k with
  | 0 => .array (.object "CopperStreet$Sheet")
  | 1 => .array (.object "CopperStreet$Pot")
  | 2 => .array (.object "CopperStreet$Order")
  | 3 => .array .int
  | 4 => .int
  | 5 => .int
  | 6 => .int
  | 7 => .int
  | 8 => .int
  | 9 => .int
  | 10 => .int
  | _ => .int
abbrev wsX80 : List Cond := u_ws RX8 TX8 12
theorem nmX8 : ∀ a, a < 12 → ∀ b, b < 12 → a ≠ b → (TX8 a).2.1 ≠ (TX8 b).2.1 := by decide +kernel
theorem tyX8_ok : ∀ k, k < 12 → parseFieldDescriptor (TX8 k).2.2.1 = some (tyX8 k) := by decide +kernel
abbrev cX8_init : ByteArray := prog_10_method_1_code
def yX8_init : MethodName := ⟨RX8, "<init>", "()V"⟩
abbrev cX8_copyFrom : ByteArray := prog_10_method_3_code
def yX8_copyFrom : MethodName := ⟨RX8, "copyFrom", "(LCopperStreet$Shop;)V"⟩
abbrev cX8_sheetAt : ByteArray := prog_10_method_4_code
def yX8_sheetAt : MethodName := ⟨RX8, "sheetAt", "(I)LCopperStreet$Sheet;"⟩
abbrev cX8_potAt : ByteArray := prog_10_method_5_code
def yX8_potAt : MethodName := ⟨RX8, "potAt", "(I)LCopperStreet$Pot;"⟩
abbrev cX8_orderAt : ByteArray := prog_10_method_6_code
def yX8_orderAt : MethodName := ⟨RX8, "orderAt", "(I)LCopperStreet$Order;"⟩
abbrev cX8_soldPots : ByteArray := prog_10_method_7_code
def yX8_soldPots : MethodName := ⟨RX8, "soldPots", "()I"⟩
abbrev cX8_paidSoFar : ByteArray := prog_10_method_8_code
def yX8_paidSoFar : MethodName := ⟨RX8, "paidSoFar", "()I"⟩
abbrev cX8_sheetsCost : ByteArray := prog_10_method_9_code
def yX8_sheetsCost : MethodName := ⟨RX8, "sheetsCost", "()I"⟩
abbrev cX8_sumOfPots : ByteArray := prog_10_method_10_code
def yX8_sumOfPots : MethodName := ⟨RX8, "sumOfPots", "(I)I"⟩
abbrev cX8_copperByPart : ByteArray := prog_10_method_11_code
def yX8_copperByPart : MethodName := ⟨RX8, "copperByPart", "()I"⟩
abbrev cX8_copperBySheet : ByteArray := prog_10_method_12_code
def yX8_copperBySheet : MethodName := ⟨RX8, "copperBySheet", "()I"⟩
abbrev cX8_isGood : ByteArray := prog_10_method_13_code
def yX8_isGood : MethodName := ⟨RX8, "isGood", "(LCopperStreet$Pot;LCopperStreet$Order;)Z"⟩
abbrev cX8_lowestGood : ByteArray := prog_10_method_14_code
def yX8_lowestGood : MethodName := ⟨RX8, "lowestGood", "(LCopperStreet$Order;I)I"⟩
def RX9 : String := "CopperStreet$Smith"
def TX9 : u_T := fun k => match k with
  | 0 => ("CopperStreet$Smith", "shop", "LCopperStreet$Shop;", true)
  | _ => ("CopperStreet$Smith", "reasons", "LCopperStreet$Reasons;", true)
def tyX9 : Nat → FieldType := fun k => match k with
  | 0 => .object "CopperStreet$Shop"
  | _ => .object "CopperStreet$Reasons"
abbrev wsX90 : List Cond := u_ws RX9 TX9 2
theorem nmX9 : ∀ a, a < 2 → ∀ b, b < 2 → a ≠ b → (TX9 a).2.1 ≠ (TX9 b).2.1 := by decide +kernel
theorem tyX9_ok : ∀ k, k < 2 → parseFieldDescriptor (TX9 k).2.2.1 = some (tyX9 k) := by decide +kernel
abbrev cX9_init : ByteArray := prog_11_method_1_code
def yX9_init : MethodName := ⟨RX9, "<init>", "()V"⟩
abbrev cX9_buySheet : ByteArray := prog_11_method_2_code
def yX9_buySheet : MethodName := ⟨RX9, "buySheet", "(II)I"⟩
abbrev cX9_raisePot : ByteArray := prog_11_method_3_code
def yX9_raisePot : MethodName := ⟨RX9, "raisePot", "(II)I"⟩
abbrev cX9_hit : ByteArray := prog_11_method_4_code
def yX9_hit : MethodName := ⟨RX9, "hit", "(II)I"⟩
abbrev cX9_buyBars : ByteArray := prog_11_method_5_code
def yX9_buyBars : MethodName := ⟨RX9, "buyBars", "(I)I"⟩
abbrev cX9_coat : ByteArray := prog_11_method_6_code
def yX9_coat : MethodName := ⟨RX9, "coat", "(II)I"⟩
abbrev cX9_use : ByteArray := prog_11_method_7_code
def yX9_use : MethodName := ⟨RX9, "use", "(II)I"⟩
abbrev cX9_takeOrder : ByteArray := prog_11_method_8_code
def yX9_takeOrder : MethodName := ⟨RX9, "takeOrder", "(III)I"⟩
abbrev cX9_handOver : ByteArray := prog_11_method_9_code
def yX9_handOver : MethodName := ⟨RX9, "handOver", "(II)I"⟩
abbrev cX9_isWorkable : ByteArray := prog_11_method_11_code
def yX9_isWorkable : MethodName := ⟨RX9, "isWorkable", "(LCopperStreet$Pot;)Z"⟩
def RX10 : String := "CopperStreet$Verb"
def TX10 : u_T := fun k => match k with
  | _ => ("", "", "", false)
def tyX10 : Nat → FieldType := fun k => match k with
  | _ => .int
abbrev wsX100 : List Cond := u_ws RX10 TX10 0
theorem nmX10 : ∀ a, a < 0 → ∀ b, b < 0 → a ≠ b → (TX10 a).2.1 ≠ (TX10 b).2.1 := by decide +kernel
theorem tyX10_ok : ∀ k, k < 0 → parseFieldDescriptor (TX10 k).2.2.1 = some (tyX10 k) := by decide +kernel
def RX11 : String := "CopperStreet"
def TX11 : u_T := fun k => match k with
  | 0 => ("CopperStreet", "smith", "LCopperStreet$Smith;", true)
  | 1 => ("CopperStreet", "shop", "LCopperStreet$Shop;", true)
  | 2 => ("CopperStreet", "reasons", "LCopperStreet$Reasons;", true)
  | 3 => ("CopperStreet", "saved", "LCopperStreet$Shop;", true)
  | 4 => ("CopperStreet", "history", "LCopperStreet$History;", true)
  | 5 => ("CopperStreet", "chimes", "LCopperStreet$Chimes;", true)
  | 6 => ("CopperStreet", "script", "LCopperStreet$Script;", true)
  | 7 => ("CopperStreet", "line", "Ljava/lang/StringBuilder;", true)
  | 8 => ("CopperStreet", "isSaved", "Z", false)
  | _ => ("CopperStreet", "faultPosition", "I", false)
def tyX11 : Nat → FieldType := fun k => match k with
  | 0 => .object "CopperStreet$Smith"
  | 1 => .object "CopperStreet$Shop"
  | 2 => .object "CopperStreet$Reasons"
  | 3 => .object "CopperStreet$Shop"
  | 4 => .object "CopperStreet$History"
  | 5 => .object "CopperStreet$Chimes"
  | 6 => .object "CopperStreet$Script"
  | 7 => .object "java/lang/StringBuilder"
  | 8 => .boolean
  | _ => .int
abbrev wsX110 : List Cond := u_ws RX11 TX11 10
theorem nmX11 : ∀ a, a < 10 → ∀ b, b < 10 → a ≠ b → (TX11 a).2.1 ≠ (TX11 b).2.1 := by decide +kernel
theorem tyX11_ok : ∀ k, k < 10 → parseFieldDescriptor (TX11 k).2.2.1 = some (tyX11 k) := by decide +kernel
abbrev cX11_init : ByteArray := prog_1_method_1_code
def yX11_init : MethodName := ⟨RX11, "<init>", "()V"⟩
abbrev cX11_sheet : ByteArray := prog_1_method_4_code
def yX11_sheet : MethodName := ⟨RX11, "sheet", "(II)I"⟩
abbrev cX11_raise : ByteArray := prog_1_method_5_code
def yX11_raise : MethodName := ⟨RX11, "raise", "(II)I"⟩
abbrev cX11_planish : ByteArray := prog_1_method_6_code
def yX11_planish : MethodName := ⟨RX11, "planish", "(II)I"⟩
abbrev cX11_bars : ByteArray := prog_1_method_7_code
def yX11_bars : MethodName := ⟨RX11, "bars", "(I)I"⟩
abbrev cX11_tin : ByteArray := prog_1_method_8_code
def yX11_tin : MethodName := ⟨RX11, "tin", "(II)I"⟩
abbrev cX11_cook : ByteArray := prog_1_method_9_code
def yX11_cook : MethodName := ⟨RX11, "cook", "(II)I"⟩
abbrev cX11_baker : ByteArray := prog_1_method_10_code
def yX11_baker : MethodName := ⟨RX11, "baker", "(III)I"⟩
abbrev cX11_sell : ByteArray := prog_1_method_11_code
def yX11_sell : MethodName := ⟨RX11, "sell", "(II)I"⟩
abbrev cX11_sheetOf : ByteArray := prog_1_method_15_code
def yX11_sheetOf : MethodName := ⟨RX11, "sheetOf", "(II)I"⟩
abbrev cX11_potOf : ByteArray := prog_1_method_16_code
def yX11_potOf : MethodName := ⟨RX11, "potOf", "(II)I"⟩
abbrev cX11_orderOf : ByteArray := prog_1_method_17_code
def yX11_orderOf : MethodName := ⟨RX11, "orderOf", "(II)I"⟩
abbrev cX11_sound : ByteArray := prog_1_method_18_code
def yX11_sound : MethodName := ⟨RX11, "sound", "(I)I"⟩
abbrev cX11_soundAgain : ByteArray := prog_1_method_19_code
def yX11_soundAgain : MethodName := ⟨RX11, "soundAgain", "(I)I"⟩
abbrev cX11_isAlike : ByteArray := prog_1_method_20_code
def yX11_isAlike : MethodName := ⟨RX11, "isAlike", "(II)Z"⟩
abbrev cX11_alike : ByteArray := prog_1_method_21_code
def yX11_alike : MethodName := ⟨RX11, "alike", "()I"⟩
abbrev cX11_ranked : ByteArray := prog_1_method_22_code
def yX11_ranked : MethodName := ⟨RX11, "ranked", "(I)I"⟩
abbrev cX11_peal : ByteArray := prog_1_method_23_code
def yX11_peal : MethodName := ⟨RX11, "peal", "(I)I"⟩
abbrev cX11_nearest : ByteArray := prog_1_method_24_code
def yX11_nearest : MethodName := ⟨RX11, "nearest", "(I)I"⟩
abbrev cX11_wouldSound : ByteArray := prog_1_method_25_code
def yX11_wouldSound : MethodName := ⟨RX11, "wouldSound", "(III)I"⟩
abbrev cX11_blowsTo : ByteArray := prog_1_method_26_code
def yX11_blowsTo : MethodName := ⟨RX11, "blowsTo", "(II)I"⟩
abbrev cX11_goodFor : ByteArray := prog_1_method_30_code
def yX11_goodFor : MethodName := ⟨RX11, "goodFor", "(I)I"⟩
abbrev cX11_copper : ByteArray := prog_1_method_33_code
def yX11_copper : MethodName := ⟨RX11, "copper", "()I"⟩
abbrev cX11_copperAgain : ByteArray := prog_1_method_34_code
def yX11_copperAgain : MethodName := ⟨RX11, "copperAgain", "()I"⟩
abbrev cX11_coinsAgain : ByteArray := prog_1_method_35_code
def yX11_coinsAgain : MethodName := ⟨RX11, "coinsAgain", "()I"⟩
abbrev cX11_barsAgain : ByteArray := prog_1_method_36_code
def yX11_barsAgain : MethodName := ⟨RX11, "barsAgain", "()I"⟩
abbrev cX11_meanSound : ByteArray := prog_1_method_39_code
def yX11_meanSound : MethodName := ⟨RX11, "meanSound", "()F"⟩
abbrev cX11_soldShare : ByteArray := prog_1_method_40_code
def yX11_soldShare : MethodName := ⟨RX11, "soldShare", "()D"⟩
abbrev cX11_account : ByteArray := prog_1_method_41_code
def yX11_account : MethodName := ⟨RX11, "account", "(I)I"⟩
abbrev cX11_kept : ByteArray := prog_1_method_45_code
def yX11_kept : MethodName := ⟨RX11, "kept", "(I)I"⟩
abbrev cX11_ringAlike : ByteArray := prog_1_method_48_code
def yX11_ringAlike : MethodName := ⟨RX11, "ringAlike", "(II)Z"⟩
def RX12 : String := "CopperStreetModel"
def TX12 : u_T := fun k => match k with
  | _ => ("", "", "", false)
def tyX12 : Nat → FieldType := fun k => match k with
  | _ => .int
abbrev wsX120 : List Cond := u_ws RX12 TX12 0
theorem nmX12 : ∀ a, a < 0 → ∀ b, b < 0 → a ≠ b → (TX12 a).2.1 ≠ (TX12 b).2.1 := by decide +kernel
theorem tyX12_ok : ∀ k, k < 0 → parseFieldDescriptor (TX12 k).2.2.1 = some (tyX12 k) := by decide +kernel
def RJ5 : String := "java/lang/AbstractStringBuilder"
def TJ5 : u_T := fun k => match k with
  | _ => ("", "", "", false)
def tyJ5 : Nat → FieldType := fun k => match k with
  | _ => .int
abbrev wsJ50 : List Cond := u_ws RJ5 TJ5 0
theorem nmJ5 : ∀ a, a < 0 → ∀ b, b < 0 → a ≠ b → (TJ5 a).2.1 ≠ (TJ5 b).2.1 := by decide +kernel
theorem tyJ5_ok : ∀ k, k < 0 → parseFieldDescriptor (TJ5 k).2.2.1 = some (tyJ5 k) := by decide +kernel
abbrev cJ5_init_d00df : ByteArray := prog_15_method_2_code
def yJ5_init_d00df : MethodName := ⟨RJ5, "<init>", "(I)V"⟩
abbrev cJ5_length_8abf5 : ByteArray := prog_15_method_6_code
def yJ5_length_8abf5 : MethodName := ⟨RJ5, "length", "()I"⟩
def RJx29ce0 : String := "java/lang/Enum"
def TJx29ce0 : u_T := fun k => match k with
  | _ => ("", "", "", false)
def tyJx29ce0 : Nat → FieldType := fun k => match k with
  | _ => .int
abbrev wsJx29ce00 : List Cond := u_ws RJx29ce0 TJx29ce0 0
theorem nmJx29ce0 : ∀ a, a < 0 → ∀ b, b < 0 → a ≠ b → (TJx29ce0 a).2.1 ≠ (TJx29ce0 b).2.1 := by decide +kernel
theorem tyJx29ce0_ok : ∀ k, k < 0 → parseFieldDescriptor (TJx29ce0 k).2.2.1 = some (tyJx29ce0 k) := by decide +kernel
def RJ9 : String := "java/lang/Math"
def TJ9 : u_T := fun k => match k with
  | _ => ("", "", "", false)
def tyJ9 : Nat → FieldType := fun k => match k with
  | _ => .int
abbrev wsJ90 : List Cond := u_ws RJ9 TJ9 0
theorem nmJ9 : ∀ a, a < 0 → ∀ b, b < 0 → a ≠ b → (TJ9 a).2.1 ≠ (TJ9 b).2.1 := by decide +kernel
theorem tyJ9_ok : ∀ k, k < 0 → parseFieldDescriptor (TJ9 k).2.2.1 = some (tyJ9 k) := by decide +kernel
abbrev cJ9_abs_0f7a4 : ByteArray := prog_17_method_59_code
def yJ9_abs_0f7a4 : MethodName := ⟨RJ9, "abs", "(I)I"⟩
abbrev cJ9_max_7cf53 : ByteArray := prog_17_method_65_code
def yJ9_max_7cf53 : MethodName := ⟨RJ9, "max", "(II)I"⟩
abbrev cJ9_min_7cf53 : ByteArray := prog_17_method_69_code
def yJ9_min_7cf53 : MethodName := ⟨RJ9, "min", "(II)I"⟩
def RJ0 : String := "java/lang/String"
def TJ0 : u_T := fun k => match k with
  | _ => ("", "", "", false)
def tyJ0 : Nat → FieldType := fun k => match k with
  | _ => .int
abbrev wsJ00 : List Cond := u_ws RJ0 TJ0 0
theorem nmJ0 : ∀ a, a < 0 → ∀ b, b < 0 → a ≠ b → (TJ0 a).2.1 ≠ (TJ0 b).2.1 := by decide +kernel
theorem tyJ0_ok : ∀ k, k < 0 → parseFieldDescriptor (TJ0 k).2.2.1 = some (tyJ0 k) := by decide +kernel
def RJ4 : String := "java/lang/StringBuilder"
def TJ4 : u_T := fun k => match k with
  | 0 => ("java/lang/AbstractStringBuilder", "value", "[B", false)
  | 1 => ("java/lang/AbstractStringBuilder", "coder", "B", false)
  | 2 => ("java/lang/AbstractStringBuilder", "maybeLatin1", "Z", false)
  | _ => ("java/lang/AbstractStringBuilder", "count", "I", false)
def tyJ4 : Nat → FieldType := fun k => match k with
  | 0 => .array .byte
  | 1 => .byte
  | 2 => .boolean
  | _ => .int
abbrev wsJ40 : List Cond := u_ws RJ4 TJ4 4
theorem nmJ4 : ∀ a, a < 4 → ∀ b, b < 4 → a ≠ b → (TJ4 a).2.1 ≠ (TJ4 b).2.1 := by decide +kernel
theorem tyJ4_ok : ∀ k, k < 4 → parseFieldDescriptor (TJ4 k).2.2.1 = some (tyJ4 k) := by decide +kernel
abbrev cJ4_init_da8c8 : ByteArray := prog_19_method_1_code
def yJ4_init_da8c8 : MethodName := ⟨RJ4, "<init>", "()V"⟩
abbrev cJ4_length_8abf5 : ByteArray := prog_19_method_93_code
def yJ4_length_8abf5 : MethodName := ⟨RJ4, "length", "()I"⟩
def RJ2 : String := "java/lang/StringUTF16"
def TJ2 : u_T := fun k => match k with
  | _ => ("", "", "", false)
def tyJ2 : Nat → FieldType := fun k => match k with
  | _ => .int
abbrev wsJ20 : List Cond := u_ws RJ2 TJ2 0
theorem nmJ2 : ∀ a, a < 0 → ∀ b, b < 0 → a ≠ b → (TJ2 a).2.1 ≠ (TJ2 b).2.1 := by decide +kernel
theorem tyJ2_ok : ∀ k, k < 0 → parseFieldDescriptor (TJ2 k).2.2.1 = some (tyJ2 k) := by decide +kernel
abbrev cJ2_newBytesFor_77867 : ByteArray := prog_20_method_2_code
def yJ2_newBytesFor_77867 : MethodName := ⟨RJ2, "newBytesFor", "(I)[B"⟩
abbrev cJ2_newBytesLength_0f7a4 : ByteArray := prog_20_method_3_code
def yJ2_newBytesLength_0f7a4 : MethodName := ⟨RJ2, "newBytesLength", "(I)I"⟩
def RL : String := "CopperStreetLaw"
abbrev cL_cell : ByteArray := method_2_code
def yL_cell : MethodName := ⟨RL, "cell", "([II)I"⟩
abbrev cL_pick : ByteArray := method_3_code
def yL_pick : MethodName := ⟨RL, "pick", "([III)I"⟩
abbrev cL_lay : ByteArray := method_4_code
def yL_lay : MethodName := ⟨RL, "lay", "(LCopperStreet;[I)V"⟩
abbrev cL_done : ByteArray := method_5_code
def yL_done : MethodName := ⟨RL, "done", "(LCopperStreet;[III)I"⟩
abbrev cL_any : ByteArray := method_6_code
def yL_any : MethodName := ⟨RL, "any", "(LCopperStreet;[II)I"⟩
abbrev cL_areaOf : ByteArray := method_8_code
def yL_areaOf : MethodName := ⟨RL, "areaOf", "(I)I"⟩
abbrev cL_isInShop : ByteArray := method_9_code
def yL_isInShop : MethodName := ⟨RL, "isInShop", "(LCopperStreet;I)Z"⟩
abbrev cL_soundOf : ByteArray := method_10_code
def yL_soundOf : MethodName := ⟨RL, "soundOf", "(LCopperStreet;I)I"⟩
abbrev cL_arePotsRight : ByteArray := method_11_code
def yL_arePotsRight : MethodName := ⟨RL, "arePotsRight", "(LCopperStreet;)Z"⟩
abbrev cL_areSumsRight : ByteArray := method_12_code
def yL_areSumsRight : MethodName := ⟨RL, "areSumsRight", "(LCopperStreet;)Z"⟩
abbrev cL_areOrdersRight : ByteArray := method_13_code
def yL_areOrdersRight : MethodName := ⟨RL, "areOrdersRight", "(LCopperStreet;II)Z"⟩
abbrev cL_law : ByteArray := code
def yL_law : MethodName := ⟨RL, "law", "([I)Z"⟩
theorem inX0 : ∀ w ∈ wsX00, w ∈ lw_tbl := by decide +kernel
theorem inX1 : ∀ w ∈ wsX10, w ∈ lw_tbl := by decide +kernel
theorem inX2 : ∀ w ∈ wsX20, w ∈ lw_tbl := by decide +kernel
theorem inX3 : ∀ w ∈ wsX30, w ∈ lw_tbl := by decide +kernel
theorem inX4 : ∀ w ∈ wsX40, w ∈ lw_tbl := by decide +kernel
theorem inX5 : ∀ w ∈ wsX50, w ∈ lw_tbl := by decide +kernel
theorem inX6 : ∀ w ∈ wsX60, w ∈ lw_tbl := by decide +kernel
theorem inX7 : ∀ w ∈ wsX70, w ∈ lw_tbl := by decide +kernel
theorem inX8 : ∀ w ∈ wsX80, w ∈ lw_tbl := by decide +kernel
theorem inX9 : ∀ w ∈ wsX90, w ∈ lw_tbl := by decide +kernel
theorem inX10 : ∀ w ∈ wsX100, w ∈ lw_tbl := by decide +kernel
theorem inX11 : ∀ w ∈ wsX110, w ∈ lw_tbl := by decide +kernel
theorem inX12 : ∀ w ∈ wsX120, w ∈ lw_tbl := by decide +kernel
theorem inJ5 : ∀ w ∈ wsJ50, w ∈ lw_tbl := by decide +kernel
theorem inJx29ce0 : ∀ w ∈ wsJx29ce00, w ∈ lw_tbl := by decide +kernel
theorem inJ9 : ∀ w ∈ wsJ90, w ∈ lw_tbl := by decide +kernel
theorem inJ0 : ∀ w ∈ wsJ00, w ∈ lw_tbl := by decide +kernel
theorem inJ4 : ∀ w ∈ wsJ40, w ∈ lw_tbl := by decide +kernel
theorem inJ2 : ∀ w ∈ wsJ20, w ∈ lw_tbl := by decide +kernel
abbrev vwCl : List vw_C := [(RJ4, TJ4, 4), (RX0, TX0, 2), (RX1, TX1, 3), (RX3, TX3, 5), (RX4, TX4, 9), (RX5, TX5, 3), (RX6, TX6, 6), (RX7, TX7, 4), (RX8, TX8, 12), (RX9, TX9, 2), (RX11, TX11, 10)]
