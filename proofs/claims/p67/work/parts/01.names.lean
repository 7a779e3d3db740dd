def RX0 : String := "WineCooperative$Books"
def TX0 : u_T := fun k => match k with
  | 0 => ("WineCooperative$Books", "catalogue", "LWineCooperative$Catalogue;", true)
  | 1 => ("WineCooperative$Books", "land", "LWineCooperative$Land;", true)
  | 2 => ("WineCooperative$Books", "deliveries", "LWineCooperative$Deliveries;", true)
  | 3 => ("WineCooperative$Books", "cellar", "LWineCooperative$Cellar;", true)
  | 4 => ("WineCooperative$Books", "firstCash", "I", false)
  | 5 => ("WineCooperative$Books", "sales", "I", false)
  | _ => ("WineCooperative$Books", "cash", "I", false)
def tyX0 : Nat → FieldType := fun k => match k with
  | 0 => .object "WineCooperative$Catalogue"
  | 1 => .object "WineCooperative$Land"
  | 2 => .object "WineCooperative$Deliveries"
  | 3 => .object "WineCooperative$Cellar"
  | 4 => .int
  | 5 => .int
  | _ => .int
theorem nmX0 : ∀ a, a < 7 → ∀ b, b < 7 → a ≠ b → (TX0 a).2.1 ≠ (TX0 b).2.1 := by decide +kernel
theorem tyX0_ok : ∀ k, k < 7 → parseFieldDescriptor (TX0 k).2.2.1 = some (tyX0 k) := by decide +kernel
abbrev cX0_init : ByteArray := prog_2_method_1_code
def yX0_init : MethodName := ⟨RX0, "<init>", "()V"⟩
abbrev cX0_clear : ByteArray := prog_2_method_2_code
def yX0_clear : MethodName := ⟨RX0, "clear", "()V"⟩
abbrev cX0_open : ByteArray := prog_2_method_3_code
def yX0_open : MethodName := ⟨RX0, "open", "(I)V"⟩
abbrev cX0_copyFrom : ByteArray := prog_2_method_4_code
def yX0_copyFrom : MethodName := ⟨RX0, "copyFrom", "(LWineCooperative$Books;)V"⟩
abbrev cX0_isNameTaken : ByteArray := prog_2_method_5_code
def yX0_isNameTaken : MethodName := ⟨RX0, "isNameTaken", "(I)Z"⟩
abbrev cX0_greatestWithinLimit : ByteArray := prog_2_method_6_code
def yX0_greatestWithinLimit : MethodName := ⟨RX0, "greatestWithinLimit", "(I)I"⟩
abbrev cX0_reasonAgainst : ByteArray := prog_2_method_7_code
def yX0_reasonAgainst : MethodName := ⟨RX0, "reasonAgainst", "(III)I"⟩
abbrev cX0_gradeFor : ByteArray := prog_2_method_8_code
def yX0_gradeFor : MethodName := ⟨RX0, "gradeFor", "(III)I"⟩
abbrev cX0_accept : ByteArray := prog_2_method_9_code
def yX0_accept : MethodName := ⟨RX0, "accept", "(III)I"⟩
abbrev cX0_centsOf : ByteArray := prog_2_method_10_code
def yX0_centsOf : MethodName := ⟨RX0, "centsOf", "(LWineCooperative$Load;)I"⟩
abbrev cX0_unpaidTo : ByteArray := prog_2_method_11_code
def yX0_unpaidTo : MethodName := ⟨RX0, "unpaidTo", "(I)I"⟩
abbrev cX0_unpaidToAll : ByteArray := prog_2_method_12_code
def yX0_unpaidToAll : MethodName := ⟨RX0, "unpaidToAll", "()I"⟩
abbrev cX0_countPayable : ByteArray := prog_2_method_13_code
def yX0_countPayable : MethodName := ⟨RX0, "countPayable", "()I"⟩
abbrev cX0_canSettleAll : ByteArray := prog_2_method_14_code
def yX0_canSettleAll : MethodName := ⟨RX0, "canSettleAll", "(I)Z"⟩
abbrev cX0_settleAll : ByteArray := prog_2_method_15_code
def yX0_settleAll : MethodName := ⟨RX0, "settleAll", "(I)I"⟩
abbrev cX0_settle : ByteArray := prog_2_method_16_code
def yX0_settle : MethodName := ⟨RX0, "settle", "(LWineCooperative$Load;I)I"⟩
abbrev cX0_canTrade : ByteArray := prog_2_method_17_code
def yX0_canTrade : MethodName := ⟨RX0, "canTrade", "(LWineCooperative$Lot;II)Z"⟩
abbrev cX0_trade : ByteArray := prog_2_method_18_code
def yX0_trade : MethodName := ⟨RX0, "trade", "(LWineCooperative$Lot;II)V"⟩
abbrev cX0_countVarietiesFrom : ByteArray := prog_2_method_19_code
def yX0_countVarietiesFrom : MethodName := ⟨RX0, "countVarietiesFrom", "(I)I"⟩
abbrev cX0_heaviestGrower : ByteArray := prog_2_method_20_code
def yX0_heaviestGrower : MethodName := ⟨RX0, "heaviestGrower", "()I"⟩
def RX1 : String := "WineCooperative$Catalogue"
def TX1 : u_T := fun k => match k with
  | 0 => ("WineCooperative$Catalogue", "lowestSugar", "[I", true)
  | 1 => ("WineCooperative$Catalogue", "varietyName", "[I", true)
  | 2 => ("WineCooperative$Catalogue", "cents", "[I", true)
  | 3 => ("WineCooperative$Catalogue", "classes", "I", false)
  | _ => ("WineCooperative$Catalogue", "varieties", "I", false)
def tyX1 : Nat → FieldType := fun k => match k with
  | 0 => .array .int
  | 1 => .array .int
  | 2 => .array .int
  | 3 => .int
  | _ => .int
theorem nmX1 : ∀ a, a < 5 → ∀ b, b < 5 → a ≠ b → (TX1 a).2.1 ≠ (TX1 b).2.1 := by decide +kernel
theorem tyX1_ok : ∀ k, k < 5 → parseFieldDescriptor (TX1 k).2.2.1 = some (tyX1 k) := by decide +kernel
abbrev cX1_init : ByteArray := prog_3_method_1_code
def yX1_init : MethodName := ⟨RX1, "<init>", "()V"⟩
abbrev cX1_copyFrom : ByteArray := prog_3_method_2_code
def yX1_copyFrom : MethodName := ⟨RX1, "copyFrom", "(LWineCooperative$Catalogue;)V"⟩
abbrev cX1_hasVariety : ByteArray := prog_3_method_3_code
def yX1_hasVariety : MethodName := ⟨RX1, "hasVariety", "(I)Z"⟩
abbrev cX1_hasGrade : ByteArray := prog_3_method_4_code
def yX1_hasGrade : MethodName := ⟨RX1, "hasGrade", "(I)Z"⟩
abbrev cX1_isLessThanLast : ByteArray := prog_3_method_5_code
def yX1_isLessThanLast : MethodName := ⟨RX1, "isLessThanLast", "(I)Z"⟩
abbrev cX1_addClass : ByteArray := prog_3_method_6_code
def yX1_addClass : MethodName := ⟨RX1, "addClass", "(I)V"⟩
abbrev cX1_addVariety : ByteArray := prog_3_method_7_code
def yX1_addVariety : MethodName := ⟨RX1, "addVariety", "(I)V"⟩
abbrev cX1_varietyNamed : ByteArray := prog_3_method_8_code
def yX1_varietyNamed : MethodName := ⟨RX1, "varietyNamed", "(I)I"⟩
abbrev cX1_gradeOfSugar : ByteArray := prog_3_method_10_code
def yX1_gradeOfSugar : MethodName := ⟨RX1, "gradeOfSugar", "(I)I"⟩
abbrev cX1_centsFor : ByteArray := prog_3_method_11_code
def yX1_centsFor : MethodName := ⟨RX1, "centsFor", "(II)I"⟩
abbrev cX1_putPrice : ByteArray := prog_3_method_12_code
def yX1_putPrice : MethodName := ⟨RX1, "putPrice", "(III)V"⟩
def RX2 : String := "WineCooperative$Cellar"
def TX2 : u_T := fun k => match k with
  | 0 => ("WineCooperative$Cellar", "tanks", "[LWineCooperative$Tank;", true)
  | 1 => ("WineCooperative$Cellar", "lots", "[LWineCooperative$Lot;", true)
  | 2 => ("WineCooperative$Cellar", "tankTotal", "I", false)
  | _ => ("WineCooperative$Cellar", "lotTotal", "I", false)
def tyX2 : Nat → FieldType := fun k => match k with
  | 0 => .array (.object "WineCooperative$Tank")
  | 1 => .array (.object "WineCooperative$Lot")
  | 2 => .int
  | _ => .int
theorem nmX2 : ∀ a, a < 4 → ∀ b, b < 4 → a ≠ b → (TX2 a).2.1 ≠ (TX2 b).2.1 := by decide +kernel
theorem tyX2_ok : ∀ k, k < 4 → parseFieldDescriptor (TX2 k).2.2.1 = some (tyX2 k) := by decide +kernel
abbrev cX2_init : ByteArray := prog_4_method_1_code
def yX2_init : MethodName := ⟨RX2, "<init>", "()V"⟩
abbrev cX2_copyFrom : ByteArray := prog_4_method_2_code
def yX2_copyFrom : MethodName := ⟨RX2, "copyFrom", "(LWineCooperative$Cellar;)V"⟩
abbrev cX2_addTank : ByteArray := prog_4_method_3_code
def yX2_addTank : MethodName := ⟨RX2, "addTank", "(I)V"⟩
abbrev cX2_chooseTank : ByteArray := prog_4_method_4_code
def yX2_chooseTank : MethodName := ⟨RX2, "chooseTank", "(II)I"⟩
abbrev cX2_greatestWeightFor : ByteArray := prog_4_method_5_code
def yX2_greatestWeightFor : MethodName := ⟨RX2, "greatestWeightFor", "(I)I"⟩
abbrev cX2_canFillLot : ByteArray := prog_4_method_6_code
def yX2_canFillLot : MethodName := ⟨RX2, "canFillLot", "(LWineCooperative$Tank;I)Z"⟩
abbrev cX2_fillLot : ByteArray := prog_4_method_7_code
def yX2_fillLot : MethodName := ⟨RX2, "fillLot", "(LWineCooperative$Tank;I)I"⟩
abbrev cX2_sweetestUnsold : ByteArray := prog_4_method_8_code
def yX2_sweetestUnsold : MethodName := ⟨RX2, "sweetestUnsold", "()I"⟩
abbrev cX2_stockOf : ByteArray := prog_4_method_9_code
def yX2_stockOf : MethodName := ⟨RX2, "stockOf", "(I)I"⟩
abbrev cX2_totalContent : ByteArray := prog_4_method_10_code
def yX2_totalContent : MethodName := ⟨RX2, "totalContent", "()I"⟩
abbrev cX2_totalCapacity : ByteArray := prog_4_method_11_code
def yX2_totalCapacity : MethodName := ⟨RX2, "totalCapacity", "()I"⟩
abbrev cX2_totalBottled : ByteArray := prog_4_method_12_code
def yX2_totalBottled : MethodName := ⟨RX2, "totalBottled", "()I"⟩
def RX3 : String := "WineCooperative$Deliveries"
def TX3 : u_T := fun k => match k with
  | 0 => ("WineCooperative$Deliveries", "loads", "[LWineCooperative$Load;", true)
  | _ => ("WineCooperative$Deliveries", "count", "I", false)
def tyX3 : Nat → FieldType := fun k => match k with
  | 0 => .array (.object "WineCooperative$Load")
  | _ => .int
theorem nmX3 : ∀ a, a < 2 → ∀ b, b < 2 → a ≠ b → (TX3 a).2.1 ≠ (TX3 b).2.1 := by decide +kernel
theorem tyX3_ok : ∀ k, k < 2 → parseFieldDescriptor (TX3 k).2.2.1 = some (tyX3 k) := by decide +kernel
abbrev cX3_init : ByteArray := prog_5_method_1_code
def yX3_init : MethodName := ⟨RX3, "<init>", "()V"⟩
abbrev cX3_copyFrom : ByteArray := prog_5_method_2_code
def yX3_copyFrom : MethodName := ⟨RX3, "copyFrom", "(LWineCooperative$Deliveries;)V"⟩
abbrev cX3_isFull : ByteArray := prog_5_method_3_code
def yX3_isFull : MethodName := ⟨RX3, "isFull", "()Z"⟩
abbrev cX3_addLoad : ByteArray := prog_5_method_4_code
def yX3_addLoad : MethodName := ⟨RX3, "addLoad", "()LWineCooperative$Load;"⟩
abbrev cX3_totalWeight : ByteArray := prog_5_method_5_code
def yX3_totalWeight : MethodName := ⟨RX3, "totalWeight", "()I"⟩
abbrev cX3_totalSugar : ByteArray := prog_5_method_6_code
def yX3_totalSugar : MethodName := ⟨RX3, "totalSugar", "()I"⟩
abbrev cX3_totalPayments : ByteArray := prog_5_method_7_code
def yX3_totalPayments : MethodName := ⟨RX3, "totalPayments", "()I"⟩
abbrev cX3_paymentsTo : ByteArray := prog_5_method_8_code
def yX3_paymentsTo : MethodName := ⟨RX3, "paymentsTo", "(I)I"⟩
abbrev cX3_hasUnpaidOf : ByteArray := prog_5_method_9_code
def yX3_hasUnpaidOf : MethodName := ⟨RX3, "hasUnpaidOf", "(I)Z"⟩
abbrev cX3_hasVarietyFrom : ByteArray := prog_5_method_10_code
def yX3_hasVarietyFrom : MethodName := ⟨RX3, "hasVarietyFrom", "(II)Z"⟩
abbrev cX3_weightFromPlot : ByteArray := prog_5_method_11_code
def yX3_weightFromPlot : MethodName := ⟨RX3, "weightFromPlot", "(I)I"⟩
abbrev cX3_weightFromGrower : ByteArray := prog_5_method_12_code
def yX3_weightFromGrower : MethodName := ⟨RX3, "weightFromGrower", "(I)I"⟩
abbrev cX3_weightOfPair : ByteArray := prog_5_method_13_code
def yX3_weightOfPair : MethodName := ⟨RX3, "weightOfPair", "(II)I"⟩
abbrev cX3_isNewPair : ByteArray := prog_5_method_14_code
def yX3_isNewPair : MethodName := ⟨RX3, "isNewPair", "(LWineCooperative$Load;I)Z"⟩
abbrev cX3_countPairs : ByteArray := prog_5_method_15_code
def yX3_countPairs : MethodName := ⟨RX3, "countPairs", "()I"⟩
abbrev cX3_pairAtRank : ByteArray := prog_5_method_16_code
def yX3_pairAtRank : MethodName := ⟨RX3, "pairAtRank", "(I)I"⟩
abbrev cX3_heaviestPair : ByteArray := prog_5_method_17_code
def yX3_heaviestPair : MethodName := ⟨RX3, "heaviestPair", "()I"⟩
def RX4 : String := "WineCooperative$History"
def TX4 : u_T := fun k => match k with
  | 0 => ("WineCooperative$History", "before", "[LWineCooperative$Books;", true)
  | 1 => ("WineCooperative$History", "next", "I", false)
  | _ => ("WineCooperative$History", "count", "I", false)
def tyX4 : Nat → FieldType := fun k => match k with
  | 0 => .array (.object "WineCooperative$Books")
  | 1 => .int
  | _ => .int
theorem nmX4 : ∀ a, a < 3 → ∀ b, b < 3 → a ≠ b → (TX4 a).2.1 ≠ (TX4 b).2.1 := by decide +kernel
theorem tyX4_ok : ∀ k, k < 3 → parseFieldDescriptor (TX4 k).2.2.1 = some (tyX4 k) := by decide +kernel
abbrev cX4_init : ByteArray := prog_6_method_1_code
def yX4_init : MethodName := ⟨RX4, "<init>", "()V"⟩
abbrev cX4_note : ByteArray := prog_6_method_2_code
def yX4_note : MethodName := ⟨RX4, "note", "(LWineCooperative$Books;)V"⟩
abbrev cX4_bringBack : ByteArray := prog_6_method_3_code
def yX4_bringBack : MethodName := ⟨RX4, "bringBack", "(LWineCooperative$Books;)V"⟩
def RX5 : String := "WineCooperative$Land"
def TX5 : u_T := fun k => match k with
  | 0 => ("WineCooperative$Land", "growerName", "[I", true)
  | 1 => ("WineCooperative$Land", "plotOwner", "[I", true)
  | 2 => ("WineCooperative$Land", "plotVariety", "[I", true)
  | 3 => ("WineCooperative$Land", "plotLimit", "[I", true)
  | 4 => ("WineCooperative$Land", "growers", "I", false)
  | _ => ("WineCooperative$Land", "plots", "I", false)
def tyX5 : Nat → FieldType := fun k => match k with
  | 0 => .array .int
  | 1 => .array .int
  | 2 => .array .int
  | 3 => .array .int
  | 4 => .int
  | _ => .int
theorem nmX5 : ∀ a, a < 6 → ∀ b, b < 6 → a ≠ b → (TX5 a).2.1 ≠ (TX5 b).2.1 := by decide +kernel
theorem tyX5_ok : ∀ k, k < 6 → parseFieldDescriptor (TX5 k).2.2.1 = some (tyX5 k) := by decide +kernel
abbrev cX5_init : ByteArray := prog_7_method_1_code
def yX5_init : MethodName := ⟨RX5, "<init>", "()V"⟩
abbrev cX5_copyFrom : ByteArray := prog_7_method_2_code
def yX5_copyFrom : MethodName := ⟨RX5, "copyFrom", "(LWineCooperative$Land;)V"⟩
abbrev cX5_hasPlot : ByteArray := prog_7_method_3_code
def yX5_hasPlot : MethodName := ⟨RX5, "hasPlot", "(I)Z"⟩
abbrev cX5_addGrower : ByteArray := prog_7_method_4_code
def yX5_addGrower : MethodName := ⟨RX5, "addGrower", "(I)V"⟩
abbrev cX5_addPlot : ByteArray := prog_7_method_5_code
def yX5_addPlot : MethodName := ⟨RX5, "addPlot", "(III)V"⟩
abbrev cX5_growerNamed : ByteArray := prog_7_method_6_code
def yX5_growerNamed : MethodName := ⟨RX5, "growerNamed", "(I)I"⟩
abbrev cX5_countPlotsOf : ByteArray := prog_7_method_7_code
def yX5_countPlotsOf : MethodName := ⟨RX5, "countPlotsOf", "(I)I"⟩
abbrev cX5_ownerOf : ByteArray := prog_7_method_8_code
def yX5_ownerOf : MethodName := ⟨RX5, "ownerOf", "(I)I"⟩
abbrev cX5_varietyOn : ByteArray := prog_7_method_9_code
def yX5_varietyOn : MethodName := ⟨RX5, "varietyOn", "(I)I"⟩
abbrev cX5_limitOf : ByteArray := prog_7_method_10_code
def yX5_limitOf : MethodName := ⟨RX5, "limitOf", "(I)I"⟩
def RX6 : String := "WineCooperative$Load"
def TX6 : u_T := fun k => match k with
  | 0 => ("WineCooperative$Load", "plot", "I", false)
  | 1 => ("WineCooperative$Load", "grower", "I", false)
  | 2 => ("WineCooperative$Load", "variety", "I", false)
  | 3 => ("WineCooperative$Load", "weight", "I", false)
  | 4 => ("WineCooperative$Load", "sugar", "I", false)
  | 5 => ("WineCooperative$Load", "grade", "I", false)
  | 6 => ("WineCooperative$Load", "tank", "I", false)
  | 7 => ("WineCooperative$Load", "paid", "Z", false)
  | _ => ("WineCooperative$Load", "paidCents", "I", false)
def tyX6 : Nat → FieldType := fun k => match k with
  | 0 => .int
  | 1 => .int
  | 2 => .int
  | 3 => .int
  | 4 => .int
  | 5 => .int
  | 6 => .int
  | 7 => .boolean
  | _ => .int
theorem nmX6 : ∀ a, a < 9 → ∀ b, b < 9 → a ≠ b → (TX6 a).2.1 ≠ (TX6 b).2.1 := by decide +kernel
theorem tyX6_ok : ∀ k, k < 9 → parseFieldDescriptor (TX6 k).2.2.1 = some (tyX6 k) := by decide +kernel
abbrev cX6_init : ByteArray := prog_8_method_1_code
def yX6_init : MethodName := ⟨RX6, "<init>", "()V"⟩
abbrev cX6_copyFrom : ByteArray := prog_8_method_2_code
def yX6_copyFrom : MethodName := ⟨RX6, "copyFrom", "(LWineCooperative$Load;)V"⟩
abbrev cX6_isUnpaidOf : ByteArray := prog_8_method_3_code
def yX6_isUnpaidOf : MethodName := ⟨RX6, "isUnpaidOf", "(I)Z"⟩
abbrev cX6_isOfPair : ByteArray := prog_8_method_4_code
def yX6_isOfPair : MethodName := ⟨RX6, "isOfPair", "(II)Z"⟩
abbrev cX6_pairCode : ByteArray := prog_8_method_5_code
def yX6_pairCode : MethodName := ⟨RX6, "pairCode", "()I"⟩
def RX7 : String := "WineCooperative$Lot"
def TX7 : u_T := fun k => match k with
  | 0 => ("WineCooperative$Lot", "variety", "I", false)
  | 1 => ("WineCooperative$Lot", "sugar", "I", false)
  | 2 => ("WineCooperative$Lot", "bottles", "I", false)
  | _ => ("WineCooperative$Lot", "unsold", "I", false)
def tyX7 : Nat → FieldType := fun k => match k with
  | 0 => .int
  | 1 => .int
  | 2 => .int
  | _ => .int
theorem nmX7 : ∀ a, a < 4 → ∀ b, b < 4 → a ≠ b → (TX7 a).2.1 ≠ (TX7 b).2.1 := by decide +kernel
theorem tyX7_ok : ∀ k, k < 4 → parseFieldDescriptor (TX7 k).2.2.1 = some (tyX7 k) := by decide +kernel
abbrev cX7_init : ByteArray := prog_9_method_1_code
def yX7_init : MethodName := ⟨RX7, "<init>", "()V"⟩
abbrev cX7_copyFrom : ByteArray := prog_9_method_2_code
def yX7_copyFrom : MethodName := ⟨RX7, "copyFrom", "(LWineCooperative$Lot;)V"⟩
def RX8 : String := "WineCooperative$Setup"
def TX8 : u_T := fun k => match k with
  | 0 => ("WineCooperative$Setup", "tokens", "LWineCooperative$Tokens;", true)
  | 1 => ("WineCooperative$Setup", "draft", "LWineCooperative$Books;", true)
  | 2 => ("WineCooperative$Setup", "kilogramsPerArea", "I", false)
  | 3 => ("WineCooperative$Setup", "code", "I", false)
  | _ => ("WineCooperative$Setup", "offset", "I", false)
def tyX8 : Nat → FieldType := fun k => match k with
  | 0 => .object "WineCooperative$Tokens"
  | 1 => .object "WineCooperative$Books"
  | 2 => .int
  | 3 => .int
  | _ => .int
theorem nmX8 : ∀ a, a < 5 → ∀ b, b < 5 → a ≠ b → (TX8 a).2.1 ≠ (TX8 b).2.1 := by decide +kernel
theorem tyX8_ok : ∀ k, k < 5 → parseFieldDescriptor (TX8 k).2.2.1 = some (tyX8 k) := by decide +kernel
abbrev cX8_init : ByteArray := prog_10_method_1_code
def yX8_init : MethodName := ⟨RX8, "<init>", "()V"⟩
abbrev cX8_readAll : ByteArray := prog_10_method_2_code
def yX8_readAll : MethodName := ⟨RX8, "readAll", "()Z"⟩
abbrev cX8_readCooperative : ByteArray := prog_10_method_3_code
def yX8_readCooperative : MethodName := ⟨RX8, "readCooperative", "()Z"⟩
abbrev cX8_readClasses : ByteArray := prog_10_method_4_code
def yX8_readClasses : MethodName := ⟨RX8, "readClasses", "()Z"⟩
abbrev cX8_readLowestSugar : ByteArray := prog_10_method_5_code
def yX8_readLowestSugar : MethodName := ⟨RX8, "readLowestSugar", "()Z"⟩
abbrev cX8_readStatement : ByteArray := prog_10_method_6_code
def yX8_readStatement : MethodName := ⟨RX8, "readStatement", "()Z"⟩
abbrev cX8_readVariety : ByteArray := prog_10_method_7_code
def yX8_readVariety : MethodName := ⟨RX8, "readVariety", "()Z"⟩
abbrev cX8_readPrice : ByteArray := prog_10_method_8_code
def yX8_readPrice : MethodName := ⟨RX8, "readPrice", "()Z"⟩
abbrev cX8_readGrower : ByteArray := prog_10_method_9_code
def yX8_readGrower : MethodName := ⟨RX8, "readGrower", "()Z"⟩
abbrev cX8_readPlot : ByteArray := prog_10_method_10_code
def yX8_readPlot : MethodName := ⟨RX8, "readPlot", "()Z"⟩
abbrev cX8_readTank : ByteArray := prog_10_method_11_code
def yX8_readTank : MethodName := ⟨RX8, "readTank", "()Z"⟩
abbrev cX8_readLoad : ByteArray := prog_10_method_12_code
def yX8_readLoad : MethodName := ⟨RX8, "readLoad", "()Z"⟩
abbrev cX8_readBottle : ByteArray := prog_10_method_13_code
def yX8_readBottle : MethodName := ⟨RX8, "readBottle", "()Z"⟩
abbrev cX8_readSell : ByteArray := prog_10_method_14_code
def yX8_readSell : MethodName := ⟨RX8, "readSell", "()Z"⟩
abbrev cX8_readPay : ByteArray := prog_10_method_15_code
def yX8_readPay : MethodName := ⟨RX8, "readPay", "()Z"⟩
abbrev cX8_readPump : ByteArray := prog_10_method_16_code
def yX8_readPump : MethodName := ⟨RX8, "readPump", "()Z"⟩
abbrev cX8_isNumberHere : ByteArray := prog_10_method_17_code
def yX8_isNumberHere : MethodName := ⟨RX8, "isNumberHere", "(II)Z"⟩
abbrev cX8_readNumber : ByteArray := prog_10_method_18_code
def yX8_readNumber : MethodName := ⟨RX8, "readNumber", "(II)I"⟩
abbrev cX8_isWordHere : ByteArray := prog_10_method_19_code
def yX8_isWordHere : MethodName := ⟨RX8, "isWordHere", "()Z"⟩
abbrev cX8_readNewName : ByteArray := prog_10_method_20_code
def yX8_readNewName : MethodName := ⟨RX8, "readNewName", "()I"⟩
abbrev cX8_readVarietyName : ByteArray := prog_10_method_21_code
def yX8_readVarietyName : MethodName := ⟨RX8, "readVarietyName", "()I"⟩
abbrev cX8_readGrowerName : ByteArray := prog_10_method_22_code
def yX8_readGrowerName : MethodName := ⟨RX8, "readGrowerName", "()I"⟩
abbrev cX8_isSemicolonHere : ByteArray := prog_10_method_23_code
def yX8_isSemicolonHere : MethodName := ⟨RX8, "isSemicolonHere", "()Z"⟩
abbrev cX8_readSemicolon : ByteArray := prog_10_method_24_code
def yX8_readSemicolon : MethodName := ⟨RX8, "readSemicolon", "()Z"⟩
abbrev cX8_fail : ByteArray := prog_10_method_25_code
def yX8_fail : MethodName := ⟨RX8, "fail", "(I)Z"⟩
def RX9 : String := "WineCooperative$Tank"
def TX9 : u_T := fun k => match k with
  | 0 => ("WineCooperative$Tank", "capacity", "I", false)
  | 1 => ("WineCooperative$Tank", "content", "I", false)
  | 2 => ("WineCooperative$Tank", "variety", "I", false)
  | _ => ("WineCooperative$Tank", "sugarSum", "I", false)
def tyX9 : Nat → FieldType := fun k => match k with
  | 0 => .int
  | 1 => .int
  | 2 => .int
  | _ => .int
theorem nmX9 : ∀ a, a < 4 → ∀ b, b < 4 → a ≠ b → (TX9 a).2.1 ≠ (TX9 b).2.1 := by decide +kernel
theorem tyX9_ok : ∀ k, k < 4 → parseFieldDescriptor (TX9 k).2.2.1 = some (tyX9 k) := by decide +kernel
abbrev cX9_init : ByteArray := prog_11_method_1_code
def yX9_init : MethodName := ⟨RX9, "<init>", "()V"⟩
abbrev cX9_copyFrom : ByteArray := prog_11_method_2_code
def yX9_copyFrom : MethodName := ⟨RX9, "copyFrom", "(LWineCooperative$Tank;)V"⟩
abbrev cX9_makeEmpty : ByteArray := prog_11_method_3_code
def yX9_makeEmpty : MethodName := ⟨RX9, "makeEmpty", "()V"⟩
abbrev cX9_room : ByteArray := prog_11_method_4_code
def yX9_room : MethodName := ⟨RX9, "room", "()I"⟩
abbrev cX9_mean : ByteArray := prog_11_method_5_code
def yX9_mean : MethodName := ⟨RX9, "mean", "()I"⟩
abbrev cX9_holds : ByteArray := prog_11_method_6_code
def yX9_holds : MethodName := ⟨RX9, "holds", "(I)Z"⟩
abbrev cX9_takes : ByteArray := prog_11_method_7_code
def yX9_takes : MethodName := ⟨RX9, "takes", "(I)Z"⟩
abbrev cX9_pour : ByteArray := prog_11_method_8_code
def yX9_pour : MethodName := ⟨RX9, "pour", "(III)V"⟩
abbrev cX9_draw : ByteArray := prog_11_method_9_code
def yX9_draw : MethodName := ⟨RX9, "draw", "(I)V"⟩
abbrev cX9_canMoveTo : ByteArray := prog_11_method_10_code
def yX9_canMoveTo : MethodName := ⟨RX9, "canMoveTo", "(LWineCooperative$Tank;)Z"⟩
abbrev cX9_moveTo : ByteArray := prog_11_method_11_code
def yX9_moveTo : MethodName := ⟨RX9, "moveTo", "(LWineCooperative$Tank;)V"⟩
def RX10 : String := "WineCooperative$Tokens"
def TX10 : u_T := fun k => match k with
  | 0 => ("WineCooperative$Tokens", "text", "[B", true)
  | 1 => ("WineCooperative$Tokens", "length", "I", false)
  | 2 => ("WineCooperative$Tokens", "kind", "I", false)
  | 3 => ("WineCooperative$Tokens", "start", "I", false)
  | 4 => ("WineCooperative$Tokens", "end", "I", false)
  | 5 => ("WineCooperative$Tokens", "number", "I", false)
  | _ => ("WineCooperative$Tokens", "name", "I", false)
def tyX10 : Nat → FieldType := fun k => match k with
  | 0 => .array .byte
  | 1 => .int
  | 2 => .int
  | 3 => .int
  | 4 => .int
  | 5 => .int
  | _ => .int
theorem nmX10 : ∀ a, a < 7 → ∀ b, b < 7 → a ≠ b → (TX10 a).2.1 ≠ (TX10 b).2.1 := by decide +kernel
theorem tyX10_ok : ∀ k, k < 7 → parseFieldDescriptor (TX10 k).2.2.1 = some (tyX10 k) := by decide +kernel
abbrev cX10_init : ByteArray := prog_12_method_1_code
def yX10_init : MethodName := ⟨RX10, "<init>", "()V"⟩
abbrev cX10_hasRoomFor : ByteArray := prog_12_method_2_code
def yX10_hasRoomFor : MethodName := ⟨RX10, "hasRoomFor", "(I)Z"⟩
abbrev cX10_addText : ByteArray := prog_12_method_3_code
def yX10_addText : MethodName := ⟨RX10, "addText", "(Ljava/lang/String;)V"⟩
abbrev cX10_addFour : ByteArray := prog_12_method_4_code
def yX10_addFour : MethodName := ⟨RX10, "addFour", "(I)V"⟩
abbrev cX10_addByte : ByteArray := prog_12_method_5_code
def yX10_addByte : MethodName := ⟨RX10, "addByte", "(I)V"⟩
abbrev cX10_toFirst : ByteArray := prog_12_method_6_code
def yX10_toFirst : MethodName := ⟨RX10, "toFirst", "()V"⟩
abbrev cX10_toNext : ByteArray := prog_12_method_7_code
def yX10_toNext : MethodName := ⟨RX10, "toNext", "()V"⟩
abbrev cX10_isRun : ByteArray := prog_12_method_8_code
def yX10_isRun : MethodName := ⟨RX10, "isRun", "()Z"⟩
abbrev cX10_takeSign : ByteArray := prog_12_method_9_code
def yX10_takeSign : MethodName := ⟨RX10, "takeSign", "(I)V"⟩
abbrev cX10_spells : ByteArray := prog_12_method_10_code
def yX10_spells : MethodName := ⟨RX10, "spells", "(Ljava/lang/String;)Z"⟩
abbrev cX10_signAt : ByteArray := prog_12_method_11_code
def yX10_signAt : MethodName := ⟨RX10, "signAt", "(I)I"⟩
abbrev cX10_kindAt : ByteArray := prog_12_method_12_code
def yX10_kindAt : MethodName := ⟨RX10, "kindAt", "(I)I"⟩
def RX11 : String := "WineCooperative"
def TX11 : u_T := fun k => match k with
  | 0 => ("WineCooperative", "setup", "LWineCooperative$Setup;", true)
  | 1 => ("WineCooperative", "books", "LWineCooperative$Books;", true)
  | 2 => ("WineCooperative", "history", "LWineCooperative$History;", true)
  | 3 => ("WineCooperative", "saved", "[LWineCooperative$Books;", true)
  | 4 => ("WineCooperative", "isSaved", "[Z", true)
  | _ => ("WineCooperative", "output", "Ljava/lang/StringBuilder;", true)
def tyX11 : Nat → FieldType := fun k => match k with
  | 0 => .object "WineCooperative$Setup"
  | 1 => .object "WineCooperative$Books"
  | 2 => .object "WineCooperative$History"
  | 3 => .array (.object "WineCooperative$Books")
  | 4 => .array .boolean
  | _ => .object "java/lang/StringBuilder"
theorem nmX11 : ∀ a, a < 6 → ∀ b, b < 6 → a ≠ b → (TX11 a).2.1 ≠ (TX11 b).2.1 := by decide +kernel
theorem tyX11_ok : ∀ k, k < 6 → parseFieldDescriptor (TX11 k).2.2.1 = some (tyX11 k) := by decide +kernel
abbrev cX11_init : ByteArray := prog_1_method_1_code
def yX11_init : MethodName := ⟨RX11, "<init>", "()V"⟩
abbrev cX11_append : ByteArray := prog_1_method_2_code
def yX11_append : MethodName := ⟨RX11, "append", "(IIIII)I"⟩
abbrev cX11_truncate : ByteArray := prog_1_method_3_code
def yX11_truncate : MethodName := ⟨RX11, "truncate", "(I)I"⟩
abbrev cX11_load : ByteArray := prog_1_method_4_code
def yX11_load : MethodName := ⟨RX11, "load", "()I"⟩
abbrev cX11_errorCode : ByteArray := prog_1_method_5_code
def yX11_errorCode : MethodName := ⟨RX11, "errorCode", "()I"⟩
abbrev cX11_errorOffset : ByteArray := prog_1_method_6_code
def yX11_errorOffset : MethodName := ⟨RX11, "errorOffset", "()I"⟩
abbrev cX11_varietyCount : ByteArray := prog_1_method_7_code
def yX11_varietyCount : MethodName := ⟨RX11, "varietyCount", "()I"⟩
abbrev cX11_classCount : ByteArray := prog_1_method_8_code
def yX11_classCount : MethodName := ⟨RX11, "classCount", "()I"⟩
abbrev cX11_growerCount : ByteArray := prog_1_method_9_code
def yX11_growerCount : MethodName := ⟨RX11, "growerCount", "()I"⟩
abbrev cX11_plotCount : ByteArray := prog_1_method_10_code
def yX11_plotCount : MethodName := ⟨RX11, "plotCount", "()I"⟩
abbrev cX11_loadCount : ByteArray := prog_1_method_11_code
def yX11_loadCount : MethodName := ⟨RX11, "loadCount", "()I"⟩
abbrev cX11_lotCount : ByteArray := prog_1_method_12_code
def yX11_lotCount : MethodName := ⟨RX11, "lotCount", "()I"⟩
abbrev cX11_classBySugar : ByteArray := prog_1_method_13_code
def yX11_classBySugar : MethodName := ⟨RX11, "classBySugar", "(I)I"⟩
abbrev cX11_price : ByteArray := prog_1_method_14_code
def yX11_price : MethodName := ⟨RX11, "price", "(II)I"⟩
abbrev cX11_weightOfClass : ByteArray := prog_1_method_15_code
def yX11_weightOfClass : MethodName := ⟨RX11, "weightOfClass", "(II)I"⟩
abbrev cX11_deliveredClasses : ByteArray := prog_1_method_16_code
def yX11_deliveredClasses : MethodName := ⟨RX11, "deliveredClasses", "()I"⟩
abbrev cX11_classInOrder : ByteArray := prog_1_method_17_code
def yX11_classInOrder : MethodName := ⟨RX11, "classInOrder", "(I)I"⟩
abbrev cX11_greatestClass : ByteArray := prog_1_method_18_code
def yX11_greatestClass : MethodName := ⟨RX11, "greatestClass", "()I"⟩
abbrev cX11_plotsOf : ByteArray := prog_1_method_19_code
def yX11_plotsOf : MethodName := ⟨RX11, "plotsOf", "(I)I"⟩
abbrev cX11_weightOf : ByteArray := prog_1_method_20_code
def yX11_weightOf : MethodName := ⟨RX11, "weightOf", "(I)I"⟩
abbrev cX11_owed : ByteArray := prog_1_method_21_code
def yX11_owed : MethodName := ⟨RX11, "owed", "(I)I"⟩
abbrev cX11_paidTo : ByteArray := prog_1_method_22_code
def yX11_paidTo : MethodName := ⟨RX11, "paidTo", "(I)I"⟩
abbrev cX11_varietiesOf : ByteArray := prog_1_method_23_code
def yX11_varietiesOf : MethodName := ⟨RX11, "varietiesOf", "(I)I"⟩
abbrev cX11_greatestGrower : ByteArray := prog_1_method_24_code
def yX11_greatestGrower : MethodName := ⟨RX11, "greatestGrower", "()I"⟩
abbrev cX11_yieldLimit : ByteArray := prog_1_method_25_code
def yX11_yieldLimit : MethodName := ⟨RX11, "yieldLimit", "(I)I"⟩
abbrev cX11_harvested : ByteArray := prog_1_method_26_code
def yX11_harvested : MethodName := ⟨RX11, "harvested", "(I)I"⟩
abbrev cX11_yieldLeft : ByteArray := prog_1_method_27_code
def yX11_yieldLeft : MethodName := ⟨RX11, "yieldLeft", "(I)I"⟩
abbrev cX11_plotOfLoad : ByteArray := prog_1_method_28_code
def yX11_plotOfLoad : MethodName := ⟨RX11, "plotOfLoad", "(I)I"⟩
abbrev cX11_classOfLoad : ByteArray := prog_1_method_29_code
def yX11_classOfLoad : MethodName := ⟨RX11, "classOfLoad", "(I)I"⟩
abbrev cX11_tankOfLoad : ByteArray := prog_1_method_30_code
def yX11_tankOfLoad : MethodName := ⟨RX11, "tankOfLoad", "(I)I"⟩
abbrev cX11_valueOf : ByteArray := prog_1_method_31_code
def yX11_valueOf : MethodName := ⟨RX11, "valueOf", "(I)I"⟩
abbrev cX11_isPaid : ByteArray := prog_1_method_32_code
def yX11_isPaid : MethodName := ⟨RX11, "isPaid", "(I)Z"⟩
abbrev cX11_isLowered : ByteArray := prog_1_method_33_code
def yX11_isLowered : MethodName := ⟨RX11, "isLowered", "(I)Z"⟩
abbrev cX11_content : ByteArray := prog_1_method_34_code
def yX11_content : MethodName := ⟨RX11, "content", "(I)I"⟩
abbrev cX11_varietyIn : ByteArray := prog_1_method_35_code
def yX11_varietyIn : MethodName := ⟨RX11, "varietyIn", "(I)I"⟩
abbrev cX11_meanSugar : ByteArray := prog_1_method_36_code
def yX11_meanSugar : MethodName := ⟨RX11, "meanSugar", "(I)I"⟩
abbrev cX11_tankFor : ByteArray := prog_1_method_37_code
def yX11_tankFor : MethodName := ⟨RX11, "tankFor", "(II)I"⟩
abbrev cX11_greatestLoad : ByteArray := prog_1_method_38_code
def yX11_greatestLoad : MethodName := ⟨RX11, "greatestLoad", "(I)I"⟩
abbrev cX11_refusal : ByteArray := prog_1_method_39_code
def yX11_refusal : MethodName := ⟨RX11, "refusal", "(III)I"⟩
abbrev cX11_valueIfDelivered : ByteArray := prog_1_method_40_code
def yX11_valueIfDelivered : MethodName := ⟨RX11, "valueIfDelivered", "(III)I"⟩
abbrev cX11_lotVariety : ByteArray := prog_1_method_41_code
def yX11_lotVariety : MethodName := ⟨RX11, "lotVariety", "(I)I"⟩
abbrev cX11_lotSugar : ByteArray := prog_1_method_42_code
def yX11_lotSugar : MethodName := ⟨RX11, "lotSugar", "(I)I"⟩
abbrev cX11_unsold : ByteArray := prog_1_method_43_code
def yX11_unsold : MethodName := ⟨RX11, "unsold", "(I)I"⟩
abbrev cX11_sweetestLot : ByteArray := prog_1_method_44_code
def yX11_sweetestLot : MethodName := ⟨RX11, "sweetestLot", "()I"⟩
abbrev cX11_bottlesOf : ByteArray := prog_1_method_45_code
def yX11_bottlesOf : MethodName := ⟨RX11, "bottlesOf", "(I)I"⟩
abbrev cX11_missingCash : ByteArray := prog_1_method_46_code
def yX11_missingCash : MethodName := ⟨RX11, "missingCash", "()I"⟩
abbrev cX11_cash : ByteArray := prog_1_method_47_code
def yX11_cash : MethodName := ⟨RX11, "cash", "()I"⟩
abbrev cX11_owedToAll : ByteArray := prog_1_method_48_code
def yX11_owedToAll : MethodName := ⟨RX11, "owedToAll", "()I"⟩
abbrev cX11_payableGrowers : ByteArray := prog_1_method_49_code
def yX11_payableGrowers : MethodName := ⟨RX11, "payableGrowers", "()I"⟩
abbrev cX11_bottleDifference : ByteArray := prog_1_method_50_code
def yX11_bottleDifference : MethodName := ⟨RX11, "bottleDifference", "()I"⟩
abbrev cX11_cashDifference : ByteArray := prog_1_method_51_code
def yX11_cashDifference : MethodName := ⟨RX11, "cashDifference", "()I"⟩
abbrev cX11_fullness : ByteArray := prog_1_method_52_code
def yX11_fullness : MethodName := ⟨RX11, "fullness", "()F"⟩
abbrev cX11_averageSugar : ByteArray := prog_1_method_53_code
def yX11_averageSugar : MethodName := ⟨RX11, "averageSugar", "()D"⟩
abbrev cX11_deliver : ByteArray := prog_1_method_54_code
def yX11_deliver : MethodName := ⟨RX11, "deliver", "(III)I"⟩
abbrev cX11_setPrice : ByteArray := prog_1_method_55_code
def yX11_setPrice : MethodName := ⟨RX11, "setPrice", "(III)I"⟩
abbrev cX11_bottle : ByteArray := prog_1_method_56_code
def yX11_bottle : MethodName := ⟨RX11, "bottle", "(II)I"⟩
abbrev cX11_sell : ByteArray := prog_1_method_57_code
def yX11_sell : MethodName := ⟨RX11, "sell", "(III)I"⟩
abbrev cX11_payLoad : ByteArray := prog_1_method_58_code
def yX11_payLoad : MethodName := ⟨RX11, "payLoad", "(I)I"⟩
abbrev cX11_payGrower : ByteArray := prog_1_method_59_code
def yX11_payGrower : MethodName := ⟨RX11, "payGrower", "(I)I"⟩
abbrev cX11_pump : ByteArray := prog_1_method_60_code
def yX11_pump : MethodName := ⟨RX11, "pump", "(II)I"⟩
abbrev cX11_undo : ByteArray := prog_1_method_63_code
def yX11_undo : MethodName := ⟨RX11, "undo", "()I"⟩
abbrev cX11_knownLoad : ByteArray := prog_1_method_67_code
def yX11_knownLoad : MethodName := ⟨RX11, "knownLoad", "(I)LWineCooperative$Load;"⟩
abbrev cX11_knownTank : ByteArray := prog_1_method_68_code
def yX11_knownTank : MethodName := ⟨RX11, "knownTank", "(I)LWineCooperative$Tank;"⟩
abbrev cX11_knownLot : ByteArray := prog_1_method_69_code
def yX11_knownLot : MethodName := ⟨RX11, "knownLot", "(I)LWineCooperative$Lot;"⟩
abbrev cX11_needVariety : ByteArray := prog_1_method_70_code
def yX11_needVariety : MethodName := ⟨RX11, "needVariety", "(I)V"⟩
abbrev cX11_needClass : ByteArray := prog_1_method_71_code
def yX11_needClass : MethodName := ⟨RX11, "needClass", "(I)V"⟩
abbrev cX11_needGrower : ByteArray := prog_1_method_72_code
def yX11_needGrower : MethodName := ⟨RX11, "needGrower", "(I)V"⟩
abbrev cX11_needPlot : ByteArray := prog_1_method_73_code
def yX11_needPlot : MethodName := ⟨RX11, "needPlot", "(I)V"⟩
abbrev cX11_needWeight : ByteArray := prog_1_method_75_code
def yX11_needWeight : MethodName := ⟨RX11, "needWeight", "(I)V"⟩
abbrev cX11_needSugar : ByteArray := prog_1_method_76_code
def yX11_needSugar : MethodName := ⟨RX11, "needSugar", "(I)V"⟩
abbrev cX11_needBottles : ByteArray := prog_1_method_77_code
def yX11_needBottles : MethodName := ⟨RX11, "needBottles", "(I)V"⟩
def RX12 : String := "WineCooperativeModel"
def TX12 : u_T := fun k => match k with
  | _ => ("", "", "", false)
def tyX12 : Nat → FieldType := fun k => match k with
  | _ => .int
theorem nmX12 : ∀ a, a < 0 → ∀ b, b < 0 → a ≠ b → (TX12 a).2.1 ≠ (TX12 b).2.1 := by decide +kernel
theorem tyX12_ok : ∀ k, k < 0 → parseFieldDescriptor (TX12 k).2.2.1 = some (tyX12 k) := by decide +kernel
def RJx145de : String := "java/io/Serializable"
def TJx145de : u_T := fun k => match k with
  | _ => ("", "", "", false)
def tyJx145de : Nat → FieldType := fun k => match k with
  | _ => .int
theorem nmJx145de : ∀ a, a < 0 → ∀ b, b < 0 → a ≠ b → (TJx145de a).2.1 ≠ (TJx145de b).2.1 := by decide +kernel
theorem tyJx145de_ok : ∀ k, k < 0 → parseFieldDescriptor (TJx145de k).2.2.1 = some (tyJx145de k) := by decide +kernel
def RJ5 : String := "java/lang/AbstractStringBuilder"
def TJ5 : u_T := fun k => match k with
  | _ => ("", "", "", false)
def tyJ5 : Nat → FieldType := fun k => match k with
  | _ => .int
theorem nmJ5 : ∀ a, a < 0 → ∀ b, b < 0 → a ≠ b → (TJ5 a).2.1 ≠ (TJ5 b).2.1 := by decide +kernel
theorem tyJ5_ok : ∀ k, k < 0 → parseFieldDescriptor (TJ5 k).2.2.1 = some (tyJ5 k) := by decide +kernel
abbrev cJ5_init_d00df : ByteArray := prog_16_method_2_code
def yJ5_init_d00df : MethodName := ⟨RJ5, "<init>", "(I)V"⟩
abbrev cJ5_init_a7421 : ByteArray := prog_16_method_3_code
def yJ5_init_a7421 : MethodName := ⟨RJ5, "<init>", "(Ljava/lang/String;)V"⟩
abbrev cJ5_length_8abf5 : ByteArray := prog_16_method_6_code
def yJ5_length_8abf5 : MethodName := ⟨RJ5, "length", "()I"⟩
abbrev cJ5_ensureCapacityInternal_d00df : ByteArray := prog_16_method_9_code
def yJ5_ensureCapacityInternal_d00df : MethodName := ⟨RJ5, "ensureCapacityInternal", "(I)V"⟩
abbrev cJ5_newCapacity_0f7a4 : ByteArray := prog_16_method_10_code
def yJ5_newCapacity_0f7a4 : MethodName := ⟨RJ5, "newCapacity", "(I)I"⟩
abbrev cJ5_inflate_da8c8 : ByteArray := prog_16_method_11_code
def yJ5_inflate_da8c8 : MethodName := ⟨RJ5, "inflate", "()V"⟩
abbrev cJ5_append_cf1ce : ByteArray := prog_16_method_22_code
def yJ5_append_cf1ce : MethodName := ⟨RJ5, "append", "(Ljava/lang/String;)Ljava/lang/AbstractStringBuilder;"⟩
abbrev cJ5_appendNull_278bc : ByteArray := prog_16_method_26_code
def yJ5_appendNull_278bc : MethodName := ⟨RJ5, "appendNull", "()Ljava/lang/AbstractStringBuilder;"⟩
abbrev cJ5_append_c97b9 : ByteArray := prog_16_method_32_code
def yJ5_append_c97b9 : MethodName := ⟨RJ5, "append", "(I)Ljava/lang/AbstractStringBuilder;"⟩
abbrev cJ5_getValue_6d5f1 : ByteArray := prog_16_method_64_code
def yJ5_getValue_6d5f1 : MethodName := ⟨RJ5, "getValue", "()[B"⟩
abbrev cJ5_isLatin1_aae02 : ByteArray := prog_16_method_68_code
def yJ5_isLatin1_aae02 : MethodName := ⟨RJ5, "isLatin1", "()Z"⟩
abbrev cJ5_inflateIfNeededFor_a7421 : ByteArray := prog_16_method_71_code
def yJ5_inflateIfNeededFor_a7421 : MethodName := ⟨RJ5, "inflateIfNeededFor", "(Ljava/lang/String;)V"⟩
abbrev cJ5_putStringAt_47b60 : ByteArray := prog_16_method_73_code
def yJ5_putStringAt_47b60 : MethodName := ⟨RJ5, "putStringAt", "(ILjava/lang/String;)V"⟩
def RJx2cfe8 : String := "java/lang/Appendable"
def TJx2cfe8 : u_T := fun k => match k with
  | _ => ("", "", "", false)
def tyJx2cfe8 : Nat → FieldType := fun k => match k with
  | _ => .int
theorem nmJx2cfe8 : ∀ a, a < 0 → ∀ b, b < 0 → a ≠ b → (TJx2cfe8 a).2.1 ≠ (TJx2cfe8 b).2.1 := by decide +kernel
theorem tyJx2cfe8_ok : ∀ k, k < 0 → parseFieldDescriptor (TJx2cfe8 k).2.2.1 = some (tyJx2cfe8 k) := by decide +kernel
def RJx9f9b0 : String := "java/lang/CharSequence"
def TJx9f9b0 : u_T := fun k => match k with
  | _ => ("", "", "", false)
def tyJx9f9b0 : Nat → FieldType := fun k => match k with
  | _ => .int
theorem nmJx9f9b0 : ∀ a, a < 0 → ∀ b, b < 0 → a ≠ b → (TJx9f9b0 a).2.1 ≠ (TJx9f9b0 b).2.1 := by decide +kernel
theorem tyJx9f9b0_ok : ∀ k, k < 0 → parseFieldDescriptor (TJx9f9b0 k).2.2.1 = some (tyJx9f9b0 k) := by decide +kernel
def RJx8e188 : String := "java/lang/Cloneable"
def TJx8e188 : u_T := fun k => match k with
  | _ => ("", "", "", false)
def tyJx8e188 : Nat → FieldType := fun k => match k with
  | _ => .int
theorem nmJx8e188 : ∀ a, a < 0 → ∀ b, b < 0 → a ≠ b → (TJx8e188 a).2.1 ≠ (TJx8e188 b).2.1 := by decide +kernel
theorem tyJx8e188_ok : ∀ k, k < 0 → parseFieldDescriptor (TJx8e188 k).2.2.1 = some (tyJx8e188 k) := by decide +kernel
def RJxb160c : String := "java/lang/Comparable"
def TJxb160c : u_T := fun k => match k with
  | _ => ("", "", "", false)
def tyJxb160c : Nat → FieldType := fun k => match k with
  | _ => .int
theorem nmJxb160c : ∀ a, a < 0 → ∀ b, b < 0 → a ≠ b → (TJxb160c a).2.1 ≠ (TJxb160c b).2.1 := by decide +kernel
theorem tyJxb160c_ok : ∀ k, k < 0 → parseFieldDescriptor (TJxb160c k).2.2.1 = some (tyJxb160c k) := by decide +kernel
def RJ6 : String := "java/lang/Integer"
def TJ6 : u_T := fun k => match k with
  | _ => ("", "", "", false)
def tyJ6 : Nat → FieldType := fun k => match k with
  | _ => .int
theorem nmJ6 : ∀ a, a < 0 → ∀ b, b < 0 → a ≠ b → (TJ6 a).2.1 ≠ (TJ6 b).2.1 := by decide +kernel
theorem tyJ6_ok : ∀ k, k < 0 → parseFieldDescriptor (TJ6 k).2.2.1 = some (tyJ6 k) := by decide +kernel
abbrev cJ6_getChars_ba4f3 : ByteArray := prog_25_method_12_code
def yJ6_getChars_ba4f3 : MethodName := ⟨RJ6, "getChars", "(II[B)I"⟩
abbrev cJ6_stringSize_0f7a4 : ByteArray := prog_25_method_13_code
def yJ6_stringSize_0f7a4 : MethodName := ⟨RJ6, "stringSize", "(I)I"⟩
abbrev cJ6_bitCount_0f7a4 : ByteArray := prog_25_method_49_code
def yJ6_bitCount_0f7a4 : MethodName := ⟨RJ6, "bitCount", "(I)I"⟩
def RJ9 : String := "java/lang/Math"
def TJ9 : u_T := fun k => match k with
  | _ => ("", "", "", false)
def tyJ9 : Nat → FieldType := fun k => match k with
  | _ => .int
theorem nmJ9 : ∀ a, a < 0 → ∀ b, b < 0 → a ≠ b → (TJ9 a).2.1 ≠ (TJ9 b).2.1 := by decide +kernel
theorem tyJ9_ok : ∀ k, k < 0 → parseFieldDescriptor (TJ9 k).2.2.1 = some (tyJ9 k) := by decide +kernel
abbrev cJ9_max_7cf53 : ByteArray := prog_26_method_65_code
def yJ9_max_7cf53 : MethodName := ⟨RJ9, "max", "(II)I"⟩
abbrev cJ9_min_7cf53 : ByteArray := prog_26_method_69_code
def yJ9_min_7cf53 : MethodName := ⟨RJ9, "min", "(II)I"⟩
def RJxd2413 : String := "java/lang/Number"
def TJxd2413 : u_T := fun k => match k with
  | _ => ("", "", "", false)
def tyJxd2413 : Nat → FieldType := fun k => match k with
  | _ => .int
theorem nmJxd2413 : ∀ a, a < 0 → ∀ b, b < 0 → a ≠ b → (TJxd2413 a).2.1 ≠ (TJxd2413 b).2.1 := by decide +kernel
theorem tyJxd2413_ok : ∀ k, k < 0 → parseFieldDescriptor (TJxd2413 k).2.2.1 = some (tyJxd2413 k) := by decide +kernel
def RJ0 : String := "java/lang/String"
def TJ0 : u_T := fun k => match k with
  | 0 => ("java/lang/String", "value", "[B", true)
  | 1 => ("java/lang/String", "coder", "B", true)
  | 2 => ("java/lang/String", "hash", "I", false)
  | _ => ("java/lang/String", "hashIsZero", "Z", false)
def tyJ0 : Nat → FieldType := fun k => match k with
  | 0 => .array .byte
  | 1 => .byte
  | 2 => .int
  | _ => .boolean
theorem nmJ0 : ∀ a, a < 4 → ∀ b, b < 4 → a ≠ b → (TJ0 a).2.1 ≠ (TJ0 b).2.1 := by decide +kernel
theorem tyJ0_ok : ∀ k, k < 4 → parseFieldDescriptor (TJ0 k).2.2.1 = some (tyJ0 k) := by decide +kernel
abbrev cJ0_init_81219 : ByteArray := prog_29_method_53_code
def yJ0_init_81219 : MethodName := ⟨RJ0, "<init>", "(Ljava/lang/StringBuilder;)V"⟩
abbrev cJ0_length_8abf5 : ByteArray := prog_29_method_54_code
def yJ0_length_8abf5 : MethodName := ⟨RJ0, "length", "()I"⟩
abbrev cJ0_charAt_5068e : ByteArray := prog_29_method_56_code
def yJ0_charAt_5068e : MethodName := ⟨RJ0, "charAt", "(I)C"⟩
abbrev cJ0_getBytes_840e7 : ByteArray := prog_29_method_147_code
def yJ0_getBytes_840e7 : MethodName := ⟨RJ0, "getBytes", "([BIB)V"⟩
abbrev cJ0_init_db425 : ByteArray := prog_29_method_150_code
def yJ0_init_db425 : MethodName := ⟨RJ0, "<init>", "(Ljava/lang/AbstractStringBuilder;Ljava/lang/Void;)V"⟩
abbrev cJ0_coder_7d493 : ByteArray := prog_29_method_152_code
def yJ0_coder_7d493 : MethodName := ⟨RJ0, "coder", "()B"⟩
abbrev cJ0_isLatin1_aae02 : ByteArray := prog_29_method_154_code
def yJ0_isLatin1_aae02 : MethodName := ⟨RJ0, "isLatin1", "()Z"⟩
abbrev cJ0_checkIndex_df160 : ByteArray := prog_29_method_155_code
def yJ0_checkIndex_df160 : MethodName := ⟨RJ0, "checkIndex", "(II)V"⟩
abbrev cJ0_checkBoundsOffCount_cabcc : ByteArray := prog_29_method_157_code
def yJ0_checkBoundsOffCount_cabcc : MethodName := ⟨RJ0, "checkBoundsOffCount", "(III)I"⟩
abbrev cJ0_checkBoundsBeginEnd_23922 : ByteArray := prog_29_method_158_code
def yJ0_checkBoundsBeginEnd_23922 : MethodName := ⟨RJ0, "checkBoundsBeginEnd", "(III)V"⟩
def RJ4 : String := "java/lang/StringBuilder"
def TJ4 : u_T := fun k => match k with
  | 0 => ("java/lang/AbstractStringBuilder", "value", "[B", false)
  | 1 => ("java/lang/AbstractStringBuilder", "coder", "B", false)
  | 2 => ("java/lang/AbstractStringBuilder", "maybeLatin1", "Z", false)
  | _ => ("java/lang/AbstractStringBuilder", "count", "I", false)
def tyJ4 : Nat → FieldType := fun k => match k with
  | 0 => .array .byte
  | 1 => .byte
  | 2 => .boolean
  | _ => .int
theorem nmJ4 : ∀ a, a < 4 → ∀ b, b < 4 → a ≠ b → (TJ4 a).2.1 ≠ (TJ4 b).2.1 := by decide +kernel
theorem tyJ4_ok : ∀ k, k < 4 → parseFieldDescriptor (TJ4 k).2.2.1 = some (tyJ4 k) := by decide +kernel
abbrev cJ4_init_da8c8 : ByteArray := prog_30_method_1_code
def yJ4_init_da8c8 : MethodName := ⟨RJ4, "<init>", "()V"⟩
abbrev cJ4_init_a7421 : ByteArray := prog_30_method_3_code
def yJ4_init_a7421 : MethodName := ⟨RJ4, "<init>", "(Ljava/lang/String;)V"⟩
abbrev cJ4_append_15ec4 : ByteArray := prog_30_method_7_code
def yJ4_append_15ec4 : MethodName := ⟨RJ4, "append", "(Ljava/lang/String;)Ljava/lang/StringBuilder;"⟩
abbrev cJ4_append_bf812 : ByteArray := prog_30_method_15_code
def yJ4_append_bf812 : MethodName := ⟨RJ4, "append", "(I)Ljava/lang/StringBuilder;"⟩
abbrev cJ4_toString_0e30d : ByteArray := prog_30_method_42_code
def yJ4_toString_0e30d : MethodName := ⟨RJ4, "toString", "()Ljava/lang/String;"⟩
abbrev cJ4_append_cf1ce : ByteArray := prog_30_method_80_code
def yJ4_append_cf1ce : MethodName := ⟨RJ4, "append", "(Ljava/lang/String;)Ljava/lang/AbstractStringBuilder;"⟩
abbrev cJ4_length_8abf5 : ByteArray := prog_30_method_93_code
def yJ4_length_8abf5 : MethodName := ⟨RJ4, "length", "()I"⟩
def RJ1 : String := "java/lang/StringLatin1"
def TJ1 : u_T := fun k => match k with
  | _ => ("", "", "", false)
def tyJ1 : Nat → FieldType := fun k => match k with
  | _ => .int
theorem nmJ1 : ∀ a, a < 0 → ∀ b, b < 0 → a ≠ b → (TJ1 a).2.1 ≠ (TJ1 b).2.1 := by decide +kernel
theorem tyJ1_ok : ∀ k, k < 0 → parseFieldDescriptor (TJ1 k).2.2.1 = some (tyJ1 k) := by decide +kernel
abbrev cJ1_charAt_3b067 : ByteArray := prog_31_method_2_code
def yJ1_charAt_3b067 : MethodName := ⟨RJ1, "charAt", "([BI)C"⟩
abbrev cJ1_inflate_0e8fd : ByteArray := prog_31_method_50_code
def yJ1_inflate_0e8fd : MethodName := ⟨RJ1, "inflate", "([BI[BII)V"⟩
def RJ2 : String := "java/lang/StringUTF16"
def TJ2 : u_T := fun k => match k with
  | _ => ("", "", "", false)
def tyJ2 : Nat → FieldType := fun k => match k with
  | _ => .int
theorem nmJ2 : ∀ a, a < 0 → ∀ b, b < 0 → a ≠ b → (TJ2 a).2.1 ≠ (TJ2 b).2.1 := by decide +kernel
theorem tyJ2_ok : ∀ k, k < 0 → parseFieldDescriptor (TJ2 k).2.2.1 = some (tyJ2 k) := by decide +kernel
abbrev cJ2_newBytesFor_77867 : ByteArray := prog_32_method_2_code
def yJ2_newBytesFor_77867 : MethodName := ⟨RJ2, "newBytesFor", "(I)[B"⟩
abbrev cJ2_newBytesLength_0f7a4 : ByteArray := prog_32_method_3_code
def yJ2_newBytesLength_0f7a4 : MethodName := ⟨RJ2, "newBytesLength", "(I)I"⟩
abbrev cJ2_putChar_b72d1 : ByteArray := prog_32_method_4_code
def yJ2_putChar_b72d1 : MethodName := ⟨RJ2, "putChar", "([BII)V"⟩
abbrev cJ2_getChar_3b067 : ByteArray := prog_32_method_5_code
def yJ2_getChar_3b067 : MethodName := ⟨RJ2, "getChar", "([BI)C"⟩
abbrev cJ2_length_9d52b : ByteArray := prog_32_method_6_code
def yJ2_length_9d52b : MethodName := ⟨RJ2, "length", "([B)I"⟩
abbrev cJ2_coderFromArrayLen_85cad : ByteArray := prog_32_method_15_code
def yJ2_coderFromArrayLen_85cad : MethodName := ⟨RJ2, "coderFromArrayLen", "([BI)B"⟩
abbrev cJ2_compress_39247 : ByteArray := prog_32_method_17_code
def yJ2_compress_39247 : MethodName := ⟨RJ2, "compress", "([BII)[B"⟩
abbrev cJ2_compress_5af95 : ByteArray := prog_32_method_22_code
def yJ2_compress_5af95 : MethodName := ⟨RJ2, "compress", "([BI[BII)I"⟩
abbrev cJ2_getChars_46870 : ByteArray := prog_32_method_77_code
def yJ2_getChars_46870 : MethodName := ⟨RJ2, "getChars", "(III[B)I"⟩
abbrev cJ2_putCharsAt_cd4e5 : ByteArray := prog_32_method_81_code
def yJ2_putCharsAt_cd4e5 : MethodName := ⟨RJ2, "putCharsAt", "([BICCCC)I"⟩
abbrev cJ2_charAt_3b067 : ByteArray := prog_32_method_83_code
def yJ2_charAt_3b067 : MethodName := ⟨RJ2, "charAt", "([BI)C"⟩
abbrev cJ2_inflate_0e8fd : ByteArray := prog_32_method_86_code
def yJ2_inflate_0e8fd : MethodName := ⟨RJ2, "inflate", "([BI[BII)V"⟩
abbrev cJ2_getChars_ba4f3 : ByteArray := prog_32_method_89_code
def yJ2_getChars_ba4f3 : MethodName := ⟨RJ2, "getChars", "(II[B)I"⟩
abbrev cJ2_checkIndex_2214a : ByteArray := prog_32_method_91_code
def yJ2_checkIndex_2214a : MethodName := ⟨RJ2, "checkIndex", "(I[B)V"⟩
abbrev cJ2_checkBoundsBeginEnd_d044e : ByteArray := prog_32_method_93_code
def yJ2_checkBoundsBeginEnd_d044e : MethodName := ⟨RJ2, "checkBoundsBeginEnd", "(II[B)V"⟩
abbrev cJ2_checkBoundsOffCount_d044e : ByteArray := prog_32_method_94_code
def yJ2_checkBoundsOffCount_d044e : MethodName := ⟨RJ2, "checkBoundsOffCount", "(II[B)V"⟩
def RJ10 : String := "java/lang/System"
def TJ10 : u_T := fun k => match k with
  | _ => ("", "", "", false)
def tyJ10 : Nat → FieldType := fun k => match k with
  | _ => .int
theorem nmJ10 : ∀ a, a < 0 → ∀ b, b < 0 → a ≠ b → (TJ10 a).2.1 ≠ (TJ10 b).2.1 := by decide +kernel
theorem tyJ10_ok : ∀ k, k < 0 → parseFieldDescriptor (TJ10 k).2.2.1 = some (tyJ10 k) := by decide +kernel
def RJxfd54e : String := "java/lang/constant/Constable"
def TJxfd54e : u_T := fun k => match k with
  | _ => ("", "", "", false)
def tyJxfd54e : Nat → FieldType := fun k => match k with
  | _ => .int
theorem nmJxfd54e : ∀ a, a < 0 → ∀ b, b < 0 → a ≠ b → (TJxfd54e a).2.1 ≠ (TJxfd54e b).2.1 := by decide +kernel
theorem tyJxfd54e_ok : ∀ k, k < 0 → parseFieldDescriptor (TJxfd54e k).2.2.1 = some (tyJxfd54e k) := by decide +kernel
def RJx3cf43 : String := "java/lang/constant/ConstantDesc"
def TJx3cf43 : u_T := fun k => match k with
  | _ => ("", "", "", false)
def tyJx3cf43 : Nat → FieldType := fun k => match k with
  | _ => .int
theorem nmJx3cf43 : ∀ a, a < 0 → ∀ b, b < 0 → a ≠ b → (TJx3cf43 a).2.1 ≠ (TJx3cf43 b).2.1 := by decide +kernel
theorem tyJx3cf43_ok : ∀ k, k < 0 → parseFieldDescriptor (TJx3cf43 k).2.2.1 = some (tyJx3cf43 k) := by decide +kernel
def RJ7 : String := "java/util/Arrays"
def TJ7 : u_T := fun k => match k with
  | _ => ("", "", "", false)
def tyJ7 : Nat → FieldType := fun k => match k with
  | _ => .int
theorem nmJ7 : ∀ a, a < 0 → ∀ b, b < 0 → a ≠ b → (TJ7 a).2.1 ≠ (TJ7 b).2.1 := by decide +kernel
theorem tyJ7_ok : ∀ k, k < 0 → parseFieldDescriptor (TJ7 k).2.2.1 = some (tyJ7 k) := by decide +kernel
abbrev cJ7_copyOf_9075b : ByteArray := prog_37_method_121_code
def yJ7_copyOf_9075b : MethodName := ⟨RJ7, "copyOf", "([BI)[B"⟩
abbrev cJ7_checkLength_df160 : ByteArray := prog_37_method_131_code
def yJ7_checkLength_df160 : MethodName := ⟨RJ7, "checkLength", "(II)V"⟩
abbrev cJ7_copyOfRange_39247 : ByteArray := prog_37_method_132_code
def yJ7_copyOfRange_39247 : MethodName := ⟨RJ7, "copyOfRange", "([BII)[B"⟩
abbrev cJ7_copyOfRangeByte_39247 : ByteArray := prog_37_method_133_code
def yJ7_copyOfRangeByte_39247 : MethodName := ⟨RJ7, "copyOfRangeByte", "([BII)[B"⟩
def RJ8 : String := "jdk/internal/util/ArraysSupport"
def TJ8 : u_T := fun k => match k with
  | _ => ("", "", "", false)
def tyJ8 : Nat → FieldType := fun k => match k with
  | _ => .int
theorem nmJ8 : ∀ a, a < 0 → ∀ b, b < 0 → a ≠ b → (TJ8 a).2.1 ≠ (TJ8 b).2.1 := by decide +kernel
theorem tyJ8_ok : ∀ k, k < 0 → parseFieldDescriptor (TJ8 k).2.2.1 = some (tyJ8 k) := by decide +kernel
abbrev cJ8_newLength_cabcc : ByteArray := prog_39_method_27_code
def yJ8_newLength_cabcc : MethodName := ⟨RJ8, "newLength", "(III)I"⟩
abbrev cJ8_hugeLength_7cf53 : ByteArray := prog_39_method_28_code
def yJ8_hugeLength_7cf53 : MethodName := ⟨RJ8, "hugeLength", "(II)I"⟩
def RJ3 : String := "jdk/internal/util/Preconditions"
def TJ3 : u_T := fun k => match k with
  | _ => ("", "", "", false)
def tyJ3 : Nat → FieldType := fun k => match k with
  | _ => .int
theorem nmJ3 : ∀ a, a < 0 → ∀ b, b < 0 → a ≠ b → (TJ3 a).2.1 ≠ (TJ3 b).2.1 := by decide +kernel
theorem tyJ3_ok : ∀ k, k < 0 → parseFieldDescriptor (TJ3 k).2.2.1 = some (tyJ3 k) := by decide +kernel
abbrev cJ3_checkIndex_8e157 : ByteArray := prog_40_method_11_code
def yJ3_checkIndex_8e157 : MethodName := ⟨RJ3, "checkIndex", "(IILjava/util/function/BiFunction;)I"⟩
abbrev cJ3_checkFromToIndex_8c36e : ByteArray := prog_40_method_12_code
def yJ3_checkFromToIndex_8c36e : MethodName := ⟨RJ3, "checkFromToIndex", "(IIILjava/util/function/BiFunction;)I"⟩
abbrev cJ3_checkFromIndexSize_8c36e : ByteArray := prog_40_method_13_code
def yJ3_checkFromIndexSize_8c36e : MethodName := ⟨RJ3, "checkFromIndexSize", "(IIILjava/util/function/BiFunction;)I"⟩
def RL : String := "WineCooperativeLaw"
abbrev cL_draw : ByteArray := method_2_code
def yL_draw : MethodName := ⟨RL, "draw", "([III)I"⟩
abbrev cL_four : ByteArray := method_3_code
def yL_four : MethodName := ⟨RL, "four", "(Ljava/lang/String;I)I"⟩
abbrev cL_feed : ByteArray := method_4_code
def yL_feed : MethodName := ⟨RL, "feed", "(LWineCooperative;Ljava/lang/String;)V"⟩
abbrev cL_yields : ByteArray := method_5_code
def yL_yields : MethodName := ⟨RL, "yields", "([I)I"⟩
abbrev cL_money : ByteArray := method_6_code
def yL_money : MethodName := ⟨RL, "money", "([I)I"⟩
abbrev cL_grades : ByteArray := method_7_code
def yL_grades : MethodName := ⟨RL, "grades", "([I)I"⟩
abbrev cL_lowest : ByteArray := method_8_code
def yL_lowest : MethodName := ⟨RL, "lowest", "([II)I"⟩
abbrev cL_wines : ByteArray := method_9_code
def yL_wines : MethodName := ⟨RL, "wines", "([I)I"⟩
abbrev cL_growers : ByteArray := method_10_code
def yL_growers : MethodName := ⟨RL, "growers", "([I)I"⟩
abbrev cL_plots : ByteArray := method_11_code
def yL_plots : MethodName := ⟨RL, "plots", "([I)I"⟩
abbrev cL_cents : ByteArray := method_12_code
def yL_cents : MethodName := ⟨RL, "cents", "([III)I"⟩
abbrev cL_owner : ByteArray := method_13_code
def yL_owner : MethodName := ⟨RL, "owner", "([II)I"⟩
abbrev cL_wine : ByteArray := method_14_code
def yL_wine : MethodName := ⟨RL, "wine", "([II)I"⟩
abbrev cL_area : ByteArray := method_15_code
def yL_area : MethodName := ⟨RL, "area", "([II)I"⟩
abbrev cL_tanks : ByteArray := method_16_code
def yL_tanks : MethodName := ⟨RL, "tanks", "([I)I"⟩
abbrev cL_capacity : ByteArray := method_17_code
def yL_capacity : MethodName := ⟨RL, "capacity", "([II)I"⟩
abbrev cL_grade : ByteArray := method_18_code
def yL_grade : MethodName := ⟨RL, "grade", "([II)I"⟩
abbrev cL_load : ByteArray := method_19_code
def yL_load : MethodName := ⟨RL, "load", "(LWineCooperative;[I)Z"⟩
abbrev cL_all : ByteArray := method_20_code
def yL_all : MethodName := ⟨RL, "all", "(LWineCooperative;I)J"⟩
abbrev cL_delivered : ByteArray := method_21_code
def yL_delivered : MethodName := ⟨RL, "delivered", "(LWineCooperative;III)I"⟩
abbrev cL_bottled : ByteArray := method_22_code
def yL_bottled : MethodName := ⟨RL, "bottled", "(LWineCooperative;II)I"⟩
abbrev cL_sold : ByteArray := method_23_code
def yL_sold : MethodName := ⟨RL, "sold", "(LWineCooperative;III)I"⟩
abbrev cL_paid : ByteArray := method_24_code
def yL_paid : MethodName := ⟨RL, "paid", "(LWineCooperative;I)I"⟩
abbrev cL_settled : ByteArray := method_25_code
def yL_settled : MethodName := ⟨RL, "settled", "(LWineCooperative;I)I"⟩
abbrev cL_pumped : ByteArray := method_26_code
def yL_pumped : MethodName := ⟨RL, "pumped", "(LWineCooperative;II)I"⟩
abbrev cL_weight : ByteArray := method_27_code
def yL_weight : MethodName := ⟨RL, "weight", "([II)I"⟩
abbrev cL_sugar : ByteArray := method_28_code
def yL_sugar : MethodName := ⟨RL, "sugar", "([II)I"⟩
abbrev cL_act : ByteArray := method_29_code
def yL_act : MethodName := ⟨RL, "act", "(LWineCooperative;[II)I"⟩
abbrev cL_holds : ByteArray := method_30_code
def yL_holds : MethodName := ⟨RL, "holds", "(LWineCooperative;[I[I[I)Z"⟩
abbrev cL_tank : ByteArray := method_31_code
def yL_tank : MethodName := ⟨RL, "tank", "(LWineCooperative;[III)I"⟩
abbrev cL_cellar : ByteArray := method_32_code
def yL_cellar : MethodName := ⟨RL, "cellar", "(LWineCooperative;[I)Z"⟩
abbrev cL_law : ByteArray := code
def yL_law : MethodName := ⟨RL, "law", "([I)Z"⟩
