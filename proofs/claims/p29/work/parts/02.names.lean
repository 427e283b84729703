/-! ===== BEGIN printed: names, fields, word lists, decode rows ===== -/
def RX0 : String := "RestrictedFunds$Commitment"
def TX0 : u_T := fun k => match k with
  | 0 => ("RestrictedFunds$Pot", "money", "I", false)
  | 1 => ("RestrictedFunds$Commitment", "fund", "LRestrictedFunds$Fund;", true)
  | 2 => ("RestrictedFunds$Commitment", "category", "I", true)
  | _ => ("RestrictedFunds$Commitment", "until", "I", true)
def tyX0 : Nat → FieldType := fun k => match k with
  | 0 => .int
  | 1 => .object "RestrictedFunds$Fund"
  | 2 => .int
  | _ => .int
abbrev wsX00 : List Cond := u_ws RX0 TX0 4
theorem nmX0 : ∀ a, a < 4 → ∀ b, b < 4 → a ≠ b → (TX0 a).2.1 ≠ (TX0 b).2.1 := by decide +kernel
theorem tyX0_ok : ∀ k, k < 4 → parseFieldDescriptor (TX0 k).2.2.1 = some (tyX0 k) := by decide +kernel
abbrev cX0_init : ByteArray := prog_2_method_1_code
def yX0_init : MethodName := ⟨RX0, "<init>", "(LRestrictedFunds$Fund;III)V"⟩
abbrev cX0_owner : ByteArray := prog_2_method_2_code
def yX0_owner : MethodName := ⟨RX0, "owner", "()LRestrictedFunds$Fund;"⟩
abbrev cX0_expiry : ByteArray := prog_2_method_3_code
def yX0_expiry : MethodName := ⟨RX0, "expiry", "()I"⟩
abbrev cX0_mayPay : ByteArray := prog_2_method_4_code
def yX0_mayPay : MethodName := ⟨RX0, "mayPay", "(LRestrictedFunds$Cost;)Z"⟩
def RX1 : String := "RestrictedFunds$Cost"
def TX1 : u_T := fun k => match k with
  | 0 => ("RestrictedFunds$Cost", "category", "I", true)
  | 1 => ("RestrictedFunds$Cost", "day", "I", true)
  | 2 => ("RestrictedFunds$Cost", "unpaid", "I", false)
  | _ => ("RestrictedFunds$Cost", "shares", "[I", true)
def tyX1 : Nat → FieldType := fun k => match k with
  | 0 => .int
  | 1 => .int
  | 2 => .int
  | _ => .array .int
abbrev wsX10 : List Cond := u_ws RX1 TX1 4
theorem nmX1 : ∀ a, a < 4 → ∀ b, b < 4 → a ≠ b → (TX1 a).2.1 ≠ (TX1 b).2.1 := by decide +kernel
theorem tyX1_ok : ∀ k, k < 4 → parseFieldDescriptor (TX1 k).2.2.1 = some (tyX1 k) := by decide +kernel
abbrev cX1_init : ByteArray := prog_3_method_1_code
def yX1_init : MethodName := ⟨RX1, "<init>", "(III)V"⟩
abbrev cX1_shareOf : ByteArray := prog_3_method_2_code
def yX1_shareOf : MethodName := ⟨RX1, "shareOf", "(LRestrictedFunds$Fund;)I"⟩
abbrev cX1_pay : ByteArray := prog_3_method_3_code
def yX1_pay : MethodName := ⟨RX1, "pay", "(LRestrictedFunds$Fund;I)V"⟩
def RX2 : String := "RestrictedFunds$Fund"
def TX2 : u_T := fun k => match k with
  | 0 => ("RestrictedFunds$Pot", "money", "I", false)
  | 1 => ("RestrictedFunds$Fund", "number", "I", true)
  | 2 => ("RestrictedFunds$Fund", "allowed", "I", true)
  | 3 => ("RestrictedFunds$Fund", "lastDay", "I", true)
  | 4 => ("RestrictedFunds$Fund", "ceiling", "I", true)
  | 5 => ("RestrictedFunds$Fund", "direct", "I", false)
  | _ => ("RestrictedFunds$Fund", "overhead", "I", false)
def tyX2 : Nat → FieldType := fun k => match k with
  | 0 => .int
  | 1 => .int
  | 2 => .int
  | 3 => .int
  | 4 => .int
  | 5 => .int
  | _ => .int
abbrev wsX20 : List Cond := u_ws RX2 TX2 7
theorem nmX2 : ∀ a, a < 7 → ∀ b, b < 7 → a ≠ b → (TX2 a).2.1 ≠ (TX2 b).2.1 := by decide +kernel
theorem tyX2_ok : ∀ k, k < 7 → parseFieldDescriptor (TX2 k).2.2.1 = some (tyX2 k) := by decide +kernel
abbrev cX2_init : ByteArray := prog_4_method_1_code
def yX2_init : MethodName := ⟨RX2, "<init>", "(IIIII)V"⟩
abbrev cX2_owner : ByteArray := prog_4_method_2_code
def yX2_owner : MethodName := ⟨RX2, "owner", "()LRestrictedFunds$Fund;"⟩
abbrev cX2_expiry : ByteArray := prog_4_method_3_code
def yX2_expiry : MethodName := ⟨RX2, "expiry", "()I"⟩
abbrev cX2_mayPay : ByteArray := prog_4_method_4_code
def yX2_mayPay : MethodName := ⟨RX2, "mayPay", "(LRestrictedFunds$Cost;)Z"⟩
abbrev cX2_allows : ByteArray := prog_4_method_5_code
def yX2_allows : MethodName := ⟨RX2, "allows", "(I)Z"⟩
abbrev cX2_suits : ByteArray := prog_4_method_6_code
def yX2_suits : MethodName := ⟨RX2, "suits", "(LRestrictedFunds$Cost;)Z"⟩
abbrev cX2_room : ByteArray := prog_4_method_7_code
def yX2_room : MethodName := ⟨RX2, "room", "()I"⟩
abbrev cX2_takeOverhead : ByteArray := prog_4_method_8_code
def yX2_takeOverhead : MethodName := ⟨RX2, "takeOverhead", "(I)V"⟩
def RX3 : String := "RestrictedFunds$Plan"
def TX3 : u_T := fun k => match k with
  | 0 => ("RestrictedFunds$Plan", "pots", "I", false)
  | 1 => ("RestrictedFunds$Plan", "costs", "I", false)
  | 2 => ("RestrictedFunds$Plan", "potLeft", "[I", true)
  | 3 => ("RestrictedFunds$Plan", "costLeft", "[I", true)
  | 4 => ("RestrictedFunds$Plan", "planned", "[I", true)
  | 5 => ("RestrictedFunds$Plan", "shares", "[[I", true)
  | 6 => ("RestrictedFunds$Plan", "reach", "[I", true)
  | 7 => ("RestrictedFunds$Plan", "paying", "[I", true)
  | 8 => ("RestrictedFunds$Plan", "queue", "[I", true)
  | 9 => ("RestrictedFunds$Plan", "ahead", "[I", true)
  | _ => ("RestrictedFunds$Plan", "via", "[I", true)
def tyX3 : Nat → FieldType := fun k => match k with
  | 0 => .int
  | 1 => .int
  | 2 => .array .int
  | 3 => .array .int
  | 4 => .array .int
  | 5 => .array (.array .int)
  | 6 => .array .int
  | 7 => .array .int
  | 8 => .array .int
  | 9 => .array .int
  | _ => .array .int
abbrev wsX30 : List Cond := u_ws RX3 TX3 11
theorem nmX3 : ∀ a, a < 11 → ∀ b, b < 11 → a ≠ b → (TX3 a).2.1 ≠ (TX3 b).2.1 := by decide +kernel
theorem tyX3_ok : ∀ k, k < 11 → parseFieldDescriptor (TX3 k).2.2.1 = some (tyX3 k) := by decide +kernel
abbrev cX3_init : ByteArray := prog_5_method_1_code
def yX3_init : MethodName := ⟨RX3, "<init>", "()V"⟩
abbrev cX3_begin : ByteArray := prog_5_method_2_code
def yX3_begin : MethodName := ⟨RX3, "begin", "(II)V"⟩
abbrev cX3_setCost : ByteArray := prog_5_method_3_code
def yX3_setCost : MethodName := ⟨RX3, "setCost", "(II)V"⟩
abbrev cX3_setPot : ByteArray := prog_5_method_4_code
def yX3_setPot : MethodName := ⟨RX3, "setPot", "(III)V"⟩
abbrev cX3_leftOfCost : ByteArray := prog_5_method_5_code
def yX3_leftOfCost : MethodName := ⟨RX3, "leftOfCost", "(I)I"⟩
abbrev cX3_leftOfPot : ByteArray := prog_5_method_6_code
def yX3_leftOfPot : MethodName := ⟨RX3, "leftOfPot", "(I)I"⟩
abbrev cX3_share : ByteArray := prog_5_method_7_code
def yX3_share : MethodName := ⟨RX3, "share", "(II)I"⟩
abbrev cX3_paidInAll : ByteArray := prog_5_method_8_code
def yX3_paidInAll : MethodName := ⟨RX3, "paidInAll", "()I"⟩
abbrev cX3_payCosts : ByteArray := prog_5_method_9_code
def yX3_payCosts : MethodName := ⟨RX3, "payCosts", "()V"⟩
abbrev cX3_drawOnPots : ByteArray := prog_5_method_10_code
def yX3_drawOnPots : MethodName := ⟨RX3, "drawOnPots", "()V"⟩
abbrev cX3_spreadCosts : ByteArray := prog_5_method_11_code
def yX3_spreadCosts : MethodName := ⟨RX3, "spreadCosts", "()V"⟩
abbrev cX3_payMoreOf : ByteArray := prog_5_method_12_code
def yX3_payMoreOf : MethodName := ⟨RX3, "payMoreOf", "(I)Z"⟩
abbrev cX3_drawMoreOn : ByteArray := prog_5_method_13_code
def yX3_drawMoreOn : MethodName := ⟨RX3, "drawMoreOn", "(I)Z"⟩
abbrev cX3_payMoreFrom : ByteArray := prog_5_method_14_code
def yX3_payMoreFrom : MethodName := ⟨RX3, "payMoreFrom", "(II)Z"⟩
abbrev cX3_findChain : ByteArray := prog_5_method_15_code
def yX3_findChain : MethodName := ⟨RX3, "findChain", "(III)I"⟩
abbrev cX3_costBetween : ByteArray := prog_5_method_16_code
def yX3_costBetween : MethodName := ⟨RX3, "costBetween", "(III)I"⟩
abbrev cX3_hasAhead : ByteArray := prog_5_method_17_code
def yX3_hasAhead : MethodName := ⟨RX3, "hasAhead", "(I)Z"⟩
abbrev cX3_firstOfChain : ByteArray := prog_5_method_18_code
def yX3_firstOfChain : MethodName := ⟨RX3, "firstOfChain", "(I)I"⟩
abbrev cX3_narrowest : ByteArray := prog_5_method_19_code
def yX3_narrowest : MethodName := ⟨RX3, "narrowest", "(II)I"⟩
abbrev cX3_shiftAlongChain : ByteArray := prog_5_method_20_code
def yX3_shiftAlongChain : MethodName := ⟨RX3, "shiftAlongChain", "(II)V"⟩
abbrev cX3_isPot : ByteArray := prog_5_method_21_code
def yX3_isPot : MethodName := ⟨RX3, "isPot", "(I)Z"⟩
abbrev cX3_isCost : ByteArray := prog_5_method_22_code
def yX3_isCost : MethodName := ⟨RX3, "isCost", "(I)Z"⟩
abbrev cX3_addShare : ByteArray := prog_5_method_23_code
def yX3_addShare : MethodName := ⟨RX3, "addShare", "(III)V"⟩
abbrev cX3_addToPot : ByteArray := prog_5_method_24_code
def yX3_addToPot : MethodName := ⟨RX3, "addToPot", "(II)V"⟩
abbrev cX3_planCost : ByteArray := prog_5_method_25_code
def yX3_planCost : MethodName := ⟨RX3, "planCost", "(II)V"⟩
abbrev cX3_potsWithMoney : ByteArray := prog_5_method_26_code
def yX3_potsWithMoney : MethodName := ⟨RX3, "potsWithMoney", "()I"⟩
abbrev cX3_potsWith : ByteArray := prog_5_method_27_code
def yX3_potsWith : MethodName := ⟨RX3, "potsWith", "([II)I"⟩
abbrev cX3_potsAfter : ByteArray := prog_5_method_28_code
def yX3_potsAfter : MethodName := ⟨RX3, "potsAfter", "(I)I"⟩
def RX4 : String := "RestrictedFunds$Pot"
def TX4 : u_T := fun k => match k with
  | _ => ("", "", "", false)
def tyX4 : Nat → FieldType := fun k => match k with
  | _ => .int
abbrev wsX40 : List Cond := u_ws RX4 TX4 0
theorem nmX4 : ∀ a, a < 0 → ∀ b, b < 0 → a ≠ b → (TX4 a).2.1 ≠ (TX4 b).2.1 := by decide +kernel
theorem tyX4_ok : ∀ k, k < 0 → parseFieldDescriptor (TX4 k).2.2.1 = some (tyX4 k) := by decide +kernel
abbrev cX4_init : ByteArray := prog_6_method_1_code
def yX4_init : MethodName := ⟨RX4, "<init>", "(I)V"⟩
def RX5 : String := "RestrictedFunds"
def TX5 : u_T := fun k => match k with
  | 0 => ("RestrictedFunds", "funds", "Ljava/util/ArrayList;", true)
  | 1 => ("RestrictedFunds", "commitments", "Ljava/util/ArrayList;", true)
  | 2 => ("RestrictedFunds", "costs", "Ljava/util/ArrayList;", true)
  | 3 => ("RestrictedFunds", "pots", "Ljava/util/ArrayList;", true)
  | 4 => ("RestrictedFunds", "plan", "LRestrictedFunds$Plan;", true)
  | _ => ("RestrictedFunds", "today", "I", false)
def tyX5 : Nat → FieldType := fun k => match k with
  | 0 => .object "java/util/ArrayList"
  | 1 => .object "java/util/ArrayList"
  | 2 => .object "java/util/ArrayList"
  | 3 => .object "java/util/ArrayList"
  | 4 => .object "RestrictedFunds$Plan"
  | _ => .int
abbrev wsX50 : List Cond := u_ws RX5 TX5 6
theorem nmX5 : ∀ a, a < 6 → ∀ b, b < 6 → a ≠ b → (TX5 a).2.1 ≠ (TX5 b).2.1 := by decide +kernel
theorem tyX5_ok : ∀ k, k < 6 → parseFieldDescriptor (TX5 k).2.2.1 = some (tyX5 k) := by decide +kernel
abbrev cX5_init : ByteArray := prog_1_method_1_code
def yX5_init : MethodName := ⟨RX5, "<init>", "()V"⟩
abbrev cX5_addFund : ByteArray := prog_1_method_2_code
def yX5_addFund : MethodName := ⟨RX5, "addFund", "(IIII)I"⟩
abbrev cX5_deposit : ByteArray := prog_1_method_3_code
def yX5_deposit : MethodName := ⟨RX5, "deposit", "(II)I"⟩
abbrev cX5_commit : ByteArray := prog_1_method_4_code
def yX5_commit : MethodName := ⟨RX5, "commit", "(IIII)I"⟩
abbrev cX5_cancel : ByteArray := prog_1_method_5_code
def yX5_cancel : MethodName := ⟨RX5, "cancel", "(I)I"⟩
abbrev cX5_advance : ByteArray := prog_1_method_6_code
def yX5_advance : MethodName := ⟨RX5, "advance", "(I)I"⟩
abbrev cX5_addCost : ByteArray := prog_1_method_7_code
def yX5_addCost : MethodName := ⟨RX5, "addCost", "(III)I"⟩
abbrev cX5_charge : ByteArray := prog_1_method_8_code
def yX5_charge : MethodName := ⟨RX5, "charge", "()I"⟩
abbrev cX5_chargeOverhead : ByteArray := prog_1_method_9_code
def yX5_chargeOverhead : MethodName := ⟨RX5, "chargeOverhead", "(I)I"⟩
abbrev cX5_today : ByteArray := prog_1_method_10_code
def yX5_today : MethodName := ⟨RX5, "today", "()I"⟩
abbrev cX5_funds : ByteArray := prog_1_method_11_code
def yX5_funds : MethodName := ⟨RX5, "funds", "()I"⟩
abbrev cX5_freeOf : ByteArray := prog_1_method_12_code
def yX5_freeOf : MethodName := ⟨RX5, "freeOf", "(I)I"⟩
abbrev cX5_committedOf : ByteArray := prog_1_method_13_code
def yX5_committedOf : MethodName := ⟨RX5, "committedOf", "(I)I"⟩
abbrev cX5_directOf : ByteArray := prog_1_method_14_code
def yX5_directOf : MethodName := ⟨RX5, "directOf", "(I)I"⟩
abbrev cX5_overheadOf : ByteArray := prog_1_method_15_code
def yX5_overheadOf : MethodName := ⟨RX5, "overheadOf", "(I)I"⟩
abbrev cX5_roomOf : ByteArray := prog_1_method_16_code
def yX5_roomOf : MethodName := ⟨RX5, "roomOf", "(I)I"⟩
abbrev cX5_commitments : ByteArray := prog_1_method_17_code
def yX5_commitments : MethodName := ⟨RX5, "commitments", "()I"⟩
abbrev cX5_fundOf : ByteArray := prog_1_method_18_code
def yX5_fundOf : MethodName := ⟨RX5, "fundOf", "(I)I"⟩
abbrev cX5_leftOf : ByteArray := prog_1_method_19_code
def yX5_leftOf : MethodName := ⟨RX5, "leftOf", "(I)I"⟩
abbrev cX5_untilOf : ByteArray := prog_1_method_20_code
def yX5_untilOf : MethodName := ⟨RX5, "untilOf", "(I)I"⟩
abbrev cX5_costs : ByteArray := prog_1_method_21_code
def yX5_costs : MethodName := ⟨RX5, "costs", "()I"⟩
abbrev cX5_unpaidOf : ByteArray := prog_1_method_22_code
def yX5_unpaidOf : MethodName := ⟨RX5, "unpaidOf", "(I)I"⟩
abbrev cX5_paidBy : ByteArray := prog_1_method_23_code
def yX5_paidBy : MethodName := ⟨RX5, "paidBy", "(II)I"⟩
abbrev cX5_payable : ByteArray := prog_1_method_24_code
def yX5_payable : MethodName := ⟨RX5, "payable", "()I"⟩
abbrev cX5_wouldPay : ByteArray := prog_1_method_25_code
def yX5_wouldPay : MethodName := ⟨RX5, "wouldPay", "(I)I"⟩
abbrev cX5_wouldTake : ByteArray := prog_1_method_26_code
def yX5_wouldTake : MethodName := ⟨RX5, "wouldTake", "(I)I"⟩
abbrev cX5_reason : ByteArray := prog_1_method_27_code
def yX5_reason : MethodName := ⟨RX5, "reason", "(I)I"⟩
abbrev cX5_requireRange : ByteArray := prog_1_method_28_code
def yX5_requireRange : MethodName := ⟨RX5, "requireRange", "(III)V"⟩
abbrev cX5_requireState : ByteArray := prog_1_method_29_code
def yX5_requireState : MethodName := ⟨RX5, "requireState", "(Z)V"⟩
abbrev cX5_fundAt : ByteArray := prog_1_method_30_code
def yX5_fundAt : MethodName := ⟨RX5, "fundAt", "(I)LRestrictedFunds$Fund;"⟩
abbrev cX5_commitmentAt : ByteArray := prog_1_method_31_code
def yX5_commitmentAt : MethodName := ⟨RX5, "commitmentAt", "(I)LRestrictedFunds$Commitment;"⟩
abbrev cX5_costAt : ByteArray := prog_1_method_32_code
def yX5_costAt : MethodName := ⟨RX5, "costAt", "(I)LRestrictedFunds$Cost;"⟩
abbrev cX5_endCommitment : ByteArray := prog_1_method_33_code
def yX5_endCommitment : MethodName := ⟨RX5, "endCommitment", "(I)V"⟩
abbrev cX5_lapseCommitments : ByteArray := prog_1_method_34_code
def yX5_lapseCommitments : MethodName := ⟨RX5, "lapseCommitments", "()I"⟩
abbrev cX5_endEmptyCommitments : ByteArray := prog_1_method_35_code
def yX5_endEmptyCommitments : MethodName := ⟨RX5, "endEmptyCommitments", "()V"⟩
abbrev cX5_preparePlan : ByteArray := prog_1_method_36_code
def yX5_preparePlan : MethodName := ⟨RX5, "preparePlan", "()V"⟩
abbrev cX5_lineUpPots : ByteArray := prog_1_method_37_code
def yX5_lineUpPots : MethodName := ⟨RX5, "lineUpPots", "()V"⟩
abbrev cX5_lineUp : ByteArray := prog_1_method_38_code
def yX5_lineUp : MethodName := ⟨RX5, "lineUp", "(LRestrictedFunds$Pot;)V"⟩
abbrev cX5_costsThatMayBePaidBy : ByteArray := prog_1_method_39_code
def yX5_costsThatMayBePaidBy : MethodName := ⟨RX5, "costsThatMayBePaidBy", "(LRestrictedFunds$Pot;)I"⟩
abbrev cX5_bookPlan : ByteArray := prog_1_method_40_code
def yX5_bookPlan : MethodName := ⟨RX5, "bookPlan", "()V"⟩
abbrev cX5_book : ByteArray := prog_1_method_41_code
def yX5_book : MethodName := ⟨RX5, "book", "(LRestrictedFunds$Pot;LRestrictedFunds$Cost;I)V"⟩
abbrev cX5_shareByDirectCosts : ByteArray := prog_1_method_42_code
def yX5_shareByDirectCosts : MethodName := ⟨RX5, "shareByDirectCosts", "(I)I"⟩
abbrev cX5_directCostsWithRoom : ByteArray := prog_1_method_43_code
def yX5_directCostsWithRoom : MethodName := ⟨RX5, "directCostsWithRoom", "()J"⟩
abbrev cX5_shareOnes : ByteArray := prog_1_method_44_code
def yX5_shareOnes : MethodName := ⟨RX5, "shareOnes", "(I)I"⟩
abbrev cX5_isAllowedBySomeFund : ByteArray := prog_1_method_45_code
def yX5_isAllowedBySomeFund : MethodName := ⟨RX5, "isAllowedBySomeFund", "(LRestrictedFunds$Cost;)Z"⟩
abbrev cX5_isSuitedBySomeFund : ByteArray := prog_1_method_46_code
def yX5_isSuitedBySomeFund : MethodName := ⟨RX5, "isSuitedBySomeFund", "(LRestrictedFunds$Cost;)Z"⟩
abbrev cX5_isPayableFromSomePot : ByteArray := prog_1_method_47_code
def yX5_isPayableFromSomePot : MethodName := ⟨RX5, "isPayableFromSomePot", "(LRestrictedFunds$Cost;)Z"⟩
abbrev cX5_isHeldInCommitment : ByteArray := prog_1_method_48_code
def yX5_isHeldInCommitment : MethodName := ⟨RX5, "isHeldInCommitment", "(LRestrictedFunds$Cost;)Z"⟩
abbrev cX5_has : ByteArray := prog_1_method_49_code
def yX5_has : MethodName := ⟨RX5, "has", "(II)Z"⟩
def RX6 : String := "RestrictedFundsModel"
def TX6 : u_T := fun k => match k with
  | _ => ("", "", "", false)
def tyX6 : Nat → FieldType := fun k => match k with
  | _ => .int
abbrev wsX60 : List Cond := u_ws RX6 TX6 0
theorem nmX6 : ∀ a, a < 0 → ∀ b, b < 0 → a ≠ b → (TX6 a).2.1 ≠ (TX6 b).2.1 := by decide +kernel
theorem tyX6_ok : ∀ k, k < 0 → parseFieldDescriptor (TX6 k).2.2.1 = some (tyX6 k) := by decide +kernel
def RJx145de : String := "java/io/Serializable"
def TJx145de : u_T := fun k => match k with
  | _ => ("", "", "", false)
def tyJx145de : Nat → FieldType := fun k => match k with
  | _ => .int
abbrev wsJx145de0 : List Cond := u_ws RJx145de TJx145de 0
theorem nmJx145de : ∀ a, a < 0 → ∀ b, b < 0 → a ≠ b → (TJx145de a).2.1 ≠ (TJx145de b).2.1 := by decide +kernel
theorem tyJx145de_ok : ∀ k, k < 0 → parseFieldDescriptor (TJx145de k).2.2.1 = some (tyJx145de k) := by decide +kernel
def RJx8e188 : String := "java/lang/Cloneable"
def TJx8e188 : u_T := fun k => match k with
  | _ => ("", "", "", false)
def tyJx8e188 : Nat → FieldType := fun k => match k with
  | _ => .int
abbrev wsJx8e1880 : List Cond := u_ws RJx8e188 TJx8e188 0
theorem nmJx8e188 : ∀ a, a < 0 → ∀ b, b < 0 → a ≠ b → (TJx8e188 a).2.1 ≠ (TJx8e188 b).2.1 := by decide +kernel
theorem tyJx8e188_ok : ∀ k, k < 0 → parseFieldDescriptor (TJx8e188 k).2.2.1 = some (tyJx8e188 k) := by decide +kernel
def RJxab1ab : String := "java/lang/Iterable"
def TJxab1ab : u_T := fun k => match k with
  | _ => ("", "", "", false)
def tyJxab1ab : Nat → FieldType := fun k => match k with
  | _ => .int
abbrev wsJxab1ab0 : List Cond := u_ws RJxab1ab TJxab1ab 0
theorem nmJxab1ab : ∀ a, a < 0 → ∀ b, b < 0 → a ≠ b → (TJxab1ab a).2.1 ≠ (TJxab1ab b).2.1 := by decide +kernel
theorem tyJxab1ab_ok : ∀ k, k < 0 → parseFieldDescriptor (TJxab1ab k).2.2.1 = some (tyJxab1ab k) := by decide +kernel
def RJ9 : String := "java/lang/Math"
def TJ9 : u_T := fun k => match k with
  | _ => ("", "", "", false)
def tyJ9 : Nat → FieldType := fun k => match k with
  | _ => .int
abbrev wsJ90 : List Cond := u_ws RJ9 TJ9 0
theorem nmJ9 : ∀ a, a < 0 → ∀ b, b < 0 → a ≠ b → (TJ9 a).2.1 ≠ (TJ9 b).2.1 := by decide +kernel
theorem tyJ9_ok : ∀ k, k < 0 → parseFieldDescriptor (TJ9 k).2.2.1 = some (tyJ9 k) := by decide +kernel
abbrev cJ9_max_7cf53 : ByteArray := prog_16_method_65_code
def yJ9_max_7cf53 : MethodName := ⟨RJ9, "max", "(II)I"⟩
abbrev cJ9_min_7cf53 : ByteArray := prog_16_method_69_code
def yJ9_min_7cf53 : MethodName := ⟨RJ9, "min", "(II)I"⟩
abbrev cJ9_min_f86c9 : ByteArray := prog_16_method_70_code
def yJ9_min_f86c9 : MethodName := ⟨RJ9, "min", "(JJ)J"⟩
def RJ0 : String := "java/lang/String"
def TJ0 : u_T := fun k => match k with
  | _ => ("", "", "", false)
def tyJ0 : Nat → FieldType := fun k => match k with
  | _ => .int
abbrev wsJ00 : List Cond := u_ws RJ0 TJ0 0
theorem nmJ0 : ∀ a, a < 0 → ∀ b, b < 0 → a ≠ b → (TJ0 a).2.1 ≠ (TJ0 b).2.1 := by decide +kernel
theorem tyJ0_ok : ∀ k, k < 0 → parseFieldDescriptor (TJ0 k).2.2.1 = some (tyJ0 k) := by decide +kernel
def RJ10 : String := "java/lang/System"
def TJ10 : u_T := fun k => match k with
  | _ => ("", "", "", false)
def tyJ10 : Nat → FieldType := fun k => match k with
  | _ => .int
abbrev wsJ100 : List Cond := u_ws RJ10 TJ10 0
theorem nmJ10 : ∀ a, a < 0 → ∀ b, b < 0 → a ≠ b → (TJ10 a).2.1 ≠ (TJ10 b).2.1 := by decide +kernel
theorem tyJ10_ok : ∀ k, k < 0 → parseFieldDescriptor (TJ10 k).2.2.1 = some (tyJ10 k) := by decide +kernel
def RJxa1e45 : String := "java/util/AbstractCollection"
def TJxa1e45 : u_T := fun k => match k with
  | _ => ("", "", "", false)
def tyJxa1e45 : Nat → FieldType := fun k => match k with
  | _ => .int
abbrev wsJxa1e450 : List Cond := u_ws RJxa1e45 TJxa1e45 0
theorem nmJxa1e45 : ∀ a, a < 0 → ∀ b, b < 0 → a ≠ b → (TJxa1e45 a).2.1 ≠ (TJxa1e45 b).2.1 := by decide +kernel
theorem tyJxa1e45_ok : ∀ k, k < 0 → parseFieldDescriptor (TJxa1e45 k).2.2.1 = some (tyJxa1e45 k) := by decide +kernel
abbrev cJxa1e45_init_da8c8 : ByteArray := prog_21_method_1_code
def yJxa1e45_init_da8c8 : MethodName := ⟨RJxa1e45, "<init>", "()V"⟩
def RJxc12de : String := "java/util/AbstractList"
def TJxc12de : u_T := fun k => match k with
  | _ => ("", "", "", false)
def tyJxc12de : Nat → FieldType := fun k => match k with
  | _ => .int
abbrev wsJxc12de0 : List Cond := u_ws RJxc12de TJxc12de 0
theorem nmJxc12de : ∀ a, a < 0 → ∀ b, b < 0 → a ≠ b → (TJxc12de a).2.1 ≠ (TJxc12de b).2.1 := by decide +kernel
theorem tyJxc12de_ok : ∀ k, k < 0 → parseFieldDescriptor (TJxc12de k).2.2.1 = some (tyJxc12de k) := by decide +kernel
abbrev cJxc12de_init_da8c8 : ByteArray := prog_22_method_1_code
def yJxc12de_init_da8c8 : MethodName := ⟨RJxc12de, "<init>", "()V"⟩
def RJx4a65c : String := "java/util/ArrayList"
def TJx4a65c : u_T := fun k => match k with
  | 0 => ("java/util/AbstractList", "modCount", "I", false)
  | 1 => ("java/util/ArrayList", "elementData", "[Ljava/lang/Object;", false)
  | _ => ("java/util/ArrayList", "size", "I", false)
def tyJx4a65c : Nat → FieldType := fun k => match k with
  | 0 => .int
  | 1 => .array (.object "java/lang/Object")
  | _ => .int
abbrev wsJx4a65c0 : List Cond := u_ws RJx4a65c TJx4a65c 3
theorem nmJx4a65c : ∀ a, a < 3 → ∀ b, b < 3 → a ≠ b → (TJx4a65c a).2.1 ≠ (TJx4a65c b).2.1 := by decide +kernel
theorem tyJx4a65c_ok : ∀ k, k < 3 → parseFieldDescriptor (TJx4a65c k).2.2.1 = some (tyJx4a65c k) := by decide +kernel
abbrev cJx4a65c_init_da8c8 : ByteArray := prog_23_method_2_code
def yJx4a65c_init_da8c8 : MethodName := ⟨RJx4a65c, "<init>", "()V"⟩
abbrev cJx4a65c_grow_92f84 : ByteArray := prog_23_method_6_code
def yJx4a65c_grow_92f84 : MethodName := ⟨RJx4a65c, "grow", "(I)[Ljava/lang/Object;"⟩
abbrev cJx4a65c_grow_d5877 : ByteArray := prog_23_method_7_code
def yJx4a65c_grow_d5877 : MethodName := ⟨RJx4a65c, "grow", "()[Ljava/lang/Object;"⟩
abbrev cJx4a65c_size_8abf5 : ByteArray := prog_23_method_8_code
def yJx4a65c_size_8abf5 : MethodName := ⟨RJx4a65c, "size", "()I"⟩
abbrev cJx4a65c_elementData_915e3 : ByteArray := prog_23_method_18_code
def yJx4a65c_elementData_915e3 : MethodName := ⟨RJx4a65c, "elementData", "(I)Ljava/lang/Object;"⟩
abbrev cJx4a65c_get_915e3 : ByteArray := prog_23_method_20_code
def yJx4a65c_get_915e3 : MethodName := ⟨RJx4a65c, "get", "(I)Ljava/lang/Object;"⟩
abbrev cJx4a65c_add_72be8 : ByteArray := prog_23_method_24_code
def yJx4a65c_add_72be8 : MethodName := ⟨RJx4a65c, "add", "(Ljava/lang/Object;[Ljava/lang/Object;I)V"⟩
abbrev cJx4a65c_add_9ea2d : ByteArray := prog_23_method_25_code
def yJx4a65c_add_9ea2d : MethodName := ⟨RJx4a65c, "add", "(Ljava/lang/Object;)Z"⟩
abbrev cJx4a65c_add_7a177 : ByteArray := prog_23_method_26_code
def yJx4a65c_add_7a177 : MethodName := ⟨RJx4a65c, "add", "(ILjava/lang/Object;)V"⟩
abbrev cJx4a65c_remove_915e3 : ByteArray := prog_23_method_29_code
def yJx4a65c_remove_915e3 : MethodName := ⟨RJx4a65c, "remove", "(I)Ljava/lang/Object;"⟩
abbrev cJx4a65c_fastRemove_b59b0 : ByteArray := prog_23_method_39_code
def yJx4a65c_fastRemove_b59b0 : MethodName := ⟨RJx4a65c, "fastRemove", "([Ljava/lang/Object;I)V"⟩
abbrev cJx4a65c_clear_da8c8 : ByteArray := prog_23_method_40_code
def yJx4a65c_clear_da8c8 : MethodName := ⟨RJx4a65c, "clear", "()V"⟩
abbrev cJx4a65c_rangeCheckForAdd_d00df : ByteArray := prog_23_method_45_code
def yJx4a65c_rangeCheckForAdd_d00df : MethodName := ⟨RJx4a65c, "rangeCheckForAdd", "(I)V"⟩
def RJ7 : String := "java/util/Arrays"
def TJ7 : u_T := fun k => match k with
  | _ => ("", "", "", false)
def tyJ7 : Nat → FieldType := fun k => match k with
  | _ => .int
abbrev wsJ70 : List Cond := u_ws RJ7 TJ7 0
theorem nmJ7 : ∀ a, a < 0 → ∀ b, b < 0 → a ≠ b → (TJ7 a).2.1 ≠ (TJ7 b).2.1 := by decide +kernel
theorem tyJ7_ok : ∀ k, k < 0 → parseFieldDescriptor (TJ7 k).2.2.1 = some (tyJ7 k) := by decide +kernel
abbrev cJ7_copyOf_1904c : ByteArray := prog_24_method_119_code
def yJ7_copyOf_1904c : MethodName := ⟨RJ7, "copyOf", "([Ljava/lang/Object;I)[Ljava/lang/Object;"⟩
abbrev cJ7_copyOf_6403c : ByteArray := prog_24_method_120_code
def yJ7_copyOf_6403c : MethodName := ⟨RJ7, "copyOf", "([Ljava/lang/Object;ILjava/lang/Class;)[Ljava/lang/Object;"⟩
def RJx5ef63 : String := "java/util/Collection"
def TJx5ef63 : u_T := fun k => match k with
  | _ => ("", "", "", false)
def tyJx5ef63 : Nat → FieldType := fun k => match k with
  | _ => .int
abbrev wsJx5ef630 : List Cond := u_ws RJx5ef63 TJx5ef63 0
theorem nmJx5ef63 : ∀ a, a < 0 → ∀ b, b < 0 → a ≠ b → (TJx5ef63 a).2.1 ≠ (TJx5ef63 b).2.1 := by decide +kernel
theorem tyJx5ef63_ok : ∀ k, k < 0 → parseFieldDescriptor (TJx5ef63 k).2.2.1 = some (tyJx5ef63 k) := by decide +kernel
def RJxbd725 : String := "java/util/List"
def TJxbd725 : u_T := fun k => match k with
  | _ => ("", "", "", false)
def tyJxbd725 : Nat → FieldType := fun k => match k with
  | _ => .int
abbrev wsJxbd7250 : List Cond := u_ws RJxbd725 TJxbd725 0
theorem nmJxbd725 : ∀ a, a < 0 → ∀ b, b < 0 → a ≠ b → (TJxbd725 a).2.1 ≠ (TJxbd725 b).2.1 := by decide +kernel
theorem tyJxbd725_ok : ∀ k, k < 0 → parseFieldDescriptor (TJxbd725 k).2.2.1 = some (tyJxbd725 k) := by decide +kernel
def RJ15 : String := "java/util/Objects"
def TJ15 : u_T := fun k => match k with
  | _ => ("", "", "", false)
def tyJ15 : Nat → FieldType := fun k => match k with
  | _ => .int
abbrev wsJ150 : List Cond := u_ws RJ15 TJ15 0
theorem nmJ15 : ∀ a, a < 0 → ∀ b, b < 0 → a ≠ b → (TJ15 a).2.1 ≠ (TJ15 b).2.1 := by decide +kernel
theorem tyJ15_ok : ∀ k, k < 0 → parseFieldDescriptor (TJ15 k).2.2.1 = some (tyJ15 k) := by decide +kernel
abbrev cJ15_checkIndex_7cf53 : ByteArray := prog_27_method_17_code
def yJ15_checkIndex_7cf53 : MethodName := ⟨RJ15, "checkIndex", "(II)I"⟩
def RJxf0a74 : String := "java/util/RandomAccess"
def TJxf0a74 : u_T := fun k => match k with
  | _ => ("", "", "", false)
def tyJxf0a74 : Nat → FieldType := fun k => match k with
  | _ => .int
abbrev wsJxf0a740 : List Cond := u_ws RJxf0a74 TJxf0a74 0
theorem nmJxf0a74 : ∀ a, a < 0 → ∀ b, b < 0 → a ≠ b → (TJxf0a74 a).2.1 ≠ (TJxf0a74 b).2.1 := by decide +kernel
theorem tyJxf0a74_ok : ∀ k, k < 0 → parseFieldDescriptor (TJxf0a74 k).2.2.1 = some (tyJxf0a74 k) := by decide +kernel
def RJxa66e6 : String := "java/util/SequencedCollection"
def TJxa66e6 : u_T := fun k => match k with
  | _ => ("", "", "", false)
def tyJxa66e6 : Nat → FieldType := fun k => match k with
  | _ => .int
abbrev wsJxa66e60 : List Cond := u_ws RJxa66e6 TJxa66e6 0
theorem nmJxa66e6 : ∀ a, a < 0 → ∀ b, b < 0 → a ≠ b → (TJxa66e6 a).2.1 ≠ (TJxa66e6 b).2.1 := by decide +kernel
theorem tyJxa66e6_ok : ∀ k, k < 0 → parseFieldDescriptor (TJxa66e6 k).2.2.1 = some (tyJxa66e6 k) := by decide +kernel
def RJ8 : String := "jdk/internal/util/ArraysSupport"
def TJ8 : u_T := fun k => match k with
  | _ => ("", "", "", false)
def tyJ8 : Nat → FieldType := fun k => match k with
  | _ => .int
abbrev wsJ80 : List Cond := u_ws RJ8 TJ8 0
theorem nmJ8 : ∀ a, a < 0 → ∀ b, b < 0 → a ≠ b → (TJ8 a).2.1 ≠ (TJ8 b).2.1 := by decide +kernel
theorem tyJ8_ok : ∀ k, k < 0 → parseFieldDescriptor (TJ8 k).2.2.1 = some (tyJ8 k) := by decide +kernel
abbrev cJ8_newLength_cabcc : ByteArray := prog_30_method_27_code
def yJ8_newLength_cabcc : MethodName := ⟨RJ8, "newLength", "(III)I"⟩
abbrev cJ8_hugeLength_7cf53 : ByteArray := prog_30_method_28_code
def yJ8_hugeLength_7cf53 : MethodName := ⟨RJ8, "hugeLength", "(II)I"⟩
def RJ3 : String := "jdk/internal/util/Preconditions"
def TJ3 : u_T := fun k => match k with
  | _ => ("", "", "", false)
def tyJ3 : Nat → FieldType := fun k => match k with
  | _ => .int
abbrev wsJ30 : List Cond := u_ws RJ3 TJ3 0
theorem nmJ3 : ∀ a, a < 0 → ∀ b, b < 0 → a ≠ b → (TJ3 a).2.1 ≠ (TJ3 b).2.1 := by decide +kernel
theorem tyJ3_ok : ∀ k, k < 0 → parseFieldDescriptor (TJ3 k).2.2.1 = some (tyJ3 k) := by decide +kernel
abbrev cJ3_checkIndex_8e157 : ByteArray := prog_31_method_11_code
def yJ3_checkIndex_8e157 : MethodName := ⟨RJ3, "checkIndex", "(IILjava/util/function/BiFunction;)I"⟩
def RL : String := "RestrictedFundsLaw"
abbrev cL_low : ByteArray := method_2_code
def yL_low : MethodName := ⟨RL, "low", "(II)I"⟩
abbrev cL_cell : ByteArray := method_3_code
def yL_cell : MethodName := ⟨RL, "cell", "([II)I"⟩
abbrev cL_commit : ByteArray := method_4_code
def yL_commit : MethodName := ⟨RL, "commit", "(LRestrictedFunds;IIII)I"⟩
abbrev cL_accounts : ByteArray := method_5_code
def yL_accounts : MethodName := ⟨RL, "accounts", "(LRestrictedFunds;[I)Z"⟩
abbrev cL_charges : ByteArray := method_6_code
def yL_charges : MethodName := ⟨RL, "charges", "(LRestrictedFunds;)Z"⟩
abbrev cL_law : ByteArray := code
def yL_law : MethodName := ⟨RL, "law", "([I)Z"⟩
abbrev vwCl : List vw_C := [(RJx4a65c, TJx4a65c, 3), (RJx4a65c, TJx4a65c, 3), (RJx4a65c, TJx4a65c, 3), (RX0, TX0, 4), (RX1, TX1, 4), (RX2, TX2, 7), (RX3, TX3, 11), (RX5, TX5, 6)]
