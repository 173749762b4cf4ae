/-! ===== BEGIN printed: names, fields, word lists, decode rows ===== -/
def RX0 : String := "Grainledger$Contract"
def TX0 : u_T := fun k => match k with
  | 0 => ("Grainledger$Contract", "number", "I", true)
  | 1 => ("Grainledger$Contract", "seller", "I", true)
  | 2 => ("Grainledger$Contract", "buyer", "I", true)
  | 3 => ("Grainledger$Contract", "grain", "I", true)
  | 4 => ("Grainledger$Contract", "grade", "I", true)
  | 5 => ("Grainledger$Contract", "kilograms", "I", false)
  | 6 => ("Grainledger$Contract", "day", "I", false)
  | 7 => ("Grainledger$Contract", "price", "I", false)
  | 8 => ("Grainledger$Contract", "settled", "Z", false)
  | 9 => ("Grainledger$Contract", "handedOver", "I", false)
  | _ => ("Grainledger$Contract", "missing", "I", false)
def tyX0 : Nat → FieldType := fun k => match k with
  | 0 => .int
  | 1 => .int
  | 2 => .int
  | 3 => .int
  | 4 => .int
  | 5 => .int
  | 6 => .int
  | 7 => .int
  | 8 => .boolean
  | 9 => .int
  | _ => .int
abbrev wsX00 : List Cond := u_ws RX0 TX0 11
theorem nmX0 : ∀ a, a < 11 → ∀ b, b < 11 → a ≠ b → (TX0 a).2.1 ≠ (TX0 b).2.1 := by decide +kernel
theorem tyX0_ok : ∀ k, k < 11 → parseFieldDescriptor (TX0 k).2.2.1 = some (tyX0 k) := by decide +kernel
abbrev cX0_init : ByteArray := prog_2_method_1_code
def yX0_init : MethodName := ⟨RX0, "<init>", "(IIIII)V"⟩
def RX1 : String := "Grainledger$Delivery"
def TX1 : u_T := fun k => match k with
  | 0 => ("Grainledger$Delivery", "number", "I", true)
  | 1 => ("Grainledger$Delivery", "holder", "I", true)
  | 2 => ("Grainledger$Delivery", "grain", "I", true)
  | 3 => ("Grainledger$Delivery", "grade", "I", true)
  | 4 => ("Grainledger$Delivery", "silo", "LGrainledger$Silo;", true)
  | 5 => ("Grainledger$Delivery", "weight", "I", false)
  | _ => ("Grainledger$Delivery", "dry", "I", false)
def tyX1 : Nat → FieldType := fun k => match k with
  | 0 => .int
  | 1 => .int
  | 2 => .int
  | 3 => .int
  | 4 => .object "Grainledger$Silo"
  | 5 => .int
  | _ => .int
abbrev wsX10 : List Cond := u_ws RX1 TX1 7
theorem nmX1 : ∀ a, a < 7 → ∀ b, b < 7 → a ≠ b → (TX1 a).2.1 ≠ (TX1 b).2.1 := by decide +kernel
theorem tyX1_ok : ∀ k, k < 7 → parseFieldDescriptor (TX1 k).2.2.1 = some (tyX1 k) := by decide +kernel
abbrev cX1_init : ByteArray := prog_3_method_1_code
def yX1_init : MethodName := ⟨RX1, "<init>", "(IIIILGrainledger$Silo;)V"⟩
def RX2 : String := "Grainledger$Receipt"
def TX2 : u_T := fun k => match k with
  | 0 => ("Grainledger$Receipt", "number", "I", true)
  | 1 => ("Grainledger$Receipt", "delivery", "LGrainledger$Delivery;", true)
  | 2 => ("Grainledger$Receipt", "latest", "LGrainledger$Tenure;", false)
  | 3 => ("Grainledger$Receipt", "kilograms", "I", false)
  | 4 => ("Grainledger$Receipt", "pledgee", "I", false)
  | 5 => ("Grainledger$Receipt", "sum", "I", false)
  | 6 => ("Grainledger$Receipt", "lastDay", "I", false)
  | 7 => ("Grainledger$Receipt", "contract", "LGrainledger$Contract;", false)
  | _ => ("Grainledger$Receipt", "remainder", "I", false)
def tyX2 : Nat → FieldType := fun k => match k with
  | 0 => .int
  | 1 => .object "Grainledger$Delivery"
  | 2 => .object "Grainledger$Tenure"
  | 3 => .int
  | 4 => .int
  | 5 => .int
  | 6 => .int
  | 7 => .object "Grainledger$Contract"
  | _ => .int
abbrev wsX20 : List Cond := u_ws RX2 TX2 9
theorem nmX2 : ∀ a, a < 9 → ∀ b, b < 9 → a ≠ b → (TX2 a).2.1 ≠ (TX2 b).2.1 := by decide +kernel
theorem tyX2_ok : ∀ k, k < 9 → parseFieldDescriptor (TX2 k).2.2.1 = some (tyX2 k) := by decide +kernel
abbrev cX2_init : ByteArray := prog_4_method_1_code
def yX2_init : MethodName := ⟨RX2, "<init>", "(ILGrainledger$Delivery;LGrainledger$Tenure;)V"⟩
abbrev cX2_holder : ByteArray := prog_4_method_2_code
def yX2_holder : MethodName := ⟨RX2, "holder", "()I"⟩
abbrev cX2_isLive : ByteArray := prog_4_method_3_code
def yX2_isLive : MethodName := ⟨RX2, "isLive", "()Z"⟩
abbrev cX2_isLiveIn : ByteArray := prog_4_method_4_code
def yX2_isLiveIn : MethodName := ⟨RX2, "isLiveIn", "(LGrainledger$Silo;)Z"⟩
abbrev cX2_isLiveOf : ByteArray := prog_4_method_5_code
def yX2_isLiveOf : MethodName := ⟨RX2, "isLiveOf", "(III)Z"⟩
abbrev cX2_isPledged : ByteArray := prog_4_method_6_code
def yX2_isPledged : MethodName := ⟨RX2, "isPledged", "()Z"⟩
abbrev cX2_endPledge : ByteArray := prog_4_method_7_code
def yX2_endPledge : MethodName := ⟨RX2, "endPledge", "()V"⟩
def RX3 : String := "Grainledger$Silo"
def TX3 : u_T := fun k => match k with
  | 0 => ("Grainledger$Silo", "number", "I", true)
  | 1 => ("Grainledger$Silo", "room", "I", true)
  | 2 => ("Grainledger$Silo", "grain", "I", false)
  | 3 => ("Grainledger$Silo", "grade", "I", false)
  | 4 => ("Grainledger$Silo", "content", "I", false)
  | _ => ("Grainledger$Silo", "lost", "I", false)
def tyX3 : Nat → FieldType := fun k => match k with
  | 0 => .int
  | 1 => .int
  | 2 => .int
  | 3 => .int
  | 4 => .int
  | _ => .int
abbrev wsX30 : List Cond := u_ws RX3 TX3 6
theorem nmX3 : ∀ a, a < 6 → ∀ b, b < 6 → a ≠ b → (TX3 a).2.1 ≠ (TX3 b).2.1 := by decide +kernel
theorem tyX3_ok : ∀ k, k < 6 → parseFieldDescriptor (TX3 k).2.2.1 = some (tyX3 k) := by decide +kernel
abbrev cX3_init : ByteArray := prog_5_method_1_code
def yX3_init : MethodName := ⟨RX3, "<init>", "(II)V"⟩
abbrev cX3_isEmpty : ByteArray := prog_5_method_2_code
def yX3_isEmpty : MethodName := ⟨RX3, "isEmpty", "()Z"⟩
abbrev cX3_isOf : ByteArray := prog_5_method_3_code
def yX3_isOf : MethodName := ⟨RX3, "isOf", "(II)Z"⟩
abbrev cX3_hasRoomFor : ByteArray := prog_5_method_4_code
def yX3_hasRoomFor : MethodName := ⟨RX3, "hasRoomFor", "(I)Z"⟩
def RX4 : String := "Grainledger$Tenure"
def TX4 : u_T := fun k => match k with
  | 0 => ("Grainledger$Tenure", "firstDay", "I", true)
  | 1 => ("Grainledger$Tenure", "before", "LGrainledger$Tenure;", true)
  | _ => ("Grainledger$Tenure", "holder", "I", false)
def tyX4 : Nat → FieldType := fun k => match k with
  | 0 => .int
  | 1 => .object "Grainledger$Tenure"
  | _ => .int
abbrev wsX40 : List Cond := u_ws RX4 TX4 3
theorem nmX4 : ∀ a, a < 3 → ∀ b, b < 3 → a ≠ b → (TX4 a).2.1 ≠ (TX4 b).2.1 := by decide +kernel
theorem tyX4_ok : ∀ k, k < 3 → parseFieldDescriptor (TX4 k).2.2.1 = some (tyX4 k) := by decide +kernel
abbrev cX4_init : ByteArray := prog_6_method_1_code
def yX4_init : MethodName := ⟨RX4, "<init>", "(IILGrainledger$Tenure;)V"⟩
def RX5 : String := "Grainledger"
def TX5 : u_T := fun k => match k with
  | 0 => ("Grainledger", "allSilos", "Ljava/util/ArrayList;", true)
  | 1 => ("Grainledger", "allDeliveries", "Ljava/util/ArrayList;", true)
  | 2 => ("Grainledger", "allReceipts", "Ljava/util/ArrayList;", true)
  | 3 => ("Grainledger", "allContracts", "Ljava/util/ArrayList;", true)
  | 4 => ("Grainledger", "accounts", "[J", true)
  | 5 => ("Grainledger", "owed", "[I", true)
  | 6 => ("Grainledger", "shrinkageRate", "I", false)
  | 7 => ("Grainledger", "fairPrice", "I", false)
  | 8 => ("Grainledger", "penaltyPrice", "I", false)
  | 9 => ("Grainledger", "today", "I", false)
  | _ => ("Grainledger", "tenures", "I", false)
def tyX5 : Nat → FieldType := fun k => match k with
  | 0 => .object "java/util/ArrayList"
  | 1 => .object "java/util/ArrayList"
  | 2 => .object "java/util/ArrayList"
  | 3 => .object "java/util/ArrayList"
  | 4 => .array .long
  | 5 => .array .int
  | 6 => .int
  | 7 => .int
  | 8 => .int
  | 9 => .int
  | _ => .int
abbrev wsX50 : List Cond := u_ws RX5 TX5 11
theorem nmX5 : ∀ a, a < 11 → ∀ b, b < 11 → a ≠ b → (TX5 a).2.1 ≠ (TX5 b).2.1 := by decide +kernel
theorem tyX5_ok : ∀ k, k < 11 → parseFieldDescriptor (TX5 k).2.2.1 = some (tyX5 k) := by decide +kernel
abbrev cX5_init : ByteArray := prog_1_method_1_code
def yX5_init : MethodName := ⟨RX5, "<init>", "()V"⟩
abbrev cX5_silo : ByteArray := prog_1_method_2_code
def yX5_silo : MethodName := ⟨RX5, "silo", "(I)I"⟩
abbrev cX5_terms : ByteArray := prog_1_method_3_code
def yX5_terms : MethodName := ⟨RX5, "terms", "(III)V"⟩
abbrev cX5_deliver : ByteArray := prog_1_method_4_code
def yX5_deliver : MethodName := ⟨RX5, "deliver", "(IIII)I"⟩
abbrev cX5_split : ByteArray := prog_1_method_5_code
def yX5_split : MethodName := ⟨RX5, "split", "(II)I"⟩
abbrev cX5_sell : ByteArray := prog_1_method_6_code
def yX5_sell : MethodName := ⟨RX5, "sell", "(III)I"⟩
abbrev cX5_pledge : ByteArray := prog_1_method_7_code
def yX5_pledge : MethodName := ⟨RX5, "pledge", "(IIII)I"⟩
abbrev cX5_redeem : ByteArray := prog_1_method_8_code
def yX5_redeem : MethodName := ⟨RX5, "redeem", "(I)I"⟩
abbrev cX5_takeOut : ByteArray := prog_1_method_9_code
def yX5_takeOut : MethodName := ⟨RX5, "takeOut", "(I)I"⟩
abbrev cX5_reweigh : ByteArray := prog_1_method_10_code
def yX5_reweigh : MethodName := ⟨RX5, "reweigh", "(II)I"⟩
abbrev cX5_contract : ByteArray := prog_1_method_11_code
def yX5_contract : MethodName := ⟨RX5, "contract", "(IIIIIII)I"⟩
abbrev cX5_pass : ByteArray := prog_1_method_12_code
def yX5_pass : MethodName := ⟨RX5, "pass", "(I)I"⟩
abbrev cX5_receipt : ByteArray := prog_1_method_13_code
def yX5_receipt : MethodName := ⟨RX5, "receipt", "(II)I"⟩
abbrev cX5_receipts : ByteArray := prog_1_method_14_code
def yX5_receipts : MethodName := ⟨RX5, "receipts", "()I"⟩
abbrev cX5_delivery : ByteArray := prog_1_method_15_code
def yX5_delivery : MethodName := ⟨RX5, "delivery", "(II)I"⟩
abbrev cX5_ofContract : ByteArray := prog_1_method_16_code
def yX5_ofContract : MethodName := ⟨RX5, "ofContract", "(II)I"⟩
abbrev cX5_ofSilo : ByteArray := prog_1_method_17_code
def yX5_ofSilo : MethodName := ⟨RX5, "ofSilo", "(II)I"⟩
abbrev cX5_contentAnew : ByteArray := prog_1_method_18_code
def yX5_contentAnew : MethodName := ⟨RX5, "contentAnew", "(I)I"⟩
abbrev cX5_account : ByteArray := prog_1_method_19_code
def yX5_account : MethodName := ⟨RX5, "account", "(I)J"⟩
abbrev cX5_owes : ByteArray := prog_1_method_20_code
def yX5_owes : MethodName := ⟨RX5, "owes", "(I)I"⟩
abbrev cX5_holds : ByteArray := prog_1_method_21_code
def yX5_holds : MethodName := ⟨RX5, "holds", "(III)I"⟩
abbrev cX5_ownerOn : ByteArray := prog_1_method_22_code
def yX5_ownerOn : MethodName := ⟨RX5, "ownerOn", "(II)I"⟩
abbrev cX5_needRange : ByteArray := prog_1_method_23_code
def yX5_needRange : MethodName := ⟨RX5, "needRange", "(III)V"⟩
abbrev cX5_needFreeFor : ByteArray := prog_1_method_24_code
def yX5_needFreeFor : MethodName := ⟨RX5, "needFreeFor", "(LGrainledger$Receipt;I)V"⟩
abbrev cX5_findSilo : ByteArray := prog_1_method_25_code
def yX5_findSilo : MethodName := ⟨RX5, "findSilo", "(I)LGrainledger$Silo;"⟩
abbrev cX5_findDelivery : ByteArray := prog_1_method_26_code
def yX5_findDelivery : MethodName := ⟨RX5, "findDelivery", "(I)LGrainledger$Delivery;"⟩
abbrev cX5_findReceipt : ByteArray := prog_1_method_27_code
def yX5_findReceipt : MethodName := ⟨RX5, "findReceipt", "(I)LGrainledger$Receipt;"⟩
abbrev cX5_findContract : ByteArray := prog_1_method_28_code
def yX5_findContract : MethodName := ⟨RX5, "findContract", "(I)LGrainledger$Contract;"⟩
abbrev cX5_receiptsAreFull : ByteArray := prog_1_method_29_code
def yX5_receiptsAreFull : MethodName := ⟨RX5, "receiptsAreFull", "()Z"⟩
abbrev cX5_pay : ByteArray := prog_1_method_30_code
def yX5_pay : MethodName := ⟨RX5, "pay", "(IIJ)V"⟩
abbrev cX5_owe : ByteArray := prog_1_method_31_code
def yX5_owe : MethodName := ⟨RX5, "owe", "(II)V"⟩
abbrev cX5_gradeOf : ByteArray := prog_1_method_32_code
def yX5_gradeOf : MethodName := ⟨RX5, "gradeOf", "(I)I"⟩
abbrev cX5_dryWeight : ByteArray := prog_1_method_33_code
def yX5_dryWeight : MethodName := ⟨RX5, "dryWeight", "(II)I"⟩
abbrev cX5_siloFor : ByteArray := prog_1_method_34_code
def yX5_siloFor : MethodName := ⟨RX5, "siloFor", "(III)LGrainledger$Silo;"⟩
abbrev cX5_putIn : ByteArray := prog_1_method_35_code
def yX5_putIn : MethodName := ⟨RX5, "putIn", "(LGrainledger$Delivery;I)I"⟩
abbrev cX5_takeFrom : ByteArray := prog_1_method_36_code
def yX5_takeFrom : MethodName := ⟨RX5, "takeFrom", "(LGrainledger$Receipt;I)V"⟩
abbrev cX5_makeReceipt : ByteArray := prog_1_method_37_code
def yX5_makeReceipt : MethodName := ⟨RX5, "makeReceipt", "(LGrainledger$Delivery;II)LGrainledger$Receipt;"⟩
abbrev cX5_splitOff : ByteArray := prog_1_method_38_code
def yX5_splitOff : MethodName := ⟨RX5, "splitOff", "(LGrainledger$Receipt;I)LGrainledger$Receipt;"⟩
abbrev cX5_changeHolder : ByteArray := prog_1_method_39_code
def yX5_changeHolder : MethodName := ⟨RX5, "changeHolder", "(LGrainledger$Receipt;I)V"⟩
abbrev cX5_takeBack : ByteArray := prog_1_method_40_code
def yX5_takeBack : MethodName := ⟨RX5, "takeBack", "(LGrainledger$Delivery;I)V"⟩
abbrev cX5_takeBackFrom : ByteArray := prog_1_method_41_code
def yX5_takeBackFrom : MethodName := ⟨RX5, "takeBackFrom", "(LGrainledger$Receipt;II)I"⟩
abbrev cX5_payForTaken : ByteArray := prog_1_method_42_code
def yX5_payForTaken : MethodName := ⟨RX5, "payForTaken", "(LGrainledger$Receipt;II)V"⟩
abbrev cX5_passOneDay : ByteArray := prog_1_method_43_code
def yX5_passOneDay : MethodName := ⟨RX5, "passOneDay", "()V"⟩
abbrev cX5_shrink : ByteArray := prog_1_method_44_code
def yX5_shrink : MethodName := ⟨RX5, "shrink", "(LGrainledger$Silo;)V"⟩
abbrev cX5_bearOneEach : ByteArray := prog_1_method_45_code
def yX5_bearOneEach : MethodName := ⟨RX5, "bearOneEach", "(LGrainledger$Silo;I)V"⟩
abbrev cX5_greatestRemainder : ByteArray := prog_1_method_46_code
def yX5_greatestRemainder : MethodName := ⟨RX5, "greatestRemainder", "(LGrainledger$Silo;)LGrainledger$Receipt;"⟩
abbrev cX5_forfeitIfDue : ByteArray := prog_1_method_47_code
def yX5_forfeitIfDue : MethodName := ⟨RX5, "forfeitIfDue", "(LGrainledger$Receipt;)V"⟩
abbrev cX5_settle : ByteArray := prog_1_method_48_code
def yX5_settle : MethodName := ⟨RX5, "settle", "(LGrainledger$Contract;)V"⟩
abbrev cX5_handOver : ByteArray := prog_1_method_49_code
def yX5_handOver : MethodName := ⟨RX5, "handOver", "(LGrainledger$Contract;)I"⟩
def RX6 : String := "GrainledgerModel"
def TX6 : u_T := fun k => match k with
  | 0 => ("GrainledgerModel", "thrown", "I", false)
  | 1 => ("GrainledgerModel", "today", "I", false)
  | 2 => ("GrainledgerModel", "rate", "I", false)
  | 3 => ("GrainledgerModel", "fair", "I", false)
  | 4 => ("GrainledgerModel", "penalty", "I", false)
  | 5 => ("GrainledgerModel", "account", "[J", true)
  | 6 => ("GrainledgerModel", "owes", "[I", true)
  | 7 => ("GrainledgerModel", "silos", "I", false)
  | 8 => ("GrainledgerModel", "room", "[I", true)
  | 9 => ("GrainledgerModel", "content", "[I", true)
  | 10 => ("GrainledgerModel", "grainOf", "[I", true)
  | 11 => ("GrainledgerModel", "gradeOf", "[I", true)
  | 12 => ("GrainledgerModel", "lost", "[I", true)
  | 13 => ("GrainledgerModel", "deliveries", "I", false)
  | 14 => ("GrainledgerModel", "deliverer", "[I", true)
  | 15 => ("GrainledgerModel", "weight", "[I", true)
  | 16 => ("GrainledgerModel", "dry", "[I", true)
  | 17 => ("GrainledgerModel", "grain", "[I", true)
  | 18 => ("GrainledgerModel", "grade", "[I", true)
  | 19 => ("GrainledgerModel", "siloOf", "[I", true)
  | 20 => ("GrainledgerModel", "receipts", "I", false)
  | 21 => ("GrainledgerModel", "has", "[I", true)
  | 22 => ("GrainledgerModel", "holder", "[I", true)
  | 23 => ("GrainledgerModel", "inSilo", "[I", true)
  | 24 => ("GrainledgerModel", "from", "[I", true)
  | 25 => ("GrainledgerModel", "pledgedTo", "[I", true)
  | 26 => ("GrainledgerModel", "sum", "[I", true)
  | 27 => ("GrainledgerModel", "lastDay", "[I", true)
  | 28 => ("GrainledgerModel", "by", "[I", true)
  | 29 => ("GrainledgerModel", "changes", "I", false)
  | 30 => ("GrainledgerModel", "changed", "[I", true)
  | 31 => ("GrainledgerModel", "changedOn", "[I", true)
  | 32 => ("GrainledgerModel", "changedTo", "[I", true)
  | 33 => ("GrainledgerModel", "contracts", "I", false)
  | 34 => ("GrainledgerModel", "seller", "[I", true)
  | 35 => ("GrainledgerModel", "buyer", "[I", true)
  | 36 => ("GrainledgerModel", "wantsGrain", "[I", true)
  | 37 => ("GrainledgerModel", "wantsGrade", "[I", true)
  | 38 => ("GrainledgerModel", "wants", "[I", true)
  | 39 => ("GrainledgerModel", "dayOf", "[I", true)
  | 40 => ("GrainledgerModel", "price", "[I", true)
  | 41 => ("GrainledgerModel", "isSettled", "[Z", true)
  | 42 => ("GrainledgerModel", "handed", "[I", true)
  | 43 => ("GrainledgerModel", "missing", "[I", true)
  | 44 => ("GrainledgerModel", "shares", "[I", true)
  | _ => ("GrainledgerModel", "rests", "[I", true)
def tyX6 : Nat → FieldType := fun k => match k with
  | 0 => .int
  | 1 => .int
  | 2 => .int
  | 3 => .int
  | 4 => .int
  | 5 => .array .long
  | 6 => .array .int
  | 7 => .int
  | 8 => .array .int
  | 9 => .array .int
  | 10 => .array .int
  | 11 => .array .int
  | 12 => .array .int
  | 13 => .int
  | 14 => .array .int
  | 15 => .array .int
  | 16 => .array .int
  | 17 => .array .int
  | 18 => .array .int
  | 19 => .array .int
  | 20 => .int
  | 21 => .array .int
  | 22 => .array .int
  | 23 => .array .int
  | 24 => .array .int
  | 25 => .array .int
  | 26 => .array .int
  | 27 => .array .int
  | 28 => .array .int
  | 29 => .int
  | 30 => .array .int
  | 31 => .array .int
  | 32 => .array .int
  | 33 => .int
  | 34 => .array .int
  | 35 => .array .int
  | 36 => .array .int
  | 37 => .array .int
  | 38 => .array .int
  | 39 => .array .int
  | 40 => .array .int
  | 41 => .array .boolean
  | 42 => .array .int
  | 43 => .array .int
  | 44 => .array .int
  | _ => .array .int
abbrev wsX60 : List Cond := u_ws RX6 TX6 46
theorem nmX6 : ∀ a, a < 46 → ∀ b, b < 46 → a ≠ b → (TX6 a).2.1 ≠ (TX6 b).2.1 := by decide +kernel
theorem tyX6_ok : ∀ k, k < 46 → parseFieldDescriptor (TX6 k).2.2.1 = some (tyX6 k) := by decide +kernel
abbrev cX6_init : ByteArray := prog_8_method_1_code
def yX6_init : MethodName := ⟨RX6, "<init>", "()V"⟩
abbrev cX6_thrown : ByteArray := prog_8_method_2_code
def yX6_thrown : MethodName := ⟨RX6, "thrown", "()I"⟩
abbrev cX6_goesWell : ByteArray := prog_8_method_3_code
def yX6_goesWell : MethodName := ⟨RX6, "goesWell", "(I)Z"⟩
abbrev cX6_in : ByteArray := prog_8_method_4_code
def yX6_in : MethodName := ⟨RX6, "in", "(III)Z"⟩
abbrev cX6_isHolder : ByteArray := prog_8_method_5_code
def yX6_isHolder : MethodName := ⟨RX6, "isHolder", "(I)Z"⟩
abbrev cX6_isKind : ByteArray := prog_8_method_6_code
def yX6_isKind : MethodName := ⟨RX6, "isKind", "(I)Z"⟩
abbrev cX6_isReceipt : ByteArray := prog_8_method_7_code
def yX6_isReceipt : MethodName := ⟨RX6, "isReceipt", "(I)Z"⟩
abbrev cX6_isSilo : ByteArray := prog_8_method_8_code
def yX6_isSilo : MethodName := ⟨RX6, "isSilo", "(I)Z"⟩
abbrev cX6_pay : ByteArray := prog_8_method_9_code
def yX6_pay : MethodName := ⟨RX6, "pay", "(IIJ)V"⟩
abbrev cX6_silo : ByteArray := prog_8_method_10_code
def yX6_silo : MethodName := ⟨RX6, "silo", "(I)I"⟩
abbrev cX6_terms : ByteArray := prog_8_method_11_code
def yX6_terms : MethodName := ⟨RX6, "terms", "(III)V"⟩
abbrev cX6_dryOf : ByteArray := prog_8_method_12_code
def yX6_dryOf : MethodName := ⟨RX6, "dryOf", "(II)I"⟩
abbrev cX6_isOf : ByteArray := prog_8_method_13_code
def yX6_isOf : MethodName := ⟨RX6, "isOf", "(III)Z"⟩
abbrev cX6_siloFor : ByteArray := prog_8_method_14_code
def yX6_siloFor : MethodName := ⟨RX6, "siloFor", "(III)I"⟩
abbrev cX6_become : ByteArray := prog_8_method_15_code
def yX6_become : MethodName := ⟨RX6, "become", "(II)V"⟩
abbrev cX6_make : ByteArray := prog_8_method_16_code
def yX6_make : MethodName := ⟨RX6, "make", "(IIII)I"⟩
abbrev cX6_deliver : ByteArray := prog_8_method_17_code
def yX6_deliver : MethodName := ⟨RX6, "deliver", "(IIII)I"⟩
abbrev cX6_splitOff : ByteArray := prog_8_method_18_code
def yX6_splitOff : MethodName := ⟨RX6, "splitOff", "(II)I"⟩
abbrev cX6_split : ByteArray := prog_8_method_19_code
def yX6_split : MethodName := ⟨RX6, "split", "(II)I"⟩
abbrev cX6_sell : ByteArray := prog_8_method_20_code
def yX6_sell : MethodName := ⟨RX6, "sell", "(III)I"⟩
abbrev cX6_pledge : ByteArray := prog_8_method_21_code
def yX6_pledge : MethodName := ⟨RX6, "pledge", "(IIII)I"⟩
abbrev cX6_redeem : ByteArray := prog_8_method_22_code
def yX6_redeem : MethodName := ⟨RX6, "redeem", "(I)I"⟩
abbrev cX6_lose : ByteArray := prog_8_method_23_code
def yX6_lose : MethodName := ⟨RX6, "lose", "(IIZ)V"⟩
abbrev cX6_takeOut : ByteArray := prog_8_method_24_code
def yX6_takeOut : MethodName := ⟨RX6, "takeOut", "(I)I"⟩
abbrev cX6_takeFor : ByteArray := prog_8_method_25_code
def yX6_takeFor : MethodName := ⟨RX6, "takeFor", "(III)I"⟩
abbrev cX6_reweigh : ByteArray := prog_8_method_26_code
def yX6_reweigh : MethodName := ⟨RX6, "reweigh", "(II)I"⟩
abbrev cX6_contract : ByteArray := prog_8_method_27_code
def yX6_contract : MethodName := ⟨RX6, "contract", "(IIIIIII)I"⟩
abbrev cX6_shrink : ByteArray := prog_8_method_28_code
def yX6_shrink : MethodName := ⟨RX6, "shrink", "(I)V"⟩
abbrev cX6_settle : ByteArray := prog_8_method_29_code
def yX6_settle : MethodName := ⟨RX6, "settle", "(I)V"⟩
abbrev cX6_pass : ByteArray := prog_8_method_30_code
def yX6_pass : MethodName := ⟨RX6, "pass", "(I)I"⟩
abbrev cX6_receipt : ByteArray := prog_8_method_31_code
def yX6_receipt : MethodName := ⟨RX6, "receipt", "(II)I"⟩
abbrev cX6_receipts : ByteArray := prog_8_method_32_code
def yX6_receipts : MethodName := ⟨RX6, "receipts", "()I"⟩
abbrev cX6_delivery : ByteArray := prog_8_method_33_code
def yX6_delivery : MethodName := ⟨RX6, "delivery", "(II)I"⟩
abbrev cX6_ofContract : ByteArray := prog_8_method_34_code
def yX6_ofContract : MethodName := ⟨RX6, "ofContract", "(II)I"⟩
abbrev cX6_ofSilo : ByteArray := prog_8_method_35_code
def yX6_ofSilo : MethodName := ⟨RX6, "ofSilo", "(II)I"⟩
abbrev cX6_contentAnew : ByteArray := prog_8_method_36_code
def yX6_contentAnew : MethodName := ⟨RX6, "contentAnew", "(I)I"⟩
abbrev cX6_account : ByteArray := prog_8_method_37_code
def yX6_account : MethodName := ⟨RX6, "account", "(I)J"⟩
abbrev cX6_owes : ByteArray := prog_8_method_38_code
def yX6_owes : MethodName := ⟨RX6, "owes", "(I)I"⟩
abbrev cX6_holds : ByteArray := prog_8_method_39_code
def yX6_holds : MethodName := ⟨RX6, "holds", "(III)I"⟩
abbrev cX6_ownerOn : ByteArray := prog_8_method_40_code
def yX6_ownerOn : MethodName := ⟨RX6, "ownerOn", "(II)I"⟩
def RJx145de : String := "java/io/Serializable"
def TJx145de : u_T := fun k => match k with
  | _ => ("", "", "", false)
def tyJx145de : Nat → FieldType := fun k => match k with
  | _ => .int
abbrev wsJx145de0 : List Cond := u_ws RJx145de TJx145de 0
theorem nmJx145de : ∀ a, a < 0 → ∀ b, b < 0 → a ≠ b → (TJx145de a).2.1 ≠ (TJx145de b).2.1 := by decide +kernel
theorem tyJx145de_ok : ∀ k, k < 0 → parseFieldDescriptor (TJx145de k).2.2.1 = some (tyJx145de k) := by decide +kernel
def RJx8e188 : String := "java/lang/Cloneable"
def TJx8e188 : u_T := fun k => match k with
  | _ => ("", "", "", false)
def tyJx8e188 : Nat → FieldType := fun k => match k with
  | _ => .int
abbrev wsJx8e1880 : List Cond := u_ws RJx8e188 TJx8e188 0
theorem nmJx8e188 : ∀ a, a < 0 → ∀ b, b < 0 → a ≠ b → (TJx8e188 a).2.1 ≠ (TJx8e188 b).2.1 := by decide +kernel
theorem tyJx8e188_ok : ∀ k, k < 0 → parseFieldDescriptor (TJx8e188 k).2.2.1 = some (tyJx8e188 k) := by decide +kernel
def RJxab1ab : String := "java/lang/Iterable"
def TJxab1ab : u_T := fun k => match k with
  | _ => ("", "", "", false)
def tyJxab1ab : Nat → FieldType := fun k => match k with
  | _ => .int
abbrev wsJxab1ab0 : List Cond := u_ws RJxab1ab TJxab1ab 0
theorem nmJxab1ab : ∀ a, a < 0 → ∀ b, b < 0 → a ≠ b → (TJxab1ab a).2.1 ≠ (TJxab1ab b).2.1 := by decide +kernel
theorem tyJxab1ab_ok : ∀ k, k < 0 → parseFieldDescriptor (TJxab1ab k).2.2.1 = some (tyJxab1ab k) := by decide +kernel
def RJ9 : String := "java/lang/Math"
def TJ9 : u_T := fun k => match k with
  | _ => ("", "", "", false)
def tyJ9 : Nat → FieldType := fun k => match k with
  | _ => .int
abbrev wsJ90 : List Cond := u_ws RJ9 TJ9 0
theorem nmJ9 : ∀ a, a < 0 → ∀ b, b < 0 → a ≠ b → (TJ9 a).2.1 ≠ (TJ9 b).2.1 := by decide +kernel
theorem tyJ9_ok : ∀ k, k < 0 → parseFieldDescriptor (TJ9 k).2.2.1 = some (tyJ9 k) := by decide +kernel
abbrev cJ9_max_7cf53 : ByteArray := prog_16_method_65_code
def yJ9_max_7cf53 : MethodName := ⟨RJ9, "max", "(II)I"⟩
abbrev cJ9_min_7cf53 : ByteArray := prog_16_method_69_code
def yJ9_min_7cf53 : MethodName := ⟨RJ9, "min", "(II)I"⟩
def RJ0 : String := "java/lang/String"
def TJ0 : u_T := fun k => match k with
  | _ => ("", "", "", false)
def tyJ0 : Nat → FieldType := fun k => match k with
  | _ => .int
abbrev wsJ00 : List Cond := u_ws RJ0 TJ0 0
theorem nmJ0 : ∀ a, a < 0 → ∀ b, b < 0 → a ≠ b → (TJ0 a).2.1 ≠ (TJ0 b).2.1 := by decide +kernel
theorem tyJ0_ok : ∀ k, k < 0 → parseFieldDescriptor (TJ0 k).2.2.1 = some (tyJ0 k) := by decide +kernel
def RJ10 : String := "java/lang/System"
def TJ10 : u_T := fun k => match k with
  | _ => ("", "", "", false)
def tyJ10 : Nat → FieldType := fun k => match k with
  | _ => .int
abbrev wsJ100 : List Cond := u_ws RJ10 TJ10 0
theorem nmJ10 : ∀ a, a < 0 → ∀ b, b < 0 → a ≠ b → (TJ10 a).2.1 ≠ (TJ10 b).2.1 := by decide +kernel
theorem tyJ10_ok : ∀ k, k < 0 → parseFieldDescriptor (TJ10 k).2.2.1 = some (tyJ10 k) := by decide +kernel
def RJxa1e45 : String := "java/util/AbstractCollection"
def TJxa1e45 : u_T := fun k => match k with
  | _ => ("", "", "", false)
def tyJxa1e45 : Nat → FieldType := fun k => match k with
  | _ => .int
abbrev wsJxa1e450 : List Cond := u_ws RJxa1e45 TJxa1e45 0
theorem nmJxa1e45 : ∀ a, a < 0 → ∀ b, b < 0 → a ≠ b → (TJxa1e45 a).2.1 ≠ (TJxa1e45 b).2.1 := by decide +kernel
theorem tyJxa1e45_ok : ∀ k, k < 0 → parseFieldDescriptor (TJxa1e45 k).2.2.1 = some (tyJxa1e45 k) := by decide +kernel
abbrev cJxa1e45_init_da8c8 : ByteArray := prog_21_method_1_code
def yJxa1e45_init_da8c8 : MethodName := ⟨RJxa1e45, "<init>", "()V"⟩
def RJxc12de : String := "java/util/AbstractList"
def TJxc12de : u_T := fun k => match k with
  | _ => ("", "", "", false)
def tyJxc12de : Nat → FieldType := fun k => match k with
  | _ => .int
abbrev wsJxc12de0 : List Cond := u_ws RJxc12de TJxc12de 0
theorem nmJxc12de : ∀ a, a < 0 → ∀ b, b < 0 → a ≠ b → (TJxc12de a).2.1 ≠ (TJxc12de b).2.1 := by decide +kernel
theorem tyJxc12de_ok : ∀ k, k < 0 → parseFieldDescriptor (TJxc12de k).2.2.1 = some (tyJxc12de k) := by decide +kernel
abbrev cJxc12de_init_da8c8 : ByteArray := prog_22_method_1_code
def yJxc12de_init_da8c8 : MethodName := ⟨RJxc12de, "<init>", "()V"⟩
def RJx4a65c : String := "java/util/ArrayList"
def TJx4a65c : u_T := fun k => match k with
  | 0 => ("java/util/AbstractList", "modCount", "I", false)
  | 1 => ("java/util/ArrayList", "elementData", "[Ljava/lang/Object;", false)
  | _ => ("java/util/ArrayList", "size", "I", false)
def tyJx4a65c : Nat → FieldType := fun k => match k with
  | 0 => .int
  | 1 => .array (.object "java/lang/Object")
  | _ => .int
abbrev wsJx4a65c0 : List Cond := u_ws RJx4a65c TJx4a65c 3
theorem nmJx4a65c : ∀ a, a < 3 → ∀ b, b < 3 → a ≠ b → (TJx4a65c a).2.1 ≠ (TJx4a65c b).2.1 := by decide +kernel
theorem tyJx4a65c_ok : ∀ k, k < 3 → parseFieldDescriptor (TJx4a65c k).2.2.1 = some (tyJx4a65c k) := by decide +kernel
abbrev cJx4a65c_init_da8c8 : ByteArray := prog_23_method_2_code
def yJx4a65c_init_da8c8 : MethodName := ⟨RJx4a65c, "<init>", "()V"⟩
abbrev cJx4a65c_grow_92f84 : ByteArray := prog_23_method_6_code
def yJx4a65c_grow_92f84 : MethodName := ⟨RJx4a65c, "grow", "(I)[Ljava/lang/Object;"⟩
abbrev cJx4a65c_grow_d5877 : ByteArray := prog_23_method_7_code
def yJx4a65c_grow_d5877 : MethodName := ⟨RJx4a65c, "grow", "()[Ljava/lang/Object;"⟩
abbrev cJx4a65c_size_8abf5 : ByteArray := prog_23_method_8_code
def yJx4a65c_size_8abf5 : MethodName := ⟨RJx4a65c, "size", "()I"⟩
abbrev cJx4a65c_elementData_915e3 : ByteArray := prog_23_method_18_code
def yJx4a65c_elementData_915e3 : MethodName := ⟨RJx4a65c, "elementData", "(I)Ljava/lang/Object;"⟩
abbrev cJx4a65c_get_915e3 : ByteArray := prog_23_method_20_code
def yJx4a65c_get_915e3 : MethodName := ⟨RJx4a65c, "get", "(I)Ljava/lang/Object;"⟩
abbrev cJx4a65c_add_72be8 : ByteArray := prog_23_method_24_code
def yJx4a65c_add_72be8 : MethodName := ⟨RJx4a65c, "add", "(Ljava/lang/Object;[Ljava/lang/Object;I)V"⟩
abbrev cJx4a65c_add_9ea2d : ByteArray := prog_23_method_25_code
def yJx4a65c_add_9ea2d : MethodName := ⟨RJx4a65c, "add", "(Ljava/lang/Object;)Z"⟩
def RJ7 : String := "java/util/Arrays"
def TJ7 : u_T := fun k => match k with
  | _ => ("", "", "", false)
def tyJ7 : Nat → FieldType := fun k => match k with
  | _ => .int
abbrev wsJ70 : List Cond := u_ws RJ7 TJ7 0
theorem nmJ7 : ∀ a, a < 0 → ∀ b, b < 0 → a ≠ b → (TJ7 a).2.1 ≠ (TJ7 b).2.1 := by decide +kernel
theorem tyJ7_ok : ∀ k, k < 0 → parseFieldDescriptor (TJ7 k).2.2.1 = some (tyJ7 k) := by decide +kernel
abbrev cJ7_copyOf_1904c : ByteArray := prog_24_method_119_code
def yJ7_copyOf_1904c : MethodName := ⟨RJ7, "copyOf", "([Ljava/lang/Object;I)[Ljava/lang/Object;"⟩
abbrev cJ7_copyOf_6403c : ByteArray := prog_24_method_120_code
def yJ7_copyOf_6403c : MethodName := ⟨RJ7, "copyOf", "([Ljava/lang/Object;ILjava/lang/Class;)[Ljava/lang/Object;"⟩
def RJx5ef63 : String := "java/util/Collection"
def TJx5ef63 : u_T := fun k => match k with
  | _ => ("", "", "", false)
def tyJx5ef63 : Nat → FieldType := fun k => match k with
  | _ => .int
abbrev wsJx5ef630 : List Cond := u_ws RJx5ef63 TJx5ef63 0
theorem nmJx5ef63 : ∀ a, a < 0 → ∀ b, b < 0 → a ≠ b → (TJx5ef63 a).2.1 ≠ (TJx5ef63 b).2.1 := by decide +kernel
theorem tyJx5ef63_ok : ∀ k, k < 0 → parseFieldDescriptor (TJx5ef63 k).2.2.1 = some (tyJx5ef63 k) := by decide +kernel
def RJxbd725 : String := "java/util/List"
def TJxbd725 : u_T := fun k => match k with
  | _ => ("", "", "", false)
def tyJxbd725 : Nat → FieldType := fun k => match k with
  | _ => .int
abbrev wsJxbd7250 : List Cond := u_ws RJxbd725 TJxbd725 0
theorem nmJxbd725 : ∀ a, a < 0 → ∀ b, b < 0 → a ≠ b → (TJxbd725 a).2.1 ≠ (TJxbd725 b).2.1 := by decide +kernel
theorem tyJxbd725_ok : ∀ k, k < 0 → parseFieldDescriptor (TJxbd725 k).2.2.1 = some (tyJxbd725 k) := by decide +kernel
def RJ15 : String := "java/util/Objects"
def TJ15 : u_T := fun k => match k with
  | _ => ("", "", "", false)
def tyJ15 : Nat → FieldType := fun k => match k with
  | _ => .int
abbrev wsJ150 : List Cond := u_ws RJ15 TJ15 0
theorem nmJ15 : ∀ a, a < 0 → ∀ b, b < 0 → a ≠ b → (TJ15 a).2.1 ≠ (TJ15 b).2.1 := by decide +kernel
theorem tyJ15_ok : ∀ k, k < 0 → parseFieldDescriptor (TJ15 k).2.2.1 = some (tyJ15 k) := by decide +kernel
abbrev cJ15_checkIndex_7cf53 : ByteArray := prog_27_method_17_code
def yJ15_checkIndex_7cf53 : MethodName := ⟨RJ15, "checkIndex", "(II)I"⟩
def RJxf0a74 : String := "java/util/RandomAccess"
def TJxf0a74 : u_T := fun k => match k with
  | _ => ("", "", "", false)
def tyJxf0a74 : Nat → FieldType := fun k => match k with
  | _ => .int
abbrev wsJxf0a740 : List Cond := u_ws RJxf0a74 TJxf0a74 0
theorem nmJxf0a74 : ∀ a, a < 0 → ∀ b, b < 0 → a ≠ b → (TJxf0a74 a).2.1 ≠ (TJxf0a74 b).2.1 := by decide +kernel
theorem tyJxf0a74_ok : ∀ k, k < 0 → parseFieldDescriptor (TJxf0a74 k).2.2.1 = some (tyJxf0a74 k) := by decide +kernel
def RJxa66e6 : String := "java/util/SequencedCollection"
def TJxa66e6 : u_T := fun k => match k with
  | _ => ("", "", "", false)
def tyJxa66e6 : Nat → FieldType := fun k => match k with
  | _ => .int
abbrev wsJxa66e60 : List Cond := u_ws RJxa66e6 TJxa66e6 0
theorem nmJxa66e6 : ∀ a, a < 0 → ∀ b, b < 0 → a ≠ b → (TJxa66e6 a).2.1 ≠ (TJxa66e6 b).2.1 := by decide +kernel
theorem tyJxa66e6_ok : ∀ k, k < 0 → parseFieldDescriptor (TJxa66e6 k).2.2.1 = some (tyJxa66e6 k) := by decide +kernel
def RJ8 : String := "jdk/internal/util/ArraysSupport"
def TJ8 : u_T := fun k => match k with
  | _ => ("", "", "", false)
def tyJ8 : Nat → FieldType := fun k => match k with
  | _ => .int
abbrev wsJ80 : List Cond := u_ws RJ8 TJ8 0
theorem nmJ8 : ∀ a, a < 0 → ∀ b, b < 0 → a ≠ b → (TJ8 a).2.1 ≠ (TJ8 b).2.1 := by decide +kernel
theorem tyJ8_ok : ∀ k, k < 0 → parseFieldDescriptor (TJ8 k).2.2.1 = some (tyJ8 k) := by decide +kernel
abbrev cJ8_newLength_cabcc : ByteArray := prog_30_method_27_code
def yJ8_newLength_cabcc : MethodName := ⟨RJ8, "newLength", "(III)I"⟩
abbrev cJ8_hugeLength_7cf53 : ByteArray := prog_30_method_28_code
def yJ8_hugeLength_7cf53 : MethodName := ⟨RJ8, "hugeLength", "(II)I"⟩
def RJ3 : String := "jdk/internal/util/Preconditions"
def TJ3 : u_T := fun k => match k with
  | _ => ("", "", "", false)
def tyJ3 : Nat → FieldType := fun k => match k with
  | _ => .int
abbrev wsJ30 : List Cond := u_ws RJ3 TJ3 0
theorem nmJ3 : ∀ a, a < 0 → ∀ b, b < 0 → a ≠ b → (TJ3 a).2.1 ≠ (TJ3 b).2.1 := by decide +kernel
theorem tyJ3_ok : ∀ k, k < 0 → parseFieldDescriptor (TJ3 k).2.2.1 = some (tyJ3 k) := by decide +kernel
abbrev cJ3_checkIndex_8e157 : ByteArray := prog_31_method_11_code
def yJ3_checkIndex_8e157 : MethodName := ⟨RJ3, "checkIndex", "(IILjava/util/function/BiFunction;)I"⟩
def RL : String := "GrainledgerLaw"
abbrev cL_silo : ByteArray := method_3_code
def yL_silo : MethodName := ⟨RL, "silo", "(LGrainledger;I[J)I"⟩
abbrev cL_terms : ByteArray := method_4_code
def yL_terms : MethodName := ⟨RL, "terms", "(LGrainledger;III)I"⟩
abbrev cL_deliver : ByteArray := method_5_code
def yL_deliver : MethodName := ⟨RL, "deliver", "(LGrainledger;IIII[J)I"⟩
abbrev cL_split : ByteArray := method_6_code
def yL_split : MethodName := ⟨RL, "split", "(LGrainledger;II[J)I"⟩
abbrev cL_sell : ByteArray := method_7_code
def yL_sell : MethodName := ⟨RL, "sell", "(LGrainledger;III[J)I"⟩
abbrev cL_pledge : ByteArray := method_8_code
def yL_pledge : MethodName := ⟨RL, "pledge", "(LGrainledger;IIII[J)I"⟩
abbrev cL_redeem : ByteArray := method_9_code
def yL_redeem : MethodName := ⟨RL, "redeem", "(LGrainledger;I[J)I"⟩
abbrev cL_takeOut : ByteArray := method_10_code
def yL_takeOut : MethodName := ⟨RL, "takeOut", "(LGrainledger;I[J)I"⟩
abbrev cL_reweigh : ByteArray := method_11_code
def yL_reweigh : MethodName := ⟨RL, "reweigh", "(LGrainledger;II[J)I"⟩
abbrev cL_contract : ByteArray := method_12_code
def yL_contract : MethodName := ⟨RL, "contract", "(LGrainledger;IIIIIII[J)I"⟩
abbrev cL_pass : ByteArray := method_13_code
def yL_pass : MethodName := ⟨RL, "pass", "(LGrainledger;I[J)I"⟩
abbrev cL_receipt : ByteArray := method_14_code
def yL_receipt : MethodName := ⟨RL, "receipt", "(LGrainledger;II[J)I"⟩
abbrev cL_delivery : ByteArray := method_15_code
def yL_delivery : MethodName := ⟨RL, "delivery", "(LGrainledger;II[J)I"⟩
abbrev cL_ofContract : ByteArray := method_16_code
def yL_ofContract : MethodName := ⟨RL, "ofContract", "(LGrainledger;II[J)I"⟩
abbrev cL_ofSilo : ByteArray := method_17_code
def yL_ofSilo : MethodName := ⟨RL, "ofSilo", "(LGrainledger;II[J)I"⟩
abbrev cL_contentAnew : ByteArray := method_18_code
def yL_contentAnew : MethodName := ⟨RL, "contentAnew", "(LGrainledger;I[J)I"⟩
abbrev cL_account : ByteArray := method_19_code
def yL_account : MethodName := ⟨RL, "account", "(LGrainledger;I[J)I"⟩
abbrev cL_owes : ByteArray := method_20_code
def yL_owes : MethodName := ⟨RL, "owes", "(LGrainledger;I[J)I"⟩
abbrev cL_holds : ByteArray := method_21_code
def yL_holds : MethodName := ⟨RL, "holds", "(LGrainledger;III[J)I"⟩
abbrev cL_ownerOn : ByteArray := method_22_code
def yL_ownerOn : MethodName := ⟨RL, "ownerOn", "(LGrainledger;II[J)I"⟩
abbrev cL_law : ByteArray := code
def yL_law : MethodName := ⟨RL, "law", "([I)Z"⟩
abbrev vwCl : List vw_C := [(RJx4a65c, TJx4a65c, 3), (RX0, TX0, 11), (RX1, TX1, 7), (RX2, TX2, 9), (RX3, TX3, 6), (RX4, TX4, 3), (RX5, TX5, 11), (RX6, TX6, 46)]
