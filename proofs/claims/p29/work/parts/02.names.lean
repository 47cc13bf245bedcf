def RX0 : String := "ApprovalGrid$Charge"
def TX0 : u_T := fun k => match k with
  | 0 => ("ApprovalGrid$Numbered", "number", "I", true)
  | 1 => ("ApprovalGrid$Charge", "person", "LApprovalGrid$Person;", true)
  | 2 => ("ApprovalGrid$Charge", "kind", "I", true)
  | 3 => ("ApprovalGrid$Charge", "land", "I", true)
  | 4 => ("ApprovalGrid$Charge", "amount", "I", true)
  | 5 => ("ApprovalGrid$Charge", "text", "I", true)
  | 6 => ("ApprovalGrid$Charge", "day", "I", true)
  | 7 => ("ApprovalGrid$Charge", "trip", "LApprovalGrid$Trip;", false)
  | 8 => ("ApprovalGrid$Charge", "state", "I", false)
  | 9 => ("ApprovalGrid$Charge", "receipt", "LApprovalGrid$Receipt;", false)
  | 10 => ("ApprovalGrid$Charge", "steps", "I", false)
  | 11 => ("ApprovalGrid$Charge", "wasMissing", "Z", false)
  | _ => ("ApprovalGrid$Charge", "splits", "I", false)
def tyX0 : Nat → FieldType := fun k => match k with
  | 0 => .int
  | 1 => .object "ApprovalGrid$Person"
  | 2 => .int
  | 3 => .int
  | 4 => .int
  | 5 => .int
  | 6 => .int
  | 7 => .object "ApprovalGrid$Trip"
  | 8 => .int
  | 9 => .object "ApprovalGrid$Receipt"
  | 10 => .int
  | 11 => .boolean
  | _ => .int
abbrev wsX00 : List Cond := u_ws RX0 TX0 13
theorem nmX0 : ∀ a, a < 13 → ∀ b, b < 13 → a ≠ b → (TX0 a).2.1 ≠ (TX0 b).2.1 := by decide +kernel
theorem tyX0_ok : ∀ k, k < 13 → parseFieldDescriptor (TX0 k).2.2.1 = some (tyX0 k) := by decide +kernel
abbrev cX0_init : ByteArray := prog_2_method_1_code
def yX0_init : MethodName := ⟨RX0, "<init>", "(ILApprovalGrid$Person;IIIII)V"⟩
abbrev cX0_wasSplitFrom : ByteArray := prog_2_method_2_code
def yX0_wasSplitFrom : MethodName := ⟨RX0, "wasSplitFrom", "(LApprovalGrid$Receipt;)Z"⟩
abbrev cX0_stepsNeeded : ByteArray := prog_2_method_4_code
def yX0_stepsNeeded : MethodName := ⟨RX0, "stepsNeeded", "()I"⟩
abbrev cX0_bossOfNextStep : ByteArray := prog_2_method_5_code
def yX0_bossOfNextStep : MethodName := ⟨RX0, "bossOfNextStep", "()LApprovalGrid$Person;"⟩
def RX1 : String := "ApprovalGrid$Numbered"
def TX1 : u_T := fun k => match k with
  | _ => ("", "", "", false)
def tyX1 : Nat → FieldType := fun k => match k with
  | _ => .int
abbrev wsX10 : List Cond := u_ws RX1 TX1 0
theorem nmX1 : ∀ a, a < 0 → ∀ b, b < 0 → a ≠ b → (TX1 a).2.1 ≠ (TX1 b).2.1 := by decide +kernel
theorem tyX1_ok : ∀ k, k < 0 → parseFieldDescriptor (TX1 k).2.2.1 = some (tyX1 k) := by decide +kernel
abbrev cX1_init : ByteArray := prog_3_method_1_code
def yX1_init : MethodName := ⟨RX1, "<init>", "(I)V"⟩
def RX2 : String := "ApprovalGrid$Person"
def TX2 : u_T := fun k => match k with
  | 0 => ("ApprovalGrid$Numbered", "number", "I", true)
  | 1 => ("ApprovalGrid$Person", "boss", "LApprovalGrid$Person;", true)
  | 2 => ("ApprovalGrid$Person", "trust", "I", false)
  | 3 => ("ApprovalGrid$Person", "points", "I", false)
  | 4 => ("ApprovalGrid$Person", "awayUntil", "I", false)
  | _ => ("ApprovalGrid$Person", "standIn", "LApprovalGrid$Person;", false)
def tyX2 : Nat → FieldType := fun k => match k with
  | 0 => .int
  | 1 => .object "ApprovalGrid$Person"
  | 2 => .int
  | 3 => .int
  | 4 => .int
  | _ => .object "ApprovalGrid$Person"
abbrev wsX20 : List Cond := u_ws RX2 TX2 6
theorem nmX2 : ∀ a, a < 6 → ∀ b, b < 6 → a ≠ b → (TX2 a).2.1 ≠ (TX2 b).2.1 := by decide +kernel
theorem tyX2_ok : ∀ k, k < 6 → parseFieldDescriptor (TX2 k).2.2.1 = some (tyX2 k) := by decide +kernel
abbrev cX2_init : ByteArray := prog_4_method_1_code
def yX2_init : MethodName := ⟨RX2, "<init>", "(ILApprovalGrid$Person;)V"⟩
abbrev cX2_isAwayOn : ByteArray := prog_4_method_2_code
def yX2_isAwayOn : MethodName := ⟨RX2, "isAwayOn", "(I)Z"⟩
abbrev cX2_gainPoint : ByteArray := prog_4_method_3_code
def yX2_gainPoint : MethodName := ⟨RX2, "gainPoint", "()V"⟩
abbrev cX2_loseTrust : ByteArray := prog_4_method_4_code
def yX2_loseTrust : MethodName := ⟨RX2, "loseTrust", "()V"⟩
def RX3 : String := "ApprovalGrid$Receipt"
def TX3 : u_T := fun k => match k with
  | 0 => ("ApprovalGrid$Numbered", "number", "I", true)
  | 1 => ("ApprovalGrid$Receipt", "amount", "I", true)
  | 2 => ("ApprovalGrid$Receipt", "day", "I", true)
  | 3 => ("ApprovalGrid$Receipt", "text", "I", true)
  | _ => ("ApprovalGrid$Receipt", "charge", "LApprovalGrid$Charge;", false)
def tyX3 : Nat → FieldType := fun k => match k with
  | 0 => .int
  | 1 => .int
  | 2 => .int
  | 3 => .int
  | _ => .object "ApprovalGrid$Charge"
abbrev wsX30 : List Cond := u_ws RX3 TX3 5
theorem nmX3 : ∀ a, a < 5 → ∀ b, b < 5 → a ≠ b → (TX3 a).2.1 ≠ (TX3 b).2.1 := by decide +kernel
theorem tyX3_ok : ∀ k, k < 5 → parseFieldDescriptor (TX3 k).2.2.1 = some (tyX3 k) := by decide +kernel
abbrev cX3_init : ByteArray := prog_5_method_1_code
def yX3_init : MethodName := ⟨RX3, "<init>", "(IIII)V"⟩
def RX4 : String := "ApprovalGrid$Table"
def TX4 : u_T := fun k => match k with
  | 0 => ("ApprovalGrid$Table", "rows", "I", true)
  | 1 => ("ApprovalGrid$Table", "columns", "I", true)
  | _ => ("ApprovalGrid$Table", "cells", "[I", true)
def tyX4 : Nat → FieldType := fun k => match k with
  | 0 => .int
  | 1 => .int
  | _ => .array .int
abbrev wsX40 : List Cond := u_ws RX4 TX4 3
theorem nmX4 : ∀ a, a < 3 → ∀ b, b < 3 → a ≠ b → (TX4 a).2.1 ≠ (TX4 b).2.1 := by decide +kernel
theorem tyX4_ok : ∀ k, k < 3 → parseFieldDescriptor (TX4 k).2.2.1 = some (tyX4 k) := by decide +kernel
abbrev cX4_init : ByteArray := prog_6_method_1_code
def yX4_init : MethodName := ⟨RX4, "<init>", "(II)V"⟩
abbrev cX4_at : ByteArray := prog_6_method_2_code
def yX4_at : MethodName := ⟨RX4, "at", "(II)I"⟩
abbrev cX4_replace : ByteArray := prog_6_method_3_code
def yX4_replace : MethodName := ⟨RX4, "replace", "(III)I"⟩
def RX5 : String := "ApprovalGrid$Trip"
def TX5 : u_T := fun k => match k with
  | _ => ("", "", "", false)
def tyX5 : Nat → FieldType := fun k => match k with
  | _ => .int
abbrev wsX50 : List Cond := u_ws RX5 TX5 0
theorem nmX5 : ∀ a, a < 0 → ∀ b, b < 0 → a ≠ b → (TX5 a).2.1 ≠ (TX5 b).2.1 := by decide +kernel
theorem tyX5_ok : ∀ k, k < 0 → parseFieldDescriptor (TX5 k).2.2.1 = some (tyX5 k) := by decide +kernel
def RX6 : String := "ApprovalGrid"
def TX6 : u_T := fun k => match k with
  | 0 => ("ApprovalGrid", "people", "Ljava/util/ArrayList;", true)
  | 1 => ("ApprovalGrid", "trips", "Ljava/util/ArrayList;", true)
  | 2 => ("ApprovalGrid", "charges", "Ljava/util/ArrayList;", true)
  | 3 => ("ApprovalGrid", "receipts", "Ljava/util/ArrayList;", true)
  | 4 => ("ApprovalGrid", "limits", "LApprovalGrid$Table;", true)
  | 5 => ("ApprovalGrid", "plans", "LApprovalGrid$Table;", true)
  | 6 => ("ApprovalGrid", "carries", "LApprovalGrid$Table;", true)
  | 7 => ("ApprovalGrid", "rates", "LApprovalGrid$Table;", true)
  | _ => ("ApprovalGrid", "today", "I", false)
def tyX6 : Nat → FieldType := fun k => match k with
  | 0 => .object "java/util/ArrayList"
  | 1 => .object "java/util/ArrayList"
  | 2 => .object "java/util/ArrayList"
  | 3 => .object "java/util/ArrayList"
  | 4 => .object "ApprovalGrid$Table"
  | 5 => .object "ApprovalGrid$Table"
  | 6 => .object "ApprovalGrid$Table"
  | 7 => .object "ApprovalGrid$Table"
  | _ => .int
abbrev wsX60 : List Cond := u_ws RX6 TX6 9
theorem nmX6 : ∀ a, a < 9 → ∀ b, b < 9 → a ≠ b → (TX6 a).2.1 ≠ (TX6 b).2.1 := by decide +kernel
theorem tyX6_ok : ∀ k, k < 9 → parseFieldDescriptor (TX6 k).2.2.1 = some (tyX6 k) := by decide +kernel
abbrev cX6_init : ByteArray := prog_1_method_1_code
def yX6_init : MethodName := ⟨RX6, "<init>", "()V"⟩
abbrev cX6_person : ByteArray := prog_1_method_2_code
def yX6_person : MethodName := ⟨RX6, "person", "(I)I"⟩
abbrev cX6_limit : ByteArray := prog_1_method_3_code
def yX6_limit : MethodName := ⟨RX6, "limit", "(III)I"⟩
abbrev cX6_away : ByteArray := prog_1_method_4_code
def yX6_away : MethodName := ⟨RX6, "away", "(III)Z"⟩
abbrev cX6_ofPerson : ByteArray := prog_1_method_6_code
def yX6_ofPerson : MethodName := ⟨RX6, "ofPerson", "(II)I"⟩
abbrev cX6_maySpend : ByteArray := prog_1_method_7_code
def yX6_maySpend : MethodName := ⟨RX6, "maySpend", "(III)I"⟩
abbrev cX6_plan : ByteArray := prog_1_method_8_code
def yX6_plan : MethodName := ⟨RX6, "plan", "(III)I"⟩
abbrev cX6_carry : ByteArray := prog_1_method_9_code
def yX6_carry : MethodName := ⟨RX6, "carry", "(II)I"⟩
abbrev cX6_rate : ByteArray := prog_1_method_10_code
def yX6_rate : MethodName := ⟨RX6, "rate", "(III)I"⟩
abbrev cX6_left : ByteArray := prog_1_method_11_code
def yX6_left : MethodName := ⟨RX6, "left", "(II)I"⟩
abbrev cX6_charge : ByteArray := prog_1_method_12_code
def yX6_charge : MethodName := ⟨RX6, "charge", "(IIIII)I"⟩
abbrev cX6_receipt : ByteArray := prog_1_method_13_code
def yX6_receipt : MethodName := ⟨RX6, "receipt", "(III)I"⟩
abbrev cX6_approve : ByteArray := prog_1_method_15_code
def yX6_approve : MethodName := ⟨RX6, "approve", "(II)I"⟩
abbrev cX6_refuse : ByteArray := prog_1_method_16_code
def yX6_refuse : MethodName := ⟨RX6, "refuse", "(II)I"⟩
abbrev cX6_settle : ByteArray := prog_1_method_17_code
def yX6_settle : MethodName := ⟨RX6, "settle", "(IZ)I"⟩
abbrev cX6_ofCharge : ByteArray := prog_1_method_18_code
def yX6_ofCharge : MethodName := ⟨RX6, "ofCharge", "(II)I"⟩
abbrev cX6_ofReceipt : ByteArray := prog_1_method_19_code
def yX6_ofReceipt : MethodName := ⟨RX6, "ofReceipt", "(I)I"⟩
abbrev cX6_score : ByteArray := prog_1_method_20_code
def yX6_score : MethodName := ⟨RX6, "score", "(II)I"⟩
abbrev cX6_day : ByteArray := prog_1_method_21_code
def yX6_day : MethodName := ⟨RX6, "day", "()I"⟩
abbrev cX6_many : ByteArray := prog_1_method_22_code
def yX6_many : MethodName := ⟨RX6, "many", "(I)I"⟩
abbrev cX6_wouldMatch : ByteArray := prog_1_method_24_code
def yX6_wouldMatch : MethodName := ⟨RX6, "wouldMatch", "(III)I"⟩
abbrev cX6_trustBehind : ByteArray := prog_1_method_25_code
def yX6_trustBehind : MethodName := ⟨RX6, "trustBehind", "(II)I"⟩
abbrev cX6_leftWith : ByteArray := prog_1_method_26_code
def yX6_leftWith : MethodName := ⟨RX6, "leftWith", "(II)I"⟩
abbrev cX6_digest : ByteArray := prog_1_method_27_code
def yX6_digest : MethodName := ⟨RX6, "digest", "()J"⟩
abbrev cX6_personAt : ByteArray := prog_1_method_28_code
def yX6_personAt : MethodName := ⟨RX6, "personAt", "(I)LApprovalGrid$Person;"⟩
abbrev cX6_chargeAt : ByteArray := prog_1_method_29_code
def yX6_chargeAt : MethodName := ⟨RX6, "chargeAt", "(I)LApprovalGrid$Charge;"⟩
abbrev cX6_receiptAt : ByteArray := prog_1_method_30_code
def yX6_receiptAt : MethodName := ⟨RX6, "receiptAt", "(I)LApprovalGrid$Receipt;"⟩
abbrev cX6_checkKind : ByteArray := prog_1_method_31_code
def yX6_checkKind : MethodName := ⟨RX6, "checkKind", "(I)V"⟩
abbrev cX6_checkLand : ByteArray := prog_1_method_32_code
def yX6_checkLand : MethodName := ⟨RX6, "checkLand", "(I)V"⟩
abbrev cX6_checkPeriod : ByteArray := prog_1_method_33_code
def yX6_checkPeriod : MethodName := ⟨RX6, "checkPeriod", "(I)V"⟩
abbrev cX6_checkRange : ByteArray := prog_1_method_34_code
def yX6_checkRange : MethodName := ⟨RX6, "checkRange", "(III)V"⟩
abbrev cX6_checkReceipt : ByteArray := prog_1_method_35_code
def yX6_checkReceipt : MethodName := ⟨RX6, "checkReceipt", "(III)V"⟩
abbrev cX6_checkState : ByteArray := prog_1_method_36_code
def yX6_checkState : MethodName := ⟨RX6, "checkState", "(LApprovalGrid$Charge;I)V"⟩
abbrev cX6_checkNextApprover : ByteArray := prog_1_method_37_code
def yX6_checkNextApprover : MethodName := ⟨RX6, "checkNextApprover", "(LApprovalGrid$Charge;LApprovalGrid$Person;)V"⟩
abbrev cX6_numberOf : ByteArray := prog_1_method_38_code
def yX6_numberOf : MethodName := ⟨RX6, "numberOf", "(LApprovalGrid$Numbered;)I"⟩
abbrev cX6_tripToday : ByteArray := prog_1_method_39_code
def yX6_tripToday : MethodName := ⟨RX6, "tripToday", "(LApprovalGrid$Person;I)LApprovalGrid$Trip;"⟩
abbrev cX6_spendableBy : ByteArray := prog_1_method_40_code
def yX6_spendableBy : MethodName := ⟨RX6, "spendableBy", "(LApprovalGrid$Person;II)I"⟩
abbrev cX6_spentOnTrip : ByteArray := prog_1_method_41_code
def yX6_spentOnTrip : MethodName := ⟨RX6, "spentOnTrip", "(LApprovalGrid$Trip;)I"⟩
abbrev cX6_spentOffTrips : ByteArray := prog_1_method_42_code
def yX6_spentOffTrips : MethodName := ⟨RX6, "spentOffTrips", "(LApprovalGrid$Person;I)I"⟩
abbrev cX6_leftOf : ByteArray := prog_1_method_43_code
def yX6_leftOf : MethodName := ⟨RX6, "leftOf", "(IIZ)I"⟩
abbrev cX6_costIn : ByteArray := prog_1_method_44_code
def yX6_costIn : MethodName := ⟨RX6, "costIn", "(IIZ)I"⟩
abbrev cX6_costOf : ByteArray := prog_1_method_45_code
def yX6_costOf : MethodName := ⟨RX6, "costOf", "(LApprovalGrid$Charge;Z)I"⟩
abbrev cX6_taxOf : ByteArray := prog_1_method_46_code
def yX6_taxOf : MethodName := ⟨RX6, "taxOf", "(LApprovalGrid$Charge;)I"⟩
abbrev cX6_matchPairs : ByteArray := prog_1_method_47_code
def yX6_matchPairs : MethodName := ⟨RX6, "matchPairs", "()V"⟩
abbrev cX6_matchBestPair : ByteArray := prog_1_method_48_code
def yX6_matchBestPair : MethodName := ⟨RX6, "matchBestPair", "()Z"⟩
abbrev cX6_bestReceiptFor : ByteArray := prog_1_method_49_code
def yX6_bestReceiptFor : MethodName := ⟨RX6, "bestReceiptFor", "(LApprovalGrid$Charge;)LApprovalGrid$Receipt;"⟩
abbrev cX6_match : ByteArray := prog_1_method_50_code
def yX6_match : MethodName := ⟨RX6, "match", "(LApprovalGrid$Charge;LApprovalGrid$Receipt;)V"⟩
abbrev cX6_goTogether : ByteArray := prog_1_method_51_code
def yX6_goTogether : MethodName := ⟨RX6, "goTogether", "(LApprovalGrid$Charge;LApprovalGrid$Receipt;)Z"⟩
abbrev cX6_scoreOf : ByteArray := prog_1_method_52_code
def yX6_scoreOf : MethodName := ⟨RX6, "scoreOf", "(LApprovalGrid$Charge;LApprovalGrid$Receipt;)I"⟩
abbrev cX6_passSteps : ByteArray := prog_1_method_53_code
def yX6_passSteps : MethodName := ⟨RX6, "passSteps", "()V"⟩
abbrev cX6_passStepsOf : ByteArray := prog_1_method_54_code
def yX6_passStepsOf : MethodName := ⟨RX6, "passStepsOf", "(LApprovalGrid$Charge;)V"⟩
abbrev cX6_nextApproverOf : ByteArray := prog_1_method_55_code
def yX6_nextApproverOf : MethodName := ⟨RX6, "nextApproverOf", "(LApprovalGrid$Charge;)LApprovalGrid$Person;"⟩
abbrev cX6_isOverdue : ByteArray := prog_1_method_56_code
def yX6_isOverdue : MethodName := ⟨RX6, "isOverdue", "(LApprovalGrid$Charge;)Z"⟩
abbrev cX6_bearDelay : ByteArray := prog_1_method_57_code
def yX6_bearDelay : MethodName := ⟨RX6, "bearDelay", "(LApprovalGrid$Charge;)V"⟩
abbrev cX6_trustLostBy : ByteArray := prog_1_method_58_code
def yX6_trustLostBy : MethodName := ⟨RX6, "trustLostBy", "(LApprovalGrid$Charge;I)I"⟩
abbrev cX6_countInState : ByteArray := prog_1_method_59_code
def yX6_countInState : MethodName := ⟨RX6, "countInState", "(I)I"⟩
abbrev cX6_countOpenOf : ByteArray := prog_1_method_60_code
def yX6_countOpenOf : MethodName := ⟨RX6, "countOpenOf", "(LApprovalGrid$Person;)I"⟩
abbrev cX6_repaidAmountOf : ByteArray := prog_1_method_61_code
def yX6_repaidAmountOf : MethodName := ⟨RX6, "repaidAmountOf", "(LApprovalGrid$Person;)I"⟩
abbrev cX6_countToApproveBy : ByteArray := prog_1_method_62_code
def yX6_countToApproveBy : MethodName := ⟨RX6, "countToApproveBy", "(LApprovalGrid$Person;)I"⟩
abbrev cX6_countFreeReceipts : ByteArray := prog_1_method_63_code
def yX6_countFreeReceipts : MethodName := ⟨RX6, "countFreeReceipts", "()I"⟩
abbrev cX6_amountNotRepaid : ByteArray := prog_1_method_64_code
def yX6_amountNotRepaid : MethodName := ⟨RX6, "amountNotRepaid", "()I"⟩
abbrev cX6_costOfAll : ByteArray := prog_1_method_65_code
def yX6_costOfAll : MethodName := ⟨RX6, "costOfAll", "()I"⟩
abbrev cX6_mixed : ByteArray := prog_1_method_66_code
def yX6_mixed : MethodName := ⟨RX6, "mixed", "(JI)J"⟩
abbrev cX6_withPeople : ByteArray := prog_1_method_67_code
def yX6_withPeople : MethodName := ⟨RX6, "withPeople", "(J)J"⟩
abbrev cX6_withBudgets : ByteArray := prog_1_method_68_code
def yX6_withBudgets : MethodName := ⟨RX6, "withBudgets", "(J)J"⟩
abbrev cX6_withCharges : ByteArray := prog_1_method_69_code
def yX6_withCharges : MethodName := ⟨RX6, "withCharges", "(J)J"⟩
def RX7 : String := "ApprovalGridModel$Charge"
def TX7 : u_T := fun k => match k with
  | _ => ("", "", "", false)
def tyX7 : Nat → FieldType := fun k => match k with
  | _ => .int
abbrev wsX70 : List Cond := u_ws RX7 TX7 0
theorem nmX7 : ∀ a, a < 0 → ∀ b, b < 0 → a ≠ b → (TX7 a).2.1 ≠ (TX7 b).2.1 := by decide +kernel
theorem tyX7_ok : ∀ k, k < 0 → parseFieldDescriptor (TX7 k).2.2.1 = some (tyX7 k) := by decide +kernel
def RX8 : String := "ApprovalGridModel$Desk"
def TX8 : u_T := fun k => match k with
  | _ => ("", "", "", false)
def tyX8 : Nat → FieldType := fun k => match k with
  | _ => .int
abbrev wsX80 : List Cond := u_ws RX8 TX8 0
theorem nmX8 : ∀ a, a < 0 → ∀ b, b < 0 → a ≠ b → (TX8 a).2.1 ≠ (TX8 b).2.1 := by decide +kernel
theorem tyX8_ok : ∀ k, k < 0 → parseFieldDescriptor (TX8 k).2.2.1 = some (tyX8 k) := by decide +kernel
def RX9 : String := "ApprovalGridModel$Person"
def TX9 : u_T := fun k => match k with
  | _ => ("", "", "", false)
def tyX9 : Nat → FieldType := fun k => match k with
  | _ => .int
abbrev wsX90 : List Cond := u_ws RX9 TX9 0
theorem nmX9 : ∀ a, a < 0 → ∀ b, b < 0 → a ≠ b → (TX9 a).2.1 ≠ (TX9 b).2.1 := by decide +kernel
theorem tyX9_ok : ∀ k, k < 0 → parseFieldDescriptor (TX9 k).2.2.1 = some (tyX9 k) := by decide +kernel
def RX10 : String := "ApprovalGridModel$Receipt"
def TX10 : u_T := fun k => match k with
  | _ => ("", "", "", false)
def tyX10 : Nat → FieldType := fun k => match k with
  | _ => .int
abbrev wsX100 : List Cond := u_ws RX10 TX10 0
theorem nmX10 : ∀ a, a < 0 → ∀ b, b < 0 → a ≠ b → (TX10 a).2.1 ≠ (TX10 b).2.1 := by decide +kernel
theorem tyX10_ok : ∀ k, k < 0 → parseFieldDescriptor (TX10 k).2.2.1 = some (tyX10 k) := by decide +kernel
def RX11 : String := "ApprovalGridModel$Trip"
def TX11 : u_T := fun k => match k with
  | _ => ("", "", "", false)
def tyX11 : Nat → FieldType := fun k => match k with
  | _ => .int
abbrev wsX110 : List Cond := u_ws RX11 TX11 0
theorem nmX11 : ∀ a, a < 0 → ∀ b, b < 0 → a ≠ b → (TX11 a).2.1 ≠ (TX11 b).2.1 := by decide +kernel
theorem tyX11_ok : ∀ k, k < 0 → parseFieldDescriptor (TX11 k).2.2.1 = some (tyX11 k) := by decide +kernel
def RX12 : String := "ApprovalGridModel"
def TX12 : u_T := fun k => match k with
  | _ => ("", "", "", false)
def tyX12 : Nat → FieldType := fun k => match k with
  | _ => .int
abbrev wsX120 : List Cond := u_ws RX12 TX12 0
theorem nmX12 : ∀ a, a < 0 → ∀ b, b < 0 → a ≠ b → (TX12 a).2.1 ≠ (TX12 b).2.1 := by decide +kernel
theorem tyX12_ok : ∀ k, k < 0 → parseFieldDescriptor (TX12 k).2.2.1 = some (tyX12 k) := by decide +kernel
def RJx145de : String := "java/io/Serializable"
def TJx145de : u_T := fun k => match k with
  | _ => ("", "", "", false)
def tyJx145de : Nat → FieldType := fun k => match k with
  | _ => .int
abbrev wsJx145de0 : List Cond := u_ws RJx145de TJx145de 0
theorem nmJx145de : ∀ a, a < 0 → ∀ b, b < 0 → a ≠ b → (TJx145de a).2.1 ≠ (TJx145de b).2.1 := by decide +kernel
theorem tyJx145de_ok : ∀ k, k < 0 → parseFieldDescriptor (TJx145de k).2.2.1 = some (tyJx145de k) := by decide +kernel
def RJx8e188 : String := "java/lang/Cloneable"
def TJx8e188 : u_T := fun k => match k with
  | _ => ("", "", "", false)
def tyJx8e188 : Nat → FieldType := fun k => match k with
  | _ => .int
abbrev wsJx8e1880 : List Cond := u_ws RJx8e188 TJx8e188 0
theorem nmJx8e188 : ∀ a, a < 0 → ∀ b, b < 0 → a ≠ b → (TJx8e188 a).2.1 ≠ (TJx8e188 b).2.1 := by decide +kernel
theorem tyJx8e188_ok : ∀ k, k < 0 → parseFieldDescriptor (TJx8e188 k).2.2.1 = some (tyJx8e188 k) := by decide +kernel
def RJxab1ab : String := "java/lang/Iterable"
def TJxab1ab : u_T := fun k => match k with
  | _ => ("", "", "", false)
def tyJxab1ab : Nat → FieldType := fun k => match k with
  | _ => .int
abbrev wsJxab1ab0 : List Cond := u_ws RJxab1ab TJxab1ab 0
theorem nmJxab1ab : ∀ a, a < 0 → ∀ b, b < 0 → a ≠ b → (TJxab1ab a).2.1 ≠ (TJxab1ab b).2.1 := by decide +kernel
theorem tyJxab1ab_ok : ∀ k, k < 0 → parseFieldDescriptor (TJxab1ab k).2.2.1 = some (tyJxab1ab k) := by decide +kernel
def RJ9 : String := "java/lang/Math"
def TJ9 : u_T := fun k => match k with
  | _ => ("", "", "", false)
def tyJ9 : Nat → FieldType := fun k => match k with
  | _ => .int
abbrev wsJ90 : List Cond := u_ws RJ9 TJ9 0
theorem nmJ9 : ∀ a, a < 0 → ∀ b, b < 0 → a ≠ b → (TJ9 a).2.1 ≠ (TJ9 b).2.1 := by decide +kernel
theorem tyJ9_ok : ∀ k, k < 0 → parseFieldDescriptor (TJ9 k).2.2.1 = some (tyJ9 k) := by decide +kernel
abbrev cJ9_abs_0f7a4 : ByteArray := prog_22_method_59_code
def yJ9_abs_0f7a4 : MethodName := ⟨RJ9, "abs", "(I)I"⟩
abbrev cJ9_max_7cf53 : ByteArray := prog_22_method_65_code
def yJ9_max_7cf53 : MethodName := ⟨RJ9, "max", "(II)I"⟩
abbrev cJ9_min_7cf53 : ByteArray := prog_22_method_69_code
def yJ9_min_7cf53 : MethodName := ⟨RJ9, "min", "(II)I"⟩
def RJ0 : String := "java/lang/String"
def TJ0 : u_T := fun k => match k with
  | _ => ("", "", "", false)
def tyJ0 : Nat → FieldType := fun k => match k with
  | _ => .int
abbrev wsJ00 : List Cond := u_ws RJ0 TJ0 0
theorem nmJ0 : ∀ a, a < 0 → ∀ b, b < 0 → a ≠ b → (TJ0 a).2.1 ≠ (TJ0 b).2.1 := by decide +kernel
theorem tyJ0_ok : ∀ k, k < 0 → parseFieldDescriptor (TJ0 k).2.2.1 = some (tyJ0 k) := by decide +kernel
def RJ10 : String := "java/lang/System"
def TJ10 : u_T := fun k => match k with
  | _ => ("", "", "", false)
def tyJ10 : Nat → FieldType := fun k => match k with
  | _ => .int
abbrev wsJ100 : List Cond := u_ws RJ10 TJ10 0
theorem nmJ10 : ∀ a, a < 0 → ∀ b, b < 0 → a ≠ b → (TJ10 a).2.1 ≠ (TJ10 b).2.1 := by decide +kernel
theorem tyJ10_ok : ∀ k, k < 0 → parseFieldDescriptor (TJ10 k).2.2.1 = some (tyJ10 k) := by decide +kernel
def RJxa1e45 : String := "java/util/AbstractCollection"
def TJxa1e45 : u_T := fun k => match k with
  | _ => ("", "", "", false)
def tyJxa1e45 : Nat → FieldType := fun k => match k with
  | _ => .int
abbrev wsJxa1e450 : List Cond := u_ws RJxa1e45 TJxa1e45 0
theorem nmJxa1e45 : ∀ a, a < 0 → ∀ b, b < 0 → a ≠ b → (TJxa1e45 a).2.1 ≠ (TJxa1e45 b).2.1 := by decide +kernel
theorem tyJxa1e45_ok : ∀ k, k < 0 → parseFieldDescriptor (TJxa1e45 k).2.2.1 = some (tyJxa1e45 k) := by decide +kernel
abbrev cJxa1e45_init_da8c8 : ByteArray := prog_27_method_1_code
def yJxa1e45_init_da8c8 : MethodName := ⟨RJxa1e45, "<init>", "()V"⟩
def RJxc12de : String := "java/util/AbstractList"
def TJxc12de : u_T := fun k => match k with
  | _ => ("", "", "", false)
def tyJxc12de : Nat → FieldType := fun k => match k with
  | _ => .int
abbrev wsJxc12de0 : List Cond := u_ws RJxc12de TJxc12de 0
theorem nmJxc12de : ∀ a, a < 0 → ∀ b, b < 0 → a ≠ b → (TJxc12de a).2.1 ≠ (TJxc12de b).2.1 := by decide +kernel
theorem tyJxc12de_ok : ∀ k, k < 0 → parseFieldDescriptor (TJxc12de k).2.2.1 = some (tyJxc12de k) := by decide +kernel
abbrev cJxc12de_init_da8c8 : ByteArray := prog_28_method_1_code
def yJxc12de_init_da8c8 : MethodName := ⟨RJxc12de, "<init>", "()V"⟩
def RJx4a65c : String := "java/util/ArrayList"
def TJx4a65c : u_T := fun k => match k with
  | 0 => ("java/util/AbstractList", "modCount", "I", false)
  | 1 => ("java/util/ArrayList", "elementData", "[Ljava/lang/Object;", false)
  | _ => ("java/util/ArrayList", "size", "I", false)
def tyJx4a65c : Nat → FieldType := fun k => match k with
  | 0 => .int
  | 1 => .array (.object "java/lang/Object")
  | _ => .int
abbrev wsJx4a65c0 : List Cond := u_ws RJx4a65c TJx4a65c 3
theorem nmJx4a65c : ∀ a, a < 3 → ∀ b, b < 3 → a ≠ b → (TJx4a65c a).2.1 ≠ (TJx4a65c b).2.1 := by decide +kernel
theorem tyJx4a65c_ok : ∀ k, k < 3 → parseFieldDescriptor (TJx4a65c k).2.2.1 = some (tyJx4a65c k) := by decide +kernel
abbrev cJx4a65c_init_da8c8 : ByteArray := prog_29_method_2_code
def yJx4a65c_init_da8c8 : MethodName := ⟨RJx4a65c, "<init>", "()V"⟩
abbrev cJx4a65c_grow_92f84 : ByteArray := prog_29_method_6_code
def yJx4a65c_grow_92f84 : MethodName := ⟨RJx4a65c, "grow", "(I)[Ljava/lang/Object;"⟩
abbrev cJx4a65c_grow_d5877 : ByteArray := prog_29_method_7_code
def yJx4a65c_grow_d5877 : MethodName := ⟨RJx4a65c, "grow", "()[Ljava/lang/Object;"⟩
abbrev cJx4a65c_size_8abf5 : ByteArray := prog_29_method_8_code
def yJx4a65c_size_8abf5 : MethodName := ⟨RJx4a65c, "size", "()I"⟩
abbrev cJx4a65c_elementData_915e3 : ByteArray := prog_29_method_18_code
def yJx4a65c_elementData_915e3 : MethodName := ⟨RJx4a65c, "elementData", "(I)Ljava/lang/Object;"⟩
abbrev cJx4a65c_get_915e3 : ByteArray := prog_29_method_20_code
def yJx4a65c_get_915e3 : MethodName := ⟨RJx4a65c, "get", "(I)Ljava/lang/Object;"⟩
abbrev cJx4a65c_add_72be8 : ByteArray := prog_29_method_24_code
def yJx4a65c_add_72be8 : MethodName := ⟨RJx4a65c, "add", "(Ljava/lang/Object;[Ljava/lang/Object;I)V"⟩
abbrev cJx4a65c_add_9ea2d : ByteArray := prog_29_method_25_code
def yJx4a65c_add_9ea2d : MethodName := ⟨RJx4a65c, "add", "(Ljava/lang/Object;)Z"⟩
def RJ7 : String := "java/util/Arrays"
def TJ7 : u_T := fun k => match k with
  | _ => ("", "", "", false)
def tyJ7 : Nat → FieldType := fun k => match k with
  | _ => .int
abbrev wsJ70 : List Cond := u_ws RJ7 TJ7 0
theorem nmJ7 : ∀ a, a < 0 → ∀ b, b < 0 → a ≠ b → (TJ7 a).2.1 ≠ (TJ7 b).2.1 := by decide +kernel
theorem tyJ7_ok : ∀ k, k < 0 → parseFieldDescriptor (TJ7 k).2.2.1 = some (tyJ7 k) := by decide +kernel
abbrev cJ7_copyOf_1904c : ByteArray := prog_30_method_119_code
def yJ7_copyOf_1904c : MethodName := ⟨RJ7, "copyOf", "([Ljava/lang/Object;I)[Ljava/lang/Object;"⟩
abbrev cJ7_copyOf_6403c : ByteArray := prog_30_method_120_code
def yJ7_copyOf_6403c : MethodName := ⟨RJ7, "copyOf", "([Ljava/lang/Object;ILjava/lang/Class;)[Ljava/lang/Object;"⟩
def RJx5ef63 : String := "java/util/Collection"
def TJx5ef63 : u_T := fun k => match k with
  | _ => ("", "", "", false)
def tyJx5ef63 : Nat → FieldType := fun k => match k with
  | _ => .int
abbrev wsJx5ef630 : List Cond := u_ws RJx5ef63 TJx5ef63 0
theorem nmJx5ef63 : ∀ a, a < 0 → ∀ b, b < 0 → a ≠ b → (TJx5ef63 a).2.1 ≠ (TJx5ef63 b).2.1 := by decide +kernel
theorem tyJx5ef63_ok : ∀ k, k < 0 → parseFieldDescriptor (TJx5ef63 k).2.2.1 = some (tyJx5ef63 k) := by decide +kernel
def RJxbd725 : String := "java/util/List"
def TJxbd725 : u_T := fun k => match k with
  | _ => ("", "", "", false)
def tyJxbd725 : Nat → FieldType := fun k => match k with
  | _ => .int
abbrev wsJxbd7250 : List Cond := u_ws RJxbd725 TJxbd725 0
theorem nmJxbd725 : ∀ a, a < 0 → ∀ b, b < 0 → a ≠ b → (TJxbd725 a).2.1 ≠ (TJxbd725 b).2.1 := by decide +kernel
theorem tyJxbd725_ok : ∀ k, k < 0 → parseFieldDescriptor (TJxbd725 k).2.2.1 = some (tyJxbd725 k) := by decide +kernel
def RJ15 : String := "java/util/Objects"
def TJ15 : u_T := fun k => match k with
  | _ => ("", "", "", false)
def tyJ15 : Nat → FieldType := fun k => match k with
  | _ => .int
abbrev wsJ150 : List Cond := u_ws RJ15 TJ15 0
theorem nmJ15 : ∀ a, a < 0 → ∀ b, b < 0 → a ≠ b → (TJ15 a).2.1 ≠ (TJ15 b).2.1 := by decide +kernel
theorem tyJ15_ok : ∀ k, k < 0 → parseFieldDescriptor (TJ15 k).2.2.1 = some (tyJ15 k) := by decide +kernel
abbrev cJ15_checkIndex_7cf53 : ByteArray := prog_33_method_17_code
def yJ15_checkIndex_7cf53 : MethodName := ⟨RJ15, "checkIndex", "(II)I"⟩
def RJxf0a74 : String := "java/util/RandomAccess"
def TJxf0a74 : u_T := fun k => match k with
  | _ => ("", "", "", false)
def tyJxf0a74 : Nat → FieldType := fun k => match k with
  | _ => .int
abbrev wsJxf0a740 : List Cond := u_ws RJxf0a74 TJxf0a74 0
theorem nmJxf0a74 : ∀ a, a < 0 → ∀ b, b < 0 → a ≠ b → (TJxf0a74 a).2.1 ≠ (TJxf0a74 b).2.1 := by decide +kernel
theorem tyJxf0a74_ok : ∀ k, k < 0 → parseFieldDescriptor (TJxf0a74 k).2.2.1 = some (tyJxf0a74 k) := by decide +kernel
def RJxa66e6 : String := "java/util/SequencedCollection"
def TJxa66e6 : u_T := fun k => match k with
  | _ => ("", "", "", false)
def tyJxa66e6 : Nat → FieldType := fun k => match k with
  | _ => .int
abbrev wsJxa66e60 : List Cond := u_ws RJxa66e6 TJxa66e6 0
theorem nmJxa66e6 : ∀ a, a < 0 → ∀ b, b < 0 → a ≠ b → (TJxa66e6 a).2.1 ≠ (TJxa66e6 b).2.1 := by decide +kernel
theorem tyJxa66e6_ok : ∀ k, k < 0 → parseFieldDescriptor (TJxa66e6 k).2.2.1 = some (tyJxa66e6 k) := by decide +kernel
def RJ8 : String := "jdk/internal/util/ArraysSupport"
def TJ8 : u_T := fun k => match k with
  | _ => ("", "", "", false)
def tyJ8 : Nat → FieldType := fun k => match k with
  | _ => .int
abbrev wsJ80 : List Cond := u_ws RJ8 TJ8 0
theorem nmJ8 : ∀ a, a < 0 → ∀ b, b < 0 → a ≠ b → (TJ8 a).2.1 ≠ (TJ8 b).2.1 := by decide +kernel
theorem tyJ8_ok : ∀ k, k < 0 → parseFieldDescriptor (TJ8 k).2.2.1 = some (tyJ8 k) := by decide +kernel
abbrev cJ8_newLength_cabcc : ByteArray := prog_36_method_27_code
def yJ8_newLength_cabcc : MethodName := ⟨RJ8, "newLength", "(III)I"⟩
abbrev cJ8_hugeLength_7cf53 : ByteArray := prog_36_method_28_code
def yJ8_hugeLength_7cf53 : MethodName := ⟨RJ8, "hugeLength", "(II)I"⟩
def RJ3 : String := "jdk/internal/util/Preconditions"
def TJ3 : u_T := fun k => match k with
  | _ => ("", "", "", false)
def tyJ3 : Nat → FieldType := fun k => match k with
  | _ => .int
abbrev wsJ30 : List Cond := u_ws RJ3 TJ3 0
theorem nmJ3 : ∀ a, a < 0 → ∀ b, b < 0 → a ≠ b → (TJ3 a).2.1 ≠ (TJ3 b).2.1 := by decide +kernel
theorem tyJ3_ok : ∀ k, k < 0 → parseFieldDescriptor (TJ3 k).2.2.1 = some (tyJ3 k) := by decide +kernel
abbrev cJ3_checkIndex_8e157 : ByteArray := prog_37_method_11_code
def yJ3_checkIndex_8e157 : MethodName := ⟨RJ3, "checkIndex", "(IILjava/util/function/BiFunction;)I"⟩
def RL : String := "ApprovalGridLaw"
abbrev cL_below : ByteArray := method_2_code
def yL_below : MethodName := ⟨RL, "below", "(II)I"⟩
abbrev cL_cell : ByteArray := method_3_code
def yL_cell : MethodName := ⟨RL, "cell", "([II)I"⟩
abbrev cL_law : ByteArray := code
def yL_law : MethodName := ⟨RL, "law", "([I)Z"⟩
abbrev cL_isRefused : ByteArray := method_5_code
def yL_isRefused : MethodName := ⟨RL, "isRefused", "(LApprovalGrid;IIII)Z"⟩
abbrev cL_isFair : ByteArray := method_6_code
def yL_isFair : MethodName := ⟨RL, "isFair", "(LApprovalGrid;I[I)Z"⟩
abbrev vwCl : List vw_C := [(RJx4a65c, TJx4a65c, 3), (RX0, TX0, 13), (RX2, TX2, 6), (RX3, TX3, 5), (RX4, TX4, 3), (RX4, TX4, 3), (RX6, TX6, 9)]
