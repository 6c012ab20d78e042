-- names, printed by program out of claim/NAMES.whole.lean.txt
def RX0 : String := "DeedProtocol$Deed"
def TX0 : u_T := fun k => match k with
  | 0 => ("DeedProtocol$Deed", "number", "I", true)
  | 1 => ("DeedProtocol$Deed", "kind", "I", true)
  | 2 => ("DeedProtocol$Deed", "giver", "LDeedProtocol$Person;", true)
  | 3 => ("DeedProtocol$Deed", "taker", "LDeedProtocol$Person;", true)
  | 4 => ("DeedProtocol$Deed", "thing", "LDeedProtocol$Thing;", true)
  | 5 => ("DeedProtocol$Deed", "above", "I", true)
  | 6 => ("DeedProtocol$Deed", "below", "I", true)
  | 7 => ("DeedProtocol$Deed", "papers", "LDeedProtocol$Papers;", true)
  | 8 => ("DeedProtocol$Deed", "mandate", "LDeedProtocol$Mandate;", false)
  | 9 => ("DeedProtocol$Deed", "parts", "I", false)
  | 10 => ("DeedProtocol$Deed", "witnesses", "I", false)
  | 11 => ("DeedProtocol$Deed", "state", "I", false)
  | 12 => ("DeedProtocol$Deed", "protocolNumber", "I", false)
  | 13 => ("DeedProtocol$Deed", "closingDay", "I", false)
  | _ => ("DeedProtocol$Deed", "entryNumber", "I", false)
def tyX0 : Nat → FieldType := fun k => match k with
  | 0 => .int
  | 1 => .int
  | 2 => .object "DeedProtocol$Person"
  | 3 => .object "DeedProtocol$Person"
  | 4 => .object "DeedProtocol$Thing"
  | 5 => .int
  | 6 => .int
  | 7 => .object "DeedProtocol$Papers"
  | 8 => .object "DeedProtocol$Mandate"
  | 9 => .int
  | 10 => .int
  | 11 => .int
  | 12 => .int
  | 13 => .int
  | _ => .int
abbrev wsX00 : List Cond := u_ws RX0 TX0 15
theorem nmX0 : ∀ a, a < 15 → ∀ b, b < 15 → a ≠ b → (TX0 a).2.1 ≠ (TX0 b).2.1 := by decide +kernel
theorem tyX0_ok : ∀ k, k < 15 → parseFieldDescriptor (TX0 k).2.2.1 = some (tyX0 k) := by decide +kernel
abbrev cX0_init : ByteArray := prog_2_method_1_code
def yX0_init : MethodName := ⟨RX0, "<init>", "(IILDeedProtocol$Person;LDeedProtocol$Person;LDeedProtocol$Thing;II)V"⟩
abbrev cX0_isClosed : ByteArray := prog_2_method_2_code
def yX0_isClosed : MethodName := ⟨RX0, "isClosed", "()Z"⟩
abbrev cX0_hasAll : ByteArray := prog_2_method_3_code
def yX0_hasAll : MethodName := ⟨RX0, "hasAll", "(I)Z"⟩
abbrev cX0_side : ByteArray := prog_2_method_4_code
def yX0_side : MethodName := ⟨RX0, "side", "(Z)LDeedProtocol$Person;"⟩
abbrev cX0_hasWitness : ByteArray := prog_2_method_5_code
def yX0_hasWitness : MethodName := ⟨RX0, "hasWitness", "(LDeedProtocol$Person;)Z"⟩
abbrev cX0_addWitness : ByteArray := prog_2_method_6_code
def yX0_addWitness : MethodName := ⟨RX0, "addWitness", "(LDeedProtocol$Person;)V"⟩
def RX1 : String := "DeedProtocol$Entry"
def TX1 : u_T := fun k => match k with
  | 0 => ("DeedProtocol$Entry", "kind", "I", true)
  | 1 => ("DeedProtocol$Entry", "about", "I", true)
  | 2 => ("DeedProtocol$Entry", "thing", "LDeedProtocol$Thing;", true)
  | 3 => ("DeedProtocol$Entry", "day", "I", true)
  | _ => ("DeedProtocol$Entry", "move", "LDeedProtocol$Move;", true)
def tyX1 : Nat → FieldType := fun k => match k with
  | 0 => .int
  | 1 => .int
  | 2 => .object "DeedProtocol$Thing"
  | 3 => .int
  | _ => .object "DeedProtocol$Move"
abbrev wsX10 : List Cond := u_ws RX1 TX1 5
theorem nmX1 : ∀ a, a < 5 → ∀ b, b < 5 → a ≠ b → (TX1 a).2.1 ≠ (TX1 b).2.1 := by decide +kernel
theorem tyX1_ok : ∀ k, k < 5 → parseFieldDescriptor (TX1 k).2.2.1 = some (tyX1 k) := by decide +kernel
abbrev cX1_init : ByteArray := prog_3_method_1_code
def yX1_init : MethodName := ⟨RX1, "<init>", "(IILDeedProtocol$Thing;ILDeedProtocol$Move;)V"⟩
def RX2 : String := "DeedProtocol$Mandate"
def TX2 : u_T := fun k => match k with
  | 0 => ("DeedProtocol$Mandate", "lastDay", "I", true)
  | 1 => ("DeedProtocol$Mandate", "goesOn", "Z", true)
  | 2 => ("DeedProtocol$Mandate", "isRevoked", "Z", false)
  | 3 => ("DeedProtocol$Mandate", "isRevocationKnown", "Z", false)
  | _ => ("DeedProtocol$Mandate", "source", "LDeedProtocol$Deed;", false)
def tyX2 : Nat → FieldType := fun k => match k with
  | 0 => .int
  | 1 => .boolean
  | 2 => .boolean
  | 3 => .boolean
  | _ => .object "DeedProtocol$Deed"
abbrev wsX20 : List Cond := u_ws RX2 TX2 5
theorem nmX2 : ∀ a, a < 5 → ∀ b, b < 5 → a ≠ b → (TX2 a).2.1 ≠ (TX2 b).2.1 := by decide +kernel
theorem tyX2_ok : ∀ k, k < 5 → parseFieldDescriptor (TX2 k).2.2.1 = some (tyX2 k) := by decide +kernel
abbrev cX2_init : ByteArray := prog_4_method_1_code
def yX2_init : MethodName := ⟨RX2, "<init>", "(IZ)V"⟩
def RX3 : String := "DeedProtocol$Move"
def TX3 : u_T := fun k => match k with
  | 0 => ("DeedProtocol$Move", "giver", "I", true)
  | 1 => ("DeedProtocol$Move", "taker", "I", true)
  | 2 => ("DeedProtocol$Move", "above", "I", true)
  | 3 => ("DeedProtocol$Move", "below", "I", true)
  | _ => ("DeedProtocol$Move", "heirs", "I", true)
def tyX3 : Nat → FieldType := fun k => match k with
  | 0 => .int
  | 1 => .int
  | 2 => .int
  | 3 => .int
  | _ => .int
abbrev wsX30 : List Cond := u_ws RX3 TX3 5
theorem nmX3 : ∀ a, a < 5 → ∀ b, b < 5 → a ≠ b → (TX3 a).2.1 ≠ (TX3 b).2.1 := by decide +kernel
theorem tyX3_ok : ∀ k, k < 5 → parseFieldDescriptor (TX3 k).2.2.1 = some (tyX3 k) := by decide +kernel
abbrev cX3_init : ByteArray := prog_5_method_1_code
def yX3_init : MethodName := ⟨RX3, "<init>", "(IIIII)V"⟩
def RX4 : String := "DeedProtocol$Papers"
def TX4 : u_T := fun k => match k with
  | 0 => ("DeedProtocol$Papers", "grades", "[I", true)
  | _ => ("DeedProtocol$Papers", "count", "I", false)
def tyX4 : Nat → FieldType := fun k => match k with
  | 0 => .array .int
  | _ => .int
abbrev wsX40 : List Cond := u_ws RX4 TX4 2
theorem nmX4 : ∀ a, a < 2 → ∀ b, b < 2 → a ≠ b → (TX4 a).2.1 ≠ (TX4 b).2.1 := by decide +kernel
theorem tyX4_ok : ∀ k, k < 2 → parseFieldDescriptor (TX4 k).2.2.1 = some (tyX4 k) := by decide +kernel
abbrev cX4_init : ByteArray := prog_6_method_1_code
def yX4_init : MethodName := ⟨RX4, "<init>", "()V"⟩
abbrev cX4_leastGrade : ByteArray := prog_6_method_2_code
def yX4_leastGrade : MethodName := ⟨RX4, "leastGrade", "()I"⟩
abbrev cX4_append : ByteArray := prog_6_method_3_code
def yX4_append : MethodName := ⟨RX4, "append", "(I)V"⟩
abbrev cX4_dropFirst : ByteArray := prog_6_method_4_code
def yX4_dropFirst : MethodName := ⟨RX4, "dropFirst", "()V"⟩
def RX5 : String := "DeedProtocol$Person"
def TX5 : u_T := fun k => match k with
  | 0 => ("DeedProtocol$Person", "number", "I", true)
  | 1 => ("DeedProtocol$Person", "ageWhenTold", "I", true)
  | 2 => ("DeedProtocol$Person", "dayTold", "I", true)
  | 3 => ("DeedProtocol$Person", "isForeign", "Z", true)
  | 4 => ("DeedProtocol$Person", "isAlive", "Z", false)
  | 5 => ("DeedProtocol$Person", "guardian", "LDeedProtocol$Person;", false)
  | _ => ("DeedProtocol$Person", "parents", "I", false)
def tyX5 : Nat → FieldType := fun k => match k with
  | 0 => .int
  | 1 => .int
  | 2 => .int
  | 3 => .boolean
  | 4 => .boolean
  | 5 => .object "DeedProtocol$Person"
  | _ => .int
abbrev wsX50 : List Cond := u_ws RX5 TX5 7
theorem nmX5 : ∀ a, a < 7 → ∀ b, b < 7 → a ≠ b → (TX5 a).2.1 ≠ (TX5 b).2.1 := by decide +kernel
theorem tyX5_ok : ∀ k, k < 7 → parseFieldDescriptor (TX5 k).2.2.1 = some (tyX5 k) := by decide +kernel
abbrev cX5_init : ByteArray := prog_7_method_1_code
def yX5_init : MethodName := ⟨RX5, "<init>", "(IIIZ)V"⟩
abbrev cX5_isAbleOn : ByteArray := prog_7_method_2_code
def yX5_isAbleOn : MethodName := ⟨RX5, "isAbleOn", "(I)Z"⟩
abbrev cX5_isChildOf : ByteArray := prog_7_method_3_code
def yX5_isChildOf : MethodName := ⟨RX5, "isChildOf", "(LDeedProtocol$Person;)Z"⟩
abbrev cX5_parentCount : ByteArray := prog_7_method_4_code
def yX5_parentCount : MethodName := ⟨RX5, "parentCount", "()I"⟩
abbrev cX5_addParent : ByteArray := prog_7_method_5_code
def yX5_addParent : MethodName := ⟨RX5, "addParent", "(LDeedProtocol$Person;)V"⟩
def RX6 : String := "DeedProtocol$Shares"
def TX6 : u_T := fun k => match k with
  | 0 => ("DeedProtocol$Shares", "above", "[J", true)
  | _ => ("DeedProtocol$Shares", "below", "[J", true)
def tyX6 : Nat → FieldType := fun k => match k with
  | 0 => .array .long
  | _ => .array .long
abbrev wsX60 : List Cond := u_ws RX6 TX6 2
theorem nmX6 : ∀ a, a < 2 → ∀ b, b < 2 → a ≠ b → (TX6 a).2.1 ≠ (TX6 b).2.1 := by decide +kernel
theorem tyX6_ok : ∀ k, k < 2 → parseFieldDescriptor (TX6 k).2.2.1 = some (tyX6 k) := by decide +kernel
abbrev cX6_init : ByteArray := prog_8_method_1_code
def yX6_init : MethodName := ⟨RX6, "<init>", "()V"⟩
abbrev cX6_isHolder : ByteArray := prog_8_method_2_code
def yX6_isHolder : MethodName := ⟨RX6, "isHolder", "(I)Z"⟩
abbrev cX6_startWith : ByteArray := prog_8_method_3_code
def yX6_startWith : MethodName := ⟨RX6, "startWith", "(I)V"⟩
abbrev cX6_copyFrom : ByteArray := prog_8_method_4_code
def yX6_copyFrom : MethodName := ⟨RX6, "copyFrom", "(LDeedProtocol$Shares;)V"⟩
abbrev cX6_isEmptyOf : ByteArray := prog_8_method_5_code
def yX6_isEmptyOf : MethodName := ⟨RX6, "isEmptyOf", "(I)Z"⟩
abbrev cX6_has : ByteArray := prog_8_method_6_code
def yX6_has : MethodName := ⟨RX6, "has", "(III)Z"⟩
abbrev cX6_areSmall : ByteArray := prog_8_method_7_code
def yX6_areSmall : MethodName := ⟨RX6, "areSmall", "()Z"⟩
abbrev cX6_termOf : ByteArray := prog_8_method_8_code
def yX6_termOf : MethodName := ⟨RX6, "termOf", "(IZ)I"⟩
abbrev cX6_carryOut : ByteArray := prog_8_method_9_code
def yX6_carryOut : MethodName := ⟨RX6, "carryOut", "(LDeedProtocol$Move;)V"⟩
abbrev cX6_bequeath : ByteArray := prog_8_method_10_code
def yX6_bequeath : MethodName := ⟨RX6, "bequeath", "(LDeedProtocol$Move;JJ)V"⟩
abbrev cX6_change : ByteArray := prog_8_method_11_code
def yX6_change : MethodName := ⟨RX6, "change", "(IJJ)V"⟩
abbrev cX6_commonDivisor : ByteArray := prog_8_method_12_code
def yX6_commonDivisor : MethodName := ⟨RX6, "commonDivisor", "(JJ)J"⟩
def RX7 : String := "DeedProtocol$Thing"
def TX7 : u_T := fun k => match k with
  | 0 => ("DeedProtocol$Thing", "number", "I", true)
  | 1 => ("DeedProtocol$Thing", "firstOwner", "I", true)
  | 2 => ("DeedProtocol$Thing", "value", "I", true)
  | _ => ("DeedProtocol$Thing", "shares", "LDeedProtocol$Shares;", true)
def tyX7 : Nat → FieldType := fun k => match k with
  | 0 => .int
  | 1 => .int
  | 2 => .int
  | _ => .object "DeedProtocol$Shares"
abbrev wsX70 : List Cond := u_ws RX7 TX7 4
theorem nmX7 : ∀ a, a < 4 → ∀ b, b < 4 → a ≠ b → (TX7 a).2.1 ≠ (TX7 b).2.1 := by decide +kernel
theorem tyX7_ok : ∀ k, k < 4 → parseFieldDescriptor (TX7 k).2.2.1 = some (tyX7 k) := by decide +kernel
abbrev cX7_init : ByteArray := prog_9_method_1_code
def yX7_init : MethodName := ⟨RX7, "<init>", "(III)V"⟩
def RX8 : String := "DeedProtocol"
def TX8 : u_T := fun k => match k with
  | 0 => ("DeedProtocol", "persons", "Ljava/util/ArrayList;", true)
  | 1 => ("DeedProtocol", "things", "Ljava/util/ArrayList;", true)
  | 2 => ("DeedProtocol", "deeds", "Ljava/util/ArrayList;", true)
  | 3 => ("DeedProtocol", "register", "Ljava/util/ArrayList;", true)
  | 4 => ("DeedProtocol", "trial", "LDeedProtocol$Shares;", true)
  | 5 => ("DeedProtocol", "today", "I", false)
  | 6 => ("DeedProtocol", "closedDeeds", "I", false)
  | _ => ("DeedProtocol", "dutySum", "J", false)
def tyX8 : Nat → FieldType := fun k => match k with
  | 0 => .object "java/util/ArrayList"
  | 1 => .object "java/util/ArrayList"
  | 2 => .object "java/util/ArrayList"
  | 3 => .object "java/util/ArrayList"
  | 4 => .object "DeedProtocol$Shares"
  | 5 => .int
  | 6 => .int
  | _ => .long
abbrev wsX80 : List Cond := u_ws RX8 TX8 8
theorem nmX8 : ∀ a, a < 8 → ∀ b, b < 8 → a ≠ b → (TX8 a).2.1 ≠ (TX8 b).2.1 := by decide +kernel
theorem tyX8_ok : ∀ k, k < 8 → parseFieldDescriptor (TX8 k).2.2.1 = some (tyX8 k) := by decide +kernel
abbrev cX8_init : ByteArray := prog_1_method_1_code
def yX8_init : MethodName := ⟨RX8, "<init>", "()V"⟩
abbrev cX8_person : ByteArray := prog_1_method_2_code
def yX8_person : MethodName := ⟨RX8, "person", "(IZ)I"⟩
abbrev cX8_child : ByteArray := prog_1_method_3_code
def yX8_child : MethodName := ⟨RX8, "child", "(II)I"⟩
abbrev cX8_guard : ByteArray := prog_1_method_4_code
def yX8_guard : MethodName := ⟨RX8, "guard", "(II)I"⟩
abbrev cX8_thing : ByteArray := prog_1_method_5_code
def yX8_thing : MethodName := ⟨RX8, "thing", "(II)I"⟩
abbrev cX8_isAble : ByteArray := prog_1_method_6_code
def yX8_isAble : MethodName := ⟨RX8, "isAble", "(I)Z"⟩
abbrev cX8_draft : ByteArray := prog_1_method_7_code
def yX8_draft : MethodName := ⟨RX8, "draft", "(IIIIII)I"⟩
abbrev cX8_power : ByteArray := prog_1_method_8_code
def yX8_power : MethodName := ⟨RX8, "power", "(IIIIZ)I"⟩
abbrev cX8_will : ByteArray := prog_1_method_9_code
def yX8_will : MethodName := ⟨RX8, "will", "(IIII)I"⟩
abbrev cX8_sign : ByteArray := prog_1_method_10_code
def yX8_sign : MethodName := ⟨RX8, "sign", "(IIZI)I"⟩
abbrev cX8_add : ByteArray := prog_1_method_11_code
def yX8_add : MethodName := ⟨RX8, "add", "(II)I"⟩
abbrev cX8_witness : ByteArray := prog_1_method_12_code
def yX8_witness : MethodName := ⟨RX8, "witness", "(II)I"⟩
abbrev cX8_close : ByteArray := prog_1_method_13_code
def yX8_close : MethodName := ⟨RX8, "close", "(I)I"⟩
abbrev cX8_deed : ByteArray := prog_1_method_14_code
def yX8_deed : MethodName := ⟨RX8, "deed", "(II)I"⟩
abbrev cX8_label : ByteArray := prog_1_method_15_code
def yX8_label : MethodName := ⟨RX8, "label", "(II)C"⟩
abbrev cX8_revoke : ByteArray := prog_1_method_16_code
def yX8_revoke : MethodName := ⟨RX8, "revoke", "(IZ)Z"⟩
abbrev cX8_isGood : ByteArray := prog_1_method_17_code
def yX8_isGood : MethodName := ⟨RX8, "isGood", "(I)Z"⟩
abbrev cX8_copy : ByteArray := prog_1_method_18_code
def yX8_copy : MethodName := ⟨RX8, "copy", "(I)I"⟩
abbrev cX8_lose : ByteArray := prog_1_method_19_code
def yX8_lose : MethodName := ⟨RX8, "lose", "(I)I"⟩
abbrev cX8_proof : ByteArray := prog_1_method_20_code
def yX8_proof : MethodName := ⟨RX8, "proof", "(I)I"⟩
abbrev cX8_enter : ByteArray := prog_1_method_21_code
def yX8_enter : MethodName := ⟨RX8, "enter", "(I)I"⟩
abbrev cX8_die : ByteArray := prog_1_method_22_code
def yX8_die : MethodName := ⟨RX8, "die", "(I)I"⟩
abbrev cX8_entry : ByteArray := prog_1_method_23_code
def yX8_entry : MethodName := ⟨RX8, "entry", "(II)I"⟩
abbrev cX8_entries : ByteArray := prog_1_method_24_code
def yX8_entries : MethodName := ⟨RX8, "entries", "()I"⟩
abbrev cX8_pledge : ByteArray := prog_1_method_26_code
def yX8_pledge : MethodName := ⟨RX8, "pledge", "(II)I"⟩
abbrev cX8_share : ByteArray := prog_1_method_27_code
def yX8_share : MethodName := ⟨RX8, "share", "(IIZ)I"⟩
abbrev cX8_duties : ByteArray := prog_1_method_29_code
def yX8_duties : MethodName := ⟨RX8, "duties", "()J"⟩
abbrev cX8_pass : ByteArray := prog_1_method_30_code
def yX8_pass : MethodName := ⟨RX8, "pass", "(I)I"⟩
abbrev cX8_personAt : ByteArray := prog_1_method_31_code
def yX8_personAt : MethodName := ⟨RX8, "personAt", "(I)LDeedProtocol$Person;"⟩
abbrev cX8_thingAt : ByteArray := prog_1_method_32_code
def yX8_thingAt : MethodName := ⟨RX8, "thingAt", "(I)LDeedProtocol$Thing;"⟩
abbrev cX8_deedAt : ByteArray := prog_1_method_33_code
def yX8_deedAt : MethodName := ⟨RX8, "deedAt", "(I)LDeedProtocol$Deed;"⟩
abbrev cX8_holderAt : ByteArray := prog_1_method_34_code
def yX8_holderAt : MethodName := ⟨RX8, "holderAt", "(I)I"⟩
abbrev cX8_refuseDead : ByteArray := prog_1_method_35_code
def yX8_refuseDead : MethodName := ⟨RX8, "refuseDead", "(LDeedProtocol$Person;LDeedProtocol$Person;)V"⟩
abbrev cX8_refuseNewDeed : ByteArray := prog_1_method_36_code
def yX8_refuseNewDeed : MethodName := ⟨RX8, "refuseNewDeed", "(LDeedProtocol$Person;LDeedProtocol$Person;)V"⟩
abbrev cX8_refuseClosedOrHaving : ByteArray := prog_1_method_37_code
def yX8_refuseClosedOrHaving : MethodName := ⟨RX8, "refuseClosedOrHaving", "(LDeedProtocol$Deed;I)V"⟩
abbrev cX8_isOfThing : ByteArray := prog_1_method_38_code
def yX8_isOfThing : MethodName := ⟨RX8, "isOfThing", "(I)Z"⟩
abbrev cX8_isPart : ByteArray := prog_1_method_39_code
def yX8_isPart : MethodName := ⟨RX8, "isPart", "(II)Z"⟩
abbrev cX8_keepDeed : ByteArray := prog_1_method_40_code
def yX8_keepDeed : MethodName := ⟨RX8, "keepDeed", "(LDeedProtocol$Deed;)I"⟩
abbrev cX8_signsWithoutPower : ByteArray := prog_1_method_41_code
def yX8_signsWithoutPower : MethodName := ⟨RX8, "signsWithoutPower", "(LDeedProtocol$Deed;LDeedProtocol$Person;Z)Z"⟩
abbrev cX8_signsAsGuardian : ByteArray := prog_1_method_42_code
def yX8_signsAsGuardian : MethodName := ⟨RX8, "signsAsGuardian", "(LDeedProtocol$Deed;LDeedProtocol$Person;Z)Z"⟩
abbrev cX8_signsByPower : ByteArray := prog_1_method_43_code
def yX8_signsByPower : MethodName := ⟨RX8, "signsByPower", "(LDeedProtocol$Deed;LDeedProtocol$Person;ZLDeedProtocol$Deed;)Z"⟩
abbrev cX8_canWitness : ByteArray := prog_1_method_44_code
def yX8_canWitness : MethodName := ⟨RX8, "canWitness", "(LDeedProtocol$Deed;LDeedProtocol$Person;)Z"⟩
abbrev cX8_areParentAndChild : ByteArray := prog_1_method_45_code
def yX8_areParentAndChild : MethodName := ⟨RX8, "areParentAndChild", "(LDeedProtocol$Person;LDeedProtocol$Person;)Z"⟩
abbrev cX8_stateByParts : ByteArray := prog_1_method_46_code
def yX8_stateByParts : MethodName := ⟨RX8, "stateByParts", "(LDeedProtocol$Deed;)I"⟩
abbrev cX8_neededParts : ByteArray := prog_1_method_47_code
def yX8_neededParts : MethodName := ⟨RX8, "neededParts", "(LDeedProtocol$Deed;)I"⟩
abbrev cX8_kindLetter : ByteArray := prog_1_method_48_code
def yX8_kindLetter : MethodName := ⟨RX8, "kindLetter", "(I)C"⟩
abbrev cX8_stateLetter : ByteArray := prog_1_method_49_code
def yX8_stateLetter : MethodName := ⟨RX8, "stateLetter", "(I)C"⟩
abbrev cX8_isGoodPower : ByteArray := prog_1_method_50_code
def yX8_isGoodPower : MethodName := ⟨RX8, "isGoodPower", "(LDeedProtocol$Deed;)Z"⟩
abbrev cX8_isGoodByItself : ByteArray := prog_1_method_51_code
def yX8_isGoodByItself : MethodName := ⟨RX8, "isGoodByItself", "(LDeedProtocol$Deed;LDeedProtocol$Mandate;)Z"⟩
abbrev cX8_isReadyToEnter : ByteArray := prog_1_method_52_code
def yX8_isReadyToEnter : MethodName := ⟨RX8, "isReadyToEnter", "(LDeedProtocol$Deed;)Z"⟩
abbrev cX8_moveOf : ByteArray := prog_1_method_53_code
def yX8_moveOf : MethodName := ⟨RX8, "moveOf", "(LDeedProtocol$Deed;)LDeedProtocol$Move;"⟩
abbrev cX8_leavesSmallShares : ByteArray := prog_1_method_54_code
def yX8_leavesSmallShares : MethodName := ⟨RX8, "leavesSmallShares", "(LDeedProtocol$Thing;LDeedProtocol$Move;)Z"⟩
abbrev cX8_keepEntry : ByteArray := prog_1_method_55_code
def yX8_keepEntry : MethodName := ⟨RX8, "keepEntry", "(LDeedProtocol$Entry;)V"⟩
abbrev cX8_dutyOf : ByteArray := prog_1_method_56_code
def yX8_dutyOf : MethodName := ⟨RX8, "dutyOf", "(LDeedProtocol$Deed;LDeedProtocol$Thing;)J"⟩
abbrev cX8_countEstateThings : ByteArray := prog_1_method_57_code
def yX8_countEstateThings : MethodName := ⟨RX8, "countEstateThings", "(LDeedProtocol$Person;LDeedProtocol$Move;)I"⟩
abbrev cX8_endGuardianships : ByteArray := prog_1_method_58_code
def yX8_endGuardianships : MethodName := ⟨RX8, "endGuardianships", "(LDeedProtocol$Person;)V"⟩
abbrev cX8_successionOf : ByteArray := prog_1_method_59_code
def yX8_successionOf : MethodName := ⟨RX8, "successionOf", "(LDeedProtocol$Person;)LDeedProtocol$Move;"⟩
abbrev cX8_heirsOf : ByteArray := prog_1_method_60_code
def yX8_heirsOf : MethodName := ⟨RX8, "heirsOf", "(LDeedProtocol$Person;I)I"⟩
abbrev cX8_livingChildren : ByteArray := prog_1_method_61_code
def yX8_livingChildren : MethodName := ⟨RX8, "livingChildren", "(LDeedProtocol$Person;)I"⟩
abbrev cX8_livingParents : ByteArray := prog_1_method_62_code
def yX8_livingParents : MethodName := ⟨RX8, "livingParents", "(LDeedProtocol$Person;)I"⟩
abbrev cX8_countingWill : ByteArray := prog_1_method_63_code
def yX8_countingWill : MethodName := ⟨RX8, "countingWill", "(LDeedProtocol$Person;)LDeedProtocol$Deed;"⟩
abbrev cX8_isStandingWillOf : ByteArray := prog_1_method_64_code
def yX8_isStandingWillOf : MethodName := ⟨RX8, "isStandingWillOf", "(LDeedProtocol$Deed;LDeedProtocol$Person;)Z"⟩
abbrev cX8_goesBefore : ByteArray := prog_1_method_65_code
def yX8_goesBefore : MethodName := ⟨RX8, "goesBefore", "(LDeedProtocol$Deed;LDeedProtocol$Deed;)Z"⟩
def RX9 : String := "DeedProtocolModel"
def TX9 : u_T := fun k => match k with
  | _ => ("", "", "", false)
def tyX9 : Nat → FieldType := fun k => match k with
  | _ => .int
abbrev wsX90 : List Cond := u_ws RX9 TX9 0
theorem nmX9 : ∀ a, a < 0 → ∀ b, b < 0 → a ≠ b → (TX9 a).2.1 ≠ (TX9 b).2.1 := by decide +kernel
theorem tyX9_ok : ∀ k, k < 0 → parseFieldDescriptor (TX9 k).2.2.1 = some (tyX9 k) := by decide +kernel
def RJx145de : String := "java/io/Serializable"
def TJx145de : u_T := fun k => match k with
  | _ => ("", "", "", false)
def tyJx145de : Nat → FieldType := fun k => match k with
  | _ => .int
abbrev wsJx145de0 : List Cond := u_ws RJx145de TJx145de 0
theorem nmJx145de : ∀ a, a < 0 → ∀ b, b < 0 → a ≠ b → (TJx145de a).2.1 ≠ (TJx145de b).2.1 := by decide +kernel
theorem tyJx145de_ok : ∀ k, k < 0 → parseFieldDescriptor (TJx145de k).2.2.1 = some (tyJx145de k) := by decide +kernel
def RJ5 : String := "java/lang/AbstractStringBuilder"
def TJ5 : u_T := fun k => match k with
  | _ => ("", "", "", false)
def tyJ5 : Nat → FieldType := fun k => match k with
  | _ => .int
abbrev wsJ50 : List Cond := u_ws RJ5 TJ5 0
theorem nmJ5 : ∀ a, a < 0 → ∀ b, b < 0 → a ≠ b → (TJ5 a).2.1 ≠ (TJ5 b).2.1 := by decide +kernel
theorem tyJ5_ok : ∀ k, k < 0 → parseFieldDescriptor (TJ5 k).2.2.1 = some (tyJ5 k) := by decide +kernel
abbrev cJ5_init_d00df : ByteArray := prog_13_method_2_code
def yJ5_init_d00df : MethodName := ⟨RJ5, "<init>", "(I)V"⟩
abbrev cJ5_length_8abf5 : ByteArray := prog_13_method_6_code
def yJ5_length_8abf5 : MethodName := ⟨RJ5, "length", "()I"⟩
abbrev cJ5_ensureCapacityInternal_d00df : ByteArray := prog_13_method_9_code
def yJ5_ensureCapacityInternal_d00df : MethodName := ⟨RJ5, "ensureCapacityInternal", "(I)V"⟩
abbrev cJ5_newCapacity_0f7a4 : ByteArray := prog_13_method_10_code
def yJ5_newCapacity_0f7a4 : MethodName := ⟨RJ5, "newCapacity", "(I)I"⟩
abbrev cJ5_inflate_da8c8 : ByteArray := prog_13_method_11_code
def yJ5_inflate_da8c8 : MethodName := ⟨RJ5, "inflate", "()V"⟩
abbrev cJ5_charAt_5068e : ByteArray := prog_13_method_14_code
def yJ5_charAt_5068e : MethodName := ⟨RJ5, "charAt", "(I)C"⟩
abbrev cJ5_append_3fe6f : ByteArray := prog_13_method_31_code
def yJ5_append_3fe6f : MethodName := ⟨RJ5, "append", "(C)Ljava/lang/AbstractStringBuilder;"⟩
abbrev cJ5_append_c97b9 : ByteArray := prog_13_method_32_code
def yJ5_append_c97b9 : MethodName := ⟨RJ5, "append", "(I)Ljava/lang/AbstractStringBuilder;"⟩
abbrev cJ5_isLatin1_aae02 : ByteArray := prog_13_method_68_code
def yJ5_isLatin1_aae02 : MethodName := ⟨RJ5, "isLatin1", "()Z"⟩
def RJx2cfe8 : String := "java/lang/Appendable"
def TJx2cfe8 : u_T := fun k => match k with
  | _ => ("", "", "", false)
def tyJx2cfe8 : Nat → FieldType := fun k => match k with
  | _ => .int
abbrev wsJx2cfe80 : List Cond := u_ws RJx2cfe8 TJx2cfe8 0
theorem nmJx2cfe8 : ∀ a, a < 0 → ∀ b, b < 0 → a ≠ b → (TJx2cfe8 a).2.1 ≠ (TJx2cfe8 b).2.1 := by decide +kernel
theorem tyJx2cfe8_ok : ∀ k, k < 0 → parseFieldDescriptor (TJx2cfe8 k).2.2.1 = some (tyJx2cfe8 k) := by decide +kernel
def RJx9f9b0 : String := "java/lang/CharSequence"
def TJx9f9b0 : u_T := fun k => match k with
  | _ => ("", "", "", false)
def tyJx9f9b0 : Nat → FieldType := fun k => match k with
  | _ => .int
abbrev wsJx9f9b00 : List Cond := u_ws RJx9f9b0 TJx9f9b0 0
theorem nmJx9f9b0 : ∀ a, a < 0 → ∀ b, b < 0 → a ≠ b → (TJx9f9b0 a).2.1 ≠ (TJx9f9b0 b).2.1 := by decide +kernel
theorem tyJx9f9b0_ok : ∀ k, k < 0 → parseFieldDescriptor (TJx9f9b0 k).2.2.1 = some (tyJx9f9b0 k) := by decide +kernel
def RJx8e188 : String := "java/lang/Cloneable"
def TJx8e188 : u_T := fun k => match k with
  | _ => ("", "", "", false)
def tyJx8e188 : Nat → FieldType := fun k => match k with
  | _ => .int
abbrev wsJx8e1880 : List Cond := u_ws RJx8e188 TJx8e188 0
theorem nmJx8e188 : ∀ a, a < 0 → ∀ b, b < 0 → a ≠ b → (TJx8e188 a).2.1 ≠ (TJx8e188 b).2.1 := by decide +kernel
theorem tyJx8e188_ok : ∀ k, k < 0 → parseFieldDescriptor (TJx8e188 k).2.2.1 = some (tyJx8e188 k) := by decide +kernel
def RJxb160c : String := "java/lang/Comparable"
def TJxb160c : u_T := fun k => match k with
  | _ => ("", "", "", false)
def tyJxb160c : Nat → FieldType := fun k => match k with
  | _ => .int
abbrev wsJxb160c0 : List Cond := u_ws RJxb160c TJxb160c 0
theorem nmJxb160c : ∀ a, a < 0 → ∀ b, b < 0 → a ≠ b → (TJxb160c a).2.1 ≠ (TJxb160c b).2.1 := by decide +kernel
theorem tyJxb160c_ok : ∀ k, k < 0 → parseFieldDescriptor (TJxb160c k).2.2.1 = some (tyJxb160c k) := by decide +kernel
def RJ6 : String := "java/lang/Integer"
def TJ6 : u_T := fun k => match k with
  | _ => ("", "", "", false)
def tyJ6 : Nat → FieldType := fun k => match k with
  | _ => .int
abbrev wsJ60 : List Cond := u_ws RJ6 TJ6 0
theorem nmJ6 : ∀ a, a < 0 → ∀ b, b < 0 → a ≠ b → (TJ6 a).2.1 ≠ (TJ6 b).2.1 := by decide +kernel
theorem tyJ6_ok : ∀ k, k < 0 → parseFieldDescriptor (TJ6 k).2.2.1 = some (tyJ6 k) := by decide +kernel
abbrev cJ6_getChars_ba4f3 : ByteArray := prog_22_method_12_code
def yJ6_getChars_ba4f3 : MethodName := ⟨RJ6, "getChars", "(II[B)I"⟩
abbrev cJ6_stringSize_0f7a4 : ByteArray := prog_22_method_13_code
def yJ6_stringSize_0f7a4 : MethodName := ⟨RJ6, "stringSize", "(I)I"⟩
abbrev cJ6_bitCount_0f7a4 : ByteArray := prog_22_method_49_code
def yJ6_bitCount_0f7a4 : MethodName := ⟨RJ6, "bitCount", "(I)I"⟩
def RJxab1ab : String := "java/lang/Iterable"
def TJxab1ab : u_T := fun k => match k with
  | _ => ("", "", "", false)
def tyJxab1ab : Nat → FieldType := fun k => match k with
  | _ => .int
abbrev wsJxab1ab0 : List Cond := u_ws RJxab1ab TJxab1ab 0
theorem nmJxab1ab : ∀ a, a < 0 → ∀ b, b < 0 → a ≠ b → (TJxab1ab a).2.1 ≠ (TJxab1ab b).2.1 := by decide +kernel
theorem tyJxab1ab_ok : ∀ k, k < 0 → parseFieldDescriptor (TJxab1ab k).2.2.1 = some (tyJxab1ab k) := by decide +kernel
def RJ9 : String := "java/lang/Math"
def TJ9 : u_T := fun k => match k with
  | _ => ("", "", "", false)
def tyJ9 : Nat → FieldType := fun k => match k with
  | _ => .int
abbrev wsJ90 : List Cond := u_ws RJ9 TJ9 0
theorem nmJ9 : ∀ a, a < 0 → ∀ b, b < 0 → a ≠ b → (TJ9 a).2.1 ≠ (TJ9 b).2.1 := by decide +kernel
theorem tyJ9_ok : ∀ k, k < 0 → parseFieldDescriptor (TJ9 k).2.2.1 = some (tyJ9 k) := by decide +kernel
abbrev cJ9_max_7cf53 : ByteArray := prog_24_method_65_code
def yJ9_max_7cf53 : MethodName := ⟨RJ9, "max", "(II)I"⟩
abbrev cJ9_min_7cf53 : ByteArray := prog_24_method_69_code
def yJ9_min_7cf53 : MethodName := ⟨RJ9, "min", "(II)I"⟩
def RJxd2413 : String := "java/lang/Number"
def TJxd2413 : u_T := fun k => match k with
  | _ => ("", "", "", false)
def tyJxd2413 : Nat → FieldType := fun k => match k with
  | _ => .int
abbrev wsJxd24130 : List Cond := u_ws RJxd2413 TJxd2413 0
theorem nmJxd2413 : ∀ a, a < 0 → ∀ b, b < 0 → a ≠ b → (TJxd2413 a).2.1 ≠ (TJxd2413 b).2.1 := by decide +kernel
theorem tyJxd2413_ok : ∀ k, k < 0 → parseFieldDescriptor (TJxd2413 k).2.2.1 = some (tyJxd2413 k) := by decide +kernel
def RJ0 : String := "java/lang/String"
def TJ0 : u_T := fun k => match k with
  | _ => ("", "", "", false)
def tyJ0 : Nat → FieldType := fun k => match k with
  | _ => .int
abbrev wsJ00 : List Cond := u_ws RJ0 TJ0 0
theorem nmJ0 : ∀ a, a < 0 → ∀ b, b < 0 → a ≠ b → (TJ0 a).2.1 ≠ (TJ0 b).2.1 := by decide +kernel
theorem tyJ0_ok : ∀ k, k < 0 → parseFieldDescriptor (TJ0 k).2.2.1 = some (tyJ0 k) := by decide +kernel
abbrev cJ0_checkIndex_df160 : ByteArray := prog_27_method_155_code
def yJ0_checkIndex_df160 : MethodName := ⟨RJ0, "checkIndex", "(II)V"⟩
abbrev cJ0_checkBoundsOffCount_cabcc : ByteArray := prog_27_method_157_code
def yJ0_checkBoundsOffCount_cabcc : MethodName := ⟨RJ0, "checkBoundsOffCount", "(III)I"⟩
abbrev cJ0_checkBoundsBeginEnd_23922 : ByteArray := prog_27_method_158_code
def yJ0_checkBoundsBeginEnd_23922 : MethodName := ⟨RJ0, "checkBoundsBeginEnd", "(III)V"⟩
def RJ4 : String := "java/lang/StringBuilder"
def TJ4 : u_T := fun k => match k with
  | 0 => ("java/lang/AbstractStringBuilder", "value", "[B", false)
  | 1 => ("java/lang/AbstractStringBuilder", "coder", "B", false)
  | 2 => ("java/lang/AbstractStringBuilder", "maybeLatin1", "Z", false)
  | _ => ("java/lang/AbstractStringBuilder", "count", "I", false)
def tyJ4 : Nat → FieldType := fun k => match k with
  | 0 => .array .byte
  | 1 => .byte
  | 2 => .boolean
  | _ => .int
abbrev wsJ40 : List Cond := u_ws RJ4 TJ4 4
theorem nmJ4 : ∀ a, a < 4 → ∀ b, b < 4 → a ≠ b → (TJ4 a).2.1 ≠ (TJ4 b).2.1 := by decide +kernel
theorem tyJ4_ok : ∀ k, k < 4 → parseFieldDescriptor (TJ4 k).2.2.1 = some (tyJ4 k) := by decide +kernel
abbrev cJ4_init_da8c8 : ByteArray := prog_28_method_1_code
def yJ4_init_da8c8 : MethodName := ⟨RJ4, "<init>", "()V"⟩
abbrev cJ4_append_cf468 : ByteArray := prog_28_method_14_code
def yJ4_append_cf468 : MethodName := ⟨RJ4, "append", "(C)Ljava/lang/StringBuilder;"⟩
abbrev cJ4_append_bf812 : ByteArray := prog_28_method_15_code
def yJ4_append_bf812 : MethodName := ⟨RJ4, "append", "(I)Ljava/lang/StringBuilder;"⟩
abbrev cJ4_charAt_5068e : ByteArray := prog_28_method_88_code
def yJ4_charAt_5068e : MethodName := ⟨RJ4, "charAt", "(I)C"⟩
abbrev cJ4_length_8abf5 : ByteArray := prog_28_method_93_code
def yJ4_length_8abf5 : MethodName := ⟨RJ4, "length", "()I"⟩
def RJ1 : String := "java/lang/StringLatin1"
def TJ1 : u_T := fun k => match k with
  | _ => ("", "", "", false)
def tyJ1 : Nat → FieldType := fun k => match k with
  | _ => .int
abbrev wsJ10 : List Cond := u_ws RJ1 TJ1 0
theorem nmJ1 : ∀ a, a < 0 → ∀ b, b < 0 → a ≠ b → (TJ1 a).2.1 ≠ (TJ1 b).2.1 := by decide +kernel
theorem tyJ1_ok : ∀ k, k < 0 → parseFieldDescriptor (TJ1 k).2.2.1 = some (tyJ1 k) := by decide +kernel
abbrev cJ1_canEncode_fc78d : ByteArray := prog_29_method_3_code
def yJ1_canEncode_fc78d : MethodName := ⟨RJ1, "canEncode", "(C)Z"⟩
abbrev cJ1_inflate_0e8fd : ByteArray := prog_29_method_50_code
def yJ1_inflate_0e8fd : MethodName := ⟨RJ1, "inflate", "([BI[BII)V"⟩
def RJ2 : String := "java/lang/StringUTF16"
def TJ2 : u_T := fun k => match k with
  | _ => ("", "", "", false)
def tyJ2 : Nat → FieldType := fun k => match k with
  | _ => .int
abbrev wsJ20 : List Cond := u_ws RJ2 TJ2 0
theorem nmJ2 : ∀ a, a < 0 → ∀ b, b < 0 → a ≠ b → (TJ2 a).2.1 ≠ (TJ2 b).2.1 := by decide +kernel
theorem tyJ2_ok : ∀ k, k < 0 → parseFieldDescriptor (TJ2 k).2.2.1 = some (tyJ2 k) := by decide +kernel
abbrev cJ2_newBytesFor_77867 : ByteArray := prog_30_method_2_code
def yJ2_newBytesFor_77867 : MethodName := ⟨RJ2, "newBytesFor", "(I)[B"⟩
abbrev cJ2_newBytesLength_0f7a4 : ByteArray := prog_30_method_3_code
def yJ2_newBytesLength_0f7a4 : MethodName := ⟨RJ2, "newBytesLength", "(I)I"⟩
abbrev cJ2_putChar_b72d1 : ByteArray := prog_30_method_4_code
def yJ2_putChar_b72d1 : MethodName := ⟨RJ2, "putChar", "([BII)V"⟩
abbrev cJ2_getChar_3b067 : ByteArray := prog_30_method_5_code
def yJ2_getChar_3b067 : MethodName := ⟨RJ2, "getChar", "([BI)C"⟩
abbrev cJ2_length_9d52b : ByteArray := prog_30_method_6_code
def yJ2_length_9d52b : MethodName := ⟨RJ2, "length", "([B)I"⟩
abbrev cJ2_putCharSB_b72d1 : ByteArray := prog_30_method_71_code
def yJ2_putCharSB_b72d1 : MethodName := ⟨RJ2, "putCharSB", "([BII)V"⟩
abbrev cJ2_getChars_46870 : ByteArray := prog_30_method_77_code
def yJ2_getChars_46870 : MethodName := ⟨RJ2, "getChars", "(III[B)I"⟩
abbrev cJ2_inflate_0e8fd : ByteArray := prog_30_method_86_code
def yJ2_inflate_0e8fd : MethodName := ⟨RJ2, "inflate", "([BI[BII)V"⟩
abbrev cJ2_getChars_ba4f3 : ByteArray := prog_30_method_89_code
def yJ2_getChars_ba4f3 : MethodName := ⟨RJ2, "getChars", "(II[B)I"⟩
abbrev cJ2_checkIndex_2214a : ByteArray := prog_30_method_91_code
def yJ2_checkIndex_2214a : MethodName := ⟨RJ2, "checkIndex", "(I[B)V"⟩
abbrev cJ2_checkBoundsBeginEnd_d044e : ByteArray := prog_30_method_93_code
def yJ2_checkBoundsBeginEnd_d044e : MethodName := ⟨RJ2, "checkBoundsBeginEnd", "(II[B)V"⟩
abbrev cJ2_checkBoundsOffCount_d044e : ByteArray := prog_30_method_94_code
def yJ2_checkBoundsOffCount_d044e : MethodName := ⟨RJ2, "checkBoundsOffCount", "(II[B)V"⟩
def RJ10 : String := "java/lang/System"
def TJ10 : u_T := fun k => match k with
  | _ => ("", "", "", false)
def tyJ10 : Nat → FieldType := fun k => match k with
  | _ => .int
abbrev wsJ100 : List Cond := u_ws RJ10 TJ10 0
theorem nmJ10 : ∀ a, a < 0 → ∀ b, b < 0 → a ≠ b → (TJ10 a).2.1 ≠ (TJ10 b).2.1 := by decide +kernel
theorem tyJ10_ok : ∀ k, k < 0 → parseFieldDescriptor (TJ10 k).2.2.1 = some (tyJ10 k) := by decide +kernel
def RJxfd54e : String := "java/lang/constant/Constable"
def TJxfd54e : u_T := fun k => match k with
  | _ => ("", "", "", false)
def tyJxfd54e : Nat → FieldType := fun k => match k with
  | _ => .int
abbrev wsJxfd54e0 : List Cond := u_ws RJxfd54e TJxfd54e 0
theorem nmJxfd54e : ∀ a, a < 0 → ∀ b, b < 0 → a ≠ b → (TJxfd54e a).2.1 ≠ (TJxfd54e b).2.1 := by decide +kernel
theorem tyJxfd54e_ok : ∀ k, k < 0 → parseFieldDescriptor (TJxfd54e k).2.2.1 = some (tyJxfd54e k) := by decide +kernel
def RJx3cf43 : String := "java/lang/constant/ConstantDesc"
def TJx3cf43 : u_T := fun k => match k with
  | _ => ("", "", "", false)
def tyJx3cf43 : Nat → FieldType := fun k => match k with
  | _ => .int
abbrev wsJx3cf430 : List Cond := u_ws RJx3cf43 TJx3cf43 0
theorem nmJx3cf43 : ∀ a, a < 0 → ∀ b, b < 0 → a ≠ b → (TJx3cf43 a).2.1 ≠ (TJx3cf43 b).2.1 := by decide +kernel
theorem tyJx3cf43_ok : ∀ k, k < 0 → parseFieldDescriptor (TJx3cf43 k).2.2.1 = some (tyJx3cf43 k) := by decide +kernel
def RJxa1e45 : String := "java/util/AbstractCollection"
def TJxa1e45 : u_T := fun k => match k with
  | _ => ("", "", "", false)
def tyJxa1e45 : Nat → FieldType := fun k => match k with
  | _ => .int
abbrev wsJxa1e450 : List Cond := u_ws RJxa1e45 TJxa1e45 0
theorem nmJxa1e45 : ∀ a, a < 0 → ∀ b, b < 0 → a ≠ b → (TJxa1e45 a).2.1 ≠ (TJxa1e45 b).2.1 := by decide +kernel
theorem tyJxa1e45_ok : ∀ k, k < 0 → parseFieldDescriptor (TJxa1e45 k).2.2.1 = some (tyJxa1e45 k) := by decide +kernel
abbrev cJxa1e45_init_da8c8 : ByteArray := prog_35_method_1_code
def yJxa1e45_init_da8c8 : MethodName := ⟨RJxa1e45, "<init>", "()V"⟩
def RJxc12de : String := "java/util/AbstractList"
def TJxc12de : u_T := fun k => match k with
  | _ => ("", "", "", false)
def tyJxc12de : Nat → FieldType := fun k => match k with
  | _ => .int
abbrev wsJxc12de0 : List Cond := u_ws RJxc12de TJxc12de 0
theorem nmJxc12de : ∀ a, a < 0 → ∀ b, b < 0 → a ≠ b → (TJxc12de a).2.1 ≠ (TJxc12de b).2.1 := by decide +kernel
theorem tyJxc12de_ok : ∀ k, k < 0 → parseFieldDescriptor (TJxc12de k).2.2.1 = some (tyJxc12de k) := by decide +kernel
abbrev cJxc12de_init_da8c8 : ByteArray := prog_36_method_1_code
def yJxc12de_init_da8c8 : MethodName := ⟨RJxc12de, "<init>", "()V"⟩
def RJx4a65c : String := "java/util/ArrayList"
def TJx4a65c : u_T := fun k => match k with
  | 0 => ("java/util/AbstractList", "modCount", "I", false)
  | 1 => ("java/util/ArrayList", "elementData", "[Ljava/lang/Object;", false)
  | _ => ("java/util/ArrayList", "size", "I", false)
def tyJx4a65c : Nat → FieldType := fun k => match k with
  | 0 => .int
  | 1 => .array (.object "java/lang/Object")
  | _ => .int
abbrev wsJx4a65c0 : List Cond := u_ws RJx4a65c TJx4a65c 3
theorem nmJx4a65c : ∀ a, a < 3 → ∀ b, b < 3 → a ≠ b → (TJx4a65c a).2.1 ≠ (TJx4a65c b).2.1 := by decide +kernel
theorem tyJx4a65c_ok : ∀ k, k < 3 → parseFieldDescriptor (TJx4a65c k).2.2.1 = some (tyJx4a65c k) := by decide +kernel
abbrev cJx4a65c_init_da8c8 : ByteArray := prog_37_method_2_code
def yJx4a65c_init_da8c8 : MethodName := ⟨RJx4a65c, "<init>", "()V"⟩
abbrev cJx4a65c_grow_92f84 : ByteArray := prog_37_method_6_code
def yJx4a65c_grow_92f84 : MethodName := ⟨RJx4a65c, "grow", "(I)[Ljava/lang/Object;"⟩
abbrev cJx4a65c_grow_d5877 : ByteArray := prog_37_method_7_code
def yJx4a65c_grow_d5877 : MethodName := ⟨RJx4a65c, "grow", "()[Ljava/lang/Object;"⟩
abbrev cJx4a65c_size_8abf5 : ByteArray := prog_37_method_8_code
def yJx4a65c_size_8abf5 : MethodName := ⟨RJx4a65c, "size", "()I"⟩
abbrev cJx4a65c_elementData_915e3 : ByteArray := prog_37_method_18_code
def yJx4a65c_elementData_915e3 : MethodName := ⟨RJx4a65c, "elementData", "(I)Ljava/lang/Object;"⟩
abbrev cJx4a65c_get_915e3 : ByteArray := prog_37_method_20_code
def yJx4a65c_get_915e3 : MethodName := ⟨RJx4a65c, "get", "(I)Ljava/lang/Object;"⟩
abbrev cJx4a65c_add_72be8 : ByteArray := prog_37_method_24_code
def yJx4a65c_add_72be8 : MethodName := ⟨RJx4a65c, "add", "(Ljava/lang/Object;[Ljava/lang/Object;I)V"⟩
abbrev cJx4a65c_add_9ea2d : ByteArray := prog_37_method_25_code
def yJx4a65c_add_9ea2d : MethodName := ⟨RJx4a65c, "add", "(Ljava/lang/Object;)Z"⟩
def RJ7 : String := "java/util/Arrays"
def TJ7 : u_T := fun k => match k with
  | _ => ("", "", "", false)
def tyJ7 : Nat → FieldType := fun k => match k with
  | _ => .int
abbrev wsJ70 : List Cond := u_ws RJ7 TJ7 0
theorem nmJ7 : ∀ a, a < 0 → ∀ b, b < 0 → a ≠ b → (TJ7 a).2.1 ≠ (TJ7 b).2.1 := by decide +kernel
theorem tyJ7_ok : ∀ k, k < 0 → parseFieldDescriptor (TJ7 k).2.2.1 = some (tyJ7 k) := by decide +kernel
abbrev cJ7_copyOf_1904c : ByteArray := prog_38_method_119_code
def yJ7_copyOf_1904c : MethodName := ⟨RJ7, "copyOf", "([Ljava/lang/Object;I)[Ljava/lang/Object;"⟩
abbrev cJ7_copyOf_6403c : ByteArray := prog_38_method_120_code
def yJ7_copyOf_6403c : MethodName := ⟨RJ7, "copyOf", "([Ljava/lang/Object;ILjava/lang/Class;)[Ljava/lang/Object;"⟩
abbrev cJ7_copyOf_9075b : ByteArray := prog_38_method_121_code
def yJ7_copyOf_9075b : MethodName := ⟨RJ7, "copyOf", "([BI)[B"⟩
def RJx5ef63 : String := "java/util/Collection"
def TJx5ef63 : u_T := fun k => match k with
  | _ => ("", "", "", false)
def tyJx5ef63 : Nat → FieldType := fun k => match k with
  | _ => .int
abbrev wsJx5ef630 : List Cond := u_ws RJx5ef63 TJx5ef63 0
theorem nmJx5ef63 : ∀ a, a < 0 → ∀ b, b < 0 → a ≠ b → (TJx5ef63 a).2.1 ≠ (TJx5ef63 b).2.1 := by decide +kernel
theorem tyJx5ef63_ok : ∀ k, k < 0 → parseFieldDescriptor (TJx5ef63 k).2.2.1 = some (tyJx5ef63 k) := by decide +kernel
def RJxbd725 : String := "java/util/List"
def TJxbd725 : u_T := fun k => match k with
  | _ => ("", "", "", false)
def tyJxbd725 : Nat → FieldType := fun k => match k with
  | _ => .int
abbrev wsJxbd7250 : List Cond := u_ws RJxbd725 TJxbd725 0
theorem nmJxbd725 : ∀ a, a < 0 → ∀ b, b < 0 → a ≠ b → (TJxbd725 a).2.1 ≠ (TJxbd725 b).2.1 := by decide +kernel
theorem tyJxbd725_ok : ∀ k, k < 0 → parseFieldDescriptor (TJxbd725 k).2.2.1 = some (tyJxbd725 k) := by decide +kernel
def RJ15 : String := "java/util/Objects"
def TJ15 : u_T := fun k => match k with
  | _ => ("", "", "", false)
def tyJ15 : Nat → FieldType := fun k => match k with
  | _ => .int
abbrev wsJ150 : List Cond := u_ws RJ15 TJ15 0
theorem nmJ15 : ∀ a, a < 0 → ∀ b, b < 0 → a ≠ b → (TJ15 a).2.1 ≠ (TJ15 b).2.1 := by decide +kernel
theorem tyJ15_ok : ∀ k, k < 0 → parseFieldDescriptor (TJ15 k).2.2.1 = some (tyJ15 k) := by decide +kernel
abbrev cJ15_checkIndex_7cf53 : ByteArray := prog_41_method_17_code
def yJ15_checkIndex_7cf53 : MethodName := ⟨RJ15, "checkIndex", "(II)I"⟩
def RJxf0a74 : String := "java/util/RandomAccess"
def TJxf0a74 : u_T := fun k => match k with
  | _ => ("", "", "", false)
def tyJxf0a74 : Nat → FieldType := fun k => match k with
  | _ => .int
abbrev wsJxf0a740 : List Cond := u_ws RJxf0a74 TJxf0a74 0
theorem nmJxf0a74 : ∀ a, a < 0 → ∀ b, b < 0 → a ≠ b → (TJxf0a74 a).2.1 ≠ (TJxf0a74 b).2.1 := by decide +kernel
theorem tyJxf0a74_ok : ∀ k, k < 0 → parseFieldDescriptor (TJxf0a74 k).2.2.1 = some (tyJxf0a74 k) := by decide +kernel
def RJxa66e6 : String := "java/util/SequencedCollection"
def TJxa66e6 : u_T := fun k => match k with
  | _ => ("", "", "", false)
def tyJxa66e6 : Nat → FieldType := fun k => match k with
  | _ => .int
abbrev wsJxa66e60 : List Cond := u_ws RJxa66e6 TJxa66e6 0
theorem nmJxa66e6 : ∀ a, a < 0 → ∀ b, b < 0 → a ≠ b → (TJxa66e6 a).2.1 ≠ (TJxa66e6 b).2.1 := by decide +kernel
theorem tyJxa66e6_ok : ∀ k, k < 0 → parseFieldDescriptor (TJxa66e6 k).2.2.1 = some (tyJxa66e6 k) := by decide +kernel
def RJ8 : String := "jdk/internal/util/ArraysSupport"
def TJ8 : u_T := fun k => match k with
  | _ => ("", "", "", false)
def tyJ8 : Nat → FieldType := fun k => match k with
  | _ => .int
abbrev wsJ80 : List Cond := u_ws RJ8 TJ8 0
theorem nmJ8 : ∀ a, a < 0 → ∀ b, b < 0 → a ≠ b → (TJ8 a).2.1 ≠ (TJ8 b).2.1 := by decide +kernel
theorem tyJ8_ok : ∀ k, k < 0 → parseFieldDescriptor (TJ8 k).2.2.1 = some (tyJ8 k) := by decide +kernel
abbrev cJ8_newLength_cabcc : ByteArray := prog_44_method_27_code
def yJ8_newLength_cabcc : MethodName := ⟨RJ8, "newLength", "(III)I"⟩
abbrev cJ8_hugeLength_7cf53 : ByteArray := prog_44_method_28_code
def yJ8_hugeLength_7cf53 : MethodName := ⟨RJ8, "hugeLength", "(II)I"⟩
def RJ3 : String := "jdk/internal/util/Preconditions"
def TJ3 : u_T := fun k => match k with
  | _ => ("", "", "", false)
def tyJ3 : Nat → FieldType := fun k => match k with
  | _ => .int
abbrev wsJ30 : List Cond := u_ws RJ3 TJ3 0
theorem nmJ3 : ∀ a, a < 0 → ∀ b, b < 0 → a ≠ b → (TJ3 a).2.1 ≠ (TJ3 b).2.1 := by decide +kernel
theorem tyJ3_ok : ∀ k, k < 0 → parseFieldDescriptor (TJ3 k).2.2.1 = some (tyJ3 k) := by decide +kernel
abbrev cJ3_checkIndex_8e157 : ByteArray := prog_45_method_11_code
def yJ3_checkIndex_8e157 : MethodName := ⟨RJ3, "checkIndex", "(IILjava/util/function/BiFunction;)I"⟩
abbrev cJ3_checkFromToIndex_8c36e : ByteArray := prog_45_method_12_code
def yJ3_checkFromToIndex_8c36e : MethodName := ⟨RJ3, "checkFromToIndex", "(IIILjava/util/function/BiFunction;)I"⟩
abbrev cJ3_checkFromIndexSize_8c36e : ByteArray := prog_45_method_13_code
def yJ3_checkFromIndexSize_8c36e : MethodName := ⟨RJ3, "checkFromIndexSize", "(IIILjava/util/function/BiFunction;)I"⟩
def RL : String := "DeedProtocolLaw"
abbrev cL_cell : ByteArray := method_2_code
def yL_cell : MethodName := ⟨RL, "cell", "([II)I"⟩
abbrev cL_low : ByteArray := method_3_code
def yL_low : MethodName := ⟨RL, "low", "(II)I"⟩
abbrev cL_calls : ByteArray := method_4_code
def yL_calls : MethodName := ⟨RL, "calls", "(LDeedProtocol;IIIIIII)I"⟩
abbrev cL_able : ByteArray := method_5_code
def yL_able : MethodName := ⟨RL, "able", "(I[I[I)Z"⟩
abbrev cL_alone : ByteArray := method_6_code
def yL_alone : MethodName := ⟨RL, "alone", "(I[I[I[I[I[I[I)Z"⟩
abbrev cL_good : ByteArray := method_7_code
def yL_good : MethodName := ⟨RL, "good", "(I[I[I[I[I[I[I[I)Z"⟩
abbrev cL_kin : ByteArray := method_8_code
def yL_kin : MethodName := ⟨RL, "kin", "(II[I)Z"⟩
abbrev cL_signs : ByteArray := method_9_code
def yL_signs : MethodName := ⟨RL, "signs", "(IIZI[I[I[I[I[I[I[I[I)I"⟩
abbrev cL_closes : ByteArray := method_10_code
def yL_closes : MethodName := ⟨RL, "closes", "(I[I[I[I[I[I[I[I[I)I"⟩
abbrev cL_least : ByteArray := method_11_code
def yL_least : MethodName := ⟨RL, "least", "(I)I"⟩
abbrev cL_many : ByteArray := method_12_code
def yL_many : MethodName := ⟨RL, "many", "(I)I"⟩
abbrev cL_below : ByteArray := method_13_code
def yL_below : MethodName := ⟨RL, "below", "(J)J"⟩
abbrev cL_enters : ByteArray := method_14_code
def yL_enters : MethodName := ⟨RL, "enters", "(I[I[I[I[I[I[I[I[J[I)I"⟩
abbrev cL_will : ByteArray := method_15_code
def yL_will : MethodName := ⟨RL, "will", "(I[I[I[I[I[I)I"⟩
abbrev cL_dies : ByteArray := method_16_code
def yL_dies : MethodName := ⟨RL, "dies", "(I[I[I[I[I[I[I[J[I)I"⟩
abbrev cL_drafts : ByteArray := method_17_code
def yL_drafts : MethodName := ⟨RL, "drafts", "(LDeedProtocol;I[I[I[I[I)Z"⟩
abbrev cL_acts : ByteArray := method_18_code
def yL_acts : MethodName := ⟨RL, "acts", "(LDeedProtocol;II[I[I[I[I[I[I[I[I[I[I[I[J[I)Z"⟩
abbrev cL_same : ByteArray := method_19_code
def yL_same : MethodName := ⟨RL, "same", "(LDeedProtocol;I[I[I[I[I[I[I[I[I[I[I[I[J[I)Z"⟩
abbrev cL_law : ByteArray := code
def yL_law : MethodName := ⟨RL, "law", "([I)Z"⟩
abbrev vwCl : List vw_C := [(RJ4, TJ4, 4), (RJx4a65c, TJx4a65c, 3), (RX0, TX0, 15), (RX1, TX1, 5), (RX2, TX2, 5), (RX3, TX3, 5), (RX4, TX4, 2), (RX5, TX5, 7), (RX6, TX6, 2), (RX7, TX7, 4), (RX8, TX8, 8)]
