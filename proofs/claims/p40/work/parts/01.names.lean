-- ===== PART A: goes FIRST, ahead of the names: the tables' words, and 'selects' of the private methods out of them =====
/-- a private method of a class that the tables say can be made, by its rows of tables_1 -/
def lw_okq (q : MethodName × Nat) : Prop := (q.1.cls ≠ "java/lang/invoke/MethodHandle" ∧ q.1.cls ≠ "java/lang/invoke/VarHandle") ∧ Cond.instantiable q.1.cls q.2 ∈ tables_1 ∧ Cond.privateMethod q.1 ∈ tables_1 ∧ Cond.instanceMethod q.1 ∈ tables_1
theorem lw_p0 : lw_okq (⟨"BoatRota", "requireBoat", "(I)V"⟩, 12) := ⟨⟨by decide +kernel, by decide +kernel⟩, List.mem_of_getElem? (i := 39) (by decide +kernel), List.mem_of_getElem? (i := 37) (by decide +kernel), List.mem_of_getElem? (i := 38) (by decide +kernel)⟩
theorem lw_p1 : lw_okq (⟨"java/lang/Throwable", "fillInStackTrace", "(I)Ljava/lang/Throwable;"⟩, 6) := ⟨⟨by decide +kernel, by decide +kernel⟩, List.mem_of_getElem? (i := 89) (by decide +kernel), List.mem_of_getElem? (i := 87) (by decide +kernel), List.mem_of_getElem? (i := 88) (by decide +kernel)⟩
theorem lw_p2 : lw_okq (⟨"BoatRota$Station", "skilledMembers", "(I)I"⟩, 11) := ⟨⟨by decide +kernel, by decide +kernel⟩, List.mem_of_getElem? (i := 155) (by decide +kernel), List.mem_of_getElem? (i := 153) (by decide +kernel), List.mem_of_getElem? (i := 154) (by decide +kernel)⟩
theorem lw_p3 : lw_okq (⟨"BoatRota", "change", "(LBoatRota$Deed;II)I"⟩, 12) := ⟨⟨by decide +kernel, by decide +kernel⟩, List.mem_of_getElem? (i := 39) (by decide +kernel), List.mem_of_getElem? (i := 247) (by decide +kernel), List.mem_of_getElem? (i := 248) (by decide +kernel)⟩
theorem lw_p4 : lw_okq (⟨"BoatRota", "judge", "(LBoatRota$Deed;II)V"⟩, 12) := ⟨⟨by decide +kernel, by decide +kernel⟩, List.mem_of_getElem? (i := 39) (by decide +kernel), List.mem_of_getElem? (i := 251) (by decide +kernel), List.mem_of_getElem? (i := 252) (by decide +kernel)⟩
theorem lw_p5 : lw_okq (⟨"BoatRota", "remember", "(LBoatRota$Station;)V"⟩, 12) := ⟨⟨by decide +kernel, by decide +kernel⟩, List.mem_of_getElem? (i := 39) (by decide +kernel), List.mem_of_getElem? (i := 330) (by decide +kernel), List.mem_of_getElem? (i := 331) (by decide +kernel)⟩
theorem lw_p6 : lw_okq (⟨"BoatRota", "forgetOldest", "()V"⟩, 12) := ⟨⟨by decide +kernel, by decide +kernel⟩, List.mem_of_getElem? (i := 39) (by decide +kernel), List.mem_of_getElem? (i := 334) (by decide +kernel), List.mem_of_getElem? (i := 335) (by decide +kernel)⟩
theorem lw_p7 : lw_okq (⟨"BoatRota", "carryOut", "(LBoatRota$Deed;II)I"⟩, 12) := ⟨⟨by decide +kernel, by decide +kernel⟩, List.mem_of_getElem? (i := 39) (by decide +kernel), List.mem_of_getElem? (i := 338) (by decide +kernel), List.mem_of_getElem? (i := 339) (by decide +kernel)⟩
theorem lw_p8 : lw_okq (⟨"BoatRota$Station", "chosenCoxswain", "()I"⟩, 11) := ⟨⟨by decide +kernel, by decide +kernel⟩, List.mem_of_getElem? (i := 155) (by decide +kernel), List.mem_of_getElem? (i := 379) (by decide +kernel), List.mem_of_getElem? (i := 380) (by decide +kernel)⟩
theorem lw_p9 : lw_okq (⟨"BoatRota$Station", "leastWearyOf", "(I)I"⟩, 11) := ⟨⟨by decide +kernel, by decide +kernel⟩, List.mem_of_getElem? (i := 155) (by decide +kernel), List.mem_of_getElem? (i := 383) (by decide +kernel), List.mem_of_getElem? (i := 384) (by decide +kernel)⟩
theorem lw_p10 : lw_okq (⟨"BoatRota$Station", "filledUp", "(III)I"⟩, 11) := ⟨⟨by decide +kernel, by decide +kernel⟩, List.mem_of_getElem? (i := 155) (by decide +kernel), List.mem_of_getElem? (i := 391) (by decide +kernel), List.mem_of_getElem? (i := 392) (by decide +kernel)⟩
theorem lw_p11 : lw_okq (⟨"BoatRota$Station", "removeLoan", "(I)V"⟩, 11) := ⟨⟨by decide +kernel, by decide +kernel⟩, List.mem_of_getElem? (i := 155) (by decide +kernel), List.mem_of_getElem? (i := 410) (by decide +kernel), List.mem_of_getElem? (i := 411) (by decide +kernel)⟩
theorem lw_p12 : lw_okq (⟨"BoatRota$Station", "tireMembers", "()V"⟩, 11) := ⟨⟨by decide +kernel, by decide +kernel⟩, List.mem_of_getElem? (i := 155) (by decide +kernel), List.mem_of_getElem? (i := 422) (by decide +kernel), List.mem_of_getElem? (i := 423) (by decide +kernel)⟩
theorem lw_p13 : lw_okq (⟨"BoatRota$Station", "sailBoats", "()V"⟩, 11) := ⟨⟨by decide +kernel, by decide +kernel⟩, List.mem_of_getElem? (i := 155) (by decide +kernel), List.mem_of_getElem? (i := 426) (by decide +kernel), List.mem_of_getElem? (i := 427) (by decide +kernel)⟩
theorem lw_p14 : lw_okq (⟨"BoatRota$Station", "sailBoat", "(I)V"⟩, 11) := ⟨⟨by decide +kernel, by decide +kernel⟩, List.mem_of_getElem? (i := 155) (by decide +kernel), List.mem_of_getElem? (i := 430) (by decide +kernel), List.mem_of_getElem? (i := 431) (by decide +kernel)⟩
theorem lw_p15 : lw_okq (⟨"BoatRota$Station", "bringIn", "(I)V"⟩, 11) := ⟨⟨by decide +kernel, by decide +kernel⟩, List.mem_of_getElem? (i := 155) (by decide +kernel), List.mem_of_getElem? (i := 434) (by decide +kernel), List.mem_of_getElem? (i := 435) (by decide +kernel)⟩
def lw_privs_1 : List (MethodName × Nat) := [(⟨"BoatRota", "requireBoat", "(I)V"⟩, 12), (⟨"java/lang/Throwable", "fillInStackTrace", "(I)Ljava/lang/Throwable;"⟩, 6), (⟨"BoatRota$Station", "skilledMembers", "(I)I"⟩, 11), (⟨"BoatRota", "change", "(LBoatRota$Deed;II)I"⟩, 12), (⟨"BoatRota", "judge", "(LBoatRota$Deed;II)V"⟩, 12), (⟨"BoatRota", "remember", "(LBoatRota$Station;)V"⟩, 12), (⟨"BoatRota", "forgetOldest", "()V"⟩, 12), (⟨"BoatRota", "carryOut", "(LBoatRota$Deed;II)I"⟩, 12), (⟨"BoatRota$Station", "chosenCoxswain", "()I"⟩, 11), (⟨"BoatRota$Station", "leastWearyOf", "(I)I"⟩, 11), (⟨"BoatRota$Station", "filledUp", "(III)I"⟩, 11), (⟨"BoatRota$Station", "removeLoan", "(I)V"⟩, 11), (⟨"BoatRota$Station", "tireMembers", "()V"⟩, 11), (⟨"BoatRota$Station", "sailBoats", "()V"⟩, 11), (⟨"BoatRota$Station", "sailBoat", "(I)V"⟩, 11), (⟨"BoatRota$Station", "bringIn", "(I)V"⟩, 11)]
theorem lw_r1 : ∀ q ∈ lw_privs_1, lw_okq q := List.forall_mem_cons.mpr ⟨lw_p0, List.forall_mem_cons.mpr ⟨lw_p1, List.forall_mem_cons.mpr ⟨lw_p2, List.forall_mem_cons.mpr ⟨lw_p3, List.forall_mem_cons.mpr ⟨lw_p4, List.forall_mem_cons.mpr ⟨lw_p5, List.forall_mem_cons.mpr ⟨lw_p6, List.forall_mem_cons.mpr ⟨lw_p7, List.forall_mem_cons.mpr ⟨lw_p8, List.forall_mem_cons.mpr ⟨lw_p9, List.forall_mem_cons.mpr ⟨lw_p10, List.forall_mem_cons.mpr ⟨lw_p11, List.forall_mem_cons.mpr ⟨lw_p12, List.forall_mem_cons.mpr ⟨lw_p13, List.forall_mem_cons.mpr ⟨lw_p14, List.forall_mem_cons.mpr ⟨lw_p15, fun _ h => absurd h List.not_mem_nil⟩⟩⟩⟩⟩⟩⟩⟩⟩⟩⟩⟩⟩⟩⟩⟩
theorem lw_p16 : lw_okq (⟨"BoatRota$Station", "ageLoans", "()V"⟩, 11) := ⟨⟨by decide +kernel, by decide +kernel⟩, List.mem_of_getElem? (i := 155) (by decide +kernel), List.mem_of_getElem? (i := 438) (by decide +kernel), List.mem_of_getElem? (i := 439) (by decide +kernel)⟩
theorem lw_p17 : lw_okq (⟨"BoatRota", "requireOut", "(I)V"⟩, 12) := ⟨⟨by decide +kernel, by decide +kernel⟩, List.mem_of_getElem? (i := 39) (by decide +kernel), List.mem_of_getElem? (i := 514) (by decide +kernel), List.mem_of_getElem? (i := 515) (by decide +kernel)⟩
theorem lw_p18 : lw_okq (⟨"BoatRota$Station", "countBefore", "(IIZ)I"⟩, 11) := ⟨⟨by decide +kernel, by decide +kernel⟩, List.mem_of_getElem? (i := 155) (by decide +kernel), List.mem_of_getElem? (i := 532) (by decide +kernel), List.mem_of_getElem? (i := 533) (by decide +kernel)⟩
theorem lw_p19 : lw_okq (⟨"BoatRota$Station", "isBusier", "(II)Z"⟩, 11) := ⟨⟨by decide +kernel, by decide +kernel⟩, List.mem_of_getElem? (i := 155) (by decide +kernel), List.mem_of_getElem? (i := 536) (by decide +kernel), List.mem_of_getElem? (i := 537) (by decide +kernel)⟩
theorem lw_p20 : lw_okq (⟨"BoatRota$Station", "isFresher", "(II)Z"⟩, 11) := ⟨⟨by decide +kernel, by decide +kernel⟩, List.mem_of_getElem? (i := 155) (by decide +kernel), List.mem_of_getElem? (i := 540) (by decide +kernel), List.mem_of_getElem? (i := 541) (by decide +kernel)⟩
theorem lw_p21 : lw_okq (⟨"BoatRota$Script", "readCommand", "(I)Z"⟩, 7) := ⟨⟨by decide +kernel, by decide +kernel⟩, List.mem_of_getElem? (i := 766) (by decide +kernel), List.mem_of_getElem? (i := 1193) (by decide +kernel), List.mem_of_getElem? (i := 1194) (by decide +kernel)⟩
theorem lw_p22 : lw_okq (⟨"BoatRota$Script", "readDeed", "()LBoatRota$Deed;"⟩, 7) := ⟨⟨by decide +kernel, by decide +kernel⟩, List.mem_of_getElem? (i := 766) (by decide +kernel), List.mem_of_getElem? (i := 1197) (by decide +kernel), List.mem_of_getElem? (i := 1198) (by decide +kernel)⟩
theorem lw_p23 : lw_okq (⟨"BoatRota$Script", "readNumber", "(I)I"⟩, 7) := ⟨⟨by decide +kernel, by decide +kernel⟩, List.mem_of_getElem? (i := 766) (by decide +kernel), List.mem_of_getElem? (i := 1203) (by decide +kernel), List.mem_of_getElem? (i := 1204) (by decide +kernel)⟩
theorem lw_p24 : lw_okq (⟨"BoatRota$Script", "isDigitNext", "()Z"⟩, 7) := ⟨⟨by decide +kernel, by decide +kernel⟩, List.mem_of_getElem? (i := 766) (by decide +kernel), List.mem_of_getElem? (i := 1207) (by decide +kernel), List.mem_of_getElem? (i := 1208) (by decide +kernel)⟩
theorem lw_p25 : lw_okq (⟨"BoatRota", "carryOutAll", "()I"⟩, 12) := ⟨⟨by decide +kernel, by decide +kernel⟩, List.mem_of_getElem? (i := 39) (by decide +kernel), List.mem_of_getElem? (i := 1213) (by decide +kernel), List.mem_of_getElem? (i := 1214) (by decide +kernel)⟩
theorem lw_p26 : lw_okq (⟨"BoatRota", "requireCrew", "(I)V"⟩, 12) := ⟨⟨by decide +kernel, by decide +kernel⟩, List.mem_of_getElem? (i := 39) (by decide +kernel), List.mem_of_getElem? (i := 1264) (by decide +kernel), List.mem_of_getElem? (i := 1265) (by decide +kernel)⟩
def lw_privs_2 : List (MethodName × Nat) := [(⟨"BoatRota$Station", "ageLoans", "()V"⟩, 11), (⟨"BoatRota", "requireOut", "(I)V"⟩, 12), (⟨"BoatRota$Station", "countBefore", "(IIZ)I"⟩, 11), (⟨"BoatRota$Station", "isBusier", "(II)Z"⟩, 11), (⟨"BoatRota$Station", "isFresher", "(II)Z"⟩, 11), (⟨"BoatRota$Script", "readCommand", "(I)Z"⟩, 7), (⟨"BoatRota$Script", "readDeed", "()LBoatRota$Deed;"⟩, 7), (⟨"BoatRota$Script", "readNumber", "(I)I"⟩, 7), (⟨"BoatRota$Script", "isDigitNext", "()Z"⟩, 7), (⟨"BoatRota", "carryOutAll", "()I"⟩, 12), (⟨"BoatRota", "requireCrew", "(I)V"⟩, 12)]
theorem lw_r2 : ∀ q ∈ lw_privs_2, lw_okq q := List.forall_mem_cons.mpr ⟨lw_p16, List.forall_mem_cons.mpr ⟨lw_p17, List.forall_mem_cons.mpr ⟨lw_p18, List.forall_mem_cons.mpr ⟨lw_p19, List.forall_mem_cons.mpr ⟨lw_p20, List.forall_mem_cons.mpr ⟨lw_p21, List.forall_mem_cons.mpr ⟨lw_p22, List.forall_mem_cons.mpr ⟨lw_p23, List.forall_mem_cons.mpr ⟨lw_p24, List.forall_mem_cons.mpr ⟨lw_p25, List.forall_mem_cons.mpr ⟨lw_p26, fun _ h => absurd h List.not_mem_nil⟩⟩⟩⟩⟩⟩⟩⟩⟩⟩⟩
def lw_privs : List (MethodName × Nat) := lw_privs_1 ++ (lw_privs_2)
def lw_tbl : List Cond := k2_sels lw_privs ++ tables_1
theorem lw_privs_ok : ∀ q ∈ lw_privs, lw_okq q := by
  show ∀ q ∈ lw_privs_1 ++ (lw_privs_2), lw_okq q
  exact List.forall_mem_append.mpr ⟨lw_r1, lw_r2⟩
def RX0 : String := "BoatRota$1"
def TX0 : u_T := fun k => match k with
  | _ => ("", "", "", false)
def tyX0 : Nat → FieldType := fun k => match k with
  | _ => .int
theorem nmX0 : ∀ a, a < 0 → ∀ b, b < 0 → a ≠ b → (TX0 a).2.1 ≠ (TX0 b).2.1 := by decide +kernel
theorem tyX0_ok : ∀ k, k < 0 → parseFieldDescriptor (TX0 k).2.2.1 = some (tyX0 k) := by decide +kernel
def RX1 : String := "BoatRota$Boat"
def TX1 : u_T := fun k => match k with
  | 0 => ("BoatRota$Boat", "draft", "I", false)
  | 1 => ("BoatRota$Boat", "seats", "I", false)
  | 2 => ("BoatRota$Boat", "coxswain", "I", false)
  | 3 => ("BoatRota$Boat", "hoursLeft", "I", false)
  | 4 => ("BoatRota$Boat", "hoursWaited", "I", false)
  | _ => ("BoatRota$Boat", "callOuts", "I", false)
def tyX1 : Nat → FieldType := fun k => match k with
  | 0 => .int
  | 1 => .int
  | 2 => .int
  | 3 => .int
  | 4 => .int
  | _ => .int
theorem nmX1 : ∀ a, a < 6 → ∀ b, b < 6 → a ≠ b → (TX1 a).2.1 ≠ (TX1 b).2.1 := by decide +kernel
theorem tyX1_ok : ∀ k, k < 6 → parseFieldDescriptor (TX1 k).2.2.1 = some (tyX1 k) := by decide +kernel
abbrev cX1_init : ByteArray := prog_3_method_1_code
def yX1_init : MethodName := ⟨RX1, "<init>", "()V"⟩
abbrev cX1_start : ByteArray := prog_3_method_2_code
def yX1_start : MethodName := ⟨RX1, "start", "(II)V"⟩
abbrev cX1_isOut : ByteArray := prog_3_method_3_code
def yX1_isOut : MethodName := ⟨RX1, "isOut", "()Z"⟩
abbrev cX1_oarsNeeded : ByteArray := prog_3_method_4_code
def yX1_oarsNeeded : MethodName := ⟨RX1, "oarsNeeded", "()I"⟩
abbrev cX1_skilledNeeded : ByteArray := prog_3_method_5_code
def yX1_skilledNeeded : MethodName := ⟨RX1, "skilledNeeded", "()I"⟩
abbrev cX1_copyFrom : ByteArray := prog_3_method_6_code
def yX1_copyFrom : MethodName := ⟨RX1, "copyFrom", "(LBoatRota$Boat;)V"⟩
def RX2 : String := "BoatRota$Deed"
def TX2 : u_T := fun k => match k with
  | _ => ("", "", "", false)
def tyX2 : Nat → FieldType := fun k => match k with
  | _ => .int
theorem nmX2 : ∀ a, a < 0 → ∀ b, b < 0 → a ≠ b → (TX2 a).2.1 ≠ (TX2 b).2.1 := by decide +kernel
theorem tyX2_ok : ∀ k, k < 0 → parseFieldDescriptor (TX2 k).2.2.1 = some (tyX2 k) := by decide +kernel
def RX3 : String := "BoatRota$Loan"
def TX3 : u_T := fun k => match k with
  | 0 => ("BoatRota$Loan", "oars", "I", false)
  | 1 => ("BoatRota$Loan", "hoursUntilDue", "I", false)
  | _ => ("BoatRota$Loan", "hoursLate", "I", false)
def tyX3 : Nat → FieldType := fun k => match k with
  | 0 => .int
  | 1 => .int
  | _ => .int
theorem nmX3 : ∀ a, a < 3 → ∀ b, b < 3 → a ≠ b → (TX3 a).2.1 ≠ (TX3 b).2.1 := by decide +kernel
theorem tyX3_ok : ∀ k, k < 3 → parseFieldDescriptor (TX3 k).2.2.1 = some (tyX3 k) := by decide +kernel
abbrev cX3_init : ByteArray := prog_5_method_1_code
def yX3_init : MethodName := ⟨RX3, "<init>", "()V"⟩
abbrev cX3_start : ByteArray := prog_5_method_2_code
def yX3_start : MethodName := ⟨RX3, "start", "(II)V"⟩
abbrev cX3_copyFrom : ByteArray := prog_5_method_3_code
def yX3_copyFrom : MethodName := ⟨RX3, "copyFrom", "(LBoatRota$Loan;)V"⟩
def RX4 : String := "BoatRota$Member"
def TX4 : u_T := fun k => match k with
  | 0 => ("BoatRota$Member", "skill", "I", false)
  | 1 => ("BoatRota$Member", "place", "I", false)
  | 2 => ("BoatRota$Member", "weariness", "I", false)
  | 3 => ("BoatRota$Member", "hoursOut", "I", false)
  | 4 => ("BoatRota$Member", "callOuts", "I", false)
  | _ => ("BoatRota$Member", "callOutsAsCoxswain", "I", false)
def tyX4 : Nat → FieldType := fun k => match k with
  | 0 => .int
  | 1 => .int
  | 2 => .int
  | 3 => .int
  | 4 => .int
  | _ => .int
theorem nmX4 : ∀ a, a < 6 → ∀ b, b < 6 → a ≠ b → (TX4 a).2.1 ≠ (TX4 b).2.1 := by decide +kernel
theorem tyX4_ok : ∀ k, k < 6 → parseFieldDescriptor (TX4 k).2.2.1 = some (tyX4 k) := by decide +kernel
abbrev cX4_init : ByteArray := prog_6_method_1_code
def yX4_init : MethodName := ⟨RX4, "<init>", "()V"⟩
abbrev cX4_start : ByteArray := prog_6_method_2_code
def yX4_start : MethodName := ⟨RX4, "start", "(I)V"⟩
abbrev cX4_isOut : ByteArray := prog_6_method_3_code
def yX4_isOut : MethodName := ⟨RX4, "isOut", "()Z"⟩
abbrev cX4_isAble : ByteArray := prog_6_method_4_code
def yX4_isAble : MethodName := ⟨RX4, "isAble", "(I)Z"⟩
abbrev cX4_copyFrom : ByteArray := prog_6_method_5_code
def yX4_copyFrom : MethodName := ⟨RX4, "copyFrom", "(LBoatRota$Member;)V"⟩
def RX5 : String := "BoatRota$Refusal"
def TX5 : u_T := fun k => match k with
  | 0 => ("BoatRota$Refusal", "number", "I", false)
  | _ => ("BoatRota$Refusal", "detail", "I", false)
def tyX5 : Nat → FieldType := fun k => match k with
  | 0 => .int
  | _ => .int
theorem nmX5 : ∀ a, a < 2 → ∀ b, b < 2 → a ≠ b → (TX5 a).2.1 ≠ (TX5 b).2.1 := by decide +kernel
theorem tyX5_ok : ∀ k, k < 2 → parseFieldDescriptor (TX5 k).2.2.1 = some (tyX5 k) := by decide +kernel
abbrev cX5_init : ByteArray := prog_7_method_1_code
def yX5_init : MethodName := ⟨RX5, "<init>", "()V"⟩
abbrev cX5_isThere : ByteArray := prog_7_method_2_code
def yX5_isThere : MethodName := ⟨RX5, "isThere", "()Z"⟩
abbrev cX5_set : ByteArray := prog_7_method_3_code
def yX5_set : MethodName := ⟨RX5, "set", "(II)V"⟩
abbrev cX5_clear : ByteArray := prog_7_method_4_code
def yX5_clear : MethodName := ⟨RX5, "clear", "()V"⟩
abbrev cX5_copyFrom : ByteArray := prog_7_method_5_code
def yX5_copyFrom : MethodName := ⟨RX5, "copyFrom", "(LBoatRota$Refusal;)V"⟩
def RX6 : String := "BoatRota$Script"
def TX6 : u_T := fun k => match k with
  | 0 => ("BoatRota$Script", "signs", "[C", true)
  | 1 => ("BoatRota$Script", "length", "I", false)
  | 2 => ("BoatRota$Script", "deeds", "[LBoatRota$Deed;", true)
  | 3 => ("BoatRota$Script", "firsts", "[I", true)
  | 4 => ("BoatRota$Script", "seconds", "[I", true)
  | 5 => ("BoatRota$Script", "count", "I", false)
  | _ => ("BoatRota$Script", "at", "I", false)
def tyX6 : Nat → FieldType := fun k => match k with
  | 0 => .array .char
  | 1 => .int
  | 2 => .array (.object "BoatRota$Deed")
  | 3 => .array .int
  | 4 => .array .int
  | 5 => .int
  | _ => .int
theorem nmX6 : ∀ a, a < 7 → ∀ b, b < 7 → a ≠ b → (TX6 a).2.1 ≠ (TX6 b).2.1 := by decide +kernel
theorem tyX6_ok : ∀ k, k < 7 → parseFieldDescriptor (TX6 k).2.2.1 = some (tyX6 k) := by decide +kernel
abbrev cX6_init : ByteArray := prog_8_method_1_code
def yX6_init : MethodName := ⟨RX6, "<init>", "()V"⟩
abbrev cX6_add : ByteArray := prog_8_method_2_code
def yX6_add : MethodName := ⟨RX6, "add", "(C)V"⟩
abbrev cX6_read : ByteArray := prog_8_method_3_code
def yX6_read : MethodName := ⟨RX6, "read", "()I"⟩
abbrev cX6_readCommand : ByteArray := prog_8_method_4_code
def yX6_readCommand : MethodName := ⟨RX6, "readCommand", "(I)Z"⟩
abbrev cX6_readDeed : ByteArray := prog_8_method_5_code
def yX6_readDeed : MethodName := ⟨RX6, "readDeed", "()LBoatRota$Deed;"⟩
abbrev cX6_readNumber : ByteArray := prog_8_method_6_code
def yX6_readNumber : MethodName := ⟨RX6, "readNumber", "(I)I"⟩
abbrev cX6_isDigitNext : ByteArray := prog_8_method_7_code
def yX6_isDigitNext : MethodName := ⟨RX6, "isDigitNext", "()Z"⟩
def RX7 : String := "BoatRota$Station"
def TX7 : u_T := fun k => match k with
  | 0 => ("BoatRota$Station", "members", "[LBoatRota$Member;", true)
  | 1 => ("BoatRota$Station", "boats", "[LBoatRota$Boat;", true)
  | 2 => ("BoatRota$Station", "loans", "[LBoatRota$Loan;", true)
  | 3 => ("BoatRota$Station", "memberCount", "I", false)
  | 4 => ("BoatRota$Station", "boatCount", "I", false)
  | 5 => ("BoatRota$Station", "loanCount", "I", false)
  | 6 => ("BoatRota$Station", "hour", "I", false)
  | 7 => ("BoatRota$Station", "limit", "I", false)
  | 8 => ("BoatRota$Station", "callOuts", "I", false)
  | 9 => ("BoatRota$Station", "boatsCameIn", "I", false)
  | _ => ("BoatRota$Station", "hoursLate", "I", false)
def tyX7 : Nat → FieldType := fun k => match k with
  | 0 => .array (.object "BoatRota$Member")
  | 1 => .array (.object "BoatRota$Boat")
  | 2 => .array (.object "BoatRota$Loan")
  | 3 => .int
  | 4 => .int
  | 5 => .int
  | 6 => .int
  | 7 => .int
  | 8 => .int
  | 9 => .int
  | _ => .int
theorem nmX7 : ∀ a, a < 11 → ∀ b, b < 11 → a ≠ b → (TX7 a).2.1 ≠ (TX7 b).2.1 := by decide +kernel
theorem tyX7_ok : ∀ k, k < 11 → parseFieldDescriptor (TX7 k).2.2.1 = some (tyX7 k) := by decide +kernel
abbrev cX7_init : ByteArray := prog_9_method_1_code
def yX7_init : MethodName := ⟨RX7, "<init>", "()V"⟩
abbrev cX7_copyFrom : ByteArray := prog_9_method_2_code
def yX7_copyFrom : MethodName := ⟨RX7, "copyFrom", "(LBoatRota$Station;)V"⟩
abbrev cX7_hasMember : ByteArray := prog_9_method_3_code
def yX7_hasMember : MethodName := ⟨RX7, "hasMember", "(I)Z"⟩
abbrev cX7_hasBoat : ByteArray := prog_9_method_4_code
def yX7_hasBoat : MethodName := ⟨RX7, "hasBoat", "(I)Z"⟩
abbrev cX7_hasLoan : ByteArray := prog_9_method_5_code
def yX7_hasLoan : MethodName := ⟨RX7, "hasLoan", "(I)Z"⟩
abbrev cX7_judgeMember : ByteArray := prog_9_method_6_code
def yX7_judgeMember : MethodName := ⟨RX7, "judgeMember", "(ILBoatRota$Refusal;)V"⟩
abbrev cX7_addMember : ByteArray := prog_9_method_7_code
def yX7_addMember : MethodName := ⟨RX7, "addMember", "(I)I"⟩
abbrev cX7_judgeLeave : ByteArray := prog_9_method_8_code
def yX7_judgeLeave : MethodName := ⟨RX7, "judgeLeave", "(ILBoatRota$Refusal;)V"⟩
abbrev cX7_letGo : ByteArray := prog_9_method_9_code
def yX7_letGo : MethodName := ⟨RX7, "letGo", "(I)I"⟩
abbrev cX7_judgeTrain : ByteArray := prog_9_method_10_code
def yX7_judgeTrain : MethodName := ⟨RX7, "judgeTrain", "(ILBoatRota$Refusal;)V"⟩
abbrev cX7_raiseSkill : ByteArray := prog_9_method_11_code
def yX7_raiseSkill : MethodName := ⟨RX7, "raiseSkill", "(I)I"⟩
abbrev cX7_judgeBoat : ByteArray := prog_9_method_12_code
def yX7_judgeBoat : MethodName := ⟨RX7, "judgeBoat", "(IILBoatRota$Refusal;)V"⟩
abbrev cX7_addBoat : ByteArray := prog_9_method_13_code
def yX7_addBoat : MethodName := ⟨RX7, "addBoat", "(II)I"⟩
abbrev cX7_judgeCall : ByteArray := prog_9_method_14_code
def yX7_judgeCall : MethodName := ⟨RX7, "judgeCall", "(IILBoatRota$Refusal;)V"⟩
abbrev cX7_judgeCrew : ByteArray := prog_9_method_15_code
def yX7_judgeCrew : MethodName := ⟨RX7, "judgeCrew", "(ILBoatRota$Refusal;)V"⟩
abbrev cX7_sendOut : ByteArray := prog_9_method_16_code
def yX7_sendOut : MethodName := ⟨RX7, "sendOut", "(II)I"⟩
abbrev cX7_judgeBorrow : ByteArray := prog_9_method_17_code
def yX7_judgeBorrow : MethodName := ⟨RX7, "judgeBorrow", "(IILBoatRota$Refusal;)V"⟩
abbrev cX7_addLoan : ByteArray := prog_9_method_18_code
def yX7_addLoan : MethodName := ⟨RX7, "addLoan", "(II)I"⟩
abbrev cX7_judgeGiveBack : ByteArray := prog_9_method_19_code
def yX7_judgeGiveBack : MethodName := ⟨RX7, "judgeGiveBack", "(ILBoatRota$Refusal;)V"⟩
abbrev cX7_endLoan : ByteArray := prog_9_method_20_code
def yX7_endLoan : MethodName := ⟨RX7, "endLoan", "(I)I"⟩
abbrev cX7_removeLoan : ByteArray := prog_9_method_21_code
def yX7_removeLoan : MethodName := ⟨RX7, "removeLoan", "(I)V"⟩
abbrev cX7_judgeLimit : ByteArray := prog_9_method_22_code
def yX7_judgeLimit : MethodName := ⟨RX7, "judgeLimit", "(ILBoatRota$Refusal;)V"⟩
abbrev cX7_setLimit : ByteArray := prog_9_method_23_code
def yX7_setLimit : MethodName := ⟨RX7, "setLimit", "(I)I"⟩
abbrev cX7_judgePass : ByteArray := prog_9_method_24_code
def yX7_judgePass : MethodName := ⟨RX7, "judgePass", "(ILBoatRota$Refusal;)V"⟩
abbrev cX7_passHours : ByteArray := prog_9_method_25_code
def yX7_passHours : MethodName := ⟨RX7, "passHours", "(I)I"⟩
abbrev cX7_tireMembers : ByteArray := prog_9_method_26_code
def yX7_tireMembers : MethodName := ⟨RX7, "tireMembers", "()V"⟩
abbrev cX7_sailBoats : ByteArray := prog_9_method_27_code
def yX7_sailBoats : MethodName := ⟨RX7, "sailBoats", "()V"⟩
abbrev cX7_sailBoat : ByteArray := prog_9_method_28_code
def yX7_sailBoat : MethodName := ⟨RX7, "sailBoat", "(I)V"⟩
abbrev cX7_bringIn : ByteArray := prog_9_method_29_code
def yX7_bringIn : MethodName := ⟨RX7, "bringIn", "(I)V"⟩
abbrev cX7_ageLoans : ByteArray := prog_9_method_30_code
def yX7_ageLoans : MethodName := ⟨RX7, "ageLoans", "()V"⟩
abbrev cX7_allOars : ByteArray := prog_9_method_31_code
def yX7_allOars : MethodName := ⟨RX7, "allOars", "()I"⟩
abbrev cX7_oarsOut : ByteArray := prog_9_method_32_code
def yX7_oarsOut : MethodName := ⟨RX7, "oarsOut", "()I"⟩
abbrev cX7_freeOars : ByteArray := prog_9_method_33_code
def yX7_freeOars : MethodName := ⟨RX7, "freeOars", "()I"⟩
abbrev cX7_boatsOut : ByteArray := prog_9_method_34_code
def yX7_boatsOut : MethodName := ⟨RX7, "boatsOut", "()I"⟩
abbrev cX7_everyone : ByteArray := prog_9_method_35_code
def yX7_everyone : MethodName := ⟨RX7, "everyone", "()I"⟩
abbrev cX7_staying : ByteArray := prog_9_method_36_code
def yX7_staying : MethodName := ⟨RX7, "staying", "()I"⟩
abbrev cX7_membersAt : ByteArray := prog_9_method_37_code
def yX7_membersAt : MethodName := ⟨RX7, "membersAt", "(I)I"⟩
abbrev cX7_ableMembers : ByteArray := prog_9_method_38_code
def yX7_ableMembers : MethodName := ⟨RX7, "ableMembers", "()I"⟩
abbrev cX7_skilledMembers : ByteArray := prog_9_method_39_code
def yX7_skilledMembers : MethodName := ⟨RX7, "skilledMembers", "(I)I"⟩
abbrev cX7_wearinessOf : ByteArray := prog_9_method_40_code
def yX7_wearinessOf : MethodName := ⟨RX7, "wearinessOf", "(I)I"⟩
abbrev cX7_chosenCoxswain : ByteArray := prog_9_method_41_code
def yX7_chosenCoxswain : MethodName := ⟨RX7, "chosenCoxswain", "()I"⟩
abbrev cX7_chosenCrew : ByteArray := prog_9_method_42_code
def yX7_chosenCrew : MethodName := ⟨RX7, "chosenCrew", "(I)I"⟩
abbrev cX7_filledUp : ByteArray := prog_9_method_43_code
def yX7_filledUp : MethodName := ⟨RX7, "filledUp", "(III)I"⟩
abbrev cX7_leastWearyOf : ByteArray := prog_9_method_44_code
def yX7_leastWearyOf : MethodName := ⟨RX7, "leastWearyOf", "(I)I"⟩
abbrev cX7_leastWearinessOfAll : ByteArray := prog_9_method_45_code
def yX7_leastWearinessOfAll : MethodName := ⟨RX7, "leastWearinessOfAll", "(I)I"⟩
abbrev cX7_memberInPlace : ByteArray := prog_9_method_46_code
def yX7_memberInPlace : MethodName := ⟨RX7, "memberInPlace", "(IIZ)I"⟩
abbrev cX7_countBefore : ByteArray := prog_9_method_47_code
def yX7_countBefore : MethodName := ⟨RX7, "countBefore", "(IIZ)I"⟩
abbrev cX7_isFresher : ByteArray := prog_9_method_48_code
def yX7_isFresher : MethodName := ⟨RX7, "isFresher", "(II)Z"⟩
abbrev cX7_isBusier : ByteArray := prog_9_method_49_code
def yX7_isBusier : MethodName := ⟨RX7, "isBusier", "(II)Z"⟩
def RX8 : String := "BoatRota"
def TX8 : u_T := fun k => match k with
  | 0 => ("BoatRota", "station", "LBoatRota$Station;", true)
  | 1 => ("BoatRota", "spare", "LBoatRota$Station;", true)
  | 2 => ("BoatRota", "snapshot", "LBoatRota$Station;", true)
  | 3 => ("BoatRota", "isSaved", "Z", false)
  | 4 => ("BoatRota", "past", "[LBoatRota$Station;", true)
  | 5 => ("BoatRota", "pastCount", "I", false)
  | 6 => ("BoatRota", "kept", "LBoatRota$Refusal;", true)
  | 7 => ("BoatRota", "keptCause", "LBoatRota$Refusal;", true)
  | 8 => ("BoatRota", "found", "LBoatRota$Refusal;", true)
  | 9 => ("BoatRota", "script", "LBoatRota$Script;", true)
  | 10 => ("BoatRota", "latestFault", "I", false)
  | _ => ("BoatRota", "written", "Ljava/lang/StringBuilder;", true)
def tyX8 : Nat → FieldType := fun k => match k with
  | 0 => .object "BoatRota$Station"
  | 1 => .object "BoatRota$Station"
  | 2 => .object "BoatRota$Station"
  | 3 => .boolean
  | 4 => .array (.object "BoatRota$Station")
  | 5 => .int
  | 6 => .object "BoatRota$Refusal"
  | 7 => .object "BoatRota$Refusal"
  | 8 => .object "BoatRota$Refusal"
  | 9 => .object "BoatRota$Script"
  | 10 => .int
  | _ => .object "java/lang/StringBuilder"
theorem nmX8 : ∀ a, a < 12 → ∀ b, b < 12 → a ≠ b → (TX8 a).2.1 ≠ (TX8 b).2.1 := by decide +kernel
theorem tyX8_ok : ∀ k, k < 12 → parseFieldDescriptor (TX8 k).2.2.1 = some (tyX8 k) := by decide +kernel
abbrev cX8_init : ByteArray := prog_1_method_1_code
def yX8_init : MethodName := ⟨RX8, "<init>", "()V"⟩
abbrev cX8_member : ByteArray := prog_1_method_2_code
def yX8_member : MethodName := ⟨RX8, "member", "(I)I"⟩
abbrev cX8_leave : ByteArray := prog_1_method_3_code
def yX8_leave : MethodName := ⟨RX8, "leave", "(I)I"⟩
abbrev cX8_train : ByteArray := prog_1_method_4_code
def yX8_train : MethodName := ⟨RX8, "train", "(I)I"⟩
abbrev cX8_boat : ByteArray := prog_1_method_5_code
def yX8_boat : MethodName := ⟨RX8, "boat", "(II)I"⟩
abbrev cX8_call : ByteArray := prog_1_method_6_code
def yX8_call : MethodName := ⟨RX8, "call", "(II)I"⟩
abbrev cX8_borrow : ByteArray := prog_1_method_7_code
def yX8_borrow : MethodName := ⟨RX8, "borrow", "(II)I"⟩
abbrev cX8_giveBack : ByteArray := prog_1_method_8_code
def yX8_giveBack : MethodName := ⟨RX8, "giveBack", "(I)I"⟩
abbrev cX8_limit : ByteArray := prog_1_method_9_code
def yX8_limit : MethodName := ⟨RX8, "limit", "(I)I"⟩
abbrev cX8_pass : ByteArray := prog_1_method_10_code
def yX8_pass : MethodName := ⟨RX8, "pass", "(I)I"⟩
abbrev cX8_memberOf : ByteArray := prog_1_method_12_code
def yX8_memberOf : MethodName := ⟨RX8, "memberOf", "(II)I"⟩
abbrev cX8_boatOf : ByteArray := prog_1_method_13_code
def yX8_boatOf : MethodName := ⟨RX8, "boatOf", "(II)I"⟩
abbrev cX8_crew : ByteArray := prog_1_method_14_code
def yX8_crew : MethodName := ⟨RX8, "crew", "(I)I"⟩
abbrev cX8_able : ByteArray := prog_1_method_15_code
def yX8_able : MethodName := ⟨RX8, "able", "()I"⟩
abbrev cX8_wouldGo : ByteArray := prog_1_method_16_code
def yX8_wouldGo : MethodName := ⟨RX8, "wouldGo", "(I)I"⟩
abbrev cX8_weariness : ByteArray := prog_1_method_17_code
def yX8_weariness : MethodName := ⟨RX8, "weariness", "(I)I"⟩
abbrev cX8_wearinessAgain : ByteArray := prog_1_method_18_code
def yX8_wearinessAgain : MethodName := ⟨RX8, "wearinessAgain", "(I)I"⟩
abbrev cX8_wouldRefuse : ByteArray := prog_1_method_19_code
def yX8_wouldRefuse : MethodName := ⟨RX8, "wouldRefuse", "(I)I"⟩
abbrev cX8_callableIn : ByteArray := prog_1_method_20_code
def yX8_callableIn : MethodName := ⟨RX8, "callableIn", "(I)I"⟩
abbrev cX8_homeIn : ByteArray := prog_1_method_21_code
def yX8_homeIn : MethodName := ⟨RX8, "homeIn", "(I)I"⟩
abbrev cX8_homeInAgain : ByteArray := prog_1_method_22_code
def yX8_homeInAgain : MethodName := ⟨RX8, "homeInAgain", "(I)I"⟩
abbrev cX8_loanOf : ByteArray := prog_1_method_23_code
def yX8_loanOf : MethodName := ⟨RX8, "loanOf", "(II)I"⟩
abbrev cX8_free : ByteArray := prog_1_method_24_code
def yX8_free : MethodName := ⟨RX8, "free", "()I"⟩
abbrev cX8_least : ByteArray := prog_1_method_25_code
def yX8_least : MethodName := ⟨RX8, "least", "(I)I"⟩
abbrev cX8_busiest : ByteArray := prog_1_method_26_code
def yX8_busiest : MethodName := ⟨RX8, "busiest", "(I)I"⟩
abbrev cX8_append : ByteArray := prog_1_method_27_code
def yX8_append : MethodName := ⟨RX8, "append", "(C)I"⟩
abbrev cX8_commands : ByteArray := prog_1_method_28_code
def yX8_commands : MethodName := ⟨RX8, "commands", "()I"⟩
abbrev cX8_account : ByteArray := prog_1_method_35_code
def yX8_account : MethodName := ⟨RX8, "account", "(I)I"⟩
abbrev cX8_undo : ByteArray := prog_1_method_36_code
def yX8_undo : MethodName := ⟨RX8, "undo", "()I"⟩
abbrev cX8_save : ByteArray := prog_1_method_37_code
def yX8_save : MethodName := ⟨RX8, "save", "()I"⟩
abbrev cX8_restore : ByteArray := prog_1_method_38_code
def yX8_restore : MethodName := ⟨RX8, "restore", "()I"⟩
abbrev cX8_change : ByteArray := prog_1_method_39_code
def yX8_change : MethodName := ⟨RX8, "change", "(LBoatRota$Deed;II)I"⟩
abbrev cX8_judge : ByteArray := prog_1_method_40_code
def yX8_judge : MethodName := ⟨RX8, "judge", "(LBoatRota$Deed;II)V"⟩
abbrev cX8_carryOut : ByteArray := prog_1_method_41_code
def yX8_carryOut : MethodName := ⟨RX8, "carryOut", "(LBoatRota$Deed;II)I"⟩
abbrev cX8_carryOutAll : ByteArray := prog_1_method_42_code
def yX8_carryOutAll : MethodName := ⟨RX8, "carryOutAll", "()I"⟩
abbrev cX8_remember : ByteArray := prog_1_method_43_code
def yX8_remember : MethodName := ⟨RX8, "remember", "(LBoatRota$Station;)V"⟩
abbrev cX8_forgetOldest : ByteArray := prog_1_method_44_code
def yX8_forgetOldest : MethodName := ⟨RX8, "forgetOldest", "()V"⟩
abbrev cX8_requireBoat : ByteArray := prog_1_method_46_code
def yX8_requireBoat : MethodName := ⟨RX8, "requireBoat", "(I)V"⟩
abbrev cX8_requireCrew : ByteArray := prog_1_method_47_code
def yX8_requireCrew : MethodName := ⟨RX8, "requireCrew", "(I)V"⟩
abbrev cX8_requireOut : ByteArray := prog_1_method_48_code
def yX8_requireOut : MethodName := ⟨RX8, "requireOut", "(I)V"⟩
abbrev cX8_heightAt : ByteArray := prog_1_method_49_code
def yX8_heightAt : MethodName := ⟨RX8, "heightAt", "(I)I"⟩
abbrev cX8_isIn : ByteArray := prog_1_method_50_code
def yX8_isIn : MethodName := ⟨RX8, "isIn", "(II)Z"⟩
def RX9 : String := "BoatRotaModel"
def TX9 : u_T := fun k => match k with
  | _ => ("", "", "", false)
def tyX9 : Nat → FieldType := fun k => match k with
  | _ => .int
theorem nmX9 : ∀ a, a < 0 → ∀ b, b < 0 → a ≠ b → (TX9 a).2.1 ≠ (TX9 b).2.1 := by decide +kernel
theorem tyX9_ok : ∀ k, k < 0 → parseFieldDescriptor (TX9 k).2.2.1 = some (tyX9 k) := by decide +kernel
def RJ5 : String := "java/lang/AbstractStringBuilder"
def TJ5 : u_T := fun k => match k with
  | _ => ("", "", "", false)
def tyJ5 : Nat → FieldType := fun k => match k with
  | _ => .int
theorem nmJ5 : ∀ a, a < 0 → ∀ b, b < 0 → a ≠ b → (TJ5 a).2.1 ≠ (TJ5 b).2.1 := by decide +kernel
theorem tyJ5_ok : ∀ k, k < 0 → parseFieldDescriptor (TJ5 k).2.2.1 = some (tyJ5 k) := by decide +kernel
abbrev cJ5_init_d00df : ByteArray := prog_13_method_2_code
def yJ5_init_d00df : MethodName := ⟨RJ5, "<init>", "(I)V"⟩
abbrev cJ5_length_8abf5 : ByteArray := prog_13_method_6_code
def yJ5_length_8abf5 : MethodName := ⟨RJ5, "length", "()I"⟩
abbrev cJ5_ensureCapacityInternal_d00df : ByteArray := prog_13_method_9_code
def yJ5_ensureCapacityInternal_d00df : MethodName := ⟨RJ5, "ensureCapacityInternal", "(I)V"⟩
abbrev cJ5_newCapacity_0f7a4 : ByteArray := prog_13_method_10_code
def yJ5_newCapacity_0f7a4 : MethodName := ⟨RJ5, "newCapacity", "(I)I"⟩
abbrev cJ5_inflate_da8c8 : ByteArray := prog_13_method_11_code
def yJ5_inflate_da8c8 : MethodName := ⟨RJ5, "inflate", "()V"⟩
abbrev cJ5_append_cf1ce : ByteArray := prog_13_method_22_code
def yJ5_append_cf1ce : MethodName := ⟨RJ5, "append", "(Ljava/lang/String;)Ljava/lang/AbstractStringBuilder;"⟩
abbrev cJ5_appendNull_278bc : ByteArray := prog_13_method_26_code
def yJ5_appendNull_278bc : MethodName := ⟨RJ5, "appendNull", "()Ljava/lang/AbstractStringBuilder;"⟩
abbrev cJ5_append_c97b9 : ByteArray := prog_13_method_32_code
def yJ5_append_c97b9 : MethodName := ⟨RJ5, "append", "(I)Ljava/lang/AbstractStringBuilder;"⟩
abbrev cJ5_getValue_6d5f1 : ByteArray := prog_13_method_64_code
def yJ5_getValue_6d5f1 : MethodName := ⟨RJ5, "getValue", "()[B"⟩
abbrev cJ5_isLatin1_aae02 : ByteArray := prog_13_method_68_code
def yJ5_isLatin1_aae02 : MethodName := ⟨RJ5, "isLatin1", "()Z"⟩
abbrev cJ5_inflateIfNeededFor_a7421 : ByteArray := prog_13_method_71_code
def yJ5_inflateIfNeededFor_a7421 : MethodName := ⟨RJ5, "inflateIfNeededFor", "(Ljava/lang/String;)V"⟩
abbrev cJ5_putStringAt_47b60 : ByteArray := prog_13_method_73_code
def yJ5_putStringAt_47b60 : MethodName := ⟨RJ5, "putStringAt", "(ILjava/lang/String;)V"⟩
def RJx29ce0 : String := "java/lang/Enum"
def TJx29ce0 : u_T := fun k => match k with
  | _ => ("", "", "", false)
def tyJx29ce0 : Nat → FieldType := fun k => match k with
  | _ => .int
theorem nmJx29ce0 : ∀ a, a < 0 → ∀ b, b < 0 → a ≠ b → (TJx29ce0 a).2.1 ≠ (TJx29ce0 b).2.1 := by decide +kernel
theorem tyJx29ce0_ok : ∀ k, k < 0 → parseFieldDescriptor (TJx29ce0 k).2.2.1 = some (tyJx29ce0 k) := by decide +kernel
abbrev cJx29ce0_ordinal_8abf5 : ByteArray := prog_19_method_2_code
def yJx29ce0_ordinal_8abf5 : MethodName := ⟨RJx29ce0, "ordinal", "()I"⟩
def RJ6 : String := "java/lang/Integer"
def TJ6 : u_T := fun k => match k with
  | _ => ("", "", "", false)
def tyJ6 : Nat → FieldType := fun k => match k with
  | _ => .int
theorem nmJ6 : ∀ a, a < 0 → ∀ b, b < 0 → a ≠ b → (TJ6 a).2.1 ≠ (TJ6 b).2.1 := by decide +kernel
theorem tyJ6_ok : ∀ k, k < 0 → parseFieldDescriptor (TJ6 k).2.2.1 = some (tyJ6 k) := by decide +kernel
abbrev cJ6_getChars_ba4f3 : ByteArray := prog_24_method_12_code
def yJ6_getChars_ba4f3 : MethodName := ⟨RJ6, "getChars", "(II[B)I"⟩
abbrev cJ6_stringSize_0f7a4 : ByteArray := prog_24_method_13_code
def yJ6_stringSize_0f7a4 : MethodName := ⟨RJ6, "stringSize", "(I)I"⟩
abbrev cJ6_bitCount_0f7a4 : ByteArray := prog_24_method_49_code
def yJ6_bitCount_0f7a4 : MethodName := ⟨RJ6, "bitCount", "(I)I"⟩
def RJ9 : String := "java/lang/Math"
def TJ9 : u_T := fun k => match k with
  | _ => ("", "", "", false)
def tyJ9 : Nat → FieldType := fun k => match k with
  | _ => .int
theorem nmJ9 : ∀ a, a < 0 → ∀ b, b < 0 → a ≠ b → (TJ9 a).2.1 ≠ (TJ9 b).2.1 := by decide +kernel
theorem tyJ9_ok : ∀ k, k < 0 → parseFieldDescriptor (TJ9 k).2.2.1 = some (tyJ9 k) := by decide +kernel
abbrev cJ9_max_7cf53 : ByteArray := prog_25_method_65_code
def yJ9_max_7cf53 : MethodName := ⟨RJ9, "max", "(II)I"⟩
abbrev cJ9_min_7cf53 : ByteArray := prog_25_method_69_code
def yJ9_min_7cf53 : MethodName := ⟨RJ9, "min", "(II)I"⟩
def RJ0 : String := "java/lang/String"
def TJ0 : u_T := fun k => match k with
  | 0 => ("java/lang/String", "value", "[B", true)
  | 1 => ("java/lang/String", "coder", "B", true)
  | 2 => ("java/lang/String", "hash", "I", false)
  | _ => ("java/lang/String", "hashIsZero", "Z", false)
def tyJ0 : Nat → FieldType := fun k => match k with
  | 0 => .array .byte
  | 1 => .byte
  | 2 => .int
  | _ => .boolean
theorem nmJ0 : ∀ a, a < 4 → ∀ b, b < 4 → a ≠ b → (TJ0 a).2.1 ≠ (TJ0 b).2.1 := by decide +kernel
theorem tyJ0_ok : ∀ k, k < 4 → parseFieldDescriptor (TJ0 k).2.2.1 = some (tyJ0 k) := by decide +kernel
abbrev cJ0_init_81219 : ByteArray := prog_28_method_53_code
def yJ0_init_81219 : MethodName := ⟨RJ0, "<init>", "(Ljava/lang/StringBuilder;)V"⟩
abbrev cJ0_length_8abf5 : ByteArray := prog_28_method_54_code
def yJ0_length_8abf5 : MethodName := ⟨RJ0, "length", "()I"⟩
abbrev cJ0_charAt_5068e : ByteArray := prog_28_method_56_code
def yJ0_charAt_5068e : MethodName := ⟨RJ0, "charAt", "(I)C"⟩
abbrev cJ0_getBytes_840e7 : ByteArray := prog_28_method_147_code
def yJ0_getBytes_840e7 : MethodName := ⟨RJ0, "getBytes", "([BIB)V"⟩
abbrev cJ0_init_db425 : ByteArray := prog_28_method_150_code
def yJ0_init_db425 : MethodName := ⟨RJ0, "<init>", "(Ljava/lang/AbstractStringBuilder;Ljava/lang/Void;)V"⟩
abbrev cJ0_coder_7d493 : ByteArray := prog_28_method_152_code
def yJ0_coder_7d493 : MethodName := ⟨RJ0, "coder", "()B"⟩
abbrev cJ0_isLatin1_aae02 : ByteArray := prog_28_method_154_code
def yJ0_isLatin1_aae02 : MethodName := ⟨RJ0, "isLatin1", "()Z"⟩
abbrev cJ0_checkIndex_df160 : ByteArray := prog_28_method_155_code
def yJ0_checkIndex_df160 : MethodName := ⟨RJ0, "checkIndex", "(II)V"⟩
abbrev cJ0_checkBoundsOffCount_cabcc : ByteArray := prog_28_method_157_code
def yJ0_checkBoundsOffCount_cabcc : MethodName := ⟨RJ0, "checkBoundsOffCount", "(III)I"⟩
abbrev cJ0_checkBoundsBeginEnd_23922 : ByteArray := prog_28_method_158_code
def yJ0_checkBoundsBeginEnd_23922 : MethodName := ⟨RJ0, "checkBoundsBeginEnd", "(III)V"⟩
def RJ4 : String := "java/lang/StringBuilder"
def TJ4 : u_T := fun k => match k with
  | 0 => ("java/lang/AbstractStringBuilder", "value", "[B", false)
  | 1 => ("java/lang/AbstractStringBuilder", "coder", "B", false)
  | 2 => ("java/lang/AbstractStringBuilder", "maybeLatin1", "Z", false)
  | _ => ("java/lang/AbstractStringBuilder", "count", "I", false)
def tyJ4 : Nat → FieldType := fun k => match k with
  | 0 => .array .byte
  | 1 => .byte
  | 2 => .boolean
  | _ => .int
theorem nmJ4 : ∀ a, a < 4 → ∀ b, b < 4 → a ≠ b → (TJ4 a).2.1 ≠ (TJ4 b).2.1 := by decide +kernel
theorem tyJ4_ok : ∀ k, k < 4 → parseFieldDescriptor (TJ4 k).2.2.1 = some (tyJ4 k) := by decide +kernel
abbrev cJ4_init_da8c8 : ByteArray := prog_29_method_1_code
def yJ4_init_da8c8 : MethodName := ⟨RJ4, "<init>", "()V"⟩
abbrev cJ4_append_15ec4 : ByteArray := prog_29_method_7_code
def yJ4_append_15ec4 : MethodName := ⟨RJ4, "append", "(Ljava/lang/String;)Ljava/lang/StringBuilder;"⟩
abbrev cJ4_append_bf812 : ByteArray := prog_29_method_15_code
def yJ4_append_bf812 : MethodName := ⟨RJ4, "append", "(I)Ljava/lang/StringBuilder;"⟩
abbrev cJ4_toString_0e30d : ByteArray := prog_29_method_42_code
def yJ4_toString_0e30d : MethodName := ⟨RJ4, "toString", "()Ljava/lang/String;"⟩
abbrev cJ4_length_8abf5 : ByteArray := prog_29_method_93_code
def yJ4_length_8abf5 : MethodName := ⟨RJ4, "length", "()I"⟩
def RJ1 : String := "java/lang/StringLatin1"
def TJ1 : u_T := fun k => match k with
  | _ => ("", "", "", false)
def tyJ1 : Nat → FieldType := fun k => match k with
  | _ => .int
theorem nmJ1 : ∀ a, a < 0 → ∀ b, b < 0 → a ≠ b → (TJ1 a).2.1 ≠ (TJ1 b).2.1 := by decide +kernel
theorem tyJ1_ok : ∀ k, k < 0 → parseFieldDescriptor (TJ1 k).2.2.1 = some (tyJ1 k) := by decide +kernel
abbrev cJ1_charAt_3b067 : ByteArray := prog_30_method_2_code
def yJ1_charAt_3b067 : MethodName := ⟨RJ1, "charAt", "([BI)C"⟩
abbrev cJ1_inflate_0e8fd : ByteArray := prog_30_method_50_code
def yJ1_inflate_0e8fd : MethodName := ⟨RJ1, "inflate", "([BI[BII)V"⟩
def RJ7 : String := "java/util/Arrays"
def TJ7 : u_T := fun k => match k with
  | _ => ("", "", "", false)
def tyJ7 : Nat → FieldType := fun k => match k with
  | _ => .int
theorem nmJ7 : ∀ a, a < 0 → ∀ b, b < 0 → a ≠ b → (TJ7 a).2.1 ≠ (TJ7 b).2.1 := by decide +kernel
theorem tyJ7_ok : ∀ k, k < 0 → parseFieldDescriptor (TJ7 k).2.2.1 = some (tyJ7 k) := by decide +kernel
abbrev cJ7_copyOf_9075b : ByteArray := prog_37_method_121_code
def yJ7_copyOf_9075b : MethodName := ⟨RJ7, "copyOf", "([BI)[B"⟩
abbrev cJ7_checkLength_df160 : ByteArray := prog_37_method_131_code
def yJ7_checkLength_df160 : MethodName := ⟨RJ7, "checkLength", "(II)V"⟩
abbrev cJ7_copyOfRange_39247 : ByteArray := prog_37_method_132_code
def yJ7_copyOfRange_39247 : MethodName := ⟨RJ7, "copyOfRange", "([BII)[B"⟩
abbrev cJ7_copyOfRangeByte_39247 : ByteArray := prog_37_method_133_code
def yJ7_copyOfRangeByte_39247 : MethodName := ⟨RJ7, "copyOfRangeByte", "([BII)[B"⟩
def RJ3 : String := "jdk/internal/util/Preconditions"
def TJ3 : u_T := fun k => match k with
  | _ => ("", "", "", false)
def tyJ3 : Nat → FieldType := fun k => match k with
  | _ => .int
theorem nmJ3 : ∀ a, a < 0 → ∀ b, b < 0 → a ≠ b → (TJ3 a).2.1 ≠ (TJ3 b).2.1 := by decide +kernel
theorem tyJ3_ok : ∀ k, k < 0 → parseFieldDescriptor (TJ3 k).2.2.1 = some (tyJ3 k) := by decide +kernel
abbrev cJ3_checkIndex_8e157 : ByteArray := prog_40_method_11_code
def yJ3_checkIndex_8e157 : MethodName := ⟨RJ3, "checkIndex", "(IILjava/util/function/BiFunction;)I"⟩
abbrev cJ3_checkFromToIndex_8c36e : ByteArray := prog_40_method_12_code
def yJ3_checkFromToIndex_8c36e : MethodName := ⟨RJ3, "checkFromToIndex", "(IIILjava/util/function/BiFunction;)I"⟩
abbrev cJ3_checkFromIndexSize_8c36e : ByteArray := prog_40_method_13_code
def yJ3_checkFromIndexSize_8c36e : MethodName := ⟨RJ3, "checkFromIndexSize", "(IIILjava/util/function/BiFunction;)I"⟩
def RL : String := "BoatRotaLaw"
abbrev cL_cell : ByteArray := method_2_code
def yL_cell : MethodName := ⟨RL, "cell", "([II)I"⟩
abbrev cL_member : ByteArray := method_3_code
def yL_member : MethodName := ⟨RL, "member", "(LBoatRota;I)I"⟩
abbrev cL_leave : ByteArray := method_4_code
def yL_leave : MethodName := ⟨RL, "leave", "(LBoatRota;I)I"⟩
abbrev cL_train : ByteArray := method_5_code
def yL_train : MethodName := ⟨RL, "train", "(LBoatRota;I)I"⟩
abbrev cL_boat : ByteArray := method_6_code
def yL_boat : MethodName := ⟨RL, "boat", "(LBoatRota;II)I"⟩
abbrev cL_call : ByteArray := method_7_code
def yL_call : MethodName := ⟨RL, "call", "(LBoatRota;II)I"⟩
abbrev cL_borrow : ByteArray := method_8_code
def yL_borrow : MethodName := ⟨RL, "borrow", "(LBoatRota;II)I"⟩
abbrev cL_giveBack : ByteArray := method_9_code
def yL_giveBack : MethodName := ⟨RL, "giveBack", "(LBoatRota;I)I"⟩
abbrev cL_limit : ByteArray := method_10_code
def yL_limit : MethodName := ⟨RL, "limit", "(LBoatRota;I)I"⟩
abbrev cL_pass : ByteArray := method_11_code
def yL_pass : MethodName := ⟨RL, "pass", "(LBoatRota;I)I"⟩
abbrev cL_wouldGo : ByteArray := method_12_code
def yL_wouldGo : MethodName := ⟨RL, "wouldGo", "(LBoatRota;I)I"⟩
abbrev cL_weariness : ByteArray := method_13_code
def yL_weariness : MethodName := ⟨RL, "weariness", "(LBoatRota;I)I"⟩
abbrev cL_wearinessAgain : ByteArray := method_14_code
def yL_wearinessAgain : MethodName := ⟨RL, "wearinessAgain", "(LBoatRota;I)I"⟩
abbrev cL_callableIn : ByteArray := method_15_code
def yL_callableIn : MethodName := ⟨RL, "callableIn", "(LBoatRota;I)I"⟩
abbrev cL_homeIn : ByteArray := method_16_code
def yL_homeIn : MethodName := ⟨RL, "homeIn", "(LBoatRota;I)I"⟩
abbrev cL_homeInAgain : ByteArray := method_17_code
def yL_homeInAgain : MethodName := ⟨RL, "homeInAgain", "(LBoatRota;I)I"⟩
abbrev cL_least : ByteArray := method_18_code
def yL_least : MethodName := ⟨RL, "least", "(LBoatRota;I)I"⟩
abbrev cL_busiest : ByteArray := method_19_code
def yL_busiest : MethodName := ⟨RL, "busiest", "(LBoatRota;I)I"⟩
abbrev cL_commands : ByteArray := method_20_code
def yL_commands : MethodName := ⟨RL, "commands", "(LBoatRota;)I"⟩
abbrev cL_undo : ByteArray := method_21_code
def yL_undo : MethodName := ⟨RL, "undo", "(LBoatRota;)I"⟩
abbrev cL_restore : ByteArray := method_22_code
def yL_restore : MethodName := ⟨RL, "restore", "(LBoatRota;)I"⟩
abbrev cL_in : ByteArray := method_23_code
def yL_in : MethodName := ⟨RL, "in", "([III)I"⟩
abbrev cL_does : ByteArray := method_24_code
def yL_does : MethodName := ⟨RL, "does", "(LBoatRota;Ljava/lang/String;)I"⟩
abbrev cL_bits : ByteArray := method_25_code
def yL_bits : MethodName := ⟨RL, "bits", "(I)I"⟩
abbrev cL_begun : ByteArray := method_26_code
def yL_begun : MethodName := ⟨RL, "begun", "([I)LBoatRota;"⟩
abbrev cL_acts : ByteArray := method_27_code
def yL_acts : MethodName := ⟨RL, "acts", "(LBoatRota;[II)I"⟩
abbrev cL_seen : ByteArray := method_28_code
def yL_seen : MethodName := ⟨RL, "seen", "(LBoatRota;)[I"⟩
abbrev cL_areAlike : ByteArray := method_29_code
def yL_areAlike : MethodName := ⟨RL, "areAlike", "([I[I)Z"⟩
abbrev cL_isWell : ByteArray := method_30_code
def yL_isWell : MethodName := ⟨RL, "isWell", "(LBoatRota;)Z"⟩
abbrev cL_law : ByteArray := code
def yL_law : MethodName := ⟨RL, "law", "([I)Z"⟩
